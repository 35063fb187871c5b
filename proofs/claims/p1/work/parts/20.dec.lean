theorem dX1_visitBy_0 : decode cX1_visitBy 0 = .ok (.iload_n 3, 1) := by decide +kernel
theorem dX1_visitBy_1 : decode cX1_visitBy 1 = .ok (.ifCond .lt 11, 3) := by decide +kernel
theorem dX1_visitBy_4 : decode cX1_visitBy 4 = .ok (.iload_n 3, 1) := by decide +kernel
theorem dX1_visitBy_5 : decode cX1_visitBy 5 = .ok (.aload_n 1, 1) := by decide +kernel
theorem dX1_visitBy_6 : decode cX1_visitBy 6 = .ok (.getfield 15, 3) := by decide +kernel
theorem dX1_visitBy_9 : decode cX1_visitBy 9 = .ok (.if_icmp .lt 6, 3) := by decide +kernel
theorem dX1_visitBy_12 : decode cX1_visitBy 12 = .ok (.bipush (-11), 2) := by decide +kernel
theorem dX1_visitBy_14 : decode cX1_visitBy 14 = .ok (.ireturn, 1) := by decide +kernel
theorem dX1_visitBy_15 : decode cX1_visitBy 15 = .ok (.aload_n 2, 1) := by decide +kernel
theorem dX1_visitBy_16 : decode cX1_visitBy 16 = .ok (.invokevirtual 21, 3) := by decide +kernel
theorem dX1_visitBy_19 : decode cX1_visitBy 19 = .ok (.ifCond .eq 6, 3) := by decide +kernel
theorem dX1_visitBy_22 : decode cX1_visitBy 22 = .ok (.bipush (-12), 2) := by decide +kernel
theorem dX1_visitBy_24 : decode cX1_visitBy 24 = .ok (.ireturn, 1) := by decide +kernel
theorem dX1_visitBy_25 : decode cX1_visitBy 25 = .ok (.aload_n 0, 1) := by decide +kernel
theorem dX1_visitBy_26 : decode cX1_visitBy 26 = .ok (.getfield 9, 3) := by decide +kernel
theorem dX1_visitBy_29 : decode cX1_visitBy 29 = .ok (.aload_n 1, 1) := by decide +kernel
theorem dX1_visitBy_30 : decode cX1_visitBy 30 = .ok (.aload_n 2, 1) := by decide +kernel
theorem dX1_visitBy_31 : decode cX1_visitBy 31 = .ok (.invokevirtual 27, 3) := by decide +kernel
theorem dX1_visitBy_34 : decode cX1_visitBy 34 = .ok (.aload_n 0, 1) := by decide +kernel
theorem dX1_visitBy_35 : decode cX1_visitBy 35 = .ok (.getfield 9, 3) := by decide +kernel
theorem dX1_visitBy_38 : decode cX1_visitBy 38 = .ok (.iload_n 3, 1) := by decide +kernel
theorem dX1_visitBy_39 : decode cX1_visitBy 39 = .ok (.aload_n 2, 1) := by decide +kernel
theorem dX1_visitBy_40 : decode cX1_visitBy 40 = .ok (.getfield 33, 3) := by decide +kernel
theorem dX1_visitBy_43 : decode cX1_visitBy 43 = .ok (.aload_n 2, 1) := by decide +kernel
theorem dX1_visitBy_44 : decode cX1_visitBy 44 = .ok (.getfield 36, 3) := by decide +kernel
theorem dX1_visitBy_47 : decode cX1_visitBy 47 = .ok (.invokevirtual 39, 3) := by decide +kernel
theorem dX1_visitBy_50 : decode cX1_visitBy 50 = .ok (.istore 4, 2) := by decide +kernel
theorem dX1_visitBy_52 : decode cX1_visitBy 52 = .ok (.iload 4, 2) := by decide +kernel
theorem dX1_visitBy_54 : decode cX1_visitBy 54 = .ok (.ifCond .ge 6, 3) := by decide +kernel
theorem dX1_visitBy_57 : decode cX1_visitBy 57 = .ok (.bipush (-13), 2) := by decide +kernel
theorem dX1_visitBy_59 : decode cX1_visitBy 59 = .ok (.ireturn, 1) := by decide +kernel
theorem dX1_visitBy_60 : decode cX1_visitBy 60 = .ok (.aload_n 2, 1) := by decide +kernel
theorem dX1_visitBy_61 : decode cX1_visitBy 61 = .ok (.dup, 1) := by decide +kernel
theorem dX1_visitBy_62 : decode cX1_visitBy 62 = .ok (.getfield 33, 3) := by decide +kernel
theorem dX1_visitBy_65 : decode cX1_visitBy 65 = .ok (.iconst 1, 1) := by decide +kernel
theorem dX1_visitBy_66 : decode cX1_visitBy 66 = .ok (.iload 4, 2) := by decide +kernel
theorem dX1_visitBy_68 : decode cX1_visitBy 68 = .ok (.ishl, 1) := by decide +kernel
theorem dX1_visitBy_69 : decode cX1_visitBy 69 = .ok (.ior, 1) := by decide +kernel
theorem dX1_visitBy_70 : decode cX1_visitBy 70 = .ok (.putfield 33, 3) := by decide +kernel
theorem dX1_visitBy_73 : decode cX1_visitBy 73 = .ok (.aload_n 2, 1) := by decide +kernel
theorem dX1_visitBy_74 : decode cX1_visitBy 74 = .ok (.dup, 1) := by decide +kernel
theorem dX1_visitBy_75 : decode cX1_visitBy 75 = .ok (.getfield 43, 3) := by decide +kernel
theorem dX1_visitBy_78 : decode cX1_visitBy 78 = .ok (.aload_n 2, 1) := by decide +kernel
theorem dX1_visitBy_79 : decode cX1_visitBy 79 = .ok (.getfield 46, 3) := by decide +kernel
theorem dX1_visitBy_82 : decode cX1_visitBy 82 = .ok (.iload 4, 2) := by decide +kernel
theorem dX1_visitBy_84 : decode cX1_visitBy 84 = .ok (.iaload, 1) := by decide +kernel
theorem dX1_visitBy_85 : decode cX1_visitBy 85 = .ok (.iadd, 1) := by decide +kernel
theorem dX1_visitBy_86 : decode cX1_visitBy 86 = .ok (.putfield 43, 3) := by decide +kernel
theorem dX1_visitBy_89 : decode cX1_visitBy 89 = .ok (.iload 4, 2) := by decide +kernel
theorem dX1_visitBy_91 : decode cX1_visitBy 91 = .ok (.ireturn, 1) := by decide +kernel
theorem dX1_giveAway_0 : decode cX1_giveAway 0 = .ok (.aload_n 1, 1) := by decide +kernel
theorem dX1_giveAway_1 : decode cX1_giveAway 1 = .ok (.iload_n 2, 1) := by decide +kernel
theorem dX1_giveAway_2 : decode cX1_giveAway 2 = .ok (.invokevirtual 50, 3) := by decide +kernel
theorem dX1_giveAway_5 : decode cX1_giveAway 5 = .ok (.ifCond .ne 6, 3) := by decide +kernel
theorem dX1_giveAway_8 : decode cX1_giveAway 8 = .ok (.bipush (-11), 2) := by decide +kernel
theorem dX1_giveAway_10 : decode cX1_giveAway 10 = .ok (.ireturn, 1) := by decide +kernel
theorem dX1_giveAway_11 : decode cX1_giveAway 11 = .ok (.aload_n 1, 1) := by decide +kernel
theorem dX1_giveAway_12 : decode cX1_giveAway 12 = .ok (.invokevirtual 21, 3) := by decide +kernel
theorem dX1_giveAway_15 : decode cX1_giveAway 15 = .ok (.ifCond .eq 6, 3) := by decide +kernel
theorem dX1_giveAway_18 : decode cX1_giveAway 18 = .ok (.bipush (-12), 2) := by decide +kernel
theorem dX1_giveAway_20 : decode cX1_giveAway 20 = .ok (.ireturn, 1) := by decide +kernel
theorem dX1_giveAway_21 : decode cX1_giveAway 21 = .ok (.aload_n 1, 1) := by decide +kernel
theorem dX1_giveAway_22 : decode cX1_giveAway 22 = .ok (.dup, 1) := by decide +kernel
theorem dX1_giveAway_23 : decode cX1_giveAway 23 = .ok (.getfield 54, 3) := by decide +kernel
theorem dX1_giveAway_26 : decode cX1_giveAway 26 = .ok (.iconst 1, 1) := by decide +kernel
theorem dX1_giveAway_27 : decode cX1_giveAway 27 = .ok (.iadd, 1) := by decide +kernel
theorem dX1_giveAway_28 : decode cX1_giveAway 28 = .ok (.putfield 54, 3) := by decide +kernel
theorem dX1_giveAway_31 : decode cX1_giveAway 31 = .ok (.aload_n 1, 1) := by decide +kernel
theorem dX1_giveAway_32 : decode cX1_giveAway 32 = .ok (.getfield 54, 3) := by decide +kernel
theorem dX1_giveAway_35 : decode cX1_giveAway 35 = .ok (.ireturn, 1) := by decide +kernel
theorem dX1_turn_0 : decode cX1_turn 0 = .ok (.aload_n 1, 1) := by decide +kernel
theorem dX1_turn_1 : decode cX1_turn 1 = .ok (.iload_n 2, 1) := by decide +kernel
theorem dX1_turn_2 : decode cX1_turn 2 = .ok (.invokevirtual 50, 3) := by decide +kernel
theorem dX1_turn_5 : decode cX1_turn 5 = .ok (.ifCond .ne 6, 3) := by decide +kernel
theorem dX1_turn_8 : decode cX1_turn 8 = .ok (.bipush (-11), 2) := by decide +kernel
theorem dX1_turn_10 : decode cX1_turn 10 = .ok (.ireturn, 1) := by decide +kernel
theorem dX1_turn_11 : decode cX1_turn 11 = .ok (.aload_n 1, 1) := by decide +kernel
theorem dX1_turn_12 : decode cX1_turn 12 = .ok (.invokevirtual 21, 3) := by decide +kernel
theorem dX1_turn_15 : decode cX1_turn 15 = .ok (.ifCond .eq 6, 3) := by decide +kernel
theorem dX1_turn_18 : decode cX1_turn 18 = .ok (.bipush (-12), 2) := by decide +kernel
theorem dX1_turn_20 : decode cX1_turn 20 = .ok (.ireturn, 1) := by decide +kernel
theorem dX1_turn_21 : decode cX1_turn 21 = .ok (.aload_n 1, 1) := by decide +kernel
theorem dX1_turn_22 : decode cX1_turn 22 = .ok (.dup, 1) := by decide +kernel
theorem dX1_turn_23 : decode cX1_turn 23 = .ok (.getfield 36, 3) := by decide +kernel
theorem dX1_turn_26 : decode cX1_turn 26 = .ok (.iconst 1, 1) := by decide +kernel
theorem dX1_turn_27 : decode cX1_turn 27 = .ok (.iload_n 2, 1) := by decide +kernel
theorem dX1_turn_28 : decode cX1_turn 28 = .ok (.ishl, 1) := by decide +kernel
theorem dX1_turn_29 : decode cX1_turn 29 = .ok (.ixor, 1) := by decide +kernel
theorem dX1_turn_30 : decode cX1_turn 30 = .ok (.putfield 36, 3) := by decide +kernel
theorem dX1_turn_33 : decode cX1_turn 33 = .ok (.aload_n 1, 1) := by decide +kernel
theorem dX1_turn_34 : decode cX1_turn 34 = .ok (.getfield 36, 3) := by decide +kernel
theorem dX1_turn_37 : decode cX1_turn 37 = .ok (.iload_n 2, 1) := by decide +kernel
theorem dX1_turn_38 : decode cX1_turn 38 = .ok (.ishr, 1) := by decide +kernel
theorem dX1_turn_39 : decode cX1_turn 39 = .ok (.iconst 1, 1) := by decide +kernel
theorem dX1_turn_40 : decode cX1_turn 40 = .ok (.iand, 1) := by decide +kernel
theorem dX1_turn_41 : decode cX1_turn 41 = .ok (.ireturn, 1) := by decide +kernel
theorem dX1_bringIn_0 : decode cX1_bringIn 0 = .ok (.iload_n 2, 1) := by decide +kernel
theorem dX1_bringIn_1 : decode cX1_bringIn 1 = .ok (.iconst 1, 1) := by decide +kernel
theorem dX1_bringIn_2 : decode cX1_bringIn 2 = .ok (.if_icmp .lt 19, 3) := by decide +kernel
theorem dX1_bringIn_5 : decode cX1_bringIn 5 = .ok (.iload_n 2, 1) := by decide +kernel
theorem dX1_bringIn_6 : decode cX1_bringIn 6 = .ok (.bipush 99, 2) := by decide +kernel
theorem dX1_bringIn_8 : decode cX1_bringIn 8 = .ok (.if_icmp .gt 13, 3) := by decide +kernel
theorem dX1_bringIn_11 : decode cX1_bringIn 11 = .ok (.iload_n 3, 1) := by decide +kernel
theorem dX1_bringIn_12 : decode cX1_bringIn 12 = .ok (.ifCond .lt 9, 3) := by decide +kernel
theorem dX1_bringIn_15 : decode cX1_bringIn 15 = .ok (.iload_n 3, 1) := by decide +kernel
theorem dX1_bringIn_16 : decode cX1_bringIn 16 = .ok (.bipush 9, 2) := by decide +kernel
theorem dX1_bringIn_18 : decode cX1_bringIn 18 = .ok (.if_icmp .le 6, 3) := by decide +kernel
theorem dX1_bringIn_21 : decode cX1_bringIn 21 = .ok (.bipush (-11), 2) := by decide +kernel
theorem dX1_bringIn_23 : decode cX1_bringIn 23 = .ok (.ireturn, 1) := by decide +kernel
theorem dX1_bringIn_24 : decode cX1_bringIn 24 = .ok (.aload_n 1, 1) := by decide +kernel
theorem dX1_bringIn_25 : decode cX1_bringIn 25 = .ok (.invokevirtual 21, 3) := by decide +kernel
theorem dX1_bringIn_28 : decode cX1_bringIn 28 = .ok (.ifCond .eq 6, 3) := by decide +kernel
theorem dX1_bringIn_31 : decode cX1_bringIn 31 = .ok (.bipush (-12), 2) := by decide +kernel
theorem dX1_bringIn_33 : decode cX1_bringIn 33 = .ok (.ireturn, 1) := by decide +kernel
theorem dX1_bringIn_34 : decode cX1_bringIn 34 = .ok (.aload_n 1, 1) := by decide +kernel
theorem dX1_bringIn_35 : decode cX1_bringIn 35 = .ok (.getfield 57, 3) := by decide +kernel
theorem dX1_bringIn_38 : decode cX1_bringIn 38 = .ok (.bipush 8, 2) := by decide +kernel
theorem dX1_bringIn_40 : decode cX1_bringIn 40 = .ok (.if_icmp .lt 6, 3) := by decide +kernel
theorem dX1_bringIn_43 : decode cX1_bringIn 43 = .ok (.bipush (-13), 2) := by decide +kernel
theorem dX1_bringIn_45 : decode cX1_bringIn 45 = .ok (.ireturn, 1) := by decide +kernel
theorem dX1_bringIn_46 : decode cX1_bringIn 46 = .ok (.aload_n 1, 1) := by decide +kernel
theorem dX1_bringIn_47 : decode cX1_bringIn 47 = .ok (.getfield 46, 3) := by decide +kernel
theorem dX1_bringIn_50 : decode cX1_bringIn 50 = .ok (.aload_n 1, 1) := by decide +kernel
theorem dX1_bringIn_51 : decode cX1_bringIn 51 = .ok (.getfield 57, 3) := by decide +kernel
theorem dX1_bringIn_54 : decode cX1_bringIn 54 = .ok (.iload_n 2, 1) := by decide +kernel
theorem dX1_bringIn_55 : decode cX1_bringIn 55 = .ok (.iastore, 1) := by decide +kernel
theorem dX1_bringIn_56 : decode cX1_bringIn 56 = .ok (.aload_n 1, 1) := by decide +kernel
theorem dX1_bringIn_57 : decode cX1_bringIn 57 = .ok (.getfield 60, 3) := by decide +kernel
theorem dX1_bringIn_60 : decode cX1_bringIn 60 = .ok (.aload_n 1, 1) := by decide +kernel
theorem dX1_bringIn_61 : decode cX1_bringIn 61 = .ok (.getfield 57, 3) := by decide +kernel
theorem dX1_bringIn_64 : decode cX1_bringIn 64 = .ok (.iload_n 3, 1) := by decide +kernel
theorem dX1_bringIn_65 : decode cX1_bringIn 65 = .ok (.iastore, 1) := by decide +kernel
theorem dX1_bringIn_66 : decode cX1_bringIn 66 = .ok (.aload_n 1, 1) := by decide +kernel
theorem dX1_bringIn_67 : decode cX1_bringIn 67 = .ok (.dup, 1) := by decide +kernel
theorem dX1_bringIn_68 : decode cX1_bringIn 68 = .ok (.getfield 57, 3) := by decide +kernel
theorem dX1_bringIn_71 : decode cX1_bringIn 71 = .ok (.iconst 1, 1) := by decide +kernel
theorem dX1_bringIn_72 : decode cX1_bringIn 72 = .ok (.iadd, 1) := by decide +kernel
theorem dX1_bringIn_73 : decode cX1_bringIn 73 = .ok (.putfield 57, 3) := by decide +kernel
theorem dX1_bringIn_76 : decode cX1_bringIn 76 = .ok (.aload_n 1, 1) := by decide +kernel
theorem dX1_bringIn_77 : decode cX1_bringIn 77 = .ok (.getfield 57, 3) := by decide +kernel
theorem dX1_bringIn_80 : decode cX1_bringIn 80 = .ok (.iconst 1, 1) := by decide +kernel
theorem dX1_bringIn_81 : decode cX1_bringIn 81 = .ok (.isub, 1) := by decide +kernel
theorem dX1_bringIn_82 : decode cX1_bringIn 82 = .ok (.ireturn, 1) := by decide +kernel
theorem dX1_reprice_0 : decode cX1_reprice 0 = .ok (.aload_n 1, 1) := by decide +kernel
theorem dX1_reprice_1 : decode cX1_reprice 1 = .ok (.iload_n 2, 1) := by decide +kernel
theorem dX1_reprice_2 : decode cX1_reprice 2 = .ok (.invokevirtual 50, 3) := by decide +kernel
theorem dX1_reprice_5 : decode cX1_reprice 5 = .ok (.ifCond .eq 14, 3) := by decide +kernel
theorem dX1_reprice_8 : decode cX1_reprice 8 = .ok (.iload_n 3, 1) := by decide +kernel
theorem dX1_reprice_9 : decode cX1_reprice 9 = .ok (.iconst 1, 1) := by decide +kernel
theorem dX1_reprice_10 : decode cX1_reprice 10 = .ok (.if_icmp .lt 9, 3) := by decide +kernel
theorem dX1_reprice_13 : decode cX1_reprice 13 = .ok (.iload_n 3, 1) := by decide +kernel
theorem dX1_reprice_14 : decode cX1_reprice 14 = .ok (.bipush 99, 2) := by decide +kernel
theorem dX1_reprice_16 : decode cX1_reprice 16 = .ok (.if_icmp .le 6, 3) := by decide +kernel
theorem dX1_reprice_19 : decode cX1_reprice 19 = .ok (.bipush (-11), 2) := by decide +kernel
theorem dX1_reprice_21 : decode cX1_reprice 21 = .ok (.ireturn, 1) := by decide +kernel
theorem dX1_reprice_22 : decode cX1_reprice 22 = .ok (.aload_n 1, 1) := by decide +kernel
theorem dX1_reprice_23 : decode cX1_reprice 23 = .ok (.invokevirtual 21, 3) := by decide +kernel
theorem dX1_reprice_26 : decode cX1_reprice 26 = .ok (.ifCond .eq 6, 3) := by decide +kernel
theorem dX1_reprice_29 : decode cX1_reprice 29 = .ok (.bipush (-12), 2) := by decide +kernel
theorem dX1_reprice_31 : decode cX1_reprice 31 = .ok (.ireturn, 1) := by decide +kernel
theorem dX1_reprice_32 : decode cX1_reprice 32 = .ok (.aload_n 1, 1) := by decide +kernel
theorem dX1_reprice_33 : decode cX1_reprice 33 = .ok (.getfield 46, 3) := by decide +kernel
theorem dX1_reprice_36 : decode cX1_reprice 36 = .ok (.iload_n 2, 1) := by decide +kernel
theorem dX1_reprice_37 : decode cX1_reprice 37 = .ok (.iaload, 1) := by decide +kernel
theorem dX1_reprice_38 : decode cX1_reprice 38 = .ok (.istore 4, 2) := by decide +kernel
theorem dX1_reprice_40 : decode cX1_reprice 40 = .ok (.aload_n 1, 1) := by decide +kernel
theorem dX1_reprice_41 : decode cX1_reprice 41 = .ok (.getfield 46, 3) := by decide +kernel
theorem dX1_reprice_44 : decode cX1_reprice 44 = .ok (.iload_n 2, 1) := by decide +kernel
theorem dX1_reprice_45 : decode cX1_reprice 45 = .ok (.iload_n 3, 1) := by decide +kernel
theorem dX1_reprice_46 : decode cX1_reprice 46 = .ok (.iastore, 1) := by decide +kernel
theorem dX1_reprice_47 : decode cX1_reprice 47 = .ok (.iload 4, 2) := by decide +kernel
theorem dX1_reprice_49 : decode cX1_reprice 49 = .ok (.ireturn, 1) := by decide +kernel
theorem dX1_passDay_0 : decode cX1_passDay 0 = .ok (.aload_n 2, 1) := by decide +kernel
theorem dX1_passDay_1 : decode cX1_passDay 1 = .ok (.dup, 1) := by decide +kernel
theorem dX1_passDay_2 : decode cX1_passDay 2 = .ok (.getfield 63, 3) := by decide +kernel
theorem dX1_passDay_5 : decode cX1_passDay 5 = .ok (.iconst 1, 1) := by decide +kernel
theorem dX1_passDay_6 : decode cX1_passDay 6 = .ok (.iadd, 1) := by decide +kernel
theorem dX1_passDay_7 : decode cX1_passDay 7 = .ok (.putfield 63, 3) := by decide +kernel
theorem dX1_passDay_10 : decode cX1_passDay 10 = .ok (.aload_n 1, 1) := by decide +kernel
theorem dX1_passDay_11 : decode cX1_passDay 11 = .ok (.invokevirtual 66, 3) := by decide +kernel
theorem dX1_passDay_14 : decode cX1_passDay 14 = .ok (.istore_n 3, 1) := by decide +kernel
theorem dX1_passDay_15 : decode cX1_passDay 15 = .ok (.iload_n 3, 1) := by decide +kernel
theorem dX1_passDay_16 : decode cX1_passDay 16 = .ok (.ifCond .le 16, 3) := by decide +kernel
theorem dX1_passDay_19 : decode cX1_passDay 19 = .ok (.aload_n 1, 1) := by decide +kernel
theorem dX1_passDay_20 : decode cX1_passDay 20 = .ok (.aload_n 2, 1) := by decide +kernel
theorem dX1_passDay_21 : decode cX1_passDay 21 = .ok (.invokevirtual 70, 3) := by decide +kernel
theorem dX1_passDay_24 : decode cX1_passDay 24 = .ok (.iload_n 3, 1) := by decide +kernel
theorem dX1_passDay_25 : decode cX1_passDay 25 = .ok (.irem, 1) := by decide +kernel
theorem dX1_passDay_26 : decode cX1_passDay 26 = .ok (.invokevirtual 73, 3) := by decide +kernel
theorem dX1_passDay_29 : decode cX1_passDay 29 = .ok (.goto 4, 3) := by decide +kernel
theorem dX1_passDay_32 : decode cX1_passDay 32 = .ok (.iconst (-1), 1) := by decide +kernel
theorem dX1_passDay_33 : decode cX1_passDay 33 = .ok (.ireturn, 1) := by decide +kernel
theorem dX1_carryOut_0 : decode cX1_carryOut 0 = .ok (.lload_n 3, 1) := by decide +kernel
theorem dX1_carryOut_1 : decode cX1_carryOut 1 = .ok (.ldc2_w 77, 3) := by decide +kernel
theorem dX1_carryOut_4 : decode cX1_carryOut 4 = .ok (.lcmp, 1) := by decide +kernel
theorem dX1_carryOut_5 : decode cX1_carryOut 5 = .ok (.ifCond .lt 11, 3) := by decide +kernel
theorem dX1_carryOut_8 : decode cX1_carryOut 8 = .ok (.lload_n 3, 1) := by decide +kernel
theorem dX1_carryOut_9 : decode cX1_carryOut 9 = .ok (.ldc2_w 79, 3) := by decide +kernel
theorem dX1_carryOut_12 : decode cX1_carryOut 12 = .ok (.lcmp, 1) := by decide +kernel
theorem dX1_carryOut_13 : decode cX1_carryOut 13 = .ok (.ifCond .le 6, 3) := by decide +kernel
theorem dX1_carryOut_16 : decode cX1_carryOut 16 = .ok (.bipush (-11), 2) := by decide +kernel
theorem dX1_carryOut_18 : decode cX1_carryOut 18 = .ok (.ireturn, 1) := by decide +kernel
theorem dX1_carryOut_19 : decode cX1_carryOut 19 = .ok (.lload_n 3, 1) := by decide +kernel
theorem dX1_carryOut_20 : decode cX1_carryOut 20 = .ok (.l2i, 1) := by decide +kernel
theorem dX1_carryOut_21 : decode cX1_carryOut 21 = .ok (.istore 5, 2) := by decide +kernel
theorem dX1_carryOut_23 : decode cX1_carryOut 23 = .ok (.iload 5, 2) := by decide +kernel
theorem dX1_carryOut_25 : decode cX1_carryOut 25 = .ok (.iconst (-1), 1) := by decide +kernel
theorem dX1_carryOut_26 : decode cX1_carryOut 26 = .ok (.if_icmp .ne 28, 3) := by decide +kernel
theorem dX1_carryOut_29 : decode cX1_carryOut 29 = .ok (.aload_n 0, 1) := by decide +kernel
theorem dX1_carryOut_30 : decode cX1_carryOut 30 = .ok (.aload_n 1, 1) := by decide +kernel
theorem dX1_carryOut_31 : decode cX1_carryOut 31 = .ok (.aload_n 2, 1) := by decide +kernel
theorem dX1_carryOut_32 : decode cX1_carryOut 32 = .ok (.invokevirtual 81, 3) := by decide +kernel
theorem dX1_carryOut_35 : decode cX1_carryOut 35 = .ok (.istore 6, 2) := by decide +kernel
theorem dX1_carryOut_37 : decode cX1_carryOut 37 = .ok (.aload_n 0, 1) := by decide +kernel
theorem dX1_carryOut_38 : decode cX1_carryOut 38 = .ok (.aload_n 1, 1) := by decide +kernel
theorem dX1_carryOut_39 : decode cX1_carryOut 39 = .ok (.aload_n 2, 1) := by decide +kernel
theorem dX1_carryOut_40 : decode cX1_carryOut 40 = .ok (.iload 6, 2) := by decide +kernel
theorem dX1_carryOut_42 : decode cX1_carryOut 42 = .ok (.invokevirtual 85, 3) := by decide +kernel
theorem dX1_carryOut_45 : decode cX1_carryOut 45 = .ok (.ifCond .lt 7, 3) := by decide +kernel
theorem dX1_carryOut_48 : decode cX1_carryOut 48 = .ok (.iconst 1, 1) := by decide +kernel
theorem dX1_carryOut_49 : decode cX1_carryOut 49 = .ok (.goto 4, 3) := by decide +kernel
theorem dX1_carryOut_52 : decode cX1_carryOut 52 = .ok (.iconst 0, 1) := by decide +kernel
theorem dX1_carryOut_53 : decode cX1_carryOut 53 = .ok (.ireturn, 1) := by decide +kernel
theorem dX1_carryOut_54 : decode cX1_carryOut 54 = .ok (.iload 5, 2) := by decide +kernel
theorem dX1_carryOut_56 : decode cX1_carryOut 56 = .ok (.bipush 9, 2) := by decide +kernel
theorem dX1_carryOut_58 : decode cX1_carryOut 58 = .ok (.if_icmp .gt 12, 3) := by decide +kernel
theorem dX1_carryOut_61 : decode cX1_carryOut 61 = .ok (.aload_n 0, 1) := by decide +kernel
theorem dX1_carryOut_62 : decode cX1_carryOut 62 = .ok (.aload_n 1, 1) := by decide +kernel
theorem dX1_carryOut_63 : decode cX1_carryOut 63 = .ok (.aload_n 2, 1) := by decide +kernel
theorem dX1_carryOut_64 : decode cX1_carryOut 64 = .ok (.iload 5, 2) := by decide +kernel
theorem dX1_carryOut_66 : decode cX1_carryOut 66 = .ok (.invokevirtual 85, 3) := by decide +kernel
theorem dX1_carryOut_69 : decode cX1_carryOut 69 = .ok (.ireturn, 1) := by decide +kernel
theorem dX1_carryOut_70 : decode cX1_carryOut 70 = .ok (.iload 5, 2) := by decide +kernel
theorem dX1_carryOut_72 : decode cX1_carryOut 72 = .ok (.bipush 100, 2) := by decide +kernel
theorem dX1_carryOut_74 : decode cX1_carryOut 74 = .ok (.if_icmp .lt 21, 3) := by decide +kernel
theorem dX1_carryOut_77 : decode cX1_carryOut 77 = .ok (.iload 5, 2) := by decide +kernel
theorem dX1_carryOut_79 : decode cX1_carryOut 79 = .ok (.bipush 109, 2) := by decide +kernel
theorem dX1_carryOut_81 : decode cX1_carryOut 81 = .ok (.if_icmp .gt 14, 3) := by decide +kernel
theorem dX1_carryOut_84 : decode cX1_carryOut 84 = .ok (.aload_n 0, 1) := by decide +kernel
theorem dX1_carryOut_85 : decode cX1_carryOut 85 = .ok (.aload_n 2, 1) := by decide +kernel
theorem dX1_carryOut_86 : decode cX1_carryOut 86 = .ok (.iload 5, 2) := by decide +kernel
theorem dX1_carryOut_88 : decode cX1_carryOut 88 = .ok (.bipush 100, 2) := by decide +kernel
theorem dX1_carryOut_90 : decode cX1_carryOut 90 = .ok (.isub, 1) := by decide +kernel
theorem dX1_carryOut_91 : decode cX1_carryOut 91 = .ok (.invokevirtual 89, 3) := by decide +kernel
theorem dX1_carryOut_94 : decode cX1_carryOut 94 = .ok (.ireturn, 1) := by decide +kernel
theorem dX1_carryOut_95 : decode cX1_carryOut 95 = .ok (.iload 5, 2) := by decide +kernel
theorem dX1_carryOut_97 : decode cX1_carryOut 97 = .ok (.sipush 200, 3) := by decide +kernel
theorem dX1_carryOut_100 : decode cX1_carryOut 100 = .ok (.if_icmp .lt 23, 3) := by decide +kernel
theorem dX1_carryOut_103 : decode cX1_carryOut 103 = .ok (.iload 5, 2) := by decide +kernel
theorem dX1_carryOut_105 : decode cX1_carryOut 105 = .ok (.sipush 209, 3) := by decide +kernel
theorem dX1_carryOut_108 : decode cX1_carryOut 108 = .ok (.if_icmp .gt 15, 3) := by decide +kernel
theorem dX1_carryOut_111 : decode cX1_carryOut 111 = .ok (.aload_n 0, 1) := by decide +kernel
theorem dX1_carryOut_112 : decode cX1_carryOut 112 = .ok (.aload_n 2, 1) := by decide +kernel
theorem dX1_carryOut_113 : decode cX1_carryOut 113 = .ok (.iload 5, 2) := by decide +kernel
theorem dX1_carryOut_115 : decode cX1_carryOut 115 = .ok (.sipush 200, 3) := by decide +kernel
theorem dX1_carryOut_118 : decode cX1_carryOut 118 = .ok (.isub, 1) := by decide +kernel
theorem dX1_carryOut_119 : decode cX1_carryOut 119 = .ok (.invokevirtual 93, 3) := by decide +kernel
theorem dX1_carryOut_122 : decode cX1_carryOut 122 = .ok (.ireturn, 1) := by decide +kernel
theorem dX1_carryOut_123 : decode cX1_carryOut 123 = .ok (.iload 5, 2) := by decide +kernel
theorem dX1_carryOut_125 : decode cX1_carryOut 125 = .ok (.sipush 1000, 3) := by decide +kernel
theorem dX1_carryOut_128 : decode cX1_carryOut 128 = .ok (.if_icmp .lt 23, 3) := by decide +kernel
theorem dX1_carryOut_131 : decode cX1_carryOut 131 = .ok (.aload_n 0, 1) := by decide +kernel
theorem dX1_carryOut_132 : decode cX1_carryOut 132 = .ok (.aload_n 2, 1) := by decide +kernel
theorem dX1_carryOut_133 : decode cX1_carryOut 133 = .ok (.iload 5, 2) := by decide +kernel
theorem dX1_carryOut_135 : decode cX1_carryOut 135 = .ok (.sipush 1000, 3) := by decide +kernel
theorem dX1_carryOut_138 : decode cX1_carryOut 138 = .ok (.isub, 1) := by decide +kernel
theorem dX1_carryOut_139 : decode cX1_carryOut 139 = .ok (.bipush 100, 2) := by decide +kernel
theorem dX1_carryOut_141 : decode cX1_carryOut 141 = .ok (.idiv, 1) := by decide +kernel
theorem dX1_carryOut_142 : decode cX1_carryOut 142 = .ok (.iload 5, 2) := by decide +kernel
theorem dX1_carryOut_144 : decode cX1_carryOut 144 = .ok (.bipush 100, 2) := by decide +kernel
theorem dX1_carryOut_146 : decode cX1_carryOut 146 = .ok (.irem, 1) := by decide +kernel
theorem dX1_carryOut_147 : decode cX1_carryOut 147 = .ok (.invokevirtual 96, 3) := by decide +kernel
theorem dX1_carryOut_150 : decode cX1_carryOut 150 = .ok (.ireturn, 1) := by decide +kernel
theorem dX1_carryOut_151 : decode cX1_carryOut 151 = .ok (.bipush (-11), 2) := by decide +kernel
theorem dX1_carryOut_153 : decode cX1_carryOut 153 = .ok (.ireturn, 1) := by decide +kernel
theorem dX1_drawDeed_0 : decode cX1_drawDeed 0 = .ok (.aload_n 1, 1) := by decide +kernel
theorem dX1_drawDeed_1 : decode cX1_drawDeed 1 = .ok (.invokevirtual 70, 3) := by decide +kernel
theorem dX1_drawDeed_4 : decode cX1_drawDeed 4 = .ok (.iconst 5, 1) := by decide +kernel
theorem dX1_drawDeed_5 : decode cX1_drawDeed 5 = .ok (.irem, 1) := by decide +kernel
theorem dX1_drawDeed_6 : decode cX1_drawDeed 6 = .ok (.tableswitch 57 2 4 #[26, 34, 45], 26) := by decide +kernel
theorem dX1_drawDeed_32 : decode cX1_drawDeed 32 = .ok (.aload_n 1, 1) := by decide +kernel
theorem dX1_drawDeed_33 : decode cX1_drawDeed 33 = .ok (.invokevirtual 70, 3) := by decide +kernel
theorem dX1_drawDeed_36 : decode cX1_drawDeed 36 = .ok (.bipush 6, 2) := by decide +kernel
theorem dX1_drawDeed_38 : decode cX1_drawDeed 38 = .ok (.irem, 1) := by decide +kernel
theorem dX1_drawDeed_39 : decode cX1_drawDeed 39 = .ok (.ireturn, 1) := by decide +kernel
theorem dX1_drawDeed_40 : decode cX1_drawDeed 40 = .ok (.bipush 100, 2) := by decide +kernel
theorem dX1_drawDeed_42 : decode cX1_drawDeed 42 = .ok (.aload_n 1, 1) := by decide +kernel
theorem dX1_drawDeed_43 : decode cX1_drawDeed 43 = .ok (.invokevirtual 70, 3) := by decide +kernel
theorem dX1_drawDeed_46 : decode cX1_drawDeed 46 = .ok (.bipush 8, 2) := by decide +kernel
theorem dX1_drawDeed_48 : decode cX1_drawDeed 48 = .ok (.irem, 1) := by decide +kernel
theorem dX1_drawDeed_49 : decode cX1_drawDeed 49 = .ok (.iadd, 1) := by decide +kernel
theorem dX1_drawDeed_50 : decode cX1_drawDeed 50 = .ok (.ireturn, 1) := by decide +kernel
theorem dX1_drawDeed_51 : decode cX1_drawDeed 51 = .ok (.sipush 200, 3) := by decide +kernel
theorem dX1_drawDeed_54 : decode cX1_drawDeed 54 = .ok (.aload_n 1, 1) := by decide +kernel
theorem dX1_drawDeed_55 : decode cX1_drawDeed 55 = .ok (.invokevirtual 70, 3) := by decide +kernel
theorem dX1_drawDeed_58 : decode cX1_drawDeed 58 = .ok (.bipush 8, 2) := by decide +kernel
theorem dX1_drawDeed_60 : decode cX1_drawDeed 60 = .ok (.irem, 1) := by decide +kernel
theorem dX1_drawDeed_61 : decode cX1_drawDeed 61 = .ok (.iadd, 1) := by decide +kernel
theorem dX1_drawDeed_62 : decode cX1_drawDeed 62 = .ok (.ireturn, 1) := by decide +kernel
theorem dX1_drawDeed_63 : decode cX1_drawDeed 63 = .ok (.iconst (-1), 1) := by decide +kernel
theorem dX1_drawDeed_64 : decode cX1_drawDeed 64 = .ok (.ireturn, 1) := by decide +kernel
theorem dX4_tune_0 : decode cX4_tune 0 = .ok (.aload_n 0, 1) := by decide +kernel
theorem dX4_tune_1 : decode cX4_tune 1 = .ok (.aload_n 1, 1) := by decide +kernel
theorem dX4_tune_2 : decode cX4_tune 2 = .ok (.putfield 33, 3) := by decide +kernel
theorem dX4_tune_5 : decode cX4_tune 5 = .ok (.aload_n 0, 1) := by decide +kernel
theorem dX4_tune_6 : decode cX4_tune 6 = .ok (.aload_n 2, 1) := by decide +kernel
theorem dX4_tune_7 : decode cX4_tune 7 = .ok (.getfield 43, 3) := by decide +kernel
theorem dX4_tune_10 : decode cX4_tune 10 = .ok (.putfield 29, 3) := by decide +kernel
theorem dX4_tune_13 : decode cX4_tune 13 = .ok (.iconst 0, 1) := by decide +kernel
theorem dX4_tune_14 : decode cX4_tune 14 = .ok (.istore_n 3, 1) := by decide +kernel
theorem dX4_tune_15 : decode cX4_tune 15 = .ok (.iload_n 3, 1) := by decide +kernel
theorem dX4_tune_16 : decode cX4_tune 16 = .ok (.aload_n 0, 1) := by decide +kernel
theorem dX4_tune_17 : decode cX4_tune 17 = .ok (.getfield 29, 3) := by decide +kernel
theorem dX4_tune_20 : decode cX4_tune 20 = .ok (.if_icmp .ge 104, 3) := by decide +kernel
theorem dX4_tune_23 : decode cX4_tune 23 = .ok (.aload_n 0, 1) := by decide +kernel
theorem dX4_tune_24 : decode cX4_tune 24 = .ok (.getfield 15, 3) := by decide +kernel
theorem dX4_tune_27 : decode cX4_tune 27 = .ok (.iload_n 3, 1) := by decide +kernel
theorem dX4_tune_28 : decode cX4_tune 28 = .ok (.iaload, 1) := by decide +kernel
theorem dX4_tune_29 : decode cX4_tune 29 = .ok (.aload_n 2, 1) := by decide +kernel
theorem dX4_tune_30 : decode cX4_tune 30 = .ok (.getfield 46, 3) := by decide +kernel
theorem dX4_tune_33 : decode cX4_tune 33 = .ok (.iload_n 3, 1) := by decide +kernel
theorem dX4_tune_34 : decode cX4_tune 34 = .ok (.iaload, 1) := by decide +kernel
theorem dX4_tune_35 : decode cX4_tune 35 = .ok (.if_icmp .ne 18, 3) := by decide +kernel
theorem dX4_tune_38 : decode cX4_tune 38 = .ok (.aload_n 0, 1) := by decide +kernel
theorem dX4_tune_39 : decode cX4_tune 39 = .ok (.getfield 18, 3) := by decide +kernel
theorem dX4_tune_42 : decode cX4_tune 42 = .ok (.iload_n 3, 1) := by decide +kernel
theorem dX4_tune_43 : decode cX4_tune 43 = .ok (.iaload, 1) := by decide +kernel
theorem dX4_tune_44 : decode cX4_tune 44 = .ok (.aload_n 2, 1) := by decide +kernel
theorem dX4_tune_45 : decode cX4_tune 45 = .ok (.getfield 47, 3) := by decide +kernel
theorem dX4_tune_48 : decode cX4_tune 48 = .ok (.iload_n 3, 1) := by decide +kernel
theorem dX4_tune_49 : decode cX4_tune 49 = .ok (.iaload, 1) := by decide +kernel
theorem dX4_tune_50 : decode cX4_tune 50 = .ok (.if_icmp .eq 68, 3) := by decide +kernel
theorem dX4_tune_53 : decode cX4_tune 53 = .ok (.aload_n 0, 1) := by decide +kernel
theorem dX4_tune_54 : decode cX4_tune 54 = .ok (.getfield 15, 3) := by decide +kernel
theorem dX4_tune_57 : decode cX4_tune 57 = .ok (.iload_n 3, 1) := by decide +kernel
theorem dX4_tune_58 : decode cX4_tune 58 = .ok (.aload_n 2, 1) := by decide +kernel
theorem dX4_tune_59 : decode cX4_tune 59 = .ok (.getfield 46, 3) := by decide +kernel
theorem dX4_tune_62 : decode cX4_tune 62 = .ok (.iload_n 3, 1) := by decide +kernel
theorem dX4_tune_63 : decode cX4_tune 63 = .ok (.iaload, 1) := by decide +kernel
theorem dX4_tune_64 : decode cX4_tune 64 = .ok (.iastore, 1) := by decide +kernel
theorem dX4_tune_65 : decode cX4_tune 65 = .ok (.aload_n 0, 1) := by decide +kernel
theorem dX4_tune_66 : decode cX4_tune 66 = .ok (.getfield 18, 3) := by decide +kernel
theorem dX4_tune_69 : decode cX4_tune 69 = .ok (.iload_n 3, 1) := by decide +kernel
theorem dX4_tune_70 : decode cX4_tune 70 = .ok (.aload_n 2, 1) := by decide +kernel
theorem dX4_tune_71 : decode cX4_tune 71 = .ok (.getfield 47, 3) := by decide +kernel
theorem dX4_tune_74 : decode cX4_tune 74 = .ok (.iload_n 3, 1) := by decide +kernel
theorem dX4_tune_75 : decode cX4_tune 75 = .ok (.iaload, 1) := by decide +kernel
theorem dX4_tune_76 : decode cX4_tune 76 = .ok (.iastore, 1) := by decide +kernel
theorem dX4_tune_77 : decode cX4_tune 77 = .ok (.iload_n 3, 1) := by decide +kernel
theorem dX4_tune_78 : decode cX4_tune 78 = .ok (.bipush 108, 2) := by decide +kernel
theorem dX4_tune_80 : decode cX4_tune 80 = .ok (.imul, 1) := by decide +kernel
theorem dX4_tune_81 : decode cX4_tune 81 = .ok (.istore 4, 2) := by decide +kernel
theorem dX4_tune_83 : decode cX4_tune 83 = .ok (.iload 4, 2) := by decide +kernel
theorem dX4_tune_85 : decode cX4_tune 85 = .ok (.iload_n 3, 1) := by decide +kernel
theorem dX4_tune_86 : decode cX4_tune 86 = .ok (.iconst 1, 1) := by decide +kernel
theorem dX4_tune_87 : decode cX4_tune 87 = .ok (.iadd, 1) := by decide +kernel
theorem dX4_tune_88 : decode cX4_tune 88 = .ok (.bipush 108, 2) := by decide +kernel
theorem dX4_tune_90 : decode cX4_tune 90 = .ok (.imul, 1) := by decide +kernel
theorem dX4_tune_91 : decode cX4_tune 91 = .ok (.if_icmp .ge 27, 3) := by decide +kernel
theorem dX4_tune_94 : decode cX4_tune 94 = .ok (.iload 4, 2) := by decide +kernel
theorem dX4_tune_96 : decode cX4_tune 96 = .ok (.aload_n 0, 1) := by decide +kernel
theorem dX4_tune_97 : decode cX4_tune 97 = .ok (.getfield 11, 3) := by decide +kernel
theorem dX4_tune_100 : decode cX4_tune 100 = .ok (.arraylength, 1) := by decide +kernel
theorem dX4_tune_101 : decode cX4_tune 101 = .ok (.if_icmp .ge 17, 3) := by decide +kernel
theorem dX4_tune_104 : decode cX4_tune 104 = .ok (.aload_n 0, 1) := by decide +kernel
theorem dX4_tune_105 : decode cX4_tune 105 = .ok (.getfield 11, 3) := by decide +kernel
theorem dX4_tune_108 : decode cX4_tune 108 = .ok (.iload 4, 2) := by decide +kernel
theorem dX4_tune_110 : decode cX4_tune 110 = .ok (.iconst (-1), 1) := by decide +kernel
theorem dX4_tune_111 : decode cX4_tune 111 = .ok (.iastore, 1) := by decide +kernel
theorem dX4_tune_112 : decode cX4_tune 112 = .ok (.iinc 4 1, 3) := by decide +kernel
theorem dX4_tune_115 : decode cX4_tune 115 = .ok (.goto (-32), 3) := by decide +kernel
theorem dX4_tune_118 : decode cX4_tune 118 = .ok (.iinc 3 1, 3) := by decide +kernel
theorem dX4_tune_121 : decode cX4_tune 121 = .ok (.goto (-106), 3) := by decide +kernel
theorem dX4_tune_124 : decode cX4_tune 124 = .ok (.return_, 1) := by decide +kernel
theorem dX5_aim_0 : decode cX5_aim 0 = .ok (.aload_n 0, 1) := by decide +kernel
theorem dX5_aim_1 : decode cX5_aim 1 = .ok (.aload_n 1, 1) := by decide +kernel
theorem dX5_aim_2 : decode cX5_aim 2 = .ok (.putfield 52, 3) := by decide +kernel
theorem dX5_aim_5 : decode cX5_aim 5 = .ok (.aload_n 0, 1) := by decide +kernel
theorem dX5_aim_6 : decode cX5_aim 6 = .ok (.aload_n 2, 1) := by decide +kernel
theorem dX5_aim_7 : decode cX5_aim 7 = .ok (.putfield 56, 3) := by decide +kernel
theorem dX5_aim_10 : decode cX5_aim 10 = .ok (.aload_n 0, 1) := by decide +kernel
theorem dX5_aim_11 : decode cX5_aim 11 = .ok (.aload_n 0, 1) := by decide +kernel
theorem dX5_aim_12 : decode cX5_aim 12 = .ok (.getfield 56, 3) := by decide +kernel
theorem dX5_aim_15 : decode cX5_aim 15 = .ok (.invokevirtual 60, 3) := by decide +kernel
theorem dX5_aim_18 : decode cX5_aim 18 = .ok (.putfield 38, 3) := by decide +kernel
theorem dX5_aim_21 : decode cX5_aim 21 = .ok (.aload_n 0, 1) := by decide +kernel
theorem dX5_aim_22 : decode cX5_aim 22 = .ok (.aload_n 0, 1) := by decide +kernel
theorem dX5_aim_23 : decode cX5_aim 23 = .ok (.getfield 38, 3) := by decide +kernel
theorem dX5_aim_26 : decode cX5_aim 26 = .ok (.iload_n 3, 1) := by decide +kernel
theorem dX5_aim_27 : decode cX5_aim 27 = .ok (.iconst (-1), 1) := by decide +kernel
theorem dX5_aim_28 : decode cX5_aim 28 = .ok (.ixor, 1) := by decide +kernel
theorem dX5_aim_29 : decode cX5_aim 29 = .ok (.iand, 1) := by decide +kernel
theorem dX5_aim_30 : decode cX5_aim 30 = .ok (.putfield 42, 3) := by decide +kernel
theorem dX5_aim_33 : decode cX5_aim 33 = .ok (.aload_n 0, 1) := by decide +kernel
theorem dX5_aim_34 : decode cX5_aim 34 = .ok (.aload_n 0, 1) := by decide +kernel
theorem dX5_aim_35 : decode cX5_aim 35 = .ok (.getfield 56, 3) := by decide +kernel
theorem dX5_aim_38 : decode cX5_aim 38 = .ok (.getfield 66, 3) := by decide +kernel
theorem dX5_aim_41 : decode cX5_aim 41 = .ok (.aload_n 0, 1) := by decide +kernel
theorem dX5_aim_42 : decode cX5_aim 42 = .ok (.getfield 38, 3) := by decide +kernel
theorem dX5_aim_45 : decode cX5_aim 45 = .ok (.iand, 1) := by decide +kernel
theorem dX5_aim_46 : decode cX5_aim 46 = .ok (.putfield 45, 3) := by decide +kernel
theorem dX5_aim_49 : decode cX5_aim 49 = .ok (.aload_n 0, 1) := by decide +kernel
theorem dX5_aim_50 : decode cX5_aim 50 = .ok (.getfield 48, 3) := by decide +kernel
theorem dX5_aim_53 : decode cX5_aim 53 = .ok (.aload_n 0, 1) := by decide +kernel
theorem dX5_aim_54 : decode cX5_aim 54 = .ok (.getfield 52, 3) := by decide +kernel
theorem dX5_aim_57 : decode cX5_aim 57 = .ok (.aload_n 0, 1) := by decide +kernel
theorem dX5_aim_58 : decode cX5_aim 58 = .ok (.getfield 56, 3) := by decide +kernel
theorem dX5_aim_61 : decode cX5_aim 61 = .ok (.invokevirtual 69, 3) := by decide +kernel
theorem dX5_aim_64 : decode cX5_aim 64 = .ok (.return_, 1) := by decide +kernel
theorem dX5_look_0 : decode cX5_look 0 = .ok (.aload_n 0, 1) := by decide +kernel
theorem dX5_look_1 : decode cX5_look 1 = .ok (.aload_n 1, 1) := by decide +kernel
theorem dX5_look_2 : decode cX5_look 2 = .ok (.aload_n 2, 1) := by decide +kernel
theorem dX5_look_3 : decode cX5_look 3 = .ok (.iload_n 3, 1) := by decide +kernel
theorem dX5_look_4 : decode cX5_look 4 = .ok (.invokevirtual 75, 3) := by decide +kernel
theorem dX5_look_7 : decode cX5_look 7 = .ok (.aload_n 0, 1) := by decide +kernel
theorem dX5_look_8 : decode cX5_look 8 = .ok (.getfield 15, 3) := by decide +kernel
theorem dX5_look_11 : decode cX5_look 11 = .ok (.iconst 0, 1) := by decide +kernel
theorem dX5_look_12 : decode cX5_look 12 = .ok (.invokestatic 79, 3) := by decide +kernel
theorem dX5_look_15 : decode cX5_look 15 = .ok (.aload_n 0, 1) := by decide +kernel
theorem dX5_look_16 : decode cX5_look 16 = .ok (.getfield 15, 3) := by decide +kernel
theorem dX5_look_19 : decode cX5_look 19 = .ok (.aload_n 0, 1) := by decide +kernel
theorem dX5_look_20 : decode cX5_look 20 = .ok (.getfield 45, 3) := by decide +kernel
theorem dX5_look_23 : decode cX5_look 23 = .ok (.iconst 1, 1) := by decide +kernel
theorem dX5_look_24 : decode cX5_look 24 = .ok (.iastore, 1) := by decide +kernel
theorem dX5_look_25 : decode cX5_look 25 = .ok (.aload_n 0, 1) := by decide +kernel
theorem dX5_look_26 : decode cX5_look 26 = .ok (.getfield 45, 3) := by decide +kernel
theorem dX5_look_29 : decode cX5_look 29 = .ok (.istore 4, 2) := by decide +kernel
theorem dX5_look_31 : decode cX5_look 31 = .ok (.iload 4, 2) := by decide +kernel
theorem dX5_look_33 : decode cX5_look 33 = .ok (.aload_n 0, 1) := by decide +kernel
theorem dX5_look_34 : decode cX5_look 34 = .ok (.getfield 38, 3) := by decide +kernel
theorem dX5_look_37 : decode cX5_look 37 = .ok (.if_icmp .gt 27, 3) := by decide +kernel
theorem dX5_look_40 : decode cX5_look 40 = .ok (.aload_n 0, 1) := by decide +kernel
theorem dX5_look_41 : decode cX5_look 41 = .ok (.getfield 15, 3) := by decide +kernel
theorem dX5_look_44 : decode cX5_look 44 = .ok (.iload 4, 2) := by decide +kernel
theorem dX5_look_46 : decode cX5_look 46 = .ok (.iaload, 1) := by decide +kernel
theorem dX5_look_47 : decode cX5_look 47 = .ok (.iconst 1, 1) := by decide +kernel
theorem dX5_look_48 : decode cX5_look 48 = .ok (.if_icmp .ne 10, 3) := by decide +kernel
theorem dX5_look_51 : decode cX5_look 51 = .ok (.aload_n 0, 1) := by decide +kernel
theorem dX5_look_52 : decode cX5_look 52 = .ok (.iload 4, 2) := by decide +kernel
theorem dX5_look_54 : decode cX5_look 54 = .ok (.iload_n 3, 1) := by decide +kernel
theorem dX5_look_55 : decode cX5_look 55 = .ok (.invokevirtual 85, 3) := by decide +kernel
theorem dX5_look_58 : decode cX5_look 58 = .ok (.iinc 4 1, 3) := by decide +kernel
theorem dX5_look_61 : decode cX5_look 61 = .ok (.goto (-30), 3) := by decide +kernel
theorem dX5_look_64 : decode cX5_look 64 = .ok (.return_, 1) := by decide +kernel
theorem dX5_meet_0 : decode cX5_meet 0 = .ok (.aload_n 0, 1) := by decide +kernel
theorem dX5_meet_1 : decode cX5_meet 1 = .ok (.getfield 15, 3) := by decide +kernel
theorem dX5_meet_4 : decode cX5_meet 4 = .ok (.iload_n 1, 1) := by decide +kernel
theorem dX5_meet_5 : decode cX5_meet 5 = .ok (.iconst 1, 1) := by decide +kernel
theorem dX5_meet_6 : decode cX5_meet 6 = .ok (.iastore, 1) := by decide +kernel
theorem dX5_meet_7 : decode cX5_meet 7 = .ok (.iconst 0, 1) := by decide +kernel
theorem dX5_meet_8 : decode cX5_meet 8 = .ok (.istore_n 3, 1) := by decide +kernel
theorem dX5_meet_9 : decode cX5_meet 9 = .ok (.iload_n 3, 1) := by decide +kernel
theorem dX5_meet_10 : decode cX5_meet 10 = .ok (.aload_n 0, 1) := by decide +kernel
theorem dX5_meet_11 : decode cX5_meet 11 = .ok (.getfield 52, 3) := by decide +kernel
theorem dX5_meet_14 : decode cX5_meet 14 = .ok (.getfield 92, 3) := by decide +kernel
theorem dX5_meet_17 : decode cX5_meet 17 = .ok (.if_icmp .ge 51, 3) := by decide +kernel
theorem dX5_meet_20 : decode cX5_meet 20 = .ok (.aload_n 0, 1) := by decide +kernel
theorem dX5_meet_21 : decode cX5_meet 21 = .ok (.getfield 48, 3) := by decide +kernel
theorem dX5_meet_24 : decode cX5_meet 24 = .ok (.iload_n 3, 1) := by decide +kernel
theorem dX5_meet_25 : decode cX5_meet 25 = .ok (.iload_n 1, 1) := by decide +kernel
theorem dX5_meet_26 : decode cX5_meet 26 = .ok (.iload_n 2, 1) := by decide +kernel
theorem dX5_meet_27 : decode cX5_meet 27 = .ok (.invokevirtual 97, 3) := by decide +kernel
theorem dX5_meet_30 : decode cX5_meet 30 = .ok (.istore 4, 2) := by decide +kernel
theorem dX5_meet_32 : decode cX5_meet 32 = .ok (.aload_n 0, 1) := by decide +kernel
theorem dX5_meet_33 : decode cX5_meet 33 = .ok (.getfield 9, 3) := by decide +kernel
theorem dX5_meet_36 : decode cX5_meet 36 = .ok (.iload_n 1, 1) := by decide +kernel
theorem dX5_meet_37 : decode cX5_meet 37 = .ok (.bipush 6, 2) := by decide +kernel
theorem dX5_meet_39 : decode cX5_meet 39 = .ok (.imul, 1) := by decide +kernel
theorem dX5_meet_40 : decode cX5_meet 40 = .ok (.iload_n 3, 1) := by decide +kernel
theorem dX5_meet_41 : decode cX5_meet 41 = .ok (.iadd, 1) := by decide +kernel
theorem dX5_meet_42 : decode cX5_meet 42 = .ok (.iload 4, 2) := by decide +kernel
theorem dX5_meet_44 : decode cX5_meet 44 = .ok (.iastore, 1) := by decide +kernel
theorem dX5_meet_45 : decode cX5_meet 45 = .ok (.iload 4, 2) := by decide +kernel
theorem dX5_meet_47 : decode cX5_meet 47 = .ok (.ifCond .lt 15, 3) := by decide +kernel
theorem dX5_meet_50 : decode cX5_meet 50 = .ok (.aload_n 0, 1) := by decide +kernel
theorem dX5_meet_51 : decode cX5_meet 51 = .ok (.getfield 15, 3) := by decide +kernel
theorem dX5_meet_54 : decode cX5_meet 54 = .ok (.iload_n 1, 1) := by decide +kernel
theorem dX5_meet_55 : decode cX5_meet 55 = .ok (.iconst 1, 1) := by decide +kernel
theorem dX5_meet_56 : decode cX5_meet 56 = .ok (.iload 4, 2) := by decide +kernel
theorem dX5_meet_58 : decode cX5_meet 58 = .ok (.ishl, 1) := by decide +kernel
theorem dX5_meet_59 : decode cX5_meet 59 = .ok (.ior, 1) := by decide +kernel
theorem dX5_meet_60 : decode cX5_meet 60 = .ok (.iconst 1, 1) := by decide +kernel
theorem dX5_meet_61 : decode cX5_meet 61 = .ok (.iastore, 1) := by decide +kernel
theorem dX5_meet_62 : decode cX5_meet 62 = .ok (.iinc 3 1, 3) := by decide +kernel
theorem dX5_meet_65 : decode cX5_meet 65 = .ok (.goto (-56), 3) := by decide +kernel
theorem dX5_meet_68 : decode cX5_meet 68 = .ok (.return_, 1) := by decide +kernel
theorem dX5_isShutAt_0 : decode cX5_isShutAt 0 = .ok (.aload_n 0, 1) := by decide +kernel
theorem dX5_isShutAt_1 : decode cX5_isShutAt 1 = .ok (.getfield 42, 3) := by decide +kernel
theorem dX5_isShutAt_4 : decode cX5_isShutAt 4 = .ok (.iload_n 1, 1) := by decide +kernel
theorem dX5_isShutAt_5 : decode cX5_isShutAt 5 = .ok (.iconst (-1), 1) := by decide +kernel
theorem dX5_isShutAt_6 : decode cX5_isShutAt 6 = .ok (.ixor, 1) := by decide +kernel
theorem dX5_isShutAt_7 : decode cX5_isShutAt 7 = .ok (.iand, 1) := by decide +kernel
theorem dX5_isShutAt_8 : decode cX5_isShutAt 8 = .ok (.ifCond .ne 7, 3) := by decide +kernel
theorem dX5_isShutAt_11 : decode cX5_isShutAt 11 = .ok (.iconst 1, 1) := by decide +kernel
theorem dX5_isShutAt_12 : decode cX5_isShutAt 12 = .ok (.goto 4, 3) := by decide +kernel
theorem dX5_isShutAt_15 : decode cX5_isShutAt 15 = .ok (.iconst 0, 1) := by decide +kernel
theorem dX5_isShutAt_16 : decode cX5_isShutAt 16 = .ok (.ireturn, 1) := by decide +kernel
theorem dX5_shortest_0 : decode cX5_shortest 0 = .ok (.aload_n 0, 1) := by decide +kernel
theorem dX5_shortest_1 : decode cX5_shortest 1 = .ok (.iconst 1, 1) := by decide +kernel
theorem dX5_shortest_2 : decode cX5_shortest 2 = .ok (.aload_n 0, 1) := by decide +kernel
theorem dX5_shortest_3 : decode cX5_shortest 3 = .ok (.getfield 52, 3) := by decide +kernel
theorem dX5_shortest_6 : decode cX5_shortest 6 = .ok (.getfield 92, 3) := by decide +kernel
theorem dX5_shortest_9 : decode cX5_shortest 9 = .ok (.ishl, 1) := by decide +kernel
theorem dX5_shortest_10 : decode cX5_shortest 10 = .ok (.iconst 1, 1) := by decide +kernel
theorem dX5_shortest_11 : decode cX5_shortest 11 = .ok (.isub, 1) := by decide +kernel
theorem dX5_shortest_12 : decode cX5_shortest 12 = .ok (.invokevirtual 105, 3) := by decide +kernel
theorem dX5_shortest_15 : decode cX5_shortest 15 = .ok (.ireturn, 1) := by decide +kernel
theorem dX5_measure_0 : decode cX5_measure 0 = .ok (.aload_n 0, 1) := by decide +kernel
theorem dX5_measure_1 : decode cX5_measure 1 = .ok (.getfield 38, 3) := by decide +kernel
theorem dX5_measure_4 : decode cX5_measure 4 = .ok (.istore_n 2, 1) := by decide +kernel
theorem dX5_measure_5 : decode cX5_measure 5 = .ok (.iload_n 2, 1) := by decide +kernel
theorem dX5_measure_6 : decode cX5_measure 6 = .ok (.aload_n 0, 1) := by decide +kernel
theorem dX5_measure_7 : decode cX5_measure 7 = .ok (.getfield 45, 3) := by decide +kernel
theorem dX5_measure_10 : decode cX5_measure 10 = .ok (.if_icmp .lt 43, 3) := by decide +kernel
theorem dX5_measure_13 : decode cX5_measure 13 = .ok (.aload_n 0, 1) := by decide +kernel
theorem dX5_measure_14 : decode cX5_measure 14 = .ok (.getfield 15, 3) := by decide +kernel
theorem dX5_measure_17 : decode cX5_measure 17 = .ok (.iload_n 2, 1) := by decide +kernel
theorem dX5_measure_18 : decode cX5_measure 18 = .ok (.iaload, 1) := by decide +kernel
theorem dX5_measure_19 : decode cX5_measure 19 = .ok (.iconst 1, 1) := by decide +kernel
theorem dX5_measure_20 : decode cX5_measure 20 = .ok (.if_icmp .ne 27, 3) := by decide +kernel
theorem dX5_measure_23 : decode cX5_measure 23 = .ok (.aload_n 0, 1) := by decide +kernel
theorem dX5_measure_24 : decode cX5_measure 24 = .ok (.getfield 18, 3) := by decide +kernel
theorem dX5_measure_27 : decode cX5_measure 27 = .ok (.iload_n 2, 1) := by decide +kernel
theorem dX5_measure_28 : decode cX5_measure 28 = .ok (.aload_n 0, 1) := by decide +kernel
theorem dX5_measure_29 : decode cX5_measure 29 = .ok (.iload_n 2, 1) := by decide +kernel
theorem dX5_measure_30 : decode cX5_measure 30 = .ok (.invokevirtual 109, 3) := by decide +kernel
theorem dX5_measure_33 : decode cX5_measure 33 = .ok (.ifCond .eq 7, 3) := by decide +kernel
theorem dX5_measure_36 : decode cX5_measure 36 = .ok (.iconst 0, 1) := by decide +kernel
theorem dX5_measure_37 : decode cX5_measure 37 = .ok (.goto 9, 3) := by decide +kernel
theorem dX5_measure_40 : decode cX5_measure 40 = .ok (.aload_n 0, 1) := by decide +kernel
theorem dX5_measure_41 : decode cX5_measure 41 = .ok (.iload_n 2, 1) := by decide +kernel
theorem dX5_measure_42 : decode cX5_measure 42 = .ok (.iload_n 1, 1) := by decide +kernel
theorem dX5_measure_43 : decode cX5_measure 43 = .ok (.invokevirtual 113, 3) := by decide +kernel
theorem dX5_measure_46 : decode cX5_measure 46 = .ok (.iastore, 1) := by decide +kernel
theorem dX5_measure_47 : decode cX5_measure 47 = .ok (.iinc 2 (-1), 3) := by decide +kernel
theorem dX5_measure_50 : decode cX5_measure 50 = .ok (.goto (-45), 3) := by decide +kernel
theorem dX5_measure_53 : decode cX5_measure 53 = .ok (.aload_n 0, 1) := by decide +kernel
theorem dX5_measure_54 : decode cX5_measure 54 = .ok (.getfield 18, 3) := by decide +kernel
theorem dX5_measure_57 : decode cX5_measure 57 = .ok (.aload_n 0, 1) := by decide +kernel
theorem dX5_measure_58 : decode cX5_measure 58 = .ok (.getfield 45, 3) := by decide +kernel
theorem dX5_measure_61 : decode cX5_measure 61 = .ok (.iaload, 1) := by decide +kernel
theorem dX5_measure_62 : decode cX5_measure 62 = .ok (.ireturn, 1) := by decide +kernel
theorem dX5_neededBuyers_0 : decode cX5_neededBuyers 0 = .ok (.iconst 0, 1) := by decide +kernel
theorem dX5_neededBuyers_1 : decode cX5_neededBuyers 1 = .ok (.istore_n 1, 1) := by decide +kernel
theorem dX5_neededBuyers_2 : decode cX5_neededBuyers 2 = .ok (.iconst 1, 1) := by decide +kernel
theorem dX5_neededBuyers_3 : decode cX5_neededBuyers 3 = .ok (.aload_n 0, 1) := by decide +kernel
theorem dX5_neededBuyers_4 : decode cX5_neededBuyers 4 = .ok (.getfield 52, 3) := by decide +kernel
theorem dX5_neededBuyers_7 : decode cX5_neededBuyers 7 = .ok (.getfield 92, 3) := by decide +kernel
theorem dX5_neededBuyers_10 : decode cX5_neededBuyers 10 = .ok (.ishl, 1) := by decide +kernel
theorem dX5_neededBuyers_11 : decode cX5_neededBuyers 11 = .ok (.iconst 1, 1) := by decide +kernel
theorem dX5_neededBuyers_12 : decode cX5_neededBuyers 12 = .ok (.isub, 1) := by decide +kernel
theorem dX5_neededBuyers_13 : decode cX5_neededBuyers 13 = .ok (.istore_n 2, 1) := by decide +kernel
theorem dX5_neededBuyers_14 : decode cX5_neededBuyers 14 = .ok (.aload_n 0, 1) := by decide +kernel
theorem dX5_neededBuyers_15 : decode cX5_neededBuyers 15 = .ok (.iload_n 2, 1) := by decide +kernel
theorem dX5_neededBuyers_16 : decode cX5_neededBuyers 16 = .ok (.invokevirtual 105, 3) := by decide +kernel
theorem dX5_neededBuyers_19 : decode cX5_neededBuyers 19 = .ok (.iconst (-1), 1) := by decide +kernel
theorem dX5_neededBuyers_20 : decode cX5_neededBuyers 20 = .ok (.if_icmp .ne 5, 3) := by decide +kernel
theorem dX5_neededBuyers_23 : decode cX5_neededBuyers 23 = .ok (.iload_n 1, 1) := by decide +kernel
theorem dX5_neededBuyers_24 : decode cX5_neededBuyers 24 = .ok (.ireturn, 1) := by decide +kernel
theorem dX5_neededBuyers_25 : decode cX5_neededBuyers 25 = .ok (.iconst 0, 1) := by decide +kernel
theorem dX5_neededBuyers_26 : decode cX5_neededBuyers 26 = .ok (.istore_n 3, 1) := by decide +kernel
theorem dX5_neededBuyers_27 : decode cX5_neededBuyers 27 = .ok (.iload_n 3, 1) := by decide +kernel
theorem dX5_neededBuyers_28 : decode cX5_neededBuyers 28 = .ok (.aload_n 0, 1) := by decide +kernel
theorem dX5_neededBuyers_29 : decode cX5_neededBuyers 29 = .ok (.getfield 52, 3) := by decide +kernel
theorem dX5_neededBuyers_32 : decode cX5_neededBuyers 32 = .ok (.getfield 92, 3) := by decide +kernel
theorem dX5_neededBuyers_35 : decode cX5_neededBuyers 35 = .ok (.if_icmp .ge 30, 3) := by decide +kernel
theorem dX5_neededBuyers_38 : decode cX5_neededBuyers 38 = .ok (.aload_n 0, 1) := by decide +kernel
theorem dX5_neededBuyers_39 : decode cX5_neededBuyers 39 = .ok (.iload_n 2, 1) := by decide +kernel
theorem dX5_neededBuyers_40 : decode cX5_neededBuyers 40 = .ok (.iconst 1, 1) := by decide +kernel
theorem dX5_neededBuyers_41 : decode cX5_neededBuyers 41 = .ok (.iload_n 3, 1) := by decide +kernel
theorem dX5_neededBuyers_42 : decode cX5_neededBuyers 42 = .ok (.ishl, 1) := by decide +kernel
theorem dX5_neededBuyers_43 : decode cX5_neededBuyers 43 = .ok (.iconst (-1), 1) := by decide +kernel
theorem dX5_neededBuyers_44 : decode cX5_neededBuyers 44 = .ok (.ixor, 1) := by decide +kernel
theorem dX5_neededBuyers_45 : decode cX5_neededBuyers 45 = .ok (.iand, 1) := by decide +kernel
theorem dX5_neededBuyers_46 : decode cX5_neededBuyers 46 = .ok (.invokevirtual 105, 3) := by decide +kernel
theorem dX5_neededBuyers_49 : decode cX5_neededBuyers 49 = .ok (.iconst (-1), 1) := by decide +kernel
theorem dX5_neededBuyers_50 : decode cX5_neededBuyers 50 = .ok (.if_icmp .ne 9, 3) := by decide +kernel
theorem dX5_neededBuyers_53 : decode cX5_neededBuyers 53 = .ok (.iload_n 1, 1) := by decide +kernel
theorem dX5_neededBuyers_54 : decode cX5_neededBuyers 54 = .ok (.iconst 1, 1) := by decide +kernel
theorem dX5_neededBuyers_55 : decode cX5_neededBuyers 55 = .ok (.iload_n 3, 1) := by decide +kernel
theorem dX5_neededBuyers_56 : decode cX5_neededBuyers 56 = .ok (.ishl, 1) := by decide +kernel
theorem dX5_neededBuyers_57 : decode cX5_neededBuyers 57 = .ok (.ior, 1) := by decide +kernel
theorem dX5_neededBuyers_58 : decode cX5_neededBuyers 58 = .ok (.istore_n 1, 1) := by decide +kernel
theorem dX5_neededBuyers_59 : decode cX5_neededBuyers 59 = .ok (.iinc 3 1, 3) := by decide +kernel
theorem dX5_neededBuyers_62 : decode cX5_neededBuyers 62 = .ok (.goto (-35), 3) := by decide +kernel
theorem dX5_neededBuyers_65 : decode cX5_neededBuyers 65 = .ok (.iload_n 1, 1) := by decide +kernel
theorem dX5_neededBuyers_66 : decode cX5_neededBuyers 66 = .ok (.ireturn, 1) := by decide +kernel
theorem dX5_everSold_0 : decode cX5_everSold 0 = .ok (.aload_n 0, 1) := by decide +kernel
theorem dX5_everSold_1 : decode cX5_everSold 1 = .ok (.getfield 45, 3) := by decide +kernel
theorem dX5_everSold_4 : decode cX5_everSold 4 = .ok (.istore_n 1, 1) := by decide +kernel
theorem dX5_everSold_5 : decode cX5_everSold 5 = .ok (.aload_n 0, 1) := by decide +kernel
theorem dX5_everSold_6 : decode cX5_everSold 6 = .ok (.getfield 45, 3) := by decide +kernel
theorem dX5_everSold_9 : decode cX5_everSold 9 = .ok (.istore_n 2, 1) := by decide +kernel
theorem dX5_everSold_10 : decode cX5_everSold 10 = .ok (.iload_n 2, 1) := by decide +kernel
theorem dX5_everSold_11 : decode cX5_everSold 11 = .ok (.aload_n 0, 1) := by decide +kernel
theorem dX5_everSold_12 : decode cX5_everSold 12 = .ok (.getfield 38, 3) := by decide +kernel
theorem dX5_everSold_15 : decode cX5_everSold 15 = .ok (.if_icmp .gt 27, 3) := by decide +kernel
theorem dX5_everSold_18 : decode cX5_everSold 18 = .ok (.iload_n 1, 1) := by decide +kernel
theorem dX5_everSold_19 : decode cX5_everSold 19 = .ok (.aload_n 0, 1) := by decide +kernel
theorem dX5_everSold_20 : decode cX5_everSold 20 = .ok (.getfield 15, 3) := by decide +kernel
theorem dX5_everSold_23 : decode cX5_everSold 23 = .ok (.iload_n 2, 1) := by decide +kernel
theorem dX5_everSold_24 : decode cX5_everSold 24 = .ok (.iaload, 1) := by decide +kernel
theorem dX5_everSold_25 : decode cX5_everSold 25 = .ok (.iconst 1, 1) := by decide +kernel
theorem dX5_everSold_26 : decode cX5_everSold 26 = .ok (.if_icmp .ne 7, 3) := by decide +kernel
theorem dX5_everSold_29 : decode cX5_everSold 29 = .ok (.iload_n 2, 1) := by decide +kernel
theorem dX5_everSold_30 : decode cX5_everSold 30 = .ok (.goto 4, 3) := by decide +kernel
theorem dX5_everSold_33 : decode cX5_everSold 33 = .ok (.iconst 0, 1) := by decide +kernel
theorem dX5_everSold_34 : decode cX5_everSold 34 = .ok (.ior, 1) := by decide +kernel
theorem dX5_everSold_35 : decode cX5_everSold 35 = .ok (.istore_n 1, 1) := by decide +kernel
theorem dX5_everSold_36 : decode cX5_everSold 36 = .ok (.iinc 2 1, 3) := by decide +kernel
theorem dX5_everSold_39 : decode cX5_everSold 39 = .ok (.goto (-29), 3) := by decide +kernel
theorem dX5_everSold_42 : decode cX5_everSold 42 = .ok (.iload_n 1, 1) := by decide +kernel
theorem dX5_everSold_43 : decode cX5_everSold 43 = .ok (.ireturn, 1) := by decide +kernel
theorem dX5_lastLeft_0 : decode cX5_lastLeft 0 = .ok (.iconst 0, 1) := by decide +kernel
theorem dX5_lastLeft_1 : decode cX5_lastLeft 1 = .ok (.istore_n 1, 1) := by decide +kernel
theorem dX5_lastLeft_2 : decode cX5_lastLeft 2 = .ok (.aload_n 0, 1) := by decide +kernel
theorem dX5_lastLeft_3 : decode cX5_lastLeft 3 = .ok (.getfield 45, 3) := by decide +kernel
theorem dX5_lastLeft_6 : decode cX5_lastLeft 6 = .ok (.istore_n 2, 1) := by decide +kernel
theorem dX5_lastLeft_7 : decode cX5_lastLeft 7 = .ok (.iload_n 2, 1) := by decide +kernel
theorem dX5_lastLeft_8 : decode cX5_lastLeft 8 = .ok (.aload_n 0, 1) := by decide +kernel
theorem dX5_lastLeft_9 : decode cX5_lastLeft 9 = .ok (.getfield 38, 3) := by decide +kernel
theorem dX5_lastLeft_12 : decode cX5_lastLeft 12 = .ok (.if_icmp .gt 40, 3) := by decide +kernel
theorem dX5_lastLeft_15 : decode cX5_lastLeft 15 = .ok (.aload_n 0, 1) := by decide +kernel
theorem dX5_lastLeft_16 : decode cX5_lastLeft 16 = .ok (.getfield 42, 3) := by decide +kernel
theorem dX5_lastLeft_19 : decode cX5_lastLeft 19 = .ok (.iload_n 2, 1) := by decide +kernel
theorem dX5_lastLeft_20 : decode cX5_lastLeft 20 = .ok (.iconst (-1), 1) := by decide +kernel
theorem dX5_lastLeft_21 : decode cX5_lastLeft 21 = .ok (.ixor, 1) := by decide +kernel
theorem dX5_lastLeft_22 : decode cX5_lastLeft 22 = .ok (.iand, 1) := by decide +kernel
theorem dX5_lastLeft_23 : decode cX5_lastLeft 23 = .ok (.istore_n 3, 1) := by decide +kernel
theorem dX5_lastLeft_24 : decode cX5_lastLeft 24 = .ok (.aload_n 0, 1) := by decide +kernel
theorem dX5_lastLeft_25 : decode cX5_lastLeft 25 = .ok (.getfield 15, 3) := by decide +kernel
theorem dX5_lastLeft_28 : decode cX5_lastLeft 28 = .ok (.iload_n 2, 1) := by decide +kernel
theorem dX5_lastLeft_29 : decode cX5_lastLeft 29 = .ok (.iaload, 1) := by decide +kernel
theorem dX5_lastLeft_30 : decode cX5_lastLeft 30 = .ok (.iconst 1, 1) := by decide +kernel
theorem dX5_lastLeft_31 : decode cX5_lastLeft 31 = .ok (.if_icmp .ne 15, 3) := by decide +kernel
theorem dX5_lastLeft_34 : decode cX5_lastLeft 34 = .ok (.iload_n 3, 1) := by decide +kernel
theorem dX5_lastLeft_35 : decode cX5_lastLeft 35 = .ok (.invokestatic 119, 3) := by decide +kernel
theorem dX5_lastLeft_38 : decode cX5_lastLeft 38 = .ok (.iconst 1, 1) := by decide +kernel
theorem dX5_lastLeft_39 : decode cX5_lastLeft 39 = .ok (.if_icmp .ne 7, 3) := by decide +kernel
theorem dX5_lastLeft_42 : decode cX5_lastLeft 42 = .ok (.iload_n 1, 1) := by decide +kernel
theorem dX5_lastLeft_43 : decode cX5_lastLeft 43 = .ok (.iload_n 3, 1) := by decide +kernel
theorem dX5_lastLeft_44 : decode cX5_lastLeft 44 = .ok (.ior, 1) := by decide +kernel
theorem dX5_lastLeft_45 : decode cX5_lastLeft 45 = .ok (.istore_n 1, 1) := by decide +kernel
theorem dX5_lastLeft_46 : decode cX5_lastLeft 46 = .ok (.iinc 2 1, 3) := by decide +kernel
theorem dX5_lastLeft_49 : decode cX5_lastLeft 49 = .ok (.goto (-42), 3) := by decide +kernel
theorem dX5_lastLeft_52 : decode cX5_lastLeft 52 = .ok (.iload_n 1, 1) := by decide +kernel
theorem dX5_lastLeft_53 : decode cX5_lastLeft 53 = .ok (.ireturn, 1) := by decide +kernel
theorem dX5_beginRows_0 : decode cX5_beginRows 0 = .ok (.aload_n 0, 1) := by decide +kernel
theorem dX5_beginRows_1 : decode cX5_beginRows 1 = .ok (.getfield 21, 3) := by decide +kernel
theorem dX5_beginRows_4 : decode cX5_beginRows 4 = .ok (.lconst 0, 1) := by decide +kernel
theorem dX5_beginRows_5 : decode cX5_beginRows 5 = .ok (.invokestatic 124, 3) := by decide +kernel
theorem dX5_beginRows_8 : decode cX5_beginRows 8 = .ok (.aload_n 0, 1) := by decide +kernel
theorem dX5_beginRows_9 : decode cX5_beginRows 9 = .ok (.getfield 21, 3) := by decide +kernel
theorem dX5_beginRows_12 : decode cX5_beginRows 12 = .ok (.aload_n 0, 1) := by decide +kernel
theorem dX5_beginRows_13 : decode cX5_beginRows 13 = .ok (.getfield 45, 3) := by decide +kernel
theorem dX5_beginRows_16 : decode cX5_beginRows 16 = .ok (.lconst 1, 1) := by decide +kernel
theorem dX5_beginRows_17 : decode cX5_beginRows 17 = .ok (.lastore, 1) := by decide +kernel
theorem dX5_beginRows_18 : decode cX5_beginRows 18 = .ok (.return_, 1) := by decide +kernel
theorem dX5_lengthenRows_0 : decode cX5_lengthenRows 0 = .ok (.aload_n 0, 1) := by decide +kernel
theorem dX5_lengthenRows_1 : decode cX5_lengthenRows 1 = .ok (.getfield 25, 3) := by decide +kernel
theorem dX5_lengthenRows_4 : decode cX5_lengthenRows 4 = .ok (.lconst 0, 1) := by decide +kernel
theorem dX5_lengthenRows_5 : decode cX5_lengthenRows 5 = .ok (.invokestatic 124, 3) := by decide +kernel
theorem dX5_lengthenRows_8 : decode cX5_lengthenRows 8 = .ok (.aload_n 0, 1) := by decide +kernel
theorem dX5_lengthenRows_9 : decode cX5_lengthenRows 9 = .ok (.getfield 45, 3) := by decide +kernel
theorem dX5_lengthenRows_12 : decode cX5_lengthenRows 12 = .ok (.istore_n 2, 1) := by decide +kernel
theorem dX5_lengthenRows_13 : decode cX5_lengthenRows 13 = .ok (.iload_n 2, 1) := by decide +kernel
theorem dX5_lengthenRows_14 : decode cX5_lengthenRows 14 = .ok (.aload_n 0, 1) := by decide +kernel
theorem dX5_lengthenRows_15 : decode cX5_lengthenRows 15 = .ok (.getfield 38, 3) := by decide +kernel
theorem dX5_lengthenRows_18 : decode cX5_lengthenRows 18 = .ok (.if_icmp .gt 83, 3) := by decide +kernel
theorem dX5_lengthenRows_21 : decode cX5_lengthenRows 21 = .ok (.iconst 0, 1) := by decide +kernel
theorem dX5_lengthenRows_22 : decode cX5_lengthenRows 22 = .ok (.istore_n 3, 1) := by decide +kernel
theorem dX5_lengthenRows_23 : decode cX5_lengthenRows 23 = .ok (.iload_n 3, 1) := by decide +kernel
theorem dX5_lengthenRows_24 : decode cX5_lengthenRows 24 = .ok (.aload_n 0, 1) := by decide +kernel
theorem dX5_lengthenRows_25 : decode cX5_lengthenRows 25 = .ok (.getfield 52, 3) := by decide +kernel
theorem dX5_lengthenRows_28 : decode cX5_lengthenRows 28 = .ok (.getfield 92, 3) := by decide +kernel
theorem dX5_lengthenRows_31 : decode cX5_lengthenRows 31 = .ok (.if_icmp .ge 64, 3) := by decide +kernel
theorem dX5_lengthenRows_34 : decode cX5_lengthenRows 34 = .ok (.aload_n 0, 1) := by decide +kernel
theorem dX5_lengthenRows_35 : decode cX5_lengthenRows 35 = .ok (.getfield 21, 3) := by decide +kernel
theorem dX5_lengthenRows_38 : decode cX5_lengthenRows 38 = .ok (.iload_n 2, 1) := by decide +kernel
theorem dX5_lengthenRows_39 : decode cX5_lengthenRows 39 = .ok (.laload, 1) := by decide +kernel
theorem dX5_lengthenRows_40 : decode cX5_lengthenRows 40 = .ok (.lconst 0, 1) := by decide +kernel
theorem dX5_lengthenRows_41 : decode cX5_lengthenRows 41 = .ok (.lcmp, 1) := by decide +kernel
theorem dX5_lengthenRows_42 : decode cX5_lengthenRows 42 = .ok (.ifCond .eq 53, 3) := by decide +kernel
theorem dX5_lengthenRows_45 : decode cX5_lengthenRows 45 = .ok (.aload_n 0, 1) := by decide +kernel
theorem dX5_lengthenRows_46 : decode cX5_lengthenRows 46 = .ok (.iload_n 2, 1) := by decide +kernel
theorem dX5_lengthenRows_47 : decode cX5_lengthenRows 47 = .ok (.iload_n 3, 1) := by decide +kernel
theorem dX5_lengthenRows_48 : decode cX5_lengthenRows 48 = .ok (.invokevirtual 101, 3) := by decide +kernel
theorem dX5_lengthenRows_51 : decode cX5_lengthenRows 51 = .ok (.istore 4, 2) := by decide +kernel
theorem dX5_lengthenRows_53 : decode cX5_lengthenRows 53 = .ok (.iload 4, 2) := by decide +kernel
theorem dX5_lengthenRows_55 : decode cX5_lengthenRows 55 = .ok (.ifCond .lt 34, 3) := by decide +kernel
theorem dX5_lengthenRows_58 : decode cX5_lengthenRows 58 = .ok (.iload_n 1, 1) := by decide +kernel
theorem dX5_lengthenRows_59 : decode cX5_lengthenRows 59 = .ok (.iconst (-1), 1) := by decide +kernel
theorem dX5_lengthenRows_60 : decode cX5_lengthenRows 60 = .ok (.if_icmp .eq 9, 3) := by decide +kernel
theorem dX5_lengthenRows_63 : decode cX5_lengthenRows 63 = .ok (.iload_n 1, 1) := by decide +kernel
theorem dX5_lengthenRows_64 : decode cX5_lengthenRows 64 = .ok (.iload 4, 2) := by decide +kernel
theorem dX5_lengthenRows_66 : decode cX5_lengthenRows 66 = .ok (.if_icmp .ne 23, 3) := by decide +kernel
theorem dX5_lengthenRows_69 : decode cX5_lengthenRows 69 = .ok (.aload_n 0, 1) := by decide +kernel
theorem dX5_lengthenRows_70 : decode cX5_lengthenRows 70 = .ok (.getfield 25, 3) := by decide +kernel
theorem dX5_lengthenRows_73 : decode cX5_lengthenRows 73 = .ok (.iload_n 2, 1) := by decide +kernel
theorem dX5_lengthenRows_74 : decode cX5_lengthenRows 74 = .ok (.iconst 1, 1) := by decide +kernel
theorem dX5_lengthenRows_75 : decode cX5_lengthenRows 75 = .ok (.iload 4, 2) := by decide +kernel
theorem dX5_lengthenRows_77 : decode cX5_lengthenRows 77 = .ok (.ishl, 1) := by decide +kernel
theorem dX5_lengthenRows_78 : decode cX5_lengthenRows 78 = .ok (.ior, 1) := by decide +kernel
theorem dX5_lengthenRows_79 : decode cX5_lengthenRows 79 = .ok (.dup2, 1) := by decide +kernel
theorem dX5_lengthenRows_80 : decode cX5_lengthenRows 80 = .ok (.laload, 1) := by decide +kernel
theorem dX5_lengthenRows_81 : decode cX5_lengthenRows 81 = .ok (.aload_n 0, 1) := by decide +kernel
theorem dX5_lengthenRows_82 : decode cX5_lengthenRows 82 = .ok (.getfield 21, 3) := by decide +kernel
theorem dX5_lengthenRows_85 : decode cX5_lengthenRows 85 = .ok (.iload_n 2, 1) := by decide +kernel
theorem dX5_lengthenRows_86 : decode cX5_lengthenRows 86 = .ok (.laload, 1) := by decide +kernel
theorem dX5_lengthenRows_87 : decode cX5_lengthenRows 87 = .ok (.ladd, 1) := by decide +kernel
theorem dX5_lengthenRows_88 : decode cX5_lengthenRows 88 = .ok (.lastore, 1) := by decide +kernel
theorem dX5_lengthenRows_89 : decode cX5_lengthenRows 89 = .ok (.iinc 3 1, 3) := by decide +kernel
theorem dX5_lengthenRows_92 : decode cX5_lengthenRows 92 = .ok (.goto (-69), 3) := by decide +kernel
theorem dX5_lengthenRows_95 : decode cX5_lengthenRows 95 = .ok (.iinc 2 1, 3) := by decide +kernel
theorem dX5_lengthenRows_98 : decode cX5_lengthenRows 98 = .ok (.goto (-85), 3) := by decide +kernel
theorem dX5_lengthenRows_101 : decode cX5_lengthenRows 101 = .ok (.aload_n 0, 1) := by decide +kernel
theorem dX5_lengthenRows_102 : decode cX5_lengthenRows 102 = .ok (.invokevirtual 127, 3) := by decide +kernel
theorem dX5_lengthenRows_105 : decode cX5_lengthenRows 105 = .ok (.return_, 1) := by decide +kernel
theorem dX5_swapWays_0 : decode cX5_swapWays 0 = .ok (.aload_n 0, 1) := by decide +kernel
theorem dX5_swapWays_1 : decode cX5_swapWays 1 = .ok (.getfield 21, 3) := by decide +kernel
theorem dX5_swapWays_4 : decode cX5_swapWays 4 = .ok (.astore_n 1, 1) := by decide +kernel
theorem dX5_swapWays_5 : decode cX5_swapWays 5 = .ok (.aload_n 0, 1) := by decide +kernel
theorem dX5_swapWays_6 : decode cX5_swapWays 6 = .ok (.aload_n 0, 1) := by decide +kernel
theorem dX5_swapWays_7 : decode cX5_swapWays 7 = .ok (.getfield 25, 3) := by decide +kernel
theorem dX5_swapWays_10 : decode cX5_swapWays 10 = .ok (.putfield 21, 3) := by decide +kernel
theorem dX5_swapWays_13 : decode cX5_swapWays 13 = .ok (.aload_n 0, 1) := by decide +kernel
theorem dX5_swapWays_14 : decode cX5_swapWays 14 = .ok (.aload_n 1, 1) := by decide +kernel
theorem dX5_swapWays_15 : decode cX5_swapWays 15 = .ok (.putfield 25, 3) := by decide +kernel
theorem dX5_swapWays_18 : decode cX5_swapWays 18 = .ok (.return_, 1) := by decide +kernel
theorem dX5_allWays_0 : decode cX5_allWays 0 = .ok (.lconst 0, 1) := by decide +kernel
theorem dX5_allWays_1 : decode cX5_allWays 1 = .ok (.lstore_n 1, 1) := by decide +kernel
theorem dX5_allWays_2 : decode cX5_allWays 2 = .ok (.aload_n 0, 1) := by decide +kernel
theorem dX5_allWays_3 : decode cX5_allWays 3 = .ok (.getfield 45, 3) := by decide +kernel
theorem dX5_allWays_6 : decode cX5_allWays 6 = .ok (.istore_n 3, 1) := by decide +kernel
theorem dX5_allWays_7 : decode cX5_allWays 7 = .ok (.iload_n 3, 1) := by decide +kernel
theorem dX5_allWays_8 : decode cX5_allWays 8 = .ok (.aload_n 0, 1) := by decide +kernel
theorem dX5_allWays_9 : decode cX5_allWays 9 = .ok (.getfield 38, 3) := by decide +kernel
theorem dX5_allWays_12 : decode cX5_allWays 12 = .ok (.if_icmp .gt 18, 3) := by decide +kernel
theorem dX5_allWays_15 : decode cX5_allWays 15 = .ok (.lload_n 1, 1) := by decide +kernel
theorem dX5_allWays_16 : decode cX5_allWays 16 = .ok (.aload_n 0, 1) := by decide +kernel
theorem dX5_allWays_17 : decode cX5_allWays 17 = .ok (.getfield 21, 3) := by decide +kernel
theorem dX5_allWays_20 : decode cX5_allWays 20 = .ok (.iload_n 3, 1) := by decide +kernel
theorem dX5_allWays_21 : decode cX5_allWays 21 = .ok (.laload, 1) := by decide +kernel
theorem dX5_allWays_22 : decode cX5_allWays 22 = .ok (.ladd, 1) := by decide +kernel
theorem dX5_allWays_23 : decode cX5_allWays 23 = .ok (.lstore_n 1, 1) := by decide +kernel
theorem dX5_allWays_24 : decode cX5_allWays 24 = .ok (.iinc 3 1, 3) := by decide +kernel
theorem dX5_allWays_27 : decode cX5_allWays 27 = .ok (.goto (-20), 3) := by decide +kernel
theorem dX5_allWays_30 : decode cX5_allWays 30 = .ok (.lload_n 1, 1) := by decide +kernel
theorem dX5_allWays_31 : decode cX5_allWays 31 = .ok (.lreturn, 1) := by decide +kernel
theorem dX5_openWays_0 : decode cX5_openWays 0 = .ok (.lconst 0, 1) := by decide +kernel
theorem dX5_openWays_1 : decode cX5_openWays 1 = .ok (.lstore_n 1, 1) := by decide +kernel
theorem dX5_openWays_2 : decode cX5_openWays 2 = .ok (.aload_n 0, 1) := by decide +kernel
theorem dX5_openWays_3 : decode cX5_openWays 3 = .ok (.getfield 45, 3) := by decide +kernel
theorem dX5_openWays_6 : decode cX5_openWays 6 = .ok (.istore_n 3, 1) := by decide +kernel
theorem dX5_openWays_7 : decode cX5_openWays 7 = .ok (.iload_n 3, 1) := by decide +kernel
theorem dX5_openWays_8 : decode cX5_openWays 8 = .ok (.aload_n 0, 1) := by decide +kernel
theorem dX5_openWays_9 : decode cX5_openWays 9 = .ok (.getfield 38, 3) := by decide +kernel
theorem dX5_openWays_12 : decode cX5_openWays 12 = .ok (.if_icmp .gt 30, 3) := by decide +kernel
theorem dX5_openWays_15 : decode cX5_openWays 15 = .ok (.lload_n 1, 1) := by decide +kernel
theorem dX5_openWays_16 : decode cX5_openWays 16 = .ok (.aload_n 0, 1) := by decide +kernel
theorem dX5_openWays_17 : decode cX5_openWays 17 = .ok (.iload_n 3, 1) := by decide +kernel
theorem dX5_openWays_18 : decode cX5_openWays 18 = .ok (.invokevirtual 109, 3) := by decide +kernel
theorem dX5_openWays_21 : decode cX5_openWays 21 = .ok (.ifCond .eq 7, 3) := by decide +kernel
theorem dX5_openWays_24 : decode cX5_openWays 24 = .ok (.lconst 0, 1) := by decide +kernel
theorem dX5_openWays_25 : decode cX5_openWays 25 = .ok (.goto 9, 3) := by decide +kernel
theorem dX5_openWays_28 : decode cX5_openWays 28 = .ok (.aload_n 0, 1) := by decide +kernel
theorem dX5_openWays_29 : decode cX5_openWays 29 = .ok (.getfield 21, 3) := by decide +kernel
theorem dX5_openWays_32 : decode cX5_openWays 32 = .ok (.iload_n 3, 1) := by decide +kernel
theorem dX5_openWays_33 : decode cX5_openWays 33 = .ok (.laload, 1) := by decide +kernel
theorem dX5_openWays_34 : decode cX5_openWays 34 = .ok (.ladd, 1) := by decide +kernel
theorem dX5_openWays_35 : decode cX5_openWays 35 = .ok (.lstore_n 1, 1) := by decide +kernel
theorem dX5_openWays_36 : decode cX5_openWays 36 = .ok (.iinc 3 1, 3) := by decide +kernel
theorem dX5_openWays_39 : decode cX5_openWays 39 = .ok (.goto (-32), 3) := by decide +kernel
theorem dX5_openWays_42 : decode cX5_openWays 42 = .ok (.lload_n 1, 1) := by decide +kernel
theorem dX5_openWays_43 : decode cX5_openWays 43 = .ok (.lreturn, 1) := by decide +kernel
theorem dX5_rowsToShut_0 : decode cX5_rowsToShut 0 = .ok (.aload_n 0, 1) := by decide +kernel
theorem dX5_rowsToShut_1 : decode cX5_rowsToShut 1 = .ok (.invokevirtual 130, 3) := by decide +kernel
theorem dX5_rowsToShut_4 : decode cX5_rowsToShut 4 = .ok (.iconst 0, 1) := by decide +kernel
theorem dX5_rowsToShut_5 : decode cX5_rowsToShut 5 = .ok (.istore_n 2, 1) := by decide +kernel
theorem dX5_rowsToShut_6 : decode cX5_rowsToShut 6 = .ok (.iload_n 2, 1) := by decide +kernel
theorem dX5_rowsToShut_7 : decode cX5_rowsToShut 7 = .ok (.iload_n 1, 1) := by decide +kernel
theorem dX5_rowsToShut_8 : decode cX5_rowsToShut 8 = .ok (.if_icmp .ge 14, 3) := by decide +kernel
theorem dX5_rowsToShut_11 : decode cX5_rowsToShut 11 = .ok (.aload_n 0, 1) := by decide +kernel
theorem dX5_rowsToShut_12 : decode cX5_rowsToShut 12 = .ok (.iconst (-1), 1) := by decide +kernel
theorem dX5_rowsToShut_13 : decode cX5_rowsToShut 13 = .ok (.invokevirtual 133, 3) := by decide +kernel
theorem dX5_rowsToShut_16 : decode cX5_rowsToShut 16 = .ok (.iinc 2 1, 3) := by decide +kernel
theorem dX5_rowsToShut_19 : decode cX5_rowsToShut 19 = .ok (.goto (-13), 3) := by decide +kernel
theorem dX5_rowsToShut_22 : decode cX5_rowsToShut 22 = .ok (.aload_n 0, 1) := by decide +kernel
theorem dX5_rowsToShut_23 : decode cX5_rowsToShut 23 = .ok (.invokevirtual 137, 3) := by decide +kernel
theorem dX5_rowsToShut_26 : decode cX5_rowsToShut 26 = .ok (.aload_n 0, 1) := by decide +kernel
theorem dX5_rowsToShut_27 : decode cX5_rowsToShut 27 = .ok (.invokevirtual 141, 3) := by decide +kernel
theorem dX5_rowsToShut_30 : decode cX5_rowsToShut 30 = .ok (.lsub, 1) := by decide +kernel
theorem dX5_rowsToShut_31 : decode cX5_rowsToShut 31 = .ok (.lreturn, 1) := by decide +kernel
theorem dX5_passDays_0 : decode cX5_passDays 0 = .ok (.aload_n 0, 1) := by decide +kernel
theorem dX5_passDays_1 : decode cX5_passDays 1 = .ok (.invokevirtual 130, 3) := by decide +kernel
theorem dX5_passDays_4 : decode cX5_passDays 4 = .ok (.aload_n 0, 1) := by decide +kernel
theorem dX5_passDays_5 : decode cX5_passDays 5 = .ok (.getfield 28, 3) := by decide +kernel
theorem dX5_passDays_8 : decode cX5_passDays 8 = .ok (.lconst 0, 1) := by decide +kernel
theorem dX5_passDays_9 : decode cX5_passDays 9 = .ok (.invokestatic 124, 3) := by decide +kernel
theorem dX5_passDays_12 : decode cX5_passDays 12 = .ok (.aload_n 0, 1) := by decide +kernel
theorem dX5_passDays_13 : decode cX5_passDays 13 = .ok (.lconst 1, 1) := by decide +kernel
theorem dX5_passDays_14 : decode cX5_passDays 14 = .ok (.putfield 31, 3) := by decide +kernel
theorem dX5_passDays_17 : decode cX5_passDays 17 = .ok (.aload_n 0, 1) := by decide +kernel
theorem dX5_passDays_18 : decode cX5_passDays 18 = .ok (.lconst 0, 1) := by decide +kernel
theorem dX5_passDays_19 : decode cX5_passDays 19 = .ok (.putfield 35, 3) := by decide +kernel
theorem dX5_passDays_22 : decode cX5_passDays 22 = .ok (.aload_n 0, 1) := by decide +kernel
theorem dX5_passDays_23 : decode cX5_passDays 23 = .ok (.getfield 52, 3) := by decide +kernel
theorem dX5_passDays_26 : decode cX5_passDays 26 = .ok (.invokevirtual 144, 3) := by decide +kernel
theorem dX5_passDays_29 : decode cX5_passDays 29 = .ok (.istore_n 2, 1) := by decide +kernel
theorem dX5_passDays_30 : decode cX5_passDays 30 = .ok (.iconst 0, 1) := by decide +kernel
theorem dX5_passDays_31 : decode cX5_passDays 31 = .ok (.istore_n 3, 1) := by decide +kernel
theorem dX5_passDays_32 : decode cX5_passDays 32 = .ok (.iload_n 3, 1) := by decide +kernel
theorem dX5_passDays_33 : decode cX5_passDays 33 = .ok (.iload_n 1, 1) := by decide +kernel
theorem dX5_passDays_34 : decode cX5_passDays 34 = .ok (.if_icmp .ge 18, 3) := by decide +kernel
theorem dX5_passDays_37 : decode cX5_passDays 37 = .ok (.iload_n 2, 1) := by decide +kernel
theorem dX5_passDays_38 : decode cX5_passDays 38 = .ok (.ifCond .le 14, 3) := by decide +kernel
theorem dX5_passDays_41 : decode cX5_passDays 41 = .ok (.aload_n 0, 1) := by decide +kernel
theorem dX5_passDays_42 : decode cX5_passDays 42 = .ok (.iload_n 2, 1) := by decide +kernel
theorem dX5_passDays_43 : decode cX5_passDays 43 = .ok (.invokevirtual 147, 3) := by decide +kernel
theorem dX5_passDays_46 : decode cX5_passDays 46 = .ok (.iinc 3 1, 3) := by decide +kernel
theorem dX5_passDays_49 : decode cX5_passDays 49 = .ok (.goto (-17), 3) := by decide +kernel
theorem dX5_passDays_52 : decode cX5_passDays 52 = .ok (.return_, 1) := by decide +kernel
theorem dX6_keep_0 : decode cX6_keep 0 = .ok (.aload_n 0, 1) := by decide +kernel
theorem dX6_keep_1 : decode cX6_keep 1 = .ok (.getfield 11, 3) := by decide +kernel
theorem dX6_keep_4 : decode cX6_keep 4 = .ok (.aload_n 0, 1) := by decide +kernel
theorem dX6_keep_5 : decode cX6_keep 5 = .ok (.getfield 17, 3) := by decide +kernel
theorem dX6_keep_8 : decode cX6_keep 8 = .ok (.aaload, 1) := by decide +kernel
theorem dX6_keep_9 : decode cX6_keep 9 = .ok (.aload_n 1, 1) := by decide +kernel
theorem dX6_keep_10 : decode cX6_keep 10 = .ok (.invokevirtual 25, 3) := by decide +kernel
theorem dX6_keep_13 : decode cX6_keep 13 = .ok (.aload_n 0, 1) := by decide +kernel
theorem dX6_keep_14 : decode cX6_keep 14 = .ok (.aload_n 0, 1) := by decide +kernel
theorem dX6_keep_15 : decode cX6_keep 15 = .ok (.getfield 17, 3) := by decide +kernel
theorem dX6_keep_18 : decode cX6_keep 18 = .ok (.iconst 1, 1) := by decide +kernel
theorem dX6_keep_19 : decode cX6_keep 19 = .ok (.iadd, 1) := by decide +kernel
theorem dX6_keep_20 : decode cX6_keep 20 = .ok (.bipush 10, 2) := by decide +kernel
theorem dX6_keep_22 : decode cX6_keep 22 = .ok (.irem, 1) := by decide +kernel
theorem dX6_keep_23 : decode cX6_keep 23 = .ok (.putfield 17, 3) := by decide +kernel
theorem dX6_keep_26 : decode cX6_keep 26 = .ok (.aload_n 0, 1) := by decide +kernel
theorem dX6_keep_27 : decode cX6_keep 27 = .ok (.aload_n 0, 1) := by decide +kernel
theorem dX6_keep_28 : decode cX6_keep 28 = .ok (.getfield 21, 3) := by decide +kernel
theorem dX6_keep_31 : decode cX6_keep 31 = .ok (.iconst 1, 1) := by decide +kernel
theorem dX6_keep_32 : decode cX6_keep 32 = .ok (.iadd, 1) := by decide +kernel
theorem dX6_keep_33 : decode cX6_keep 33 = .ok (.bipush 10, 2) := by decide +kernel
theorem dX6_keep_35 : decode cX6_keep 35 = .ok (.invokestatic 29, 3) := by decide +kernel
theorem dX6_keep_38 : decode cX6_keep 38 = .ok (.putfield 21, 3) := by decide +kernel
theorem dX6_keep_41 : decode cX6_keep 41 = .ok (.return_, 1) := by decide +kernel
theorem dX7_clear_0 : decode cX7_clear 0 = .ok (.aload_n 0, 1) := by decide +kernel
theorem dX7_clear_1 : decode cX7_clear 1 = .ok (.iconst 0, 1) := by decide +kernel
theorem dX7_clear_2 : decode cX7_clear 2 = .ok (.putfield 9, 3) := by decide +kernel
theorem dX7_clear_5 : decode cX7_clear 5 = .ok (.aload_n 0, 1) := by decide +kernel
theorem dX7_clear_6 : decode cX7_clear 6 = .ok (.iconst 0, 1) := by decide +kernel
theorem dX7_clear_7 : decode cX7_clear 7 = .ok (.putfield 15, 3) := by decide +kernel
theorem dX7_clear_10 : decode cX7_clear 10 = .ok (.aload_n 0, 1) := by decide +kernel
theorem dX7_clear_11 : decode cX7_clear 11 = .ok (.iconst 0, 1) := by decide +kernel
theorem dX7_clear_12 : decode cX7_clear 12 = .ok (.putfield 31, 3) := by decide +kernel
theorem dX7_clear_15 : decode cX7_clear 15 = .ok (.aload_n 0, 1) := by decide +kernel
theorem dX7_clear_16 : decode cX7_clear 16 = .ok (.iconst 0, 1) := by decide +kernel
theorem dX7_clear_17 : decode cX7_clear 17 = .ok (.putfield 34, 3) := by decide +kernel
theorem dX7_clear_20 : decode cX7_clear 20 = .ok (.aload_n 0, 1) := by decide +kernel
theorem dX7_clear_21 : decode cX7_clear 21 = .ok (.iconst 0, 1) := by decide +kernel
theorem dX7_clear_22 : decode cX7_clear 22 = .ok (.putfield 37, 3) := by decide +kernel
theorem dX7_clear_25 : decode cX7_clear 25 = .ok (.aload_n 0, 1) := by decide +kernel
theorem dX7_clear_26 : decode cX7_clear 26 = .ok (.iconst 0, 1) := by decide +kernel
theorem dX7_clear_27 : decode cX7_clear 27 = .ok (.putfield 40, 3) := by decide +kernel
theorem dX7_clear_30 : decode cX7_clear 30 = .ok (.aload_n 0, 1) := by decide +kernel
theorem dX7_clear_31 : decode cX7_clear 31 = .ok (.iconst 0, 1) := by decide +kernel
theorem dX7_clear_32 : decode cX7_clear 32 = .ok (.putfield 43, 3) := by decide +kernel
theorem dX7_clear_35 : decode cX7_clear 35 = .ok (.return_, 1) := by decide +kernel
theorem dX7_copyFrom_0 : decode cX7_copyFrom 0 = .ok (.aload_n 0, 1) := by decide +kernel
theorem dX7_copyFrom_1 : decode cX7_copyFrom 1 = .ok (.aload_n 1, 1) := by decide +kernel
theorem dX7_copyFrom_2 : decode cX7_copyFrom 2 = .ok (.getfield 9, 3) := by decide +kernel
theorem dX7_copyFrom_5 : decode cX7_copyFrom 5 = .ok (.putfield 9, 3) := by decide +kernel
theorem dX7_copyFrom_8 : decode cX7_copyFrom 8 = .ok (.aload_n 0, 1) := by decide +kernel
theorem dX7_copyFrom_9 : decode cX7_copyFrom 9 = .ok (.aload_n 1, 1) := by decide +kernel
theorem dX7_copyFrom_10 : decode cX7_copyFrom 10 = .ok (.getfield 15, 3) := by decide +kernel
theorem dX7_copyFrom_13 : decode cX7_copyFrom 13 = .ok (.putfield 15, 3) := by decide +kernel
theorem dX7_copyFrom_16 : decode cX7_copyFrom 16 = .ok (.aload_n 0, 1) := by decide +kernel
theorem dX7_copyFrom_17 : decode cX7_copyFrom 17 = .ok (.aload_n 1, 1) := by decide +kernel
theorem dX7_copyFrom_18 : decode cX7_copyFrom 18 = .ok (.getfield 31, 3) := by decide +kernel
theorem dX7_copyFrom_21 : decode cX7_copyFrom 21 = .ok (.putfield 31, 3) := by decide +kernel
theorem dX7_copyFrom_24 : decode cX7_copyFrom 24 = .ok (.aload_n 0, 1) := by decide +kernel
theorem dX7_copyFrom_25 : decode cX7_copyFrom 25 = .ok (.aload_n 1, 1) := by decide +kernel
theorem dX7_copyFrom_26 : decode cX7_copyFrom 26 = .ok (.getfield 34, 3) := by decide +kernel
theorem dX7_copyFrom_29 : decode cX7_copyFrom 29 = .ok (.putfield 34, 3) := by decide +kernel
theorem dX7_copyFrom_32 : decode cX7_copyFrom 32 = .ok (.aload_n 0, 1) := by decide +kernel
theorem dX7_copyFrom_33 : decode cX7_copyFrom 33 = .ok (.aload_n 1, 1) := by decide +kernel
theorem dX7_copyFrom_34 : decode cX7_copyFrom 34 = .ok (.getfield 37, 3) := by decide +kernel
theorem dX7_copyFrom_37 : decode cX7_copyFrom 37 = .ok (.putfield 37, 3) := by decide +kernel
theorem dX7_copyFrom_40 : decode cX7_copyFrom 40 = .ok (.aload_n 0, 1) := by decide +kernel
theorem dX7_copyFrom_41 : decode cX7_copyFrom 41 = .ok (.aload_n 1, 1) := by decide +kernel
theorem dX7_copyFrom_42 : decode cX7_copyFrom 42 = .ok (.getfield 40, 3) := by decide +kernel
theorem dX7_copyFrom_45 : decode cX7_copyFrom 45 = .ok (.putfield 40, 3) := by decide +kernel
theorem dX7_copyFrom_48 : decode cX7_copyFrom 48 = .ok (.aload_n 0, 1) := by decide +kernel
theorem dX7_copyFrom_49 : decode cX7_copyFrom 49 = .ok (.aload_n 1, 1) := by decide +kernel
theorem dX7_copyFrom_50 : decode cX7_copyFrom 50 = .ok (.getfield 43, 3) := by decide +kernel
theorem dX7_copyFrom_53 : decode cX7_copyFrom 53 = .ok (.putfield 43, 3) := by decide +kernel
theorem dX7_copyFrom_56 : decode cX7_copyFrom 56 = .ok (.iconst 0, 1) := by decide +kernel
theorem dX7_copyFrom_57 : decode cX7_copyFrom 57 = .ok (.istore_n 2, 1) := by decide +kernel
theorem dX7_copyFrom_58 : decode cX7_copyFrom 58 = .ok (.iload_n 2, 1) := by decide +kernel
theorem dX7_copyFrom_59 : decode cX7_copyFrom 59 = .ok (.bipush 6, 2) := by decide +kernel
theorem dX7_copyFrom_61 : decode cX7_copyFrom 61 = .ok (.if_icmp .ge 45, 3) := by decide +kernel
theorem dX7_copyFrom_64 : decode cX7_copyFrom 64 = .ok (.aload_n 0, 1) := by decide +kernel
theorem dX7_copyFrom_65 : decode cX7_copyFrom 65 = .ok (.getfield 18, 3) := by decide +kernel
theorem dX7_copyFrom_68 : decode cX7_copyFrom 68 = .ok (.iload_n 2, 1) := by decide +kernel
theorem dX7_copyFrom_69 : decode cX7_copyFrom 69 = .ok (.aload_n 1, 1) := by decide +kernel
theorem dX7_copyFrom_70 : decode cX7_copyFrom 70 = .ok (.getfield 18, 3) := by decide +kernel
theorem dX7_copyFrom_73 : decode cX7_copyFrom 73 = .ok (.iload_n 2, 1) := by decide +kernel
theorem dX7_copyFrom_74 : decode cX7_copyFrom 74 = .ok (.iaload, 1) := by decide +kernel
theorem dX7_copyFrom_75 : decode cX7_copyFrom 75 = .ok (.iastore, 1) := by decide +kernel
theorem dX7_copyFrom_76 : decode cX7_copyFrom 76 = .ok (.aload_n 0, 1) := by decide +kernel
theorem dX7_copyFrom_77 : decode cX7_copyFrom 77 = .ok (.getfield 22, 3) := by decide +kernel
theorem dX7_copyFrom_80 : decode cX7_copyFrom 80 = .ok (.iload_n 2, 1) := by decide +kernel
theorem dX7_copyFrom_81 : decode cX7_copyFrom 81 = .ok (.aload_n 1, 1) := by decide +kernel
theorem dX7_copyFrom_82 : decode cX7_copyFrom 82 = .ok (.getfield 22, 3) := by decide +kernel
theorem dX7_copyFrom_85 : decode cX7_copyFrom 85 = .ok (.iload_n 2, 1) := by decide +kernel
theorem dX7_copyFrom_86 : decode cX7_copyFrom 86 = .ok (.iaload, 1) := by decide +kernel
theorem dX7_copyFrom_87 : decode cX7_copyFrom 87 = .ok (.iastore, 1) := by decide +kernel
theorem dX7_copyFrom_88 : decode cX7_copyFrom 88 = .ok (.aload_n 0, 1) := by decide +kernel
theorem dX7_copyFrom_89 : decode cX7_copyFrom 89 = .ok (.getfield 25, 3) := by decide +kernel
theorem dX7_copyFrom_92 : decode cX7_copyFrom 92 = .ok (.iload_n 2, 1) := by decide +kernel
theorem dX7_copyFrom_93 : decode cX7_copyFrom 93 = .ok (.aload_n 1, 1) := by decide +kernel
theorem dX7_copyFrom_94 : decode cX7_copyFrom 94 = .ok (.getfield 25, 3) := by decide +kernel
theorem dX7_copyFrom_97 : decode cX7_copyFrom 97 = .ok (.iload_n 2, 1) := by decide +kernel
theorem dX7_copyFrom_98 : decode cX7_copyFrom 98 = .ok (.iaload, 1) := by decide +kernel
theorem dX7_copyFrom_99 : decode cX7_copyFrom 99 = .ok (.iastore, 1) := by decide +kernel
theorem dX7_copyFrom_100 : decode cX7_copyFrom 100 = .ok (.iinc 2 1, 3) := by decide +kernel
theorem dX7_copyFrom_103 : decode cX7_copyFrom 103 = .ok (.goto (-45), 3) := by decide +kernel
theorem dX7_copyFrom_106 : decode cX7_copyFrom 106 = .ok (.iconst 0, 1) := by decide +kernel
theorem dX7_copyFrom_107 : decode cX7_copyFrom 107 = .ok (.istore_n 2, 1) := by decide +kernel
theorem dX7_copyFrom_108 : decode cX7_copyFrom 108 = .ok (.iload_n 2, 1) := by decide +kernel
theorem dX7_copyFrom_109 : decode cX7_copyFrom 109 = .ok (.aload_n 0, 1) := by decide +kernel
theorem dX7_copyFrom_110 : decode cX7_copyFrom 110 = .ok (.getfield 31, 3) := by decide +kernel
theorem dX7_copyFrom_113 : decode cX7_copyFrom 113 = .ok (.if_icmp .ge 30, 3) := by decide +kernel
theorem dX7_copyFrom_116 : decode cX7_copyFrom 116 = .ok (.iload_n 2, 1) := by decide +kernel
theorem dX7_copyFrom_117 : decode cX7_copyFrom 117 = .ok (.aload_n 0, 1) := by decide +kernel
theorem dX7_copyFrom_118 : decode cX7_copyFrom 118 = .ok (.getfield 28, 3) := by decide +kernel
theorem dX7_copyFrom_121 : decode cX7_copyFrom 121 = .ok (.arraylength, 1) := by decide +kernel
theorem dX7_copyFrom_122 : decode cX7_copyFrom 122 = .ok (.if_icmp .ge 21, 3) := by decide +kernel
theorem dX7_copyFrom_125 : decode cX7_copyFrom 125 = .ok (.aload_n 0, 1) := by decide +kernel
theorem dX7_copyFrom_126 : decode cX7_copyFrom 126 = .ok (.getfield 28, 3) := by decide +kernel
theorem dX7_copyFrom_129 : decode cX7_copyFrom 129 = .ok (.iload_n 2, 1) := by decide +kernel
theorem dX7_copyFrom_130 : decode cX7_copyFrom 130 = .ok (.aload_n 1, 1) := by decide +kernel
theorem dX7_copyFrom_131 : decode cX7_copyFrom 131 = .ok (.getfield 28, 3) := by decide +kernel
theorem dX7_copyFrom_134 : decode cX7_copyFrom 134 = .ok (.iload_n 2, 1) := by decide +kernel
theorem dX7_copyFrom_135 : decode cX7_copyFrom 135 = .ok (.iaload, 1) := by decide +kernel
theorem dX7_copyFrom_136 : decode cX7_copyFrom 136 = .ok (.iastore, 1) := by decide +kernel
theorem dX7_copyFrom_137 : decode cX7_copyFrom 137 = .ok (.iinc 2 1, 3) := by decide +kernel
theorem dX7_copyFrom_140 : decode cX7_copyFrom 140 = .ok (.goto (-32), 3) := by decide +kernel
theorem dX7_copyFrom_143 : decode cX7_copyFrom 143 = .ok (.return_, 1) := by decide +kernel
theorem dX7_together_0 : decode cX7_together 0 = .ok (.iconst 0, 1) := by decide +kernel
theorem dX7_together_1 : decode cX7_together 1 = .ok (.istore_n 1, 1) := by decide +kernel
theorem dX7_together_2 : decode cX7_together 2 = .ok (.iconst 0, 1) := by decide +kernel
theorem dX7_together_3 : decode cX7_together 3 = .ok (.istore_n 2, 1) := by decide +kernel
theorem dX7_together_4 : decode cX7_together 4 = .ok (.iload_n 2, 1) := by decide +kernel
theorem dX7_together_5 : decode cX7_together 5 = .ok (.aload_n 0, 1) := by decide +kernel
theorem dX7_together_6 : decode cX7_together 6 = .ok (.getfield 9, 3) := by decide +kernel
theorem dX7_together_9 : decode cX7_together 9 = .ok (.if_icmp .ge 18, 3) := by decide +kernel
theorem dX7_together_12 : decode cX7_together 12 = .ok (.iload_n 1, 1) := by decide +kernel
theorem dX7_together_13 : decode cX7_together 13 = .ok (.aload_n 0, 1) := by decide +kernel
theorem dX7_together_14 : decode cX7_together 14 = .ok (.getfield 25, 3) := by decide +kernel
theorem dX7_together_17 : decode cX7_together 17 = .ok (.iload_n 2, 1) := by decide +kernel
theorem dX7_together_18 : decode cX7_together 18 = .ok (.iaload, 1) := by decide +kernel
theorem dX7_together_19 : decode cX7_together 19 = .ok (.iadd, 1) := by decide +kernel
theorem dX7_together_20 : decode cX7_together 20 = .ok (.istore_n 1, 1) := by decide +kernel
theorem dX7_together_21 : decode cX7_together 21 = .ok (.iinc 2 1, 3) := by decide +kernel
theorem dX7_together_24 : decode cX7_together 24 = .ok (.goto (-20), 3) := by decide +kernel
theorem dX7_together_27 : decode cX7_together 27 = .ok (.iload_n 1, 1) := by decide +kernel
theorem dX7_together_28 : decode cX7_together 28 = .ok (.ireturn, 1) := by decide +kernel
theorem dX8_read_0 : decode cX8_read 0 = .ok (.aload_n 0, 1) := by decide +kernel
theorem dX8_read_1 : decode cX8_read 1 = .ok (.aload_n 3, 1) := by decide +kernel
theorem dX8_read_2 : decode cX8_read 2 = .ok (.putfield 28, 3) := by decide +kernel
theorem dX8_read_5 : decode cX8_read 5 = .ok (.aload_n 0, 1) := by decide +kernel
theorem dX8_read_6 : decode cX8_read 6 = .ok (.aload 4, 2) := by decide +kernel
theorem dX8_read_8 : decode cX8_read 8 = .ok (.putfield 32, 3) := by decide +kernel
theorem dX8_read_11 : decode cX8_read 11 = .ok (.aload_n 0, 1) := by decide +kernel
theorem dX8_read_12 : decode cX8_read 12 = .ok (.getfield 28, 3) := by decide +kernel
theorem dX8_read_15 : decode cX8_read 15 = .ok (.invokevirtual 36, 3) := by decide +kernel
theorem dX8_read_18 : decode cX8_read 18 = .ok (.aload_n 0, 1) := by decide +kernel
theorem dX8_read_19 : decode cX8_read 19 = .ok (.getfield 32, 3) := by decide +kernel
theorem dX8_read_22 : decode cX8_read 22 = .ok (.invokevirtual 41, 3) := by decide +kernel
theorem dX8_read_25 : decode cX8_read 25 = .ok (.aload_n 0, 1) := by decide +kernel
theorem dX8_read_26 : decode cX8_read 26 = .ok (.aload_n 1, 1) := by decide +kernel
theorem dX8_read_27 : decode cX8_read 27 = .ok (.iload_n 2, 1) := by decide +kernel
theorem dX8_read_28 : decode cX8_read 28 = .ok (.invokevirtual 44, 3) := by decide +kernel
theorem dX8_read_31 : decode cX8_read 31 = .ok (.aload_n 0, 1) := by decide +kernel
theorem dX8_read_32 : decode cX8_read 32 = .ok (.iconst 0, 1) := by decide +kernel
theorem dX8_read_33 : decode cX8_read 33 = .ok (.putfield 18, 3) := by decide +kernel
theorem dX8_read_36 : decode cX8_read 36 = .ok (.aload_n 0, 1) := by decide +kernel
theorem dX8_read_37 : decode cX8_read 37 = .ok (.iconst 0, 1) := by decide +kernel
theorem dX8_read_38 : decode cX8_read 38 = .ok (.putfield 22, 3) := by decide +kernel
theorem dX8_read_41 : decode cX8_read 41 = .ok (.aload_n 0, 1) := by decide +kernel
theorem dX8_read_42 : decode cX8_read 42 = .ok (.iconst (-1), 1) := by decide +kernel
theorem dX8_read_43 : decode cX8_read 43 = .ok (.putfield 25, 3) := by decide +kernel
theorem dX8_read_46 : decode cX8_read 46 = .ok (.aload_n 0, 1) := by decide +kernel
theorem dX8_read_47 : decode cX8_read 47 = .ok (.sipush 1008, 3) := by decide +kernel
theorem dX8_read_50 : decode cX8_read 50 = .ok (.invokevirtual 50, 3) := by decide +kernel
theorem dX8_read_53 : decode cX8_read 53 = .ok (.aload_n 0, 1) := by decide +kernel
theorem dX8_read_54 : decode cX8_read 54 = .ok (.invokevirtual 54, 3) := by decide +kernel
theorem dX8_read_57 : decode cX8_read 57 = .ok (.iconst 0, 1) := by decide +kernel
theorem dX8_read_58 : decode cX8_read 58 = .ok (.istore 5, 2) := by decide +kernel
theorem dX8_read_60 : decode cX8_read 60 = .ok (.iload 5, 2) := by decide +kernel
theorem dX8_read_62 : decode cX8_read 62 = .ok (.sipush 900, 3) := by decide +kernel
theorem dX8_read_65 : decode cX8_read 65 = .ok (.if_icmp .ge 34, 3) := by decide +kernel
theorem dX8_read_68 : decode cX8_read 68 = .ok (.aload_n 0, 1) := by decide +kernel
theorem dX8_read_69 : decode cX8_read 69 = .ok (.getfield 22, 3) := by decide +kernel
theorem dX8_read_72 : decode cX8_read 72 = .ok (.ifCond .ne 27, 3) := by decide +kernel
theorem dX8_read_75 : decode cX8_read 75 = .ok (.aload_n 0, 1) := by decide +kernel
theorem dX8_read_76 : decode cX8_read 76 = .ok (.invokevirtual 57, 3) := by decide +kernel
theorem dX8_read_79 : decode cX8_read 79 = .ok (.sipush 3001, 3) := by decide +kernel
theorem dX8_read_82 : decode cX8_read 82 = .ok (.if_icmp .eq 17, 3) := by decide +kernel
theorem dX8_read_85 : decode cX8_read 85 = .ok (.aload_n 0, 1) := by decide +kernel
theorem dX8_read_86 : decode cX8_read 86 = .ok (.invokevirtual 61, 3) := by decide +kernel
theorem dX8_read_89 : decode cX8_read 89 = .ok (.aload_n 0, 1) := by decide +kernel
theorem dX8_read_90 : decode cX8_read 90 = .ok (.invokevirtual 54, 3) := by decide +kernel
theorem dX8_read_93 : decode cX8_read 93 = .ok (.iinc 5 1, 3) := by decide +kernel
theorem dX8_read_96 : decode cX8_read 96 = .ok (.goto (-36), 3) := by decide +kernel
theorem dX8_read_99 : decode cX8_read 99 = .ok (.return_, 1) := by decide +kernel
theorem dX8_split_0 : decode cX8_split 0 = .ok (.iconst 0, 1) := by decide +kernel
theorem dX8_split_1 : decode cX8_split 1 = .ok (.istore_n 3, 1) := by decide +kernel
theorem dX8_split_2 : decode cX8_split 2 = .ok (.iconst 0, 1) := by decide +kernel
theorem dX8_split_3 : decode cX8_split 3 = .ok (.istore 4, 2) := by decide +kernel
theorem dX8_split_5 : decode cX8_split 5 = .ok (.iconst 1, 1) := by decide +kernel
theorem dX8_split_6 : decode cX8_split 6 = .ok (.istore 5, 2) := by decide +kernel
theorem dX8_split_8 : decode cX8_split 8 = .ok (.iload 4, 2) := by decide +kernel
theorem dX8_split_10 : decode cX8_split 10 = .ok (.iload_n 2, 1) := by decide +kernel
theorem dX8_split_11 : decode cX8_split 11 = .ok (.if_icmp .ge 98, 3) := by decide +kernel
theorem dX8_split_14 : decode cX8_split 14 = .ok (.iload 4, 2) := by decide +kernel
theorem dX8_split_16 : decode cX8_split 16 = .ok (.aload_n 1, 1) := by decide +kernel
theorem dX8_split_17 : decode cX8_split 17 = .ok (.arraylength, 1) := by decide +kernel
theorem dX8_split_18 : decode cX8_split 18 = .ok (.if_icmp .ge 91, 3) := by decide +kernel
theorem dX8_split_21 : decode cX8_split 21 = .ok (.iload 5, 2) := by decide +kernel
theorem dX8_split_23 : decode cX8_split 23 = .ok (.ifCond .eq 86, 3) := by decide +kernel
theorem dX8_split_26 : decode cX8_split 26 = .ok (.iload 4, 2) := by decide +kernel
theorem dX8_split_28 : decode cX8_split 28 = .ok (.iconst 1, 1) := by decide +kernel
theorem dX8_split_29 : decode cX8_split 29 = .ok (.iadd, 1) := by decide +kernel
theorem dX8_split_30 : decode cX8_split 30 = .ok (.istore 6, 2) := by decide +kernel
theorem dX8_split_32 : decode cX8_split 32 = .ok (.aload_n 1, 1) := by decide +kernel
theorem dX8_split_33 : decode cX8_split 33 = .ok (.iload 4, 2) := by decide +kernel
theorem dX8_split_35 : decode cX8_split 35 = .ok (.iaload, 1) := by decide +kernel
theorem dX8_split_36 : decode cX8_split 36 = .ok (.invokestatic 64, 3) := by decide +kernel
theorem dX8_split_39 : decode cX8_split 39 = .ok (.ifCond .ne 56, 3) := by decide +kernel
theorem dX8_split_42 : decode cX8_split 42 = .ok (.aload_n 1, 1) := by decide +kernel
theorem dX8_split_43 : decode cX8_split 43 = .ok (.iload 4, 2) := by decide +kernel
theorem dX8_split_45 : decode cX8_split 45 = .ok (.iload_n 2, 1) := by decide +kernel
theorem dX8_split_46 : decode cX8_split 46 = .ok (.invokestatic 68, 3) := by decide +kernel
theorem dX8_split_49 : decode cX8_split 49 = .ok (.istore 6, 2) := by decide +kernel
theorem dX8_split_51 : decode cX8_split 51 = .ok (.aload_n 0, 1) := by decide +kernel
theorem dX8_split_52 : decode cX8_split 52 = .ok (.getfield 15, 3) := by decide +kernel
theorem dX8_split_55 : decode cX8_split 55 = .ok (.iload_n 3, 1) := by decide +kernel
theorem dX8_split_56 : decode cX8_split 56 = .ok (.iload 4, 2) := by decide +kernel
theorem dX8_split_58 : decode cX8_split 58 = .ok (.iastore, 1) := by decide +kernel
theorem dX8_split_59 : decode cX8_split 59 = .ok (.aload_n 0, 1) := by decide +kernel
theorem dX8_split_60 : decode cX8_split 60 = .ok (.getfield 9, 3) := by decide +kernel
theorem dX8_split_63 : decode cX8_split 63 = .ok (.iload_n 3, 1) := by decide +kernel
theorem dX8_split_64 : decode cX8_split 64 = .ok (.aload_n 1, 1) := by decide +kernel
theorem dX8_split_65 : decode cX8_split 65 = .ok (.iload 4, 2) := by decide +kernel
theorem dX8_split_67 : decode cX8_split 67 = .ok (.iload 6, 2) := by decide +kernel
theorem dX8_split_69 : decode cX8_split 69 = .ok (.invokestatic 72, 3) := by decide +kernel
theorem dX8_split_72 : decode cX8_split 72 = .ok (.iastore, 1) := by decide +kernel
theorem dX8_split_73 : decode cX8_split 73 = .ok (.aload_n 0, 1) := by decide +kernel
theorem dX8_split_74 : decode cX8_split 74 = .ok (.getfield 9, 3) := by decide +kernel
theorem dX8_split_77 : decode cX8_split 77 = .ok (.iload_n 3, 1) := by decide +kernel
theorem dX8_split_78 : decode cX8_split 78 = .ok (.iaload, 1) := by decide +kernel
theorem dX8_split_79 : decode cX8_split 79 = .ok (.sipush 3000, 3) := by decide +kernel
theorem dX8_split_82 : decode cX8_split 82 = .ok (.if_icmp .eq 7, 3) := by decide +kernel
theorem dX8_split_85 : decode cX8_split 85 = .ok (.iconst 1, 1) := by decide +kernel
theorem dX8_split_86 : decode cX8_split 86 = .ok (.goto 4, 3) := by decide +kernel
theorem dX8_split_89 : decode cX8_split 89 = .ok (.iconst 0, 1) := by decide +kernel
theorem dX8_split_90 : decode cX8_split 90 = .ok (.istore 5, 2) := by decide +kernel
theorem dX8_split_92 : decode cX8_split 92 = .ok (.iinc 3 1, 3) := by decide +kernel
theorem dX8_split_95 : decode cX8_split 95 = .ok (.iload 4, 2) := by decide +kernel
theorem dX8_split_97 : decode cX8_split 97 = .ok (.iconst 1, 1) := by decide +kernel
theorem dX8_split_98 : decode cX8_split 98 = .ok (.iadd, 1) := by decide +kernel
theorem dX8_split_99 : decode cX8_split 99 = .ok (.iload 6, 2) := by decide +kernel
theorem dX8_split_101 : decode cX8_split 101 = .ok (.invokestatic 75, 3) := by decide +kernel
theorem dX8_split_104 : decode cX8_split 104 = .ok (.istore 4, 2) := by decide +kernel
theorem dX8_split_106 : decode cX8_split 106 = .ok (.goto (-98), 3) := by decide +kernel
theorem dX8_split_109 : decode cX8_split 109 = .ok (.aload_n 0, 1) := by decide +kernel
theorem dX8_split_110 : decode cX8_split 110 = .ok (.getfield 15, 3) := by decide +kernel
theorem dX8_split_113 : decode cX8_split 113 = .ok (.iload_n 3, 1) := by decide +kernel
theorem dX8_split_114 : decode cX8_split 114 = .ok (.iload_n 2, 1) := by decide +kernel
theorem dX8_split_115 : decode cX8_split 115 = .ok (.iastore, 1) := by decide +kernel
theorem dX8_split_116 : decode cX8_split 116 = .ok (.aload_n 0, 1) := by decide +kernel
theorem dX8_split_117 : decode cX8_split 117 = .ok (.getfield 9, 3) := by decide +kernel
theorem dX8_split_120 : decode cX8_split 120 = .ok (.iload_n 3, 1) := by decide +kernel
theorem dX8_split_121 : decode cX8_split 121 = .ok (.sipush 3001, 3) := by decide +kernel
theorem dX8_split_124 : decode cX8_split 124 = .ok (.iastore, 1) := by decide +kernel
theorem dX8_split_125 : decode cX8_split 125 = .ok (.return_, 1) := by decide +kernel
theorem dX8_token_0 : decode cX8_token 0 = .ok (.aload_n 0, 1) := by decide +kernel
theorem dX8_token_1 : decode cX8_token 1 = .ok (.getfield 18, 3) := by decide +kernel
theorem dX8_token_4 : decode cX8_token 4 = .ok (.aload_n 0, 1) := by decide +kernel
theorem dX8_token_5 : decode cX8_token 5 = .ok (.getfield 9, 3) := by decide +kernel
theorem dX8_token_8 : decode cX8_token 8 = .ok (.arraylength, 1) := by decide +kernel
theorem dX8_token_9 : decode cX8_token 9 = .ok (.if_icmp .ge 15, 3) := by decide +kernel
theorem dX8_token_12 : decode cX8_token 12 = .ok (.aload_n 0, 1) := by decide +kernel
theorem dX8_token_13 : decode cX8_token 13 = .ok (.getfield 9, 3) := by decide +kernel
theorem dX8_token_16 : decode cX8_token 16 = .ok (.aload_n 0, 1) := by decide +kernel
theorem dX8_token_17 : decode cX8_token 17 = .ok (.getfield 18, 3) := by decide +kernel
theorem dX8_token_20 : decode cX8_token 20 = .ok (.iaload, 1) := by decide +kernel
theorem dX8_token_21 : decode cX8_token 21 = .ok (.goto 6, 3) := by decide +kernel
theorem dX8_token_24 : decode cX8_token 24 = .ok (.sipush 3001, 3) := by decide +kernel
theorem dX8_token_27 : decode cX8_token 27 = .ok (.ireturn, 1) := by decide +kernel
theorem dX8_fail_0 : decode cX8_fail 0 = .ok (.aload_n 0, 1) := by decide +kernel
theorem dX8_fail_1 : decode cX8_fail 1 = .ok (.getfield 22, 3) := by decide +kernel
theorem dX8_fail_4 : decode cX8_fail 4 = .ok (.ifCond .ne 52, 3) := by decide +kernel
theorem dX8_fail_7 : decode cX8_fail 7 = .ok (.aload_n 0, 1) := by decide +kernel
theorem dX8_fail_8 : decode cX8_fail 8 = .ok (.getfield 18, 3) := by decide +kernel
theorem dX8_fail_11 : decode cX8_fail 11 = .ok (.aload_n 0, 1) := by decide +kernel
theorem dX8_fail_12 : decode cX8_fail 12 = .ok (.getfield 9, 3) := by decide +kernel
theorem dX8_fail_15 : decode cX8_fail 15 = .ok (.arraylength, 1) := by decide +kernel
theorem dX8_fail_16 : decode cX8_fail 16 = .ok (.if_icmp .ge 40, 3) := by decide +kernel
theorem dX8_fail_19 : decode cX8_fail 19 = .ok (.aload_n 0, 1) := by decide +kernel
theorem dX8_fail_20 : decode cX8_fail 20 = .ok (.aload_n 0, 1) := by decide +kernel
theorem dX8_fail_21 : decode cX8_fail 21 = .ok (.getfield 9, 3) := by decide +kernel
theorem dX8_fail_24 : decode cX8_fail 24 = .ok (.aload_n 0, 1) := by decide +kernel
theorem dX8_fail_25 : decode cX8_fail 25 = .ok (.getfield 18, 3) := by decide +kernel
theorem dX8_fail_28 : decode cX8_fail 28 = .ok (.iaload, 1) := by decide +kernel
theorem dX8_fail_29 : decode cX8_fail 29 = .ok (.sipush 3000, 3) := by decide +kernel
theorem dX8_fail_32 : decode cX8_fail 32 = .ok (.if_icmp .ne 7, 3) := by decide +kernel
theorem dX8_fail_35 : decode cX8_fail 35 = .ok (.iconst 1, 1) := by decide +kernel
theorem dX8_fail_36 : decode cX8_fail 36 = .ok (.goto 4, 3) := by decide +kernel
theorem dX8_fail_39 : decode cX8_fail 39 = .ok (.iload_n 1, 1) := by decide +kernel
theorem dX8_fail_40 : decode cX8_fail 40 = .ok (.putfield 22, 3) := by decide +kernel
theorem dX8_fail_43 : decode cX8_fail 43 = .ok (.aload_n 0, 1) := by decide +kernel
theorem dX8_fail_44 : decode cX8_fail 44 = .ok (.aload_n 0, 1) := by decide +kernel
theorem dX8_fail_45 : decode cX8_fail 45 = .ok (.getfield 15, 3) := by decide +kernel
theorem dX8_fail_48 : decode cX8_fail 48 = .ok (.aload_n 0, 1) := by decide +kernel
theorem dX8_fail_49 : decode cX8_fail 49 = .ok (.getfield 18, 3) := by decide +kernel
theorem dX8_fail_52 : decode cX8_fail 52 = .ok (.iaload, 1) := by decide +kernel
theorem dX8_fail_53 : decode cX8_fail 53 = .ok (.putfield 25, 3) := by decide +kernel
theorem dX8_fail_56 : decode cX8_fail 56 = .ok (.return_, 1) := by decide +kernel
theorem dX8_expect_0 : decode cX8_expect 0 = .ok (.aload_n 0, 1) := by decide +kernel
theorem dX8_expect_1 : decode cX8_expect 1 = .ok (.getfield 22, 3) := by decide +kernel
theorem dX8_expect_4 : decode cX8_expect 4 = .ok (.ifCond .eq 4, 3) := by decide +kernel
theorem dX8_expect_7 : decode cX8_expect 7 = .ok (.return_, 1) := by decide +kernel
theorem dX8_expect_8 : decode cX8_expect 8 = .ok (.aload_n 0, 1) := by decide +kernel
theorem dX8_expect_9 : decode cX8_expect 9 = .ok (.invokevirtual 57, 3) := by decide +kernel
theorem dX8_expect_12 : decode cX8_expect 12 = .ok (.iload_n 1, 1) := by decide +kernel
theorem dX8_expect_13 : decode cX8_expect 13 = .ok (.if_icmp .ne 16, 3) := by decide +kernel
theorem dX8_expect_16 : decode cX8_expect 16 = .ok (.aload_n 0, 1) := by decide +kernel
theorem dX8_expect_17 : decode cX8_expect 17 = .ok (.dup, 1) := by decide +kernel
theorem dX8_expect_18 : decode cX8_expect 18 = .ok (.getfield 18, 3) := by decide +kernel
theorem dX8_expect_21 : decode cX8_expect 21 = .ok (.iconst 1, 1) := by decide +kernel
theorem dX8_expect_22 : decode cX8_expect 22 = .ok (.iadd, 1) := by decide +kernel
theorem dX8_expect_23 : decode cX8_expect 23 = .ok (.putfield 18, 3) := by decide +kernel
theorem dX8_expect_26 : decode cX8_expect 26 = .ok (.goto 8, 3) := by decide +kernel
theorem dX8_expect_29 : decode cX8_expect 29 = .ok (.aload_n 0, 1) := by decide +kernel
theorem dX8_expect_30 : decode cX8_expect 30 = .ok (.iconst 2, 1) := by decide +kernel
theorem dX8_expect_31 : decode cX8_expect 31 = .ok (.invokevirtual 81, 3) := by decide +kernel
theorem dX8_expect_34 : decode cX8_expect 34 = .ok (.return_, 1) := by decide +kernel
theorem dX8_endLine_0 : decode cX8_endLine 0 = .ok (.aload_n 0, 1) := by decide +kernel
theorem dX8_endLine_1 : decode cX8_endLine 1 = .ok (.sipush 2059, 3) := by decide +kernel
theorem dX8_endLine_4 : decode cX8_endLine 4 = .ok (.invokevirtual 50, 3) := by decide +kernel
theorem dX8_endLine_7 : decode cX8_endLine 7 = .ok (.aload_n 0, 1) := by decide +kernel
theorem dX8_endLine_8 : decode cX8_endLine 8 = .ok (.getfield 28, 3) := by decide +kernel
theorem dX8_endLine_11 : decode cX8_endLine 11 = .ok (.dup, 1) := by decide +kernel
theorem dX8_endLine_12 : decode cX8_endLine 12 = .ok (.getfield 84, 3) := by decide +kernel
theorem dX8_endLine_15 : decode cX8_endLine 15 = .ok (.iconst 1, 1) := by decide +kernel
theorem dX8_endLine_16 : decode cX8_endLine 16 = .ok (.iadd, 1) := by decide +kernel
theorem dX8_endLine_17 : decode cX8_endLine 17 = .ok (.putfield 84, 3) := by decide +kernel
theorem dX8_endLine_20 : decode cX8_endLine 20 = .ok (.return_, 1) := by decide +kernel
theorem dX9_clear_0 : decode cX9_clear 0 = .ok (.aload_n 0, 1) := by decide +kernel
theorem dX9_clear_1 : decode cX9_clear 1 = .ok (.iconst 0, 1) := by decide +kernel
theorem dX9_clear_2 : decode cX9_clear 2 = .ok (.putfield 9, 3) := by decide +kernel
theorem dX9_clear_5 : decode cX9_clear 5 = .ok (.aload_n 0, 1) := by decide +kernel
theorem dX9_clear_6 : decode cX9_clear 6 = .ok (.iconst 0, 1) := by decide +kernel
theorem dX9_clear_7 : decode cX9_clear 7 = .ok (.putfield 22, 3) := by decide +kernel
theorem dX9_clear_10 : decode cX9_clear 10 = .ok (.aload_n 0, 1) := by decide +kernel
theorem dX9_clear_11 : decode cX9_clear 11 = .ok (.iconst 0, 1) := by decide +kernel
theorem dX9_clear_12 : decode cX9_clear 12 = .ok (.putfield 25, 3) := by decide +kernel
theorem dX9_clear_15 : decode cX9_clear 15 = .ok (.aload_n 0, 1) := by decide +kernel
theorem dX9_clear_16 : decode cX9_clear 16 = .ok (.iconst 0, 1) := by decide +kernel
theorem dX9_clear_17 : decode cX9_clear 17 = .ok (.putfield 28, 3) := by decide +kernel
theorem dX9_clear_20 : decode cX9_clear 20 = .ok (.aload_n 0, 1) := by decide +kernel
theorem dX9_clear_21 : decode cX9_clear 21 = .ok (.iconst 0, 1) := by decide +kernel
theorem dX9_clear_22 : decode cX9_clear 22 = .ok (.putfield 31, 3) := by decide +kernel
theorem dX9_clear_25 : decode cX9_clear 25 = .ok (.aload_n 0, 1) := by decide +kernel
theorem dX9_clear_26 : decode cX9_clear 26 = .ok (.iconst 0, 1) := by decide +kernel
theorem dX9_clear_27 : decode cX9_clear 27 = .ok (.putfield 34, 3) := by decide +kernel
theorem dX9_clear_30 : decode cX9_clear 30 = .ok (.aload_n 0, 1) := by decide +kernel
theorem dX9_clear_31 : decode cX9_clear 31 = .ok (.iconst 0, 1) := by decide +kernel
theorem dX9_clear_32 : decode cX9_clear 32 = .ok (.putfield 37, 3) := by decide +kernel
theorem dX9_clear_35 : decode cX9_clear 35 = .ok (.return_, 1) := by decide +kernel
theorem dX9_copyFrom_0 : decode cX9_copyFrom 0 = .ok (.aload_n 0, 1) := by decide +kernel
theorem dX9_copyFrom_1 : decode cX9_copyFrom 1 = .ok (.aload_n 1, 1) := by decide +kernel
theorem dX9_copyFrom_2 : decode cX9_copyFrom 2 = .ok (.getfield 9, 3) := by decide +kernel
theorem dX9_copyFrom_5 : decode cX9_copyFrom 5 = .ok (.putfield 9, 3) := by decide +kernel
theorem dX9_copyFrom_8 : decode cX9_copyFrom 8 = .ok (.iconst 0, 1) := by decide +kernel
theorem dX9_copyFrom_9 : decode cX9_copyFrom 9 = .ok (.istore_n 2, 1) := by decide +kernel
theorem dX9_copyFrom_10 : decode cX9_copyFrom 10 = .ok (.iload_n 2, 1) := by decide +kernel
theorem dX9_copyFrom_11 : decode cX9_copyFrom 11 = .ok (.bipush 8, 2) := by decide +kernel
theorem dX9_copyFrom_13 : decode cX9_copyFrom 13 = .ok (.if_icmp .ge 33, 3) := by decide +kernel
theorem dX9_copyFrom_16 : decode cX9_copyFrom 16 = .ok (.aload_n 0, 1) := by decide +kernel
theorem dX9_copyFrom_17 : decode cX9_copyFrom 17 = .ok (.getfield 15, 3) := by decide +kernel
theorem dX9_copyFrom_20 : decode cX9_copyFrom 20 = .ok (.iload_n 2, 1) := by decide +kernel
theorem dX9_copyFrom_21 : decode cX9_copyFrom 21 = .ok (.aload_n 1, 1) := by decide +kernel
theorem dX9_copyFrom_22 : decode cX9_copyFrom 22 = .ok (.getfield 15, 3) := by decide +kernel
theorem dX9_copyFrom_25 : decode cX9_copyFrom 25 = .ok (.iload_n 2, 1) := by decide +kernel
theorem dX9_copyFrom_26 : decode cX9_copyFrom 26 = .ok (.iaload, 1) := by decide +kernel
theorem dX9_copyFrom_27 : decode cX9_copyFrom 27 = .ok (.iastore, 1) := by decide +kernel
theorem dX9_copyFrom_28 : decode cX9_copyFrom 28 = .ok (.aload_n 0, 1) := by decide +kernel
theorem dX9_copyFrom_29 : decode cX9_copyFrom 29 = .ok (.getfield 19, 3) := by decide +kernel
theorem dX9_copyFrom_32 : decode cX9_copyFrom 32 = .ok (.iload_n 2, 1) := by decide +kernel
theorem dX9_copyFrom_33 : decode cX9_copyFrom 33 = .ok (.aload_n 1, 1) := by decide +kernel
theorem dX9_copyFrom_34 : decode cX9_copyFrom 34 = .ok (.getfield 19, 3) := by decide +kernel
theorem dX9_copyFrom_37 : decode cX9_copyFrom 37 = .ok (.iload_n 2, 1) := by decide +kernel
theorem dX9_copyFrom_38 : decode cX9_copyFrom 38 = .ok (.iaload, 1) := by decide +kernel
theorem dX9_copyFrom_39 : decode cX9_copyFrom 39 = .ok (.iastore, 1) := by decide +kernel
theorem dX9_copyFrom_40 : decode cX9_copyFrom 40 = .ok (.iinc 2 1, 3) := by decide +kernel
theorem dX9_copyFrom_43 : decode cX9_copyFrom 43 = .ok (.goto (-33), 3) := by decide +kernel
theorem dX9_copyFrom_46 : decode cX9_copyFrom 46 = .ok (.aload_n 0, 1) := by decide +kernel
theorem dX9_copyFrom_47 : decode cX9_copyFrom 47 = .ok (.aload_n 1, 1) := by decide +kernel
theorem dX9_copyFrom_48 : decode cX9_copyFrom 48 = .ok (.getfield 22, 3) := by decide +kernel
theorem dX9_copyFrom_51 : decode cX9_copyFrom 51 = .ok (.putfield 22, 3) := by decide +kernel
theorem dX9_copyFrom_54 : decode cX9_copyFrom 54 = .ok (.aload_n 0, 1) := by decide +kernel
theorem dX9_copyFrom_55 : decode cX9_copyFrom 55 = .ok (.aload_n 1, 1) := by decide +kernel
theorem dX9_copyFrom_56 : decode cX9_copyFrom 56 = .ok (.getfield 25, 3) := by decide +kernel
theorem dX9_copyFrom_59 : decode cX9_copyFrom 59 = .ok (.putfield 25, 3) := by decide +kernel
theorem dX9_copyFrom_62 : decode cX9_copyFrom 62 = .ok (.aload_n 0, 1) := by decide +kernel
theorem dX9_copyFrom_63 : decode cX9_copyFrom 63 = .ok (.aload_n 1, 1) := by decide +kernel
theorem dX9_copyFrom_64 : decode cX9_copyFrom 64 = .ok (.getfield 28, 3) := by decide +kernel
theorem dX9_copyFrom_67 : decode cX9_copyFrom 67 = .ok (.putfield 28, 3) := by decide +kernel
theorem dX9_copyFrom_70 : decode cX9_copyFrom 70 = .ok (.aload_n 0, 1) := by decide +kernel
theorem dX9_copyFrom_71 : decode cX9_copyFrom 71 = .ok (.aload_n 1, 1) := by decide +kernel
theorem dX9_copyFrom_72 : decode cX9_copyFrom 72 = .ok (.getfield 31, 3) := by decide +kernel
theorem dX9_copyFrom_75 : decode cX9_copyFrom 75 = .ok (.putfield 31, 3) := by decide +kernel
theorem dX9_copyFrom_78 : decode cX9_copyFrom 78 = .ok (.aload_n 0, 1) := by decide +kernel
theorem dX9_copyFrom_79 : decode cX9_copyFrom 79 = .ok (.aload_n 1, 1) := by decide +kernel
theorem dX9_copyFrom_80 : decode cX9_copyFrom 80 = .ok (.getfield 34, 3) := by decide +kernel
theorem dX9_copyFrom_83 : decode cX9_copyFrom 83 = .ok (.putfield 34, 3) := by decide +kernel
theorem dX9_copyFrom_86 : decode cX9_copyFrom 86 = .ok (.aload_n 0, 1) := by decide +kernel
theorem dX9_copyFrom_87 : decode cX9_copyFrom 87 = .ok (.aload_n 1, 1) := by decide +kernel
theorem dX9_copyFrom_88 : decode cX9_copyFrom 88 = .ok (.getfield 37, 3) := by decide +kernel
theorem dX9_copyFrom_91 : decode cX9_copyFrom 91 = .ok (.putfield 37, 3) := by decide +kernel
theorem dX9_copyFrom_94 : decode cX9_copyFrom 94 = .ok (.return_, 1) := by decide +kernel
theorem dX9_holds_0 : decode cX9_holds 0 = .ok (.iload_n 1, 1) := by decide +kernel
theorem dX9_holds_1 : decode cX9_holds 1 = .ok (.ifCond .lt 15, 3) := by decide +kernel
theorem dX9_holds_4 : decode cX9_holds 4 = .ok (.iload_n 1, 1) := by decide +kernel
theorem dX9_holds_5 : decode cX9_holds 5 = .ok (.aload_n 0, 1) := by decide +kernel
theorem dX9_holds_6 : decode cX9_holds 6 = .ok (.getfield 9, 3) := by decide +kernel
theorem dX9_holds_9 : decode cX9_holds 9 = .ok (.if_icmp .ge 7, 3) := by decide +kernel
theorem dX9_holds_12 : decode cX9_holds 12 = .ok (.iconst 1, 1) := by decide +kernel
theorem dX9_holds_13 : decode cX9_holds 13 = .ok (.goto 4, 3) := by decide +kernel
theorem dX9_holds_16 : decode cX9_holds 16 = .ok (.iconst 0, 1) := by decide +kernel
theorem dX9_holds_17 : decode cX9_holds 17 = .ok (.ireturn, 1) := by decide +kernel
theorem dX9_everyKind_0 : decode cX9_everyKind 0 = .ok (.iconst 1, 1) := by decide +kernel
theorem dX9_everyKind_1 : decode cX9_everyKind 1 = .ok (.aload_n 0, 1) := by decide +kernel
theorem dX9_everyKind_2 : decode cX9_everyKind 2 = .ok (.getfield 9, 3) := by decide +kernel
theorem dX9_everyKind_5 : decode cX9_everyKind 5 = .ok (.ishl, 1) := by decide +kernel
theorem dX9_everyKind_6 : decode cX9_everyKind 6 = .ok (.iconst 1, 1) := by decide +kernel
theorem dX9_everyKind_7 : decode cX9_everyKind 7 = .ok (.isub, 1) := by decide +kernel
theorem dX9_everyKind_8 : decode cX9_everyKind 8 = .ok (.ireturn, 1) := by decide +kernel
theorem dX9_isShut_0 : decode cX9_isShut 0 = .ok (.aload_n 0, 1) := by decide +kernel
theorem dX9_isShut_1 : decode cX9_isShut 1 = .ok (.invokevirtual 40, 3) := by decide +kernel
theorem dX9_isShut_4 : decode cX9_isShut 4 = .ok (.aload_n 0, 1) := by decide +kernel
theorem dX9_isShut_5 : decode cX9_isShut 5 = .ok (.getfield 25, 3) := by decide +kernel
theorem dX9_isShut_8 : decode cX9_isShut 8 = .ok (.iconst (-1), 1) := by decide +kernel
theorem dX9_isShut_9 : decode cX9_isShut 9 = .ok (.ixor, 1) := by decide +kernel
theorem dX9_isShut_10 : decode cX9_isShut 10 = .ok (.iand, 1) := by decide +kernel
theorem dX9_isShut_11 : decode cX9_isShut 11 = .ok (.aload_n 0, 1) := by decide +kernel
theorem dX9_isShut_12 : decode cX9_isShut 12 = .ok (.getfield 22, 3) := by decide +kernel
theorem dX9_isShut_15 : decode cX9_isShut 15 = .ok (.iconst (-1), 1) := by decide +kernel
theorem dX9_isShut_16 : decode cX9_isShut 16 = .ok (.ixor, 1) := by decide +kernel
theorem dX9_isShut_17 : decode cX9_isShut 17 = .ok (.iand, 1) := by decide +kernel
theorem dX9_isShut_18 : decode cX9_isShut 18 = .ok (.ifCond .ne 7, 3) := by decide +kernel
theorem dX9_isShut_21 : decode cX9_isShut 21 = .ok (.iconst 1, 1) := by decide +kernel
theorem dX9_isShut_22 : decode cX9_isShut 22 = .ok (.goto 4, 3) := by decide +kernel
theorem dX9_isShut_25 : decode cX9_isShut 25 = .ok (.iconst 0, 1) := by decide +kernel
theorem dX9_isShut_26 : decode cX9_isShut 26 = .ok (.ireturn, 1) := by decide +kernel
theorem dX9_draw_0 : decode cX9_draw 0 = .ok (.aload_n 0, 1) := by decide +kernel
theorem dX9_draw_1 : decode cX9_draw 1 = .ok (.ldc 44, 2) := by decide +kernel
theorem dX9_draw_3 : decode cX9_draw 3 = .ok (.aload_n 0, 1) := by decide +kernel
theorem dX9_draw_4 : decode cX9_draw 4 = .ok (.getfield 37, 3) := by decide +kernel
theorem dX9_draw_7 : decode cX9_draw 7 = .ok (.imul, 1) := by decide +kernel
theorem dX9_draw_8 : decode cX9_draw 8 = .ok (.sipush 12345, 3) := by decide +kernel
theorem dX9_draw_11 : decode cX9_draw 11 = .ok (.iadd, 1) := by decide +kernel
theorem dX9_draw_12 : decode cX9_draw 12 = .ok (.putfield 37, 3) := by decide +kernel
theorem dX9_draw_15 : decode cX9_draw 15 = .ok (.aload_n 0, 1) := by decide +kernel
theorem dX9_draw_16 : decode cX9_draw 16 = .ok (.getfield 37, 3) := by decide +kernel
theorem dX9_draw_19 : decode cX9_draw 19 = .ok (.bipush 16, 2) := by decide +kernel
theorem dX9_draw_21 : decode cX9_draw 21 = .ok (.iushr, 1) := by decide +kernel
theorem dX9_draw_22 : decode cX9_draw 22 = .ok (.ireturn, 1) := by decide +kernel
theorem dX10_isMissing_0 : decode cX10_isMissing 0 = .ok (.aload_n 0, 1) := by decide +kernel
theorem dX10_isMissing_1 : decode cX10_isMissing 1 = .ok (.getfield 19, 3) := by decide +kernel
theorem dX10_isMissing_4 : decode cX10_isMissing 4 = .ok (.iconst (-1), 1) := by decide +kernel
theorem dX10_isMissing_5 : decode cX10_isMissing 5 = .ok (.if_icmp .ne 7, 3) := by decide +kernel
theorem dX10_isMissing_8 : decode cX10_isMissing 8 = .ok (.iconst 1, 1) := by decide +kernel
theorem dX10_isMissing_9 : decode cX10_isMissing 9 = .ok (.goto 4, 3) := by decide +kernel
theorem dX10_isMissing_12 : decode cX10_isMissing 12 = .ok (.iconst 0, 1) := by decide +kernel
theorem dX10_isMissing_13 : decode cX10_isMissing 13 = .ok (.ireturn, 1) := by decide +kernel
theorem dX10_layOut_0 : decode cX10_layOut 0 = .ok (.aload_n 0, 1) := by decide +kernel
theorem dX10_layOut_1 : decode cX10_layOut 1 = .ok (.getfield 9, 3) := by decide +kernel
theorem dX10_layOut_4 : decode cX10_layOut 4 = .ok (.lconst 0, 1) := by decide +kernel
theorem dX10_layOut_5 : decode cX10_layOut 5 = .ok (.invokestatic 28, 3) := by decide +kernel
theorem dX10_layOut_8 : decode cX10_layOut 8 = .ok (.aload_n 0, 1) := by decide +kernel
theorem dX10_layOut_9 : decode cX10_layOut 9 = .ok (.iload_n 1, 1) := by decide +kernel
theorem dX10_layOut_10 : decode cX10_layOut 10 = .ok (.putfield 15, 3) := by decide +kernel
theorem dX10_layOut_13 : decode cX10_layOut 13 = .ok (.aload_n 0, 1) := by decide +kernel
theorem dX10_layOut_14 : decode cX10_layOut 14 = .ok (.iload_n 2, 1) := by decide +kernel
theorem dX10_layOut_15 : decode cX10_layOut 15 = .ok (.putfield 19, 3) := by decide +kernel
theorem dX10_layOut_18 : decode cX10_layOut 18 = .ok (.return_, 1) := by decide +kernel
theorem dX11_feed_0 : decode cX11_feed 0 = .ok (.aload_n 0, 1) := by decide +kernel
theorem dX11_feed_1 : decode cX11_feed 1 = .ok (.getfield 13, 3) := by decide +kernel
theorem dX11_feed_4 : decode cX11_feed 4 = .ok (.bipush 20, 2) := by decide +kernel
theorem dX11_feed_6 : decode cX11_feed 6 = .ok (.iadd, 1) := by decide +kernel
theorem dX11_feed_7 : decode cX11_feed 7 = .ok (.sipush 900, 3) := by decide +kernel
theorem dX11_feed_10 : decode cX11_feed 10 = .ok (.if_icmp .le 6, 3) := by decide +kernel
theorem dX11_feed_13 : decode cX11_feed 13 = .ok (.bipush (-5), 2) := by decide +kernel
theorem dX11_feed_15 : decode cX11_feed 15 = .ok (.ireturn, 1) := by decide +kernel
theorem dX11_feed_16 : decode cX11_feed 16 = .ok (.aload_n 0, 1) := by decide +kernel
theorem dX11_feed_17 : decode cX11_feed 17 = .ok (.iload_n 1, 1) := by decide +kernel
theorem dX11_feed_18 : decode cX11_feed 18 = .ok (.invokevirtual 109, 3) := by decide +kernel
theorem dX11_feed_21 : decode cX11_feed 21 = .ok (.aload_n 0, 1) := by decide +kernel
theorem dX11_feed_22 : decode cX11_feed 22 = .ok (.iload_n 2, 1) := by decide +kernel
theorem dX11_feed_23 : decode cX11_feed 23 = .ok (.invokevirtual 109, 3) := by decide +kernel
theorem dX11_feed_26 : decode cX11_feed 26 = .ok (.aload_n 0, 1) := by decide +kernel
theorem dX11_feed_27 : decode cX11_feed 27 = .ok (.iload_n 3, 1) := by decide +kernel
theorem dX11_feed_28 : decode cX11_feed 28 = .ok (.invokevirtual 109, 3) := by decide +kernel
theorem dX11_feed_31 : decode cX11_feed 31 = .ok (.aload_n 0, 1) := by decide +kernel
theorem dX11_feed_32 : decode cX11_feed 32 = .ok (.iload 4, 2) := by decide +kernel
theorem dX11_feed_34 : decode cX11_feed 34 = .ok (.invokevirtual 109, 3) := by decide +kernel
theorem dX11_feed_37 : decode cX11_feed 37 = .ok (.aload_n 0, 1) := by decide +kernel
theorem dX11_feed_38 : decode cX11_feed 38 = .ok (.iload 5, 2) := by decide +kernel
theorem dX11_feed_40 : decode cX11_feed 40 = .ok (.invokevirtual 109, 3) := by decide +kernel
theorem dX11_feed_43 : decode cX11_feed 43 = .ok (.aload_n 0, 1) := by decide +kernel
theorem dX11_feed_44 : decode cX11_feed 44 = .ok (.getfield 13, 3) := by decide +kernel
theorem dX11_feed_47 : decode cX11_feed 47 = .ok (.ireturn, 1) := by decide +kernel
theorem dX11_putBytes_0 : decode cX11_putBytes 0 = .ok (.bipush 24, 2) := by decide +kernel
theorem dX11_putBytes_2 : decode cX11_putBytes 2 = .ok (.istore_n 2, 1) := by decide +kernel
theorem dX11_putBytes_3 : decode cX11_putBytes 3 = .ok (.iload_n 2, 1) := by decide +kernel
theorem dX11_putBytes_4 : decode cX11_putBytes 4 = .ok (.ifCond .lt 47, 3) := by decide +kernel
theorem dX11_putBytes_7 : decode cX11_putBytes 7 = .ok (.aload_n 0, 1) := by decide +kernel
theorem dX11_putBytes_8 : decode cX11_putBytes 8 = .ok (.getfield 13, 3) := by decide +kernel
theorem dX11_putBytes_11 : decode cX11_putBytes 11 = .ok (.aload_n 0, 1) := by decide +kernel
theorem dX11_putBytes_12 : decode cX11_putBytes 12 = .ok (.getfield 9, 3) := by decide +kernel
theorem dX11_putBytes_15 : decode cX11_putBytes 15 = .ok (.arraylength, 1) := by decide +kernel
theorem dX11_putBytes_16 : decode cX11_putBytes 16 = .ok (.if_icmp .ge 35, 3) := by decide +kernel
theorem dX11_putBytes_19 : decode cX11_putBytes 19 = .ok (.aload_n 0, 1) := by decide +kernel
theorem dX11_putBytes_20 : decode cX11_putBytes 20 = .ok (.getfield 9, 3) := by decide +kernel
theorem dX11_putBytes_23 : decode cX11_putBytes 23 = .ok (.aload_n 0, 1) := by decide +kernel
theorem dX11_putBytes_24 : decode cX11_putBytes 24 = .ok (.getfield 13, 3) := by decide +kernel
theorem dX11_putBytes_27 : decode cX11_putBytes 27 = .ok (.iload_n 1, 1) := by decide +kernel
theorem dX11_putBytes_28 : decode cX11_putBytes 28 = .ok (.iload_n 2, 1) := by decide +kernel
theorem dX11_putBytes_29 : decode cX11_putBytes 29 = .ok (.iushr, 1) := by decide +kernel
theorem dX11_putBytes_30 : decode cX11_putBytes 30 = .ok (.sipush 255, 3) := by decide +kernel
theorem dX11_putBytes_33 : decode cX11_putBytes 33 = .ok (.iand, 1) := by decide +kernel
theorem dX11_putBytes_34 : decode cX11_putBytes 34 = .ok (.iastore, 1) := by decide +kernel
theorem dX11_putBytes_35 : decode cX11_putBytes 35 = .ok (.aload_n 0, 1) := by decide +kernel
theorem dX11_putBytes_36 : decode cX11_putBytes 36 = .ok (.dup, 1) := by decide +kernel
theorem dX11_putBytes_37 : decode cX11_putBytes 37 = .ok (.getfield 13, 3) := by decide +kernel
theorem dX11_putBytes_40 : decode cX11_putBytes 40 = .ok (.iconst 1, 1) := by decide +kernel
theorem dX11_putBytes_41 : decode cX11_putBytes 41 = .ok (.iadd, 1) := by decide +kernel
theorem dX11_putBytes_42 : decode cX11_putBytes 42 = .ok (.putfield 13, 3) := by decide +kernel
theorem dX11_putBytes_45 : decode cX11_putBytes 45 = .ok (.iinc 2 (-8), 3) := by decide +kernel
theorem dX11_putBytes_48 : decode cX11_putBytes 48 = .ok (.goto (-45), 3) := by decide +kernel
theorem dX11_putBytes_51 : decode cX11_putBytes 51 = .ok (.return_, 1) := by decide +kernel
theorem dX11_shop_0 : decode cX11_shop 0 = .ok (.iload_n 1, 1) := by decide +kernel
theorem dX11_shop_1 : decode cX11_shop 1 = .ok (.ifCond .lt 11, 3) := by decide +kernel
theorem dX11_shop_4 : decode cX11_shop 4 = .ok (.iload_n 1, 1) := by decide +kernel
theorem dX11_shop_5 : decode cX11_shop 5 = .ok (.aload_n 0, 1) := by decide +kernel
theorem dX11_shop_6 : decode cX11_shop 6 = .ok (.getfield 13, 3) := by decide +kernel
theorem dX11_shop_9 : decode cX11_shop 9 = .ok (.if_icmp .le 6, 3) := by decide +kernel
theorem dX11_shop_12 : decode cX11_shop 12 = .ok (.bipush (-3), 2) := by decide +kernel
theorem dX11_shop_14 : decode cX11_shop 14 = .ok (.ireturn, 1) := by decide +kernel
theorem dX11_shop_15 : decode cX11_shop 15 = .ok (.aload_n 0, 1) := by decide +kernel
theorem dX11_shop_16 : decode cX11_shop 16 = .ok (.getfield 67, 3) := by decide +kernel
theorem dX11_shop_19 : decode cX11_shop 19 = .ok (.aload_n 0, 1) := by decide +kernel
theorem dX11_shop_20 : decode cX11_shop 20 = .ok (.getfield 9, 3) := by decide +kernel
theorem dX11_shop_23 : decode cX11_shop 23 = .ok (.iload_n 1, 1) := by decide +kernel
theorem dX11_shop_24 : decode cX11_shop 24 = .ok (.aload_n 0, 1) := by decide +kernel
theorem dX11_shop_25 : decode cX11_shop 25 = .ok (.getfield 30, 3) := by decide +kernel
theorem dX11_shop_28 : decode cX11_shop 28 = .ok (.aload_n 0, 1) := by decide +kernel
theorem dX11_shop_29 : decode cX11_shop 29 = .ok (.getfield 40, 3) := by decide +kernel
theorem dX11_shop_32 : decode cX11_shop 32 = .ok (.invokevirtual 113, 3) := by decide +kernel
theorem dX11_shop_35 : decode cX11_shop 35 = .ok (.aload_n 0, 1) := by decide +kernel
theorem dX11_shop_36 : decode cX11_shop 36 = .ok (.iconst 0, 1) := by decide +kernel
theorem dX11_shop_37 : decode cX11_shop 37 = .ok (.putfield 13, 3) := by decide +kernel
theorem dX11_shop_40 : decode cX11_shop 40 = .ok (.aload_n 0, 1) := by decide +kernel
theorem dX11_shop_41 : decode cX11_shop 41 = .ok (.aload_n 0, 1) := by decide +kernel
theorem dX11_shop_42 : decode cX11_shop 42 = .ok (.getfield 67, 3) := by decide +kernel
theorem dX11_shop_45 : decode cX11_shop 45 = .ok (.getfield 117, 3) := by decide +kernel
theorem dX11_shop_48 : decode cX11_shop 48 = .ok (.putfield 17, 3) := by decide +kernel
theorem dX11_shop_51 : decode cX11_shop 51 = .ok (.aload_n 0, 1) := by decide +kernel
theorem dX11_shop_52 : decode cX11_shop 52 = .ok (.aload_n 0, 1) := by decide +kernel
theorem dX11_shop_53 : decode cX11_shop 53 = .ok (.getfield 67, 3) := by decide +kernel
theorem dX11_shop_56 : decode cX11_shop 56 = .ok (.getfield 120, 3) := by decide +kernel
theorem dX11_shop_59 : decode cX11_shop 59 = .ok (.putfield 20, 3) := by decide +kernel
theorem dX11_shop_62 : decode cX11_shop 62 = .ok (.aload_n 0, 1) := by decide +kernel
theorem dX11_shop_63 : decode cX11_shop 63 = .ok (.getfield 17, 3) := by decide +kernel
theorem dX11_shop_66 : decode cX11_shop 66 = .ok (.ifCond .eq 11, 3) := by decide +kernel
theorem dX11_shop_69 : decode cX11_shop 69 = .ok (.bipush (-30), 2) := by decide +kernel
theorem dX11_shop_71 : decode cX11_shop 71 = .ok (.aload_n 0, 1) := by decide +kernel
theorem dX11_shop_72 : decode cX11_shop 72 = .ok (.getfield 17, 3) := by decide +kernel
theorem dX11_shop_75 : decode cX11_shop 75 = .ok (.isub, 1) := by decide +kernel
theorem dX11_shop_76 : decode cX11_shop 76 = .ok (.ireturn, 1) := by decide +kernel
theorem dX11_shop_77 : decode cX11_shop 77 = .ok (.aload_n 0, 1) := by decide +kernel
theorem dX11_shop_78 : decode cX11_shop 78 = .ok (.getfield 26, 3) := by decide +kernel
theorem dX11_shop_81 : decode cX11_shop 81 = .ok (.astore_n 2, 1) := by decide +kernel
theorem dX11_shop_82 : decode cX11_shop 82 = .ok (.aload_n 0, 1) := by decide +kernel
theorem dX11_shop_83 : decode cX11_shop 83 = .ok (.aload_n 0, 1) := by decide +kernel
theorem dX11_shop_84 : decode cX11_shop 84 = .ok (.getfield 30, 3) := by decide +kernel
theorem dX11_shop_87 : decode cX11_shop 87 = .ok (.putfield 26, 3) := by decide +kernel
theorem dX11_shop_90 : decode cX11_shop 90 = .ok (.aload_n 0, 1) := by decide +kernel
theorem dX11_shop_91 : decode cX11_shop 91 = .ok (.aload_n 2, 1) := by decide +kernel
theorem dX11_shop_92 : decode cX11_shop 92 = .ok (.putfield 30, 3) := by decide +kernel
theorem dX11_shop_95 : decode cX11_shop 95 = .ok (.aload_n 0, 1) := by decide +kernel
theorem dX11_shop_96 : decode cX11_shop 96 = .ok (.getfield 40, 3) := by decide +kernel
theorem dX11_shop_99 : decode cX11_shop 99 = .ok (.aload_n 0, 1) := by decide +kernel
theorem dX11_shop_100 : decode cX11_shop 100 = .ok (.getfield 36, 3) := by decide +kernel
theorem dX11_shop_103 : decode cX11_shop 103 = .ok (.getfield 121, 3) := by decide +kernel
theorem dX11_shop_106 : decode cX11_shop 106 = .ok (.putfield 121, 3) := by decide +kernel
theorem dX11_shop_109 : decode cX11_shop 109 = .ok (.aload_n 0, 1) := by decide +kernel
theorem dX11_shop_110 : decode cX11_shop 110 = .ok (.getfield 36, 3) := by decide +kernel
theorem dX11_shop_113 : decode cX11_shop 113 = .ok (.aload_n 0, 1) := by decide +kernel
theorem dX11_shop_114 : decode cX11_shop 114 = .ok (.getfield 40, 3) := by decide +kernel
theorem dX11_shop_117 : decode cX11_shop 117 = .ok (.invokevirtual 124, 3) := by decide +kernel
theorem dX11_shop_120 : decode cX11_shop 120 = .ok (.aload_n 0, 1) := by decide +kernel
theorem dX11_shop_121 : decode cX11_shop 121 = .ok (.invokevirtual 128, 3) := by decide +kernel
theorem dX11_shop_124 : decode cX11_shop 124 = .ok (.aload_n 0, 1) := by decide +kernel
theorem dX11_shop_125 : decode cX11_shop 125 = .ok (.getfield 26, 3) := by decide +kernel
theorem dX11_shop_128 : decode cX11_shop 128 = .ok (.getfield 131, 3) := by decide +kernel
theorem dX11_shop_131 : decode cX11_shop 131 = .ok (.ireturn, 1) := by decide +kernel
theorem dX11_fault_0 : decode cX11_fault 0 = .ok (.iload_n 1, 1) := by decide +kernel
theorem dX11_fault_1 : decode cX11_fault 1 = .ok (.ifCond .ne 8, 3) := by decide +kernel
theorem dX11_fault_4 : decode cX11_fault 4 = .ok (.aload_n 0, 1) := by decide +kernel
theorem dX11_fault_5 : decode cX11_fault 5 = .ok (.getfield 17, 3) := by decide +kernel
theorem dX11_fault_8 : decode cX11_fault 8 = .ok (.ireturn, 1) := by decide +kernel
theorem dX11_fault_9 : decode cX11_fault 9 = .ok (.iload_n 1, 1) := by decide +kernel
theorem dX11_fault_10 : decode cX11_fault 10 = .ok (.iconst 1, 1) := by decide +kernel
theorem dX11_fault_11 : decode cX11_fault 11 = .ok (.if_icmp .ne 10, 3) := by decide +kernel
theorem dX11_fault_14 : decode cX11_fault 14 = .ok (.aload_n 0, 1) := by decide +kernel
theorem dX11_fault_15 : decode cX11_fault 15 = .ok (.getfield 20, 3) := by decide +kernel
theorem dX11_fault_18 : decode cX11_fault 18 = .ok (.goto 4, 3) := by decide +kernel
theorem dX11_fault_21 : decode cX11_fault 21 = .ok (.iconst (-1), 1) := by decide +kernel
theorem dX11_fault_22 : decode cX11_fault 22 = .ok (.ireturn, 1) := by decide +kernel
theorem dX11_kind_0 : decode cX11_kind 0 = .ok (.aload_n 0, 1) := by decide +kernel
theorem dX11_kind_1 : decode cX11_kind 1 = .ok (.iload_n 1, 1) := by decide +kernel
theorem dX11_kind_2 : decode cX11_kind 2 = .ok (.invokevirtual 140, 3) := by decide +kernel
theorem dX11_kind_5 : decode cX11_kind 5 = .ok (.ifCond .ne 6, 3) := by decide +kernel
theorem dX11_kind_8 : decode cX11_kind 8 = .ok (.bipush (-2), 2) := by decide +kernel
theorem dX11_kind_10 : decode cX11_kind 10 = .ok (.ireturn, 1) := by decide +kernel
theorem dX11_kind_11 : decode cX11_kind 11 = .ok (.iload_n 2, 1) := by decide +kernel
theorem dX11_kind_12 : decode cX11_kind 12 = .ok (.tableswitch 86 0 4 #[36, 46, 56, 68, 80], 36) := by decide +kernel
theorem dX11_kind_48 : decode cX11_kind 48 = .ok (.aload_n 0, 1) := by decide +kernel
theorem dX11_kind_49 : decode cX11_kind 49 = .ok (.getfield 36, 3) := by decide +kernel
theorem dX11_kind_52 : decode cX11_kind 52 = .ok (.getfield 144, 3) := by decide +kernel
theorem dX11_kind_55 : decode cX11_kind 55 = .ok (.iload_n 1, 1) := by decide +kernel
theorem dX11_kind_56 : decode cX11_kind 56 = .ok (.iaload, 1) := by decide +kernel
theorem dX11_kind_57 : decode cX11_kind 57 = .ok (.ireturn, 1) := by decide +kernel
theorem dX11_kind_58 : decode cX11_kind 58 = .ok (.aload_n 0, 1) := by decide +kernel
theorem dX11_kind_59 : decode cX11_kind 59 = .ok (.getfield 36, 3) := by decide +kernel
theorem dX11_kind_62 : decode cX11_kind 62 = .ok (.getfield 147, 3) := by decide +kernel
theorem dX11_kind_65 : decode cX11_kind 65 = .ok (.iload_n 1, 1) := by decide +kernel
theorem dX11_kind_66 : decode cX11_kind 66 = .ok (.iaload, 1) := by decide +kernel
theorem dX11_kind_67 : decode cX11_kind 67 = .ok (.ireturn, 1) := by decide +kernel
theorem dX11_kind_68 : decode cX11_kind 68 = .ok (.aload_n 0, 1) := by decide +kernel
theorem dX11_kind_69 : decode cX11_kind 69 = .ok (.getfield 36, 3) := by decide +kernel
theorem dX11_kind_72 : decode cX11_kind 72 = .ok (.getfield 150, 3) := by decide +kernel
theorem dX11_kind_75 : decode cX11_kind 75 = .ok (.iload_n 1, 1) := by decide +kernel
theorem dX11_kind_76 : decode cX11_kind 76 = .ok (.ishr, 1) := by decide +kernel
theorem dX11_kind_77 : decode cX11_kind 77 = .ok (.iconst 1, 1) := by decide +kernel
theorem dX11_kind_78 : decode cX11_kind 78 = .ok (.iand, 1) := by decide +kernel
theorem dX11_kind_79 : decode cX11_kind 79 = .ok (.ireturn, 1) := by decide +kernel
theorem dX11_kind_80 : decode cX11_kind 80 = .ok (.aload_n 0, 1) := by decide +kernel
theorem dX11_kind_81 : decode cX11_kind 81 = .ok (.getfield 36, 3) := by decide +kernel
theorem dX11_kind_84 : decode cX11_kind 84 = .ok (.getfield 153, 3) := by decide +kernel
theorem dX11_kind_87 : decode cX11_kind 87 = .ok (.iload_n 1, 1) := by decide +kernel
theorem dX11_kind_88 : decode cX11_kind 88 = .ok (.ishr, 1) := by decide +kernel
theorem dX11_kind_89 : decode cX11_kind 89 = .ok (.iconst 1, 1) := by decide +kernel
theorem dX11_kind_90 : decode cX11_kind 90 = .ok (.iand, 1) := by decide +kernel
theorem dX11_kind_91 : decode cX11_kind 91 = .ok (.ireturn, 1) := by decide +kernel
theorem dX11_kind_92 : decode cX11_kind 92 = .ok (.aload_n 0, 1) := by decide +kernel
theorem dX11_kind_93 : decode cX11_kind 93 = .ok (.iload_n 1, 1) := by decide +kernel
theorem dX11_kind_94 : decode cX11_kind 94 = .ok (.invokevirtual 156, 3) := by decide +kernel
theorem dX11_kind_97 : decode cX11_kind 97 = .ok (.ireturn, 1) := by decide +kernel
theorem dX11_kind_98 : decode cX11_kind 98 = .ok (.bipush (-2), 2) := by decide +kernel
theorem dX11_kind_100 : decode cX11_kind 100 = .ok (.ireturn, 1) := by decide +kernel
theorem dX11_isKind_0 : decode cX11_isKind 0 = .ok (.iload_n 1, 1) := by decide +kernel
theorem dX11_isKind_1 : decode cX11_isKind 1 = .ok (.ifCond .lt 18, 3) := by decide +kernel
theorem dX11_isKind_4 : decode cX11_isKind 4 = .ok (.iload_n 1, 1) := by decide +kernel
theorem dX11_isKind_5 : decode cX11_isKind 5 = .ok (.aload_n 0, 1) := by decide +kernel
theorem dX11_isKind_6 : decode cX11_isKind 6 = .ok (.getfield 36, 3) := by decide +kernel
theorem dX11_isKind_9 : decode cX11_isKind 9 = .ok (.getfield 160, 3) := by decide +kernel
theorem dX11_isKind_12 : decode cX11_isKind 12 = .ok (.if_icmp .ge 7, 3) := by decide +kernel
theorem dX11_isKind_15 : decode cX11_isKind 15 = .ok (.iconst 1, 1) := by decide +kernel
theorem dX11_isKind_16 : decode cX11_isKind 16 = .ok (.goto 4, 3) := by decide +kernel
theorem dX11_isKind_19 : decode cX11_isKind 19 = .ok (.iconst 0, 1) := by decide +kernel
theorem dX11_isKind_20 : decode cX11_isKind 20 = .ok (.ireturn, 1) := by decide +kernel
theorem dX11_isBuyer_0 : decode cX11_isBuyer 0 = .ok (.iload_n 1, 1) := by decide +kernel
theorem dX11_isBuyer_1 : decode cX11_isBuyer 1 = .ok (.ifCond .lt 18, 3) := by decide +kernel
theorem dX11_isBuyer_4 : decode cX11_isBuyer 4 = .ok (.iload_n 1, 1) := by decide +kernel
theorem dX11_isBuyer_5 : decode cX11_isBuyer 5 = .ok (.aload_n 0, 1) := by decide +kernel
theorem dX11_isBuyer_6 : decode cX11_isBuyer 6 = .ok (.getfield 26, 3) := by decide +kernel
theorem dX11_isBuyer_9 : decode cX11_isBuyer 9 = .ok (.getfield 163, 3) := by decide +kernel
theorem dX11_isBuyer_12 : decode cX11_isBuyer 12 = .ok (.if_icmp .ge 7, 3) := by decide +kernel
theorem dX11_isBuyer_15 : decode cX11_isBuyer 15 = .ok (.iconst 1, 1) := by decide +kernel
theorem dX11_isBuyer_16 : decode cX11_isBuyer 16 = .ok (.goto 4, 3) := by decide +kernel
theorem dX11_isBuyer_19 : decode cX11_isBuyer 19 = .ok (.iconst 0, 1) := by decide +kernel
theorem dX11_isBuyer_20 : decode cX11_isBuyer 20 = .ok (.ireturn, 1) := by decide +kernel
theorem dX11_buyer_0 : decode cX11_buyer 0 = .ok (.aload_n 0, 1) := by decide +kernel
theorem dX11_buyer_1 : decode cX11_buyer 1 = .ok (.iload_n 1, 1) := by decide +kernel
theorem dX11_buyer_2 : decode cX11_buyer 2 = .ok (.invokevirtual 173, 3) := by decide +kernel
theorem dX11_buyer_5 : decode cX11_buyer 5 = .ok (.ifCond .ne 6, 3) := by decide +kernel
theorem dX11_buyer_8 : decode cX11_buyer 8 = .ok (.bipush (-2), 2) := by decide +kernel
theorem dX11_buyer_10 : decode cX11_buyer 10 = .ok (.ireturn, 1) := by decide +kernel
theorem dX11_buyer_11 : decode cX11_buyer 11 = .ok (.aload_n 0, 1) := by decide +kernel
theorem dX11_buyer_12 : decode cX11_buyer 12 = .ok (.getfield 76, 3) := by decide +kernel
theorem dX11_buyer_15 : decode cX11_buyer 15 = .ok (.aload_n 0, 1) := by decide +kernel
theorem dX11_buyer_16 : decode cX11_buyer 16 = .ok (.getfield 26, 3) := by decide +kernel
theorem dX11_buyer_19 : decode cX11_buyer 19 = .ok (.aload_n 0, 1) := by decide +kernel
theorem dX11_buyer_20 : decode cX11_buyer 20 = .ok (.getfield 36, 3) := by decide +kernel
theorem dX11_buyer_23 : decode cX11_buyer 23 = .ok (.invokevirtual 166, 3) := by decide +kernel
theorem dX11_buyer_26 : decode cX11_buyer 26 = .ok (.iload_n 2, 1) := by decide +kernel
theorem dX11_buyer_27 : decode cX11_buyer 27 = .ok (.tableswitch 109 0 4 #[33, 43, 53, 63, 86], 33) := by decide +kernel
theorem dX11_buyer_60 : decode cX11_buyer 60 = .ok (.aload_n 0, 1) := by decide +kernel
theorem dX11_buyer_61 : decode cX11_buyer 61 = .ok (.getfield 26, 3) := by decide +kernel
theorem dX11_buyer_64 : decode cX11_buyer 64 = .ok (.getfield 176, 3) := by decide +kernel
theorem dX11_buyer_67 : decode cX11_buyer 67 = .ok (.iload_n 1, 1) := by decide +kernel
theorem dX11_buyer_68 : decode cX11_buyer 68 = .ok (.iaload, 1) := by decide +kernel
theorem dX11_buyer_69 : decode cX11_buyer 69 = .ok (.ireturn, 1) := by decide +kernel
theorem dX11_buyer_70 : decode cX11_buyer 70 = .ok (.aload_n 0, 1) := by decide +kernel
theorem dX11_buyer_71 : decode cX11_buyer 71 = .ok (.getfield 26, 3) := by decide +kernel
theorem dX11_buyer_74 : decode cX11_buyer 74 = .ok (.getfield 179, 3) := by decide +kernel
theorem dX11_buyer_77 : decode cX11_buyer 77 = .ok (.iload_n 1, 1) := by decide +kernel
theorem dX11_buyer_78 : decode cX11_buyer 78 = .ok (.iaload, 1) := by decide +kernel
theorem dX11_buyer_79 : decode cX11_buyer 79 = .ok (.ireturn, 1) := by decide +kernel
theorem dX11_buyer_80 : decode cX11_buyer 80 = .ok (.aload_n 0, 1) := by decide +kernel
theorem dX11_buyer_81 : decode cX11_buyer 81 = .ok (.getfield 26, 3) := by decide +kernel
theorem dX11_buyer_84 : decode cX11_buyer 84 = .ok (.getfield 182, 3) := by decide +kernel
theorem dX11_buyer_87 : decode cX11_buyer 87 = .ok (.iload_n 1, 1) := by decide +kernel
theorem dX11_buyer_88 : decode cX11_buyer 88 = .ok (.iaload, 1) := by decide +kernel
theorem dX11_buyer_89 : decode cX11_buyer 89 = .ok (.ireturn, 1) := by decide +kernel
theorem dX11_buyer_90 : decode cX11_buyer 90 = .ok (.aload_n 0, 1) := by decide +kernel
theorem dX11_buyer_91 : decode cX11_buyer 91 = .ok (.getfield 76, 3) := by decide +kernel
theorem dX11_buyer_94 : decode cX11_buyer 94 = .ok (.iload_n 1, 1) := by decide +kernel
theorem dX11_buyer_95 : decode cX11_buyer 95 = .ok (.aload_n 0, 1) := by decide +kernel
theorem dX11_buyer_96 : decode cX11_buyer 96 = .ok (.getfield 36, 3) := by decide +kernel
theorem dX11_buyer_99 : decode cX11_buyer 99 = .ok (.getfield 150, 3) := by decide +kernel
theorem dX11_buyer_102 : decode cX11_buyer 102 = .ok (.aload_n 0, 1) := by decide +kernel
theorem dX11_buyer_103 : decode cX11_buyer 103 = .ok (.getfield 36, 3) := by decide +kernel
theorem dX11_buyer_106 : decode cX11_buyer 106 = .ok (.getfield 153, 3) := by decide +kernel
theorem dX11_buyer_109 : decode cX11_buyer 109 = .ok (.invokevirtual 185, 3) := by decide +kernel
theorem dX11_buyer_112 : decode cX11_buyer 112 = .ok (.ireturn, 1) := by decide +kernel
theorem dX11_buyer_113 : decode cX11_buyer 113 = .ok (.aload_n 0, 1) := by decide +kernel
theorem dX11_buyer_114 : decode cX11_buyer 114 = .ok (.getfield 76, 3) := by decide +kernel
theorem dX11_buyer_117 : decode cX11_buyer 117 = .ok (.iload_n 1, 1) := by decide +kernel
theorem dX11_buyer_118 : decode cX11_buyer 118 = .ok (.aload_n 0, 1) := by decide +kernel
theorem dX11_buyer_119 : decode cX11_buyer 119 = .ok (.getfield 36, 3) := by decide +kernel
theorem dX11_buyer_122 : decode cX11_buyer 122 = .ok (.getfield 150, 3) := by decide +kernel
theorem dX11_buyer_125 : decode cX11_buyer 125 = .ok (.aload_n 0, 1) := by decide +kernel
theorem dX11_buyer_126 : decode cX11_buyer 126 = .ok (.getfield 36, 3) := by decide +kernel
theorem dX11_buyer_129 : decode cX11_buyer 129 = .ok (.getfield 153, 3) := by decide +kernel
theorem dX11_buyer_132 : decode cX11_buyer 132 = .ok (.invokevirtual 169, 3) := by decide +kernel
theorem dX11_buyer_135 : decode cX11_buyer 135 = .ok (.ireturn, 1) := by decide +kernel
theorem dX11_buyer_136 : decode cX11_buyer 136 = .ok (.bipush (-2), 2) := by decide +kernel
theorem dX11_buyer_138 : decode cX11_buyer 138 = .ok (.ireturn, 1) := by decide +kernel
theorem dX11_wants_0 : decode cX11_wants 0 = .ok (.aload_n 0, 1) := by decide +kernel
theorem dX11_wants_1 : decode cX11_wants 1 = .ok (.iload_n 1, 1) := by decide +kernel
theorem dX11_wants_2 : decode cX11_wants 2 = .ok (.invokevirtual 173, 3) := by decide +kernel
theorem dX11_wants_5 : decode cX11_wants 5 = .ok (.ifCond .eq 11, 3) := by decide +kernel
theorem dX11_wants_8 : decode cX11_wants 8 = .ok (.aload_n 0, 1) := by decide +kernel
theorem dX11_wants_9 : decode cX11_wants 9 = .ok (.iload_n 2, 1) := by decide +kernel
theorem dX11_wants_10 : decode cX11_wants 10 = .ok (.invokevirtual 140, 3) := by decide +kernel
theorem dX11_wants_13 : decode cX11_wants 13 = .ok (.ifCond .ne 6, 3) := by decide +kernel
theorem dX11_wants_16 : decode cX11_wants 16 = .ok (.ldc 188, 2) := by decide +kernel
theorem dX11_wants_18 : decode cX11_wants 18 = .ok (.ireturn, 1) := by decide +kernel
theorem dX11_wants_19 : decode cX11_wants 19 = .ok (.aload_n 0, 1) := by decide +kernel
theorem dX11_wants_20 : decode cX11_wants 20 = .ok (.getfield 76, 3) := by decide +kernel
theorem dX11_wants_23 : decode cX11_wants 23 = .ok (.aload_n 0, 1) := by decide +kernel
theorem dX11_wants_24 : decode cX11_wants 24 = .ok (.getfield 26, 3) := by decide +kernel
theorem dX11_wants_27 : decode cX11_wants 27 = .ok (.aload_n 0, 1) := by decide +kernel
theorem dX11_wants_28 : decode cX11_wants 28 = .ok (.getfield 36, 3) := by decide +kernel
theorem dX11_wants_31 : decode cX11_wants 31 = .ok (.invokevirtual 166, 3) := by decide +kernel
theorem dX11_wants_34 : decode cX11_wants 34 = .ok (.aload_n 0, 1) := by decide +kernel
theorem dX11_wants_35 : decode cX11_wants 35 = .ok (.getfield 76, 3) := by decide +kernel
theorem dX11_wants_38 : decode cX11_wants 38 = .ok (.iload_n 1, 1) := by decide +kernel
theorem dX11_wants_39 : decode cX11_wants 39 = .ok (.iload_n 2, 1) := by decide +kernel
theorem dX11_wants_40 : decode cX11_wants 40 = .ok (.aload_n 0, 1) := by decide +kernel
theorem dX11_wants_41 : decode cX11_wants 41 = .ok (.getfield 36, 3) := by decide +kernel
theorem dX11_wants_44 : decode cX11_wants 44 = .ok (.getfield 150, 3) := by decide +kernel
theorem dX11_wants_47 : decode cX11_wants 47 = .ok (.invokevirtual 189, 3) := by decide +kernel
theorem dX11_wants_50 : decode cX11_wants 50 = .ok (.ireturn, 1) := by decide +kernel
theorem dX11_seed_0 : decode cX11_seed 0 = .ok (.aload_n 0, 1) := by decide +kernel
theorem dX11_seed_1 : decode cX11_seed 1 = .ok (.getfield 46, 3) := by decide +kernel
theorem dX11_seed_4 : decode cX11_seed 4 = .ok (.aload_n 0, 1) := by decide +kernel
theorem dX11_seed_5 : decode cX11_seed 5 = .ok (.getfield 36, 3) := by decide +kernel
theorem dX11_seed_8 : decode cX11_seed 8 = .ok (.invokevirtual 192, 3) := by decide +kernel
theorem dX11_seed_11 : decode cX11_seed 11 = .ok (.aload_n 0, 1) := by decide +kernel
theorem dX11_seed_12 : decode cX11_seed 12 = .ok (.getfield 36, 3) := by decide +kernel
theorem dX11_seed_15 : decode cX11_seed 15 = .ok (.getfield 195, 3) := by decide +kernel
theorem dX11_seed_18 : decode cX11_seed 18 = .ok (.istore_n 2, 1) := by decide +kernel
theorem dX11_seed_19 : decode cX11_seed 19 = .ok (.aload_n 0, 1) := by decide +kernel
theorem dX11_seed_20 : decode cX11_seed 20 = .ok (.getfield 36, 3) := by decide +kernel
theorem dX11_seed_23 : decode cX11_seed 23 = .ok (.iload_n 1, 1) := by decide +kernel
theorem dX11_seed_24 : decode cX11_seed 24 = .ok (.putfield 195, 3) := by decide +kernel
theorem dX11_seed_27 : decode cX11_seed 27 = .ok (.iload_n 2, 1) := by decide +kernel
theorem dX11_seed_28 : decode cX11_seed 28 = .ok (.ireturn, 1) := by decide +kernel
theorem dX11_visit_0 : decode cX11_visit 0 = .ok (.aload_n 0, 1) := by decide +kernel
theorem dX11_visit_1 : decode cX11_visit 1 = .ok (.getfield 40, 3) := by decide +kernel
theorem dX11_visit_4 : decode cX11_visit 4 = .ok (.aload_n 0, 1) := by decide +kernel
theorem dX11_visit_5 : decode cX11_visit 5 = .ok (.getfield 36, 3) := by decide +kernel
theorem dX11_visit_8 : decode cX11_visit 8 = .ok (.invokevirtual 124, 3) := by decide +kernel
theorem dX11_visit_11 : decode cX11_visit 11 = .ok (.aload_n 0, 1) := by decide +kernel
theorem dX11_visit_12 : decode cX11_visit 12 = .ok (.aload_n 0, 1) := by decide +kernel
theorem dX11_visit_13 : decode cX11_visit 13 = .ok (.getfield 85, 3) := by decide +kernel
theorem dX11_visit_16 : decode cX11_visit 16 = .ok (.aload_n 0, 1) := by decide +kernel
theorem dX11_visit_17 : decode cX11_visit 17 = .ok (.getfield 26, 3) := by decide +kernel
theorem dX11_visit_20 : decode cX11_visit 20 = .ok (.aload_n 0, 1) := by decide +kernel
theorem dX11_visit_21 : decode cX11_visit 21 = .ok (.getfield 36, 3) := by decide +kernel
theorem dX11_visit_24 : decode cX11_visit 24 = .ok (.iload_n 1, 1) := by decide +kernel
theorem dX11_visit_25 : decode cX11_visit 25 = .ok (.invokevirtual 198, 3) := by decide +kernel
theorem dX11_visit_28 : decode cX11_visit 28 = .ok (.invokevirtual 202, 3) := by decide +kernel
theorem dX11_visit_31 : decode cX11_visit 31 = .ok (.ireturn, 1) := by decide +kernel
theorem dX11_gift_0 : decode cX11_gift 0 = .ok (.aload_n 0, 1) := by decide +kernel
theorem dX11_gift_1 : decode cX11_gift 1 = .ok (.getfield 40, 3) := by decide +kernel
theorem dX11_gift_4 : decode cX11_gift 4 = .ok (.aload_n 0, 1) := by decide +kernel
theorem dX11_gift_5 : decode cX11_gift 5 = .ok (.getfield 36, 3) := by decide +kernel
theorem dX11_gift_8 : decode cX11_gift 8 = .ok (.invokevirtual 124, 3) := by decide +kernel
theorem dX11_gift_11 : decode cX11_gift 11 = .ok (.aload_n 0, 1) := by decide +kernel
theorem dX11_gift_12 : decode cX11_gift 12 = .ok (.aload_n 0, 1) := by decide +kernel
theorem dX11_gift_13 : decode cX11_gift 13 = .ok (.getfield 85, 3) := by decide +kernel
theorem dX11_gift_16 : decode cX11_gift 16 = .ok (.aload_n 0, 1) := by decide +kernel
theorem dX11_gift_17 : decode cX11_gift 17 = .ok (.getfield 36, 3) := by decide +kernel
theorem dX11_gift_20 : decode cX11_gift 20 = .ok (.iload_n 1, 1) := by decide +kernel
theorem dX11_gift_21 : decode cX11_gift 21 = .ok (.invokevirtual 205, 3) := by decide +kernel
theorem dX11_gift_24 : decode cX11_gift 24 = .ok (.invokevirtual 202, 3) := by decide +kernel
theorem dX11_gift_27 : decode cX11_gift 27 = .ok (.ireturn, 1) := by decide +kernel
theorem dX11_hide_0 : decode cX11_hide 0 = .ok (.aload_n 0, 1) := by decide +kernel
theorem dX11_hide_1 : decode cX11_hide 1 = .ok (.getfield 40, 3) := by decide +kernel
theorem dX11_hide_4 : decode cX11_hide 4 = .ok (.aload_n 0, 1) := by decide +kernel
theorem dX11_hide_5 : decode cX11_hide 5 = .ok (.getfield 36, 3) := by decide +kernel
theorem dX11_hide_8 : decode cX11_hide 8 = .ok (.invokevirtual 124, 3) := by decide +kernel
theorem dX11_hide_11 : decode cX11_hide 11 = .ok (.aload_n 0, 1) := by decide +kernel
theorem dX11_hide_12 : decode cX11_hide 12 = .ok (.aload_n 0, 1) := by decide +kernel
theorem dX11_hide_13 : decode cX11_hide 13 = .ok (.getfield 85, 3) := by decide +kernel
theorem dX11_hide_16 : decode cX11_hide 16 = .ok (.aload_n 0, 1) := by decide +kernel
theorem dX11_hide_17 : decode cX11_hide 17 = .ok (.getfield 36, 3) := by decide +kernel
theorem dX11_hide_20 : decode cX11_hide 20 = .ok (.iload_n 1, 1) := by decide +kernel
theorem dX11_hide_21 : decode cX11_hide 21 = .ok (.invokevirtual 209, 3) := by decide +kernel
theorem dX11_hide_24 : decode cX11_hide 24 = .ok (.invokevirtual 202, 3) := by decide +kernel
theorem dX11_hide_27 : decode cX11_hide 27 = .ok (.ireturn, 1) := by decide +kernel
theorem dX11_add_0 : decode cX11_add 0 = .ok (.aload_n 0, 1) := by decide +kernel
theorem dX11_add_1 : decode cX11_add 1 = .ok (.getfield 40, 3) := by decide +kernel
theorem dX11_add_4 : decode cX11_add 4 = .ok (.aload_n 0, 1) := by decide +kernel
theorem dX11_add_5 : decode cX11_add 5 = .ok (.getfield 36, 3) := by decide +kernel
theorem dX11_add_8 : decode cX11_add 8 = .ok (.invokevirtual 124, 3) := by decide +kernel
theorem dX11_add_11 : decode cX11_add 11 = .ok (.aload_n 0, 1) := by decide +kernel
theorem dX11_add_12 : decode cX11_add 12 = .ok (.aload_n 0, 1) := by decide +kernel
theorem dX11_add_13 : decode cX11_add 13 = .ok (.getfield 85, 3) := by decide +kernel
theorem dX11_add_16 : decode cX11_add 16 = .ok (.aload_n 0, 1) := by decide +kernel
theorem dX11_add_17 : decode cX11_add 17 = .ok (.getfield 36, 3) := by decide +kernel
theorem dX11_add_20 : decode cX11_add 20 = .ok (.iload_n 1, 1) := by decide +kernel
theorem dX11_add_21 : decode cX11_add 21 = .ok (.iload_n 2, 1) := by decide +kernel
theorem dX11_add_22 : decode cX11_add 22 = .ok (.invokevirtual 212, 3) := by decide +kernel
theorem dX11_add_25 : decode cX11_add 25 = .ok (.invokevirtual 202, 3) := by decide +kernel
theorem dX11_add_28 : decode cX11_add 28 = .ok (.ireturn, 1) := by decide +kernel
theorem dX11_price_0 : decode cX11_price 0 = .ok (.aload_n 0, 1) := by decide +kernel
theorem dX11_price_1 : decode cX11_price 1 = .ok (.getfield 40, 3) := by decide +kernel
theorem dX11_price_4 : decode cX11_price 4 = .ok (.aload_n 0, 1) := by decide +kernel
theorem dX11_price_5 : decode cX11_price 5 = .ok (.getfield 36, 3) := by decide +kernel
theorem dX11_price_8 : decode cX11_price 8 = .ok (.invokevirtual 124, 3) := by decide +kernel
theorem dX11_price_11 : decode cX11_price 11 = .ok (.aload_n 0, 1) := by decide +kernel
theorem dX11_price_12 : decode cX11_price 12 = .ok (.aload_n 0, 1) := by decide +kernel
theorem dX11_price_13 : decode cX11_price 13 = .ok (.getfield 85, 3) := by decide +kernel
theorem dX11_price_16 : decode cX11_price 16 = .ok (.aload_n 0, 1) := by decide +kernel
theorem dX11_price_17 : decode cX11_price 17 = .ok (.getfield 36, 3) := by decide +kernel
theorem dX11_price_20 : decode cX11_price 20 = .ok (.iload_n 1, 1) := by decide +kernel
theorem dX11_price_21 : decode cX11_price 21 = .ok (.iload_n 2, 1) := by decide +kernel
theorem dX11_price_22 : decode cX11_price 22 = .ok (.invokevirtual 216, 3) := by decide +kernel
theorem dX11_price_25 : decode cX11_price 25 = .ok (.invokevirtual 202, 3) := by decide +kernel
theorem dX11_price_28 : decode cX11_price 28 = .ok (.ireturn, 1) := by decide +kernel
theorem dX11_settle_0 : decode cX11_settle 0 = .ok (.iload_n 1, 1) := by decide +kernel
theorem dX11_settle_1 : decode cX11_settle 1 = .ok (.ifCond .lt 14, 3) := by decide +kernel
theorem dX11_settle_4 : decode cX11_settle 4 = .ok (.aload_n 0, 1) := by decide +kernel
theorem dX11_settle_5 : decode cX11_settle 5 = .ok (.getfield 46, 3) := by decide +kernel
theorem dX11_settle_8 : decode cX11_settle 8 = .ok (.aload_n 0, 1) := by decide +kernel
theorem dX11_settle_9 : decode cX11_settle 9 = .ok (.getfield 40, 3) := by decide +kernel
theorem dX11_settle_12 : decode cX11_settle 12 = .ok (.invokevirtual 192, 3) := by decide +kernel
theorem dX11_settle_15 : decode cX11_settle 15 = .ok (.iload_n 1, 1) := by decide +kernel
theorem dX11_settle_16 : decode cX11_settle 16 = .ok (.ireturn, 1) := by decide +kernel
theorem dX11_days_0 : decode cX11_days 0 = .ok (.iload_n 1, 1) := by decide +kernel
theorem dX11_days_1 : decode cX11_days 1 = .ok (.iconst 1, 1) := by decide +kernel
theorem dX11_days_2 : decode cX11_days 2 = .ok (.if_icmp .lt 9, 3) := by decide +kernel
theorem dX11_days_5 : decode cX11_days 5 = .ok (.iload_n 1, 1) := by decide +kernel
theorem dX11_days_6 : decode cX11_days 6 = .ok (.bipush 99, 2) := by decide +kernel
theorem dX11_days_8 : decode cX11_days 8 = .ok (.if_icmp .le 6, 3) := by decide +kernel
theorem dX11_days_11 : decode cX11_days 11 = .ok (.bipush (-3), 2) := by decide +kernel
theorem dX11_days_13 : decode cX11_days 13 = .ok (.ireturn, 1) := by decide +kernel
theorem dX11_days_14 : decode cX11_days 14 = .ok (.aload_n 0, 1) := by decide +kernel
theorem dX11_days_15 : decode cX11_days 15 = .ok (.getfield 40, 3) := by decide +kernel
theorem dX11_days_18 : decode cX11_days 18 = .ok (.aload_n 0, 1) := by decide +kernel
theorem dX11_days_19 : decode cX11_days 19 = .ok (.getfield 36, 3) := by decide +kernel
theorem dX11_days_22 : decode cX11_days 22 = .ok (.invokevirtual 124, 3) := by decide +kernel
theorem dX11_days_25 : decode cX11_days 25 = .ok (.iconst 0, 1) := by decide +kernel
theorem dX11_days_26 : decode cX11_days 26 = .ok (.istore_n 2, 1) := by decide +kernel
theorem dX11_days_27 : decode cX11_days 27 = .ok (.iconst 0, 1) := by decide +kernel
theorem dX11_days_28 : decode cX11_days 28 = .ok (.istore_n 3, 1) := by decide +kernel
theorem dX11_days_29 : decode cX11_days 29 = .ok (.iload_n 3, 1) := by decide +kernel
theorem dX11_days_30 : decode cX11_days 30 = .ok (.iload_n 1, 1) := by decide +kernel
theorem dX11_days_31 : decode cX11_days 31 = .ok (.if_icmp .ge 30, 3) := by decide +kernel
theorem dX11_days_34 : decode cX11_days 34 = .ok (.iload_n 2, 1) := by decide +kernel
theorem dX11_days_35 : decode cX11_days 35 = .ok (.aload_n 0, 1) := by decide +kernel
theorem dX11_days_36 : decode cX11_days 36 = .ok (.getfield 85, 3) := by decide +kernel
theorem dX11_days_39 : decode cX11_days 39 = .ok (.aload_n 0, 1) := by decide +kernel
theorem dX11_days_40 : decode cX11_days 40 = .ok (.getfield 26, 3) := by decide +kernel
theorem dX11_days_43 : decode cX11_days 43 = .ok (.aload_n 0, 1) := by decide +kernel
theorem dX11_days_44 : decode cX11_days 44 = .ok (.getfield 36, 3) := by decide +kernel
theorem dX11_days_47 : decode cX11_days 47 = .ok (.ldc2_w 219, 3) := by decide +kernel
theorem dX11_days_50 : decode cX11_days 50 = .ok (.invokevirtual 221, 3) := by decide +kernel
theorem dX11_days_53 : decode cX11_days 53 = .ok (.iadd, 1) := by decide +kernel
theorem dX11_days_54 : decode cX11_days 54 = .ok (.istore_n 2, 1) := by decide +kernel
theorem dX11_days_55 : decode cX11_days 55 = .ok (.iinc 3 1, 3) := by decide +kernel
theorem dX11_days_58 : decode cX11_days 58 = .ok (.goto (-29), 3) := by decide +kernel
theorem dX11_days_61 : decode cX11_days 61 = .ok (.aload_n 0, 1) := by decide +kernel
theorem dX11_days_62 : decode cX11_days 62 = .ok (.getfield 46, 3) := by decide +kernel
theorem dX11_days_65 : decode cX11_days 65 = .ok (.aload_n 0, 1) := by decide +kernel
theorem dX11_days_66 : decode cX11_days 66 = .ok (.getfield 40, 3) := by decide +kernel
theorem dX11_days_69 : decode cX11_days 69 = .ok (.invokevirtual 192, 3) := by decide +kernel
theorem dX11_days_72 : decode cX11_days 72 = .ok (.iload_n 2, 1) := by decide +kernel
theorem dX11_days_73 : decode cX11_days 73 = .ok (.ireturn, 1) := by decide +kernel
theorem dX11_undo_0 : decode cX11_undo 0 = .ok (.iload_n 1, 1) := by decide +kernel
theorem dX11_undo_1 : decode cX11_undo 1 = .ok (.iconst 1, 1) := by decide +kernel
theorem dX11_undo_2 : decode cX11_undo 2 = .ok (.if_icmp .lt 14, 3) := by decide +kernel
theorem dX11_undo_5 : decode cX11_undo 5 = .ok (.iload_n 1, 1) := by decide +kernel
theorem dX11_undo_6 : decode cX11_undo 6 = .ok (.aload_n 0, 1) := by decide +kernel
theorem dX11_undo_7 : decode cX11_undo 7 = .ok (.getfield 46, 3) := by decide +kernel
theorem dX11_undo_10 : decode cX11_undo 10 = .ok (.getfield 225, 3) := by decide +kernel
theorem dX11_undo_13 : decode cX11_undo 13 = .ok (.if_icmp .le 6, 3) := by decide +kernel
theorem dX11_undo_16 : decode cX11_undo 16 = .ok (.bipush (-3), 2) := by decide +kernel
theorem dX11_undo_18 : decode cX11_undo 18 = .ok (.ireturn, 1) := by decide +kernel
theorem dX11_undo_19 : decode cX11_undo 19 = .ok (.aload_n 0, 1) := by decide +kernel
theorem dX11_undo_20 : decode cX11_undo 20 = .ok (.getfield 46, 3) := by decide +kernel
theorem dX11_undo_23 : decode cX11_undo 23 = .ok (.iload_n 1, 1) := by decide +kernel
theorem dX11_undo_24 : decode cX11_undo 24 = .ok (.aload_n 0, 1) := by decide +kernel
theorem dX11_undo_25 : decode cX11_undo 25 = .ok (.getfield 36, 3) := by decide +kernel
theorem dX11_undo_28 : decode cX11_undo 28 = .ok (.invokevirtual 228, 3) := by decide +kernel
theorem dX11_undo_31 : decode cX11_undo 31 = .ok (.aload_n 0, 1) := by decide +kernel
theorem dX11_undo_32 : decode cX11_undo 32 = .ok (.getfield 46, 3) := by decide +kernel
theorem dX11_undo_35 : decode cX11_undo 35 = .ok (.getfield 225, 3) := by decide +kernel
theorem dX11_undo_38 : decode cX11_undo 38 = .ok (.ireturn, 1) := by decide +kernel
theorem dX11_judge_0 : decode cX11_judge 0 = .ok (.iload_n 1, 1) := by decide +kernel
theorem dX11_judge_1 : decode cX11_judge 1 = .ok (.invokestatic 232, 3) := by decide +kernel
theorem dX11_judge_4 : decode cX11_judge 4 = .ok (.ifCond .eq 12, 3) := by decide +kernel
theorem dX11_judge_7 : decode cX11_judge 7 = .ok (.iload_n 2, 1) := by decide +kernel
theorem dX11_judge_8 : decode cX11_judge 8 = .ok (.ifCond .lt 8, 3) := by decide +kernel
theorem dX11_judge_11 : decode cX11_judge 11 = .ok (.iload_n 2, 1) := by decide +kernel
theorem dX11_judge_12 : decode cX11_judge 12 = .ok (.iconst 3, 1) := by decide +kernel
theorem dX11_judge_13 : decode cX11_judge 13 = .ok (.if_icmp .le 6, 3) := by decide +kernel
theorem dX11_judge_16 : decode cX11_judge 16 = .ok (.bipush (-2), 2) := by decide +kernel
theorem dX11_judge_18 : decode cX11_judge 18 = .ok (.ireturn, 1) := by decide +kernel
theorem dX11_judge_19 : decode cX11_judge 19 = .ok (.aload_n 0, 1) := by decide +kernel
theorem dX11_judge_20 : decode cX11_judge 20 = .ok (.getfield 52, 3) := by decide +kernel
theorem dX11_judge_23 : decode cX11_judge 23 = .ok (.iload_n 1, 1) := by decide +kernel
theorem dX11_judge_24 : decode cX11_judge 24 = .ok (.aaload, 1) := by decide +kernel
theorem dX11_judge_25 : decode cX11_judge 25 = .ok (.astore_n 3, 1) := by decide +kernel
theorem dX11_judge_26 : decode cX11_judge 26 = .ok (.aload_n 3, 1) := by decide +kernel
theorem dX11_judge_27 : decode cX11_judge 27 = .ok (.invokevirtual 235, 3) := by decide +kernel
theorem dX11_judge_30 : decode cX11_judge 30 = .ok (.ifCond .eq 6, 3) := by decide +kernel
theorem dX11_judge_33 : decode cX11_judge 33 = .ok (.bipush (-6), 2) := by decide +kernel
theorem dX11_judge_35 : decode cX11_judge 35 = .ok (.ireturn, 1) := by decide +kernel
theorem dX11_judge_36 : decode cX11_judge 36 = .ok (.aload_n 0, 1) := by decide +kernel
theorem dX11_judge_37 : decode cX11_judge 37 = .ok (.getfield 40, 3) := by decide +kernel
theorem dX11_judge_40 : decode cX11_judge 40 = .ok (.aload_n 0, 1) := by decide +kernel
theorem dX11_judge_41 : decode cX11_judge 41 = .ok (.getfield 36, 3) := by decide +kernel
theorem dX11_judge_44 : decode cX11_judge 44 = .ok (.invokevirtual 124, 3) := by decide +kernel
theorem dX11_judge_47 : decode cX11_judge 47 = .ok (.iconst 0, 1) := by decide +kernel
theorem dX11_judge_48 : decode cX11_judge 48 = .ok (.istore 4, 2) := by decide +kernel
theorem dX11_judge_50 : decode cX11_judge 50 = .ok (.iconst 0, 1) := by decide +kernel
theorem dX11_judge_51 : decode cX11_judge 51 = .ok (.istore 5, 2) := by decide +kernel
theorem dX11_judge_53 : decode cX11_judge 53 = .ok (.iconst 0, 1) := by decide +kernel
theorem dX11_judge_54 : decode cX11_judge 54 = .ok (.istore 6, 2) := by decide +kernel
theorem dX11_judge_56 : decode cX11_judge 56 = .ok (.iload 6, 2) := by decide +kernel
theorem dX11_judge_58 : decode cX11_judge 58 = .ok (.aload_n 3, 1) := by decide +kernel
theorem dX11_judge_59 : decode cX11_judge 59 = .ok (.invokevirtual 239, 3) := by decide +kernel
theorem dX11_judge_62 : decode cX11_judge 62 = .ok (.if_icmp .ge 45, 3) := by decide +kernel
theorem dX11_judge_65 : decode cX11_judge 65 = .ok (.iload 4, 2) := by decide +kernel
theorem dX11_judge_67 : decode cX11_judge 67 = .ok (.ifCond .ne 40, 3) := by decide +kernel
theorem dX11_judge_70 : decode cX11_judge 70 = .ok (.iconst 0, 1) := by decide +kernel
theorem dX11_judge_71 : decode cX11_judge 71 = .ok (.aload_n 0, 1) := by decide +kernel
theorem dX11_judge_72 : decode cX11_judge 72 = .ok (.getfield 85, 3) := by decide +kernel
theorem dX11_judge_75 : decode cX11_judge 75 = .ok (.aload_n 0, 1) := by decide +kernel
theorem dX11_judge_76 : decode cX11_judge 76 = .ok (.getfield 26, 3) := by decide +kernel
theorem dX11_judge_79 : decode cX11_judge 79 = .ok (.aload_n 0, 1) := by decide +kernel
theorem dX11_judge_80 : decode cX11_judge 80 = .ok (.getfield 40, 3) := by decide +kernel
theorem dX11_judge_83 : decode cX11_judge 83 = .ok (.aload_n 3, 1) := by decide +kernel
theorem dX11_judge_84 : decode cX11_judge 84 = .ok (.iload 6, 2) := by decide +kernel
theorem dX11_judge_86 : decode cX11_judge 86 = .ok (.invokevirtual 242, 3) := by decide +kernel
theorem dX11_judge_89 : decode cX11_judge 89 = .ok (.invokevirtual 221, 3) := by decide +kernel
theorem dX11_judge_92 : decode cX11_judge 92 = .ok (.invokestatic 246, 3) := by decide +kernel
theorem dX11_judge_95 : decode cX11_judge 95 = .ok (.istore 4, 2) := by decide +kernel
theorem dX11_judge_97 : decode cX11_judge 97 = .ok (.iload 6, 2) := by decide +kernel
theorem dX11_judge_99 : decode cX11_judge 99 = .ok (.istore 5, 2) := by decide +kernel
theorem dX11_judge_101 : decode cX11_judge 101 = .ok (.iinc 6 1, 3) := by decide +kernel
theorem dX11_judge_104 : decode cX11_judge 104 = .ok (.goto (-48), 3) := by decide +kernel
theorem dX11_judge_107 : decode cX11_judge 107 = .ok (.iload_n 2, 1) := by decide +kernel
theorem dX11_judge_108 : decode cX11_judge 108 = .ok (.ifCond .ne 15, 3) := by decide +kernel
theorem dX11_judge_111 : decode cX11_judge 111 = .ok (.iload 4, 2) := by decide +kernel
theorem dX11_judge_113 : decode cX11_judge 113 = .ok (.ifCond .ne 7, 3) := by decide +kernel
theorem dX11_judge_116 : decode cX11_judge 116 = .ok (.iconst (-1), 1) := by decide +kernel
theorem dX11_judge_117 : decode cX11_judge 117 = .ok (.goto 5, 3) := by decide +kernel
theorem dX11_judge_120 : decode cX11_judge 120 = .ok (.iload 5, 2) := by decide +kernel
theorem dX11_judge_122 : decode cX11_judge 122 = .ok (.ireturn, 1) := by decide +kernel
theorem dX11_judge_123 : decode cX11_judge 123 = .ok (.iload_n 2, 1) := by decide +kernel
theorem dX11_judge_124 : decode cX11_judge 124 = .ok (.iconst 1, 1) := by decide +kernel
theorem dX11_judge_125 : decode cX11_judge 125 = .ok (.if_icmp .ne 18, 3) := by decide +kernel
theorem dX11_judge_128 : decode cX11_judge 128 = .ok (.iload 4, 2) := by decide +kernel
theorem dX11_judge_130 : decode cX11_judge 130 = .ok (.ifCond .ne 7, 3) := by decide +kernel
theorem dX11_judge_133 : decode cX11_judge 133 = .ok (.iconst 0, 1) := by decide +kernel
theorem dX11_judge_134 : decode cX11_judge 134 = .ok (.goto 8, 3) := by decide +kernel
theorem dX11_judge_137 : decode cX11_judge 137 = .ok (.bipush (-10), 2) := by decide +kernel
theorem dX11_judge_139 : decode cX11_judge 139 = .ok (.iload 4, 2) := by decide +kernel
theorem dX11_judge_141 : decode cX11_judge 141 = .ok (.isub, 1) := by decide +kernel
theorem dX11_judge_142 : decode cX11_judge 142 = .ok (.ireturn, 1) := by decide +kernel
theorem dX11_judge_143 : decode cX11_judge 143 = .ok (.iload_n 2, 1) := by decide +kernel
theorem dX11_judge_144 : decode cX11_judge 144 = .ok (.iconst 2, 1) := by decide +kernel
theorem dX11_judge_145 : decode cX11_judge 145 = .ok (.if_icmp .ne 13, 3) := by decide +kernel
theorem dX11_judge_148 : decode cX11_judge 148 = .ok (.aload_n 0, 1) := by decide +kernel
theorem dX11_judge_149 : decode cX11_judge 149 = .ok (.getfield 40, 3) := by decide +kernel
theorem dX11_judge_152 : decode cX11_judge 152 = .ok (.getfield 150, 3) := by decide +kernel
theorem dX11_judge_155 : decode cX11_judge 155 = .ok (.goto 10, 3) := by decide +kernel
theorem dX11_judge_158 : decode cX11_judge 158 = .ok (.aload_n 0, 1) := by decide +kernel
theorem dX11_judge_159 : decode cX11_judge 159 = .ok (.getfield 40, 3) := by decide +kernel
theorem dX11_judge_162 : decode cX11_judge 162 = .ok (.getfield 252, 3) := by decide +kernel
theorem dX11_judge_165 : decode cX11_judge 165 = .ok (.ireturn, 1) := by decide +kernel
theorem dX11_perform_0 : decode cX11_perform 0 = .ok (.aload_n 0, 1) := by decide +kernel
theorem dX11_perform_1 : decode cX11_perform 1 = .ok (.iload_n 1, 1) := by decide +kernel
theorem dX11_perform_2 : decode cX11_perform 2 = .ok (.invokevirtual 255, 3) := by decide +kernel
theorem dX11_perform_5 : decode cX11_perform 5 = .ok (.istore_n 2, 1) := by decide +kernel
theorem dX11_perform_6 : decode cX11_perform 6 = .ok (.iload_n 2, 1) := by decide +kernel
theorem dX11_perform_7 : decode cX11_perform 7 = .ok (.ifCond .eq 5, 3) := by decide +kernel
theorem dX11_perform_10 : decode cX11_perform 10 = .ok (.iload_n 2, 1) := by decide +kernel
theorem dX11_perform_11 : decode cX11_perform 11 = .ok (.ireturn, 1) := by decide +kernel
theorem dX11_perform_12 : decode cX11_perform 12 = .ok (.aload_n 0, 1) := by decide +kernel
theorem dX11_perform_13 : decode cX11_perform 13 = .ok (.getfield 52, 3) := by decide +kernel
theorem dX11_perform_16 : decode cX11_perform 16 = .ok (.iload_n 1, 1) := by decide +kernel
theorem dX11_perform_17 : decode cX11_perform 17 = .ok (.aaload, 1) := by decide +kernel
theorem dX11_perform_18 : decode cX11_perform 18 = .ok (.astore_n 3, 1) := by decide +kernel
theorem dX11_perform_19 : decode cX11_perform 19 = .ok (.aload_n 0, 1) := by decide +kernel
theorem dX11_perform_20 : decode cX11_perform 20 = .ok (.getfield 40, 3) := by decide +kernel
theorem dX11_perform_23 : decode cX11_perform 23 = .ok (.aload_n 0, 1) := by decide +kernel
theorem dX11_perform_24 : decode cX11_perform 24 = .ok (.getfield 36, 3) := by decide +kernel
theorem dX11_perform_27 : decode cX11_perform 27 = .ok (.invokevirtual 124, 3) := by decide +kernel
theorem dX11_perform_30 : decode cX11_perform 30 = .ok (.iconst 0, 1) := by decide +kernel
theorem dX11_perform_31 : decode cX11_perform 31 = .ok (.istore 4, 2) := by decide +kernel
theorem dX11_perform_33 : decode cX11_perform 33 = .ok (.iconst 0, 1) := by decide +kernel
theorem dX11_perform_34 : decode cX11_perform 34 = .ok (.istore 5, 2) := by decide +kernel
theorem dX11_perform_36 : decode cX11_perform 36 = .ok (.iload 5, 2) := by decide +kernel
theorem dX11_perform_38 : decode cX11_perform 38 = .ok (.aload_n 3, 1) := by decide +kernel
theorem dX11_perform_39 : decode cX11_perform 39 = .ok (.invokevirtual 239, 3) := by decide +kernel
theorem dX11_perform_42 : decode cX11_perform 42 = .ok (.if_icmp .ge 43, 3) := by decide +kernel
theorem dX11_perform_45 : decode cX11_perform 45 = .ok (.iload 4, 2) := by decide +kernel
theorem dX11_perform_47 : decode cX11_perform 47 = .ok (.iload 5, 2) := by decide +kernel
theorem dX11_perform_49 : decode cX11_perform 49 = .ok (.if_icmp .ne 36, 3) := by decide +kernel
theorem dX11_perform_52 : decode cX11_perform 52 = .ok (.aload_n 0, 1) := by decide +kernel
theorem dX11_perform_53 : decode cX11_perform 53 = .ok (.getfield 85, 3) := by decide +kernel
theorem dX11_perform_56 : decode cX11_perform 56 = .ok (.aload_n 0, 1) := by decide +kernel
theorem dX11_perform_57 : decode cX11_perform 57 = .ok (.getfield 26, 3) := by decide +kernel
theorem dX11_perform_60 : decode cX11_perform 60 = .ok (.aload_n 0, 1) := by decide +kernel
theorem dX11_perform_61 : decode cX11_perform 61 = .ok (.getfield 36, 3) := by decide +kernel
theorem dX11_perform_64 : decode cX11_perform 64 = .ok (.aload_n 3, 1) := by decide +kernel
theorem dX11_perform_65 : decode cX11_perform 65 = .ok (.iload 5, 2) := by decide +kernel
theorem dX11_perform_67 : decode cX11_perform 67 = .ok (.invokevirtual 242, 3) := by decide +kernel
theorem dX11_perform_70 : decode cX11_perform 70 = .ok (.invokevirtual 221, 3) := by decide +kernel
theorem dX11_perform_73 : decode cX11_perform 73 = .ok (.ifCond .lt 6, 3) := by decide +kernel
theorem dX11_perform_76 : decode cX11_perform 76 = .ok (.iinc 4 1, 3) := by decide +kernel
theorem dX11_perform_79 : decode cX11_perform 79 = .ok (.iinc 5 1, 3) := by decide +kernel
theorem dX11_perform_82 : decode cX11_perform 82 = .ok (.goto (-46), 3) := by decide +kernel
theorem dX11_perform_85 : decode cX11_perform 85 = .ok (.iload 4, 2) := by decide +kernel
theorem dX11_perform_87 : decode cX11_perform 87 = .ok (.ifCond .le 14, 3) := by decide +kernel
theorem dX11_perform_90 : decode cX11_perform 90 = .ok (.aload_n 0, 1) := by decide +kernel
theorem dX11_perform_91 : decode cX11_perform 91 = .ok (.getfield 46, 3) := by decide +kernel
theorem dX11_perform_94 : decode cX11_perform 94 = .ok (.aload_n 0, 1) := by decide +kernel
theorem dX11_perform_95 : decode cX11_perform 95 = .ok (.getfield 40, 3) := by decide +kernel
theorem dX11_perform_98 : decode cX11_perform 98 = .ok (.invokevirtual 192, 3) := by decide +kernel
theorem dX11_perform_101 : decode cX11_perform 101 = .ok (.iload 4, 2) := by decide +kernel
theorem dX11_perform_103 : decode cX11_perform 103 = .ok (.ireturn, 1) := by decide +kernel
theorem dX11_season_0 : decode cX11_season 0 = .ok (.iload_n 2, 1) := by decide +kernel
theorem dX11_season_1 : decode cX11_season 1 = .ok (.iconst 1, 1) := by decide +kernel
theorem dX11_season_2 : decode cX11_season 2 = .ok (.if_icmp .lt 9, 3) := by decide +kernel
theorem dX11_season_5 : decode cX11_season 5 = .ok (.iload_n 2, 1) := by decide +kernel
theorem dX11_season_6 : decode cX11_season 6 = .ok (.bipush 40, 2) := by decide +kernel
theorem dX11_season_8 : decode cX11_season 8 = .ok (.if_icmp .le 6, 3) := by decide +kernel
theorem dX11_season_11 : decode cX11_season 11 = .ok (.bipush (-3), 2) := by decide +kernel
theorem dX11_season_13 : decode cX11_season 13 = .ok (.ireturn, 1) := by decide +kernel
theorem dX11_season_14 : decode cX11_season 14 = .ok (.aload_n 0, 1) := by decide +kernel
theorem dX11_season_15 : decode cX11_season 15 = .ok (.getfield 40, 3) := by decide +kernel
theorem dX11_season_18 : decode cX11_season 18 = .ok (.aload_n 0, 1) := by decide +kernel
theorem dX11_season_19 : decode cX11_season 19 = .ok (.getfield 36, 3) := by decide +kernel
theorem dX11_season_22 : decode cX11_season 22 = .ok (.invokevirtual 124, 3) := by decide +kernel
theorem dX11_season_25 : decode cX11_season 25 = .ok (.aload_n 0, 1) := by decide +kernel
theorem dX11_season_26 : decode cX11_season 26 = .ok (.getfield 36, 3) := by decide +kernel
theorem dX11_season_29 : decode cX11_season 29 = .ok (.iload_n 1, 1) := by decide +kernel
theorem dX11_season_30 : decode cX11_season 30 = .ok (.putfield 195, 3) := by decide +kernel
theorem dX11_season_33 : decode cX11_season 33 = .ok (.iconst 0, 1) := by decide +kernel
theorem dX11_season_34 : decode cX11_season 34 = .ok (.istore_n 3, 1) := by decide +kernel
theorem dX11_season_35 : decode cX11_season 35 = .ok (.iconst 0, 1) := by decide +kernel
theorem dX11_season_36 : decode cX11_season 36 = .ok (.istore 4, 2) := by decide +kernel
theorem dX11_season_38 : decode cX11_season 38 = .ok (.iload 4, 2) := by decide +kernel
theorem dX11_season_40 : decode cX11_season 40 = .ok (.iload_n 2, 1) := by decide +kernel
theorem dX11_season_41 : decode cX11_season 41 = .ok (.if_icmp .ge 42, 3) := by decide +kernel
theorem dX11_season_44 : decode cX11_season 44 = .ok (.aload_n 0, 1) := by decide +kernel
theorem dX11_season_45 : decode cX11_season 45 = .ok (.getfield 85, 3) := by decide +kernel
theorem dX11_season_48 : decode cX11_season 48 = .ok (.aload_n 0, 1) := by decide +kernel
theorem dX11_season_49 : decode cX11_season 49 = .ok (.getfield 26, 3) := by decide +kernel
theorem dX11_season_52 : decode cX11_season 52 = .ok (.aload_n 0, 1) := by decide +kernel
theorem dX11_season_53 : decode cX11_season 53 = .ok (.getfield 36, 3) := by decide +kernel
theorem dX11_season_56 : decode cX11_season 56 = .ok (.aload_n 0, 1) := by decide +kernel
theorem dX11_season_57 : decode cX11_season 57 = .ok (.getfield 85, 3) := by decide +kernel
theorem dX11_season_60 : decode cX11_season 60 = .ok (.aload_n 0, 1) := by decide +kernel
theorem dX11_season_61 : decode cX11_season 61 = .ok (.getfield 36, 3) := by decide +kernel
theorem dX11_season_64 : decode cX11_season 64 = .ok (.invokevirtual 258, 3) := by decide +kernel
theorem dX11_season_67 : decode cX11_season 67 = .ok (.i2l, 1) := by decide +kernel
theorem dX11_season_68 : decode cX11_season 68 = .ok (.invokevirtual 221, 3) := by decide +kernel
theorem dX11_season_71 : decode cX11_season 71 = .ok (.ifCond .lt 6, 3) := by decide +kernel
theorem dX11_season_74 : decode cX11_season 74 = .ok (.iinc 3 1, 3) := by decide +kernel
theorem dX11_season_77 : decode cX11_season 77 = .ok (.iinc 4 1, 3) := by decide +kernel
theorem dX11_season_80 : decode cX11_season 80 = .ok (.goto (-42), 3) := by decide +kernel
theorem dX11_season_83 : decode cX11_season 83 = .ok (.iload_n 3, 1) := by decide +kernel
theorem dX11_season_84 : decode cX11_season 84 = .ok (.ifCond .ne 17, 3) := by decide +kernel
theorem dX11_season_87 : decode cX11_season 87 = .ok (.aload_n 0, 1) := by decide +kernel
theorem dX11_season_88 : decode cX11_season 88 = .ok (.getfield 36, 3) := by decide +kernel
theorem dX11_season_91 : decode cX11_season 91 = .ok (.aload_n 0, 1) := by decide +kernel
theorem dX11_season_92 : decode cX11_season 92 = .ok (.getfield 40, 3) := by decide +kernel
theorem dX11_season_95 : decode cX11_season 95 = .ok (.invokevirtual 124, 3) := by decide +kernel
theorem dX11_season_98 : decode cX11_season 98 = .ok (.goto 14, 3) := by decide +kernel
theorem dX11_season_101 : decode cX11_season 101 = .ok (.aload_n 0, 1) := by decide +kernel
theorem dX11_season_102 : decode cX11_season 102 = .ok (.getfield 46, 3) := by decide +kernel
theorem dX11_season_105 : decode cX11_season 105 = .ok (.aload_n 0, 1) := by decide +kernel
theorem dX11_season_106 : decode cX11_season 106 = .ok (.getfield 40, 3) := by decide +kernel
theorem dX11_season_109 : decode cX11_season 109 = .ok (.invokevirtual 192, 3) := by decide +kernel
theorem dX11_season_112 : decode cX11_season 112 = .ok (.iload_n 3, 1) := by decide +kernel
theorem dX11_season_113 : decode cX11_season 113 = .ok (.ireturn, 1) := by decide +kernel
theorem dX11_ending_0 : decode cX11_ending 0 = .ok (.aload_n 0, 1) := by decide +kernel
theorem dX11_ending_1 : decode cX11_ending 1 = .ok (.getfield 94, 3) := by decide +kernel
theorem dX11_ending_4 : decode cX11_ending 4 = .ok (.aload_n 0, 1) := by decide +kernel
theorem dX11_ending_5 : decode cX11_ending 5 = .ok (.getfield 26, 3) := by decide +kernel
theorem dX11_ending_8 : decode cX11_ending 8 = .ok (.aload_n 0, 1) := by decide +kernel
theorem dX11_ending_9 : decode cX11_ending 9 = .ok (.getfield 36, 3) := by decide +kernel
theorem dX11_ending_12 : decode cX11_ending 12 = .ok (.aload_n 0, 1) := by decide +kernel
theorem dX11_ending_13 : decode cX11_ending 13 = .ok (.getfield 36, 3) := by decide +kernel
theorem dX11_ending_16 : decode cX11_ending 16 = .ok (.getfield 153, 3) := by decide +kernel
theorem dX11_ending_19 : decode cX11_ending 19 = .ok (.invokevirtual 262, 3) := by decide +kernel
theorem dX11_ending_22 : decode cX11_ending 22 = .ok (.aload_n 0, 1) := by decide +kernel
theorem dX11_ending_23 : decode cX11_ending 23 = .ok (.getfield 94, 3) := by decide +kernel
theorem dX11_ending_26 : decode cX11_ending 26 = .ok (.invokevirtual 266, 3) := by decide +kernel
theorem dX11_ending_29 : decode cX11_ending 29 = .ok (.ireturn, 1) := by decide +kernel
theorem dX11_endingBy_0 : decode cX11_endingBy 0 = .ok (.iload_n 1, 1) := by decide +kernel
theorem dX11_endingBy_1 : decode cX11_endingBy 1 = .ok (.ifCond .ge 6, 3) := by decide +kernel
theorem dX11_endingBy_4 : decode cX11_endingBy 4 = .ok (.bipush (-3), 2) := by decide +kernel
theorem dX11_endingBy_6 : decode cX11_endingBy 6 = .ok (.ireturn, 1) := by decide +kernel
theorem dX11_endingBy_7 : decode cX11_endingBy 7 = .ok (.aload_n 0, 1) := by decide +kernel
theorem dX11_endingBy_8 : decode cX11_endingBy 8 = .ok (.getfield 94, 3) := by decide +kernel
theorem dX11_endingBy_11 : decode cX11_endingBy 11 = .ok (.aload_n 0, 1) := by decide +kernel
theorem dX11_endingBy_12 : decode cX11_endingBy 12 = .ok (.getfield 26, 3) := by decide +kernel
theorem dX11_endingBy_15 : decode cX11_endingBy 15 = .ok (.aload_n 0, 1) := by decide +kernel
theorem dX11_endingBy_16 : decode cX11_endingBy 16 = .ok (.getfield 36, 3) := by decide +kernel
theorem dX11_endingBy_19 : decode cX11_endingBy 19 = .ok (.aload_n 0, 1) := by decide +kernel
theorem dX11_endingBy_20 : decode cX11_endingBy 20 = .ok (.getfield 36, 3) := by decide +kernel
theorem dX11_endingBy_23 : decode cX11_endingBy 23 = .ok (.getfield 153, 3) := by decide +kernel
theorem dX11_endingBy_26 : decode cX11_endingBy 26 = .ok (.invokevirtual 262, 3) := by decide +kernel
theorem dX11_endingBy_29 : decode cX11_endingBy 29 = .ok (.iload_n 1, 1) := by decide +kernel
theorem dX11_endingBy_30 : decode cX11_endingBy 30 = .ok (.aload_n 0, 1) := by decide +kernel
theorem dX11_endingBy_31 : decode cX11_endingBy 31 = .ok (.getfield 94, 3) := by decide +kernel
theorem dX11_endingBy_34 : decode cX11_endingBy 34 = .ok (.invokevirtual 266, 3) := by decide +kernel
theorem dX11_endingBy_37 : decode cX11_endingBy 37 = .ok (.if_icmp .ge 14, 3) := by decide +kernel
theorem dX11_endingBy_40 : decode cX11_endingBy 40 = .ok (.aload_n 0, 1) := by decide +kernel
theorem dX11_endingBy_41 : decode cX11_endingBy 41 = .ok (.getfield 94, 3) := by decide +kernel
theorem dX11_endingBy_44 : decode cX11_endingBy 44 = .ok (.iload_n 1, 1) := by decide +kernel
theorem dX11_endingBy_45 : decode cX11_endingBy 45 = .ok (.invokevirtual 269, 3) := by decide +kernel
theorem dX11_endingBy_48 : decode cX11_endingBy 48 = .ok (.goto 4, 3) := by decide +kernel
theorem dX11_endingBy_51 : decode cX11_endingBy 51 = .ok (.iconst (-1), 1) := by decide +kernel
theorem dX11_endingBy_52 : decode cX11_endingBy 52 = .ok (.ireturn, 1) := by decide +kernel
theorem dX11_endings_0 : decode cX11_endings 0 = .ok (.iload_n 1, 1) := by decide +kernel
theorem dX11_endings_1 : decode cX11_endings 1 = .ok (.ifCond .lt 9, 3) := by decide +kernel
theorem dX11_endings_4 : decode cX11_endings 4 = .ok (.iload_n 1, 1) := by decide +kernel
theorem dX11_endings_5 : decode cX11_endings 5 = .ok (.bipush 15, 2) := by decide +kernel
theorem dX11_endings_7 : decode cX11_endings 7 = .ok (.if_icmp .le 7, 3) := by decide +kernel
theorem dX11_endings_10 : decode cX11_endings 10 = .ok (.ldc2_w 272, 3) := by decide +kernel
theorem dX11_endings_13 : decode cX11_endings 13 = .ok (.lreturn, 1) := by decide +kernel
theorem dX11_endings_14 : decode cX11_endings 14 = .ok (.aload_n 0, 1) := by decide +kernel
theorem dX11_endings_15 : decode cX11_endings 15 = .ok (.getfield 94, 3) := by decide +kernel
theorem dX11_endings_18 : decode cX11_endings 18 = .ok (.aload_n 0, 1) := by decide +kernel
theorem dX11_endings_19 : decode cX11_endings 19 = .ok (.getfield 26, 3) := by decide +kernel
theorem dX11_endings_22 : decode cX11_endings 22 = .ok (.aload_n 0, 1) := by decide +kernel
theorem dX11_endings_23 : decode cX11_endings 23 = .ok (.getfield 36, 3) := by decide +kernel
theorem dX11_endings_26 : decode cX11_endings 26 = .ok (.aload_n 0, 1) := by decide +kernel
theorem dX11_endings_27 : decode cX11_endings 27 = .ok (.getfield 36, 3) := by decide +kernel
theorem dX11_endings_30 : decode cX11_endings 30 = .ok (.getfield 153, 3) := by decide +kernel
theorem dX11_endings_33 : decode cX11_endings 33 = .ok (.invokevirtual 262, 3) := by decide +kernel
theorem dX11_endings_36 : decode cX11_endings 36 = .ok (.aload_n 0, 1) := by decide +kernel
theorem dX11_endings_37 : decode cX11_endings 37 = .ok (.getfield 94, 3) := by decide +kernel
theorem dX11_endings_40 : decode cX11_endings 40 = .ok (.iload_n 1, 1) := by decide +kernel
theorem dX11_endings_41 : decode cX11_endings 41 = .ok (.invokevirtual 274, 3) := by decide +kernel
theorem dX11_endings_44 : decode cX11_endings 44 = .ok (.lreturn, 1) := by decide +kernel
theorem dX11_needed_0 : decode cX11_needed 0 = .ok (.aload_n 0, 1) := by decide +kernel
theorem dX11_needed_1 : decode cX11_needed 1 = .ok (.getfield 94, 3) := by decide +kernel
theorem dX11_needed_4 : decode cX11_needed 4 = .ok (.aload_n 0, 1) := by decide +kernel
theorem dX11_needed_5 : decode cX11_needed 5 = .ok (.getfield 26, 3) := by decide +kernel
theorem dX11_needed_8 : decode cX11_needed 8 = .ok (.aload_n 0, 1) := by decide +kernel
theorem dX11_needed_9 : decode cX11_needed 9 = .ok (.getfield 36, 3) := by decide +kernel
theorem dX11_needed_12 : decode cX11_needed 12 = .ok (.aload_n 0, 1) := by decide +kernel
theorem dX11_needed_13 : decode cX11_needed 13 = .ok (.getfield 36, 3) := by decide +kernel
theorem dX11_needed_16 : decode cX11_needed 16 = .ok (.getfield 153, 3) := by decide +kernel
theorem dX11_needed_19 : decode cX11_needed 19 = .ok (.invokevirtual 262, 3) := by decide +kernel
theorem dX11_needed_22 : decode cX11_needed 22 = .ok (.aload_n 0, 1) := by decide +kernel
theorem dX11_needed_23 : decode cX11_needed 23 = .ok (.getfield 94, 3) := by decide +kernel
theorem dX11_needed_26 : decode cX11_needed 26 = .ok (.invokevirtual 277, 3) := by decide +kernel
theorem dX11_needed_29 : decode cX11_needed 29 = .ok (.ireturn, 1) := by decide +kernel
theorem dX11_sellable_0 : decode cX11_sellable 0 = .ok (.aload_n 0, 1) := by decide +kernel
theorem dX11_sellable_1 : decode cX11_sellable 1 = .ok (.getfield 94, 3) := by decide +kernel
theorem dX11_sellable_4 : decode cX11_sellable 4 = .ok (.aload_n 0, 1) := by decide +kernel
theorem dX11_sellable_5 : decode cX11_sellable 5 = .ok (.getfield 26, 3) := by decide +kernel
theorem dX11_sellable_8 : decode cX11_sellable 8 = .ok (.aload_n 0, 1) := by decide +kernel
theorem dX11_sellable_9 : decode cX11_sellable 9 = .ok (.getfield 36, 3) := by decide +kernel
theorem dX11_sellable_12 : decode cX11_sellable 12 = .ok (.aload_n 0, 1) := by decide +kernel
theorem dX11_sellable_13 : decode cX11_sellable 13 = .ok (.getfield 36, 3) := by decide +kernel
theorem dX11_sellable_16 : decode cX11_sellable 16 = .ok (.getfield 153, 3) := by decide +kernel
theorem dX11_sellable_19 : decode cX11_sellable 19 = .ok (.invokevirtual 262, 3) := by decide +kernel
theorem dX11_sellable_22 : decode cX11_sellable 22 = .ok (.aload_n 0, 1) := by decide +kernel
theorem dX11_sellable_23 : decode cX11_sellable 23 = .ok (.getfield 94, 3) := by decide +kernel
theorem dX11_sellable_26 : decode cX11_sellable 26 = .ok (.invokevirtual 280, 3) := by decide +kernel
theorem dX11_sellable_29 : decode cX11_sellable 29 = .ok (.ireturn, 1) := by decide +kernel
theorem dX11_guards_0 : decode cX11_guards 0 = .ok (.iconst 0, 1) := by decide +kernel
theorem dX11_guards_1 : decode cX11_guards 1 = .ok (.istore_n 1, 1) := by decide +kernel
theorem dX11_guards_2 : decode cX11_guards 2 = .ok (.aload_n 0, 1) := by decide +kernel
theorem dX11_guards_3 : decode cX11_guards 3 = .ok (.getfield 94, 3) := by decide +kernel
theorem dX11_guards_6 : decode cX11_guards 6 = .ok (.aload_n 0, 1) := by decide +kernel
theorem dX11_guards_7 : decode cX11_guards 7 = .ok (.getfield 26, 3) := by decide +kernel
theorem dX11_guards_10 : decode cX11_guards 10 = .ok (.aload_n 0, 1) := by decide +kernel
theorem dX11_guards_11 : decode cX11_guards 11 = .ok (.getfield 36, 3) := by decide +kernel
theorem dX11_guards_14 : decode cX11_guards 14 = .ok (.aload_n 0, 1) := by decide +kernel
theorem dX11_guards_15 : decode cX11_guards 15 = .ok (.getfield 36, 3) := by decide +kernel
theorem dX11_guards_18 : decode cX11_guards 18 = .ok (.getfield 153, 3) := by decide +kernel
theorem dX11_guards_21 : decode cX11_guards 21 = .ok (.invokevirtual 262, 3) := by decide +kernel
theorem dX11_guards_24 : decode cX11_guards 24 = .ok (.aload_n 0, 1) := by decide +kernel
theorem dX11_guards_25 : decode cX11_guards 25 = .ok (.getfield 94, 3) := by decide +kernel
theorem dX11_guards_28 : decode cX11_guards 28 = .ok (.invokevirtual 266, 3) := by decide +kernel
theorem dX11_guards_31 : decode cX11_guards 31 = .ok (.iconst (-1), 1) := by decide +kernel
theorem dX11_guards_32 : decode cX11_guards 32 = .ok (.if_icmp .ne 5, 3) := by decide +kernel
theorem dX11_guards_35 : decode cX11_guards 35 = .ok (.iload_n 1, 1) := by decide +kernel
theorem dX11_guards_36 : decode cX11_guards 36 = .ok (.ireturn, 1) := by decide +kernel
theorem dX11_guards_37 : decode cX11_guards 37 = .ok (.iconst 0, 1) := by decide +kernel
theorem dX11_guards_38 : decode cX11_guards 38 = .ok (.istore_n 2, 1) := by decide +kernel
theorem dX11_guards_39 : decode cX11_guards 39 = .ok (.iload_n 2, 1) := by decide +kernel
theorem dX11_guards_40 : decode cX11_guards 40 = .ok (.aload_n 0, 1) := by decide +kernel
theorem dX11_guards_41 : decode cX11_guards 41 = .ok (.getfield 36, 3) := by decide +kernel
theorem dX11_guards_44 : decode cX11_guards 44 = .ok (.getfield 160, 3) := by decide +kernel
theorem dX11_guards_47 : decode cX11_guards 47 = .ok (.if_icmp .ge 70, 3) := by decide +kernel
theorem dX11_guards_50 : decode cX11_guards 50 = .ok (.aload_n 0, 1) := by decide +kernel
theorem dX11_guards_51 : decode cX11_guards 51 = .ok (.getfield 36, 3) := by decide +kernel
theorem dX11_guards_54 : decode cX11_guards 54 = .ok (.getfield 153, 3) := by decide +kernel
theorem dX11_guards_57 : decode cX11_guards 57 = .ok (.iload_n 2, 1) := by decide +kernel
theorem dX11_guards_58 : decode cX11_guards 58 = .ok (.ishr, 1) := by decide +kernel
theorem dX11_guards_59 : decode cX11_guards 59 = .ok (.iconst 1, 1) := by decide +kernel
theorem dX11_guards_60 : decode cX11_guards 60 = .ok (.iand, 1) := by decide +kernel
theorem dX11_guards_61 : decode cX11_guards 61 = .ok (.ifCond .ne 50, 3) := by decide +kernel
theorem dX11_guards_64 : decode cX11_guards 64 = .ok (.aload_n 0, 1) := by decide +kernel
theorem dX11_guards_65 : decode cX11_guards 65 = .ok (.getfield 94, 3) := by decide +kernel
theorem dX11_guards_68 : decode cX11_guards 68 = .ok (.aload_n 0, 1) := by decide +kernel
theorem dX11_guards_69 : decode cX11_guards 69 = .ok (.getfield 26, 3) := by decide +kernel
theorem dX11_guards_72 : decode cX11_guards 72 = .ok (.aload_n 0, 1) := by decide +kernel
theorem dX11_guards_73 : decode cX11_guards 73 = .ok (.getfield 36, 3) := by decide +kernel
theorem dX11_guards_76 : decode cX11_guards 76 = .ok (.aload_n 0, 1) := by decide +kernel
theorem dX11_guards_77 : decode cX11_guards 77 = .ok (.getfield 36, 3) := by decide +kernel
theorem dX11_guards_80 : decode cX11_guards 80 = .ok (.getfield 153, 3) := by decide +kernel
theorem dX11_guards_83 : decode cX11_guards 83 = .ok (.iconst 1, 1) := by decide +kernel
theorem dX11_guards_84 : decode cX11_guards 84 = .ok (.iload_n 2, 1) := by decide +kernel
theorem dX11_guards_85 : decode cX11_guards 85 = .ok (.ishl, 1) := by decide +kernel
theorem dX11_guards_86 : decode cX11_guards 86 = .ok (.ior, 1) := by decide +kernel
theorem dX11_guards_87 : decode cX11_guards 87 = .ok (.invokevirtual 262, 3) := by decide +kernel
theorem dX11_guards_90 : decode cX11_guards 90 = .ok (.iload_n 1, 1) := by decide +kernel
theorem dX11_guards_91 : decode cX11_guards 91 = .ok (.aload_n 0, 1) := by decide +kernel
theorem dX11_guards_92 : decode cX11_guards 92 = .ok (.getfield 94, 3) := by decide +kernel
theorem dX11_guards_95 : decode cX11_guards 95 = .ok (.invokevirtual 266, 3) := by decide +kernel
theorem dX11_guards_98 : decode cX11_guards 98 = .ok (.iconst (-1), 1) := by decide +kernel
theorem dX11_guards_99 : decode cX11_guards 99 = .ok (.if_icmp .ne 9, 3) := by decide +kernel
theorem dX11_guards_102 : decode cX11_guards 102 = .ok (.iconst 1, 1) := by decide +kernel
theorem dX11_guards_103 : decode cX11_guards 103 = .ok (.iload_n 2, 1) := by decide +kernel
theorem dX11_guards_104 : decode cX11_guards 104 = .ok (.ishl, 1) := by decide +kernel
theorem dX11_guards_105 : decode cX11_guards 105 = .ok (.goto 4, 3) := by decide +kernel
theorem dX11_guards_108 : decode cX11_guards 108 = .ok (.iconst 0, 1) := by decide +kernel
theorem dX11_guards_109 : decode cX11_guards 109 = .ok (.ior, 1) := by decide +kernel
theorem dX11_guards_110 : decode cX11_guards 110 = .ok (.istore_n 1, 1) := by decide +kernel
theorem dX11_guards_111 : decode cX11_guards 111 = .ok (.iinc 2 1, 3) := by decide +kernel
theorem dX11_guards_114 : decode cX11_guards 114 = .ok (.goto (-75), 3) := by decide +kernel
theorem dX11_guards_117 : decode cX11_guards 117 = .ok (.iload_n 1, 1) := by decide +kernel
theorem dX11_guards_118 : decode cX11_guards 118 = .ok (.ireturn, 1) := by decide +kernel
theorem dX11_last_0 : decode cX11_last 0 = .ok (.aload_n 0, 1) := by decide +kernel
theorem dX11_last_1 : decode cX11_last 1 = .ok (.getfield 94, 3) := by decide +kernel
theorem dX11_last_4 : decode cX11_last 4 = .ok (.aload_n 0, 1) := by decide +kernel
theorem dX11_last_5 : decode cX11_last 5 = .ok (.getfield 26, 3) := by decide +kernel
theorem dX11_last_8 : decode cX11_last 8 = .ok (.aload_n 0, 1) := by decide +kernel
theorem dX11_last_9 : decode cX11_last 9 = .ok (.getfield 36, 3) := by decide +kernel
theorem dX11_last_12 : decode cX11_last 12 = .ok (.aload_n 0, 1) := by decide +kernel
theorem dX11_last_13 : decode cX11_last 13 = .ok (.getfield 36, 3) := by decide +kernel
theorem dX11_last_16 : decode cX11_last 16 = .ok (.getfield 153, 3) := by decide +kernel
theorem dX11_last_19 : decode cX11_last 19 = .ok (.invokevirtual 262, 3) := by decide +kernel
theorem dX11_last_22 : decode cX11_last 22 = .ok (.aload_n 0, 1) := by decide +kernel
theorem dX11_last_23 : decode cX11_last 23 = .ok (.getfield 94, 3) := by decide +kernel
theorem dX11_last_26 : decode cX11_last 26 = .ok (.invokevirtual 283, 3) := by decide +kernel
theorem dX11_last_29 : decode cX11_last 29 = .ok (.ireturn, 1) := by decide +kernel
theorem dX11_open_0 : decode cX11_open 0 = .ok (.iload_n 2, 1) := by decide +kernel
theorem dX11_open_1 : decode cX11_open 1 = .ok (.iload_n 1, 1) := by decide +kernel
theorem dX11_open_2 : decode cX11_open 2 = .ok (.bipush 10, 2) := by decide +kernel
theorem dX11_open_4 : decode cX11_open 4 = .ok (.invokestatic 286, 3) := by decide +kernel
theorem dX11_open_7 : decode cX11_open 7 = .ok (.istore_n 3, 1) := by decide +kernel
theorem dX11_open_8 : decode cX11_open 8 = .ok (.iload_n 3, 1) := by decide +kernel
theorem dX11_open_9 : decode cX11_open 9 = .ok (.ifCond .eq 6, 3) := by decide +kernel
theorem dX11_open_12 : decode cX11_open 12 = .ok (.iload_n 3, 1) := by decide +kernel
theorem dX11_open_13 : decode cX11_open 13 = .ok (.i2l, 1) := by decide +kernel
theorem dX11_open_14 : decode cX11_open 14 = .ok (.lreturn, 1) := by decide +kernel
theorem dX11_open_15 : decode cX11_open 15 = .ok (.aload_n 0, 1) := by decide +kernel
theorem dX11_open_16 : decode cX11_open 16 = .ok (.getfield 94, 3) := by decide +kernel
theorem dX11_open_19 : decode cX11_open 19 = .ok (.aload_n 0, 1) := by decide +kernel
theorem dX11_open_20 : decode cX11_open 20 = .ok (.getfield 26, 3) := by decide +kernel
theorem dX11_open_23 : decode cX11_open 23 = .ok (.aload_n 0, 1) := by decide +kernel
theorem dX11_open_24 : decode cX11_open 24 = .ok (.getfield 36, 3) := by decide +kernel
theorem dX11_open_27 : decode cX11_open 27 = .ok (.aload_n 0, 1) := by decide +kernel
theorem dX11_open_28 : decode cX11_open 28 = .ok (.getfield 36, 3) := by decide +kernel
theorem dX11_open_31 : decode cX11_open 31 = .ok (.getfield 153, 3) := by decide +kernel
theorem dX11_open_34 : decode cX11_open 34 = .ok (.invokevirtual 262, 3) := by decide +kernel
theorem dX11_open_37 : decode cX11_open 37 = .ok (.aload_n 0, 1) := by decide +kernel
theorem dX11_open_38 : decode cX11_open 38 = .ok (.getfield 94, 3) := by decide +kernel
theorem dX11_open_41 : decode cX11_open 41 = .ok (.iload_n 1, 1) := by decide +kernel
theorem dX11_open_42 : decode cX11_open 42 = .ok (.invokevirtual 289, 3) := by decide +kernel
theorem dX11_open_45 : decode cX11_open 45 = .ok (.aload_n 0, 1) := by decide +kernel
theorem dX11_open_46 : decode cX11_open 46 = .ok (.getfield 94, 3) := by decide +kernel
theorem dX11_open_49 : decode cX11_open 49 = .ok (.invokevirtual 292, 3) := by decide +kernel
theorem dX11_open_52 : decode cX11_open 52 = .ok (.aload_n 0, 1) := by decide +kernel
theorem dX11_open_53 : decode cX11_open 53 = .ok (.getfield 94, 3) := by decide +kernel
theorem dX11_open_56 : decode cX11_open 56 = .ok (.getfield 296, 3) := by decide +kernel
theorem dX11_open_59 : decode cX11_open 59 = .ok (.iload_n 2, 1) := by decide +kernel
theorem dX11_open_60 : decode cX11_open 60 = .ok (.invokestatic 300, 3) := by decide +kernel
theorem dX11_open_63 : decode cX11_open 63 = .ok (.lreturn, 1) := by decide +kernel
theorem dX11_likely_0 : decode cX11_likely 0 = .ok (.iload_n 1, 1) := by decide +kernel
theorem dX11_likely_1 : decode cX11_likely 1 = .ok (.ifCond .lt 9, 3) := by decide +kernel
theorem dX11_likely_4 : decode cX11_likely 4 = .ok (.iload_n 1, 1) := by decide +kernel
theorem dX11_likely_5 : decode cX11_likely 5 = .ok (.bipush 100, 2) := by decide +kernel
theorem dX11_likely_7 : decode cX11_likely 7 = .ok (.if_icmp .le 6, 3) := by decide +kernel
theorem dX11_likely_10 : decode cX11_likely 10 = .ok (.bipush (-3), 2) := by decide +kernel
theorem dX11_likely_12 : decode cX11_likely 12 = .ok (.ireturn, 1) := by decide +kernel
theorem dX11_likely_13 : decode cX11_likely 13 = .ok (.aload_n 0, 1) := by decide +kernel
theorem dX11_likely_14 : decode cX11_likely 14 = .ok (.getfield 94, 3) := by decide +kernel
theorem dX11_likely_17 : decode cX11_likely 17 = .ok (.aload_n 0, 1) := by decide +kernel
theorem dX11_likely_18 : decode cX11_likely 18 = .ok (.getfield 26, 3) := by decide +kernel
theorem dX11_likely_21 : decode cX11_likely 21 = .ok (.aload_n 0, 1) := by decide +kernel
theorem dX11_likely_22 : decode cX11_likely 22 = .ok (.getfield 36, 3) := by decide +kernel
theorem dX11_likely_25 : decode cX11_likely 25 = .ok (.aload_n 0, 1) := by decide +kernel
theorem dX11_likely_26 : decode cX11_likely 26 = .ok (.getfield 36, 3) := by decide +kernel
theorem dX11_likely_29 : decode cX11_likely 29 = .ok (.getfield 153, 3) := by decide +kernel
theorem dX11_likely_32 : decode cX11_likely 32 = .ok (.invokevirtual 262, 3) := by decide +kernel
theorem dX11_likely_35 : decode cX11_likely 35 = .ok (.iconst 0, 1) := by decide +kernel
theorem dX11_likely_36 : decode cX11_likely 36 = .ok (.istore_n 2, 1) := by decide +kernel
theorem dX11_likely_37 : decode cX11_likely 37 = .ok (.iload_n 2, 1) := by decide +kernel
theorem dX11_likely_38 : decode cX11_likely 38 = .ok (.bipush 10, 2) := by decide +kernel
theorem dX11_likely_40 : decode cX11_likely 40 = .ok (.if_icmp .gt 50, 3) := by decide +kernel
theorem dX11_likely_43 : decode cX11_likely 43 = .ok (.aload_n 0, 1) := by decide +kernel
theorem dX11_likely_44 : decode cX11_likely 44 = .ok (.getfield 94, 3) := by decide +kernel
theorem dX11_likely_47 : decode cX11_likely 47 = .ok (.iload_n 2, 1) := by decide +kernel
theorem dX11_likely_48 : decode cX11_likely 48 = .ok (.invokevirtual 289, 3) := by decide +kernel
theorem dX11_likely_51 : decode cX11_likely 51 = .ok (.aload_n 0, 1) := by decide +kernel
theorem dX11_likely_52 : decode cX11_likely 52 = .ok (.getfield 94, 3) := by decide +kernel
theorem dX11_likely_55 : decode cX11_likely 55 = .ok (.getfield 296, 3) := by decide +kernel
theorem dX11_likely_58 : decode cX11_likely 58 = .ok (.aload_n 0, 1) := by decide +kernel
theorem dX11_likely_59 : decode cX11_likely 59 = .ok (.getfield 94, 3) := by decide +kernel
theorem dX11_likely_62 : decode cX11_likely 62 = .ok (.invokevirtual 292, 3) := by decide +kernel
theorem dX11_likely_65 : decode cX11_likely 65 = .ok (.lsub, 1) := by decide +kernel
theorem dX11_likely_66 : decode cX11_likely 66 = .ok (.aload_n 0, 1) := by decide +kernel
theorem dX11_likely_67 : decode cX11_likely 67 = .ok (.getfield 94, 3) := by decide +kernel
theorem dX11_likely_70 : decode cX11_likely 70 = .ok (.getfield 296, 3) := by decide +kernel
theorem dX11_likely_73 : decode cX11_likely 73 = .ok (.invokestatic 304, 3) := by decide +kernel
theorem dX11_likely_76 : decode cX11_likely 76 = .ok (.iload_n 1, 1) := by decide +kernel
theorem dX11_likely_77 : decode cX11_likely 77 = .ok (.i2l, 1) := by decide +kernel
theorem dX11_likely_78 : decode cX11_likely 78 = .ok (.lcmp, 1) := by decide +kernel
theorem dX11_likely_79 : decode cX11_likely 79 = .ok (.ifCond .lt 5, 3) := by decide +kernel
theorem dX11_likely_82 : decode cX11_likely 82 = .ok (.iload_n 2, 1) := by decide +kernel
theorem dX11_likely_83 : decode cX11_likely 83 = .ok (.ireturn, 1) := by decide +kernel
theorem dX11_likely_84 : decode cX11_likely 84 = .ok (.iinc 2 1, 3) := by decide +kernel
theorem dX11_likely_87 : decode cX11_likely 87 = .ok (.goto (-50), 3) := by decide +kernel
theorem dX11_likely_90 : decode cX11_likely 90 = .ok (.iconst (-1), 1) := by decide +kernel
theorem dX11_likely_91 : decode cX11_likely 91 = .ok (.ireturn, 1) := by decide +kernel
theorem dX11_shutsBy_0 : decode cX11_shutsBy 0 = .ok (.aload_n 0, 1) := by decide +kernel
theorem dX11_shutsBy_1 : decode cX11_shutsBy 1 = .ok (.iload_n 1, 1) := by decide +kernel
theorem dX11_shutsBy_2 : decode cX11_shutsBy 2 = .ok (.invokevirtual 173, 3) := by decide +kernel
theorem dX11_shutsBy_5 : decode cX11_shutsBy 5 = .ok (.ifCond .eq 13, 3) := by decide +kernel
theorem dX11_shutsBy_8 : decode cX11_shutsBy 8 = .ok (.iload_n 3, 1) := by decide +kernel
theorem dX11_shutsBy_9 : decode cX11_shutsBy 9 = .ok (.iload_n 2, 1) := by decide +kernel
theorem dX11_shutsBy_10 : decode cX11_shutsBy 10 = .ok (.bipush 10, 2) := by decide +kernel
theorem dX11_shutsBy_12 : decode cX11_shutsBy 12 = .ok (.invokestatic 286, 3) := by decide +kernel
theorem dX11_shutsBy_15 : decode cX11_shutsBy 15 = .ok (.goto 5, 3) := by decide +kernel
theorem dX11_shutsBy_18 : decode cX11_shutsBy 18 = .ok (.bipush (-2), 2) := by decide +kernel
theorem dX11_shutsBy_20 : decode cX11_shutsBy 20 = .ok (.istore 4, 2) := by decide +kernel
theorem dX11_shutsBy_22 : decode cX11_shutsBy 22 = .ok (.iload 4, 2) := by decide +kernel
theorem dX11_shutsBy_24 : decode cX11_shutsBy 24 = .ok (.ifCond .eq 7, 3) := by decide +kernel
theorem dX11_shutsBy_27 : decode cX11_shutsBy 27 = .ok (.iload 4, 2) := by decide +kernel
theorem dX11_shutsBy_29 : decode cX11_shutsBy 29 = .ok (.i2l, 1) := by decide +kernel
theorem dX11_shutsBy_30 : decode cX11_shutsBy 30 = .ok (.lreturn, 1) := by decide +kernel
theorem dX11_shutsBy_31 : decode cX11_shutsBy 31 = .ok (.aload_n 0, 1) := by decide +kernel
theorem dX11_shutsBy_32 : decode cX11_shutsBy 32 = .ok (.getfield 94, 3) := by decide +kernel
theorem dX11_shutsBy_35 : decode cX11_shutsBy 35 = .ok (.aload_n 0, 1) := by decide +kernel
theorem dX11_shutsBy_36 : decode cX11_shutsBy 36 = .ok (.getfield 26, 3) := by decide +kernel
theorem dX11_shutsBy_39 : decode cX11_shutsBy 39 = .ok (.aload_n 0, 1) := by decide +kernel
theorem dX11_shutsBy_40 : decode cX11_shutsBy 40 = .ok (.getfield 36, 3) := by decide +kernel
theorem dX11_shutsBy_43 : decode cX11_shutsBy 43 = .ok (.aload_n 0, 1) := by decide +kernel
theorem dX11_shutsBy_44 : decode cX11_shutsBy 44 = .ok (.getfield 36, 3) := by decide +kernel
theorem dX11_shutsBy_47 : decode cX11_shutsBy 47 = .ok (.getfield 153, 3) := by decide +kernel
theorem dX11_shutsBy_50 : decode cX11_shutsBy 50 = .ok (.invokevirtual 262, 3) := by decide +kernel
theorem dX11_shutsBy_53 : decode cX11_shutsBy 53 = .ok (.aload_n 0, 1) := by decide +kernel
theorem dX11_shutsBy_54 : decode cX11_shutsBy 54 = .ok (.getfield 94, 3) := by decide +kernel
theorem dX11_shutsBy_57 : decode cX11_shutsBy 57 = .ok (.iload_n 2, 1) := by decide +kernel
theorem dX11_shutsBy_58 : decode cX11_shutsBy 58 = .ok (.invokevirtual 289, 3) := by decide +kernel
theorem dX11_shutsBy_61 : decode cX11_shutsBy 61 = .ok (.aload_n 0, 1) := by decide +kernel
theorem dX11_shutsBy_62 : decode cX11_shutsBy 62 = .ok (.getfield 94, 3) := by decide +kernel
theorem dX11_shutsBy_65 : decode cX11_shutsBy 65 = .ok (.getfield 308, 3) := by decide +kernel
theorem dX11_shutsBy_68 : decode cX11_shutsBy 68 = .ok (.iload_n 1, 1) := by decide +kernel
theorem dX11_shutsBy_69 : decode cX11_shutsBy 69 = .ok (.laload, 1) := by decide +kernel
theorem dX11_shutsBy_70 : decode cX11_shutsBy 70 = .ok (.aload_n 0, 1) := by decide +kernel
theorem dX11_shutsBy_71 : decode cX11_shutsBy 71 = .ok (.getfield 94, 3) := by decide +kernel
theorem dX11_shutsBy_74 : decode cX11_shutsBy 74 = .ok (.getfield 296, 3) := by decide +kernel
theorem dX11_shutsBy_77 : decode cX11_shutsBy 77 = .ok (.iload_n 3, 1) := by decide +kernel
theorem dX11_shutsBy_78 : decode cX11_shutsBy 78 = .ok (.invokestatic 300, 3) := by decide +kernel
theorem dX11_shutsBy_81 : decode cX11_shutsBy 81 = .ok (.lreturn, 1) := by decide +kernel
theorem dX11_closer_0 : decode cX11_closer 0 = .ok (.iload_n 1, 1) := by decide +kernel
theorem dX11_closer_1 : decode cX11_closer 1 = .ok (.ifCond .lt 9, 3) := by decide +kernel
theorem dX11_closer_4 : decode cX11_closer 4 = .ok (.iload_n 1, 1) := by decide +kernel
theorem dX11_closer_5 : decode cX11_closer 5 = .ok (.bipush 10, 2) := by decide +kernel
theorem dX11_closer_7 : decode cX11_closer 7 = .ok (.if_icmp .le 6, 3) := by decide +kernel
theorem dX11_closer_10 : decode cX11_closer 10 = .ok (.bipush (-3), 2) := by decide +kernel
theorem dX11_closer_12 : decode cX11_closer 12 = .ok (.ireturn, 1) := by decide +kernel
theorem dX11_closer_13 : decode cX11_closer 13 = .ok (.aload_n 0, 1) := by decide +kernel
theorem dX11_closer_14 : decode cX11_closer 14 = .ok (.getfield 94, 3) := by decide +kernel
theorem dX11_closer_17 : decode cX11_closer 17 = .ok (.aload_n 0, 1) := by decide +kernel
theorem dX11_closer_18 : decode cX11_closer 18 = .ok (.getfield 26, 3) := by decide +kernel
theorem dX11_closer_21 : decode cX11_closer 21 = .ok (.aload_n 0, 1) := by decide +kernel
theorem dX11_closer_22 : decode cX11_closer 22 = .ok (.getfield 36, 3) := by decide +kernel
theorem dX11_closer_25 : decode cX11_closer 25 = .ok (.aload_n 0, 1) := by decide +kernel
theorem dX11_closer_26 : decode cX11_closer 26 = .ok (.getfield 36, 3) := by decide +kernel
theorem dX11_closer_29 : decode cX11_closer 29 = .ok (.getfield 153, 3) := by decide +kernel
theorem dX11_closer_32 : decode cX11_closer 32 = .ok (.invokevirtual 262, 3) := by decide +kernel
theorem dX11_closer_35 : decode cX11_closer 35 = .ok (.aload_n 0, 1) := by decide +kernel
theorem dX11_closer_36 : decode cX11_closer 36 = .ok (.getfield 94, 3) := by decide +kernel
theorem dX11_closer_39 : decode cX11_closer 39 = .ok (.iload_n 1, 1) := by decide +kernel
theorem dX11_closer_40 : decode cX11_closer 40 = .ok (.invokevirtual 289, 3) := by decide +kernel
theorem dX11_closer_43 : decode cX11_closer 43 = .ok (.iconst (-1), 1) := by decide +kernel
theorem dX11_closer_44 : decode cX11_closer 44 = .ok (.istore_n 2, 1) := by decide +kernel
theorem dX11_closer_45 : decode cX11_closer 45 = .ok (.lconst 0, 1) := by decide +kernel
theorem dX11_closer_46 : decode cX11_closer 46 = .ok (.lstore_n 3, 1) := by decide +kernel
theorem dX11_closer_47 : decode cX11_closer 47 = .ok (.iconst 0, 1) := by decide +kernel
theorem dX11_closer_48 : decode cX11_closer 48 = .ok (.istore 5, 2) := by decide +kernel
theorem dX11_closer_50 : decode cX11_closer 50 = .ok (.iload 5, 2) := by decide +kernel
theorem dX11_closer_52 : decode cX11_closer 52 = .ok (.aload_n 0, 1) := by decide +kernel
theorem dX11_closer_53 : decode cX11_closer 53 = .ok (.getfield 26, 3) := by decide +kernel
theorem dX11_closer_56 : decode cX11_closer 56 = .ok (.getfield 163, 3) := by decide +kernel
theorem dX11_closer_59 : decode cX11_closer 59 = .ok (.if_icmp .ge 38, 3) := by decide +kernel
theorem dX11_closer_62 : decode cX11_closer 62 = .ok (.aload_n 0, 1) := by decide +kernel
theorem dX11_closer_63 : decode cX11_closer 63 = .ok (.getfield 94, 3) := by decide +kernel
theorem dX11_closer_66 : decode cX11_closer 66 = .ok (.getfield 308, 3) := by decide +kernel
theorem dX11_closer_69 : decode cX11_closer 69 = .ok (.iload 5, 2) := by decide +kernel
theorem dX11_closer_71 : decode cX11_closer 71 = .ok (.laload, 1) := by decide +kernel
theorem dX11_closer_72 : decode cX11_closer 72 = .ok (.lload_n 3, 1) := by decide +kernel
theorem dX11_closer_73 : decode cX11_closer 73 = .ok (.lcmp, 1) := by decide +kernel
theorem dX11_closer_74 : decode cX11_closer 74 = .ok (.ifCond .le 17, 3) := by decide +kernel
theorem dX11_closer_77 : decode cX11_closer 77 = .ok (.aload_n 0, 1) := by decide +kernel
theorem dX11_closer_78 : decode cX11_closer 78 = .ok (.getfield 94, 3) := by decide +kernel
theorem dX11_closer_81 : decode cX11_closer 81 = .ok (.getfield 308, 3) := by decide +kernel
theorem dX11_closer_84 : decode cX11_closer 84 = .ok (.iload 5, 2) := by decide +kernel
theorem dX11_closer_86 : decode cX11_closer 86 = .ok (.laload, 1) := by decide +kernel
theorem dX11_closer_87 : decode cX11_closer 87 = .ok (.lstore_n 3, 1) := by decide +kernel
theorem dX11_closer_88 : decode cX11_closer 88 = .ok (.iload 5, 2) := by decide +kernel
theorem dX11_closer_90 : decode cX11_closer 90 = .ok (.istore_n 2, 1) := by decide +kernel
theorem dX11_closer_91 : decode cX11_closer 91 = .ok (.iinc 5 1, 3) := by decide +kernel
theorem dX11_closer_94 : decode cX11_closer 94 = .ok (.goto (-44), 3) := by decide +kernel
theorem dX11_closer_97 : decode cX11_closer 97 = .ok (.iload_n 2, 1) := by decide +kernel
theorem dX11_closer_98 : decode cX11_closer 98 = .ok (.ireturn, 1) := by decide +kernel
theorem dX11_soldIn_0 : decode cX11_soldIn 0 = .ok (.aload_n 0, 1) := by decide +kernel
theorem dX11_soldIn_1 : decode cX11_soldIn 1 = .ok (.iload_n 1, 1) := by decide +kernel
theorem dX11_soldIn_2 : decode cX11_soldIn 2 = .ok (.invokevirtual 140, 3) := by decide +kernel
theorem dX11_soldIn_5 : decode cX11_soldIn 5 = .ok (.ifCond .eq 13, 3) := by decide +kernel
theorem dX11_soldIn_8 : decode cX11_soldIn 8 = .ok (.iload_n 3, 1) := by decide +kernel
theorem dX11_soldIn_9 : decode cX11_soldIn 9 = .ok (.iload_n 2, 1) := by decide +kernel
theorem dX11_soldIn_10 : decode cX11_soldIn 10 = .ok (.bipush 10, 2) := by decide +kernel
theorem dX11_soldIn_12 : decode cX11_soldIn 12 = .ok (.invokestatic 286, 3) := by decide +kernel
theorem dX11_soldIn_15 : decode cX11_soldIn 15 = .ok (.goto 5, 3) := by decide +kernel
theorem dX11_soldIn_18 : decode cX11_soldIn 18 = .ok (.bipush (-2), 2) := by decide +kernel
theorem dX11_soldIn_20 : decode cX11_soldIn 20 = .ok (.istore 4, 2) := by decide +kernel
theorem dX11_soldIn_22 : decode cX11_soldIn 22 = .ok (.iload 4, 2) := by decide +kernel
theorem dX11_soldIn_24 : decode cX11_soldIn 24 = .ok (.ifCond .eq 7, 3) := by decide +kernel
theorem dX11_soldIn_27 : decode cX11_soldIn 27 = .ok (.iload 4, 2) := by decide +kernel
theorem dX11_soldIn_29 : decode cX11_soldIn 29 = .ok (.i2l, 1) := by decide +kernel
theorem dX11_soldIn_30 : decode cX11_soldIn 30 = .ok (.lreturn, 1) := by decide +kernel
theorem dX11_soldIn_31 : decode cX11_soldIn 31 = .ok (.aload_n 0, 1) := by decide +kernel
theorem dX11_soldIn_32 : decode cX11_soldIn 32 = .ok (.getfield 94, 3) := by decide +kernel
theorem dX11_soldIn_35 : decode cX11_soldIn 35 = .ok (.aload_n 0, 1) := by decide +kernel
theorem dX11_soldIn_36 : decode cX11_soldIn 36 = .ok (.getfield 26, 3) := by decide +kernel
theorem dX11_soldIn_39 : decode cX11_soldIn 39 = .ok (.aload_n 0, 1) := by decide +kernel
theorem dX11_soldIn_40 : decode cX11_soldIn 40 = .ok (.getfield 36, 3) := by decide +kernel
theorem dX11_soldIn_43 : decode cX11_soldIn 43 = .ok (.aload_n 0, 1) := by decide +kernel
theorem dX11_soldIn_44 : decode cX11_soldIn 44 = .ok (.getfield 36, 3) := by decide +kernel
theorem dX11_soldIn_47 : decode cX11_soldIn 47 = .ok (.getfield 153, 3) := by decide +kernel
theorem dX11_soldIn_50 : decode cX11_soldIn 50 = .ok (.invokevirtual 262, 3) := by decide +kernel
theorem dX11_soldIn_53 : decode cX11_soldIn 53 = .ok (.aload_n 0, 1) := by decide +kernel
theorem dX11_soldIn_54 : decode cX11_soldIn 54 = .ok (.getfield 94, 3) := by decide +kernel
theorem dX11_soldIn_57 : decode cX11_soldIn 57 = .ok (.iload_n 2, 1) := by decide +kernel
theorem dX11_soldIn_58 : decode cX11_soldIn 58 = .ok (.invokevirtual 289, 3) := by decide +kernel
theorem dX11_soldIn_61 : decode cX11_soldIn 61 = .ok (.aload_n 0, 1) := by decide +kernel
theorem dX11_soldIn_62 : decode cX11_soldIn 62 = .ok (.getfield 94, 3) := by decide +kernel
theorem dX11_soldIn_65 : decode cX11_soldIn 65 = .ok (.iload_n 1, 1) := by decide +kernel
theorem dX11_soldIn_66 : decode cX11_soldIn 66 = .ok (.invokevirtual 312, 3) := by decide +kernel
theorem dX11_soldIn_69 : decode cX11_soldIn 69 = .ok (.aload_n 0, 1) := by decide +kernel
theorem dX11_soldIn_70 : decode cX11_soldIn 70 = .ok (.getfield 94, 3) := by decide +kernel
theorem dX11_soldIn_73 : decode cX11_soldIn 73 = .ok (.getfield 296, 3) := by decide +kernel
theorem dX11_soldIn_76 : decode cX11_soldIn 76 = .ok (.iload_n 3, 1) := by decide +kernel
theorem dX11_soldIn_77 : decode cX11_soldIn 77 = .ok (.invokestatic 300, 3) := by decide +kernel
theorem dX11_soldIn_80 : decode cX11_soldIn 80 = .ok (.lreturn, 1) := by decide +kernel
theorem dX11_chanceRefusal_0 : decode cX11_chanceRefusal 0 = .ok (.iload_n 0, 1) := by decide +kernel
theorem dX11_chanceRefusal_1 : decode cX11_chanceRefusal 1 = .ok (.ifCond .lt 8, 3) := by decide +kernel
theorem dX11_chanceRefusal_4 : decode cX11_chanceRefusal 4 = .ok (.iload_n 0, 1) := by decide +kernel
theorem dX11_chanceRefusal_5 : decode cX11_chanceRefusal 5 = .ok (.iconst 1, 1) := by decide +kernel
theorem dX11_chanceRefusal_6 : decode cX11_chanceRefusal 6 = .ok (.if_icmp .le 6, 3) := by decide +kernel
theorem dX11_chanceRefusal_9 : decode cX11_chanceRefusal 9 = .ok (.bipush (-2), 2) := by decide +kernel
theorem dX11_chanceRefusal_11 : decode cX11_chanceRefusal 11 = .ok (.ireturn, 1) := by decide +kernel
theorem dX11_chanceRefusal_12 : decode cX11_chanceRefusal 12 = .ok (.iload_n 1, 1) := by decide +kernel
theorem dX11_chanceRefusal_13 : decode cX11_chanceRefusal 13 = .ok (.ifCond .lt 8, 3) := by decide +kernel
theorem dX11_chanceRefusal_16 : decode cX11_chanceRefusal 16 = .ok (.iload_n 1, 1) := by decide +kernel
theorem dX11_chanceRefusal_17 : decode cX11_chanceRefusal 17 = .ok (.iload_n 2, 1) := by decide +kernel
theorem dX11_chanceRefusal_18 : decode cX11_chanceRefusal 18 = .ok (.if_icmp .le 8, 3) := by decide +kernel
theorem dX11_chanceRefusal_21 : decode cX11_chanceRefusal 21 = .ok (.bipush (-3), 2) := by decide +kernel
theorem dX11_chanceRefusal_23 : decode cX11_chanceRefusal 23 = .ok (.goto 4, 3) := by decide +kernel
theorem dX11_chanceRefusal_26 : decode cX11_chanceRefusal 26 = .ok (.iconst 0, 1) := by decide +kernel
theorem dX11_chanceRefusal_27 : decode cX11_chanceRefusal 27 = .ok (.ireturn, 1) := by decide +kernel
theorem dX11_inLowestTerms_0 : decode cX11_inLowestTerms 0 = .ok (.lload_n 0, 1) := by decide +kernel
theorem dX11_inLowestTerms_1 : decode cX11_inLowestTerms 1 = .ok (.lload_n 2, 1) := by decide +kernel
theorem dX11_inLowestTerms_2 : decode cX11_inLowestTerms 2 = .ok (.invokestatic 315, 3) := by decide +kernel
theorem dX11_inLowestTerms_5 : decode cX11_inLowestTerms 5 = .ok (.lstore 5, 2) := by decide +kernel
theorem dX11_inLowestTerms_7 : decode cX11_inLowestTerms 7 = .ok (.iload 4, 2) := by decide +kernel
theorem dX11_inLowestTerms_9 : decode cX11_inLowestTerms 9 = .ok (.ifCond .ne 7, 3) := by decide +kernel
theorem dX11_inLowestTerms_12 : decode cX11_inLowestTerms 12 = .ok (.lload_n 0, 1) := by decide +kernel
theorem dX11_inLowestTerms_13 : decode cX11_inLowestTerms 13 = .ok (.goto 4, 3) := by decide +kernel
theorem dX11_inLowestTerms_16 : decode cX11_inLowestTerms 16 = .ok (.lload_n 2, 1) := by decide +kernel
theorem dX11_inLowestTerms_17 : decode cX11_inLowestTerms 17 = .ok (.lstore 7, 2) := by decide +kernel
theorem dX11_inLowestTerms_19 : decode cX11_inLowestTerms 19 = .ok (.lload 5, 2) := by decide +kernel
theorem dX11_inLowestTerms_21 : decode cX11_inLowestTerms 21 = .ok (.lconst 0, 1) := by decide +kernel
theorem dX11_inLowestTerms_22 : decode cX11_inLowestTerms 22 = .ok (.lcmp, 1) := by decide +kernel
theorem dX11_inLowestTerms_23 : decode cX11_inLowestTerms 23 = .ok (.ifCond .le 11, 3) := by decide +kernel
theorem dX11_inLowestTerms_26 : decode cX11_inLowestTerms 26 = .ok (.lload 7, 2) := by decide +kernel
theorem dX11_inLowestTerms_28 : decode cX11_inLowestTerms 28 = .ok (.lload 5, 2) := by decide +kernel
theorem dX11_inLowestTerms_30 : decode cX11_inLowestTerms 30 = .ok (.ldiv, 1) := by decide +kernel
theorem dX11_inLowestTerms_31 : decode cX11_inLowestTerms 31 = .ok (.goto 5, 3) := by decide +kernel
theorem dX11_inLowestTerms_34 : decode cX11_inLowestTerms 34 = .ok (.lload 7, 2) := by decide +kernel
theorem dX11_inLowestTerms_36 : decode cX11_inLowestTerms 36 = .ok (.lreturn, 1) := by decide +kernel
theorem dX11_commonDivisor_0 : decode cX11_commonDivisor 0 = .ok (.lload_n 0, 1) := by decide +kernel
theorem dX11_commonDivisor_1 : decode cX11_commonDivisor 1 = .ok (.lstore 4, 2) := by decide +kernel
theorem dX11_commonDivisor_3 : decode cX11_commonDivisor 3 = .ok (.lload_n 2, 1) := by decide +kernel
theorem dX11_commonDivisor_4 : decode cX11_commonDivisor 4 = .ok (.lstore 6, 2) := by decide +kernel
theorem dX11_commonDivisor_6 : decode cX11_commonDivisor 6 = .ok (.iconst 0, 1) := by decide +kernel
theorem dX11_commonDivisor_7 : decode cX11_commonDivisor 7 = .ok (.istore 8, 2) := by decide +kernel
theorem dX11_commonDivisor_9 : decode cX11_commonDivisor 9 = .ok (.iload 8, 2) := by decide +kernel
theorem dX11_commonDivisor_11 : decode cX11_commonDivisor 11 = .ok (.sipush 200, 3) := by decide +kernel
theorem dX11_commonDivisor_14 : decode cX11_commonDivisor 14 = .ok (.if_icmp .ge 31, 3) := by decide +kernel
theorem dX11_commonDivisor_17 : decode cX11_commonDivisor 17 = .ok (.lload 6, 2) := by decide +kernel
theorem dX11_commonDivisor_19 : decode cX11_commonDivisor 19 = .ok (.lconst 0, 1) := by decide +kernel
theorem dX11_commonDivisor_20 : decode cX11_commonDivisor 20 = .ok (.lcmp, 1) := by decide +kernel
theorem dX11_commonDivisor_21 : decode cX11_commonDivisor 21 = .ok (.ifCond .eq 24, 3) := by decide +kernel
theorem dX11_commonDivisor_24 : decode cX11_commonDivisor 24 = .ok (.lload 4, 2) := by decide +kernel
theorem dX11_commonDivisor_26 : decode cX11_commonDivisor 26 = .ok (.lload 6, 2) := by decide +kernel
theorem dX11_commonDivisor_28 : decode cX11_commonDivisor 28 = .ok (.lrem, 1) := by decide +kernel
theorem dX11_commonDivisor_29 : decode cX11_commonDivisor 29 = .ok (.lstore 9, 2) := by decide +kernel
theorem dX11_commonDivisor_31 : decode cX11_commonDivisor 31 = .ok (.lload 6, 2) := by decide +kernel
theorem dX11_commonDivisor_33 : decode cX11_commonDivisor 33 = .ok (.lstore 4, 2) := by decide +kernel
theorem dX11_commonDivisor_35 : decode cX11_commonDivisor 35 = .ok (.lload 9, 2) := by decide +kernel
theorem dX11_commonDivisor_37 : decode cX11_commonDivisor 37 = .ok (.lstore 6, 2) := by decide +kernel
theorem dX11_commonDivisor_39 : decode cX11_commonDivisor 39 = .ok (.iinc 8 1, 3) := by decide +kernel
theorem dX11_commonDivisor_42 : decode cX11_commonDivisor 42 = .ok (.goto (-33), 3) := by decide +kernel
theorem dX11_commonDivisor_45 : decode cX11_commonDivisor 45 = .ok (.lload 4, 2) := by decide +kernel
theorem dX11_commonDivisor_47 : decode cX11_commonDivisor 47 = .ok (.lreturn, 1) := by decide +kernel
theorem dX11_hundredths_0 : decode cX11_hundredths 0 = .ok (.lload_n 2, 1) := by decide +kernel
theorem dX11_hundredths_1 : decode cX11_hundredths 1 = .ok (.lconst 0, 1) := by decide +kernel
theorem dX11_hundredths_2 : decode cX11_hundredths 2 = .ok (.lcmp, 1) := by decide +kernel
theorem dX11_hundredths_3 : decode cX11_hundredths 3 = .ok (.ifCond .gt 5, 3) := by decide +kernel
theorem dX11_hundredths_6 : decode cX11_hundredths 6 = .ok (.lconst 0, 1) := by decide +kernel
theorem dX11_hundredths_7 : decode cX11_hundredths 7 = .ok (.lreturn, 1) := by decide +kernel
theorem dX11_hundredths_8 : decode cX11_hundredths 8 = .ok (.lload_n 0, 1) := by decide +kernel
theorem dX11_hundredths_9 : decode cX11_hundredths 9 = .ok (.ldc2_w 318, 3) := by decide +kernel
theorem dX11_hundredths_12 : decode cX11_hundredths 12 = .ok (.lmul, 1) := by decide +kernel
theorem dX11_hundredths_13 : decode cX11_hundredths 13 = .ok (.lload_n 2, 1) := by decide +kernel
theorem dX11_hundredths_14 : decode cX11_hundredths 14 = .ok (.ldiv, 1) := by decide +kernel
theorem dX11_hundredths_15 : decode cX11_hundredths 15 = .ok (.lstore 4, 2) := by decide +kernel
theorem dX11_hundredths_17 : decode cX11_hundredths 17 = .ok (.lload_n 0, 1) := by decide +kernel
theorem dX11_hundredths_18 : decode cX11_hundredths 18 = .ok (.ldc2_w 318, 3) := by decide +kernel
theorem dX11_hundredths_21 : decode cX11_hundredths 21 = .ok (.lmul, 1) := by decide +kernel
theorem dX11_hundredths_22 : decode cX11_hundredths 22 = .ok (.lload_n 2, 1) := by decide +kernel
theorem dX11_hundredths_23 : decode cX11_hundredths 23 = .ok (.lrem, 1) := by decide +kernel
theorem dX11_hundredths_24 : decode cX11_hundredths 24 = .ok (.lstore 6, 2) := by decide +kernel
theorem dX11_hundredths_26 : decode cX11_hundredths 26 = .ok (.lload 4, 2) := by decide +kernel
theorem dX11_hundredths_28 : decode cX11_hundredths 28 = .ok (.ldc2_w 318, 3) := by decide +kernel
theorem dX11_hundredths_31 : decode cX11_hundredths 31 = .ok (.lmul, 1) := by decide +kernel
theorem dX11_hundredths_32 : decode cX11_hundredths 32 = .ok (.lload 6, 2) := by decide +kernel
theorem dX11_hundredths_34 : decode cX11_hundredths 34 = .ok (.ldc2_w 318, 3) := by decide +kernel
theorem dX11_hundredths_37 : decode cX11_hundredths 37 = .ok (.lmul, 1) := by decide +kernel
theorem dX11_hundredths_38 : decode cX11_hundredths 38 = .ok (.lload_n 2, 1) := by decide +kernel
theorem dX11_hundredths_39 : decode cX11_hundredths 39 = .ok (.ldiv, 1) := by decide +kernel
theorem dX11_hundredths_40 : decode cX11_hundredths 40 = .ok (.ladd, 1) := by decide +kernel
theorem dX11_hundredths_41 : decode cX11_hundredths 41 = .ok (.lreturn, 1) := by decide +kernel
theorem dX11_hides_0 : decode cX11_hides 0 = .ok (.iload_n 3, 1) := by decide +kernel
theorem dX11_hides_1 : decode cX11_hides 1 = .ok (.ifCond .lt 8, 3) := by decide +kernel
theorem dX11_hides_4 : decode cX11_hides 4 = .ok (.iload_n 3, 1) := by decide +kernel
theorem dX11_hides_5 : decode cX11_hides 5 = .ok (.iconst 1, 1) := by decide +kernel
theorem dX11_hides_6 : decode cX11_hides 6 = .ok (.if_icmp .le 6, 3) := by decide +kernel
theorem dX11_hides_9 : decode cX11_hides 9 = .ok (.bipush (-2), 2) := by decide +kernel
theorem dX11_hides_11 : decode cX11_hides 11 = .ok (.ireturn, 1) := by decide +kernel
theorem dX11_hides_12 : decode cX11_hides 12 = .ok (.iload_n 1, 1) := by decide +kernel
theorem dX11_hides_13 : decode cX11_hides 13 = .ok (.ifCond .lt 19, 3) := by decide +kernel
theorem dX11_hides_16 : decode cX11_hides 16 = .ok (.iload_n 1, 1) := by decide +kernel
theorem dX11_hides_17 : decode cX11_hides 17 = .ok (.iconst 3, 1) := by decide +kernel
theorem dX11_hides_18 : decode cX11_hides 18 = .ok (.if_icmp .gt 14, 3) := by decide +kernel
theorem dX11_hides_21 : decode cX11_hides 21 = .ok (.iload_n 2, 1) := by decide +kernel
theorem dX11_hides_22 : decode cX11_hides 22 = .ok (.iconst 1, 1) := by decide +kernel
theorem dX11_hides_23 : decode cX11_hides 23 = .ok (.if_icmp .lt 9, 3) := by decide +kernel
theorem dX11_hides_26 : decode cX11_hides 26 = .ok (.iload_n 2, 1) := by decide +kernel
theorem dX11_hides_27 : decode cX11_hides 27 = .ok (.bipush 6, 2) := by decide +kernel
theorem dX11_hides_29 : decode cX11_hides 29 = .ok (.if_icmp .le 6, 3) := by decide +kernel
theorem dX11_hides_32 : decode cX11_hides 32 = .ok (.bipush (-3), 2) := by decide +kernel
theorem dX11_hides_34 : decode cX11_hides 34 = .ok (.ireturn, 1) := by decide +kernel
theorem dX11_hides_35 : decode cX11_hides 35 = .ok (.aload_n 0, 1) := by decide +kernel
theorem dX11_hides_36 : decode cX11_hides 36 = .ok (.getfield 36, 3) := by decide +kernel
theorem dX11_hides_39 : decode cX11_hides 39 = .ok (.invokevirtual 320, 3) := by decide +kernel
theorem dX11_hides_42 : decode cX11_hides 42 = .ok (.ifCond .eq 6, 3) := by decide +kernel
theorem dX11_hides_45 : decode cX11_hides 45 = .ok (.bipush (-5), 2) := by decide +kernel
theorem dX11_hides_47 : decode cX11_hides 47 = .ok (.ireturn, 1) := by decide +kernel
theorem dX11_hides_48 : decode cX11_hides 48 = .ok (.iconst 0, 1) := by decide +kernel
theorem dX11_hides_49 : decode cX11_hides 49 = .ok (.istore 4, 2) := by decide +kernel
theorem dX11_hides_51 : decode cX11_hides 51 = .ok (.ldc2_w 219, 3) := by decide +kernel
theorem dX11_hides_54 : decode cX11_hides 54 = .ok (.lstore 5, 2) := by decide +kernel
theorem dX11_hides_56 : decode cX11_hides 56 = .ok (.iconst 0, 1) := by decide +kernel
theorem dX11_hides_57 : decode cX11_hides 57 = .ok (.istore 7, 2) := by decide +kernel
theorem dX11_hides_59 : decode cX11_hides 59 = .ok (.iload 7, 2) := by decide +kernel
theorem dX11_hides_61 : decode cX11_hides 61 = .ok (.iload_n 1, 1) := by decide +kernel
theorem dX11_hides_62 : decode cX11_hides 62 = .ok (.if_icmp .gt 109, 3) := by decide +kernel
theorem dX11_hides_65 : decode cX11_hides 65 = .ok (.iconst 0, 1) := by decide +kernel
theorem dX11_hides_66 : decode cX11_hides 66 = .ok (.istore 8, 2) := by decide +kernel
theorem dX11_hides_68 : decode cX11_hides 68 = .ok (.iload 8, 2) := by decide +kernel
theorem dX11_hides_70 : decode cX11_hides 70 = .ok (.aload_n 0, 1) := by decide +kernel
theorem dX11_hides_71 : decode cX11_hides 71 = .ok (.getfield 36, 3) := by decide +kernel
theorem dX11_hides_74 : decode cX11_hides 74 = .ok (.invokevirtual 323, 3) := by decide +kernel
theorem dX11_hides_77 : decode cX11_hides 77 = .ok (.if_icmp .gt 88, 3) := by decide +kernel
theorem dX11_hides_80 : decode cX11_hides 80 = .ok (.aload_n 0, 1) := by decide +kernel
theorem dX11_hides_81 : decode cX11_hides 81 = .ok (.iload 8, 2) := by decide +kernel
theorem dX11_hides_83 : decode cX11_hides 83 = .ok (.iload 7, 2) := by decide +kernel
theorem dX11_hides_85 : decode cX11_hides 85 = .ok (.invokevirtual 326, 3) := by decide +kernel
theorem dX11_hides_88 : decode cX11_hides 88 = .ok (.ifCond .eq 71, 3) := by decide +kernel
theorem dX11_hides_91 : decode cX11_hides 91 = .ok (.aload_n 0, 1) := by decide +kernel
theorem dX11_hides_92 : decode cX11_hides 92 = .ok (.getfield 94, 3) := by decide +kernel
theorem dX11_hides_95 : decode cX11_hides 95 = .ok (.aload_n 0, 1) := by decide +kernel
theorem dX11_hides_96 : decode cX11_hides 96 = .ok (.getfield 26, 3) := by decide +kernel
theorem dX11_hides_99 : decode cX11_hides 99 = .ok (.aload_n 0, 1) := by decide +kernel
theorem dX11_hides_100 : decode cX11_hides 100 = .ok (.getfield 36, 3) := by decide +kernel
theorem dX11_hides_103 : decode cX11_hides 103 = .ok (.aload_n 0, 1) := by decide +kernel
theorem dX11_hides_104 : decode cX11_hides 104 = .ok (.getfield 36, 3) := by decide +kernel
theorem dX11_hides_107 : decode cX11_hides 107 = .ok (.getfield 153, 3) := by decide +kernel
theorem dX11_hides_110 : decode cX11_hides 110 = .ok (.iload 8, 2) := by decide +kernel
theorem dX11_hides_112 : decode cX11_hides 112 = .ok (.ior, 1) := by decide +kernel
theorem dX11_hides_113 : decode cX11_hides 113 = .ok (.invokevirtual 262, 3) := by decide +kernel
theorem dX11_hides_116 : decode cX11_hides 116 = .ok (.aload_n 0, 1) := by decide +kernel
theorem dX11_hides_117 : decode cX11_hides 117 = .ok (.getfield 94, 3) := by decide +kernel
theorem dX11_hides_120 : decode cX11_hides 120 = .ok (.iload_n 2, 1) := by decide +kernel
theorem dX11_hides_121 : decode cX11_hides 121 = .ok (.invokevirtual 289, 3) := by decide +kernel
theorem dX11_hides_124 : decode cX11_hides 124 = .ok (.aload_n 0, 1) := by decide +kernel
theorem dX11_hides_125 : decode cX11_hides 125 = .ok (.getfield 94, 3) := by decide +kernel
theorem dX11_hides_128 : decode cX11_hides 128 = .ok (.invokevirtual 292, 3) := by decide +kernel
theorem dX11_hides_131 : decode cX11_hides 131 = .ok (.lstore 9, 2) := by decide +kernel
theorem dX11_hides_133 : decode cX11_hides 133 = .ok (.lload 9, 2) := by decide +kernel
theorem dX11_hides_135 : decode cX11_hides 135 = .ok (.lload 5, 2) := by decide +kernel
theorem dX11_hides_137 : decode cX11_hides 137 = .ok (.lcmp, 1) := by decide +kernel
theorem dX11_hides_138 : decode cX11_hides 138 = .ok (.ifCond .le 8, 3) := by decide +kernel
theorem dX11_hides_141 : decode cX11_hides 141 = .ok (.iload 8, 2) := by decide +kernel
theorem dX11_hides_143 : decode cX11_hides 143 = .ok (.goto 5, 3) := by decide +kernel
theorem dX11_hides_146 : decode cX11_hides 146 = .ok (.iload 4, 2) := by decide +kernel
theorem dX11_hides_148 : decode cX11_hides 148 = .ok (.istore 4, 2) := by decide +kernel
theorem dX11_hides_150 : decode cX11_hides 150 = .ok (.lload 5, 2) := by decide +kernel
theorem dX11_hides_152 : decode cX11_hides 152 = .ok (.lload 9, 2) := by decide +kernel
theorem dX11_hides_154 : decode cX11_hides 154 = .ok (.invokestatic 330, 3) := by decide +kernel
theorem dX11_hides_157 : decode cX11_hides 157 = .ok (.lstore 5, 2) := by decide +kernel
theorem dX11_hides_159 : decode cX11_hides 159 = .ok (.iinc 8 1, 3) := by decide +kernel
theorem dX11_hides_162 : decode cX11_hides 162 = .ok (.goto (-94), 3) := by decide +kernel
theorem dX11_hides_165 : decode cX11_hides 165 = .ok (.iinc 7 1, 3) := by decide +kernel
theorem dX11_hides_168 : decode cX11_hides 168 = .ok (.goto (-109), 3) := by decide +kernel
theorem dX11_hides_171 : decode cX11_hides 171 = .ok (.iload_n 3, 1) := by decide +kernel
theorem dX11_hides_172 : decode cX11_hides 172 = .ok (.ifCond .ne 11, 3) := by decide +kernel
theorem dX11_hides_175 : decode cX11_hides 175 = .ok (.iload 4, 2) := by decide +kernel
theorem dX11_hides_177 : decode cX11_hides 177 = .ok (.invokestatic 333, 3) := by decide +kernel
theorem dX11_hides_180 : decode cX11_hides 180 = .ok (.goto 5, 3) := by decide +kernel
theorem dX11_hides_183 : decode cX11_hides 183 = .ok (.iload 4, 2) := by decide +kernel
theorem dX11_hides_185 : decode cX11_hides 185 = .ok (.ireturn, 1) := by decide +kernel
theorem dX11_rota_0 : decode cX11_rota 0 = .ok (.iload_n 1, 1) := by decide +kernel
theorem dX11_rota_1 : decode cX11_rota 1 = .ok (.ifCond .lt 8, 3) := by decide +kernel
theorem dX11_rota_4 : decode cX11_rota 4 = .ok (.iload_n 1, 1) := by decide +kernel
theorem dX11_rota_5 : decode cX11_rota 5 = .ok (.iconst 1, 1) := by decide +kernel
theorem dX11_rota_6 : decode cX11_rota 6 = .ok (.if_icmp .le 6, 3) := by decide +kernel
theorem dX11_rota_9 : decode cX11_rota 9 = .ok (.bipush (-2), 2) := by decide +kernel
theorem dX11_rota_11 : decode cX11_rota 11 = .ok (.ireturn, 1) := by decide +kernel
theorem dX11_rota_12 : decode cX11_rota 12 = .ok (.aload_n 0, 1) := by decide +kernel
theorem dX11_rota_13 : decode cX11_rota 13 = .ok (.getfield 36, 3) := by decide +kernel
theorem dX11_rota_16 : decode cX11_rota 16 = .ok (.invokevirtual 320, 3) := by decide +kernel
theorem dX11_rota_19 : decode cX11_rota 19 = .ok (.ifCond .eq 6, 3) := by decide +kernel
theorem dX11_rota_22 : decode cX11_rota 22 = .ok (.bipush (-5), 2) := by decide +kernel
theorem dX11_rota_24 : decode cX11_rota 24 = .ok (.ireturn, 1) := by decide +kernel
theorem dX11_rota_25 : decode cX11_rota 25 = .ok (.aload_n 0, 1) := by decide +kernel
theorem dX11_rota_26 : decode cX11_rota 26 = .ok (.getfield 94, 3) := by decide +kernel
theorem dX11_rota_29 : decode cX11_rota 29 = .ok (.aload_n 0, 1) := by decide +kernel
theorem dX11_rota_30 : decode cX11_rota 30 = .ok (.getfield 26, 3) := by decide +kernel
theorem dX11_rota_33 : decode cX11_rota 33 = .ok (.aload_n 0, 1) := by decide +kernel
theorem dX11_rota_34 : decode cX11_rota 34 = .ok (.getfield 36, 3) := by decide +kernel
theorem dX11_rota_37 : decode cX11_rota 37 = .ok (.aload_n 0, 1) := by decide +kernel
theorem dX11_rota_38 : decode cX11_rota 38 = .ok (.getfield 36, 3) := by decide +kernel
theorem dX11_rota_41 : decode cX11_rota 41 = .ok (.getfield 153, 3) := by decide +kernel
theorem dX11_rota_44 : decode cX11_rota 44 = .ok (.invokevirtual 262, 3) := by decide +kernel
theorem dX11_rota_47 : decode cX11_rota 47 = .ok (.aload_n 0, 1) := by decide +kernel
theorem dX11_rota_48 : decode cX11_rota 48 = .ok (.getfield 94, 3) := by decide +kernel
theorem dX11_rota_51 : decode cX11_rota 51 = .ok (.invokevirtual 338, 3) := by decide +kernel
theorem dX11_rota_54 : decode cX11_rota 54 = .ok (.istore_n 2, 1) := by decide +kernel
theorem dX11_rota_55 : decode cX11_rota 55 = .ok (.iconst 0, 1) := by decide +kernel
theorem dX11_rota_56 : decode cX11_rota 56 = .ok (.istore_n 3, 1) := by decide +kernel
theorem dX11_rota_57 : decode cX11_rota 57 = .ok (.iload_n 3, 1) := by decide +kernel
theorem dX11_rota_58 : decode cX11_rota 58 = .ok (.aload_n 0, 1) := by decide +kernel
theorem dX11_rota_59 : decode cX11_rota 59 = .ok (.getfield 36, 3) := by decide +kernel
theorem dX11_rota_62 : decode cX11_rota 62 = .ok (.getfield 160, 3) := by decide +kernel
theorem dX11_rota_65 : decode cX11_rota 65 = .ok (.if_icmp .gt 101, 3) := by decide +kernel
theorem dX11_rota_68 : decode cX11_rota 68 = .ok (.iconst 0, 1) := by decide +kernel
theorem dX11_rota_69 : decode cX11_rota 69 = .ok (.istore 4, 2) := by decide +kernel
theorem dX11_rota_71 : decode cX11_rota 71 = .ok (.iload 4, 2) := by decide +kernel
theorem dX11_rota_73 : decode cX11_rota 73 = .ok (.aload_n 0, 1) := by decide +kernel
theorem dX11_rota_74 : decode cX11_rota 74 = .ok (.getfield 36, 3) := by decide +kernel
theorem dX11_rota_77 : decode cX11_rota 77 = .ok (.invokevirtual 323, 3) := by decide +kernel
theorem dX11_rota_80 : decode cX11_rota 80 = .ok (.if_icmp .gt 80, 3) := by decide +kernel
theorem dX11_rota_83 : decode cX11_rota 83 = .ok (.aload_n 0, 1) := by decide +kernel
theorem dX11_rota_84 : decode cX11_rota 84 = .ok (.iload 4, 2) := by decide +kernel
theorem dX11_rota_86 : decode cX11_rota 86 = .ok (.iload_n 3, 1) := by decide +kernel
theorem dX11_rota_87 : decode cX11_rota 87 = .ok (.invokevirtual 326, 3) := by decide +kernel
theorem dX11_rota_90 : decode cX11_rota 90 = .ok (.ifCond .eq 64, 3) := by decide +kernel
theorem dX11_rota_93 : decode cX11_rota 93 = .ok (.aload_n 0, 1) := by decide +kernel
theorem dX11_rota_94 : decode cX11_rota 94 = .ok (.getfield 94, 3) := by decide +kernel
theorem dX11_rota_97 : decode cX11_rota 97 = .ok (.aload_n 0, 1) := by decide +kernel
theorem dX11_rota_98 : decode cX11_rota 98 = .ok (.getfield 26, 3) := by decide +kernel
theorem dX11_rota_101 : decode cX11_rota 101 = .ok (.aload_n 0, 1) := by decide +kernel
theorem dX11_rota_102 : decode cX11_rota 102 = .ok (.getfield 36, 3) := by decide +kernel
theorem dX11_rota_105 : decode cX11_rota 105 = .ok (.aload_n 0, 1) := by decide +kernel
theorem dX11_rota_106 : decode cX11_rota 106 = .ok (.getfield 36, 3) := by decide +kernel
theorem dX11_rota_109 : decode cX11_rota 109 = .ok (.getfield 153, 3) := by decide +kernel
theorem dX11_rota_112 : decode cX11_rota 112 = .ok (.iload 4, 2) := by decide +kernel
theorem dX11_rota_114 : decode cX11_rota 114 = .ok (.ior, 1) := by decide +kernel
theorem dX11_rota_115 : decode cX11_rota 115 = .ok (.invokevirtual 262, 3) := by decide +kernel
theorem dX11_rota_118 : decode cX11_rota 118 = .ok (.iload_n 2, 1) := by decide +kernel
theorem dX11_rota_119 : decode cX11_rota 119 = .ok (.aload_n 0, 1) := by decide +kernel
theorem dX11_rota_120 : decode cX11_rota 120 = .ok (.getfield 94, 3) := by decide +kernel
theorem dX11_rota_123 : decode cX11_rota 123 = .ok (.invokevirtual 338, 3) := by decide +kernel
theorem dX11_rota_126 : decode cX11_rota 126 = .ok (.iconst (-1), 1) := by decide +kernel
theorem dX11_rota_127 : decode cX11_rota 127 = .ok (.ixor, 1) := by decide +kernel
theorem dX11_rota_128 : decode cX11_rota 128 = .ok (.iand, 1) := by decide +kernel
theorem dX11_rota_129 : decode cX11_rota 129 = .ok (.ifCond .ne 25, 3) := by decide +kernel
theorem dX11_rota_132 : decode cX11_rota 132 = .ok (.aload_n 0, 1) := by decide +kernel
theorem dX11_rota_133 : decode cX11_rota 133 = .ok (.getfield 94, 3) := by decide +kernel
theorem dX11_rota_136 : decode cX11_rota 136 = .ok (.invokevirtual 266, 3) := by decide +kernel
theorem dX11_rota_139 : decode cX11_rota 139 = .ok (.iconst (-1), 1) := by decide +kernel
theorem dX11_rota_140 : decode cX11_rota 140 = .ok (.if_icmp .ne 14, 3) := by decide +kernel
theorem dX11_rota_143 : decode cX11_rota 143 = .ok (.iload_n 1, 1) := by decide +kernel
theorem dX11_rota_144 : decode cX11_rota 144 = .ok (.ifCond .ne 7, 3) := by decide +kernel
theorem dX11_rota_147 : decode cX11_rota 147 = .ok (.iload_n 3, 1) := by decide +kernel
theorem dX11_rota_148 : decode cX11_rota 148 = .ok (.goto 5, 3) := by decide +kernel
theorem dX11_rota_151 : decode cX11_rota 151 = .ok (.iload 4, 2) := by decide +kernel
theorem dX11_rota_153 : decode cX11_rota 153 = .ok (.ireturn, 1) := by decide +kernel
theorem dX11_rota_154 : decode cX11_rota 154 = .ok (.iinc 4 1, 3) := by decide +kernel
theorem dX11_rota_157 : decode cX11_rota 157 = .ok (.goto (-86), 3) := by decide +kernel
theorem dX11_rota_160 : decode cX11_rota 160 = .ok (.iinc 3 1, 3) := by decide +kernel
theorem dX11_rota_163 : decode cX11_rota 163 = .ok (.goto (-106), 3) := by decide +kernel
theorem dX11_rota_166 : decode cX11_rota 166 = .ok (.iconst (-1), 1) := by decide +kernel
theorem dX11_rota_167 : decode cX11_rota 167 = .ok (.ireturn, 1) := by decide +kernel
theorem dX11_earns_0 : decode cX11_earns 0 = .ok (.iload_n 2, 1) := by decide +kernel
theorem dX11_earns_1 : decode cX11_earns 1 = .ok (.iload_n 1, 1) := by decide +kernel
theorem dX11_earns_2 : decode cX11_earns 2 = .ok (.bipush 8, 2) := by decide +kernel
theorem dX11_earns_4 : decode cX11_earns 4 = .ok (.invokestatic 286, 3) := by decide +kernel
theorem dX11_earns_7 : decode cX11_earns 7 = .ok (.istore_n 3, 1) := by decide +kernel
theorem dX11_earns_8 : decode cX11_earns 8 = .ok (.iload_n 3, 1) := by decide +kernel
theorem dX11_earns_9 : decode cX11_earns 9 = .ok (.ifCond .eq 6, 3) := by decide +kernel
theorem dX11_earns_12 : decode cX11_earns 12 = .ok (.iload_n 3, 1) := by decide +kernel
theorem dX11_earns_13 : decode cX11_earns 13 = .ok (.i2l, 1) := by decide +kernel
theorem dX11_earns_14 : decode cX11_earns 14 = .ok (.lreturn, 1) := by decide +kernel
theorem dX11_earns_15 : decode cX11_earns 15 = .ok (.aload_n 0, 1) := by decide +kernel
theorem dX11_earns_16 : decode cX11_earns 16 = .ok (.getfield 94, 3) := by decide +kernel
theorem dX11_earns_19 : decode cX11_earns 19 = .ok (.aload_n 0, 1) := by decide +kernel
theorem dX11_earns_20 : decode cX11_earns 20 = .ok (.getfield 26, 3) := by decide +kernel
theorem dX11_earns_23 : decode cX11_earns 23 = .ok (.aload_n 0, 1) := by decide +kernel
theorem dX11_earns_24 : decode cX11_earns 24 = .ok (.getfield 36, 3) := by decide +kernel
theorem dX11_earns_27 : decode cX11_earns 27 = .ok (.aload_n 0, 1) := by decide +kernel
theorem dX11_earns_28 : decode cX11_earns 28 = .ok (.getfield 36, 3) := by decide +kernel
theorem dX11_earns_31 : decode cX11_earns 31 = .ok (.getfield 153, 3) := by decide +kernel
theorem dX11_earns_34 : decode cX11_earns 34 = .ok (.invokevirtual 262, 3) := by decide +kernel
theorem dX11_earns_37 : decode cX11_earns 37 = .ok (.aload_n 0, 1) := by decide +kernel
theorem dX11_earns_38 : decode cX11_earns 38 = .ok (.getfield 94, 3) := by decide +kernel
theorem dX11_earns_41 : decode cX11_earns 41 = .ok (.iload_n 1, 1) := by decide +kernel
theorem dX11_earns_42 : decode cX11_earns 42 = .ok (.invokevirtual 289, 3) := by decide +kernel
theorem dX11_earns_45 : decode cX11_earns 45 = .ok (.aload_n 0, 1) := by decide +kernel
theorem dX11_earns_46 : decode cX11_earns 46 = .ok (.getfield 94, 3) := by decide +kernel
theorem dX11_earns_49 : decode cX11_earns 49 = .ok (.getfield 341, 3) := by decide +kernel
theorem dX11_earns_52 : decode cX11_earns 52 = .ok (.aload_n 0, 1) := by decide +kernel
theorem dX11_earns_53 : decode cX11_earns 53 = .ok (.getfield 94, 3) := by decide +kernel
theorem dX11_earns_56 : decode cX11_earns 56 = .ok (.getfield 296, 3) := by decide +kernel
theorem dX11_earns_59 : decode cX11_earns 59 = .ok (.iload_n 2, 1) := by decide +kernel
theorem dX11_earns_60 : decode cX11_earns 60 = .ok (.invokestatic 300, 3) := by decide +kernel
theorem dX11_earns_63 : decode cX11_earns 63 = .ok (.lreturn, 1) := by decide +kernel
theorem dX11_bestPrice_0 : decode cX11_bestPrice 0 = .ok (.aload_n 0, 1) := by decide +kernel
theorem dX11_bestPrice_1 : decode cX11_bestPrice 1 = .ok (.iload_n 1, 1) := by decide +kernel
theorem dX11_bestPrice_2 : decode cX11_bestPrice 2 = .ok (.invokevirtual 140, 3) := by decide +kernel
theorem dX11_bestPrice_5 : decode cX11_bestPrice 5 = .ok (.ifCond .ne 6, 3) := by decide +kernel
theorem dX11_bestPrice_8 : decode cX11_bestPrice 8 = .ok (.bipush (-2), 2) := by decide +kernel
theorem dX11_bestPrice_10 : decode cX11_bestPrice 10 = .ok (.ireturn, 1) := by decide +kernel
theorem dX11_bestPrice_11 : decode cX11_bestPrice 11 = .ok (.iload_n 2, 1) := by decide +kernel
theorem dX11_bestPrice_12 : decode cX11_bestPrice 12 = .ok (.iconst 1, 1) := by decide +kernel
theorem dX11_bestPrice_13 : decode cX11_bestPrice 13 = .ok (.if_icmp .lt 8, 3) := by decide +kernel
theorem dX11_bestPrice_16 : decode cX11_bestPrice 16 = .ok (.iload_n 2, 1) := by decide +kernel
theorem dX11_bestPrice_17 : decode cX11_bestPrice 17 = .ok (.iconst 4, 1) := by decide +kernel
theorem dX11_bestPrice_18 : decode cX11_bestPrice 18 = .ok (.if_icmp .le 6, 3) := by decide +kernel
theorem dX11_bestPrice_21 : decode cX11_bestPrice 21 = .ok (.bipush (-3), 2) := by decide +kernel
theorem dX11_bestPrice_23 : decode cX11_bestPrice 23 = .ok (.ireturn, 1) := by decide +kernel
theorem dX11_bestPrice_24 : decode cX11_bestPrice 24 = .ok (.aload_n 0, 1) := by decide +kernel
theorem dX11_bestPrice_25 : decode cX11_bestPrice 25 = .ok (.getfield 36, 3) := by decide +kernel
theorem dX11_bestPrice_28 : decode cX11_bestPrice 28 = .ok (.invokevirtual 320, 3) := by decide +kernel
theorem dX11_bestPrice_31 : decode cX11_bestPrice 31 = .ok (.ifCond .eq 6, 3) := by decide +kernel
theorem dX11_bestPrice_34 : decode cX11_bestPrice 34 = .ok (.bipush (-5), 2) := by decide +kernel
theorem dX11_bestPrice_36 : decode cX11_bestPrice 36 = .ok (.ireturn, 1) := by decide +kernel
theorem dX11_bestPrice_37 : decode cX11_bestPrice 37 = .ok (.aload_n 0, 1) := by decide +kernel
theorem dX11_bestPrice_38 : decode cX11_bestPrice 38 = .ok (.getfield 40, 3) := by decide +kernel
theorem dX11_bestPrice_41 : decode cX11_bestPrice 41 = .ok (.aload_n 0, 1) := by decide +kernel
theorem dX11_bestPrice_42 : decode cX11_bestPrice 42 = .ok (.getfield 36, 3) := by decide +kernel
theorem dX11_bestPrice_45 : decode cX11_bestPrice 45 = .ok (.invokevirtual 124, 3) := by decide +kernel
theorem dX11_bestPrice_48 : decode cX11_bestPrice 48 = .ok (.iconst 1, 1) := by decide +kernel
theorem dX11_bestPrice_49 : decode cX11_bestPrice 49 = .ok (.istore_n 3, 1) := by decide +kernel
theorem dX11_bestPrice_50 : decode cX11_bestPrice 50 = .ok (.ldc2_w 219, 3) := by decide +kernel
theorem dX11_bestPrice_53 : decode cX11_bestPrice 53 = .ok (.lstore 4, 2) := by decide +kernel
theorem dX11_bestPrice_55 : decode cX11_bestPrice 55 = .ok (.iconst 1, 1) := by decide +kernel
theorem dX11_bestPrice_56 : decode cX11_bestPrice 56 = .ok (.istore 6, 2) := by decide +kernel
theorem dX11_bestPrice_58 : decode cX11_bestPrice 58 = .ok (.iload 6, 2) := by decide +kernel
theorem dX11_bestPrice_60 : decode cX11_bestPrice 60 = .ok (.bipush 99, 2) := by decide +kernel
theorem dX11_bestPrice_62 : decode cX11_bestPrice 62 = .ok (.if_icmp .gt 84, 3) := by decide +kernel
theorem dX11_bestPrice_65 : decode cX11_bestPrice 65 = .ok (.aload_n 0, 1) := by decide +kernel
theorem dX11_bestPrice_66 : decode cX11_bestPrice 66 = .ok (.getfield 40, 3) := by decide +kernel
theorem dX11_bestPrice_69 : decode cX11_bestPrice 69 = .ok (.getfield 144, 3) := by decide +kernel
theorem dX11_bestPrice_72 : decode cX11_bestPrice 72 = .ok (.iload_n 1, 1) := by decide +kernel
theorem dX11_bestPrice_73 : decode cX11_bestPrice 73 = .ok (.iload 6, 2) := by decide +kernel
theorem dX11_bestPrice_75 : decode cX11_bestPrice 75 = .ok (.iastore, 1) := by decide +kernel
theorem dX11_bestPrice_76 : decode cX11_bestPrice 76 = .ok (.aload_n 0, 1) := by decide +kernel
theorem dX11_bestPrice_77 : decode cX11_bestPrice 77 = .ok (.getfield 94, 3) := by decide +kernel
theorem dX11_bestPrice_80 : decode cX11_bestPrice 80 = .ok (.aload_n 0, 1) := by decide +kernel
theorem dX11_bestPrice_81 : decode cX11_bestPrice 81 = .ok (.getfield 26, 3) := by decide +kernel
theorem dX11_bestPrice_84 : decode cX11_bestPrice 84 = .ok (.aload_n 0, 1) := by decide +kernel
theorem dX11_bestPrice_85 : decode cX11_bestPrice 85 = .ok (.getfield 40, 3) := by decide +kernel
theorem dX11_bestPrice_88 : decode cX11_bestPrice 88 = .ok (.aload_n 0, 1) := by decide +kernel
theorem dX11_bestPrice_89 : decode cX11_bestPrice 89 = .ok (.getfield 40, 3) := by decide +kernel
theorem dX11_bestPrice_92 : decode cX11_bestPrice 92 = .ok (.getfield 153, 3) := by decide +kernel
theorem dX11_bestPrice_95 : decode cX11_bestPrice 95 = .ok (.invokevirtual 262, 3) := by decide +kernel
theorem dX11_bestPrice_98 : decode cX11_bestPrice 98 = .ok (.aload_n 0, 1) := by decide +kernel
theorem dX11_bestPrice_99 : decode cX11_bestPrice 99 = .ok (.getfield 94, 3) := by decide +kernel
theorem dX11_bestPrice_102 : decode cX11_bestPrice 102 = .ok (.iload_n 2, 1) := by decide +kernel
theorem dX11_bestPrice_103 : decode cX11_bestPrice 103 = .ok (.invokevirtual 289, 3) := by decide +kernel
theorem dX11_bestPrice_106 : decode cX11_bestPrice 106 = .ok (.aload_n 0, 1) := by decide +kernel
theorem dX11_bestPrice_107 : decode cX11_bestPrice 107 = .ok (.getfield 94, 3) := by decide +kernel
theorem dX11_bestPrice_110 : decode cX11_bestPrice 110 = .ok (.getfield 341, 3) := by decide +kernel
theorem dX11_bestPrice_113 : decode cX11_bestPrice 113 = .ok (.lload 4, 2) := by decide +kernel
theorem dX11_bestPrice_115 : decode cX11_bestPrice 115 = .ok (.lcmp, 1) := by decide +kernel
theorem dX11_bestPrice_116 : decode cX11_bestPrice 116 = .ok (.ifCond .le 8, 3) := by decide +kernel
theorem dX11_bestPrice_119 : decode cX11_bestPrice 119 = .ok (.iload 6, 2) := by decide +kernel
theorem dX11_bestPrice_121 : decode cX11_bestPrice 121 = .ok (.goto 4, 3) := by decide +kernel
theorem dX11_bestPrice_124 : decode cX11_bestPrice 124 = .ok (.iload_n 3, 1) := by decide +kernel
theorem dX11_bestPrice_125 : decode cX11_bestPrice 125 = .ok (.istore_n 3, 1) := by decide +kernel
theorem dX11_bestPrice_126 : decode cX11_bestPrice 126 = .ok (.lload 4, 2) := by decide +kernel
theorem dX11_bestPrice_128 : decode cX11_bestPrice 128 = .ok (.aload_n 0, 1) := by decide +kernel
theorem dX11_bestPrice_129 : decode cX11_bestPrice 129 = .ok (.getfield 94, 3) := by decide +kernel
theorem dX11_bestPrice_132 : decode cX11_bestPrice 132 = .ok (.getfield 341, 3) := by decide +kernel
theorem dX11_bestPrice_135 : decode cX11_bestPrice 135 = .ok (.invokestatic 330, 3) := by decide +kernel
theorem dX11_bestPrice_138 : decode cX11_bestPrice 138 = .ok (.lstore 4, 2) := by decide +kernel
theorem dX11_bestPrice_140 : decode cX11_bestPrice 140 = .ok (.iinc 6 1, 3) := by decide +kernel
theorem dX11_bestPrice_143 : decode cX11_bestPrice 143 = .ok (.goto (-85), 3) := by decide +kernel
theorem dX11_bestPrice_146 : decode cX11_bestPrice 146 = .ok (.iload_n 3, 1) := by decide +kernel
theorem dX11_bestPrice_147 : decode cX11_bestPrice 147 = .ok (.ireturn, 1) := by decide +kernel
theorem dX11_seen_0 : decode cX11_seen 0 = .ok (.aload_n 0, 1) := by decide +kernel
theorem dX11_seen_1 : decode cX11_seen 1 = .ok (.iload_n 1, 1) := by decide +kernel
theorem dX11_seen_2 : decode cX11_seen 2 = .ok (.invokevirtual 344, 3) := by decide +kernel
theorem dX11_seen_5 : decode cX11_seen 5 = .ok (.istore_n 2, 1) := by decide +kernel
theorem dX11_seen_6 : decode cX11_seen 6 = .ok (.iload_n 2, 1) := by decide +kernel
theorem dX11_seen_7 : decode cX11_seen 7 = .ok (.ifCond .eq 5, 3) := by decide +kernel
theorem dX11_seen_10 : decode cX11_seen 10 = .ok (.iload_n 2, 1) := by decide +kernel
theorem dX11_seen_11 : decode cX11_seen 11 = .ok (.ireturn, 1) := by decide +kernel
theorem dX11_seen_12 : decode cX11_seen 12 = .ok (.aload_n 0, 1) := by decide +kernel
theorem dX11_seen_13 : decode cX11_seen 13 = .ok (.getfield 94, 3) := by decide +kernel
theorem dX11_seen_16 : decode cX11_seen 16 = .ok (.aload_n 0, 1) := by decide +kernel
theorem dX11_seen_17 : decode cX11_seen 17 = .ok (.getfield 26, 3) := by decide +kernel
theorem dX11_seen_20 : decode cX11_seen 20 = .ok (.aload_n 0, 1) := by decide +kernel
theorem dX11_seen_21 : decode cX11_seen 21 = .ok (.getfield 36, 3) := by decide +kernel
theorem dX11_seen_24 : decode cX11_seen 24 = .ok (.invokevirtual 347, 3) := by decide +kernel
theorem dX11_seen_27 : decode cX11_seen 27 = .ok (.aload_n 0, 1) := by decide +kernel
theorem dX11_seen_28 : decode cX11_seen 28 = .ok (.getfield 103, 3) := by decide +kernel
theorem dX11_seen_31 : decode cX11_seen 31 = .ok (.aload_n 0, 1) := by decide +kernel
theorem dX11_seen_32 : decode cX11_seen 32 = .ok (.getfield 52, 3) := by decide +kernel
theorem dX11_seen_35 : decode cX11_seen 35 = .ok (.iload_n 1, 1) := by decide +kernel
theorem dX11_seen_36 : decode cX11_seen 36 = .ok (.aaload, 1) := by decide +kernel
theorem dX11_seen_37 : decode cX11_seen 37 = .ok (.invokevirtual 350, 3) := by decide +kernel
theorem dX11_seen_40 : decode cX11_seen 40 = .ok (.aload_n 0, 1) := by decide +kernel
theorem dX11_seen_41 : decode cX11_seen 41 = .ok (.getfield 103, 3) := by decide +kernel
theorem dX11_seen_44 : decode cX11_seen 44 = .ok (.getfield 354, 3) := by decide +kernel
theorem dX11_seen_47 : decode cX11_seen 47 = .ok (.ireturn, 1) := by decide +kernel
theorem dX11_sureGone_0 : decode cX11_sureGone 0 = .ok (.aload_n 0, 1) := by decide +kernel
theorem dX11_sureGone_1 : decode cX11_sureGone 1 = .ok (.iload_n 1, 1) := by decide +kernel
theorem dX11_sureGone_2 : decode cX11_sureGone 2 = .ok (.invokevirtual 344, 3) := by decide +kernel
theorem dX11_sureGone_5 : decode cX11_sureGone 5 = .ok (.istore_n 2, 1) := by decide +kernel
theorem dX11_sureGone_6 : decode cX11_sureGone 6 = .ok (.iload_n 2, 1) := by decide +kernel
theorem dX11_sureGone_7 : decode cX11_sureGone 7 = .ok (.ifCond .eq 5, 3) := by decide +kernel
theorem dX11_sureGone_10 : decode cX11_sureGone 10 = .ok (.iload_n 2, 1) := by decide +kernel
theorem dX11_sureGone_11 : decode cX11_sureGone 11 = .ok (.ireturn, 1) := by decide +kernel
theorem dX11_sureGone_12 : decode cX11_sureGone 12 = .ok (.aload_n 0, 1) := by decide +kernel
theorem dX11_sureGone_13 : decode cX11_sureGone 13 = .ok (.getfield 94, 3) := by decide +kernel
theorem dX11_sureGone_16 : decode cX11_sureGone 16 = .ok (.aload_n 0, 1) := by decide +kernel
theorem dX11_sureGone_17 : decode cX11_sureGone 17 = .ok (.getfield 26, 3) := by decide +kernel
theorem dX11_sureGone_20 : decode cX11_sureGone 20 = .ok (.aload_n 0, 1) := by decide +kernel
theorem dX11_sureGone_21 : decode cX11_sureGone 21 = .ok (.getfield 36, 3) := by decide +kernel
theorem dX11_sureGone_24 : decode cX11_sureGone 24 = .ok (.invokevirtual 347, 3) := by decide +kernel
theorem dX11_sureGone_27 : decode cX11_sureGone 27 = .ok (.aload_n 0, 1) := by decide +kernel
theorem dX11_sureGone_28 : decode cX11_sureGone 28 = .ok (.getfield 103, 3) := by decide +kernel
theorem dX11_sureGone_31 : decode cX11_sureGone 31 = .ok (.aload_n 0, 1) := by decide +kernel
theorem dX11_sureGone_32 : decode cX11_sureGone 32 = .ok (.getfield 52, 3) := by decide +kernel
theorem dX11_sureGone_35 : decode cX11_sureGone 35 = .ok (.iload_n 1, 1) := by decide +kernel
theorem dX11_sureGone_36 : decode cX11_sureGone 36 = .ok (.aaload, 1) := by decide +kernel
theorem dX11_sureGone_37 : decode cX11_sureGone 37 = .ok (.invokevirtual 350, 3) := by decide +kernel
theorem dX11_sureGone_40 : decode cX11_sureGone 40 = .ok (.aload_n 0, 1) := by decide +kernel
theorem dX11_sureGone_41 : decode cX11_sureGone 41 = .ok (.getfield 103, 3) := by decide +kernel
theorem dX11_sureGone_44 : decode cX11_sureGone 44 = .ok (.getfield 354, 3) := by decide +kernel
theorem dX11_sureGone_47 : decode cX11_sureGone 47 = .ok (.ifCond .ne 7, 3) := by decide +kernel
theorem dX11_sureGone_50 : decode cX11_sureGone 50 = .ok (.iconst 0, 1) := by decide +kernel
theorem dX11_sureGone_51 : decode cX11_sureGone 51 = .ok (.goto 10, 3) := by decide +kernel
theorem dX11_sureGone_54 : decode cX11_sureGone 54 = .ok (.aload_n 0, 1) := by decide +kernel
theorem dX11_sureGone_55 : decode cX11_sureGone 55 = .ok (.getfield 103, 3) := by decide +kernel
theorem dX11_sureGone_58 : decode cX11_sureGone 58 = .ok (.getfield 357, 3) := by decide +kernel
theorem dX11_sureGone_61 : decode cX11_sureGone 61 = .ok (.ireturn, 1) := by decide +kernel
theorem dX11_ask_0 : decode cX11_ask 0 = .ok (.aload_n 0, 1) := by decide +kernel
theorem dX11_ask_1 : decode cX11_ask 1 = .ok (.iload_n 1, 1) := by decide +kernel
theorem dX11_ask_2 : decode cX11_ask 2 = .ok (.invokevirtual 344, 3) := by decide +kernel
theorem dX11_ask_5 : decode cX11_ask 5 = .ok (.istore_n 2, 1) := by decide +kernel
theorem dX11_ask_6 : decode cX11_ask 6 = .ok (.iload_n 2, 1) := by decide +kernel
theorem dX11_ask_7 : decode cX11_ask 7 = .ok (.ifCond .eq 5, 3) := by decide +kernel
theorem dX11_ask_10 : decode cX11_ask 10 = .ok (.iload_n 2, 1) := by decide +kernel
theorem dX11_ask_11 : decode cX11_ask 11 = .ok (.ireturn, 1) := by decide +kernel
theorem dX11_ask_12 : decode cX11_ask 12 = .ok (.aload_n 0, 1) := by decide +kernel
theorem dX11_ask_13 : decode cX11_ask 13 = .ok (.getfield 94, 3) := by decide +kernel
theorem dX11_ask_16 : decode cX11_ask 16 = .ok (.aload_n 0, 1) := by decide +kernel
theorem dX11_ask_17 : decode cX11_ask 17 = .ok (.getfield 26, 3) := by decide +kernel
theorem dX11_ask_20 : decode cX11_ask 20 = .ok (.aload_n 0, 1) := by decide +kernel
theorem dX11_ask_21 : decode cX11_ask 21 = .ok (.getfield 36, 3) := by decide +kernel
theorem dX11_ask_24 : decode cX11_ask 24 = .ok (.invokevirtual 347, 3) := by decide +kernel
theorem dX11_ask_27 : decode cX11_ask 27 = .ok (.aload_n 0, 1) := by decide +kernel
theorem dX11_ask_28 : decode cX11_ask 28 = .ok (.getfield 103, 3) := by decide +kernel
theorem dX11_ask_31 : decode cX11_ask 31 = .ok (.aload_n 0, 1) := by decide +kernel
theorem dX11_ask_32 : decode cX11_ask 32 = .ok (.getfield 52, 3) := by decide +kernel
theorem dX11_ask_35 : decode cX11_ask 35 = .ok (.iload_n 1, 1) := by decide +kernel
theorem dX11_ask_36 : decode cX11_ask 36 = .ok (.aaload, 1) := by decide +kernel
theorem dX11_ask_37 : decode cX11_ask 37 = .ok (.invokevirtual 350, 3) := by decide +kernel
theorem dX11_ask_40 : decode cX11_ask 40 = .ok (.aload_n 0, 1) := by decide +kernel
theorem dX11_ask_41 : decode cX11_ask 41 = .ok (.getfield 103, 3) := by decide +kernel
theorem dX11_ask_44 : decode cX11_ask 44 = .ok (.getfield 354, 3) := by decide +kernel
theorem dX11_ask_47 : decode cX11_ask 47 = .ok (.ifCond .ne 7, 3) := by decide +kernel
theorem dX11_ask_50 : decode cX11_ask 50 = .ok (.iconst (-1), 1) := by decide +kernel
theorem dX11_ask_51 : decode cX11_ask 51 = .ok (.goto 10, 3) := by decide +kernel
theorem dX11_ask_54 : decode cX11_ask 54 = .ok (.aload_n 0, 1) := by decide +kernel
theorem dX11_ask_55 : decode cX11_ask 55 = .ok (.getfield 103, 3) := by decide +kernel
theorem dX11_ask_58 : decode cX11_ask 58 = .ok (.invokevirtual 360, 3) := by decide +kernel
theorem dX11_ask_61 : decode cX11_ask 61 = .ok (.ireturn, 1) := by decide +kernel
theorem dX11_seenRefusal_0 : decode cX11_seenRefusal 0 = .ok (.aload_n 0, 1) := by decide +kernel
theorem dX11_seenRefusal_1 : decode cX11_seenRefusal 1 = .ok (.iload_n 1, 1) := by decide +kernel
theorem dX11_seenRefusal_2 : decode cX11_seenRefusal 2 = .ok (.invokevirtual 255, 3) := by decide +kernel
theorem dX11_seenRefusal_5 : decode cX11_seenRefusal 5 = .ok (.istore_n 2, 1) := by decide +kernel
theorem dX11_seenRefusal_6 : decode cX11_seenRefusal 6 = .ok (.iload_n 2, 1) := by decide +kernel
theorem dX11_seenRefusal_7 : decode cX11_seenRefusal 7 = .ok (.ifCond .eq 5, 3) := by decide +kernel
theorem dX11_seenRefusal_10 : decode cX11_seenRefusal 10 = .ok (.iload_n 2, 1) := by decide +kernel
theorem dX11_seenRefusal_11 : decode cX11_seenRefusal 11 = .ok (.ireturn, 1) := by decide +kernel
theorem dX11_seenRefusal_12 : decode cX11_seenRefusal 12 = .ok (.aload_n 0, 1) := by decide +kernel
theorem dX11_seenRefusal_13 : decode cX11_seenRefusal 13 = .ok (.getfield 52, 3) := by decide +kernel
theorem dX11_seenRefusal_16 : decode cX11_seenRefusal 16 = .ok (.iload_n 1, 1) := by decide +kernel
theorem dX11_seenRefusal_17 : decode cX11_seenRefusal 17 = .ok (.aaload, 1) := by decide +kernel
theorem dX11_seenRefusal_18 : decode cX11_seenRefusal 18 = .ok (.astore_n 3, 1) := by decide +kernel
theorem dX11_seenRefusal_19 : decode cX11_seenRefusal 19 = .ok (.aload_n 3, 1) := by decide +kernel
theorem dX11_seenRefusal_20 : decode cX11_seenRefusal 20 = .ok (.invokevirtual 239, 3) := by decide +kernel
theorem dX11_seenRefusal_23 : decode cX11_seenRefusal 23 = .ok (.iconst 1, 1) := by decide +kernel
theorem dX11_seenRefusal_24 : decode cX11_seenRefusal 24 = .ok (.if_icmp .lt 12, 3) := by decide +kernel
theorem dX11_seenRefusal_27 : decode cX11_seenRefusal 27 = .ok (.aload_n 3, 1) := by decide +kernel
theorem dX11_seenRefusal_28 : decode cX11_seenRefusal 28 = .ok (.invokevirtual 239, 3) := by decide +kernel
theorem dX11_seenRefusal_31 : decode cX11_seenRefusal 31 = .ok (.bipush 12, 2) := by decide +kernel
theorem dX11_seenRefusal_33 : decode cX11_seenRefusal 33 = .ok (.if_icmp .le 6, 3) := by decide +kernel
theorem dX11_seenRefusal_36 : decode cX11_seenRefusal 36 = .ok (.bipush (-4), 2) := by decide +kernel
theorem dX11_seenRefusal_38 : decode cX11_seenRefusal 38 = .ok (.ireturn, 1) := by decide +kernel
theorem dX11_seenRefusal_39 : decode cX11_seenRefusal 39 = .ok (.iconst 0, 1) := by decide +kernel
theorem dX11_seenRefusal_40 : decode cX11_seenRefusal 40 = .ok (.istore 4, 2) := by decide +kernel
theorem dX11_seenRefusal_42 : decode cX11_seenRefusal 42 = .ok (.iload 4, 2) := by decide +kernel
theorem dX11_seenRefusal_44 : decode cX11_seenRefusal 44 = .ok (.aload_n 3, 1) := by decide +kernel
theorem dX11_seenRefusal_45 : decode cX11_seenRefusal 45 = .ok (.invokevirtual 239, 3) := by decide +kernel
theorem dX11_seenRefusal_48 : decode cX11_seenRefusal 48 = .ok (.if_icmp .ge 25, 3) := by decide +kernel
theorem dX11_seenRefusal_51 : decode cX11_seenRefusal 51 = .ok (.aload_n 0, 1) := by decide +kernel
theorem dX11_seenRefusal_52 : decode cX11_seenRefusal 52 = .ok (.aload_n 3, 1) := by decide +kernel
theorem dX11_seenRefusal_53 : decode cX11_seenRefusal 53 = .ok (.iload 4, 2) := by decide +kernel
theorem dX11_seenRefusal_55 : decode cX11_seenRefusal 55 = .ok (.invokevirtual 242, 3) := by decide +kernel
theorem dX11_seenRefusal_58 : decode cX11_seenRefusal 58 = .ok (.invokevirtual 363, 3) := by decide +kernel
theorem dX11_seenRefusal_61 : decode cX11_seenRefusal 61 = .ok (.ifCond .ne 6, 3) := by decide +kernel
theorem dX11_seenRefusal_64 : decode cX11_seenRefusal 64 = .ok (.bipush (-3), 2) := by decide +kernel
theorem dX11_seenRefusal_66 : decode cX11_seenRefusal 66 = .ok (.ireturn, 1) := by decide +kernel
theorem dX11_seenRefusal_67 : decode cX11_seenRefusal 67 = .ok (.iinc 4 1, 3) := by decide +kernel
theorem dX11_seenRefusal_70 : decode cX11_seenRefusal 70 = .ok (.goto (-28), 3) := by decide +kernel
theorem dX11_seenRefusal_73 : decode cX11_seenRefusal 73 = .ok (.iconst 0, 1) := by decide +kernel
theorem dX11_seenRefusal_74 : decode cX11_seenRefusal 74 = .ok (.ireturn, 1) := by decide +kernel
theorem dX11_came_0 : decode cX11_came 0 = .ok (.aload_n 0, 1) := by decide +kernel
theorem dX11_came_1 : decode cX11_came 1 = .ok (.iload_n 1, 1) := by decide +kernel
theorem dX11_came_2 : decode cX11_came 2 = .ok (.invokevirtual 369, 3) := by decide +kernel
theorem dX11_came_5 : decode cX11_came 5 = .ok (.istore_n 2, 1) := by decide +kernel
theorem dX11_came_6 : decode cX11_came 6 = .ok (.iload_n 2, 1) := by decide +kernel
theorem dX11_came_7 : decode cX11_came 7 = .ok (.ifCond .eq 6, 3) := by decide +kernel
theorem dX11_came_10 : decode cX11_came 10 = .ok (.iload_n 2, 1) := by decide +kernel
theorem dX11_came_11 : decode cX11_came 11 = .ok (.i2l, 1) := by decide +kernel
theorem dX11_came_12 : decode cX11_came 12 = .ok (.lreturn, 1) := by decide +kernel
theorem dX11_came_13 : decode cX11_came 13 = .ok (.aload_n 0, 1) := by decide +kernel
theorem dX11_came_14 : decode cX11_came 14 = .ok (.getfield 94, 3) := by decide +kernel
theorem dX11_came_17 : decode cX11_came 17 = .ok (.aload_n 0, 1) := by decide +kernel
theorem dX11_came_18 : decode cX11_came 18 = .ok (.getfield 26, 3) := by decide +kernel
theorem dX11_came_21 : decode cX11_came 21 = .ok (.aload_n 0, 1) := by decide +kernel
theorem dX11_came_22 : decode cX11_came 22 = .ok (.getfield 36, 3) := by decide +kernel
theorem dX11_came_25 : decode cX11_came 25 = .ok (.aload_n 0, 1) := by decide +kernel
theorem dX11_came_26 : decode cX11_came 26 = .ok (.getfield 36, 3) := by decide +kernel
theorem dX11_came_29 : decode cX11_came 29 = .ok (.getfield 153, 3) := by decide +kernel
theorem dX11_came_32 : decode cX11_came 32 = .ok (.invokevirtual 262, 3) := by decide +kernel
theorem dX11_came_35 : decode cX11_came 35 = .ok (.aload_n 0, 1) := by decide +kernel
theorem dX11_came_36 : decode cX11_came 36 = .ok (.getfield 103, 3) := by decide +kernel
theorem dX11_came_39 : decode cX11_came 39 = .ok (.aload_n 0, 1) := by decide +kernel
theorem dX11_came_40 : decode cX11_came 40 = .ok (.getfield 52, 3) := by decide +kernel
theorem dX11_came_43 : decode cX11_came 43 = .ok (.iload_n 1, 1) := by decide +kernel
theorem dX11_came_44 : decode cX11_came 44 = .ok (.aaload, 1) := by decide +kernel
theorem dX11_came_45 : decode cX11_came 45 = .ok (.invokevirtual 372, 3) := by decide +kernel
theorem dX11_came_48 : decode cX11_came 48 = .ok (.lreturn, 1) := by decide +kernel
theorem dX11_who_0 : decode cX11_who 0 = .ok (.aload_n 0, 1) := by decide +kernel
theorem dX11_who_1 : decode cX11_who 1 = .ok (.iload_n 1, 1) := by decide +kernel
theorem dX11_who_2 : decode cX11_who 2 = .ok (.invokevirtual 369, 3) := by decide +kernel
theorem dX11_who_5 : decode cX11_who 5 = .ok (.istore_n 3, 1) := by decide +kernel
theorem dX11_who_6 : decode cX11_who 6 = .ok (.iload_n 3, 1) := by decide +kernel
theorem dX11_who_7 : decode cX11_who 7 = .ok (.ifCond .eq 5, 3) := by decide +kernel
theorem dX11_who_10 : decode cX11_who 10 = .ok (.iload_n 3, 1) := by decide +kernel
theorem dX11_who_11 : decode cX11_who 11 = .ok (.ireturn, 1) := by decide +kernel
theorem dX11_who_12 : decode cX11_who 12 = .ok (.aload_n 0, 1) := by decide +kernel
theorem dX11_who_13 : decode cX11_who 13 = .ok (.getfield 52, 3) := by decide +kernel
theorem dX11_who_16 : decode cX11_who 16 = .ok (.iload_n 1, 1) := by decide +kernel
theorem dX11_who_17 : decode cX11_who 17 = .ok (.aaload, 1) := by decide +kernel
theorem dX11_who_18 : decode cX11_who 18 = .ok (.iload_n 2, 1) := by decide +kernel
theorem dX11_who_19 : decode cX11_who 19 = .ok (.invokevirtual 376, 3) := by decide +kernel
theorem dX11_who_22 : decode cX11_who 22 = .ok (.ifCond .ne 6, 3) := by decide +kernel
theorem dX11_who_25 : decode cX11_who 25 = .ok (.bipush (-7), 2) := by decide +kernel
theorem dX11_who_27 : decode cX11_who 27 = .ok (.ireturn, 1) := by decide +kernel
theorem dX11_who_28 : decode cX11_who 28 = .ok (.aload_n 0, 1) := by decide +kernel
theorem dX11_who_29 : decode cX11_who 29 = .ok (.getfield 94, 3) := by decide +kernel
theorem dX11_who_32 : decode cX11_who 32 = .ok (.aload_n 0, 1) := by decide +kernel
theorem dX11_who_33 : decode cX11_who 33 = .ok (.getfield 26, 3) := by decide +kernel
theorem dX11_who_36 : decode cX11_who 36 = .ok (.aload_n 0, 1) := by decide +kernel
theorem dX11_who_37 : decode cX11_who 37 = .ok (.getfield 36, 3) := by decide +kernel
theorem dX11_who_40 : decode cX11_who 40 = .ok (.aload_n 0, 1) := by decide +kernel
theorem dX11_who_41 : decode cX11_who 41 = .ok (.getfield 36, 3) := by decide +kernel
theorem dX11_who_44 : decode cX11_who 44 = .ok (.getfield 153, 3) := by decide +kernel
theorem dX11_who_47 : decode cX11_who 47 = .ok (.invokevirtual 262, 3) := by decide +kernel
theorem dX11_who_50 : decode cX11_who 50 = .ok (.aload_n 0, 1) := by decide +kernel
theorem dX11_who_51 : decode cX11_who 51 = .ok (.getfield 103, 3) := by decide +kernel
theorem dX11_who_54 : decode cX11_who 54 = .ok (.aload_n 0, 1) := by decide +kernel
theorem dX11_who_55 : decode cX11_who 55 = .ok (.getfield 52, 3) := by decide +kernel
theorem dX11_who_58 : decode cX11_who 58 = .ok (.iload_n 1, 1) := by decide +kernel
theorem dX11_who_59 : decode cX11_who 59 = .ok (.aaload, 1) := by decide +kernel
theorem dX11_who_60 : decode cX11_who 60 = .ok (.iload_n 2, 1) := by decide +kernel
theorem dX11_who_61 : decode cX11_who 61 = .ok (.invokevirtual 379, 3) := by decide +kernel
theorem dX11_who_64 : decode cX11_who 64 = .ok (.ireturn, 1) := by decide +kernel
theorem dX11_cameRefusal_0 : decode cX11_cameRefusal 0 = .ok (.aload_n 0, 1) := by decide +kernel
theorem dX11_cameRefusal_1 : decode cX11_cameRefusal 1 = .ok (.iload_n 1, 1) := by decide +kernel
theorem dX11_cameRefusal_2 : decode cX11_cameRefusal 2 = .ok (.invokevirtual 255, 3) := by decide +kernel
theorem dX11_cameRefusal_5 : decode cX11_cameRefusal 5 = .ok (.istore_n 2, 1) := by decide +kernel
theorem dX11_cameRefusal_6 : decode cX11_cameRefusal 6 = .ok (.iload_n 2, 1) := by decide +kernel
theorem dX11_cameRefusal_7 : decode cX11_cameRefusal 7 = .ok (.ifCond .eq 5, 3) := by decide +kernel
theorem dX11_cameRefusal_10 : decode cX11_cameRefusal 10 = .ok (.iload_n 2, 1) := by decide +kernel
theorem dX11_cameRefusal_11 : decode cX11_cameRefusal 11 = .ok (.ireturn, 1) := by decide +kernel
theorem dX11_cameRefusal_12 : decode cX11_cameRefusal 12 = .ok (.aload_n 0, 1) := by decide +kernel
theorem dX11_cameRefusal_13 : decode cX11_cameRefusal 13 = .ok (.getfield 52, 3) := by decide +kernel
theorem dX11_cameRefusal_16 : decode cX11_cameRefusal 16 = .ok (.iload_n 1, 1) := by decide +kernel
theorem dX11_cameRefusal_17 : decode cX11_cameRefusal 17 = .ok (.aaload, 1) := by decide +kernel
theorem dX11_cameRefusal_18 : decode cX11_cameRefusal 18 = .ok (.astore_n 3, 1) := by decide +kernel
theorem dX11_cameRefusal_19 : decode cX11_cameRefusal 19 = .ok (.aload_n 3, 1) := by decide +kernel
theorem dX11_cameRefusal_20 : decode cX11_cameRefusal 20 = .ok (.invokevirtual 239, 3) := by decide +kernel
theorem dX11_cameRefusal_23 : decode cX11_cameRefusal 23 = .ok (.iconst 1, 1) := by decide +kernel
theorem dX11_cameRefusal_24 : decode cX11_cameRefusal 24 = .ok (.if_icmp .lt 12, 3) := by decide +kernel
theorem dX11_cameRefusal_27 : decode cX11_cameRefusal 27 = .ok (.aload_n 3, 1) := by decide +kernel
theorem dX11_cameRefusal_28 : decode cX11_cameRefusal 28 = .ok (.invokevirtual 239, 3) := by decide +kernel
theorem dX11_cameRefusal_31 : decode cX11_cameRefusal 31 = .ok (.bipush 10, 2) := by decide +kernel
theorem dX11_cameRefusal_33 : decode cX11_cameRefusal 33 = .ok (.if_icmp .le 6, 3) := by decide +kernel
theorem dX11_cameRefusal_36 : decode cX11_cameRefusal 36 = .ok (.bipush (-4), 2) := by decide +kernel
theorem dX11_cameRefusal_38 : decode cX11_cameRefusal 38 = .ok (.ireturn, 1) := by decide +kernel
theorem dX11_cameRefusal_39 : decode cX11_cameRefusal 39 = .ok (.iconst 0, 1) := by decide +kernel
theorem dX11_cameRefusal_40 : decode cX11_cameRefusal 40 = .ok (.istore 4, 2) := by decide +kernel
theorem dX11_cameRefusal_42 : decode cX11_cameRefusal 42 = .ok (.iload 4, 2) := by decide +kernel
theorem dX11_cameRefusal_44 : decode cX11_cameRefusal 44 = .ok (.aload_n 3, 1) := by decide +kernel
theorem dX11_cameRefusal_45 : decode cX11_cameRefusal 45 = .ok (.invokevirtual 239, 3) := by decide +kernel
theorem dX11_cameRefusal_48 : decode cX11_cameRefusal 48 = .ok (.if_icmp .ge 43, 3) := by decide +kernel
theorem dX11_cameRefusal_51 : decode cX11_cameRefusal 51 = .ok (.aload_n 3, 1) := by decide +kernel
theorem dX11_cameRefusal_52 : decode cX11_cameRefusal 52 = .ok (.iload 4, 2) := by decide +kernel
theorem dX11_cameRefusal_54 : decode cX11_cameRefusal 54 = .ok (.invokevirtual 242, 3) := by decide +kernel
theorem dX11_cameRefusal_57 : decode cX11_cameRefusal 57 = .ok (.ldc2_w 219, 3) := by decide +kernel
theorem dX11_cameRefusal_60 : decode cX11_cameRefusal 60 = .ok (.lcmp, 1) := by decide +kernel
theorem dX11_cameRefusal_61 : decode cX11_cameRefusal 61 = .ok (.ifCond .lt 21, 3) := by decide +kernel
theorem dX11_cameRefusal_64 : decode cX11_cameRefusal 64 = .ok (.aload_n 3, 1) := by decide +kernel
theorem dX11_cameRefusal_65 : decode cX11_cameRefusal 65 = .ok (.iload 4, 2) := by decide +kernel
theorem dX11_cameRefusal_67 : decode cX11_cameRefusal 67 = .ok (.invokevirtual 242, 3) := by decide +kernel
theorem dX11_cameRefusal_70 : decode cX11_cameRefusal 70 = .ok (.aload_n 0, 1) := by decide +kernel
theorem dX11_cameRefusal_71 : decode cX11_cameRefusal 71 = .ok (.getfield 36, 3) := by decide +kernel
theorem dX11_cameRefusal_74 : decode cX11_cameRefusal 74 = .ok (.getfield 160, 3) := by decide +kernel
theorem dX11_cameRefusal_77 : decode cX11_cameRefusal 77 = .ok (.i2l, 1) := by decide +kernel
theorem dX11_cameRefusal_78 : decode cX11_cameRefusal 78 = .ok (.lcmp, 1) := by decide +kernel
theorem dX11_cameRefusal_79 : decode cX11_cameRefusal 79 = .ok (.ifCond .lt 6, 3) := by decide +kernel
theorem dX11_cameRefusal_82 : decode cX11_cameRefusal 82 = .ok (.bipush (-3), 2) := by decide +kernel
theorem dX11_cameRefusal_84 : decode cX11_cameRefusal 84 = .ok (.ireturn, 1) := by decide +kernel
theorem dX11_cameRefusal_85 : decode cX11_cameRefusal 85 = .ok (.iinc 4 1, 3) := by decide +kernel
theorem dX11_cameRefusal_88 : decode cX11_cameRefusal 88 = .ok (.goto (-46), 3) := by decide +kernel
theorem dX11_cameRefusal_91 : decode cX11_cameRefusal 91 = .ok (.iconst 0, 1) := by decide +kernel
theorem dX11_cameRefusal_92 : decode cX11_cameRefusal 92 = .ok (.ireturn, 1) := by decide +kernel
theorem dX11_isTray_0 : decode cX11_isTray 0 = .ok (.iload_n 0, 1) := by decide +kernel
theorem dX11_isTray_1 : decode cX11_isTray 1 = .ok (.ifCond .lt 12, 3) := by decide +kernel
theorem dX11_isTray_4 : decode cX11_isTray 4 = .ok (.iload_n 0, 1) := by decide +kernel
theorem dX11_isTray_5 : decode cX11_isTray 5 = .ok (.iconst 4, 1) := by decide +kernel
theorem dX11_isTray_6 : decode cX11_isTray 6 = .ok (.if_icmp .ge 7, 3) := by decide +kernel
theorem dX11_isTray_9 : decode cX11_isTray 9 = .ok (.iconst 1, 1) := by decide +kernel
theorem dX11_isTray_10 : decode cX11_isTray 10 = .ok (.goto 4, 3) := by decide +kernel
theorem dX11_isTray_13 : decode cX11_isTray 13 = .ok (.iconst 0, 1) := by decide +kernel
theorem dX11_isTray_14 : decode cX11_isTray 14 = .ok (.ireturn, 1) := by decide +kernel
theorem dX11_trayRefusal_0 : decode cX11_trayRefusal 0 = .ok (.iload_n 1, 1) := by decide +kernel
theorem dX11_trayRefusal_1 : decode cX11_trayRefusal 1 = .ok (.invokestatic 232, 3) := by decide +kernel
theorem dX11_trayRefusal_4 : decode cX11_trayRefusal 4 = .ok (.ifCond .ne 6, 3) := by decide +kernel
theorem dX11_trayRefusal_7 : decode cX11_trayRefusal 7 = .ok (.bipush (-2), 2) := by decide +kernel
theorem dX11_trayRefusal_9 : decode cX11_trayRefusal 9 = .ok (.ireturn, 1) := by decide +kernel
theorem dX11_trayRefusal_10 : decode cX11_trayRefusal 10 = .ok (.aload_n 0, 1) := by decide +kernel
theorem dX11_trayRefusal_11 : decode cX11_trayRefusal 11 = .ok (.getfield 52, 3) := by decide +kernel
theorem dX11_trayRefusal_14 : decode cX11_trayRefusal 14 = .ok (.iload_n 1, 1) := by decide +kernel
theorem dX11_trayRefusal_15 : decode cX11_trayRefusal 15 = .ok (.aaload, 1) := by decide +kernel
theorem dX11_trayRefusal_16 : decode cX11_trayRefusal 16 = .ok (.invokevirtual 235, 3) := by decide +kernel
theorem dX11_trayRefusal_19 : decode cX11_trayRefusal 19 = .ok (.ifCond .eq 8, 3) := by decide +kernel
theorem dX11_trayRefusal_22 : decode cX11_trayRefusal 22 = .ok (.bipush (-6), 2) := by decide +kernel
theorem dX11_trayRefusal_24 : decode cX11_trayRefusal 24 = .ok (.goto 4, 3) := by decide +kernel
theorem dX11_trayRefusal_27 : decode cX11_trayRefusal 27 = .ok (.iconst 0, 1) := by decide +kernel
theorem dX11_trayRefusal_28 : decode cX11_trayRefusal 28 = .ok (.ireturn, 1) := by decide +kernel
theorem dX11_numbers_0 : decode cX11_numbers 0 = .ok (.iload_n 1, 1) := by decide +kernel
theorem dX11_numbers_1 : decode cX11_numbers 1 = .ok (.invokestatic 232, 3) := by decide +kernel
theorem dX11_numbers_4 : decode cX11_numbers 4 = .ok (.ifCond .eq 12, 3) := by decide +kernel
theorem dX11_numbers_7 : decode cX11_numbers 7 = .ok (.iload_n 2, 1) := by decide +kernel
theorem dX11_numbers_8 : decode cX11_numbers 8 = .ok (.ifCond .lt 8, 3) := by decide +kernel
theorem dX11_numbers_11 : decode cX11_numbers 11 = .ok (.iload_n 2, 1) := by decide +kernel
theorem dX11_numbers_12 : decode cX11_numbers 12 = .ok (.iconst 3, 1) := by decide +kernel
theorem dX11_numbers_13 : decode cX11_numbers 13 = .ok (.if_icmp .le 6, 3) := by decide +kernel
theorem dX11_numbers_16 : decode cX11_numbers 16 = .ok (.bipush (-2), 2) := by decide +kernel
theorem dX11_numbers_18 : decode cX11_numbers 18 = .ok (.ireturn, 1) := by decide +kernel
theorem dX11_numbers_19 : decode cX11_numbers 19 = .ok (.iload_n 3, 1) := by decide +kernel
theorem dX11_numbers_20 : decode cX11_numbers 20 = .ok (.ifCond .lt 9, 3) := by decide +kernel
theorem dX11_numbers_23 : decode cX11_numbers 23 = .ok (.iload_n 3, 1) := by decide +kernel
theorem dX11_numbers_24 : decode cX11_numbers 24 = .ok (.bipush 40, 2) := by decide +kernel
theorem dX11_numbers_26 : decode cX11_numbers 26 = .ok (.if_icmp .le 6, 3) := by decide +kernel
theorem dX11_numbers_29 : decode cX11_numbers 29 = .ok (.bipush (-3), 2) := by decide +kernel
theorem dX11_numbers_31 : decode cX11_numbers 31 = .ok (.ireturn, 1) := by decide +kernel
theorem dX11_numbers_32 : decode cX11_numbers 32 = .ok (.aload_n 0, 1) := by decide +kernel
theorem dX11_numbers_33 : decode cX11_numbers 33 = .ok (.getfield 52, 3) := by decide +kernel
theorem dX11_numbers_36 : decode cX11_numbers 36 = .ok (.iload_n 1, 1) := by decide +kernel
theorem dX11_numbers_37 : decode cX11_numbers 37 = .ok (.aaload, 1) := by decide +kernel
theorem dX11_numbers_38 : decode cX11_numbers 38 = .ok (.iload_n 2, 1) := by decide +kernel
theorem dX11_numbers_39 : decode cX11_numbers 39 = .ok (.iload_n 3, 1) := by decide +kernel
theorem dX11_numbers_40 : decode cX11_numbers 40 = .ok (.invokevirtual 383, 3) := by decide +kernel
theorem dX11_numbers_43 : decode cX11_numbers 43 = .ok (.iconst 0, 1) := by decide +kernel
theorem dX11_numbers_44 : decode cX11_numbers 44 = .ok (.ireturn, 1) := by decide +kernel
theorem dX11_write_0 : decode cX11_write 0 = .ok (.aload_n 0, 1) := by decide +kernel
theorem dX11_write_1 : decode cX11_write 1 = .ok (.iload_n 1, 1) := by decide +kernel
theorem dX11_write_2 : decode cX11_write 2 = .ok (.invokevirtual 255, 3) := by decide +kernel
theorem dX11_write_5 : decode cX11_write 5 = .ok (.istore 5, 2) := by decide +kernel
theorem dX11_write_7 : decode cX11_write 7 = .ok (.iload 5, 2) := by decide +kernel
theorem dX11_write_9 : decode cX11_write 9 = .ok (.ifCond .eq 7, 3) := by decide +kernel
theorem dX11_write_12 : decode cX11_write 12 = .ok (.iload 5, 2) := by decide +kernel
theorem dX11_write_14 : decode cX11_write 14 = .ok (.i2l, 1) := by decide +kernel
theorem dX11_write_15 : decode cX11_write 15 = .ok (.lreturn, 1) := by decide +kernel
theorem dX11_write_16 : decode cX11_write 16 = .ok (.aload_n 0, 1) := by decide +kernel
theorem dX11_write_17 : decode cX11_write 17 = .ok (.getfield 52, 3) := by decide +kernel
theorem dX11_write_20 : decode cX11_write 20 = .ok (.iload_n 1, 1) := by decide +kernel
theorem dX11_write_21 : decode cX11_write 21 = .ok (.aaload, 1) := by decide +kernel
theorem dX11_write_22 : decode cX11_write 22 = .ok (.iload_n 2, 1) := by decide +kernel
theorem dX11_write_23 : decode cX11_write 23 = .ok (.invokevirtual 376, 3) := by decide +kernel
theorem dX11_write_26 : decode cX11_write 26 = .ok (.ifCond .ne 7, 3) := by decide +kernel
theorem dX11_write_29 : decode cX11_write 29 = .ok (.ldc2_w 387, 3) := by decide +kernel
theorem dX11_write_32 : decode cX11_write 32 = .ok (.lreturn, 1) := by decide +kernel
theorem dX11_write_33 : decode cX11_write 33 = .ok (.aload_n 0, 1) := by decide +kernel
theorem dX11_write_34 : decode cX11_write 34 = .ok (.getfield 52, 3) := by decide +kernel
theorem dX11_write_37 : decode cX11_write 37 = .ok (.iload_n 1, 1) := by decide +kernel
theorem dX11_write_38 : decode cX11_write 38 = .ok (.aaload, 1) := by decide +kernel
theorem dX11_write_39 : decode cX11_write 39 = .ok (.iload_n 2, 1) := by decide +kernel
theorem dX11_write_40 : decode cX11_write 40 = .ok (.lload_n 3, 1) := by decide +kernel
theorem dX11_write_41 : decode cX11_write 41 = .ok (.invokevirtual 389, 3) := by decide +kernel
theorem dX11_write_44 : decode cX11_write 44 = .ok (.aload_n 0, 1) := by decide +kernel
theorem dX11_write_45 : decode cX11_write 45 = .ok (.getfield 52, 3) := by decide +kernel
theorem dX11_write_48 : decode cX11_write 48 = .ok (.iload_n 1, 1) := by decide +kernel
theorem dX11_write_49 : decode cX11_write 49 = .ok (.aaload, 1) := by decide +kernel
theorem dX11_write_50 : decode cX11_write 50 = .ok (.iload_n 2, 1) := by decide +kernel
theorem dX11_write_51 : decode cX11_write 51 = .ok (.invokevirtual 242, 3) := by decide +kernel
theorem dX11_write_54 : decode cX11_write 54 = .ok (.lreturn, 1) := by decide +kernel
theorem dX11_lists_0 : decode cX11_lists 0 = .ok (.aload_n 0, 1) := by decide +kernel
theorem dX11_lists_1 : decode cX11_lists 1 = .ok (.iload_n 1, 1) := by decide +kernel
theorem dX11_lists_2 : decode cX11_lists 2 = .ok (.invokevirtual 255, 3) := by decide +kernel
theorem dX11_lists_5 : decode cX11_lists 5 = .ok (.istore_n 2, 1) := by decide +kernel
theorem dX11_lists_6 : decode cX11_lists 6 = .ok (.iload_n 2, 1) := by decide +kernel
theorem dX11_lists_7 : decode cX11_lists 7 = .ok (.ifCond .eq 5, 3) := by decide +kernel
theorem dX11_lists_10 : decode cX11_lists 10 = .ok (.iload_n 2, 1) := by decide +kernel
theorem dX11_lists_11 : decode cX11_lists 11 = .ok (.ireturn, 1) := by decide +kernel
theorem dX11_lists_12 : decode cX11_lists 12 = .ok (.aload_n 0, 1) := by decide +kernel
theorem dX11_lists_13 : decode cX11_lists 13 = .ok (.getfield 94, 3) := by decide +kernel
theorem dX11_lists_16 : decode cX11_lists 16 = .ok (.aload_n 0, 1) := by decide +kernel
theorem dX11_lists_17 : decode cX11_lists 17 = .ok (.getfield 26, 3) := by decide +kernel
theorem dX11_lists_20 : decode cX11_lists 20 = .ok (.aload_n 0, 1) := by decide +kernel
theorem dX11_lists_21 : decode cX11_lists 21 = .ok (.getfield 36, 3) := by decide +kernel
theorem dX11_lists_24 : decode cX11_lists 24 = .ok (.aload_n 0, 1) := by decide +kernel
theorem dX11_lists_25 : decode cX11_lists 25 = .ok (.getfield 36, 3) := by decide +kernel
theorem dX11_lists_28 : decode cX11_lists 28 = .ok (.getfield 153, 3) := by decide +kernel
theorem dX11_lists_31 : decode cX11_lists 31 = .ok (.invokevirtual 262, 3) := by decide +kernel
theorem dX11_lists_34 : decode cX11_lists 34 = .ok (.aload_n 0, 1) := by decide +kernel
theorem dX11_lists_35 : decode cX11_lists 35 = .ok (.getfield 94, 3) := by decide +kernel
theorem dX11_lists_38 : decode cX11_lists 38 = .ok (.invokevirtual 266, 3) := by decide +kernel
theorem dX11_lists_41 : decode cX11_lists 41 = .ok (.istore_n 3, 1) := by decide +kernel
theorem dX11_lists_42 : decode cX11_lists 42 = .ok (.iload_n 3, 1) := by decide +kernel
theorem dX11_lists_43 : decode cX11_lists 43 = .ok (.iconst (-1), 1) := by decide +kernel
theorem dX11_lists_44 : decode cX11_lists 44 = .ok (.if_icmp .ne 6, 3) := by decide +kernel
theorem dX11_lists_47 : decode cX11_lists 47 = .ok (.bipush (-5), 2) := by decide +kernel
theorem dX11_lists_49 : decode cX11_lists 49 = .ok (.ireturn, 1) := by decide +kernel
theorem dX11_lists_50 : decode cX11_lists 50 = .ok (.iload_n 3, 1) := by decide +kernel
theorem dX11_lists_51 : decode cX11_lists 51 = .ok (.aload_n 0, 1) := by decide +kernel
theorem dX11_lists_52 : decode cX11_lists 52 = .ok (.getfield 52, 3) := by decide +kernel
theorem dX11_lists_55 : decode cX11_lists 55 = .ok (.iload_n 1, 1) := by decide +kernel
theorem dX11_lists_56 : decode cX11_lists 56 = .ok (.aaload, 1) := by decide +kernel
theorem dX11_lists_57 : decode cX11_lists 57 = .ok (.invokevirtual 239, 3) := by decide +kernel
theorem dX11_lists_60 : decode cX11_lists 60 = .ok (.invokestatic 246, 3) := by decide +kernel
theorem dX11_lists_63 : decode cX11_lists 63 = .ok (.istore 4, 2) := by decide +kernel
theorem dX11_lists_65 : decode cX11_lists 65 = .ok (.iconst 0, 1) := by decide +kernel
theorem dX11_lists_66 : decode cX11_lists 66 = .ok (.istore 5, 2) := by decide +kernel
theorem dX11_lists_68 : decode cX11_lists 68 = .ok (.iload 5, 2) := by decide +kernel
theorem dX11_lists_70 : decode cX11_lists 70 = .ok (.iload 4, 2) := by decide +kernel
theorem dX11_lists_72 : decode cX11_lists 72 = .ok (.if_icmp .ge 30, 3) := by decide +kernel
theorem dX11_lists_75 : decode cX11_lists 75 = .ok (.aload_n 0, 1) := by decide +kernel
theorem dX11_lists_76 : decode cX11_lists 76 = .ok (.getfield 52, 3) := by decide +kernel
theorem dX11_lists_79 : decode cX11_lists 79 = .ok (.iload_n 1, 1) := by decide +kernel
theorem dX11_lists_80 : decode cX11_lists 80 = .ok (.aaload, 1) := by decide +kernel
theorem dX11_lists_81 : decode cX11_lists 81 = .ok (.iload 5, 2) := by decide +kernel
theorem dX11_lists_83 : decode cX11_lists 83 = .ok (.aload_n 0, 1) := by decide +kernel
theorem dX11_lists_84 : decode cX11_lists 84 = .ok (.getfield 94, 3) := by decide +kernel
theorem dX11_lists_87 : decode cX11_lists 87 = .ok (.iload 5, 2) := by decide +kernel
theorem dX11_lists_89 : decode cX11_lists 89 = .ok (.invokevirtual 269, 3) := by decide +kernel
theorem dX11_lists_92 : decode cX11_lists 92 = .ok (.i2l, 1) := by decide +kernel
theorem dX11_lists_93 : decode cX11_lists 93 = .ok (.invokevirtual 389, 3) := by decide +kernel
theorem dX11_lists_96 : decode cX11_lists 96 = .ok (.iinc 5 1, 3) := by decide +kernel
theorem dX11_lists_99 : decode cX11_lists 99 = .ok (.goto (-31), 3) := by decide +kernel
theorem dX11_lists_102 : decode cX11_lists 102 = .ok (.iload 4, 2) := by decide +kernel
theorem dX11_lists_104 : decode cX11_lists 104 = .ok (.ireturn, 1) := by decide +kernel
theorem dX11_image_0 : decode cX11_image 0 = .ok (.iload_n 1, 1) := by decide +kernel
theorem dX11_image_1 : decode cX11_image 1 = .ok (.ifCond .lt 12, 3) := by decide +kernel
theorem dX11_image_4 : decode cX11_image 4 = .ok (.iload_n 1, 1) := by decide +kernel
theorem dX11_image_5 : decode cX11_image 5 = .ok (.aload_n 0, 1) := by decide +kernel
theorem dX11_image_6 : decode cX11_image 6 = .ok (.getfield 58, 3) := by decide +kernel
theorem dX11_image_9 : decode cX11_image 9 = .ok (.arraylength, 1) := by decide +kernel
theorem dX11_image_10 : decode cX11_image 10 = .ok (.if_icmp .lt 6, 3) := by decide +kernel
theorem dX11_image_13 : decode cX11_image 13 = .ok (.bipush (-2), 2) := by decide +kernel
theorem dX11_image_15 : decode cX11_image 15 = .ok (.ireturn, 1) := by decide +kernel
theorem dX11_image_16 : decode cX11_image 16 = .ok (.aload_n 0, 1) := by decide +kernel
theorem dX11_image_17 : decode cX11_image 17 = .ok (.getfield 58, 3) := by decide +kernel
theorem dX11_image_20 : decode cX11_image 20 = .ok (.iload_n 1, 1) := by decide +kernel
theorem dX11_image_21 : decode cX11_image 21 = .ok (.aaload, 1) := by decide +kernel
theorem dX11_image_22 : decode cX11_image 22 = .ok (.iconst 1, 1) := by decide +kernel
theorem dX11_image_23 : decode cX11_image 23 = .ok (.putfield 393, 3) := by decide +kernel
theorem dX11_image_26 : decode cX11_image 26 = .ok (.aload_n 0, 1) := by decide +kernel
theorem dX11_image_27 : decode cX11_image 27 = .ok (.getfield 58, 3) := by decide +kernel
theorem dX11_image_30 : decode cX11_image 30 = .ok (.iload_n 1, 1) := by decide +kernel
theorem dX11_image_31 : decode cX11_image 31 = .ok (.aaload, 1) := by decide +kernel
theorem dX11_image_32 : decode cX11_image 32 = .ok (.getfield 397, 3) := by decide +kernel
theorem dX11_image_35 : decode cX11_image 35 = .ok (.aload_n 0, 1) := by decide +kernel
theorem dX11_image_36 : decode cX11_image 36 = .ok (.getfield 26, 3) := by decide +kernel
theorem dX11_image_39 : decode cX11_image 39 = .ok (.invokevirtual 398, 3) := by decide +kernel
theorem dX11_image_42 : decode cX11_image 42 = .ok (.aload_n 0, 1) := by decide +kernel
theorem dX11_image_43 : decode cX11_image 43 = .ok (.getfield 58, 3) := by decide +kernel
theorem dX11_image_46 : decode cX11_image 46 = .ok (.iload_n 1, 1) := by decide +kernel
theorem dX11_image_47 : decode cX11_image 47 = .ok (.aaload, 1) := by decide +kernel
theorem dX11_image_48 : decode cX11_image 48 = .ok (.getfield 400, 3) := by decide +kernel
theorem dX11_image_51 : decode cX11_image 51 = .ok (.aload_n 0, 1) := by decide +kernel
theorem dX11_image_52 : decode cX11_image 52 = .ok (.getfield 36, 3) := by decide +kernel
theorem dX11_image_55 : decode cX11_image 55 = .ok (.invokevirtual 124, 3) := by decide +kernel
theorem dX11_image_58 : decode cX11_image 58 = .ok (.iconst 0, 1) := by decide +kernel
theorem dX11_image_59 : decode cX11_image 59 = .ok (.ireturn, 1) := by decide +kernel
theorem dX11_restore_0 : decode cX11_restore 0 = .ok (.iload_n 1, 1) := by decide +kernel
theorem dX11_restore_1 : decode cX11_restore 1 = .ok (.ifCond .lt 12, 3) := by decide +kernel
theorem dX11_restore_4 : decode cX11_restore 4 = .ok (.iload_n 1, 1) := by decide +kernel
theorem dX11_restore_5 : decode cX11_restore 5 = .ok (.aload_n 0, 1) := by decide +kernel
theorem dX11_restore_6 : decode cX11_restore 6 = .ok (.getfield 58, 3) := by decide +kernel
theorem dX11_restore_9 : decode cX11_restore 9 = .ok (.arraylength, 1) := by decide +kernel
theorem dX11_restore_10 : decode cX11_restore 10 = .ok (.if_icmp .lt 6, 3) := by decide +kernel
theorem dX11_restore_13 : decode cX11_restore 13 = .ok (.bipush (-2), 2) := by decide +kernel
theorem dX11_restore_15 : decode cX11_restore 15 = .ok (.ireturn, 1) := by decide +kernel
theorem dX11_restore_16 : decode cX11_restore 16 = .ok (.aload_n 0, 1) := by decide +kernel
theorem dX11_restore_17 : decode cX11_restore 17 = .ok (.getfield 58, 3) := by decide +kernel
theorem dX11_restore_20 : decode cX11_restore 20 = .ok (.iload_n 1, 1) := by decide +kernel
theorem dX11_restore_21 : decode cX11_restore 21 = .ok (.aaload, 1) := by decide +kernel
theorem dX11_restore_22 : decode cX11_restore 22 = .ok (.getfield 393, 3) := by decide +kernel
theorem dX11_restore_25 : decode cX11_restore 25 = .ok (.ifCond .ne 6, 3) := by decide +kernel
theorem dX11_restore_28 : decode cX11_restore 28 = .ok (.bipush (-5), 2) := by decide +kernel
theorem dX11_restore_30 : decode cX11_restore 30 = .ok (.ireturn, 1) := by decide +kernel
theorem dX11_restore_31 : decode cX11_restore 31 = .ok (.aload_n 0, 1) := by decide +kernel
theorem dX11_restore_32 : decode cX11_restore 32 = .ok (.getfield 26, 3) := by decide +kernel
theorem dX11_restore_35 : decode cX11_restore 35 = .ok (.aload_n 0, 1) := by decide +kernel
theorem dX11_restore_36 : decode cX11_restore 36 = .ok (.getfield 58, 3) := by decide +kernel
theorem dX11_restore_39 : decode cX11_restore 39 = .ok (.iload_n 1, 1) := by decide +kernel
theorem dX11_restore_40 : decode cX11_restore 40 = .ok (.aaload, 1) := by decide +kernel
theorem dX11_restore_41 : decode cX11_restore 41 = .ok (.getfield 397, 3) := by decide +kernel
theorem dX11_restore_44 : decode cX11_restore 44 = .ok (.invokevirtual 398, 3) := by decide +kernel
theorem dX11_restore_47 : decode cX11_restore 47 = .ok (.aload_n 0, 1) := by decide +kernel
theorem dX11_restore_48 : decode cX11_restore 48 = .ok (.getfield 36, 3) := by decide +kernel
theorem dX11_restore_51 : decode cX11_restore 51 = .ok (.aload_n 0, 1) := by decide +kernel
theorem dX11_restore_52 : decode cX11_restore 52 = .ok (.getfield 58, 3) := by decide +kernel
theorem dX11_restore_55 : decode cX11_restore 55 = .ok (.iload_n 1, 1) := by decide +kernel
theorem dX11_restore_56 : decode cX11_restore 56 = .ok (.aaload, 1) := by decide +kernel
theorem dX11_restore_57 : decode cX11_restore 57 = .ok (.getfield 400, 3) := by decide +kernel
theorem dX11_restore_60 : decode cX11_restore 60 = .ok (.invokevirtual 124, 3) := by decide +kernel
theorem dX11_restore_63 : decode cX11_restore 63 = .ok (.aload_n 0, 1) := by decide +kernel
theorem dX11_restore_64 : decode cX11_restore 64 = .ok (.invokevirtual 128, 3) := by decide +kernel
theorem dX11_restore_67 : decode cX11_restore 67 = .ok (.iconst 0, 1) := by decide +kernel
theorem dX11_restore_68 : decode cX11_restore 68 = .ok (.ireturn, 1) := by decide +kernel
theorem dX11_count_0 : decode cX11_count 0 = .ok (.iload_n 1, 1) := by decide +kernel
theorem dX11_count_1 : decode cX11_count 1 = .ok (.tableswitch 164 0 11 #[63, 71, 79, 87, 95, 111, 119, 127, 135, 143, 151, 156], 63) := by decide +kernel
theorem dX11_count_64 : decode cX11_count 64 = .ok (.aload_n 0, 1) := by decide +kernel
theorem dX11_count_65 : decode cX11_count 65 = .ok (.getfield 36, 3) := by decide +kernel
theorem dX11_count_68 : decode cX11_count 68 = .ok (.getfield 160, 3) := by decide +kernel
theorem dX11_count_71 : decode cX11_count 71 = .ok (.ireturn, 1) := by decide +kernel
theorem dX11_count_72 : decode cX11_count 72 = .ok (.aload_n 0, 1) := by decide +kernel
theorem dX11_count_73 : decode cX11_count 73 = .ok (.getfield 26, 3) := by decide +kernel
theorem dX11_count_76 : decode cX11_count 76 = .ok (.getfield 163, 3) := by decide +kernel
theorem dX11_count_79 : decode cX11_count 79 = .ok (.ireturn, 1) := by decide +kernel
theorem dX11_count_80 : decode cX11_count 80 = .ok (.aload_n 0, 1) := by decide +kernel
theorem dX11_count_81 : decode cX11_count 81 = .ok (.getfield 36, 3) := by decide +kernel
theorem dX11_count_84 : decode cX11_count 84 = .ok (.getfield 150, 3) := by decide +kernel
theorem dX11_count_87 : decode cX11_count 87 = .ok (.ireturn, 1) := by decide +kernel
theorem dX11_count_88 : decode cX11_count 88 = .ok (.aload_n 0, 1) := by decide +kernel
theorem dX11_count_89 : decode cX11_count 89 = .ok (.getfield 36, 3) := by decide +kernel
theorem dX11_count_92 : decode cX11_count 92 = .ok (.getfield 153, 3) := by decide +kernel
theorem dX11_count_95 : decode cX11_count 95 = .ok (.ireturn, 1) := by decide +kernel
theorem dX11_count_96 : decode cX11_count 96 = .ok (.aload_n 0, 1) := by decide +kernel
theorem dX11_count_97 : decode cX11_count 97 = .ok (.getfield 36, 3) := by decide +kernel
theorem dX11_count_100 : decode cX11_count 100 = .ok (.invokevirtual 320, 3) := by decide +kernel
theorem dX11_count_103 : decode cX11_count 103 = .ok (.ifCond .eq 7, 3) := by decide +kernel
theorem dX11_count_106 : decode cX11_count 106 = .ok (.iconst 1, 1) := by decide +kernel
theorem dX11_count_107 : decode cX11_count 107 = .ok (.goto 4, 3) := by decide +kernel
theorem dX11_count_110 : decode cX11_count 110 = .ok (.iconst 0, 1) := by decide +kernel
theorem dX11_count_111 : decode cX11_count 111 = .ok (.ireturn, 1) := by decide +kernel
theorem dX11_count_112 : decode cX11_count 112 = .ok (.aload_n 0, 1) := by decide +kernel
theorem dX11_count_113 : decode cX11_count 113 = .ok (.getfield 36, 3) := by decide +kernel
theorem dX11_count_116 : decode cX11_count 116 = .ok (.getfield 252, 3) := by decide +kernel
theorem dX11_count_119 : decode cX11_count 119 = .ok (.ireturn, 1) := by decide +kernel
theorem dX11_count_120 : decode cX11_count 120 = .ok (.aload_n 0, 1) := by decide +kernel
theorem dX11_count_121 : decode cX11_count 121 = .ok (.getfield 36, 3) := by decide +kernel
theorem dX11_count_124 : decode cX11_count 124 = .ok (.getfield 401, 3) := by decide +kernel
theorem dX11_count_127 : decode cX11_count 127 = .ok (.ireturn, 1) := by decide +kernel
theorem dX11_count_128 : decode cX11_count 128 = .ok (.aload_n 0, 1) := by decide +kernel
theorem dX11_count_129 : decode cX11_count 129 = .ok (.getfield 36, 3) := by decide +kernel
theorem dX11_count_132 : decode cX11_count 132 = .ok (.getfield 121, 3) := by decide +kernel
theorem dX11_count_135 : decode cX11_count 135 = .ok (.ireturn, 1) := by decide +kernel
theorem dX11_count_136 : decode cX11_count 136 = .ok (.aload_n 0, 1) := by decide +kernel
theorem dX11_count_137 : decode cX11_count 137 = .ok (.getfield 26, 3) := by decide +kernel
theorem dX11_count_140 : decode cX11_count 140 = .ok (.invokevirtual 404, 3) := by decide +kernel
theorem dX11_count_143 : decode cX11_count 143 = .ok (.ireturn, 1) := by decide +kernel
theorem dX11_count_144 : decode cX11_count 144 = .ok (.aload_n 0, 1) := by decide +kernel
theorem dX11_count_145 : decode cX11_count 145 = .ok (.getfield 46, 3) := by decide +kernel
theorem dX11_count_148 : decode cX11_count 148 = .ok (.getfield 225, 3) := by decide +kernel
theorem dX11_count_151 : decode cX11_count 151 = .ok (.ireturn, 1) := by decide +kernel
theorem dX11_count_152 : decode cX11_count 152 = .ok (.aload_n 0, 1) := by decide +kernel
theorem dX11_count_153 : decode cX11_count 153 = .ok (.getfield 13, 3) := by decide +kernel
theorem dX11_count_156 : decode cX11_count 156 = .ok (.ireturn, 1) := by decide +kernel
theorem dX11_count_157 : decode cX11_count 157 = .ok (.aload_n 0, 1) := by decide +kernel
theorem dX11_count_158 : decode cX11_count 158 = .ok (.getfield 26, 3) := by decide +kernel
theorem dX11_count_161 : decode cX11_count 161 = .ok (.getfield 131, 3) := by decide +kernel
theorem dX11_count_164 : decode cX11_count 164 = .ok (.ireturn, 1) := by decide +kernel
theorem dX11_count_165 : decode cX11_count 165 = .ok (.iconst (-1), 1) := by decide +kernel
theorem dX11_count_166 : decode cX11_count 166 = .ok (.ireturn, 1) := by decide +kernel
theorem dX12_within_0 : decode cX12_within 0 = .ok (.lload_n 0, 1) := by decide +kernel
theorem dX12_within_1 : decode cX12_within 1 = .ok (.lload_n 2, 1) := by decide +kernel
theorem dX12_within_2 : decode cX12_within 2 = .ok (.lcmp, 1) := by decide +kernel
theorem dX12_within_3 : decode cX12_within 3 = .ok (.ifCond .lt 14, 3) := by decide +kernel
theorem dX12_within_6 : decode cX12_within 6 = .ok (.lload_n 0, 1) := by decide +kernel
theorem dX12_within_7 : decode cX12_within 7 = .ok (.lload 4, 2) := by decide +kernel
theorem dX12_within_9 : decode cX12_within 9 = .ok (.lcmp, 1) := by decide +kernel
theorem dX12_within_10 : decode cX12_within 10 = .ok (.ifCond .gt 7, 3) := by decide +kernel
theorem dX12_within_13 : decode cX12_within 13 = .ok (.iconst 1, 1) := by decide +kernel
theorem dX12_within_14 : decode cX12_within 14 = .ok (.goto 4, 3) := by decide +kernel
theorem dX12_within_17 : decode cX12_within 17 = .ok (.iconst 0, 1) := by decide +kernel
theorem dX12_within_18 : decode cX12_within 18 = .ok (.ireturn, 1) := by decide +kernel
theorem dX12_plain_0 : decode cX12_plain 0 = .ok (.iconst 0, 1) := by decide +kernel
theorem dX12_plain_1 : decode cX12_plain 1 = .ok (.istore_n 1, 1) := by decide +kernel
theorem dX12_plain_2 : decode cX12_plain 2 = .ok (.iload_n 1, 1) := by decide +kernel
theorem dX12_plain_3 : decode cX12_plain 3 = .ok (.sipush 1181, 3) := by decide +kernel
theorem dX12_plain_6 : decode cX12_plain 6 = .ok (.if_icmp .ge 13, 3) := by decide +kernel
theorem dX12_plain_9 : decode cX12_plain 9 = .ok (.aload_n 0, 1) := by decide +kernel
theorem dX12_plain_10 : decode cX12_plain 10 = .ok (.iload_n 1, 1) := by decide +kernel
theorem dX12_plain_11 : decode cX12_plain 11 = .ok (.iconst 0, 1) := by decide +kernel
theorem dX12_plain_12 : decode cX12_plain 12 = .ok (.iastore, 1) := by decide +kernel
theorem dX12_plain_13 : decode cX12_plain 13 = .ok (.iinc 1 1, 3) := by decide +kernel
theorem dX12_plain_16 : decode cX12_plain 16 = .ok (.goto (-14), 3) := by decide +kernel
theorem dX12_plain_19 : decode cX12_plain 19 = .ok (.return_, 1) := by decide +kernel
theorem dX12_feed_0 : decode cX12_feed 0 = .ok (.aload_n 0, 1) := by decide +kernel
theorem dX12_feed_1 : decode cX12_feed 1 = .ok (.iconst 0, 1) := by decide +kernel
theorem dX12_feed_2 : decode cX12_feed 2 = .ok (.putfield 1, 3) := by decide +kernel
theorem dX12_feed_5 : decode cX12_feed 5 = .ok (.aload_n 0, 1) := by decide +kernel
theorem dX12_feed_6 : decode cX12_feed 6 = .ok (.getfield 80, 3) := by decide +kernel
theorem dX12_feed_9 : decode cX12_feed 9 = .ok (.bipush 20, 2) := by decide +kernel
theorem dX12_feed_11 : decode cX12_feed 11 = .ok (.iadd, 1) := by decide +kernel
theorem dX12_feed_12 : decode cX12_feed 12 = .ok (.sipush 900, 3) := by decide +kernel
theorem dX12_feed_15 : decode cX12_feed 15 = .ok (.if_icmp .le 6, 3) := by decide +kernel
theorem dX12_feed_18 : decode cX12_feed 18 = .ok (.bipush (-5), 2) := by decide +kernel
theorem dX12_feed_20 : decode cX12_feed 20 = .ok (.ireturn, 1) := by decide +kernel
theorem dX12_feed_21 : decode cX12_feed 21 = .ok (.iconst 0, 1) := by decide +kernel
theorem dX12_feed_22 : decode cX12_feed 22 = .ok (.istore 6, 2) := by decide +kernel
theorem dX12_feed_24 : decode cX12_feed 24 = .ok (.iload 6, 2) := by decide +kernel
theorem dX12_feed_26 : decode cX12_feed 26 = .ok (.bipush 20, 2) := by decide +kernel
theorem dX12_feed_28 : decode cX12_feed 28 = .ok (.if_icmp .ge 93, 3) := by decide +kernel
theorem dX12_feed_31 : decode cX12_feed 31 = .ok (.iload 6, 2) := by decide +kernel
theorem dX12_feed_33 : decode cX12_feed 33 = .ok (.iconst 4, 1) := by decide +kernel
theorem dX12_feed_34 : decode cX12_feed 34 = .ok (.if_icmp .ge 7, 3) := by decide +kernel
theorem dX12_feed_37 : decode cX12_feed 37 = .ok (.iload_n 1, 1) := by decide +kernel
theorem dX12_feed_38 : decode cX12_feed 38 = .ok (.goto 39, 3) := by decide +kernel
theorem dX12_feed_41 : decode cX12_feed 41 = .ok (.iload 6, 2) := by decide +kernel
theorem dX12_feed_43 : decode cX12_feed 43 = .ok (.bipush 8, 2) := by decide +kernel
theorem dX12_feed_45 : decode cX12_feed 45 = .ok (.if_icmp .ge 7, 3) := by decide +kernel
theorem dX12_feed_48 : decode cX12_feed 48 = .ok (.iload_n 2, 1) := by decide +kernel
theorem dX12_feed_49 : decode cX12_feed 49 = .ok (.goto 28, 3) := by decide +kernel
theorem dX12_feed_52 : decode cX12_feed 52 = .ok (.iload 6, 2) := by decide +kernel
theorem dX12_feed_54 : decode cX12_feed 54 = .ok (.bipush 12, 2) := by decide +kernel
theorem dX12_feed_56 : decode cX12_feed 56 = .ok (.if_icmp .ge 7, 3) := by decide +kernel
theorem dX12_feed_59 : decode cX12_feed 59 = .ok (.iload_n 3, 1) := by decide +kernel
theorem dX12_feed_60 : decode cX12_feed 60 = .ok (.goto 17, 3) := by decide +kernel
theorem dX12_feed_63 : decode cX12_feed 63 = .ok (.iload 6, 2) := by decide +kernel
theorem dX12_feed_65 : decode cX12_feed 65 = .ok (.bipush 16, 2) := by decide +kernel
theorem dX12_feed_67 : decode cX12_feed 67 = .ok (.if_icmp .ge 8, 3) := by decide +kernel
theorem dX12_feed_70 : decode cX12_feed 70 = .ok (.iload 4, 2) := by decide +kernel
theorem dX12_feed_72 : decode cX12_feed 72 = .ok (.goto 5, 3) := by decide +kernel
theorem dX12_feed_75 : decode cX12_feed 75 = .ok (.iload 5, 2) := by decide +kernel
theorem dX12_feed_77 : decode cX12_feed 77 = .ok (.istore 7, 2) := by decide +kernel
theorem dX12_feed_79 : decode cX12_feed 79 = .ok (.aload_n 0, 1) := by decide +kernel
theorem dX12_feed_80 : decode cX12_feed 80 = .ok (.getfield 21, 3) := by decide +kernel
theorem dX12_feed_83 : decode cX12_feed 83 = .ok (.aload_n 0, 1) := by decide +kernel
theorem dX12_feed_84 : decode cX12_feed 84 = .ok (.getfield 80, 3) := by decide +kernel
theorem dX12_feed_87 : decode cX12_feed 87 = .ok (.iload 7, 2) := by decide +kernel
theorem dX12_feed_89 : decode cX12_feed 89 = .ok (.bipush 24, 2) := by decide +kernel
theorem dX12_feed_91 : decode cX12_feed 91 = .ok (.bipush 8, 2) := by decide +kernel
theorem dX12_feed_93 : decode cX12_feed 93 = .ok (.iload 6, 2) := by decide +kernel
theorem dX12_feed_95 : decode cX12_feed 95 = .ok (.iconst 4, 1) := by decide +kernel
theorem dX12_feed_96 : decode cX12_feed 96 = .ok (.irem, 1) := by decide +kernel
theorem dX12_feed_97 : decode cX12_feed 97 = .ok (.imul, 1) := by decide +kernel
theorem dX12_feed_98 : decode cX12_feed 98 = .ok (.isub, 1) := by decide +kernel
theorem dX12_feed_99 : decode cX12_feed 99 = .ok (.ishr, 1) := by decide +kernel
theorem dX12_feed_100 : decode cX12_feed 100 = .ok (.sipush 255, 3) := by decide +kernel
theorem dX12_feed_103 : decode cX12_feed 103 = .ok (.iand, 1) := by decide +kernel
theorem dX12_feed_104 : decode cX12_feed 104 = .ok (.iastore, 1) := by decide +kernel
theorem dX12_feed_105 : decode cX12_feed 105 = .ok (.aload_n 0, 1) := by decide +kernel
theorem dX12_feed_106 : decode cX12_feed 106 = .ok (.dup, 1) := by decide +kernel
theorem dX12_feed_107 : decode cX12_feed 107 = .ok (.getfield 80, 3) := by decide +kernel
theorem dX12_feed_110 : decode cX12_feed 110 = .ok (.iconst 1, 1) := by decide +kernel
theorem dX12_feed_111 : decode cX12_feed 111 = .ok (.iadd, 1) := by decide +kernel
theorem dX12_feed_112 : decode cX12_feed 112 = .ok (.putfield 80, 3) := by decide +kernel
theorem dX12_feed_115 : decode cX12_feed 115 = .ok (.iinc 6 1, 3) := by decide +kernel
theorem dX12_feed_118 : decode cX12_feed 118 = .ok (.goto (-94), 3) := by decide +kernel
theorem dX12_feed_121 : decode cX12_feed 121 = .ok (.aload_n 0, 1) := by decide +kernel
theorem dX12_feed_122 : decode cX12_feed 122 = .ok (.getfield 80, 3) := by decide +kernel
theorem dX12_feed_125 : decode cX12_feed 125 = .ok (.ireturn, 1) := by decide +kernel
theorem dX12_see_0 : decode cX12_see 0 = .ok (.iload_n 1, 1) := by decide +kernel
theorem dX12_see_1 : decode cX12_see 1 = .ok (.aload_n 0, 1) := by decide +kernel
theorem dX12_see_2 : decode cX12_see 2 = .ok (.getfield 83, 3) := by decide +kernel
theorem dX12_see_5 : decode cX12_see 5 = .ok (.if_icmp .ge 12, 3) := by decide +kernel
theorem dX12_see_8 : decode cX12_see 8 = .ok (.aload_n 0, 1) := by decide +kernel
theorem dX12_see_9 : decode cX12_see 9 = .ok (.getfield 21, 3) := by decide +kernel
theorem dX12_see_12 : decode cX12_see 12 = .ok (.iload_n 1, 1) := by decide +kernel
theorem dX12_see_13 : decode cX12_see 13 = .ok (.iaload, 1) := by decide +kernel
theorem dX12_see_14 : decode cX12_see 14 = .ok (.goto 4, 3) := by decide +kernel
theorem dX12_see_17 : decode cX12_see 17 = .ok (.iconst (-1), 1) := by decide +kernel
theorem dX12_see_18 : decode cX12_see 18 = .ok (.ireturn, 1) := by decide +kernel
theorem dX12_next_0 : decode cX12_next 0 = .ok (.aload_n 0, 1) := by decide +kernel
theorem dX12_next_1 : decode cX12_next 1 = .ok (.aload_n 0, 1) := by decide +kernel
theorem dX12_next_2 : decode cX12_next 2 = .ok (.getfield 101, 3) := by decide +kernel
theorem dX12_next_5 : decode cX12_next 5 = .ok (.putfield 98, 3) := by decide +kernel
theorem dX12_next_8 : decode cX12_next 8 = .ok (.aload_n 0, 1) := by decide +kernel
theorem dX12_next_9 : decode cX12_next 9 = .ok (.aload_n 0, 1) := by decide +kernel
theorem dX12_next_10 : decode cX12_next 10 = .ok (.getfield 98, 3) := by decide +kernel
theorem dX12_next_13 : decode cX12_next 13 = .ok (.invokevirtual 104, 3) := by decide +kernel
theorem dX12_next_16 : decode cX12_next 16 = .ok (.bipush 10, 2) := by decide +kernel
theorem dX12_next_18 : decode cX12_next 18 = .ok (.if_icmp .eq 16, 3) := by decide +kernel
theorem dX12_next_21 : decode cX12_next 21 = .ok (.aload_n 0, 1) := by decide +kernel
theorem dX12_next_22 : decode cX12_next 22 = .ok (.aload_n 0, 1) := by decide +kernel
theorem dX12_next_23 : decode cX12_next 23 = .ok (.getfield 98, 3) := by decide +kernel
theorem dX12_next_26 : decode cX12_next 26 = .ok (.invokevirtual 104, 3) := by decide +kernel
theorem dX12_next_29 : decode cX12_next 29 = .ok (.bipush 32, 2) := by decide +kernel
theorem dX12_next_31 : decode cX12_next 31 = .ok (.if_icmp .ne 16, 3) := by decide +kernel
theorem dX12_next_34 : decode cX12_next 34 = .ok (.aload_n 0, 1) := by decide +kernel
theorem dX12_next_35 : decode cX12_next 35 = .ok (.dup, 1) := by decide +kernel
theorem dX12_next_36 : decode cX12_next 36 = .ok (.getfield 98, 3) := by decide +kernel
theorem dX12_next_39 : decode cX12_next 39 = .ok (.iconst 1, 1) := by decide +kernel
theorem dX12_next_40 : decode cX12_next 40 = .ok (.iadd, 1) := by decide +kernel
theorem dX12_next_41 : decode cX12_next 41 = .ok (.putfield 98, 3) := by decide +kernel
theorem dX12_next_44 : decode cX12_next 44 = .ok (.goto (-36), 3) := by decide +kernel
theorem dX12_next_47 : decode cX12_next 47 = .ok (.aload_n 0, 1) := by decide +kernel
theorem dX12_next_48 : decode cX12_next 48 = .ok (.aload_n 0, 1) := by decide +kernel
theorem dX12_next_49 : decode cX12_next 49 = .ok (.getfield 98, 3) := by decide +kernel
theorem dX12_next_52 : decode cX12_next 52 = .ok (.putfield 101, 3) := by decide +kernel
theorem dX12_next_55 : decode cX12_next 55 = .ok (.aload_n 0, 1) := by decide +kernel
theorem dX12_next_56 : decode cX12_next 56 = .ok (.getfield 98, 3) := by decide +kernel
theorem dX12_next_59 : decode cX12_next 59 = .ok (.aload_n 0, 1) := by decide +kernel
theorem dX12_next_60 : decode cX12_next 60 = .ok (.getfield 83, 3) := by decide +kernel
theorem dX12_next_63 : decode cX12_next 63 = .ok (.if_icmp .lt 12, 3) := by decide +kernel
theorem dX12_next_66 : decode cX12_next 66 = .ok (.aload_n 0, 1) := by decide +kernel
theorem dX12_next_67 : decode cX12_next 67 = .ok (.bipush 24, 2) := by decide +kernel
theorem dX12_next_69 : decode cX12_next 69 = .ok (.putfield 108, 3) := by decide +kernel
theorem dX12_next_72 : decode cX12_next 72 = .ok (.goto 222, 3) := by decide +kernel
theorem dX12_next_75 : decode cX12_next 75 = .ok (.aload_n 0, 1) := by decide +kernel
theorem dX12_next_76 : decode cX12_next 76 = .ok (.aload_n 0, 1) := by decide +kernel
theorem dX12_next_77 : decode cX12_next 77 = .ok (.getfield 98, 3) := by decide +kernel
theorem dX12_next_80 : decode cX12_next 80 = .ok (.invokevirtual 104, 3) := by decide +kernel
theorem dX12_next_83 : decode cX12_next 83 = .ok (.invokestatic 111, 3) := by decide +kernel
theorem dX12_next_86 : decode cX12_next 86 = .ok (.ifCond .eq 41, 3) := by decide +kernel
theorem dX12_next_89 : decode cX12_next 89 = .ok (.aload_n 0, 1) := by decide +kernel
theorem dX12_next_90 : decode cX12_next 90 = .ok (.aload_n 0, 1) := by decide +kernel
theorem dX12_next_91 : decode cX12_next 91 = .ok (.getfield 101, 3) := by decide +kernel
theorem dX12_next_94 : decode cX12_next 94 = .ok (.invokevirtual 104, 3) := by decide +kernel
theorem dX12_next_97 : decode cX12_next 97 = .ok (.invokestatic 111, 3) := by decide +kernel
theorem dX12_next_100 : decode cX12_next 100 = .ok (.ifCond .eq 16, 3) := by decide +kernel
theorem dX12_next_103 : decode cX12_next 103 = .ok (.aload_n 0, 1) := by decide +kernel
theorem dX12_next_104 : decode cX12_next 104 = .ok (.dup, 1) := by decide +kernel
theorem dX12_next_105 : decode cX12_next 105 = .ok (.getfield 101, 3) := by decide +kernel
theorem dX12_next_108 : decode cX12_next 108 = .ok (.iconst 1, 1) := by decide +kernel
theorem dX12_next_109 : decode cX12_next 109 = .ok (.iadd, 1) := by decide +kernel
theorem dX12_next_110 : decode cX12_next 110 = .ok (.putfield 101, 3) := by decide +kernel
theorem dX12_next_113 : decode cX12_next 113 = .ok (.goto (-24), 3) := by decide +kernel
theorem dX12_next_116 : decode cX12_next 116 = .ok (.aload_n 0, 1) := by decide +kernel
theorem dX12_next_117 : decode cX12_next 117 = .ok (.aload_n 0, 1) := by decide +kernel
theorem dX12_next_118 : decode cX12_next 118 = .ok (.invokevirtual 115, 3) := by decide +kernel
theorem dX12_next_121 : decode cX12_next 121 = .ok (.putfield 108, 3) := by decide +kernel
theorem dX12_next_124 : decode cX12_next 124 = .ok (.goto 170, 3) := by decide +kernel
theorem dX12_next_127 : decode cX12_next 127 = .ok (.aload_n 0, 1) := by decide +kernel
theorem dX12_next_128 : decode cX12_next 128 = .ok (.aload_n 0, 1) := by decide +kernel
theorem dX12_next_129 : decode cX12_next 129 = .ok (.getfield 98, 3) := by decide +kernel
theorem dX12_next_132 : decode cX12_next 132 = .ok (.invokevirtual 104, 3) := by decide +kernel
theorem dX12_next_135 : decode cX12_next 135 = .ok (.invokestatic 118, 3) := by decide +kernel
theorem dX12_next_138 : decode cX12_next 138 = .ok (.ifCond .eq 98, 3) := by decide +kernel
theorem dX12_next_141 : decode cX12_next 141 = .ok (.aload_n 0, 1) := by decide +kernel
theorem dX12_next_142 : decode cX12_next 142 = .ok (.iconst 0, 1) := by decide +kernel
theorem dX12_next_143 : decode cX12_next 143 = .ok (.putfield 121, 3) := by decide +kernel
theorem dX12_next_146 : decode cX12_next 146 = .ok (.aload_n 0, 1) := by decide +kernel
theorem dX12_next_147 : decode cX12_next 147 = .ok (.aload_n 0, 1) := by decide +kernel
theorem dX12_next_148 : decode cX12_next 148 = .ok (.getfield 101, 3) := by decide +kernel
theorem dX12_next_151 : decode cX12_next 151 = .ok (.invokevirtual 104, 3) := by decide +kernel
theorem dX12_next_154 : decode cX12_next 154 = .ok (.invokestatic 118, 3) := by decide +kernel
theorem dX12_next_157 : decode cX12_next 157 = .ok (.ifCond .eq 52, 3) := by decide +kernel
theorem dX12_next_160 : decode cX12_next 160 = .ok (.aload_n 0, 1) := by decide +kernel
theorem dX12_next_161 : decode cX12_next 161 = .ok (.getfield 101, 3) := by decide +kernel
theorem dX12_next_164 : decode cX12_next 164 = .ok (.aload_n 0, 1) := by decide +kernel
theorem dX12_next_165 : decode cX12_next 165 = .ok (.getfield 98, 3) := by decide +kernel
theorem dX12_next_168 : decode cX12_next 168 = .ok (.isub, 1) := by decide +kernel
theorem dX12_next_169 : decode cX12_next 169 = .ok (.iconst 3, 1) := by decide +kernel
theorem dX12_next_170 : decode cX12_next 170 = .ok (.if_icmp .ge 26, 3) := by decide +kernel
theorem dX12_next_173 : decode cX12_next 173 = .ok (.aload_n 0, 1) := by decide +kernel
theorem dX12_next_174 : decode cX12_next 174 = .ok (.bipush 10, 2) := by decide +kernel
theorem dX12_next_176 : decode cX12_next 176 = .ok (.aload_n 0, 1) := by decide +kernel
theorem dX12_next_177 : decode cX12_next 177 = .ok (.getfield 121, 3) := by decide +kernel
theorem dX12_next_180 : decode cX12_next 180 = .ok (.imul, 1) := by decide +kernel
theorem dX12_next_181 : decode cX12_next 181 = .ok (.aload_n 0, 1) := by decide +kernel
theorem dX12_next_182 : decode cX12_next 182 = .ok (.aload_n 0, 1) := by decide +kernel
theorem dX12_next_183 : decode cX12_next 183 = .ok (.getfield 101, 3) := by decide +kernel
theorem dX12_next_186 : decode cX12_next 186 = .ok (.invokevirtual 104, 3) := by decide +kernel
theorem dX12_next_189 : decode cX12_next 189 = .ok (.iadd, 1) := by decide +kernel
theorem dX12_next_190 : decode cX12_next 190 = .ok (.bipush 48, 2) := by decide +kernel
theorem dX12_next_192 : decode cX12_next 192 = .ok (.isub, 1) := by decide +kernel
theorem dX12_next_193 : decode cX12_next 193 = .ok (.putfield 121, 3) := by decide +kernel
theorem dX12_next_196 : decode cX12_next 196 = .ok (.aload_n 0, 1) := by decide +kernel
theorem dX12_next_197 : decode cX12_next 197 = .ok (.dup, 1) := by decide +kernel
theorem dX12_next_198 : decode cX12_next 198 = .ok (.getfield 101, 3) := by decide +kernel
theorem dX12_next_201 : decode cX12_next 201 = .ok (.iconst 1, 1) := by decide +kernel
theorem dX12_next_202 : decode cX12_next 202 = .ok (.iadd, 1) := by decide +kernel
theorem dX12_next_203 : decode cX12_next 203 = .ok (.putfield 101, 3) := by decide +kernel
theorem dX12_next_206 : decode cX12_next 206 = .ok (.goto (-60), 3) := by decide +kernel
theorem dX12_next_209 : decode cX12_next 209 = .ok (.aload_n 0, 1) := by decide +kernel
theorem dX12_next_210 : decode cX12_next 210 = .ok (.aload_n 0, 1) := by decide +kernel
theorem dX12_next_211 : decode cX12_next 211 = .ok (.getfield 101, 3) := by decide +kernel
theorem dX12_next_214 : decode cX12_next 214 = .ok (.aload_n 0, 1) := by decide +kernel
theorem dX12_next_215 : decode cX12_next 215 = .ok (.getfield 98, 3) := by decide +kernel
theorem dX12_next_218 : decode cX12_next 218 = .ok (.isub, 1) := by decide +kernel
theorem dX12_next_219 : decode cX12_next 219 = .ok (.iconst 3, 1) := by decide +kernel
theorem dX12_next_220 : decode cX12_next 220 = .ok (.if_icmp .le 8, 3) := by decide +kernel
theorem dX12_next_223 : decode cX12_next 223 = .ok (.bipush 25, 2) := by decide +kernel
theorem dX12_next_225 : decode cX12_next 225 = .ok (.goto 5, 3) := by decide +kernel
theorem dX12_next_228 : decode cX12_next 228 = .ok (.bipush 23, 2) := by decide +kernel
theorem dX12_next_230 : decode cX12_next 230 = .ok (.putfield 108, 3) := by decide +kernel
theorem dX12_next_233 : decode cX12_next 233 = .ok (.goto 61, 3) := by decide +kernel
theorem dX12_next_236 : decode cX12_next 236 = .ok (.aload_n 0, 1) := by decide +kernel
theorem dX12_next_237 : decode cX12_next 237 = .ok (.dup, 1) := by decide +kernel
theorem dX12_next_238 : decode cX12_next 238 = .ok (.getfield 101, 3) := by decide +kernel
theorem dX12_next_241 : decode cX12_next 241 = .ok (.iconst 1, 1) := by decide +kernel
theorem dX12_next_242 : decode cX12_next 242 = .ok (.iadd, 1) := by decide +kernel
theorem dX12_next_243 : decode cX12_next 243 = .ok (.putfield 101, 3) := by decide +kernel
theorem dX12_next_246 : decode cX12_next 246 = .ok (.aload_n 0, 1) := by decide +kernel
theorem dX12_next_247 : decode cX12_next 247 = .ok (.bipush 25, 2) := by decide +kernel
theorem dX12_next_249 : decode cX12_next 249 = .ok (.putfield 108, 3) := by decide +kernel
theorem dX12_next_252 : decode cX12_next 252 = .ok (.iconst 0, 1) := by decide +kernel
theorem dX12_next_253 : decode cX12_next 253 = .ok (.istore_n 1, 1) := by decide +kernel
theorem dX12_next_254 : decode cX12_next 254 = .ok (.iload_n 1, 1) := by decide +kernel
theorem dX12_next_255 : decode cX12_next 255 = .ok (.ldc 124, 2) := by decide +kernel
theorem dX12_next_257 : decode cX12_next 257 = .ok (.invokevirtual 88, 3) := by decide +kernel
theorem dX12_next_260 : decode cX12_next 260 = .ok (.if_icmp .ge 34, 3) := by decide +kernel
theorem dX12_next_263 : decode cX12_next 263 = .ok (.aload_n 0, 1) := by decide +kernel
theorem dX12_next_264 : decode cX12_next 264 = .ok (.aload_n 0, 1) := by decide +kernel
theorem dX12_next_265 : decode cX12_next 265 = .ok (.getfield 98, 3) := by decide +kernel
theorem dX12_next_268 : decode cX12_next 268 = .ok (.invokevirtual 104, 3) := by decide +kernel
theorem dX12_next_271 : decode cX12_next 271 = .ok (.ldc 124, 2) := by decide +kernel
theorem dX12_next_273 : decode cX12_next 273 = .ok (.iload_n 1, 1) := by decide +kernel
theorem dX12_next_274 : decode cX12_next 274 = .ok (.invokevirtual 94, 3) := by decide +kernel
theorem dX12_next_277 : decode cX12_next 277 = .ok (.if_icmp .ne 11, 3) := by decide +kernel
theorem dX12_next_280 : decode cX12_next 280 = .ok (.aload_n 0, 1) := by decide +kernel
theorem dX12_next_281 : decode cX12_next 281 = .ok (.bipush 30, 2) := by decide +kernel
theorem dX12_next_283 : decode cX12_next 283 = .ok (.iload_n 1, 1) := by decide +kernel
theorem dX12_next_284 : decode cX12_next 284 = .ok (.iadd, 1) := by decide +kernel
theorem dX12_next_285 : decode cX12_next 285 = .ok (.putfield 108, 3) := by decide +kernel
theorem dX12_next_288 : decode cX12_next 288 = .ok (.iinc 1 1, 3) := by decide +kernel
theorem dX12_next_291 : decode cX12_next 291 = .ok (.goto (-37), 3) := by decide +kernel
theorem dX12_next_294 : decode cX12_next 294 = .ok (.return_, 1) := by decide +kernel
theorem dX12_fails_0 : decode cX12_fails 0 = .ok (.aload_n 0, 1) := by decide +kernel
theorem dX12_fails_1 : decode cX12_fails 1 = .ok (.getfield 126, 3) := by decide +kernel
theorem dX12_fails_4 : decode cX12_fails 4 = .ok (.ifCond .eq 4, 3) := by decide +kernel
theorem dX12_fails_7 : decode cX12_fails 7 = .ok (.return_, 1) := by decide +kernel
theorem dX12_fails_8 : decode cX12_fails 8 = .ok (.aload_n 0, 1) := by decide +kernel
theorem dX12_fails_9 : decode cX12_fails 9 = .ok (.aload_n 0, 1) := by decide +kernel
theorem dX12_fails_10 : decode cX12_fails 10 = .ok (.getfield 108, 3) := by decide +kernel
theorem dX12_fails_13 : decode cX12_fails 13 = .ok (.bipush 25, 2) := by decide +kernel
theorem dX12_fails_15 : decode cX12_fails 15 = .ok (.if_icmp .ne 7, 3) := by decide +kernel
theorem dX12_fails_18 : decode cX12_fails 18 = .ok (.iconst 1, 1) := by decide +kernel
theorem dX12_fails_19 : decode cX12_fails 19 = .ok (.goto 4, 3) := by decide +kernel
theorem dX12_fails_22 : decode cX12_fails 22 = .ok (.iload_n 1, 1) := by decide +kernel
theorem dX12_fails_23 : decode cX12_fails 23 = .ok (.putfield 126, 3) := by decide +kernel
theorem dX12_fails_26 : decode cX12_fails 26 = .ok (.aload_n 0, 1) := by decide +kernel
theorem dX12_fails_27 : decode cX12_fails 27 = .ok (.aload_n 0, 1) := by decide +kernel
theorem dX12_fails_28 : decode cX12_fails 28 = .ok (.getfield 98, 3) := by decide +kernel
theorem dX12_fails_31 : decode cX12_fails 31 = .ok (.putfield 129, 3) := by decide +kernel
theorem dX12_fails_34 : decode cX12_fails 34 = .ok (.return_, 1) := by decide +kernel
theorem dX12_is_0 : decode cX12_is 0 = .ok (.aload_n 0, 1) := by decide +kernel
theorem dX12_is_1 : decode cX12_is 1 = .ok (.getfield 126, 3) := by decide +kernel
theorem dX12_is_4 : decode cX12_is 4 = .ok (.ifCond .ne 15, 3) := by decide +kernel
theorem dX12_is_7 : decode cX12_is 7 = .ok (.aload_n 0, 1) := by decide +kernel
theorem dX12_is_8 : decode cX12_is 8 = .ok (.getfield 108, 3) := by decide +kernel
theorem dX12_is_11 : decode cX12_is 11 = .ok (.iload_n 1, 1) := by decide +kernel
theorem dX12_is_12 : decode cX12_is 12 = .ok (.if_icmp .ne 7, 3) := by decide +kernel
theorem dX12_is_15 : decode cX12_is 15 = .ok (.iconst 1, 1) := by decide +kernel
theorem dX12_is_16 : decode cX12_is 16 = .ok (.goto 4, 3) := by decide +kernel
theorem dX12_is_19 : decode cX12_is 19 = .ok (.iconst 0, 1) := by decide +kernel
theorem dX12_is_20 : decode cX12_is 20 = .ok (.ireturn, 1) := by decide +kernel
theorem dX12_eats_0 : decode cX12_eats 0 = .ok (.aload_n 0, 1) := by decide +kernel
theorem dX12_eats_1 : decode cX12_eats 1 = .ok (.iload_n 1, 1) := by decide +kernel
theorem dX12_eats_2 : decode cX12_eats 2 = .ok (.invokevirtual 132, 3) := by decide +kernel
theorem dX12_eats_5 : decode cX12_eats 5 = .ok (.ifCond .ne 5, 3) := by decide +kernel
theorem dX12_eats_8 : decode cX12_eats 8 = .ok (.iconst 0, 1) := by decide +kernel
theorem dX12_eats_9 : decode cX12_eats 9 = .ok (.ireturn, 1) := by decide +kernel
theorem dX12_eats_10 : decode cX12_eats 10 = .ok (.aload_n 0, 1) := by decide +kernel
theorem dX12_eats_11 : decode cX12_eats 11 = .ok (.invokevirtual 135, 3) := by decide +kernel
theorem dX12_eats_14 : decode cX12_eats 14 = .ok (.iconst 1, 1) := by decide +kernel
theorem dX12_eats_15 : decode cX12_eats 15 = .ok (.ireturn, 1) := by decide +kernel
theorem dX12_ends_0 : decode cX12_ends 0 = .ok (.aload_n 0, 1) := by decide +kernel
theorem dX12_ends_1 : decode cX12_ends 1 = .ok (.bipush 30, 2) := by decide +kernel
theorem dX12_ends_3 : decode cX12_ends 3 = .ok (.invokevirtual 158, 3) := by decide +kernel
theorem dX12_ends_6 : decode cX12_ends 6 = .ok (.ifCond .ne 8, 3) := by decide +kernel
theorem dX12_ends_9 : decode cX12_ends 9 = .ok (.aload_n 0, 1) := by decide +kernel
theorem dX12_ends_10 : decode cX12_ends 10 = .ok (.iconst 2, 1) := by decide +kernel
theorem dX12_ends_11 : decode cX12_ends 11 = .ok (.invokevirtual 138, 3) := by decide +kernel
theorem dX12_ends_14 : decode cX12_ends 14 = .ok (.aload_n 0, 1) := by decide +kernel
theorem dX12_ends_15 : decode cX12_ends 15 = .ok (.getfield 24, 3) := by decide +kernel
theorem dX12_ends_18 : decode cX12_ends 18 = .ok (.iconst 0, 1) := by decide +kernel
theorem dX12_ends_19 : decode cX12_ends 19 = .ok (.dup2, 1) := by decide +kernel
theorem dX12_ends_20 : decode cX12_ends 20 = .ok (.iaload, 1) := by decide +kernel
theorem dX12_ends_21 : decode cX12_ends 21 = .ok (.iconst 1, 1) := by decide +kernel
theorem dX12_ends_22 : decode cX12_ends 22 = .ok (.iadd, 1) := by decide +kernel
theorem dX12_ends_23 : decode cX12_ends 23 = .ok (.iastore, 1) := by decide +kernel
theorem dX12_ends_24 : decode cX12_ends 24 = .ok (.return_, 1) := by decide +kernel
theorem dX12_shop_0 : decode cX12_shop 0 = .ok (.aload_n 0, 1) := by decide +kernel
theorem dX12_shop_1 : decode cX12_shop 1 = .ok (.iconst 0, 1) := by decide +kernel
theorem dX12_shop_2 : decode cX12_shop 2 = .ok (.putfield 1, 3) := by decide +kernel
theorem dX12_shop_5 : decode cX12_shop 5 = .ok (.iload_n 1, 1) := by decide +kernel
theorem dX12_shop_6 : decode cX12_shop 6 = .ok (.i2l, 1) := by decide +kernel
theorem dX12_shop_7 : decode cX12_shop 7 = .ok (.lconst 0, 1) := by decide +kernel
theorem dX12_shop_8 : decode cX12_shop 8 = .ok (.aload_n 0, 1) := by decide +kernel
theorem dX12_shop_9 : decode cX12_shop 9 = .ok (.getfield 80, 3) := by decide +kernel
theorem dX12_shop_12 : decode cX12_shop 12 = .ok (.i2l, 1) := by decide +kernel
theorem dX12_shop_13 : decode cX12_shop 13 = .ok (.invokestatic 142, 3) := by decide +kernel
theorem dX12_shop_16 : decode cX12_shop 16 = .ok (.ifCond .ne 6, 3) := by decide +kernel
theorem dX12_shop_19 : decode cX12_shop 19 = .ok (.bipush (-3), 2) := by decide +kernel
theorem dX12_shop_21 : decode cX12_shop 21 = .ok (.ireturn, 1) := by decide +kernel
theorem dX12_shop_22 : decode cX12_shop 22 = .ok (.aload_n 0, 1) := by decide +kernel
theorem dX12_shop_23 : decode cX12_shop 23 = .ok (.iload_n 1, 1) := by decide +kernel
theorem dX12_shop_24 : decode cX12_shop 24 = .ok (.putfield 83, 3) := by decide +kernel
theorem dX12_shop_27 : decode cX12_shop 27 = .ok (.aload_n 0, 1) := by decide +kernel
theorem dX12_shop_28 : decode cX12_shop 28 = .ok (.iconst 0, 1) := by decide +kernel
theorem dX12_shop_29 : decode cX12_shop 29 = .ok (.putfield 80, 3) := by decide +kernel
theorem dX12_shop_32 : decode cX12_shop 32 = .ok (.aload_n 0, 1) := by decide +kernel
theorem dX12_shop_33 : decode cX12_shop 33 = .ok (.iconst 0, 1) := by decide +kernel
theorem dX12_shop_34 : decode cX12_shop 34 = .ok (.putfield 101, 3) := by decide +kernel
theorem dX12_shop_37 : decode cX12_shop 37 = .ok (.aload_n 0, 1) := by decide +kernel
theorem dX12_shop_38 : decode cX12_shop 38 = .ok (.iconst 0, 1) := by decide +kernel
theorem dX12_shop_39 : decode cX12_shop 39 = .ok (.putfield 126, 3) := by decide +kernel
theorem dX12_shop_42 : decode cX12_shop 42 = .ok (.aload_n 0, 1) := by decide +kernel
theorem dX12_shop_43 : decode cX12_shop 43 = .ok (.getfield 24, 3) := by decide +kernel
theorem dX12_shop_46 : decode cX12_shop 46 = .ok (.invokestatic 76, 3) := by decide +kernel
theorem dX12_shop_49 : decode cX12_shop 49 = .ok (.aload_n 0, 1) := by decide +kernel
theorem dX12_shop_50 : decode cX12_shop 50 = .ok (.invokevirtual 135, 3) := by decide +kernel
theorem dX12_shop_53 : decode cX12_shop 53 = .ok (.aload_n 0, 1) := by decide +kernel
theorem dX12_shop_54 : decode cX12_shop 54 = .ok (.iconst 0, 1) := by decide +kernel
theorem dX12_shop_55 : decode cX12_shop 55 = .ok (.invokevirtual 158, 3) := by decide +kernel
theorem dX12_shop_58 : decode cX12_shop 58 = .ok (.ifCond .ne 8, 3) := by decide +kernel
theorem dX12_shop_61 : decode cX12_shop 61 = .ok (.aload_n 0, 1) := by decide +kernel
theorem dX12_shop_62 : decode cX12_shop 62 = .ok (.iconst 2, 1) := by decide +kernel
theorem dX12_shop_63 : decode cX12_shop 63 = .ok (.invokevirtual 138, 3) := by decide +kernel
theorem dX12_shop_66 : decode cX12_shop 66 = .ok (.aload_n 0, 1) := by decide +kernel
theorem dX12_shop_67 : decode cX12_shop 67 = .ok (.invokevirtual 195, 3) := by decide +kernel
theorem dX12_shop_70 : decode cX12_shop 70 = .ok (.aload_n 0, 1) := by decide +kernel
theorem dX12_shop_71 : decode cX12_shop 71 = .ok (.getfield 126, 3) := by decide +kernel
theorem dX12_shop_74 : decode cX12_shop 74 = .ok (.ifCond .ne 23, 3) := by decide +kernel
theorem dX12_shop_77 : decode cX12_shop 77 = .ok (.aload_n 0, 1) := by decide +kernel
theorem dX12_shop_78 : decode cX12_shop 78 = .ok (.getfield 108, 3) := by decide +kernel
theorem dX12_shop_81 : decode cX12_shop 81 = .ok (.bipush 24, 2) := by decide +kernel
theorem dX12_shop_83 : decode cX12_shop 83 = .ok (.if_icmp .eq 14, 3) := by decide +kernel
theorem dX12_shop_86 : decode cX12_shop 86 = .ok (.aload_n 0, 1) := by decide +kernel
theorem dX12_shop_87 : decode cX12_shop 87 = .ok (.invokevirtual 198, 3) := by decide +kernel
theorem dX12_shop_90 : decode cX12_shop 90 = .ok (.aload_n 0, 1) := by decide +kernel
theorem dX12_shop_91 : decode cX12_shop 91 = .ok (.invokevirtual 195, 3) := by decide +kernel
theorem dX12_shop_94 : decode cX12_shop 94 = .ok (.goto (-24), 3) := by decide +kernel
theorem dX12_shop_97 : decode cX12_shop 97 = .ok (.aload_n 0, 1) := by decide +kernel
theorem dX12_shop_98 : decode cX12_shop 98 = .ok (.aload_n 0, 1) := by decide +kernel
theorem dX12_shop_99 : decode cX12_shop 99 = .ok (.getfield 126, 3) := by decide +kernel
theorem dX12_shop_102 : decode cX12_shop 102 = .ok (.putfield 201, 3) := by decide +kernel
theorem dX12_shop_105 : decode cX12_shop 105 = .ok (.aload_n 0, 1) := by decide +kernel
theorem dX12_shop_106 : decode cX12_shop 106 = .ok (.aload_n 0, 1) := by decide +kernel
theorem dX12_shop_107 : decode cX12_shop 107 = .ok (.getfield 126, 3) := by decide +kernel
theorem dX12_shop_110 : decode cX12_shop 110 = .ok (.ifCond .ne 7, 3) := by decide +kernel
theorem dX12_shop_113 : decode cX12_shop 113 = .ok (.iconst (-1), 1) := by decide +kernel
theorem dX12_shop_114 : decode cX12_shop 114 = .ok (.goto 7, 3) := by decide +kernel
theorem dX12_shop_117 : decode cX12_shop 117 = .ok (.aload_n 0, 1) := by decide +kernel
theorem dX12_shop_118 : decode cX12_shop 118 = .ok (.getfield 129, 3) := by decide +kernel
theorem dX12_shop_121 : decode cX12_shop 121 = .ok (.putfield 27, 3) := by decide +kernel
theorem dX12_shop_124 : decode cX12_shop 124 = .ok (.aload_n 0, 1) := by decide +kernel
theorem dX12_shop_125 : decode cX12_shop 125 = .ok (.getfield 126, 3) := by decide +kernel
theorem dX12_shop_128 : decode cX12_shop 128 = .ok (.ifCond .eq 11, 3) := by decide +kernel
theorem dX12_shop_131 : decode cX12_shop 131 = .ok (.bipush (-30), 2) := by decide +kernel
theorem dX12_shop_133 : decode cX12_shop 133 = .ok (.aload_n 0, 1) := by decide +kernel
theorem dX12_shop_134 : decode cX12_shop 134 = .ok (.getfield 126, 3) := by decide +kernel
theorem dX12_shop_137 : decode cX12_shop 137 = .ok (.isub, 1) := by decide +kernel
theorem dX12_shop_138 : decode cX12_shop 138 = .ok (.ireturn, 1) := by decide +kernel
theorem dX12_shop_139 : decode cX12_shop 139 = .ok (.iconst 0, 1) := by decide +kernel
theorem dX12_shop_140 : decode cX12_shop 140 = .ok (.istore_n 2, 1) := by decide +kernel
theorem dX12_shop_141 : decode cX12_shop 141 = .ok (.iload_n 2, 1) := by decide +kernel
theorem dX12_shop_142 : decode cX12_shop 142 = .ok (.sipush 1181, 3) := by decide +kernel
theorem dX12_shop_145 : decode cX12_shop 145 = .ok (.if_icmp .ge 21, 3) := by decide +kernel
theorem dX12_shop_148 : decode cX12_shop 148 = .ok (.aload_n 0, 1) := by decide +kernel
theorem dX12_shop_149 : decode cX12_shop 149 = .ok (.getfield 13, 3) := by decide +kernel
theorem dX12_shop_152 : decode cX12_shop 152 = .ok (.iload_n 2, 1) := by decide +kernel
theorem dX12_shop_153 : decode cX12_shop 153 = .ok (.aload_n 0, 1) := by decide +kernel
theorem dX12_shop_154 : decode cX12_shop 154 = .ok (.getfield 24, 3) := by decide +kernel
theorem dX12_shop_157 : decode cX12_shop 157 = .ok (.iload_n 2, 1) := by decide +kernel
theorem dX12_shop_158 : decode cX12_shop 158 = .ok (.iaload, 1) := by decide +kernel
theorem dX12_shop_159 : decode cX12_shop 159 = .ok (.iastore, 1) := by decide +kernel
theorem dX12_shop_160 : decode cX12_shop 160 = .ok (.iinc 2 1, 3) := by decide +kernel
theorem dX12_shop_163 : decode cX12_shop 163 = .ok (.goto (-22), 3) := by decide +kernel
theorem dX12_shop_166 : decode cX12_shop 166 = .ok (.aload_n 0, 1) := by decide +kernel
theorem dX12_shop_167 : decode cX12_shop 167 = .ok (.getfield 13, 3) := by decide +kernel
theorem dX12_shop_170 : decode cX12_shop 170 = .ok (.iconst 0, 1) := by decide +kernel
theorem dX12_shop_171 : decode cX12_shop 171 = .ok (.iaload, 1) := by decide +kernel
theorem dX12_shop_172 : decode cX12_shop 172 = .ok (.ireturn, 1) := by decide +kernel
theorem dX12_fault_0 : decode cX12_fault 0 = .ok (.aload_n 0, 1) := by decide +kernel
theorem dX12_fault_1 : decode cX12_fault 1 = .ok (.iconst 0, 1) := by decide +kernel
theorem dX12_fault_2 : decode cX12_fault 2 = .ok (.putfield 1, 3) := by decide +kernel
theorem dX12_fault_5 : decode cX12_fault 5 = .ok (.iload_n 1, 1) := by decide +kernel
theorem dX12_fault_6 : decode cX12_fault 6 = .ok (.ifCond .ne 10, 3) := by decide +kernel
theorem dX12_fault_9 : decode cX12_fault 9 = .ok (.aload_n 0, 1) := by decide +kernel
theorem dX12_fault_10 : decode cX12_fault 10 = .ok (.getfield 201, 3) := by decide +kernel
theorem dX12_fault_13 : decode cX12_fault 13 = .ok (.goto 16, 3) := by decide +kernel
theorem dX12_fault_16 : decode cX12_fault 16 = .ok (.iload_n 1, 1) := by decide +kernel
theorem dX12_fault_17 : decode cX12_fault 17 = .ok (.iconst 1, 1) := by decide +kernel
theorem dX12_fault_18 : decode cX12_fault 18 = .ok (.if_icmp .ne 10, 3) := by decide +kernel
theorem dX12_fault_21 : decode cX12_fault 21 = .ok (.aload_n 0, 1) := by decide +kernel
theorem dX12_fault_22 : decode cX12_fault 22 = .ok (.getfield 27, 3) := by decide +kernel
theorem dX12_fault_25 : decode cX12_fault 25 = .ok (.goto 4, 3) := by decide +kernel
theorem dX12_fault_28 : decode cX12_fault 28 = .ok (.iconst (-1), 1) := by decide +kernel
theorem dX12_fault_29 : decode cX12_fault 29 = .ok (.ireturn, 1) := by decide +kernel
theorem dX12_isKind_0 : decode cX12_isKind 0 = .ok (.lload_n 1, 1) := by decide +kernel
theorem dX12_isKind_1 : decode cX12_isKind 1 = .ok (.lconst 0, 1) := by decide +kernel
theorem dX12_isKind_2 : decode cX12_isKind 2 = .ok (.aload_n 0, 1) := by decide +kernel
theorem dX12_isKind_3 : decode cX12_isKind 3 = .ok (.getfield 13, 3) := by decide +kernel
theorem dX12_isKind_6 : decode cX12_isKind 6 = .ok (.bipush 26, 2) := by decide +kernel
theorem dX12_isKind_8 : decode cX12_isKind 8 = .ok (.iaload, 1) := by decide +kernel
theorem dX12_isKind_9 : decode cX12_isKind 9 = .ok (.iconst 1, 1) := by decide +kernel
theorem dX12_isKind_10 : decode cX12_isKind 10 = .ok (.isub, 1) := by decide +kernel
theorem dX12_isKind_11 : decode cX12_isKind 11 = .ok (.i2l, 1) := by decide +kernel
theorem dX12_isKind_12 : decode cX12_isKind 12 = .ok (.invokestatic 142, 3) := by decide +kernel
theorem dX12_isKind_15 : decode cX12_isKind 15 = .ok (.ireturn, 1) := by decide +kernel
theorem dX12_isBuyer_0 : decode cX12_isBuyer 0 = .ok (.lload_n 1, 1) := by decide +kernel
theorem dX12_isBuyer_1 : decode cX12_isBuyer 1 = .ok (.lconst 0, 1) := by decide +kernel
theorem dX12_isBuyer_2 : decode cX12_isBuyer 2 = .ok (.aload_n 0, 1) := by decide +kernel
theorem dX12_isBuyer_3 : decode cX12_isBuyer 3 = .ok (.getfield 13, 3) := by decide +kernel
theorem dX12_isBuyer_6 : decode cX12_isBuyer 6 = .ok (.iconst 1, 1) := by decide +kernel
theorem dX12_isBuyer_7 : decode cX12_isBuyer 7 = .ok (.iaload, 1) := by decide +kernel
theorem dX12_isBuyer_8 : decode cX12_isBuyer 8 = .ok (.iconst 1, 1) := by decide +kernel
theorem dX12_isBuyer_9 : decode cX12_isBuyer 9 = .ok (.isub, 1) := by decide +kernel
theorem dX12_isBuyer_10 : decode cX12_isBuyer 10 = .ok (.i2l, 1) := by decide +kernel
theorem dX12_isBuyer_11 : decode cX12_isBuyer 11 = .ok (.invokestatic 142, 3) := by decide +kernel
theorem dX12_isBuyer_14 : decode cX12_isBuyer 14 = .ok (.ireturn, 1) := by decide +kernel
theorem dX12_bitsOf_0 : decode cX12_bitsOf 0 = .ok (.iconst 0, 1) := by decide +kernel
theorem dX12_bitsOf_1 : decode cX12_bitsOf 1 = .ok (.istore_n 1, 1) := by decide +kernel
theorem dX12_bitsOf_2 : decode cX12_bitsOf 2 = .ok (.iconst 0, 1) := by decide +kernel
theorem dX12_bitsOf_3 : decode cX12_bitsOf 3 = .ok (.istore_n 2, 1) := by decide +kernel
theorem dX12_bitsOf_4 : decode cX12_bitsOf 4 = .ok (.iload_n 2, 1) := by decide +kernel
theorem dX12_bitsOf_5 : decode cX12_bitsOf 5 = .ok (.bipush 8, 2) := by decide +kernel
theorem dX12_bitsOf_7 : decode cX12_bitsOf 7 = .ok (.if_icmp .ge 17, 3) := by decide +kernel
theorem dX12_bitsOf_10 : decode cX12_bitsOf 10 = .ok (.iload_n 1, 1) := by decide +kernel
theorem dX12_bitsOf_11 : decode cX12_bitsOf 11 = .ok (.iload_n 0, 1) := by decide +kernel
theorem dX12_bitsOf_12 : decode cX12_bitsOf 12 = .ok (.iload_n 2, 1) := by decide +kernel
theorem dX12_bitsOf_13 : decode cX12_bitsOf 13 = .ok (.ishr, 1) := by decide +kernel
theorem dX12_bitsOf_14 : decode cX12_bitsOf 14 = .ok (.iconst 1, 1) := by decide +kernel
theorem dX12_bitsOf_15 : decode cX12_bitsOf 15 = .ok (.iand, 1) := by decide +kernel
theorem dX12_bitsOf_16 : decode cX12_bitsOf 16 = .ok (.iadd, 1) := by decide +kernel
theorem dX12_bitsOf_17 : decode cX12_bitsOf 17 = .ok (.istore_n 1, 1) := by decide +kernel
theorem dX12_bitsOf_18 : decode cX12_bitsOf 18 = .ok (.iinc 2 1, 3) := by decide +kernel
theorem dX12_bitsOf_21 : decode cX12_bitsOf 21 = .ok (.goto (-17), 3) := by decide +kernel
theorem dX12_bitsOf_24 : decode cX12_bitsOf 24 = .ok (.iload_n 1, 1) := by decide +kernel
theorem dX12_bitsOf_25 : decode cX12_bitsOf 25 = .ok (.ireturn, 1) := by decide +kernel
theorem dX12_everyKind_0 : decode cX12_everyKind 0 = .ok (.iconst 1, 1) := by decide +kernel
theorem dX12_everyKind_1 : decode cX12_everyKind 1 = .ok (.aload_n 0, 1) := by decide +kernel
theorem dX12_everyKind_2 : decode cX12_everyKind 2 = .ok (.getfield 13, 3) := by decide +kernel
theorem dX12_everyKind_5 : decode cX12_everyKind 5 = .ok (.bipush 26, 2) := by decide +kernel
theorem dX12_everyKind_7 : decode cX12_everyKind 7 = .ok (.iaload, 1) := by decide +kernel
theorem dX12_everyKind_8 : decode cX12_everyKind 8 = .ok (.ishl, 1) := by decide +kernel
theorem dX12_everyKind_9 : decode cX12_everyKind 9 = .ok (.iconst 1, 1) := by decide +kernel
theorem dX12_everyKind_10 : decode cX12_everyKind 10 = .ok (.isub, 1) := by decide +kernel
theorem dX12_everyKind_11 : decode cX12_everyKind 11 = .ok (.ireturn, 1) := by decide +kernel
theorem dX12_shown_0 : decode cX12_shown 0 = .ok (.aload_n 0, 1) := by decide +kernel
theorem dX12_shown_1 : decode cX12_shown 1 = .ok (.invokevirtual 204, 3) := by decide +kernel
theorem dX12_shown_4 : decode cX12_shown 4 = .ok (.aload_n 0, 1) := by decide +kernel
theorem dX12_shown_5 : decode cX12_shown 5 = .ok (.getfield 13, 3) := by decide +kernel
theorem dX12_shown_8 : decode cX12_shown 8 = .ok (.bipush 28, 2) := by decide +kernel
theorem dX12_shown_10 : decode cX12_shown 10 = .ok (.iaload, 1) := by decide +kernel
theorem dX12_shown_11 : decode cX12_shown 11 = .ok (.iconst (-1), 1) := by decide +kernel
theorem dX12_shown_12 : decode cX12_shown 12 = .ok (.ixor, 1) := by decide +kernel
theorem dX12_shown_13 : decode cX12_shown 13 = .ok (.iand, 1) := by decide +kernel
theorem dX12_shown_14 : decode cX12_shown 14 = .ok (.ireturn, 1) := by decide +kernel
theorem dX12_isShutBy_0 : decode cX12_isShutBy 0 = .ok (.aload_n 0, 1) := by decide +kernel
theorem dX12_isShutBy_1 : decode cX12_isShutBy 1 = .ok (.invokevirtual 207, 3) := by decide +kernel
theorem dX12_isShutBy_4 : decode cX12_isShutBy 4 = .ok (.iload_n 1, 1) := by decide +kernel
theorem dX12_isShutBy_5 : decode cX12_isShutBy 5 = .ok (.iconst (-1), 1) := by decide +kernel
theorem dX12_isShutBy_6 : decode cX12_isShutBy 6 = .ok (.ixor, 1) := by decide +kernel
theorem dX12_isShutBy_7 : decode cX12_isShutBy 7 = .ok (.iand, 1) := by decide +kernel
theorem dX12_isShutBy_8 : decode cX12_isShutBy 8 = .ok (.ifCond .ne 7, 3) := by decide +kernel
theorem dX12_isShutBy_11 : decode cX12_isShutBy 11 = .ok (.iconst 1, 1) := by decide +kernel
theorem dX12_isShutBy_12 : decode cX12_isShutBy 12 = .ok (.goto 4, 3) := by decide +kernel
theorem dX12_isShutBy_15 : decode cX12_isShutBy 15 = .ok (.iconst 0, 1) := by decide +kernel
theorem dX12_isShutBy_16 : decode cX12_isShutBy 16 = .ok (.ireturn, 1) := by decide +kernel
theorem dX12_isShut_0 : decode cX12_isShut 0 = .ok (.aload_n 0, 1) := by decide +kernel
theorem dX12_isShut_1 : decode cX12_isShut 1 = .ok (.aload_n 0, 1) := by decide +kernel
theorem dX12_isShut_2 : decode cX12_isShut 2 = .ok (.getfield 13, 3) := by decide +kernel
theorem dX12_isShut_5 : decode cX12_isShut 5 = .ok (.bipush 27, 2) := by decide +kernel
theorem dX12_isShut_7 : decode cX12_isShut 7 = .ok (.iaload, 1) := by decide +kernel
theorem dX12_isShut_8 : decode cX12_isShut 8 = .ok (.invokevirtual 210, 3) := by decide +kernel
theorem dX12_isShut_11 : decode cX12_isShut 11 = .ok (.ireturn, 1) := by decide +kernel
theorem dX12_kind_0 : decode cX12_kind 0 = .ok (.aload_n 0, 1) := by decide +kernel
theorem dX12_kind_1 : decode cX12_kind 1 = .ok (.iconst 0, 1) := by decide +kernel
theorem dX12_kind_2 : decode cX12_kind 2 = .ok (.putfield 1, 3) := by decide +kernel
theorem dX12_kind_5 : decode cX12_kind 5 = .ok (.aload_n 0, 1) := by decide +kernel
theorem dX12_kind_6 : decode cX12_kind 6 = .ok (.iload_n 1, 1) := by decide +kernel
theorem dX12_kind_7 : decode cX12_kind 7 = .ok (.i2l, 1) := by decide +kernel
theorem dX12_kind_8 : decode cX12_kind 8 = .ok (.invokevirtual 245, 3) := by decide +kernel
theorem dX12_kind_11 : decode cX12_kind 11 = .ok (.ifCond .ne 6, 3) := by decide +kernel
theorem dX12_kind_14 : decode cX12_kind 14 = .ok (.bipush (-2), 2) := by decide +kernel
theorem dX12_kind_16 : decode cX12_kind 16 = .ok (.ireturn, 1) := by decide +kernel
theorem dX12_kind_17 : decode cX12_kind 17 = .ok (.iload_n 2, 1) := by decide +kernel
theorem dX12_kind_18 : decode cX12_kind 18 = .ok (.tableswitch 84 0 4 #[34, 44, 54, 66, 78], 34) := by decide +kernel
theorem dX12_kind_52 : decode cX12_kind 52 = .ok (.aload_n 0, 1) := by decide +kernel
theorem dX12_kind_53 : decode cX12_kind 53 = .ok (.getfield 13, 3) := by decide +kernel
theorem dX12_kind_56 : decode cX12_kind 56 = .ok (.bipush 33, 2) := by decide +kernel
theorem dX12_kind_58 : decode cX12_kind 58 = .ok (.iload_n 1, 1) := by decide +kernel
theorem dX12_kind_59 : decode cX12_kind 59 = .ok (.iadd, 1) := by decide +kernel
theorem dX12_kind_60 : decode cX12_kind 60 = .ok (.iaload, 1) := by decide +kernel
theorem dX12_kind_61 : decode cX12_kind 61 = .ok (.ireturn, 1) := by decide +kernel
theorem dX12_kind_62 : decode cX12_kind 62 = .ok (.aload_n 0, 1) := by decide +kernel
theorem dX12_kind_63 : decode cX12_kind 63 = .ok (.getfield 13, 3) := by decide +kernel
theorem dX12_kind_66 : decode cX12_kind 66 = .ok (.bipush 41, 2) := by decide +kernel
theorem dX12_kind_68 : decode cX12_kind 68 = .ok (.iload_n 1, 1) := by decide +kernel
theorem dX12_kind_69 : decode cX12_kind 69 = .ok (.iadd, 1) := by decide +kernel
theorem dX12_kind_70 : decode cX12_kind 70 = .ok (.iaload, 1) := by decide +kernel
theorem dX12_kind_71 : decode cX12_kind 71 = .ok (.ireturn, 1) := by decide +kernel
theorem dX12_kind_72 : decode cX12_kind 72 = .ok (.aload_n 0, 1) := by decide +kernel
theorem dX12_kind_73 : decode cX12_kind 73 = .ok (.getfield 13, 3) := by decide +kernel
theorem dX12_kind_76 : decode cX12_kind 76 = .ok (.bipush 27, 2) := by decide +kernel
theorem dX12_kind_78 : decode cX12_kind 78 = .ok (.iaload, 1) := by decide +kernel
theorem dX12_kind_79 : decode cX12_kind 79 = .ok (.iload_n 1, 1) := by decide +kernel
theorem dX12_kind_80 : decode cX12_kind 80 = .ok (.ishr, 1) := by decide +kernel
theorem dX12_kind_81 : decode cX12_kind 81 = .ok (.iconst 1, 1) := by decide +kernel
theorem dX12_kind_82 : decode cX12_kind 82 = .ok (.iand, 1) := by decide +kernel
theorem dX12_kind_83 : decode cX12_kind 83 = .ok (.ireturn, 1) := by decide +kernel
theorem dX12_kind_84 : decode cX12_kind 84 = .ok (.aload_n 0, 1) := by decide +kernel
theorem dX12_kind_85 : decode cX12_kind 85 = .ok (.getfield 13, 3) := by decide +kernel
theorem dX12_kind_88 : decode cX12_kind 88 = .ok (.bipush 28, 2) := by decide +kernel
theorem dX12_kind_90 : decode cX12_kind 90 = .ok (.iaload, 1) := by decide +kernel
theorem dX12_kind_91 : decode cX12_kind 91 = .ok (.iload_n 1, 1) := by decide +kernel
theorem dX12_kind_92 : decode cX12_kind 92 = .ok (.ishr, 1) := by decide +kernel
theorem dX12_kind_93 : decode cX12_kind 93 = .ok (.iconst 1, 1) := by decide +kernel
theorem dX12_kind_94 : decode cX12_kind 94 = .ok (.iand, 1) := by decide +kernel
theorem dX12_kind_95 : decode cX12_kind 95 = .ok (.ireturn, 1) := by decide +kernel
theorem dX12_kind_96 : decode cX12_kind 96 = .ok (.aload_n 0, 1) := by decide +kernel
theorem dX12_kind_97 : decode cX12_kind 97 = .ok (.iload_n 1, 1) := by decide +kernel
theorem dX12_kind_98 : decode cX12_kind 98 = .ok (.invokevirtual 249, 3) := by decide +kernel
theorem dX12_kind_101 : decode cX12_kind 101 = .ok (.ireturn, 1) := by decide +kernel
theorem dX12_kind_102 : decode cX12_kind 102 = .ok (.bipush (-2), 2) := by decide +kernel
theorem dX12_kind_104 : decode cX12_kind 104 = .ok (.ireturn, 1) := by decide +kernel
theorem dX12_buyer_0 : decode cX12_buyer 0 = .ok (.aload_n 0, 1) := by decide +kernel
theorem dX12_buyer_1 : decode cX12_buyer 1 = .ok (.iconst 0, 1) := by decide +kernel
theorem dX12_buyer_2 : decode cX12_buyer 2 = .ok (.putfield 1, 3) := by decide +kernel
theorem dX12_buyer_5 : decode cX12_buyer 5 = .ok (.aload_n 0, 1) := by decide +kernel
theorem dX12_buyer_6 : decode cX12_buyer 6 = .ok (.iload_n 1, 1) := by decide +kernel
theorem dX12_buyer_7 : decode cX12_buyer 7 = .ok (.i2l, 1) := by decide +kernel
theorem dX12_buyer_8 : decode cX12_buyer 8 = .ok (.invokevirtual 252, 3) := by decide +kernel
theorem dX12_buyer_11 : decode cX12_buyer 11 = .ok (.ifCond .ne 6, 3) := by decide +kernel
theorem dX12_buyer_14 : decode cX12_buyer 14 = .ok (.bipush (-2), 2) := by decide +kernel
theorem dX12_buyer_16 : decode cX12_buyer 16 = .ok (.ireturn, 1) := by decide +kernel
theorem dX12_buyer_17 : decode cX12_buyer 17 = .ok (.iload_n 2, 1) := by decide +kernel
theorem dX12_buyer_18 : decode cX12_buyer 18 = .ok (.tableswitch 76 0 4 #[34, 44, 54, 64, 70], 34) := by decide +kernel
theorem dX12_buyer_52 : decode cX12_buyer 52 = .ok (.aload_n 0, 1) := by decide +kernel
theorem dX12_buyer_53 : decode cX12_buyer 53 = .ok (.getfield 13, 3) := by decide +kernel
theorem dX12_buyer_56 : decode cX12_buyer 56 = .ok (.bipush 8, 2) := by decide +kernel
theorem dX12_buyer_58 : decode cX12_buyer 58 = .ok (.iload_n 1, 1) := by decide +kernel
theorem dX12_buyer_59 : decode cX12_buyer 59 = .ok (.iadd, 1) := by decide +kernel
theorem dX12_buyer_60 : decode cX12_buyer 60 = .ok (.iaload, 1) := by decide +kernel
theorem dX12_buyer_61 : decode cX12_buyer 61 = .ok (.ireturn, 1) := by decide +kernel
theorem dX12_buyer_62 : decode cX12_buyer 62 = .ok (.aload_n 0, 1) := by decide +kernel
theorem dX12_buyer_63 : decode cX12_buyer 63 = .ok (.getfield 13, 3) := by decide +kernel
theorem dX12_buyer_66 : decode cX12_buyer 66 = .ok (.bipush 14, 2) := by decide +kernel
theorem dX12_buyer_68 : decode cX12_buyer 68 = .ok (.iload_n 1, 1) := by decide +kernel
theorem dX12_buyer_69 : decode cX12_buyer 69 = .ok (.iadd, 1) := by decide +kernel
theorem dX12_buyer_70 : decode cX12_buyer 70 = .ok (.iaload, 1) := by decide +kernel
theorem dX12_buyer_71 : decode cX12_buyer 71 = .ok (.ireturn, 1) := by decide +kernel
theorem dX12_buyer_72 : decode cX12_buyer 72 = .ok (.aload_n 0, 1) := by decide +kernel
theorem dX12_buyer_73 : decode cX12_buyer 73 = .ok (.getfield 13, 3) := by decide +kernel
theorem dX12_buyer_76 : decode cX12_buyer 76 = .ok (.bipush 20, 2) := by decide +kernel
theorem dX12_buyer_78 : decode cX12_buyer 78 = .ok (.iload_n 1, 1) := by decide +kernel
theorem dX12_buyer_79 : decode cX12_buyer 79 = .ok (.iadd, 1) := by decide +kernel
theorem dX12_buyer_80 : decode cX12_buyer 80 = .ok (.iaload, 1) := by decide +kernel
theorem dX12_buyer_81 : decode cX12_buyer 81 = .ok (.ireturn, 1) := by decide +kernel
theorem dX12_buyer_82 : decode cX12_buyer 82 = .ok (.aload_n 0, 1) := by decide +kernel
theorem dX12_buyer_83 : decode cX12_buyer 83 = .ok (.iload_n 1, 1) := by decide +kernel
theorem dX12_buyer_84 : decode cX12_buyer 84 = .ok (.invokevirtual 255, 3) := by decide +kernel
theorem dX12_buyer_87 : decode cX12_buyer 87 = .ok (.ireturn, 1) := by decide +kernel
theorem dX12_buyer_88 : decode cX12_buyer 88 = .ok (.aload_n 0, 1) := by decide +kernel
theorem dX12_buyer_89 : decode cX12_buyer 89 = .ok (.iload_n 1, 1) := by decide +kernel
theorem dX12_buyer_90 : decode cX12_buyer 90 = .ok (.invokevirtual 242, 3) := by decide +kernel
theorem dX12_buyer_93 : decode cX12_buyer 93 = .ok (.ireturn, 1) := by decide +kernel
theorem dX12_buyer_94 : decode cX12_buyer 94 = .ok (.bipush (-2), 2) := by decide +kernel
theorem dX12_buyer_96 : decode cX12_buyer 96 = .ok (.ireturn, 1) := by decide +kernel
theorem dX12_wants_0 : decode cX12_wants 0 = .ok (.aload_n 0, 1) := by decide +kernel
theorem dX12_wants_1 : decode cX12_wants 1 = .ok (.iconst 0, 1) := by decide +kernel
theorem dX12_wants_2 : decode cX12_wants 2 = .ok (.putfield 1, 3) := by decide +kernel
theorem dX12_wants_5 : decode cX12_wants 5 = .ok (.aload_n 0, 1) := by decide +kernel
theorem dX12_wants_6 : decode cX12_wants 6 = .ok (.iload_n 1, 1) := by decide +kernel
theorem dX12_wants_7 : decode cX12_wants 7 = .ok (.i2l, 1) := by decide +kernel
theorem dX12_wants_8 : decode cX12_wants 8 = .ok (.invokevirtual 252, 3) := by decide +kernel
theorem dX12_wants_11 : decode cX12_wants 11 = .ok (.ifCond .eq 28, 3) := by decide +kernel
theorem dX12_wants_14 : decode cX12_wants 14 = .ok (.aload_n 0, 1) := by decide +kernel
theorem dX12_wants_15 : decode cX12_wants 15 = .ok (.iload_n 2, 1) := by decide +kernel
theorem dX12_wants_16 : decode cX12_wants 16 = .ok (.i2l, 1) := by decide +kernel
theorem dX12_wants_17 : decode cX12_wants 17 = .ok (.invokevirtual 245, 3) := by decide +kernel
theorem dX12_wants_20 : decode cX12_wants 20 = .ok (.ifCond .eq 19, 3) := by decide +kernel
theorem dX12_wants_23 : decode cX12_wants 23 = .ok (.aload_n 0, 1) := by decide +kernel
theorem dX12_wants_24 : decode cX12_wants 24 = .ok (.iload_n 1, 1) := by decide +kernel
theorem dX12_wants_25 : decode cX12_wants 25 = .ok (.iload_n 2, 1) := by decide +kernel
theorem dX12_wants_26 : decode cX12_wants 26 = .ok (.aload_n 0, 1) := by decide +kernel
theorem dX12_wants_27 : decode cX12_wants 27 = .ok (.getfield 13, 3) := by decide +kernel
theorem dX12_wants_30 : decode cX12_wants 30 = .ok (.bipush 27, 2) := by decide +kernel
theorem dX12_wants_32 : decode cX12_wants 32 = .ok (.iaload, 1) := by decide +kernel
theorem dX12_wants_33 : decode cX12_wants 33 = .ok (.invokevirtual 236, 3) := by decide +kernel
theorem dX12_wants_36 : decode cX12_wants 36 = .ok (.goto 6, 3) := by decide +kernel
theorem dX12_wants_39 : decode cX12_wants 39 = .ok (.ldc_w 258, 3) := by decide +kernel
theorem dX12_wants_42 : decode cX12_wants 42 = .ok (.ireturn, 1) := by decide +kernel
theorem dX12_keeps_0 : decode cX12_keeps 0 = .ok (.iconst 0, 1) := by decide +kernel
theorem dX12_keeps_1 : decode cX12_keeps 1 = .ok (.istore_n 1, 1) := by decide +kernel
theorem dX12_keeps_2 : decode cX12_keeps 2 = .ok (.iload_n 1, 1) := by decide +kernel
theorem dX12_keeps_3 : decode cX12_keeps 3 = .ok (.bipush 23, 2) := by decide +kernel
theorem dX12_keeps_5 : decode cX12_keeps 5 = .ok (.if_icmp .ge 24, 3) := by decide +kernel
theorem dX12_keeps_8 : decode cX12_keeps 8 = .ok (.aload_n 0, 1) := by decide +kernel
theorem dX12_keeps_9 : decode cX12_keeps 9 = .ok (.getfield 36, 3) := by decide +kernel
theorem dX12_keeps_12 : decode cX12_keeps 12 = .ok (.iload_n 1, 1) := by decide +kernel
theorem dX12_keeps_13 : decode cX12_keeps 13 = .ok (.aload_n 0, 1) := by decide +kernel
theorem dX12_keeps_14 : decode cX12_keeps 14 = .ok (.getfield 13, 3) := by decide +kernel
theorem dX12_keeps_17 : decode cX12_keeps 17 = .ok (.bipush 26, 2) := by decide +kernel
theorem dX12_keeps_19 : decode cX12_keeps 19 = .ok (.iload_n 1, 1) := by decide +kernel
theorem dX12_keeps_20 : decode cX12_keeps 20 = .ok (.iadd, 1) := by decide +kernel
theorem dX12_keeps_21 : decode cX12_keeps 21 = .ok (.iaload, 1) := by decide +kernel
theorem dX12_keeps_22 : decode cX12_keeps 22 = .ok (.iastore, 1) := by decide +kernel
theorem dX12_keeps_23 : decode cX12_keeps 23 = .ok (.iinc 1 1, 3) := by decide +kernel
theorem dX12_keeps_26 : decode cX12_keeps 26 = .ok (.goto (-24), 3) := by decide +kernel
theorem dX12_keeps_29 : decode cX12_keeps 29 = .ok (.return_, 1) := by decide +kernel
theorem dX12_isAgain_0 : decode cX12_isAgain 0 = .ok (.iconst 0, 1) := by decide +kernel
theorem dX12_isAgain_1 : decode cX12_isAgain 1 = .ok (.istore_n 1, 1) := by decide +kernel
theorem dX12_isAgain_2 : decode cX12_isAgain 2 = .ok (.iload_n 1, 1) := by decide +kernel
theorem dX12_isAgain_3 : decode cX12_isAgain 3 = .ok (.bipush 23, 2) := by decide +kernel
theorem dX12_isAgain_5 : decode cX12_isAgain 5 = .ok (.if_icmp .ge 24, 3) := by decide +kernel
theorem dX12_isAgain_8 : decode cX12_isAgain 8 = .ok (.aload_n 0, 1) := by decide +kernel
theorem dX12_isAgain_9 : decode cX12_isAgain 9 = .ok (.getfield 13, 3) := by decide +kernel
theorem dX12_isAgain_12 : decode cX12_isAgain 12 = .ok (.bipush 26, 2) := by decide +kernel
theorem dX12_isAgain_14 : decode cX12_isAgain 14 = .ok (.iload_n 1, 1) := by decide +kernel
theorem dX12_isAgain_15 : decode cX12_isAgain 15 = .ok (.iadd, 1) := by decide +kernel
theorem dX12_isAgain_16 : decode cX12_isAgain 16 = .ok (.aload_n 0, 1) := by decide +kernel
theorem dX12_isAgain_17 : decode cX12_isAgain 17 = .ok (.getfield 36, 3) := by decide +kernel
theorem dX12_isAgain_20 : decode cX12_isAgain 20 = .ok (.iload_n 1, 1) := by decide +kernel
theorem dX12_isAgain_21 : decode cX12_isAgain 21 = .ok (.iaload, 1) := by decide +kernel
theorem dX12_isAgain_22 : decode cX12_isAgain 22 = .ok (.iastore, 1) := by decide +kernel
theorem dX12_isAgain_23 : decode cX12_isAgain 23 = .ok (.iinc 1 1, 3) := by decide +kernel
theorem dX12_isAgain_26 : decode cX12_isAgain 26 = .ok (.goto (-24), 3) := by decide +kernel
theorem dX12_isAgain_29 : decode cX12_isAgain 29 = .ok (.return_, 1) := by decide +kernel
theorem dX12_notes_0 : decode cX12_notes 0 = .ok (.aload_n 0, 1) := by decide +kernel
theorem dX12_notes_1 : decode cX12_notes 1 = .ok (.getfield 13, 3) := by decide +kernel
theorem dX12_notes_4 : decode cX12_notes 4 = .ok (.bipush 49, 2) := by decide +kernel
theorem dX12_notes_6 : decode cX12_notes 6 = .ok (.iaload, 1) := by decide +kernel
theorem dX12_notes_7 : decode cX12_notes 7 = .ok (.bipush 10, 2) := by decide +kernel
theorem dX12_notes_9 : decode cX12_notes 9 = .ok (.if_icmp .ne 47, 3) := by decide +kernel
theorem dX12_notes_12 : decode cX12_notes 12 = .ok (.iconst 0, 1) := by decide +kernel
theorem dX12_notes_13 : decode cX12_notes 13 = .ok (.istore_n 1, 1) := by decide +kernel
theorem dX12_notes_14 : decode cX12_notes 14 = .ok (.iload_n 1, 1) := by decide +kernel
theorem dX12_notes_15 : decode cX12_notes 15 = .ok (.sipush 207, 3) := by decide +kernel
theorem dX12_notes_18 : decode cX12_notes 18 = .ok (.if_icmp .ge 27, 3) := by decide +kernel
theorem dX12_notes_21 : decode cX12_notes 21 = .ok (.aload_n 0, 1) := by decide +kernel
theorem dX12_notes_22 : decode cX12_notes 22 = .ok (.getfield 13, 3) := by decide +kernel
theorem dX12_notes_25 : decode cX12_notes 25 = .ok (.bipush 50, 2) := by decide +kernel
theorem dX12_notes_27 : decode cX12_notes 27 = .ok (.iload_n 1, 1) := by decide +kernel
theorem dX12_notes_28 : decode cX12_notes 28 = .ok (.iadd, 1) := by decide +kernel
theorem dX12_notes_29 : decode cX12_notes 29 = .ok (.aload_n 0, 1) := by decide +kernel
theorem dX12_notes_30 : decode cX12_notes 30 = .ok (.getfield 13, 3) := by decide +kernel
theorem dX12_notes_33 : decode cX12_notes 33 = .ok (.bipush 73, 2) := by decide +kernel
theorem dX12_notes_35 : decode cX12_notes 35 = .ok (.iload_n 1, 1) := by decide +kernel
theorem dX12_notes_36 : decode cX12_notes 36 = .ok (.iadd, 1) := by decide +kernel
theorem dX12_notes_37 : decode cX12_notes 37 = .ok (.iaload, 1) := by decide +kernel
theorem dX12_notes_38 : decode cX12_notes 38 = .ok (.iastore, 1) := by decide +kernel
theorem dX12_notes_39 : decode cX12_notes 39 = .ok (.iinc 1 1, 3) := by decide +kernel
theorem dX12_notes_42 : decode cX12_notes 42 = .ok (.goto (-28), 3) := by decide +kernel
theorem dX12_notes_45 : decode cX12_notes 45 = .ok (.aload_n 0, 1) := by decide +kernel
theorem dX12_notes_46 : decode cX12_notes 46 = .ok (.getfield 13, 3) := by decide +kernel
theorem dX12_notes_49 : decode cX12_notes 49 = .ok (.bipush 49, 2) := by decide +kernel
theorem dX12_notes_51 : decode cX12_notes 51 = .ok (.dup2, 1) := by decide +kernel
theorem dX12_notes_52 : decode cX12_notes 52 = .ok (.iaload, 1) := by decide +kernel
theorem dX12_notes_53 : decode cX12_notes 53 = .ok (.iconst 1, 1) := by decide +kernel
theorem dX12_notes_54 : decode cX12_notes 54 = .ok (.isub, 1) := by decide +kernel
theorem dX12_notes_55 : decode cX12_notes 55 = .ok (.iastore, 1) := by decide +kernel
theorem dX12_notes_56 : decode cX12_notes 56 = .ok (.iconst 0, 1) := by decide +kernel
theorem dX12_notes_57 : decode cX12_notes 57 = .ok (.istore_n 1, 1) := by decide +kernel
theorem dX12_notes_58 : decode cX12_notes 58 = .ok (.iload_n 1, 1) := by decide +kernel
theorem dX12_notes_59 : decode cX12_notes 59 = .ok (.bipush 23, 2) := by decide +kernel
theorem dX12_notes_61 : decode cX12_notes 61 = .ok (.if_icmp .ge 35, 3) := by decide +kernel
theorem dX12_notes_64 : decode cX12_notes 64 = .ok (.aload_n 0, 1) := by decide +kernel
theorem dX12_notes_65 : decode cX12_notes 65 = .ok (.getfield 13, 3) := by decide +kernel
theorem dX12_notes_68 : decode cX12_notes 68 = .ok (.bipush 50, 2) := by decide +kernel
theorem dX12_notes_70 : decode cX12_notes 70 = .ok (.bipush 23, 2) := by decide +kernel
theorem dX12_notes_72 : decode cX12_notes 72 = .ok (.aload_n 0, 1) := by decide +kernel
theorem dX12_notes_73 : decode cX12_notes 73 = .ok (.getfield 13, 3) := by decide +kernel
theorem dX12_notes_76 : decode cX12_notes 76 = .ok (.bipush 49, 2) := by decide +kernel
theorem dX12_notes_78 : decode cX12_notes 78 = .ok (.iaload, 1) := by decide +kernel
theorem dX12_notes_79 : decode cX12_notes 79 = .ok (.imul, 1) := by decide +kernel
theorem dX12_notes_80 : decode cX12_notes 80 = .ok (.iadd, 1) := by decide +kernel
theorem dX12_notes_81 : decode cX12_notes 81 = .ok (.iload_n 1, 1) := by decide +kernel
theorem dX12_notes_82 : decode cX12_notes 82 = .ok (.iadd, 1) := by decide +kernel
theorem dX12_notes_83 : decode cX12_notes 83 = .ok (.aload_n 0, 1) := by decide +kernel
theorem dX12_notes_84 : decode cX12_notes 84 = .ok (.getfield 36, 3) := by decide +kernel
theorem dX12_notes_87 : decode cX12_notes 87 = .ok (.iload_n 1, 1) := by decide +kernel
theorem dX12_notes_88 : decode cX12_notes 88 = .ok (.iaload, 1) := by decide +kernel
theorem dX12_notes_89 : decode cX12_notes 89 = .ok (.iastore, 1) := by decide +kernel
theorem dX12_notes_90 : decode cX12_notes 90 = .ok (.iinc 1 1, 3) := by decide +kernel
theorem dX12_notes_93 : decode cX12_notes 93 = .ok (.goto (-35), 3) := by decide +kernel
theorem dX12_notes_96 : decode cX12_notes 96 = .ok (.aload_n 0, 1) := by decide +kernel
theorem dX12_notes_97 : decode cX12_notes 97 = .ok (.getfield 13, 3) := by decide +kernel
theorem dX12_notes_100 : decode cX12_notes 100 = .ok (.bipush 49, 2) := by decide +kernel
theorem dX12_notes_102 : decode cX12_notes 102 = .ok (.dup2, 1) := by decide +kernel
theorem dX12_notes_103 : decode cX12_notes 103 = .ok (.iaload, 1) := by decide +kernel
theorem dX12_notes_104 : decode cX12_notes 104 = .ok (.iconst 1, 1) := by decide +kernel
theorem dX12_notes_105 : decode cX12_notes 105 = .ok (.iadd, 1) := by decide +kernel
theorem dX12_notes_106 : decode cX12_notes 106 = .ok (.iastore, 1) := by decide +kernel
theorem dX12_notes_107 : decode cX12_notes 107 = .ok (.return_, 1) := by decide +kernel
theorem dX12_whyVisit_0 : decode cX12_whyVisit 0 = .ok (.aload_n 0, 1) := by decide +kernel
theorem dX12_whyVisit_1 : decode cX12_whyVisit 1 = .ok (.lload_n 1, 1) := by decide +kernel
theorem dX12_whyVisit_2 : decode cX12_whyVisit 2 = .ok (.invokevirtual 252, 3) := by decide +kernel
theorem dX12_whyVisit_5 : decode cX12_whyVisit 5 = .ok (.ifCond .ne 7, 3) := by decide +kernel
theorem dX12_whyVisit_8 : decode cX12_whyVisit 8 = .ok (.iconst 1, 1) := by decide +kernel
theorem dX12_whyVisit_9 : decode cX12_whyVisit 9 = .ok (.goto 29, 3) := by decide +kernel
theorem dX12_whyVisit_12 : decode cX12_whyVisit 12 = .ok (.aload_n 0, 1) := by decide +kernel
theorem dX12_whyVisit_13 : decode cX12_whyVisit 13 = .ok (.invokevirtual 259, 3) := by decide +kernel
theorem dX12_whyVisit_16 : decode cX12_whyVisit 16 = .ok (.ifCond .eq 7, 3) := by decide +kernel
theorem dX12_whyVisit_19 : decode cX12_whyVisit 19 = .ok (.iconst 2, 1) := by decide +kernel
theorem dX12_whyVisit_20 : decode cX12_whyVisit 20 = .ok (.goto 18, 3) := by decide +kernel
theorem dX12_whyVisit_23 : decode cX12_whyVisit 23 = .ok (.aload_n 0, 1) := by decide +kernel
theorem dX12_whyVisit_24 : decode cX12_whyVisit 24 = .ok (.lload_n 1, 1) := by decide +kernel
theorem dX12_whyVisit_25 : decode cX12_whyVisit 25 = .ok (.l2i, 1) := by decide +kernel
theorem dX12_whyVisit_26 : decode cX12_whyVisit 26 = .ok (.invokevirtual 242, 3) := by decide +kernel
theorem dX12_whyVisit_29 : decode cX12_whyVisit 29 = .ok (.iconst (-1), 1) := by decide +kernel
theorem dX12_whyVisit_30 : decode cX12_whyVisit 30 = .ok (.if_icmp .ne 7, 3) := by decide +kernel
theorem dX12_whyVisit_33 : decode cX12_whyVisit 33 = .ok (.iconst 3, 1) := by decide +kernel
theorem dX12_whyVisit_34 : decode cX12_whyVisit 34 = .ok (.goto 4, 3) := by decide +kernel
theorem dX12_whyVisit_37 : decode cX12_whyVisit 37 = .ok (.iconst 0, 1) := by decide +kernel
theorem dX12_whyVisit_38 : decode cX12_whyVisit 38 = .ok (.ireturn, 1) := by decide +kernel
theorem dX12_whyKind_0 : decode cX12_whyKind 0 = .ok (.aload_n 0, 1) := by decide +kernel
theorem dX12_whyKind_1 : decode cX12_whyKind 1 = .ok (.lload_n 1, 1) := by decide +kernel
theorem dX12_whyKind_2 : decode cX12_whyKind 2 = .ok (.invokevirtual 245, 3) := by decide +kernel
theorem dX12_whyKind_5 : decode cX12_whyKind 5 = .ok (.ifCond .ne 7, 3) := by decide +kernel
theorem dX12_whyKind_8 : decode cX12_whyKind 8 = .ok (.iconst 1, 1) := by decide +kernel
theorem dX12_whyKind_9 : decode cX12_whyKind 9 = .ok (.goto 15, 3) := by decide +kernel
theorem dX12_whyKind_12 : decode cX12_whyKind 12 = .ok (.aload_n 0, 1) := by decide +kernel
theorem dX12_whyKind_13 : decode cX12_whyKind 13 = .ok (.invokevirtual 259, 3) := by decide +kernel
theorem dX12_whyKind_16 : decode cX12_whyKind 16 = .ok (.ifCond .eq 7, 3) := by decide +kernel
theorem dX12_whyKind_19 : decode cX12_whyKind 19 = .ok (.iconst 2, 1) := by decide +kernel
theorem dX12_whyKind_20 : decode cX12_whyKind 20 = .ok (.goto 4, 3) := by decide +kernel
theorem dX12_whyKind_23 : decode cX12_whyKind 23 = .ok (.iconst 0, 1) := by decide +kernel
theorem dX12_whyKind_24 : decode cX12_whyKind 24 = .ok (.ireturn, 1) := by decide +kernel
theorem dX12_isPrice_0 : decode cX12_isPrice 0 = .ok (.lload_n 0, 1) := by decide +kernel
theorem dX12_isPrice_1 : decode cX12_isPrice 1 = .ok (.lconst 1, 1) := by decide +kernel
theorem dX12_isPrice_2 : decode cX12_isPrice 2 = .ok (.ldc2_w 263, 3) := by decide +kernel
theorem dX12_isPrice_5 : decode cX12_isPrice 5 = .ok (.invokestatic 142, 3) := by decide +kernel
theorem dX12_isPrice_8 : decode cX12_isPrice 8 = .ok (.ireturn, 1) := by decide +kernel
theorem dX12_whyPrice_0 : decode cX12_whyPrice 0 = .ok (.aload_n 0, 1) := by decide +kernel
theorem dX12_whyPrice_1 : decode cX12_whyPrice 1 = .ok (.lload_n 1, 1) := by decide +kernel
theorem dX12_whyPrice_2 : decode cX12_whyPrice 2 = .ok (.invokevirtual 245, 3) := by decide +kernel
theorem dX12_whyPrice_5 : decode cX12_whyPrice 5 = .ok (.ifCond .eq 10, 3) := by decide +kernel
theorem dX12_whyPrice_8 : decode cX12_whyPrice 8 = .ok (.lload_n 3, 1) := by decide +kernel
theorem dX12_whyPrice_9 : decode cX12_whyPrice 9 = .ok (.invokestatic 265, 3) := by decide +kernel
theorem dX12_whyPrice_12 : decode cX12_whyPrice 12 = .ok (.ifCond .ne 7, 3) := by decide +kernel
theorem dX12_whyPrice_15 : decode cX12_whyPrice 15 = .ok (.iconst 1, 1) := by decide +kernel
theorem dX12_whyPrice_16 : decode cX12_whyPrice 16 = .ok (.goto 15, 3) := by decide +kernel
theorem dX12_whyPrice_19 : decode cX12_whyPrice 19 = .ok (.aload_n 0, 1) := by decide +kernel
theorem dX12_whyPrice_20 : decode cX12_whyPrice 20 = .ok (.invokevirtual 259, 3) := by decide +kernel
theorem dX12_whyPrice_23 : decode cX12_whyPrice 23 = .ok (.ifCond .eq 7, 3) := by decide +kernel
theorem dX12_whyPrice_26 : decode cX12_whyPrice 26 = .ok (.iconst 2, 1) := by decide +kernel
theorem dX12_whyPrice_27 : decode cX12_whyPrice 27 = .ok (.goto 4, 3) := by decide +kernel
theorem dX12_whyPrice_30 : decode cX12_whyPrice 30 = .ok (.iconst 0, 1) := by decide +kernel
theorem dX12_whyPrice_31 : decode cX12_whyPrice 31 = .ok (.ireturn, 1) := by decide +kernel
theorem dX12_draw_0 : decode cX12_draw 0 = .ok (.aload_n 0, 1) := by decide +kernel
theorem dX12_draw_1 : decode cX12_draw 1 = .ok (.getfield 13, 3) := by decide +kernel
theorem dX12_draw_4 : decode cX12_draw 4 = .ok (.bipush 32, 2) := by decide +kernel
theorem dX12_draw_6 : decode cX12_draw 6 = .ok (.ldc_w 268, 3) := by decide +kernel
theorem dX12_draw_9 : decode cX12_draw 9 = .ok (.aload_n 0, 1) := by decide +kernel
theorem dX12_draw_10 : decode cX12_draw 10 = .ok (.getfield 13, 3) := by decide +kernel
theorem dX12_draw_13 : decode cX12_draw 13 = .ok (.bipush 32, 2) := by decide +kernel
theorem dX12_draw_15 : decode cX12_draw 15 = .ok (.iaload, 1) := by decide +kernel
theorem dX12_draw_16 : decode cX12_draw 16 = .ok (.imul, 1) := by decide +kernel
theorem dX12_draw_17 : decode cX12_draw 17 = .ok (.sipush 12345, 3) := by decide +kernel
theorem dX12_draw_20 : decode cX12_draw 20 = .ok (.iadd, 1) := by decide +kernel
theorem dX12_draw_21 : decode cX12_draw 21 = .ok (.iastore, 1) := by decide +kernel
theorem dX12_draw_22 : decode cX12_draw 22 = .ok (.aload_n 0, 1) := by decide +kernel
theorem dX12_draw_23 : decode cX12_draw 23 = .ok (.getfield 13, 3) := by decide +kernel
theorem dX12_draw_26 : decode cX12_draw 26 = .ok (.bipush 32, 2) := by decide +kernel
theorem dX12_draw_28 : decode cX12_draw 28 = .ok (.iaload, 1) := by decide +kernel
theorem dX12_draw_29 : decode cX12_draw 29 = .ok (.bipush 16, 2) := by decide +kernel
theorem dX12_draw_31 : decode cX12_draw 31 = .ok (.iushr, 1) := by decide +kernel
theorem dX12_draw_32 : decode cX12_draw 32 = .ok (.iload_n 1, 1) := by decide +kernel
theorem dX12_draw_33 : decode cX12_draw 33 = .ok (.irem, 1) := by decide +kernel
theorem dX12_draw_34 : decode cX12_draw 34 = .ok (.ireturn, 1) := by decide +kernel
theorem dX12_oddsAll_0 : decode cX12_oddsAll 0 = .ok (.iconst 0, 1) := by decide +kernel
theorem dX12_oddsAll_1 : decode cX12_oddsAll 1 = .ok (.istore_n 1, 1) := by decide +kernel
theorem dX12_oddsAll_2 : decode cX12_oddsAll 2 = .ok (.iconst 0, 1) := by decide +kernel
theorem dX12_oddsAll_3 : decode cX12_oddsAll 3 = .ok (.istore_n 2, 1) := by decide +kernel
theorem dX12_oddsAll_4 : decode cX12_oddsAll 4 = .ok (.iload_n 2, 1) := by decide +kernel
theorem dX12_oddsAll_5 : decode cX12_oddsAll 5 = .ok (.aload_n 0, 1) := by decide +kernel
theorem dX12_oddsAll_6 : decode cX12_oddsAll 6 = .ok (.getfield 13, 3) := by decide +kernel
theorem dX12_oddsAll_9 : decode cX12_oddsAll 9 = .ok (.iconst 1, 1) := by decide +kernel
theorem dX12_oddsAll_10 : decode cX12_oddsAll 10 = .ok (.iaload, 1) := by decide +kernel
theorem dX12_oddsAll_11 : decode cX12_oddsAll 11 = .ok (.if_icmp .ge 21, 3) := by decide +kernel
theorem dX12_oddsAll_14 : decode cX12_oddsAll 14 = .ok (.iload_n 1, 1) := by decide +kernel
theorem dX12_oddsAll_15 : decode cX12_oddsAll 15 = .ok (.aload_n 0, 1) := by decide +kernel
theorem dX12_oddsAll_16 : decode cX12_oddsAll 16 = .ok (.getfield 13, 3) := by decide +kernel
theorem dX12_oddsAll_19 : decode cX12_oddsAll 19 = .ok (.bipush 20, 2) := by decide +kernel
theorem dX12_oddsAll_21 : decode cX12_oddsAll 21 = .ok (.iload_n 2, 1) := by decide +kernel
theorem dX12_oddsAll_22 : decode cX12_oddsAll 22 = .ok (.iadd, 1) := by decide +kernel
theorem dX12_oddsAll_23 : decode cX12_oddsAll 23 = .ok (.iaload, 1) := by decide +kernel
theorem dX12_oddsAll_24 : decode cX12_oddsAll 24 = .ok (.iadd, 1) := by decide +kernel
theorem dX12_oddsAll_25 : decode cX12_oddsAll 25 = .ok (.istore_n 1, 1) := by decide +kernel
theorem dX12_oddsAll_26 : decode cX12_oddsAll 26 = .ok (.iinc 2 1, 3) := by decide +kernel
theorem dX12_oddsAll_29 : decode cX12_oddsAll 29 = .ok (.goto (-25), 3) := by decide +kernel
theorem dX12_oddsAll_32 : decode cX12_oddsAll 32 = .ok (.iload_n 1, 1) := by decide +kernel
theorem dX12_oddsAll_33 : decode cX12_oddsAll 33 = .ok (.ireturn, 1) := by decide +kernel
theorem dX12_goesDay_0 : decode cX12_goesDay 0 = .ok (.aload_n 0, 1) := by decide +kernel
theorem dX12_goesDay_1 : decode cX12_goesDay 1 = .ok (.getfield 13, 3) := by decide +kernel
theorem dX12_goesDay_4 : decode cX12_goesDay 4 = .ok (.bipush 31, 2) := by decide +kernel
theorem dX12_goesDay_6 : decode cX12_goesDay 6 = .ok (.dup2, 1) := by decide +kernel
theorem dX12_goesDay_7 : decode cX12_goesDay 7 = .ok (.iaload, 1) := by decide +kernel
theorem dX12_goesDay_8 : decode cX12_goesDay 8 = .ok (.iconst 1, 1) := by decide +kernel
theorem dX12_goesDay_9 : decode cX12_goesDay 9 = .ok (.iadd, 1) := by decide +kernel
theorem dX12_goesDay_10 : decode cX12_goesDay 10 = .ok (.iastore, 1) := by decide +kernel
theorem dX12_goesDay_11 : decode cX12_goesDay 11 = .ok (.aload_n 0, 1) := by decide +kernel
theorem dX12_goesDay_12 : decode cX12_goesDay 12 = .ok (.invokevirtual 269, 3) := by decide +kernel
theorem dX12_goesDay_15 : decode cX12_goesDay 15 = .ok (.istore_n 1, 1) := by decide +kernel
theorem dX12_goesDay_16 : decode cX12_goesDay 16 = .ok (.iload_n 1, 1) := by decide +kernel
theorem dX12_goesDay_17 : decode cX12_goesDay 17 = .ok (.ifCond .ne 5, 3) := by decide +kernel
theorem dX12_goesDay_20 : decode cX12_goesDay 20 = .ok (.iconst 0, 1) := by decide +kernel
theorem dX12_goesDay_21 : decode cX12_goesDay 21 = .ok (.ireturn, 1) := by decide +kernel
theorem dX12_goesDay_22 : decode cX12_goesDay 22 = .ok (.aload_n 0, 1) := by decide +kernel
theorem dX12_goesDay_23 : decode cX12_goesDay 23 = .ok (.iload_n 1, 1) := by decide +kernel
theorem dX12_goesDay_24 : decode cX12_goesDay 24 = .ok (.invokevirtual 272, 3) := by decide +kernel
theorem dX12_goesDay_27 : decode cX12_goesDay 27 = .ok (.istore_n 2, 1) := by decide +kernel
theorem dX12_goesDay_28 : decode cX12_goesDay 28 = .ok (.iconst 0, 1) := by decide +kernel
theorem dX12_goesDay_29 : decode cX12_goesDay 29 = .ok (.istore_n 3, 1) := by decide +kernel
theorem dX12_goesDay_30 : decode cX12_goesDay 30 = .ok (.iload_n 2, 1) := by decide +kernel
theorem dX12_goesDay_31 : decode cX12_goesDay 31 = .ok (.aload_n 0, 1) := by decide +kernel
theorem dX12_goesDay_32 : decode cX12_goesDay 32 = .ok (.getfield 13, 3) := by decide +kernel
theorem dX12_goesDay_35 : decode cX12_goesDay 35 = .ok (.bipush 20, 2) := by decide +kernel
theorem dX12_goesDay_37 : decode cX12_goesDay 37 = .ok (.iload_n 3, 1) := by decide +kernel
theorem dX12_goesDay_38 : decode cX12_goesDay 38 = .ok (.iadd, 1) := by decide +kernel
theorem dX12_goesDay_39 : decode cX12_goesDay 39 = .ok (.iaload, 1) := by decide +kernel
theorem dX12_goesDay_40 : decode cX12_goesDay 40 = .ok (.if_icmp .lt 21, 3) := by decide +kernel
theorem dX12_goesDay_43 : decode cX12_goesDay 43 = .ok (.iload_n 2, 1) := by decide +kernel
theorem dX12_goesDay_44 : decode cX12_goesDay 44 = .ok (.aload_n 0, 1) := by decide +kernel
theorem dX12_goesDay_45 : decode cX12_goesDay 45 = .ok (.getfield 13, 3) := by decide +kernel
theorem dX12_goesDay_48 : decode cX12_goesDay 48 = .ok (.bipush 20, 2) := by decide +kernel
theorem dX12_goesDay_50 : decode cX12_goesDay 50 = .ok (.iload_n 3, 1) := by decide +kernel
theorem dX12_goesDay_51 : decode cX12_goesDay 51 = .ok (.iadd, 1) := by decide +kernel
theorem dX12_goesDay_52 : decode cX12_goesDay 52 = .ok (.iaload, 1) := by decide +kernel
theorem dX12_goesDay_53 : decode cX12_goesDay 53 = .ok (.isub, 1) := by decide +kernel
theorem dX12_goesDay_54 : decode cX12_goesDay 54 = .ok (.istore_n 2, 1) := by decide +kernel
theorem dX12_goesDay_55 : decode cX12_goesDay 55 = .ok (.iinc 3 1, 3) := by decide +kernel
theorem dX12_goesDay_58 : decode cX12_goesDay 58 = .ok (.goto (-28), 3) := by decide +kernel
theorem dX12_goesDay_61 : decode cX12_goesDay 61 = .ok (.aload_n 0, 1) := by decide +kernel
theorem dX12_goesDay_62 : decode cX12_goesDay 62 = .ok (.iload_n 3, 1) := by decide +kernel
theorem dX12_goesDay_63 : decode cX12_goesDay 63 = .ok (.i2l, 1) := by decide +kernel
theorem dX12_goesDay_64 : decode cX12_goesDay 64 = .ok (.invokevirtual 275, 3) := by decide +kernel
theorem dX12_goesDay_67 : decode cX12_goesDay 67 = .ok (.ifCond .eq 5, 3) := by decide +kernel
theorem dX12_goesDay_70 : decode cX12_goesDay 70 = .ok (.iconst 0, 1) := by decide +kernel
theorem dX12_goesDay_71 : decode cX12_goesDay 71 = .ok (.ireturn, 1) := by decide +kernel
theorem dX12_goesDay_72 : decode cX12_goesDay 72 = .ok (.aload_n 0, 1) := by decide +kernel
theorem dX12_goesDay_73 : decode cX12_goesDay 73 = .ok (.iload_n 3, 1) := by decide +kernel
theorem dX12_goesDay_74 : decode cX12_goesDay 74 = .ok (.invokevirtual 279, 3) := by decide +kernel
theorem dX12_goesDay_77 : decode cX12_goesDay 77 = .ok (.pop, 1) := by decide +kernel
theorem dX12_goesDay_78 : decode cX12_goesDay 78 = .ok (.iconst 1, 1) := by decide +kernel
theorem dX12_goesDay_79 : decode cX12_goesDay 79 = .ok (.ireturn, 1) := by decide +kernel
theorem dX12_seed_0 : decode cX12_seed 0 = .ok (.aload_n 0, 1) := by decide +kernel
theorem dX12_seed_1 : decode cX12_seed 1 = .ok (.iconst 0, 1) := by decide +kernel
theorem dX12_seed_2 : decode cX12_seed 2 = .ok (.putfield 1, 3) := by decide +kernel
theorem dX12_seed_5 : decode cX12_seed 5 = .ok (.aload_n 0, 1) := by decide +kernel
theorem dX12_seed_6 : decode cX12_seed 6 = .ok (.invokevirtual 282, 3) := by decide +kernel
theorem dX12_seed_9 : decode cX12_seed 9 = .ok (.aload_n 0, 1) := by decide +kernel
theorem dX12_seed_10 : decode cX12_seed 10 = .ok (.getfield 13, 3) := by decide +kernel
theorem dX12_seed_13 : decode cX12_seed 13 = .ok (.bipush 32, 2) := by decide +kernel
theorem dX12_seed_15 : decode cX12_seed 15 = .ok (.iload_n 1, 1) := by decide +kernel
theorem dX12_seed_16 : decode cX12_seed 16 = .ok (.iastore, 1) := by decide +kernel
theorem dX12_seed_17 : decode cX12_seed 17 = .ok (.aload_n 0, 1) := by decide +kernel
theorem dX12_seed_18 : decode cX12_seed 18 = .ok (.invokevirtual 285, 3) := by decide +kernel
theorem dX12_seed_21 : decode cX12_seed 21 = .ok (.aload_n 0, 1) := by decide +kernel
theorem dX12_seed_22 : decode cX12_seed 22 = .ok (.getfield 36, 3) := by decide +kernel
theorem dX12_seed_25 : decode cX12_seed 25 = .ok (.bipush 6, 2) := by decide +kernel
theorem dX12_seed_27 : decode cX12_seed 27 = .ok (.iaload, 1) := by decide +kernel
theorem dX12_seed_28 : decode cX12_seed 28 = .ok (.ireturn, 1) := by decide +kernel
theorem dX12_visit_0 : decode cX12_visit 0 = .ok (.aload_n 0, 1) := by decide +kernel
theorem dX12_visit_1 : decode cX12_visit 1 = .ok (.iconst 0, 1) := by decide +kernel
theorem dX12_visit_2 : decode cX12_visit 2 = .ok (.putfield 1, 3) := by decide +kernel
theorem dX12_visit_5 : decode cX12_visit 5 = .ok (.aload_n 0, 1) := by decide +kernel
theorem dX12_visit_6 : decode cX12_visit 6 = .ok (.iload_n 1, 1) := by decide +kernel
theorem dX12_visit_7 : decode cX12_visit 7 = .ok (.i2l, 1) := by decide +kernel
theorem dX12_visit_8 : decode cX12_visit 8 = .ok (.invokevirtual 275, 3) := by decide +kernel
theorem dX12_visit_11 : decode cX12_visit 11 = .ok (.istore_n 2, 1) := by decide +kernel
theorem dX12_visit_12 : decode cX12_visit 12 = .ok (.iload_n 2, 1) := by decide +kernel
theorem dX12_visit_13 : decode cX12_visit 13 = .ok (.ifCond .eq 8, 3) := by decide +kernel
theorem dX12_visit_16 : decode cX12_visit 16 = .ok (.bipush (-10), 2) := by decide +kernel
theorem dX12_visit_18 : decode cX12_visit 18 = .ok (.iload_n 2, 1) := by decide +kernel
theorem dX12_visit_19 : decode cX12_visit 19 = .ok (.isub, 1) := by decide +kernel
theorem dX12_visit_20 : decode cX12_visit 20 = .ok (.ireturn, 1) := by decide +kernel
theorem dX12_visit_21 : decode cX12_visit 21 = .ok (.aload_n 0, 1) := by decide +kernel
theorem dX12_visit_22 : decode cX12_visit 22 = .ok (.invokevirtual 282, 3) := by decide +kernel
theorem dX12_visit_25 : decode cX12_visit 25 = .ok (.aload_n 0, 1) := by decide +kernel
theorem dX12_visit_26 : decode cX12_visit 26 = .ok (.iload_n 1, 1) := by decide +kernel
theorem dX12_visit_27 : decode cX12_visit 27 = .ok (.invokevirtual 279, 3) := by decide +kernel
theorem dX12_visit_30 : decode cX12_visit 30 = .ok (.istore_n 3, 1) := by decide +kernel
theorem dX12_visit_31 : decode cX12_visit 31 = .ok (.aload_n 0, 1) := by decide +kernel
theorem dX12_visit_32 : decode cX12_visit 32 = .ok (.invokevirtual 285, 3) := by decide +kernel
theorem dX12_visit_35 : decode cX12_visit 35 = .ok (.iload_n 3, 1) := by decide +kernel
theorem dX12_visit_36 : decode cX12_visit 36 = .ok (.ireturn, 1) := by decide +kernel
theorem dX12_gift_0 : decode cX12_gift 0 = .ok (.aload_n 0, 1) := by decide +kernel
theorem dX12_gift_1 : decode cX12_gift 1 = .ok (.iconst 0, 1) := by decide +kernel
theorem dX12_gift_2 : decode cX12_gift 2 = .ok (.putfield 1, 3) := by decide +kernel
theorem dX12_gift_5 : decode cX12_gift 5 = .ok (.aload_n 0, 1) := by decide +kernel
theorem dX12_gift_6 : decode cX12_gift 6 = .ok (.iload_n 1, 1) := by decide +kernel
theorem dX12_gift_7 : decode cX12_gift 7 = .ok (.i2l, 1) := by decide +kernel
theorem dX12_gift_8 : decode cX12_gift 8 = .ok (.invokevirtual 288, 3) := by decide +kernel
theorem dX12_gift_11 : decode cX12_gift 11 = .ok (.istore_n 2, 1) := by decide +kernel
theorem dX12_gift_12 : decode cX12_gift 12 = .ok (.iload_n 2, 1) := by decide +kernel
theorem dX12_gift_13 : decode cX12_gift 13 = .ok (.ifCond .eq 8, 3) := by decide +kernel
theorem dX12_gift_16 : decode cX12_gift 16 = .ok (.bipush (-10), 2) := by decide +kernel
theorem dX12_gift_18 : decode cX12_gift 18 = .ok (.iload_n 2, 1) := by decide +kernel
theorem dX12_gift_19 : decode cX12_gift 19 = .ok (.isub, 1) := by decide +kernel
theorem dX12_gift_20 : decode cX12_gift 20 = .ok (.ireturn, 1) := by decide +kernel
theorem dX12_gift_21 : decode cX12_gift 21 = .ok (.aload_n 0, 1) := by decide +kernel
theorem dX12_gift_22 : decode cX12_gift 22 = .ok (.invokevirtual 282, 3) := by decide +kernel
theorem dX12_gift_25 : decode cX12_gift 25 = .ok (.aload_n 0, 1) := by decide +kernel
theorem dX12_gift_26 : decode cX12_gift 26 = .ok (.getfield 13, 3) := by decide +kernel
theorem dX12_gift_29 : decode cX12_gift 29 = .ok (.bipush 30, 2) := by decide +kernel
theorem dX12_gift_31 : decode cX12_gift 31 = .ok (.dup2, 1) := by decide +kernel
theorem dX12_gift_32 : decode cX12_gift 32 = .ok (.iaload, 1) := by decide +kernel
theorem dX12_gift_33 : decode cX12_gift 33 = .ok (.iconst 1, 1) := by decide +kernel
theorem dX12_gift_34 : decode cX12_gift 34 = .ok (.iadd, 1) := by decide +kernel
theorem dX12_gift_35 : decode cX12_gift 35 = .ok (.iastore, 1) := by decide +kernel
theorem dX12_gift_36 : decode cX12_gift 36 = .ok (.aload_n 0, 1) := by decide +kernel
theorem dX12_gift_37 : decode cX12_gift 37 = .ok (.invokevirtual 285, 3) := by decide +kernel
theorem dX12_gift_40 : decode cX12_gift 40 = .ok (.aload_n 0, 1) := by decide +kernel
theorem dX12_gift_41 : decode cX12_gift 41 = .ok (.getfield 13, 3) := by decide +kernel
theorem dX12_gift_44 : decode cX12_gift 44 = .ok (.bipush 30, 2) := by decide +kernel
theorem dX12_gift_46 : decode cX12_gift 46 = .ok (.iaload, 1) := by decide +kernel
theorem dX12_gift_47 : decode cX12_gift 47 = .ok (.ireturn, 1) := by decide +kernel
theorem dX12_hide_0 : decode cX12_hide 0 = .ok (.aload_n 0, 1) := by decide +kernel
theorem dX12_hide_1 : decode cX12_hide 1 = .ok (.iconst 0, 1) := by decide +kernel
theorem dX12_hide_2 : decode cX12_hide 2 = .ok (.putfield 1, 3) := by decide +kernel
theorem dX12_hide_5 : decode cX12_hide 5 = .ok (.aload_n 0, 1) := by decide +kernel
theorem dX12_hide_6 : decode cX12_hide 6 = .ok (.iload_n 1, 1) := by decide +kernel
theorem dX12_hide_7 : decode cX12_hide 7 = .ok (.i2l, 1) := by decide +kernel
theorem dX12_hide_8 : decode cX12_hide 8 = .ok (.invokevirtual 288, 3) := by decide +kernel
theorem dX12_hide_11 : decode cX12_hide 11 = .ok (.istore_n 2, 1) := by decide +kernel
theorem dX12_hide_12 : decode cX12_hide 12 = .ok (.iload_n 2, 1) := by decide +kernel
theorem dX12_hide_13 : decode cX12_hide 13 = .ok (.ifCond .eq 8, 3) := by decide +kernel
theorem dX12_hide_16 : decode cX12_hide 16 = .ok (.bipush (-10), 2) := by decide +kernel
theorem dX12_hide_18 : decode cX12_hide 18 = .ok (.iload_n 2, 1) := by decide +kernel
theorem dX12_hide_19 : decode cX12_hide 19 = .ok (.isub, 1) := by decide +kernel
theorem dX12_hide_20 : decode cX12_hide 20 = .ok (.ireturn, 1) := by decide +kernel
theorem dX12_hide_21 : decode cX12_hide 21 = .ok (.aload_n 0, 1) := by decide +kernel
theorem dX12_hide_22 : decode cX12_hide 22 = .ok (.invokevirtual 282, 3) := by decide +kernel
theorem dX12_hide_25 : decode cX12_hide 25 = .ok (.aload_n 0, 1) := by decide +kernel
theorem dX12_hide_26 : decode cX12_hide 26 = .ok (.getfield 13, 3) := by decide +kernel
theorem dX12_hide_29 : decode cX12_hide 29 = .ok (.bipush 28, 2) := by decide +kernel
theorem dX12_hide_31 : decode cX12_hide 31 = .ok (.dup2, 1) := by decide +kernel
theorem dX12_hide_32 : decode cX12_hide 32 = .ok (.iaload, 1) := by decide +kernel
theorem dX12_hide_33 : decode cX12_hide 33 = .ok (.iconst 1, 1) := by decide +kernel
theorem dX12_hide_34 : decode cX12_hide 34 = .ok (.iload_n 1, 1) := by decide +kernel
theorem dX12_hide_35 : decode cX12_hide 35 = .ok (.ishl, 1) := by decide +kernel
theorem dX12_hide_36 : decode cX12_hide 36 = .ok (.ixor, 1) := by decide +kernel
theorem dX12_hide_37 : decode cX12_hide 37 = .ok (.iastore, 1) := by decide +kernel
theorem dX12_hide_38 : decode cX12_hide 38 = .ok (.aload_n 0, 1) := by decide +kernel
theorem dX12_hide_39 : decode cX12_hide 39 = .ok (.invokevirtual 285, 3) := by decide +kernel
theorem dX12_hide_42 : decode cX12_hide 42 = .ok (.aload_n 0, 1) := by decide +kernel
theorem dX12_hide_43 : decode cX12_hide 43 = .ok (.getfield 13, 3) := by decide +kernel
theorem dX12_hide_46 : decode cX12_hide 46 = .ok (.bipush 28, 2) := by decide +kernel
theorem dX12_hide_48 : decode cX12_hide 48 = .ok (.iaload, 1) := by decide +kernel
theorem dX12_hide_49 : decode cX12_hide 49 = .ok (.iload_n 1, 1) := by decide +kernel
theorem dX12_hide_50 : decode cX12_hide 50 = .ok (.ishr, 1) := by decide +kernel
theorem dX12_hide_51 : decode cX12_hide 51 = .ok (.iconst 1, 1) := by decide +kernel
theorem dX12_hide_52 : decode cX12_hide 52 = .ok (.iand, 1) := by decide +kernel
theorem dX12_hide_53 : decode cX12_hide 53 = .ok (.ireturn, 1) := by decide +kernel
theorem dX12_add_0 : decode cX12_add 0 = .ok (.aload_n 0, 1) := by decide +kernel
theorem dX12_add_1 : decode cX12_add 1 = .ok (.iconst 0, 1) := by decide +kernel
theorem dX12_add_2 : decode cX12_add 2 = .ok (.putfield 1, 3) := by decide +kernel
theorem dX12_add_5 : decode cX12_add 5 = .ok (.iload_n 1, 1) := by decide +kernel
theorem dX12_add_6 : decode cX12_add 6 = .ok (.i2l, 1) := by decide +kernel
theorem dX12_add_7 : decode cX12_add 7 = .ok (.invokestatic 265, 3) := by decide +kernel
theorem dX12_add_10 : decode cX12_add 10 = .ok (.ifCond .eq 15, 3) := by decide +kernel
theorem dX12_add_13 : decode cX12_add 13 = .ok (.iload_n 2, 1) := by decide +kernel
theorem dX12_add_14 : decode cX12_add 14 = .ok (.i2l, 1) := by decide +kernel
theorem dX12_add_15 : decode cX12_add 15 = .ok (.lconst 0, 1) := by decide +kernel
theorem dX12_add_16 : decode cX12_add 16 = .ok (.ldc2_w 291, 3) := by decide +kernel
theorem dX12_add_19 : decode cX12_add 19 = .ok (.invokestatic 142, 3) := by decide +kernel
theorem dX12_add_22 : decode cX12_add 22 = .ok (.ifCond .ne 6, 3) := by decide +kernel
theorem dX12_add_25 : decode cX12_add 25 = .ok (.bipush (-11), 2) := by decide +kernel
theorem dX12_add_27 : decode cX12_add 27 = .ok (.ireturn, 1) := by decide +kernel
theorem dX12_add_28 : decode cX12_add 28 = .ok (.aload_n 0, 1) := by decide +kernel
theorem dX12_add_29 : decode cX12_add 29 = .ok (.invokevirtual 259, 3) := by decide +kernel
theorem dX12_add_32 : decode cX12_add 32 = .ok (.ifCond .eq 6, 3) := by decide +kernel
theorem dX12_add_35 : decode cX12_add 35 = .ok (.bipush (-12), 2) := by decide +kernel
theorem dX12_add_37 : decode cX12_add 37 = .ok (.ireturn, 1) := by decide +kernel
theorem dX12_add_38 : decode cX12_add 38 = .ok (.aload_n 0, 1) := by decide +kernel
theorem dX12_add_39 : decode cX12_add 39 = .ok (.getfield 13, 3) := by decide +kernel
theorem dX12_add_42 : decode cX12_add 42 = .ok (.bipush 26, 2) := by decide +kernel
theorem dX12_add_44 : decode cX12_add 44 = .ok (.iaload, 1) := by decide +kernel
theorem dX12_add_45 : decode cX12_add 45 = .ok (.bipush 8, 2) := by decide +kernel
theorem dX12_add_47 : decode cX12_add 47 = .ok (.if_icmp .ne 6, 3) := by decide +kernel
theorem dX12_add_50 : decode cX12_add 50 = .ok (.bipush (-13), 2) := by decide +kernel
theorem dX12_add_52 : decode cX12_add 52 = .ok (.ireturn, 1) := by decide +kernel
theorem dX12_add_53 : decode cX12_add 53 = .ok (.aload_n 0, 1) := by decide +kernel
theorem dX12_add_54 : decode cX12_add 54 = .ok (.invokevirtual 282, 3) := by decide +kernel
theorem dX12_add_57 : decode cX12_add 57 = .ok (.aload_n 0, 1) := by decide +kernel
theorem dX12_add_58 : decode cX12_add 58 = .ok (.getfield 13, 3) := by decide +kernel
theorem dX12_add_61 : decode cX12_add 61 = .ok (.bipush 26, 2) := by decide +kernel
theorem dX12_add_63 : decode cX12_add 63 = .ok (.iaload, 1) := by decide +kernel
theorem dX12_add_64 : decode cX12_add 64 = .ok (.istore_n 3, 1) := by decide +kernel
theorem dX12_add_65 : decode cX12_add 65 = .ok (.aload_n 0, 1) := by decide +kernel
theorem dX12_add_66 : decode cX12_add 66 = .ok (.getfield 13, 3) := by decide +kernel
theorem dX12_add_69 : decode cX12_add 69 = .ok (.bipush 26, 2) := by decide +kernel
theorem dX12_add_71 : decode cX12_add 71 = .ok (.dup2, 1) := by decide +kernel
theorem dX12_add_72 : decode cX12_add 72 = .ok (.iaload, 1) := by decide +kernel
theorem dX12_add_73 : decode cX12_add 73 = .ok (.iconst 1, 1) := by decide +kernel
theorem dX12_add_74 : decode cX12_add 74 = .ok (.iadd, 1) := by decide +kernel
theorem dX12_add_75 : decode cX12_add 75 = .ok (.iastore, 1) := by decide +kernel
theorem dX12_add_76 : decode cX12_add 76 = .ok (.aload_n 0, 1) := by decide +kernel
theorem dX12_add_77 : decode cX12_add 77 = .ok (.getfield 13, 3) := by decide +kernel
theorem dX12_add_80 : decode cX12_add 80 = .ok (.bipush 33, 2) := by decide +kernel
theorem dX12_add_82 : decode cX12_add 82 = .ok (.iload_n 3, 1) := by decide +kernel
theorem dX12_add_83 : decode cX12_add 83 = .ok (.iadd, 1) := by decide +kernel
theorem dX12_add_84 : decode cX12_add 84 = .ok (.iload_n 1, 1) := by decide +kernel
theorem dX12_add_85 : decode cX12_add 85 = .ok (.iastore, 1) := by decide +kernel
theorem dX12_add_86 : decode cX12_add 86 = .ok (.aload_n 0, 1) := by decide +kernel
theorem dX12_add_87 : decode cX12_add 87 = .ok (.getfield 13, 3) := by decide +kernel
theorem dX12_add_90 : decode cX12_add 90 = .ok (.bipush 41, 2) := by decide +kernel
theorem dX12_add_92 : decode cX12_add 92 = .ok (.iload_n 3, 1) := by decide +kernel
theorem dX12_add_93 : decode cX12_add 93 = .ok (.iadd, 1) := by decide +kernel
theorem dX12_add_94 : decode cX12_add 94 = .ok (.iload_n 2, 1) := by decide +kernel
theorem dX12_add_95 : decode cX12_add 95 = .ok (.iastore, 1) := by decide +kernel
theorem dX12_add_96 : decode cX12_add 96 = .ok (.aload_n 0, 1) := by decide +kernel
theorem dX12_add_97 : decode cX12_add 97 = .ok (.invokevirtual 285, 3) := by decide +kernel
theorem dX12_add_100 : decode cX12_add 100 = .ok (.iload_n 3, 1) := by decide +kernel
theorem dX12_add_101 : decode cX12_add 101 = .ok (.ireturn, 1) := by decide +kernel
theorem dX12_price_0 : decode cX12_price 0 = .ok (.aload_n 0, 1) := by decide +kernel
theorem dX12_price_1 : decode cX12_price 1 = .ok (.iconst 0, 1) := by decide +kernel
theorem dX12_price_2 : decode cX12_price 2 = .ok (.putfield 1, 3) := by decide +kernel
theorem dX12_price_5 : decode cX12_price 5 = .ok (.aload_n 0, 1) := by decide +kernel
theorem dX12_price_6 : decode cX12_price 6 = .ok (.iload_n 1, 1) := by decide +kernel
theorem dX12_price_7 : decode cX12_price 7 = .ok (.i2l, 1) := by decide +kernel
theorem dX12_price_8 : decode cX12_price 8 = .ok (.iload_n 2, 1) := by decide +kernel
theorem dX12_price_9 : decode cX12_price 9 = .ok (.i2l, 1) := by decide +kernel
theorem dX12_price_10 : decode cX12_price 10 = .ok (.invokevirtual 293, 3) := by decide +kernel
theorem dX12_price_13 : decode cX12_price 13 = .ok (.istore_n 3, 1) := by decide +kernel
theorem dX12_price_14 : decode cX12_price 14 = .ok (.iload_n 3, 1) := by decide +kernel
theorem dX12_price_15 : decode cX12_price 15 = .ok (.ifCond .eq 8, 3) := by decide +kernel
theorem dX12_price_18 : decode cX12_price 18 = .ok (.bipush (-10), 2) := by decide +kernel
theorem dX12_price_20 : decode cX12_price 20 = .ok (.iload_n 3, 1) := by decide +kernel
theorem dX12_price_21 : decode cX12_price 21 = .ok (.isub, 1) := by decide +kernel
theorem dX12_price_22 : decode cX12_price 22 = .ok (.ireturn, 1) := by decide +kernel
theorem dX12_price_23 : decode cX12_price 23 = .ok (.aload_n 0, 1) := by decide +kernel
theorem dX12_price_24 : decode cX12_price 24 = .ok (.invokevirtual 282, 3) := by decide +kernel
theorem dX12_price_27 : decode cX12_price 27 = .ok (.aload_n 0, 1) := by decide +kernel
theorem dX12_price_28 : decode cX12_price 28 = .ok (.getfield 13, 3) := by decide +kernel
theorem dX12_price_31 : decode cX12_price 31 = .ok (.bipush 33, 2) := by decide +kernel
theorem dX12_price_33 : decode cX12_price 33 = .ok (.iload_n 1, 1) := by decide +kernel
theorem dX12_price_34 : decode cX12_price 34 = .ok (.iadd, 1) := by decide +kernel
theorem dX12_price_35 : decode cX12_price 35 = .ok (.iload_n 2, 1) := by decide +kernel
theorem dX12_price_36 : decode cX12_price 36 = .ok (.iastore, 1) := by decide +kernel
theorem dX12_price_37 : decode cX12_price 37 = .ok (.aload_n 0, 1) := by decide +kernel
theorem dX12_price_38 : decode cX12_price 38 = .ok (.invokevirtual 285, 3) := by decide +kernel
theorem dX12_price_41 : decode cX12_price 41 = .ok (.aload_n 0, 1) := by decide +kernel
theorem dX12_price_42 : decode cX12_price 42 = .ok (.getfield 36, 3) := by decide +kernel
theorem dX12_price_45 : decode cX12_price 45 = .ok (.bipush 7, 2) := by decide +kernel
theorem dX12_price_47 : decode cX12_price 47 = .ok (.iload_n 1, 1) := by decide +kernel
theorem dX12_price_48 : decode cX12_price 48 = .ok (.iadd, 1) := by decide +kernel
theorem dX12_price_49 : decode cX12_price 49 = .ok (.iaload, 1) := by decide +kernel
theorem dX12_price_50 : decode cX12_price 50 = .ok (.ireturn, 1) := by decide +kernel
theorem dX12_days_0 : decode cX12_days 0 = .ok (.aload_n 0, 1) := by decide +kernel
theorem dX12_days_1 : decode cX12_days 1 = .ok (.iconst 0, 1) := by decide +kernel
theorem dX12_days_2 : decode cX12_days 2 = .ok (.putfield 1, 3) := by decide +kernel
theorem dX12_days_5 : decode cX12_days 5 = .ok (.iload_n 1, 1) := by decide +kernel
theorem dX12_days_6 : decode cX12_days 6 = .ok (.i2l, 1) := by decide +kernel
theorem dX12_days_7 : decode cX12_days 7 = .ok (.lconst 1, 1) := by decide +kernel
theorem dX12_days_8 : decode cX12_days 8 = .ok (.ldc2_w 263, 3) := by decide +kernel
theorem dX12_days_11 : decode cX12_days 11 = .ok (.invokestatic 142, 3) := by decide +kernel
theorem dX12_days_14 : decode cX12_days 14 = .ok (.ifCond .ne 6, 3) := by decide +kernel
theorem dX12_days_17 : decode cX12_days 17 = .ok (.bipush (-3), 2) := by decide +kernel
theorem dX12_days_19 : decode cX12_days 19 = .ok (.ireturn, 1) := by decide +kernel
theorem dX12_days_20 : decode cX12_days 20 = .ok (.aload_n 0, 1) := by decide +kernel
theorem dX12_days_21 : decode cX12_days 21 = .ok (.invokevirtual 282, 3) := by decide +kernel
theorem dX12_days_24 : decode cX12_days 24 = .ok (.iconst 0, 1) := by decide +kernel
theorem dX12_days_25 : decode cX12_days 25 = .ok (.istore_n 2, 1) := by decide +kernel
theorem dX12_days_26 : decode cX12_days 26 = .ok (.iconst 0, 1) := by decide +kernel
theorem dX12_days_27 : decode cX12_days 27 = .ok (.istore_n 3, 1) := by decide +kernel
theorem dX12_days_28 : decode cX12_days 28 = .ok (.iload_n 3, 1) := by decide +kernel
theorem dX12_days_29 : decode cX12_days 29 = .ok (.iload_n 1, 1) := by decide +kernel
theorem dX12_days_30 : decode cX12_days 30 = .ok (.if_icmp .ge 16, 3) := by decide +kernel
theorem dX12_days_33 : decode cX12_days 33 = .ok (.iload_n 2, 1) := by decide +kernel
theorem dX12_days_34 : decode cX12_days 34 = .ok (.aload_n 0, 1) := by decide +kernel
theorem dX12_days_35 : decode cX12_days 35 = .ok (.invokevirtual 297, 3) := by decide +kernel
theorem dX12_days_38 : decode cX12_days 38 = .ok (.iadd, 1) := by decide +kernel
theorem dX12_days_39 : decode cX12_days 39 = .ok (.istore_n 2, 1) := by decide +kernel
theorem dX12_days_40 : decode cX12_days 40 = .ok (.iinc 3 1, 3) := by decide +kernel
theorem dX12_days_43 : decode cX12_days 43 = .ok (.goto (-15), 3) := by decide +kernel
theorem dX12_days_46 : decode cX12_days 46 = .ok (.aload_n 0, 1) := by decide +kernel
theorem dX12_days_47 : decode cX12_days 47 = .ok (.invokevirtual 285, 3) := by decide +kernel
theorem dX12_days_50 : decode cX12_days 50 = .ok (.iload_n 2, 1) := by decide +kernel
theorem dX12_days_51 : decode cX12_days 51 = .ok (.ireturn, 1) := by decide +kernel
theorem dX12_undo_0 : decode cX12_undo 0 = .ok (.aload_n 0, 1) := by decide +kernel
theorem dX12_undo_1 : decode cX12_undo 1 = .ok (.iconst 0, 1) := by decide +kernel
theorem dX12_undo_2 : decode cX12_undo 2 = .ok (.putfield 1, 3) := by decide +kernel
theorem dX12_undo_5 : decode cX12_undo 5 = .ok (.iload_n 1, 1) := by decide +kernel
theorem dX12_undo_6 : decode cX12_undo 6 = .ok (.i2l, 1) := by decide +kernel
theorem dX12_undo_7 : decode cX12_undo 7 = .ok (.lconst 1, 1) := by decide +kernel
theorem dX12_undo_8 : decode cX12_undo 8 = .ok (.ldc2_w 300, 3) := by decide +kernel
theorem dX12_undo_11 : decode cX12_undo 11 = .ok (.invokestatic 142, 3) := by decide +kernel
theorem dX12_undo_14 : decode cX12_undo 14 = .ok (.ifCond .eq 14, 3) := by decide +kernel
theorem dX12_undo_17 : decode cX12_undo 17 = .ok (.iload_n 1, 1) := by decide +kernel
theorem dX12_undo_18 : decode cX12_undo 18 = .ok (.aload_n 0, 1) := by decide +kernel
theorem dX12_undo_19 : decode cX12_undo 19 = .ok (.getfield 13, 3) := by decide +kernel
theorem dX12_undo_22 : decode cX12_undo 22 = .ok (.bipush 49, 2) := by decide +kernel
theorem dX12_undo_24 : decode cX12_undo 24 = .ok (.iaload, 1) := by decide +kernel
theorem dX12_undo_25 : decode cX12_undo 25 = .ok (.if_icmp .le 6, 3) := by decide +kernel
theorem dX12_undo_28 : decode cX12_undo 28 = .ok (.bipush (-3), 2) := by decide +kernel
theorem dX12_undo_30 : decode cX12_undo 30 = .ok (.ireturn, 1) := by decide +kernel
theorem dX12_undo_31 : decode cX12_undo 31 = .ok (.aload_n 0, 1) := by decide +kernel
theorem dX12_undo_32 : decode cX12_undo 32 = .ok (.getfield 13, 3) := by decide +kernel
theorem dX12_undo_35 : decode cX12_undo 35 = .ok (.bipush 49, 2) := by decide +kernel
theorem dX12_undo_37 : decode cX12_undo 37 = .ok (.dup2, 1) := by decide +kernel
theorem dX12_undo_38 : decode cX12_undo 38 = .ok (.iaload, 1) := by decide +kernel
theorem dX12_undo_39 : decode cX12_undo 39 = .ok (.iload_n 1, 1) := by decide +kernel
theorem dX12_undo_40 : decode cX12_undo 40 = .ok (.isub, 1) := by decide +kernel
theorem dX12_undo_41 : decode cX12_undo 41 = .ok (.iastore, 1) := by decide +kernel
theorem dX12_undo_42 : decode cX12_undo 42 = .ok (.iconst 0, 1) := by decide +kernel
theorem dX12_undo_43 : decode cX12_undo 43 = .ok (.istore_n 2, 1) := by decide +kernel
theorem dX12_undo_44 : decode cX12_undo 44 = .ok (.iload_n 2, 1) := by decide +kernel
theorem dX12_undo_45 : decode cX12_undo 45 = .ok (.bipush 23, 2) := by decide +kernel
theorem dX12_undo_47 : decode cX12_undo 47 = .ok (.if_icmp .ge 38, 3) := by decide +kernel
theorem dX12_undo_50 : decode cX12_undo 50 = .ok (.aload_n 0, 1) := by decide +kernel
theorem dX12_undo_51 : decode cX12_undo 51 = .ok (.getfield 13, 3) := by decide +kernel
theorem dX12_undo_54 : decode cX12_undo 54 = .ok (.bipush 26, 2) := by decide +kernel
theorem dX12_undo_56 : decode cX12_undo 56 = .ok (.iload_n 2, 1) := by decide +kernel
theorem dX12_undo_57 : decode cX12_undo 57 = .ok (.iadd, 1) := by decide +kernel
theorem dX12_undo_58 : decode cX12_undo 58 = .ok (.aload_n 0, 1) := by decide +kernel
theorem dX12_undo_59 : decode cX12_undo 59 = .ok (.getfield 13, 3) := by decide +kernel
theorem dX12_undo_62 : decode cX12_undo 62 = .ok (.bipush 50, 2) := by decide +kernel
theorem dX12_undo_64 : decode cX12_undo 64 = .ok (.bipush 23, 2) := by decide +kernel
theorem dX12_undo_66 : decode cX12_undo 66 = .ok (.aload_n 0, 1) := by decide +kernel
theorem dX12_undo_67 : decode cX12_undo 67 = .ok (.getfield 13, 3) := by decide +kernel
theorem dX12_undo_70 : decode cX12_undo 70 = .ok (.bipush 49, 2) := by decide +kernel
theorem dX12_undo_72 : decode cX12_undo 72 = .ok (.iaload, 1) := by decide +kernel
theorem dX12_undo_73 : decode cX12_undo 73 = .ok (.imul, 1) := by decide +kernel
theorem dX12_undo_74 : decode cX12_undo 74 = .ok (.iadd, 1) := by decide +kernel
theorem dX12_undo_75 : decode cX12_undo 75 = .ok (.iload_n 2, 1) := by decide +kernel
theorem dX12_undo_76 : decode cX12_undo 76 = .ok (.iadd, 1) := by decide +kernel
theorem dX12_undo_77 : decode cX12_undo 77 = .ok (.iaload, 1) := by decide +kernel
theorem dX12_undo_78 : decode cX12_undo 78 = .ok (.iastore, 1) := by decide +kernel
theorem dX12_undo_79 : decode cX12_undo 79 = .ok (.iinc 2 1, 3) := by decide +kernel
theorem dX12_undo_82 : decode cX12_undo 82 = .ok (.goto (-38), 3) := by decide +kernel
theorem dX12_undo_85 : decode cX12_undo 85 = .ok (.aload_n 0, 1) := by decide +kernel
theorem dX12_undo_86 : decode cX12_undo 86 = .ok (.getfield 13, 3) := by decide +kernel
theorem dX12_undo_89 : decode cX12_undo 89 = .ok (.bipush 49, 2) := by decide +kernel
theorem dX12_undo_91 : decode cX12_undo 91 = .ok (.iaload, 1) := by decide +kernel
theorem dX12_undo_92 : decode cX12_undo 92 = .ok (.ireturn, 1) := by decide +kernel
theorem dX12_whyNot_0 : decode cX12_whyNot 0 = .ok (.lload_n 1, 1) := by decide +kernel
theorem dX12_whyNot_1 : decode cX12_whyNot 1 = .ok (.ldc2_w 302, 3) := by decide +kernel
theorem dX12_whyNot_4 : decode cX12_whyNot 4 = .ok (.lcmp, 1) := by decide +kernel
theorem dX12_whyNot_5 : decode cX12_whyNot 5 = .ok (.ifCond .ne 5, 3) := by decide +kernel
theorem dX12_whyNot_8 : decode cX12_whyNot 8 = .ok (.iconst 0, 1) := by decide +kernel
theorem dX12_whyNot_9 : decode cX12_whyNot 9 = .ok (.ireturn, 1) := by decide +kernel
theorem dX12_whyNot_10 : decode cX12_whyNot 10 = .ok (.lload_n 1, 1) := by decide +kernel
theorem dX12_whyNot_11 : decode cX12_whyNot 11 = .ok (.lconst 0, 1) := by decide +kernel
theorem dX12_whyNot_12 : decode cX12_whyNot 12 = .ok (.ldc2_w 291, 3) := by decide +kernel
theorem dX12_whyNot_15 : decode cX12_whyNot 15 = .ok (.invokestatic 142, 3) := by decide +kernel
theorem dX12_whyNot_18 : decode cX12_whyNot 18 = .ok (.ifCond .eq 9, 3) := by decide +kernel
theorem dX12_whyNot_21 : decode cX12_whyNot 21 = .ok (.aload_n 0, 1) := by decide +kernel
theorem dX12_whyNot_22 : decode cX12_whyNot 22 = .ok (.lload_n 1, 1) := by decide +kernel
theorem dX12_whyNot_23 : decode cX12_whyNot 23 = .ok (.invokevirtual 275, 3) := by decide +kernel
theorem dX12_whyNot_26 : decode cX12_whyNot 26 = .ok (.ireturn, 1) := by decide +kernel
theorem dX12_whyNot_27 : decode cX12_whyNot 27 = .ok (.lload_n 1, 1) := by decide +kernel
theorem dX12_whyNot_28 : decode cX12_whyNot 28 = .ok (.ldc2_w 304, 3) := by decide +kernel
theorem dX12_whyNot_31 : decode cX12_whyNot 31 = .ok (.ldc2_w 306, 3) := by decide +kernel
theorem dX12_whyNot_34 : decode cX12_whyNot 34 = .ok (.invokestatic 142, 3) := by decide +kernel
theorem dX12_whyNot_37 : decode cX12_whyNot 37 = .ok (.ifCond .eq 13, 3) := by decide +kernel
theorem dX12_whyNot_40 : decode cX12_whyNot 40 = .ok (.aload_n 0, 1) := by decide +kernel
theorem dX12_whyNot_41 : decode cX12_whyNot 41 = .ok (.lload_n 1, 1) := by decide +kernel
theorem dX12_whyNot_42 : decode cX12_whyNot 42 = .ok (.ldc2_w 304, 3) := by decide +kernel
theorem dX12_whyNot_45 : decode cX12_whyNot 45 = .ok (.lsub, 1) := by decide +kernel
theorem dX12_whyNot_46 : decode cX12_whyNot 46 = .ok (.invokevirtual 288, 3) := by decide +kernel
theorem dX12_whyNot_49 : decode cX12_whyNot 49 = .ok (.ireturn, 1) := by decide +kernel
theorem dX12_whyNot_50 : decode cX12_whyNot 50 = .ok (.lload_n 1, 1) := by decide +kernel
theorem dX12_whyNot_51 : decode cX12_whyNot 51 = .ok (.ldc2_w 308, 3) := by decide +kernel
theorem dX12_whyNot_54 : decode cX12_whyNot 54 = .ok (.ldc2_w 310, 3) := by decide +kernel
theorem dX12_whyNot_57 : decode cX12_whyNot 57 = .ok (.invokestatic 142, 3) := by decide +kernel
theorem dX12_whyNot_60 : decode cX12_whyNot 60 = .ok (.ifCond .eq 13, 3) := by decide +kernel
theorem dX12_whyNot_63 : decode cX12_whyNot 63 = .ok (.aload_n 0, 1) := by decide +kernel
theorem dX12_whyNot_64 : decode cX12_whyNot 64 = .ok (.lload_n 1, 1) := by decide +kernel
theorem dX12_whyNot_65 : decode cX12_whyNot 65 = .ok (.ldc2_w 308, 3) := by decide +kernel
theorem dX12_whyNot_68 : decode cX12_whyNot 68 = .ok (.lsub, 1) := by decide +kernel
theorem dX12_whyNot_69 : decode cX12_whyNot 69 = .ok (.invokevirtual 288, 3) := by decide +kernel
theorem dX12_whyNot_72 : decode cX12_whyNot 72 = .ok (.ireturn, 1) := by decide +kernel
theorem dX12_whyNot_73 : decode cX12_whyNot 73 = .ok (.lload_n 1, 1) := by decide +kernel
theorem dX12_whyNot_74 : decode cX12_whyNot 74 = .ok (.ldc2_w 312, 3) := by decide +kernel
theorem dX12_whyNot_77 : decode cX12_whyNot 77 = .ok (.ldc2_w 314, 3) := by decide +kernel
theorem dX12_whyNot_80 : decode cX12_whyNot 80 = .ok (.invokestatic 142, 3) := by decide +kernel
theorem dX12_whyNot_83 : decode cX12_whyNot 83 = .ok (.ifCond .eq 24, 3) := by decide +kernel
theorem dX12_whyNot_86 : decode cX12_whyNot 86 = .ok (.aload_n 0, 1) := by decide +kernel
theorem dX12_whyNot_87 : decode cX12_whyNot 87 = .ok (.lload_n 1, 1) := by decide +kernel
theorem dX12_whyNot_88 : decode cX12_whyNot 88 = .ok (.ldc2_w 312, 3) := by decide +kernel
theorem dX12_whyNot_91 : decode cX12_whyNot 91 = .ok (.lsub, 1) := by decide +kernel
theorem dX12_whyNot_92 : decode cX12_whyNot 92 = .ok (.ldc2_w 304, 3) := by decide +kernel
theorem dX12_whyNot_95 : decode cX12_whyNot 95 = .ok (.ldiv, 1) := by decide +kernel
theorem dX12_whyNot_96 : decode cX12_whyNot 96 = .ok (.lload_n 1, 1) := by decide +kernel
theorem dX12_whyNot_97 : decode cX12_whyNot 97 = .ok (.ldc2_w 304, 3) := by decide +kernel
theorem dX12_whyNot_100 : decode cX12_whyNot 100 = .ok (.lrem, 1) := by decide +kernel
theorem dX12_whyNot_101 : decode cX12_whyNot 101 = .ok (.invokevirtual 293, 3) := by decide +kernel
theorem dX12_whyNot_104 : decode cX12_whyNot 104 = .ok (.goto 4, 3) := by decide +kernel
theorem dX12_whyNot_107 : decode cX12_whyNot 107 = .ok (.iconst 1, 1) := by decide +kernel
theorem dX12_whyNot_108 : decode cX12_whyNot 108 = .ok (.ireturn, 1) := by decide +kernel
theorem dX12_does_0 : decode cX12_does 0 = .ok (.iload_n 1, 1) := by decide +kernel
theorem dX12_does_1 : decode cX12_does 1 = .ok (.iconst (-1), 1) := by decide +kernel
theorem dX12_does_2 : decode cX12_does 2 = .ok (.if_icmp .ne 11, 3) := by decide +kernel
theorem dX12_does_5 : decode cX12_does 5 = .ok (.aload_n 0, 1) := by decide +kernel
theorem dX12_does_6 : decode cX12_does 6 = .ok (.invokevirtual 297, 3) := by decide +kernel
theorem dX12_does_9 : decode cX12_does 9 = .ok (.pop, 1) := by decide +kernel
theorem dX12_does_10 : decode cX12_does 10 = .ok (.goto 86, 3) := by decide +kernel
theorem dX12_does_13 : decode cX12_does 13 = .ok (.iload_n 1, 1) := by decide +kernel
theorem dX12_does_14 : decode cX12_does 14 = .ok (.bipush 100, 2) := by decide +kernel
theorem dX12_does_16 : decode cX12_does 16 = .ok (.if_icmp .ge 12, 3) := by decide +kernel
theorem dX12_does_19 : decode cX12_does 19 = .ok (.aload_n 0, 1) := by decide +kernel
theorem dX12_does_20 : decode cX12_does 20 = .ok (.iload_n 1, 1) := by decide +kernel
theorem dX12_does_21 : decode cX12_does 21 = .ok (.invokevirtual 279, 3) := by decide +kernel
theorem dX12_does_24 : decode cX12_does 24 = .ok (.pop, 1) := by decide +kernel
theorem dX12_does_25 : decode cX12_does 25 = .ok (.goto 71, 3) := by decide +kernel
theorem dX12_does_28 : decode cX12_does 28 = .ok (.iload_n 1, 1) := by decide +kernel
theorem dX12_does_29 : decode cX12_does 29 = .ok (.sipush 200, 3) := by decide +kernel
theorem dX12_does_32 : decode cX12_does 32 = .ok (.if_icmp .ge 17, 3) := by decide +kernel
theorem dX12_does_35 : decode cX12_does 35 = .ok (.aload_n 0, 1) := by decide +kernel
theorem dX12_does_36 : decode cX12_does 36 = .ok (.getfield 13, 3) := by decide +kernel
theorem dX12_does_39 : decode cX12_does 39 = .ok (.bipush 30, 2) := by decide +kernel
theorem dX12_does_41 : decode cX12_does 41 = .ok (.dup2, 1) := by decide +kernel
theorem dX12_does_42 : decode cX12_does 42 = .ok (.iaload, 1) := by decide +kernel
theorem dX12_does_43 : decode cX12_does 43 = .ok (.iconst 1, 1) := by decide +kernel
theorem dX12_does_44 : decode cX12_does 44 = .ok (.iadd, 1) := by decide +kernel
theorem dX12_does_45 : decode cX12_does 45 = .ok (.iastore, 1) := by decide +kernel
theorem dX12_does_46 : decode cX12_does 46 = .ok (.goto 50, 3) := by decide +kernel
theorem dX12_does_49 : decode cX12_does 49 = .ok (.iload_n 1, 1) := by decide +kernel
theorem dX12_does_50 : decode cX12_does 50 = .ok (.sipush 1000, 3) := by decide +kernel
theorem dX12_does_53 : decode cX12_does 53 = .ok (.if_icmp .ge 23, 3) := by decide +kernel
theorem dX12_does_56 : decode cX12_does 56 = .ok (.aload_n 0, 1) := by decide +kernel
theorem dX12_does_57 : decode cX12_does 57 = .ok (.getfield 13, 3) := by decide +kernel
theorem dX12_does_60 : decode cX12_does 60 = .ok (.bipush 28, 2) := by decide +kernel
theorem dX12_does_62 : decode cX12_does 62 = .ok (.dup2, 1) := by decide +kernel
theorem dX12_does_63 : decode cX12_does 63 = .ok (.iaload, 1) := by decide +kernel
theorem dX12_does_64 : decode cX12_does 64 = .ok (.iconst 1, 1) := by decide +kernel
theorem dX12_does_65 : decode cX12_does 65 = .ok (.iload_n 1, 1) := by decide +kernel
theorem dX12_does_66 : decode cX12_does 66 = .ok (.sipush 200, 3) := by decide +kernel
theorem dX12_does_69 : decode cX12_does 69 = .ok (.isub, 1) := by decide +kernel
theorem dX12_does_70 : decode cX12_does 70 = .ok (.ishl, 1) := by decide +kernel
theorem dX12_does_71 : decode cX12_does 71 = .ok (.ixor, 1) := by decide +kernel
theorem dX12_does_72 : decode cX12_does 72 = .ok (.iastore, 1) := by decide +kernel
theorem dX12_does_73 : decode cX12_does 73 = .ok (.goto 23, 3) := by decide +kernel
theorem dX12_does_76 : decode cX12_does 76 = .ok (.aload_n 0, 1) := by decide +kernel
theorem dX12_does_77 : decode cX12_does 77 = .ok (.getfield 13, 3) := by decide +kernel
theorem dX12_does_80 : decode cX12_does 80 = .ok (.bipush 33, 2) := by decide +kernel
theorem dX12_does_82 : decode cX12_does 82 = .ok (.iload_n 1, 1) := by decide +kernel
theorem dX12_does_83 : decode cX12_does 83 = .ok (.sipush 1000, 3) := by decide +kernel
theorem dX12_does_86 : decode cX12_does 86 = .ok (.isub, 1) := by decide +kernel
theorem dX12_does_87 : decode cX12_does 87 = .ok (.bipush 100, 2) := by decide +kernel
theorem dX12_does_89 : decode cX12_does 89 = .ok (.idiv, 1) := by decide +kernel
theorem dX12_does_90 : decode cX12_does 90 = .ok (.iadd, 1) := by decide +kernel
theorem dX12_does_91 : decode cX12_does 91 = .ok (.iload_n 1, 1) := by decide +kernel
theorem dX12_does_92 : decode cX12_does 92 = .ok (.bipush 100, 2) := by decide +kernel
theorem dX12_does_94 : decode cX12_does 94 = .ok (.irem, 1) := by decide +kernel
theorem dX12_does_95 : decode cX12_does 95 = .ok (.iastore, 1) := by decide +kernel
theorem dX12_does_96 : decode cX12_does 96 = .ok (.return_, 1) := by decide +kernel
theorem dX12_noTray_0 : decode cX12_noTray 0 = .ok (.iload_n 1, 1) := by decide +kernel
theorem dX12_noTray_1 : decode cX12_noTray 1 = .ok (.i2l, 1) := by decide +kernel
theorem dX12_noTray_2 : decode cX12_noTray 2 = .ok (.lconst 0, 1) := by decide +kernel
theorem dX12_noTray_3 : decode cX12_noTray 3 = .ok (.ldc2_w 325, 3) := by decide +kernel
theorem dX12_noTray_6 : decode cX12_noTray 6 = .ok (.invokestatic 142, 3) := by decide +kernel
theorem dX12_noTray_9 : decode cX12_noTray 9 = .ok (.ifCond .ne 8, 3) := by decide +kernel
theorem dX12_noTray_12 : decode cX12_noTray 12 = .ok (.bipush (-2), 2) := by decide +kernel
theorem dX12_noTray_14 : decode cX12_noTray 14 = .ok (.goto 19, 3) := by decide +kernel
theorem dX12_noTray_17 : decode cX12_noTray 17 = .ok (.aload_n 0, 1) := by decide +kernel
theorem dX12_noTray_18 : decode cX12_noTray 18 = .ok (.getfield 67, 3) := by decide +kernel
theorem dX12_noTray_21 : decode cX12_noTray 21 = .ok (.iload_n 1, 1) := by decide +kernel
theorem dX12_noTray_22 : decode cX12_noTray 22 = .ok (.iaload, 1) := by decide +kernel
theorem dX12_noTray_23 : decode cX12_noTray 23 = .ok (.iconst (-1), 1) := by decide +kernel
theorem dX12_noTray_24 : decode cX12_noTray 24 = .ok (.if_icmp .ne 8, 3) := by decide +kernel
theorem dX12_noTray_27 : decode cX12_noTray 27 = .ok (.bipush (-6), 2) := by decide +kernel
theorem dX12_noTray_29 : decode cX12_noTray 29 = .ok (.goto 4, 3) := by decide +kernel
theorem dX12_noTray_32 : decode cX12_noTray 32 = .ok (.iconst 0, 1) := by decide +kernel
theorem dX12_noTray_33 : decode cX12_noTray 33 = .ok (.ireturn, 1) := by decide +kernel
theorem dX12_judge_0 : decode cX12_judge 0 = .ok (.aload_n 0, 1) := by decide +kernel
theorem dX12_judge_1 : decode cX12_judge 1 = .ok (.iconst 0, 1) := by decide +kernel
theorem dX12_judge_2 : decode cX12_judge 2 = .ok (.putfield 1, 3) := by decide +kernel
theorem dX12_judge_5 : decode cX12_judge 5 = .ok (.iload_n 2, 1) := by decide +kernel
theorem dX12_judge_6 : decode cX12_judge 6 = .ok (.i2l, 1) := by decide +kernel
theorem dX12_judge_7 : decode cX12_judge 7 = .ok (.lconst 0, 1) := by decide +kernel
theorem dX12_judge_8 : decode cX12_judge 8 = .ok (.ldc2_w 325, 3) := by decide +kernel
theorem dX12_judge_11 : decode cX12_judge 11 = .ok (.invokestatic 142, 3) := by decide +kernel
theorem dX12_judge_14 : decode cX12_judge 14 = .ok (.ifCond .ne 6, 3) := by decide +kernel
theorem dX12_judge_17 : decode cX12_judge 17 = .ok (.bipush (-2), 2) := by decide +kernel
theorem dX12_judge_19 : decode cX12_judge 19 = .ok (.ireturn, 1) := by decide +kernel
theorem dX12_judge_20 : decode cX12_judge 20 = .ok (.aload_n 0, 1) := by decide +kernel
theorem dX12_judge_21 : decode cX12_judge 21 = .ok (.iload_n 1, 1) := by decide +kernel
theorem dX12_judge_22 : decode cX12_judge 22 = .ok (.invokevirtual 327, 3) := by decide +kernel
theorem dX12_judge_25 : decode cX12_judge 25 = .ok (.istore_n 3, 1) := by decide +kernel
theorem dX12_judge_26 : decode cX12_judge 26 = .ok (.iload_n 3, 1) := by decide +kernel
theorem dX12_judge_27 : decode cX12_judge 27 = .ok (.ifCond .eq 5, 3) := by decide +kernel
theorem dX12_judge_30 : decode cX12_judge 30 = .ok (.iload_n 3, 1) := by decide +kernel
theorem dX12_judge_31 : decode cX12_judge 31 = .ok (.ireturn, 1) := by decide +kernel
theorem dX12_judge_32 : decode cX12_judge 32 = .ok (.aload_n 0, 1) := by decide +kernel
theorem dX12_judge_33 : decode cX12_judge 33 = .ok (.invokevirtual 282, 3) := by decide +kernel
theorem dX12_judge_36 : decode cX12_judge 36 = .ok (.aload_n 0, 1) := by decide +kernel
theorem dX12_judge_37 : decode cX12_judge 37 = .ok (.iload_n 1, 1) := by decide +kernel
theorem dX12_judge_38 : decode cX12_judge 38 = .ok (.invokevirtual 330, 3) := by decide +kernel
theorem dX12_judge_41 : decode cX12_judge 41 = .ok (.istore 4, 2) := by decide +kernel
theorem dX12_judge_43 : decode cX12_judge 43 = .ok (.aload_n 0, 1) := by decide +kernel
theorem dX12_judge_44 : decode cX12_judge 44 = .ok (.getfield 13, 3) := by decide +kernel
theorem dX12_judge_47 : decode cX12_judge 47 = .ok (.bipush 27, 2) := by decide +kernel
theorem dX12_judge_49 : decode cX12_judge 49 = .ok (.iaload, 1) := by decide +kernel
theorem dX12_judge_50 : decode cX12_judge 50 = .ok (.istore 5, 2) := by decide +kernel
theorem dX12_judge_52 : decode cX12_judge 52 = .ok (.aload_n 0, 1) := by decide +kernel
theorem dX12_judge_53 : decode cX12_judge 53 = .ok (.getfield 13, 3) := by decide +kernel
theorem dX12_judge_56 : decode cX12_judge 56 = .ok (.bipush 29, 2) := by decide +kernel
theorem dX12_judge_58 : decode cX12_judge 58 = .ok (.iaload, 1) := by decide +kernel
theorem dX12_judge_59 : decode cX12_judge 59 = .ok (.istore 6, 2) := by decide +kernel
theorem dX12_judge_61 : decode cX12_judge 61 = .ok (.aload_n 0, 1) := by decide +kernel
theorem dX12_judge_62 : decode cX12_judge 62 = .ok (.invokevirtual 333, 3) := by decide +kernel
theorem dX12_judge_65 : decode cX12_judge 65 = .ok (.iload_n 2, 1) := by decide +kernel
theorem dX12_judge_66 : decode cX12_judge 66 = .ok (.ifCond .ne 19, 3) := by decide +kernel
theorem dX12_judge_69 : decode cX12_judge 69 = .ok (.aload_n 0, 1) := by decide +kernel
theorem dX12_judge_70 : decode cX12_judge 70 = .ok (.getfield 316, 3) := by decide +kernel
theorem dX12_judge_73 : decode cX12_judge 73 = .ok (.ifCond .ne 7, 3) := by decide +kernel
theorem dX12_judge_76 : decode cX12_judge 76 = .ok (.iconst (-1), 1) := by decide +kernel
theorem dX12_judge_77 : decode cX12_judge 77 = .ok (.goto 32, 3) := by decide +kernel
theorem dX12_judge_80 : decode cX12_judge 80 = .ok (.iload 4, 2) := by decide +kernel
theorem dX12_judge_82 : decode cX12_judge 82 = .ok (.goto 27, 3) := by decide +kernel
theorem dX12_judge_85 : decode cX12_judge 85 = .ok (.iload_n 2, 1) := by decide +kernel
theorem dX12_judge_86 : decode cX12_judge 86 = .ok (.iconst 1, 1) := by decide +kernel
theorem dX12_judge_87 : decode cX12_judge 87 = .ok (.if_icmp .ne 10, 3) := by decide +kernel
theorem dX12_judge_90 : decode cX12_judge 90 = .ok (.aload_n 0, 1) := by decide +kernel
theorem dX12_judge_91 : decode cX12_judge 91 = .ok (.getfield 316, 3) := by decide +kernel
theorem dX12_judge_94 : decode cX12_judge 94 = .ok (.goto 15, 3) := by decide +kernel
theorem dX12_judge_97 : decode cX12_judge 97 = .ok (.iload_n 2, 1) := by decide +kernel
theorem dX12_judge_98 : decode cX12_judge 98 = .ok (.iconst 2, 1) := by decide +kernel
theorem dX12_judge_99 : decode cX12_judge 99 = .ok (.if_icmp .ne 8, 3) := by decide +kernel
theorem dX12_judge_102 : decode cX12_judge 102 = .ok (.iload 5, 2) := by decide +kernel
theorem dX12_judge_104 : decode cX12_judge 104 = .ok (.goto 5, 3) := by decide +kernel
theorem dX12_judge_107 : decode cX12_judge 107 = .ok (.iload 6, 2) := by decide +kernel
theorem dX12_judge_109 : decode cX12_judge 109 = .ok (.ireturn, 1) := by decide +kernel
theorem dX12_perform_0 : decode cX12_perform 0 = .ok (.aload_n 0, 1) := by decide +kernel
theorem dX12_perform_1 : decode cX12_perform 1 = .ok (.iconst 0, 1) := by decide +kernel
theorem dX12_perform_2 : decode cX12_perform 2 = .ok (.putfield 1, 3) := by decide +kernel
theorem dX12_perform_5 : decode cX12_perform 5 = .ok (.aload_n 0, 1) := by decide +kernel
theorem dX12_perform_6 : decode cX12_perform 6 = .ok (.iload_n 1, 1) := by decide +kernel
theorem dX12_perform_7 : decode cX12_perform 7 = .ok (.invokevirtual 327, 3) := by decide +kernel
theorem dX12_perform_10 : decode cX12_perform 10 = .ok (.istore_n 2, 1) := by decide +kernel
theorem dX12_perform_11 : decode cX12_perform 11 = .ok (.iload_n 2, 1) := by decide +kernel
theorem dX12_perform_12 : decode cX12_perform 12 = .ok (.ifCond .eq 5, 3) := by decide +kernel
theorem dX12_perform_15 : decode cX12_perform 15 = .ok (.iload_n 2, 1) := by decide +kernel
theorem dX12_perform_16 : decode cX12_perform 16 = .ok (.ireturn, 1) := by decide +kernel
theorem dX12_perform_17 : decode cX12_perform 17 = .ok (.aload_n 0, 1) := by decide +kernel
theorem dX12_perform_18 : decode cX12_perform 18 = .ok (.invokevirtual 282, 3) := by decide +kernel
theorem dX12_perform_21 : decode cX12_perform 21 = .ok (.aload_n 0, 1) := by decide +kernel
theorem dX12_perform_22 : decode cX12_perform 22 = .ok (.iload_n 1, 1) := by decide +kernel
theorem dX12_perform_23 : decode cX12_perform 23 = .ok (.invokevirtual 330, 3) := by decide +kernel
theorem dX12_perform_26 : decode cX12_perform 26 = .ok (.istore_n 3, 1) := by decide +kernel
theorem dX12_perform_27 : decode cX12_perform 27 = .ok (.iload_n 3, 1) := by decide +kernel
theorem dX12_perform_28 : decode cX12_perform 28 = .ok (.ifCond .le 7, 3) := by decide +kernel
theorem dX12_perform_31 : decode cX12_perform 31 = .ok (.aload_n 0, 1) := by decide +kernel
theorem dX12_perform_32 : decode cX12_perform 32 = .ok (.invokevirtual 285, 3) := by decide +kernel
theorem dX12_perform_35 : decode cX12_perform 35 = .ok (.iload_n 3, 1) := by decide +kernel
theorem dX12_perform_36 : decode cX12_perform 36 = .ok (.ireturn, 1) := by decide +kernel
theorem dX12_drawn_0 : decode cX12_drawn 0 = .ok (.aload_n 0, 1) := by decide +kernel
theorem dX12_drawn_1 : decode cX12_drawn 1 = .ok (.iconst 5, 1) := by decide +kernel
theorem dX12_drawn_2 : decode cX12_drawn 2 = .ok (.invokevirtual 272, 3) := by decide +kernel
theorem dX12_drawn_5 : decode cX12_drawn 5 = .ok (.istore_n 1, 1) := by decide +kernel
theorem dX12_drawn_6 : decode cX12_drawn 6 = .ok (.iload_n 1, 1) := by decide +kernel
theorem dX12_drawn_7 : decode cX12_drawn 7 = .ok (.iconst 2, 1) := by decide +kernel
theorem dX12_drawn_8 : decode cX12_drawn 8 = .ok (.if_icmp .ge 7, 3) := by decide +kernel
theorem dX12_drawn_11 : decode cX12_drawn 11 = .ok (.iconst (-1), 1) := by decide +kernel
theorem dX12_drawn_12 : decode cX12_drawn 12 = .ok (.goto 30, 3) := by decide +kernel
theorem dX12_drawn_15 : decode cX12_drawn 15 = .ok (.iload_n 1, 1) := by decide +kernel
theorem dX12_drawn_16 : decode cX12_drawn 16 = .ok (.iconst 2, 1) := by decide +kernel
theorem dX12_drawn_17 : decode cX12_drawn 17 = .ok (.if_icmp .ne 12, 3) := by decide +kernel
theorem dX12_drawn_20 : decode cX12_drawn 20 = .ok (.aload_n 0, 1) := by decide +kernel
theorem dX12_drawn_21 : decode cX12_drawn 21 = .ok (.bipush 6, 2) := by decide +kernel
theorem dX12_drawn_23 : decode cX12_drawn 23 = .ok (.invokevirtual 272, 3) := by decide +kernel
theorem dX12_drawn_26 : decode cX12_drawn 26 = .ok (.goto 16, 3) := by decide +kernel
theorem dX12_drawn_29 : decode cX12_drawn 29 = .ok (.bipush 100, 2) := by decide +kernel
theorem dX12_drawn_31 : decode cX12_drawn 31 = .ok (.iload_n 1, 1) := by decide +kernel
theorem dX12_drawn_32 : decode cX12_drawn 32 = .ok (.iconst 2, 1) := by decide +kernel
theorem dX12_drawn_33 : decode cX12_drawn 33 = .ok (.isub, 1) := by decide +kernel
theorem dX12_drawn_34 : decode cX12_drawn 34 = .ok (.imul, 1) := by decide +kernel
theorem dX12_drawn_35 : decode cX12_drawn 35 = .ok (.aload_n 0, 1) := by decide +kernel
theorem dX12_drawn_36 : decode cX12_drawn 36 = .ok (.bipush 8, 2) := by decide +kernel
theorem dX12_drawn_38 : decode cX12_drawn 38 = .ok (.invokevirtual 272, 3) := by decide +kernel
theorem dX12_drawn_41 : decode cX12_drawn 41 = .ok (.iadd, 1) := by decide +kernel
theorem dX12_drawn_42 : decode cX12_drawn 42 = .ok (.ireturn, 1) := by decide +kernel
theorem dX12_season_0 : decode cX12_season 0 = .ok (.aload_n 0, 1) := by decide +kernel
theorem dX12_season_1 : decode cX12_season 1 = .ok (.iconst 0, 1) := by decide +kernel
theorem dX12_season_2 : decode cX12_season 2 = .ok (.putfield 1, 3) := by decide +kernel
theorem dX12_season_5 : decode cX12_season 5 = .ok (.iload_n 2, 1) := by decide +kernel
theorem dX12_season_6 : decode cX12_season 6 = .ok (.i2l, 1) := by decide +kernel
theorem dX12_season_7 : decode cX12_season 7 = .ok (.lconst 1, 1) := by decide +kernel
theorem dX12_season_8 : decode cX12_season 8 = .ok (.ldc2_w 336, 3) := by decide +kernel
theorem dX12_season_11 : decode cX12_season 11 = .ok (.invokestatic 142, 3) := by decide +kernel
theorem dX12_season_14 : decode cX12_season 14 = .ok (.ifCond .ne 6, 3) := by decide +kernel
theorem dX12_season_17 : decode cX12_season 17 = .ok (.bipush (-3), 2) := by decide +kernel
theorem dX12_season_19 : decode cX12_season 19 = .ok (.ireturn, 1) := by decide +kernel
theorem dX12_season_20 : decode cX12_season 20 = .ok (.aload_n 0, 1) := by decide +kernel
theorem dX12_season_21 : decode cX12_season 21 = .ok (.invokevirtual 282, 3) := by decide +kernel
theorem dX12_season_24 : decode cX12_season 24 = .ok (.aload_n 0, 1) := by decide +kernel
theorem dX12_season_25 : decode cX12_season 25 = .ok (.getfield 13, 3) := by decide +kernel
theorem dX12_season_28 : decode cX12_season 28 = .ok (.bipush 32, 2) := by decide +kernel
theorem dX12_season_30 : decode cX12_season 30 = .ok (.iload_n 1, 1) := by decide +kernel
theorem dX12_season_31 : decode cX12_season 31 = .ok (.iastore, 1) := by decide +kernel
theorem dX12_season_32 : decode cX12_season 32 = .ok (.iconst 0, 1) := by decide +kernel
theorem dX12_season_33 : decode cX12_season 33 = .ok (.istore_n 3, 1) := by decide +kernel
theorem dX12_season_34 : decode cX12_season 34 = .ok (.iconst 0, 1) := by decide +kernel
theorem dX12_season_35 : decode cX12_season 35 = .ok (.istore 4, 2) := by decide +kernel
theorem dX12_season_37 : decode cX12_season 37 = .ok (.iload 4, 2) := by decide +kernel
theorem dX12_season_39 : decode cX12_season 39 = .ok (.iload_n 2, 1) := by decide +kernel
theorem dX12_season_40 : decode cX12_season 40 = .ok (.if_icmp .ge 37, 3) := by decide +kernel
theorem dX12_season_43 : decode cX12_season 43 = .ok (.aload_n 0, 1) := by decide +kernel
theorem dX12_season_44 : decode cX12_season 44 = .ok (.invokevirtual 338, 3) := by decide +kernel
theorem dX12_season_47 : decode cX12_season 47 = .ok (.istore 5, 2) := by decide +kernel
theorem dX12_season_49 : decode cX12_season 49 = .ok (.aload_n 0, 1) := by decide +kernel
theorem dX12_season_50 : decode cX12_season 50 = .ok (.iload 5, 2) := by decide +kernel
theorem dX12_season_52 : decode cX12_season 52 = .ok (.i2l, 1) := by decide +kernel
theorem dX12_season_53 : decode cX12_season 53 = .ok (.invokevirtual 319, 3) := by decide +kernel
theorem dX12_season_56 : decode cX12_season 56 = .ok (.ifCond .eq 6, 3) := by decide +kernel
theorem dX12_season_59 : decode cX12_season 59 = .ok (.goto 12, 3) := by decide +kernel
theorem dX12_season_62 : decode cX12_season 62 = .ok (.aload_n 0, 1) := by decide +kernel
theorem dX12_season_63 : decode cX12_season 63 = .ok (.iload 5, 2) := by decide +kernel
theorem dX12_season_65 : decode cX12_season 65 = .ok (.invokevirtual 322, 3) := by decide +kernel
theorem dX12_season_68 : decode cX12_season 68 = .ok (.iinc 3 1, 3) := by decide +kernel
theorem dX12_season_71 : decode cX12_season 71 = .ok (.iinc 4 1, 3) := by decide +kernel
theorem dX12_season_74 : decode cX12_season 74 = .ok (.goto (-37), 3) := by decide +kernel
theorem dX12_season_77 : decode cX12_season 77 = .ok (.iload_n 3, 1) := by decide +kernel
theorem dX12_season_78 : decode cX12_season 78 = .ok (.ifCond .le 10, 3) := by decide +kernel
theorem dX12_season_81 : decode cX12_season 81 = .ok (.aload_n 0, 1) := by decide +kernel
theorem dX12_season_82 : decode cX12_season 82 = .ok (.invokevirtual 285, 3) := by decide +kernel
theorem dX12_season_85 : decode cX12_season 85 = .ok (.goto 7, 3) := by decide +kernel
theorem dX12_season_88 : decode cX12_season 88 = .ok (.aload_n 0, 1) := by decide +kernel
theorem dX12_season_89 : decode cX12_season 89 = .ok (.invokevirtual 333, 3) := by decide +kernel
theorem dX12_season_92 : decode cX12_season 92 = .ok (.iload_n 3, 1) := by decide +kernel
theorem dX12_season_93 : decode cX12_season 93 = .ok (.ireturn, 1) := by decide +kernel
theorem dX12_laysBuys_0 : decode cX12_laysBuys 0 = .ok (.iconst 0, 1) := by decide +kernel
theorem dX12_laysBuys_1 : decode cX12_laysBuys 1 = .ok (.istore_n 1, 1) := by decide +kernel
theorem dX12_laysBuys_2 : decode cX12_laysBuys 2 = .ok (.iload_n 1, 1) := by decide +kernel
theorem dX12_laysBuys_3 : decode cX12_laysBuys 3 = .ok (.aload_n 0, 1) := by decide +kernel
theorem dX12_laysBuys_4 : decode cX12_laysBuys 4 = .ok (.invokevirtual 204, 3) := by decide +kernel
theorem dX12_laysBuys_7 : decode cX12_laysBuys 7 = .ok (.if_icmp .gt 44, 3) := by decide +kernel
theorem dX12_laysBuys_10 : decode cX12_laysBuys 10 = .ok (.iconst 0, 1) := by decide +kernel
theorem dX12_laysBuys_11 : decode cX12_laysBuys 11 = .ok (.istore_n 2, 1) := by decide +kernel
theorem dX12_laysBuys_12 : decode cX12_laysBuys 12 = .ok (.iload_n 2, 1) := by decide +kernel
theorem dX12_laysBuys_13 : decode cX12_laysBuys 13 = .ok (.aload_n 0, 1) := by decide +kernel
theorem dX12_laysBuys_14 : decode cX12_laysBuys 14 = .ok (.getfield 13, 3) := by decide +kernel
theorem dX12_laysBuys_17 : decode cX12_laysBuys 17 = .ok (.iconst 1, 1) := by decide +kernel
theorem dX12_laysBuys_18 : decode cX12_laysBuys 18 = .ok (.iaload, 1) := by decide +kernel
theorem dX12_laysBuys_19 : decode cX12_laysBuys 19 = .ok (.if_icmp .ge 26, 3) := by decide +kernel
theorem dX12_laysBuys_22 : decode cX12_laysBuys 22 = .ok (.aload_n 0, 1) := by decide +kernel
theorem dX12_laysBuys_23 : decode cX12_laysBuys 23 = .ok (.getfield 39, 3) := by decide +kernel
theorem dX12_laysBuys_26 : decode cX12_laysBuys 26 = .ok (.bipush 6, 2) := by decide +kernel
theorem dX12_laysBuys_28 : decode cX12_laysBuys 28 = .ok (.iload_n 1, 1) := by decide +kernel
theorem dX12_laysBuys_29 : decode cX12_laysBuys 29 = .ok (.imul, 1) := by decide +kernel
theorem dX12_laysBuys_30 : decode cX12_laysBuys 30 = .ok (.iload_n 2, 1) := by decide +kernel
theorem dX12_laysBuys_31 : decode cX12_laysBuys 31 = .ok (.iadd, 1) := by decide +kernel
theorem dX12_laysBuys_32 : decode cX12_laysBuys 32 = .ok (.aload_n 0, 1) := by decide +kernel
theorem dX12_laysBuys_33 : decode cX12_laysBuys 33 = .ok (.iload_n 2, 1) := by decide +kernel
theorem dX12_laysBuys_34 : decode cX12_laysBuys 34 = .ok (.iload_n 1, 1) := by decide +kernel
theorem dX12_laysBuys_35 : decode cX12_laysBuys 35 = .ok (.invokevirtual 239, 3) := by decide +kernel
theorem dX12_laysBuys_38 : decode cX12_laysBuys 38 = .ok (.iastore, 1) := by decide +kernel
theorem dX12_laysBuys_39 : decode cX12_laysBuys 39 = .ok (.iinc 2 1, 3) := by decide +kernel
theorem dX12_laysBuys_42 : decode cX12_laysBuys 42 = .ok (.goto (-30), 3) := by decide +kernel
theorem dX12_laysBuys_45 : decode cX12_laysBuys 45 = .ok (.iinc 1 1, 3) := by decide +kernel
theorem dX12_laysBuys_48 : decode cX12_laysBuys 48 = .ok (.goto (-46), 3) := by decide +kernel
theorem dX12_laysBuys_51 : decode cX12_laysBuys 51 = .ok (.return_, 1) := by decide +kernel
theorem dX12_laysEnding_0 : decode cX12_laysEnding 0 = .ok (.aload_n 0, 1) := by decide +kernel
theorem dX12_laysEnding_1 : decode cX12_laysEnding 1 = .ok (.invokevirtual 204, 3) := by decide +kernel
theorem dX12_laysEnding_4 : decode cX12_laysEnding 4 = .ok (.istore_n 2, 1) := by decide +kernel
theorem dX12_laysEnding_5 : decode cX12_laysEnding 5 = .ok (.iload_n 2, 1) := by decide +kernel
theorem dX12_laysEnding_6 : decode cX12_laysEnding 6 = .ok (.ifCond .lt 118, 3) := by decide +kernel
theorem dX12_laysEnding_9 : decode cX12_laysEnding 9 = .ok (.aload_n 0, 1) := by decide +kernel
theorem dX12_laysEnding_10 : decode cX12_laysEnding 10 = .ok (.iload_n 2, 1) := by decide +kernel
theorem dX12_laysEnding_11 : decode cX12_laysEnding 11 = .ok (.invokevirtual 210, 3) := by decide +kernel
theorem dX12_laysEnding_14 : decode cX12_laysEnding 14 = .ok (.ifCond .eq 7, 3) := by decide +kernel
theorem dX12_laysEnding_17 : decode cX12_laysEnding 17 = .ok (.iconst 0, 1) := by decide +kernel
theorem dX12_laysEnding_18 : decode cX12_laysEnding 18 = .ok (.goto 6, 3) := by decide +kernel
theorem dX12_laysEnding_21 : decode cX12_laysEnding 21 = .ok (.ldc_w 341, 3) := by decide +kernel
theorem dX12_laysEnding_24 : decode cX12_laysEnding 24 = .ok (.istore_n 3, 1) := by decide +kernel
theorem dX12_laysEnding_25 : decode cX12_laysEnding 25 = .ok (.iconst 0, 1) := by decide +kernel
theorem dX12_laysEnding_26 : decode cX12_laysEnding 26 = .ok (.istore 4, 2) := by decide +kernel
theorem dX12_laysEnding_28 : decode cX12_laysEnding 28 = .ok (.iload 4, 2) := by decide +kernel
theorem dX12_laysEnding_30 : decode cX12_laysEnding 30 = .ok (.aload_n 0, 1) := by decide +kernel
theorem dX12_laysEnding_31 : decode cX12_laysEnding 31 = .ok (.getfield 13, 3) := by decide +kernel
theorem dX12_laysEnding_34 : decode cX12_laysEnding 34 = .ok (.iconst 1, 1) := by decide +kernel
theorem dX12_laysEnding_35 : decode cX12_laysEnding 35 = .ok (.iaload, 1) := by decide +kernel
theorem dX12_laysEnding_36 : decode cX12_laysEnding 36 = .ok (.if_icmp .ge 75, 3) := by decide +kernel
theorem dX12_laysEnding_39 : decode cX12_laysEnding 39 = .ok (.iload 4, 2) := by decide +kernel
theorem dX12_laysEnding_41 : decode cX12_laysEnding 41 = .ok (.iload_n 1, 1) := by decide +kernel
theorem dX12_laysEnding_42 : decode cX12_laysEnding 42 = .ok (.if_icmp .ne 7, 3) := by decide +kernel
theorem dX12_laysEnding_45 : decode cX12_laysEnding 45 = .ok (.iconst (-1), 1) := by decide +kernel
theorem dX12_laysEnding_46 : decode cX12_laysEnding 46 = .ok (.goto 10, 3) := by decide +kernel
theorem dX12_laysEnding_49 : decode cX12_laysEnding 49 = .ok (.aload_n 0, 1) := by decide +kernel
theorem dX12_laysEnding_50 : decode cX12_laysEnding 50 = .ok (.iload_n 2, 1) := by decide +kernel
theorem dX12_laysEnding_51 : decode cX12_laysEnding 51 = .ok (.iload 4, 2) := by decide +kernel
theorem dX12_laysEnding_53 : decode cX12_laysEnding 53 = .ok (.invokevirtual 342, 3) := by decide +kernel
theorem dX12_laysEnding_56 : decode cX12_laysEnding 56 = .ok (.istore 5, 2) := by decide +kernel
theorem dX12_laysEnding_58 : decode cX12_laysEnding 58 = .ok (.iload 5, 2) := by decide +kernel
theorem dX12_laysEnding_60 : decode cX12_laysEnding 60 = .ok (.iconst (-1), 1) := by decide +kernel
theorem dX12_laysEnding_61 : decode cX12_laysEnding 61 = .ok (.if_icmp .eq 44, 3) := by decide +kernel
theorem dX12_laysEnding_64 : decode cX12_laysEnding 64 = .ok (.iload_n 2, 1) := by decide +kernel
theorem dX12_laysEnding_65 : decode cX12_laysEnding 65 = .ok (.i2l, 1) := by decide +kernel
theorem dX12_laysEnding_66 : decode cX12_laysEnding 66 = .ok (.iload 5, 2) := by decide +kernel
theorem dX12_laysEnding_68 : decode cX12_laysEnding 68 = .ok (.invokestatic 228, 3) := by decide +kernel
theorem dX12_laysEnding_71 : decode cX12_laysEnding 71 = .ok (.ifCond .eq 6, 3) := by decide +kernel
theorem dX12_laysEnding_74 : decode cX12_laysEnding 74 = .ok (.goto 31, 3) := by decide +kernel
theorem dX12_laysEnding_77 : decode cX12_laysEnding 77 = .ok (.aload_n 0, 1) := by decide +kernel
theorem dX12_laysEnding_78 : decode cX12_laysEnding 78 = .ok (.getfield 42, 3) := by decide +kernel
theorem dX12_laysEnding_81 : decode cX12_laysEnding 81 = .ok (.iload_n 2, 1) := by decide +kernel
theorem dX12_laysEnding_82 : decode cX12_laysEnding 82 = .ok (.iconst 1, 1) := by decide +kernel
theorem dX12_laysEnding_83 : decode cX12_laysEnding 83 = .ok (.iload 5, 2) := by decide +kernel
theorem dX12_laysEnding_85 : decode cX12_laysEnding 85 = .ok (.ishl, 1) := by decide +kernel
theorem dX12_laysEnding_86 : decode cX12_laysEnding 86 = .ok (.ior, 1) := by decide +kernel
theorem dX12_laysEnding_87 : decode cX12_laysEnding 87 = .ok (.iaload, 1) := by decide +kernel
theorem dX12_laysEnding_88 : decode cX12_laysEnding 88 = .ok (.iconst 1, 1) := by decide +kernel
theorem dX12_laysEnding_89 : decode cX12_laysEnding 89 = .ok (.iadd, 1) := by decide +kernel
theorem dX12_laysEnding_90 : decode cX12_laysEnding 90 = .ok (.istore 6, 2) := by decide +kernel
theorem dX12_laysEnding_92 : decode cX12_laysEnding 92 = .ok (.iload 6, 2) := by decide +kernel
theorem dX12_laysEnding_94 : decode cX12_laysEnding 94 = .ok (.iload_n 3, 1) := by decide +kernel
theorem dX12_laysEnding_95 : decode cX12_laysEnding 95 = .ok (.if_icmp .ge 8, 3) := by decide +kernel
theorem dX12_laysEnding_98 : decode cX12_laysEnding 98 = .ok (.iload 6, 2) := by decide +kernel
theorem dX12_laysEnding_100 : decode cX12_laysEnding 100 = .ok (.goto 4, 3) := by decide +kernel
theorem dX12_laysEnding_103 : decode cX12_laysEnding 103 = .ok (.iload_n 3, 1) := by decide +kernel
theorem dX12_laysEnding_104 : decode cX12_laysEnding 104 = .ok (.istore_n 3, 1) := by decide +kernel
theorem dX12_laysEnding_105 : decode cX12_laysEnding 105 = .ok (.iinc 4 1, 3) := by decide +kernel
theorem dX12_laysEnding_108 : decode cX12_laysEnding 108 = .ok (.goto (-80), 3) := by decide +kernel
theorem dX12_laysEnding_111 : decode cX12_laysEnding 111 = .ok (.aload_n 0, 1) := by decide +kernel
theorem dX12_laysEnding_112 : decode cX12_laysEnding 112 = .ok (.getfield 42, 3) := by decide +kernel
theorem dX12_laysEnding_115 : decode cX12_laysEnding 115 = .ok (.iload_n 2, 1) := by decide +kernel
theorem dX12_laysEnding_116 : decode cX12_laysEnding 116 = .ok (.iload_n 3, 1) := by decide +kernel
theorem dX12_laysEnding_117 : decode cX12_laysEnding 117 = .ok (.iastore, 1) := by decide +kernel
theorem dX12_laysEnding_118 : decode cX12_laysEnding 118 = .ok (.iinc 2 (-1), 3) := by decide +kernel
theorem dX12_laysEnding_121 : decode cX12_laysEnding 121 = .ok (.goto (-116), 3) := by decide +kernel
theorem dX12_laysEnding_124 : decode cX12_laysEnding 124 = .ok (.aload_n 0, 1) := by decide +kernel
theorem dX12_laysEnding_125 : decode cX12_laysEnding 125 = .ok (.getfield 42, 3) := by decide +kernel
theorem dX12_laysEnding_128 : decode cX12_laysEnding 128 = .ok (.aload_n 0, 1) := by decide +kernel
theorem dX12_laysEnding_129 : decode cX12_laysEnding 129 = .ok (.getfield 13, 3) := by decide +kernel
theorem dX12_laysEnding_132 : decode cX12_laysEnding 132 = .ok (.bipush 27, 2) := by decide +kernel
theorem dX12_laysEnding_134 : decode cX12_laysEnding 134 = .ok (.iaload, 1) := by decide +kernel
theorem dX12_laysEnding_135 : decode cX12_laysEnding 135 = .ok (.iaload, 1) := by decide +kernel
theorem dX12_laysEnding_136 : decode cX12_laysEnding 136 = .ok (.ldc_w 341, 3) := by decide +kernel
theorem dX12_laysEnding_139 : decode cX12_laysEnding 139 = .ok (.if_icmp .lt 7, 3) := by decide +kernel
theorem dX12_laysEnding_142 : decode cX12_laysEnding 142 = .ok (.iconst (-1), 1) := by decide +kernel
theorem dX12_laysEnding_143 : decode cX12_laysEnding 143 = .ok (.goto 15, 3) := by decide +kernel
theorem dX12_laysEnding_146 : decode cX12_laysEnding 146 = .ok (.aload_n 0, 1) := by decide +kernel
theorem dX12_laysEnding_147 : decode cX12_laysEnding 147 = .ok (.getfield 42, 3) := by decide +kernel
theorem dX12_laysEnding_150 : decode cX12_laysEnding 150 = .ok (.aload_n 0, 1) := by decide +kernel
theorem dX12_laysEnding_151 : decode cX12_laysEnding 151 = .ok (.getfield 13, 3) := by decide +kernel
theorem dX12_laysEnding_154 : decode cX12_laysEnding 154 = .ok (.bipush 27, 2) := by decide +kernel
theorem dX12_laysEnding_156 : decode cX12_laysEnding 156 = .ok (.iaload, 1) := by decide +kernel
theorem dX12_laysEnding_157 : decode cX12_laysEnding 157 = .ok (.iaload, 1) := by decide +kernel
theorem dX12_laysEnding_158 : decode cX12_laysEnding 158 = .ok (.ireturn, 1) := by decide +kernel
theorem dX12_endingNow_0 : decode cX12_endingNow 0 = .ok (.aload_n 0, 1) := by decide +kernel
theorem dX12_endingNow_1 : decode cX12_endingNow 1 = .ok (.invokevirtual 345, 3) := by decide +kernel
theorem dX12_endingNow_4 : decode cX12_endingNow 4 = .ok (.aload_n 0, 1) := by decide +kernel
theorem dX12_endingNow_5 : decode cX12_endingNow 5 = .ok (.iconst (-1), 1) := by decide +kernel
theorem dX12_endingNow_6 : decode cX12_endingNow 6 = .ok (.invokevirtual 348, 3) := by decide +kernel
theorem dX12_endingNow_9 : decode cX12_endingNow 9 = .ok (.ireturn, 1) := by decide +kernel
theorem dX12_laysEndingRow_0 : decode cX12_laysEndingRow 0 = .ok (.aload_n 0, 1) := by decide +kernel
theorem dX12_laysEndingRow_1 : decode cX12_laysEndingRow 1 = .ok (.invokevirtual 351, 3) := by decide +kernel
theorem dX12_laysEndingRow_4 : decode cX12_laysEndingRow 4 = .ok (.istore_n 1, 1) := by decide +kernel
theorem dX12_laysEndingRow_5 : decode cX12_laysEndingRow 5 = .ok (.aload_n 0, 1) := by decide +kernel
theorem dX12_laysEndingRow_6 : decode cX12_laysEndingRow 6 = .ok (.getfield 13, 3) := by decide +kernel
theorem dX12_laysEndingRow_9 : decode cX12_laysEndingRow 9 = .ok (.bipush 27, 2) := by decide +kernel
theorem dX12_laysEndingRow_11 : decode cX12_laysEndingRow 11 = .ok (.iaload, 1) := by decide +kernel
theorem dX12_laysEndingRow_12 : decode cX12_laysEndingRow 12 = .ok (.istore_n 2, 1) := by decide +kernel
theorem dX12_laysEndingRow_13 : decode cX12_laysEndingRow 13 = .ok (.iconst 0, 1) := by decide +kernel
theorem dX12_laysEndingRow_14 : decode cX12_laysEndingRow 14 = .ok (.istore_n 3, 1) := by decide +kernel
theorem dX12_laysEndingRow_15 : decode cX12_laysEndingRow 15 = .ok (.iload_n 3, 1) := by decide +kernel
theorem dX12_laysEndingRow_16 : decode cX12_laysEndingRow 16 = .ok (.iload_n 1, 1) := by decide +kernel
theorem dX12_laysEndingRow_17 : decode cX12_laysEndingRow 17 = .ok (.if_icmp .ge 88, 3) := by decide +kernel
theorem dX12_laysEndingRow_20 : decode cX12_laysEndingRow 20 = .ok (.iconst 0, 1) := by decide +kernel
theorem dX12_laysEndingRow_21 : decode cX12_laysEndingRow 21 = .ok (.istore 4, 2) := by decide +kernel
theorem dX12_laysEndingRow_23 : decode cX12_laysEndingRow 23 = .ok (.aload_n 0, 1) := by decide +kernel
theorem dX12_laysEndingRow_24 : decode cX12_laysEndingRow 24 = .ok (.iload_n 2, 1) := by decide +kernel
theorem dX12_laysEndingRow_25 : decode cX12_laysEndingRow 25 = .ok (.iload 4, 2) := by decide +kernel
theorem dX12_laysEndingRow_27 : decode cX12_laysEndingRow 27 = .ok (.invokevirtual 342, 3) := by decide +kernel
theorem dX12_laysEndingRow_30 : decode cX12_laysEndingRow 30 = .ok (.iconst (-1), 1) := by decide +kernel
theorem dX12_laysEndingRow_31 : decode cX12_laysEndingRow 31 = .ok (.if_icmp .eq 42, 3) := by decide +kernel
theorem dX12_laysEndingRow_34 : decode cX12_laysEndingRow 34 = .ok (.iload_n 2, 1) := by decide +kernel
theorem dX12_laysEndingRow_35 : decode cX12_laysEndingRow 35 = .ok (.i2l, 1) := by decide +kernel
theorem dX12_laysEndingRow_36 : decode cX12_laysEndingRow 36 = .ok (.aload_n 0, 1) := by decide +kernel
theorem dX12_laysEndingRow_37 : decode cX12_laysEndingRow 37 = .ok (.iload_n 2, 1) := by decide +kernel
theorem dX12_laysEndingRow_38 : decode cX12_laysEndingRow 38 = .ok (.iload 4, 2) := by decide +kernel
theorem dX12_laysEndingRow_40 : decode cX12_laysEndingRow 40 = .ok (.invokevirtual 342, 3) := by decide +kernel
theorem dX12_laysEndingRow_43 : decode cX12_laysEndingRow 43 = .ok (.invokestatic 228, 3) := by decide +kernel
theorem dX12_laysEndingRow_46 : decode cX12_laysEndingRow 46 = .ok (.ifCond .ne 27, 3) := by decide +kernel
theorem dX12_laysEndingRow_49 : decode cX12_laysEndingRow 49 = .ok (.aload_n 0, 1) := by decide +kernel
theorem dX12_laysEndingRow_50 : decode cX12_laysEndingRow 50 = .ok (.getfield 42, 3) := by decide +kernel
theorem dX12_laysEndingRow_53 : decode cX12_laysEndingRow 53 = .ok (.iload_n 2, 1) := by decide +kernel
theorem dX12_laysEndingRow_54 : decode cX12_laysEndingRow 54 = .ok (.iconst 1, 1) := by decide +kernel
theorem dX12_laysEndingRow_55 : decode cX12_laysEndingRow 55 = .ok (.aload_n 0, 1) := by decide +kernel
theorem dX12_laysEndingRow_56 : decode cX12_laysEndingRow 56 = .ok (.iload_n 2, 1) := by decide +kernel
theorem dX12_laysEndingRow_57 : decode cX12_laysEndingRow 57 = .ok (.iload 4, 2) := by decide +kernel
theorem dX12_laysEndingRow_59 : decode cX12_laysEndingRow 59 = .ok (.invokevirtual 342, 3) := by decide +kernel
theorem dX12_laysEndingRow_62 : decode cX12_laysEndingRow 62 = .ok (.ishl, 1) := by decide +kernel
theorem dX12_laysEndingRow_63 : decode cX12_laysEndingRow 63 = .ok (.ior, 1) := by decide +kernel
theorem dX12_laysEndingRow_64 : decode cX12_laysEndingRow 64 = .ok (.iaload, 1) := by decide +kernel
theorem dX12_laysEndingRow_65 : decode cX12_laysEndingRow 65 = .ok (.iload_n 1, 1) := by decide +kernel
theorem dX12_laysEndingRow_66 : decode cX12_laysEndingRow 66 = .ok (.iload_n 3, 1) := by decide +kernel
theorem dX12_laysEndingRow_67 : decode cX12_laysEndingRow 67 = .ok (.isub, 1) := by decide +kernel
theorem dX12_laysEndingRow_68 : decode cX12_laysEndingRow 68 = .ok (.iconst 1, 1) := by decide +kernel
theorem dX12_laysEndingRow_69 : decode cX12_laysEndingRow 69 = .ok (.isub, 1) := by decide +kernel
theorem dX12_laysEndingRow_70 : decode cX12_laysEndingRow 70 = .ok (.if_icmp .eq 9, 3) := by decide +kernel
theorem dX12_laysEndingRow_73 : decode cX12_laysEndingRow 73 = .ok (.iinc 4 1, 3) := by decide +kernel
theorem dX12_laysEndingRow_76 : decode cX12_laysEndingRow 76 = .ok (.goto (-53), 3) := by decide +kernel
theorem dX12_laysEndingRow_79 : decode cX12_laysEndingRow 79 = .ok (.aload_n 0, 1) := by decide +kernel
theorem dX12_laysEndingRow_80 : decode cX12_laysEndingRow 80 = .ok (.getfield 45, 3) := by decide +kernel
theorem dX12_laysEndingRow_83 : decode cX12_laysEndingRow 83 = .ok (.iload_n 3, 1) := by decide +kernel
theorem dX12_laysEndingRow_84 : decode cX12_laysEndingRow 84 = .ok (.iload 4, 2) := by decide +kernel
theorem dX12_laysEndingRow_86 : decode cX12_laysEndingRow 86 = .ok (.iastore, 1) := by decide +kernel
theorem dX12_laysEndingRow_87 : decode cX12_laysEndingRow 87 = .ok (.iload_n 2, 1) := by decide +kernel
theorem dX12_laysEndingRow_88 : decode cX12_laysEndingRow 88 = .ok (.iconst 1, 1) := by decide +kernel
theorem dX12_laysEndingRow_89 : decode cX12_laysEndingRow 89 = .ok (.aload_n 0, 1) := by decide +kernel
theorem dX12_laysEndingRow_90 : decode cX12_laysEndingRow 90 = .ok (.iload_n 2, 1) := by decide +kernel
theorem dX12_laysEndingRow_91 : decode cX12_laysEndingRow 91 = .ok (.iload 4, 2) := by decide +kernel
theorem dX12_laysEndingRow_93 : decode cX12_laysEndingRow 93 = .ok (.invokevirtual 342, 3) := by decide +kernel
theorem dX12_laysEndingRow_96 : decode cX12_laysEndingRow 96 = .ok (.ishl, 1) := by decide +kernel
theorem dX12_laysEndingRow_97 : decode cX12_laysEndingRow 97 = .ok (.ior, 1) := by decide +kernel
theorem dX12_laysEndingRow_98 : decode cX12_laysEndingRow 98 = .ok (.istore_n 2, 1) := by decide +kernel
theorem dX12_laysEndingRow_99 : decode cX12_laysEndingRow 99 = .ok (.iinc 3 1, 3) := by decide +kernel
theorem dX12_laysEndingRow_102 : decode cX12_laysEndingRow 102 = .ok (.goto (-87), 3) := by decide +kernel
theorem dX12_laysEndingRow_105 : decode cX12_laysEndingRow 105 = .ok (.iload_n 1, 1) := by decide +kernel
theorem dX12_laysEndingRow_106 : decode cX12_laysEndingRow 106 = .ok (.ireturn, 1) := by decide +kernel
theorem dX12_ending_0 : decode cX12_ending 0 = .ok (.aload_n 0, 1) := by decide +kernel
theorem dX12_ending_1 : decode cX12_ending 1 = .ok (.iconst 0, 1) := by decide +kernel
theorem dX12_ending_2 : decode cX12_ending 2 = .ok (.putfield 1, 3) := by decide +kernel
theorem dX12_ending_5 : decode cX12_ending 5 = .ok (.aload_n 0, 1) := by decide +kernel
theorem dX12_ending_6 : decode cX12_ending 6 = .ok (.invokevirtual 351, 3) := by decide +kernel
theorem dX12_ending_9 : decode cX12_ending 9 = .ok (.ireturn, 1) := by decide +kernel
theorem dX12_endingBy_0 : decode cX12_endingBy 0 = .ok (.aload_n 0, 1) := by decide +kernel
theorem dX12_endingBy_1 : decode cX12_endingBy 1 = .ok (.iconst 0, 1) := by decide +kernel
theorem dX12_endingBy_2 : decode cX12_endingBy 2 = .ok (.putfield 1, 3) := by decide +kernel
theorem dX12_endingBy_5 : decode cX12_endingBy 5 = .ok (.iload_n 1, 1) := by decide +kernel
theorem dX12_endingBy_6 : decode cX12_endingBy 6 = .ok (.ifCond .ge 6, 3) := by decide +kernel
theorem dX12_endingBy_9 : decode cX12_endingBy 9 = .ok (.bipush (-3), 2) := by decide +kernel
theorem dX12_endingBy_11 : decode cX12_endingBy 11 = .ok (.ireturn, 1) := by decide +kernel
theorem dX12_endingBy_12 : decode cX12_endingBy 12 = .ok (.aload_n 0, 1) := by decide +kernel
theorem dX12_endingBy_13 : decode cX12_endingBy 13 = .ok (.invokevirtual 354, 3) := by decide +kernel
theorem dX12_endingBy_16 : decode cX12_endingBy 16 = .ok (.istore_n 2, 1) := by decide +kernel
theorem dX12_endingBy_17 : decode cX12_endingBy 17 = .ok (.iload_n 1, 1) := by decide +kernel
theorem dX12_endingBy_18 : decode cX12_endingBy 18 = .ok (.iload_n 2, 1) := by decide +kernel
theorem dX12_endingBy_19 : decode cX12_endingBy 19 = .ok (.if_icmp .ge 12, 3) := by decide +kernel
theorem dX12_endingBy_22 : decode cX12_endingBy 22 = .ok (.aload_n 0, 1) := by decide +kernel
theorem dX12_endingBy_23 : decode cX12_endingBy 23 = .ok (.getfield 45, 3) := by decide +kernel
theorem dX12_endingBy_26 : decode cX12_endingBy 26 = .ok (.iload_n 1, 1) := by decide +kernel
theorem dX12_endingBy_27 : decode cX12_endingBy 27 = .ok (.iaload, 1) := by decide +kernel
theorem dX12_endingBy_28 : decode cX12_endingBy 28 = .ok (.goto 4, 3) := by decide +kernel
theorem dX12_endingBy_31 : decode cX12_endingBy 31 = .ok (.iconst (-1), 1) := by decide +kernel
theorem dX12_endingBy_32 : decode cX12_endingBy 32 = .ok (.ireturn, 1) := by decide +kernel
theorem dX12_beginsRows_0 : decode cX12_beginsRows 0 = .ok (.iconst 0, 1) := by decide +kernel
theorem dX12_beginsRows_1 : decode cX12_beginsRows 1 = .ok (.istore_n 1, 1) := by decide +kernel
theorem dX12_beginsRows_2 : decode cX12_beginsRows 2 = .ok (.iload_n 1, 1) := by decide +kernel
theorem dX12_beginsRows_3 : decode cX12_beginsRows 3 = .ok (.sipush 256, 3) := by decide +kernel
theorem dX12_beginsRows_6 : decode cX12_beginsRows 6 = .ok (.if_icmp .ge 31, 3) := by decide +kernel
theorem dX12_beginsRows_9 : decode cX12_beginsRows 9 = .ok (.aload_n 0, 1) := by decide +kernel
theorem dX12_beginsRows_10 : decode cX12_beginsRows 10 = .ok (.getfield 51, 3) := by decide +kernel
theorem dX12_beginsRows_13 : decode cX12_beginsRows 13 = .ok (.iload_n 1, 1) := by decide +kernel
theorem dX12_beginsRows_14 : decode cX12_beginsRows 14 = .ok (.iload_n 1, 1) := by decide +kernel
theorem dX12_beginsRows_15 : decode cX12_beginsRows 15 = .ok (.aload_n 0, 1) := by decide +kernel
theorem dX12_beginsRows_16 : decode cX12_beginsRows 16 = .ok (.getfield 13, 3) := by decide +kernel
theorem dX12_beginsRows_19 : decode cX12_beginsRows 19 = .ok (.bipush 27, 2) := by decide +kernel
theorem dX12_beginsRows_21 : decode cX12_beginsRows 21 = .ok (.iaload, 1) := by decide +kernel
theorem dX12_beginsRows_22 : decode cX12_beginsRows 22 = .ok (.if_icmp .ne 7, 3) := by decide +kernel
theorem dX12_beginsRows_25 : decode cX12_beginsRows 25 = .ok (.lconst 1, 1) := by decide +kernel
theorem dX12_beginsRows_26 : decode cX12_beginsRows 26 = .ok (.goto 4, 3) := by decide +kernel
theorem dX12_beginsRows_29 : decode cX12_beginsRows 29 = .ok (.lconst 0, 1) := by decide +kernel
theorem dX12_beginsRows_30 : decode cX12_beginsRows 30 = .ok (.lastore, 1) := by decide +kernel
theorem dX12_beginsRows_31 : decode cX12_beginsRows 31 = .ok (.iinc 1 1, 3) := by decide +kernel
theorem dX12_beginsRows_34 : decode cX12_beginsRows 34 = .ok (.goto (-32), 3) := by decide +kernel
theorem dX12_beginsRows_37 : decode cX12_beginsRows 37 = .ok (.return_, 1) := by decide +kernel
theorem dX12_goesRows_0 : decode cX12_goesRows 0 = .ok (.iconst 0, 1) := by decide +kernel
theorem dX12_goesRows_1 : decode cX12_goesRows 1 = .ok (.istore_n 3, 1) := by decide +kernel
theorem dX12_goesRows_2 : decode cX12_goesRows 2 = .ok (.iload_n 3, 1) := by decide +kernel
theorem dX12_goesRows_3 : decode cX12_goesRows 3 = .ok (.sipush 256, 3) := by decide +kernel
theorem dX12_goesRows_6 : decode cX12_goesRows 6 = .ok (.if_icmp .ge 16, 3) := by decide +kernel
theorem dX12_goesRows_9 : decode cX12_goesRows 9 = .ok (.aload_n 0, 1) := by decide +kernel
theorem dX12_goesRows_10 : decode cX12_goesRows 10 = .ok (.getfield 55, 3) := by decide +kernel
theorem dX12_goesRows_13 : decode cX12_goesRows 13 = .ok (.iload_n 3, 1) := by decide +kernel
theorem dX12_goesRows_14 : decode cX12_goesRows 14 = .ok (.lconst 0, 1) := by decide +kernel
theorem dX12_goesRows_15 : decode cX12_goesRows 15 = .ok (.lastore, 1) := by decide +kernel
theorem dX12_goesRows_16 : decode cX12_goesRows 16 = .ok (.iinc 3 1, 3) := by decide +kernel
theorem dX12_goesRows_19 : decode cX12_goesRows 19 = .ok (.goto (-17), 3) := by decide +kernel
theorem dX12_goesRows_22 : decode cX12_goesRows 22 = .ok (.iconst 0, 1) := by decide +kernel
theorem dX12_goesRows_23 : decode cX12_goesRows 23 = .ok (.istore_n 3, 1) := by decide +kernel
theorem dX12_goesRows_24 : decode cX12_goesRows 24 = .ok (.iload_n 3, 1) := by decide +kernel
theorem dX12_goesRows_25 : decode cX12_goesRows 25 = .ok (.aload_n 0, 1) := by decide +kernel
theorem dX12_goesRows_26 : decode cX12_goesRows 26 = .ok (.invokevirtual 204, 3) := by decide +kernel
theorem dX12_goesRows_29 : decode cX12_goesRows 29 = .ok (.if_icmp .gt 97, 3) := by decide +kernel
theorem dX12_goesRows_32 : decode cX12_goesRows 32 = .ok (.iconst 0, 1) := by decide +kernel
theorem dX12_goesRows_33 : decode cX12_goesRows 33 = .ok (.istore 4, 2) := by decide +kernel
theorem dX12_goesRows_35 : decode cX12_goesRows 35 = .ok (.iload 4, 2) := by decide +kernel
theorem dX12_goesRows_37 : decode cX12_goesRows 37 = .ok (.aload_n 0, 1) := by decide +kernel
theorem dX12_goesRows_38 : decode cX12_goesRows 38 = .ok (.getfield 13, 3) := by decide +kernel
theorem dX12_goesRows_41 : decode cX12_goesRows 41 = .ok (.iconst 1, 1) := by decide +kernel
theorem dX12_goesRows_42 : decode cX12_goesRows 42 = .ok (.iaload, 1) := by decide +kernel
theorem dX12_goesRows_43 : decode cX12_goesRows 43 = .ok (.if_icmp .ge 77, 3) := by decide +kernel
theorem dX12_goesRows_46 : decode cX12_goesRows 46 = .ok (.aload_n 0, 1) := by decide +kernel
theorem dX12_goesRows_47 : decode cX12_goesRows 47 = .ok (.getfield 51, 3) := by decide +kernel
theorem dX12_goesRows_50 : decode cX12_goesRows 50 = .ok (.iload_n 3, 1) := by decide +kernel
theorem dX12_goesRows_51 : decode cX12_goesRows 51 = .ok (.laload, 1) := by decide +kernel
theorem dX12_goesRows_52 : decode cX12_goesRows 52 = .ok (.lconst 0, 1) := by decide +kernel
theorem dX12_goesRows_53 : decode cX12_goesRows 53 = .ok (.lcmp, 1) := by decide +kernel
theorem dX12_goesRows_54 : decode cX12_goesRows 54 = .ok (.ifCond .le 66, 3) := by decide +kernel
theorem dX12_goesRows_57 : decode cX12_goesRows 57 = .ok (.aload_n 0, 1) := by decide +kernel
theorem dX12_goesRows_58 : decode cX12_goesRows 58 = .ok (.iload_n 3, 1) := by decide +kernel
theorem dX12_goesRows_59 : decode cX12_goesRows 59 = .ok (.iload 4, 2) := by decide +kernel
theorem dX12_goesRows_61 : decode cX12_goesRows 61 = .ok (.invokevirtual 342, 3) := by decide +kernel
theorem dX12_goesRows_64 : decode cX12_goesRows 64 = .ok (.istore 5, 2) := by decide +kernel
theorem dX12_goesRows_66 : decode cX12_goesRows 66 = .ok (.iload 5, 2) := by decide +kernel
theorem dX12_goesRows_68 : decode cX12_goesRows 68 = .ok (.iconst (-1), 1) := by decide +kernel
theorem dX12_goesRows_69 : decode cX12_goesRows 69 = .ok (.if_icmp .eq 45, 3) := by decide +kernel
theorem dX12_goesRows_72 : decode cX12_goesRows 72 = .ok (.iload_n 1, 1) := by decide +kernel
theorem dX12_goesRows_73 : decode cX12_goesRows 73 = .ok (.iconst (-1), 1) := by decide +kernel
theorem dX12_goesRows_74 : decode cX12_goesRows 74 = .ok (.if_icmp .eq 9, 3) := by decide +kernel
theorem dX12_goesRows_77 : decode cX12_goesRows 77 = .ok (.iload 5, 2) := by decide +kernel
theorem dX12_goesRows_79 : decode cX12_goesRows 79 = .ok (.iload_n 1, 1) := by decide +kernel
theorem dX12_goesRows_80 : decode cX12_goesRows 80 = .ok (.if_icmp .ne 34, 3) := by decide +kernel
theorem dX12_goesRows_83 : decode cX12_goesRows 83 = .ok (.iload_n 2, 1) := by decide +kernel
theorem dX12_goesRows_84 : decode cX12_goesRows 84 = .ok (.iconst (-1), 1) := by decide +kernel
theorem dX12_goesRows_85 : decode cX12_goesRows 85 = .ok (.if_icmp .eq 9, 3) := by decide +kernel
theorem dX12_goesRows_88 : decode cX12_goesRows 88 = .ok (.iload 4, 2) := by decide +kernel
theorem dX12_goesRows_90 : decode cX12_goesRows 90 = .ok (.iload_n 2, 1) := by decide +kernel
theorem dX12_goesRows_91 : decode cX12_goesRows 91 = .ok (.if_icmp .ne 23, 3) := by decide +kernel
theorem dX12_goesRows_94 : decode cX12_goesRows 94 = .ok (.aload_n 0, 1) := by decide +kernel
theorem dX12_goesRows_95 : decode cX12_goesRows 95 = .ok (.getfield 55, 3) := by decide +kernel
theorem dX12_goesRows_98 : decode cX12_goesRows 98 = .ok (.iload_n 3, 1) := by decide +kernel
theorem dX12_goesRows_99 : decode cX12_goesRows 99 = .ok (.iconst 1, 1) := by decide +kernel
theorem dX12_goesRows_100 : decode cX12_goesRows 100 = .ok (.iload 5, 2) := by decide +kernel
theorem dX12_goesRows_102 : decode cX12_goesRows 102 = .ok (.ishl, 1) := by decide +kernel
theorem dX12_goesRows_103 : decode cX12_goesRows 103 = .ok (.ior, 1) := by decide +kernel
theorem dX12_goesRows_104 : decode cX12_goesRows 104 = .ok (.dup2, 1) := by decide +kernel
theorem dX12_goesRows_105 : decode cX12_goesRows 105 = .ok (.laload, 1) := by decide +kernel
theorem dX12_goesRows_106 : decode cX12_goesRows 106 = .ok (.aload_n 0, 1) := by decide +kernel
theorem dX12_goesRows_107 : decode cX12_goesRows 107 = .ok (.getfield 51, 3) := by decide +kernel
theorem dX12_goesRows_110 : decode cX12_goesRows 110 = .ok (.iload_n 3, 1) := by decide +kernel
theorem dX12_goesRows_111 : decode cX12_goesRows 111 = .ok (.laload, 1) := by decide +kernel
theorem dX12_goesRows_112 : decode cX12_goesRows 112 = .ok (.ladd, 1) := by decide +kernel
theorem dX12_goesRows_113 : decode cX12_goesRows 113 = .ok (.lastore, 1) := by decide +kernel
theorem dX12_goesRows_114 : decode cX12_goesRows 114 = .ok (.iinc 4 1, 3) := by decide +kernel
theorem dX12_goesRows_117 : decode cX12_goesRows 117 = .ok (.goto (-82), 3) := by decide +kernel
theorem dX12_goesRows_120 : decode cX12_goesRows 120 = .ok (.iinc 3 1, 3) := by decide +kernel
theorem dX12_goesRows_123 : decode cX12_goesRows 123 = .ok (.goto (-99), 3) := by decide +kernel
theorem dX12_goesRows_126 : decode cX12_goesRows 126 = .ok (.iconst 0, 1) := by decide +kernel
theorem dX12_goesRows_127 : decode cX12_goesRows 127 = .ok (.istore_n 3, 1) := by decide +kernel
theorem dX12_goesRows_128 : decode cX12_goesRows 128 = .ok (.iload_n 3, 1) := by decide +kernel
theorem dX12_goesRows_129 : decode cX12_goesRows 129 = .ok (.sipush 256, 3) := by decide +kernel
theorem dX12_goesRows_132 : decode cX12_goesRows 132 = .ok (.if_icmp .ge 21, 3) := by decide +kernel
theorem dX12_goesRows_135 : decode cX12_goesRows 135 = .ok (.aload_n 0, 1) := by decide +kernel
theorem dX12_goesRows_136 : decode cX12_goesRows 136 = .ok (.getfield 51, 3) := by decide +kernel
theorem dX12_goesRows_139 : decode cX12_goesRows 139 = .ok (.iload_n 3, 1) := by decide +kernel
theorem dX12_goesRows_140 : decode cX12_goesRows 140 = .ok (.aload_n 0, 1) := by decide +kernel
theorem dX12_goesRows_141 : decode cX12_goesRows 141 = .ok (.getfield 55, 3) := by decide +kernel
theorem dX12_goesRows_144 : decode cX12_goesRows 144 = .ok (.iload_n 3, 1) := by decide +kernel
theorem dX12_goesRows_145 : decode cX12_goesRows 145 = .ok (.laload, 1) := by decide +kernel
theorem dX12_goesRows_146 : decode cX12_goesRows 146 = .ok (.lastore, 1) := by decide +kernel
theorem dX12_goesRows_147 : decode cX12_goesRows 147 = .ok (.iinc 3 1, 3) := by decide +kernel
theorem dX12_goesRows_150 : decode cX12_goesRows 150 = .ok (.goto (-22), 3) := by decide +kernel
theorem dX12_goesRows_153 : decode cX12_goesRows 153 = .ok (.return_, 1) := by decide +kernel
theorem dX12_sumRows_0 : decode cX12_sumRows 0 = .ok (.lconst 0, 1) := by decide +kernel
theorem dX12_sumRows_1 : decode cX12_sumRows 1 = .ok (.lstore_n 1, 1) := by decide +kernel
theorem dX12_sumRows_2 : decode cX12_sumRows 2 = .ok (.iconst 0, 1) := by decide +kernel
theorem dX12_sumRows_3 : decode cX12_sumRows 3 = .ok (.istore_n 3, 1) := by decide +kernel
theorem dX12_sumRows_4 : decode cX12_sumRows 4 = .ok (.iload_n 3, 1) := by decide +kernel
theorem dX12_sumRows_5 : decode cX12_sumRows 5 = .ok (.sipush 256, 3) := by decide +kernel
theorem dX12_sumRows_8 : decode cX12_sumRows 8 = .ok (.if_icmp .ge 18, 3) := by decide +kernel
theorem dX12_sumRows_11 : decode cX12_sumRows 11 = .ok (.lload_n 1, 1) := by decide +kernel
theorem dX12_sumRows_12 : decode cX12_sumRows 12 = .ok (.aload_n 0, 1) := by decide +kernel
theorem dX12_sumRows_13 : decode cX12_sumRows 13 = .ok (.getfield 51, 3) := by decide +kernel
theorem dX12_sumRows_16 : decode cX12_sumRows 16 = .ok (.iload_n 3, 1) := by decide +kernel
theorem dX12_sumRows_17 : decode cX12_sumRows 17 = .ok (.laload, 1) := by decide +kernel
theorem dX12_sumRows_18 : decode cX12_sumRows 18 = .ok (.ladd, 1) := by decide +kernel
theorem dX12_sumRows_19 : decode cX12_sumRows 19 = .ok (.lstore_n 1, 1) := by decide +kernel
theorem dX12_sumRows_20 : decode cX12_sumRows 20 = .ok (.iinc 3 1, 3) := by decide +kernel
theorem dX12_sumRows_23 : decode cX12_sumRows 23 = .ok (.goto (-19), 3) := by decide +kernel
theorem dX12_sumRows_26 : decode cX12_sumRows 26 = .ok (.lload_n 1, 1) := by decide +kernel
theorem dX12_sumRows_27 : decode cX12_sumRows 27 = .ok (.lreturn, 1) := by decide +kernel
theorem dX12_shutRows_0 : decode cX12_shutRows 0 = .ok (.lconst 0, 1) := by decide +kernel
theorem dX12_shutRows_1 : decode cX12_shutRows 1 = .ok (.lstore_n 1, 1) := by decide +kernel
theorem dX12_shutRows_2 : decode cX12_shutRows 2 = .ok (.iconst 0, 1) := by decide +kernel
theorem dX12_shutRows_3 : decode cX12_shutRows 3 = .ok (.istore_n 3, 1) := by decide +kernel
theorem dX12_shutRows_4 : decode cX12_shutRows 4 = .ok (.iload_n 3, 1) := by decide +kernel
theorem dX12_shutRows_5 : decode cX12_shutRows 5 = .ok (.sipush 256, 3) := by decide +kernel
theorem dX12_shutRows_8 : decode cX12_shutRows 8 = .ok (.if_icmp .ge 30, 3) := by decide +kernel
theorem dX12_shutRows_11 : decode cX12_shutRows 11 = .ok (.lload_n 1, 1) := by decide +kernel
theorem dX12_shutRows_12 : decode cX12_shutRows 12 = .ok (.aload_n 0, 1) := by decide +kernel
theorem dX12_shutRows_13 : decode cX12_shutRows 13 = .ok (.iload_n 3, 1) := by decide +kernel
theorem dX12_shutRows_14 : decode cX12_shutRows 14 = .ok (.invokevirtual 210, 3) := by decide +kernel
theorem dX12_shutRows_17 : decode cX12_shutRows 17 = .ok (.ifCond .eq 12, 3) := by decide +kernel
theorem dX12_shutRows_20 : decode cX12_shutRows 20 = .ok (.aload_n 0, 1) := by decide +kernel
theorem dX12_shutRows_21 : decode cX12_shutRows 21 = .ok (.getfield 51, 3) := by decide +kernel
theorem dX12_shutRows_24 : decode cX12_shutRows 24 = .ok (.iload_n 3, 1) := by decide +kernel
theorem dX12_shutRows_25 : decode cX12_shutRows 25 = .ok (.laload, 1) := by decide +kernel
theorem dX12_shutRows_26 : decode cX12_shutRows 26 = .ok (.goto 4, 3) := by decide +kernel
theorem dX12_shutRows_29 : decode cX12_shutRows 29 = .ok (.lconst 0, 1) := by decide +kernel
theorem dX12_shutRows_30 : decode cX12_shutRows 30 = .ok (.ladd, 1) := by decide +kernel
theorem dX12_shutRows_31 : decode cX12_shutRows 31 = .ok (.lstore_n 1, 1) := by decide +kernel
theorem dX12_shutRows_32 : decode cX12_shutRows 32 = .ok (.iinc 3 1, 3) := by decide +kernel
theorem dX12_shutRows_35 : decode cX12_shutRows 35 = .ok (.goto (-31), 3) := by decide +kernel
theorem dX12_shutRows_38 : decode cX12_shutRows 38 = .ok (.lload_n 1, 1) := by decide +kernel
theorem dX12_shutRows_39 : decode cX12_shutRows 39 = .ok (.lreturn, 1) := by decide +kernel
theorem dX12_endings_0 : decode cX12_endings 0 = .ok (.aload_n 0, 1) := by decide +kernel
theorem dX12_endings_1 : decode cX12_endings 1 = .ok (.iconst 0, 1) := by decide +kernel
theorem dX12_endings_2 : decode cX12_endings 2 = .ok (.putfield 1, 3) := by decide +kernel
theorem dX12_endings_5 : decode cX12_endings 5 = .ok (.iload_n 1, 1) := by decide +kernel
theorem dX12_endings_6 : decode cX12_endings 6 = .ok (.i2l, 1) := by decide +kernel
theorem dX12_endings_7 : decode cX12_endings 7 = .ok (.lconst 0, 1) := by decide +kernel
theorem dX12_endings_8 : decode cX12_endings 8 = .ok (.ldc2_w 357, 3) := by decide +kernel
theorem dX12_endings_11 : decode cX12_endings 11 = .ok (.invokestatic 142, 3) := by decide +kernel
theorem dX12_endings_14 : decode cX12_endings 14 = .ok (.ifCond .ne 7, 3) := by decide +kernel
theorem dX12_endings_17 : decode cX12_endings 17 = .ok (.ldc2_w 359, 3) := by decide +kernel
theorem dX12_endings_20 : decode cX12_endings 20 = .ok (.lreturn, 1) := by decide +kernel
theorem dX12_endings_21 : decode cX12_endings 21 = .ok (.aload_n 0, 1) := by decide +kernel
theorem dX12_endings_22 : decode cX12_endings 22 = .ok (.invokevirtual 345, 3) := by decide +kernel
theorem dX12_endings_25 : decode cX12_endings 25 = .ok (.aload_n 0, 1) := by decide +kernel
theorem dX12_endings_26 : decode cX12_endings 26 = .ok (.invokevirtual 361, 3) := by decide +kernel
theorem dX12_endings_29 : decode cX12_endings 29 = .ok (.iconst 0, 1) := by decide +kernel
theorem dX12_endings_30 : decode cX12_endings 30 = .ok (.istore_n 2, 1) := by decide +kernel
theorem dX12_endings_31 : decode cX12_endings 31 = .ok (.iload_n 2, 1) := by decide +kernel
theorem dX12_endings_32 : decode cX12_endings 32 = .ok (.iload_n 1, 1) := by decide +kernel
theorem dX12_endings_33 : decode cX12_endings 33 = .ok (.if_icmp .ge 15, 3) := by decide +kernel
theorem dX12_endings_36 : decode cX12_endings 36 = .ok (.aload_n 0, 1) := by decide +kernel
theorem dX12_endings_37 : decode cX12_endings 37 = .ok (.iconst (-1), 1) := by decide +kernel
theorem dX12_endings_38 : decode cX12_endings 38 = .ok (.iconst (-1), 1) := by decide +kernel
theorem dX12_endings_39 : decode cX12_endings 39 = .ok (.invokevirtual 364, 3) := by decide +kernel
theorem dX12_endings_42 : decode cX12_endings 42 = .ok (.iinc 2 1, 3) := by decide +kernel
theorem dX12_endings_45 : decode cX12_endings 45 = .ok (.goto (-14), 3) := by decide +kernel
theorem dX12_endings_48 : decode cX12_endings 48 = .ok (.aload_n 0, 1) := by decide +kernel
theorem dX12_endings_49 : decode cX12_endings 49 = .ok (.invokevirtual 368, 3) := by decide +kernel
theorem dX12_endings_52 : decode cX12_endings 52 = .ok (.lreturn, 1) := by decide +kernel
theorem dX12_needed_0 : decode cX12_needed 0 = .ok (.aload_n 0, 1) := by decide +kernel
theorem dX12_needed_1 : decode cX12_needed 1 = .ok (.iconst 0, 1) := by decide +kernel
theorem dX12_needed_2 : decode cX12_needed 2 = .ok (.putfield 1, 3) := by decide +kernel
theorem dX12_needed_5 : decode cX12_needed 5 = .ok (.iconst 0, 1) := by decide +kernel
theorem dX12_needed_6 : decode cX12_needed 6 = .ok (.istore_n 1, 1) := by decide +kernel
theorem dX12_needed_7 : decode cX12_needed 7 = .ok (.aload_n 0, 1) := by decide +kernel
theorem dX12_needed_8 : decode cX12_needed 8 = .ok (.invokevirtual 351, 3) := by decide +kernel
theorem dX12_needed_11 : decode cX12_needed 11 = .ok (.iconst (-1), 1) := by decide +kernel
theorem dX12_needed_12 : decode cX12_needed 12 = .ok (.if_icmp .ne 5, 3) := by decide +kernel
theorem dX12_needed_15 : decode cX12_needed 15 = .ok (.iload_n 1, 1) := by decide +kernel
theorem dX12_needed_16 : decode cX12_needed 16 = .ok (.ireturn, 1) := by decide +kernel
theorem dX12_needed_17 : decode cX12_needed 17 = .ok (.iconst 0, 1) := by decide +kernel
theorem dX12_needed_18 : decode cX12_needed 18 = .ok (.istore_n 2, 1) := by decide +kernel
theorem dX12_needed_19 : decode cX12_needed 19 = .ok (.iload_n 2, 1) := by decide +kernel
theorem dX12_needed_20 : decode cX12_needed 20 = .ok (.aload_n 0, 1) := by decide +kernel
theorem dX12_needed_21 : decode cX12_needed 21 = .ok (.getfield 13, 3) := by decide +kernel
theorem dX12_needed_24 : decode cX12_needed 24 = .ok (.iconst 1, 1) := by decide +kernel
theorem dX12_needed_25 : decode cX12_needed 25 = .ok (.iaload, 1) := by decide +kernel
theorem dX12_needed_26 : decode cX12_needed 26 = .ok (.if_icmp .ge 28, 3) := by decide +kernel
theorem dX12_needed_29 : decode cX12_needed 29 = .ok (.iload_n 1, 1) := by decide +kernel
theorem dX12_needed_30 : decode cX12_needed 30 = .ok (.aload_n 0, 1) := by decide +kernel
theorem dX12_needed_31 : decode cX12_needed 31 = .ok (.iload_n 2, 1) := by decide +kernel
theorem dX12_needed_32 : decode cX12_needed 32 = .ok (.invokevirtual 348, 3) := by decide +kernel
theorem dX12_needed_35 : decode cX12_needed 35 = .ok (.iconst (-1), 1) := by decide +kernel
theorem dX12_needed_36 : decode cX12_needed 36 = .ok (.if_icmp .ne 9, 3) := by decide +kernel
theorem dX12_needed_39 : decode cX12_needed 39 = .ok (.iconst 1, 1) := by decide +kernel
theorem dX12_needed_40 : decode cX12_needed 40 = .ok (.iload_n 2, 1) := by decide +kernel
theorem dX12_needed_41 : decode cX12_needed 41 = .ok (.ishl, 1) := by decide +kernel
theorem dX12_needed_42 : decode cX12_needed 42 = .ok (.goto 4, 3) := by decide +kernel
theorem dX12_needed_45 : decode cX12_needed 45 = .ok (.iconst 0, 1) := by decide +kernel
theorem dX12_needed_46 : decode cX12_needed 46 = .ok (.ior, 1) := by decide +kernel
theorem dX12_needed_47 : decode cX12_needed 47 = .ok (.istore_n 1, 1) := by decide +kernel
theorem dX12_needed_48 : decode cX12_needed 48 = .ok (.iinc 2 1, 3) := by decide +kernel
theorem dX12_needed_51 : decode cX12_needed 51 = .ok (.goto (-32), 3) := by decide +kernel
theorem dX12_needed_54 : decode cX12_needed 54 = .ok (.iload_n 1, 1) := by decide +kernel
theorem dX12_needed_55 : decode cX12_needed 55 = .ok (.ireturn, 1) := by decide +kernel
theorem dX12_laysComes_0 : decode cX12_laysComes 0 = .ok (.aload_n 0, 1) := by decide +kernel
theorem dX12_laysComes_1 : decode cX12_laysComes 1 = .ok (.invokevirtual 345, 3) := by decide +kernel
theorem dX12_laysComes_4 : decode cX12_laysComes 4 = .ok (.iconst 0, 1) := by decide +kernel
theorem dX12_laysComes_5 : decode cX12_laysComes 5 = .ok (.istore_n 1, 1) := by decide +kernel
theorem dX12_laysComes_6 : decode cX12_laysComes 6 = .ok (.iload_n 1, 1) := by decide +kernel
theorem dX12_laysComes_7 : decode cX12_laysComes 7 = .ok (.sipush 256, 3) := by decide +kernel
theorem dX12_laysComes_10 : decode cX12_laysComes 10 = .ok (.if_icmp .ge 31, 3) := by decide +kernel
theorem dX12_laysComes_13 : decode cX12_laysComes 13 = .ok (.aload_n 0, 1) := by decide +kernel
theorem dX12_laysComes_14 : decode cX12_laysComes 14 = .ok (.getfield 48, 3) := by decide +kernel
theorem dX12_laysComes_17 : decode cX12_laysComes 17 = .ok (.iload_n 1, 1) := by decide +kernel
theorem dX12_laysComes_18 : decode cX12_laysComes 18 = .ok (.iload_n 1, 1) := by decide +kernel
theorem dX12_laysComes_19 : decode cX12_laysComes 19 = .ok (.aload_n 0, 1) := by decide +kernel
theorem dX12_laysComes_20 : decode cX12_laysComes 20 = .ok (.getfield 13, 3) := by decide +kernel
theorem dX12_laysComes_23 : decode cX12_laysComes 23 = .ok (.bipush 27, 2) := by decide +kernel
theorem dX12_laysComes_25 : decode cX12_laysComes 25 = .ok (.iaload, 1) := by decide +kernel
theorem dX12_laysComes_26 : decode cX12_laysComes 26 = .ok (.if_icmp .ne 7, 3) := by decide +kernel
theorem dX12_laysComes_29 : decode cX12_laysComes 29 = .ok (.iconst 1, 1) := by decide +kernel
theorem dX12_laysComes_30 : decode cX12_laysComes 30 = .ok (.goto 4, 3) := by decide +kernel
theorem dX12_laysComes_33 : decode cX12_laysComes 33 = .ok (.iconst 0, 1) := by decide +kernel
theorem dX12_laysComes_34 : decode cX12_laysComes 34 = .ok (.bastore, 1) := by decide +kernel
theorem dX12_laysComes_35 : decode cX12_laysComes 35 = .ok (.iinc 1 1, 3) := by decide +kernel
theorem dX12_laysComes_38 : decode cX12_laysComes 38 = .ok (.goto (-32), 3) := by decide +kernel
theorem dX12_laysComes_41 : decode cX12_laysComes 41 = .ok (.iconst 0, 1) := by decide +kernel
theorem dX12_laysComes_42 : decode cX12_laysComes 42 = .ok (.istore_n 1, 1) := by decide +kernel
theorem dX12_laysComes_43 : decode cX12_laysComes 43 = .ok (.iload_n 1, 1) := by decide +kernel
theorem dX12_laysComes_44 : decode cX12_laysComes 44 = .ok (.aload_n 0, 1) := by decide +kernel
theorem dX12_laysComes_45 : decode cX12_laysComes 45 = .ok (.invokevirtual 204, 3) := by decide +kernel
theorem dX12_laysComes_48 : decode cX12_laysComes 48 = .ok (.if_icmp .gt 62, 3) := by decide +kernel
theorem dX12_laysComes_51 : decode cX12_laysComes 51 = .ok (.iconst 0, 1) := by decide +kernel
theorem dX12_laysComes_52 : decode cX12_laysComes 52 = .ok (.istore_n 2, 1) := by decide +kernel
theorem dX12_laysComes_53 : decode cX12_laysComes 53 = .ok (.iload_n 2, 1) := by decide +kernel
theorem dX12_laysComes_54 : decode cX12_laysComes 54 = .ok (.aload_n 0, 1) := by decide +kernel
theorem dX12_laysComes_55 : decode cX12_laysComes 55 = .ok (.getfield 13, 3) := by decide +kernel
theorem dX12_laysComes_58 : decode cX12_laysComes 58 = .ok (.iconst 1, 1) := by decide +kernel
theorem dX12_laysComes_59 : decode cX12_laysComes 59 = .ok (.iaload, 1) := by decide +kernel
theorem dX12_laysComes_60 : decode cX12_laysComes 60 = .ok (.if_icmp .ge 44, 3) := by decide +kernel
theorem dX12_laysComes_63 : decode cX12_laysComes 63 = .ok (.aload_n 0, 1) := by decide +kernel
theorem dX12_laysComes_64 : decode cX12_laysComes 64 = .ok (.getfield 48, 3) := by decide +kernel
theorem dX12_laysComes_67 : decode cX12_laysComes 67 = .ok (.iload_n 1, 1) := by decide +kernel
theorem dX12_laysComes_68 : decode cX12_laysComes 68 = .ok (.baload, 1) := by decide +kernel
theorem dX12_laysComes_69 : decode cX12_laysComes 69 = .ok (.ifCond .eq 35, 3) := by decide +kernel
theorem dX12_laysComes_72 : decode cX12_laysComes 72 = .ok (.aload_n 0, 1) := by decide +kernel
theorem dX12_laysComes_73 : decode cX12_laysComes 73 = .ok (.iload_n 1, 1) := by decide +kernel
theorem dX12_laysComes_74 : decode cX12_laysComes 74 = .ok (.iload_n 2, 1) := by decide +kernel
theorem dX12_laysComes_75 : decode cX12_laysComes 75 = .ok (.invokevirtual 342, 3) := by decide +kernel
theorem dX12_laysComes_78 : decode cX12_laysComes 78 = .ok (.iconst (-1), 1) := by decide +kernel
theorem dX12_laysComes_79 : decode cX12_laysComes 79 = .ok (.if_icmp .eq 19, 3) := by decide +kernel
theorem dX12_laysComes_82 : decode cX12_laysComes 82 = .ok (.aload_n 0, 1) := by decide +kernel
theorem dX12_laysComes_83 : decode cX12_laysComes 83 = .ok (.getfield 48, 3) := by decide +kernel
theorem dX12_laysComes_86 : decode cX12_laysComes 86 = .ok (.iload_n 1, 1) := by decide +kernel
theorem dX12_laysComes_87 : decode cX12_laysComes 87 = .ok (.iconst 1, 1) := by decide +kernel
theorem dX12_laysComes_88 : decode cX12_laysComes 88 = .ok (.aload_n 0, 1) := by decide +kernel
theorem dX12_laysComes_89 : decode cX12_laysComes 89 = .ok (.iload_n 1, 1) := by decide +kernel
theorem dX12_laysComes_90 : decode cX12_laysComes 90 = .ok (.iload_n 2, 1) := by decide +kernel
theorem dX12_laysComes_91 : decode cX12_laysComes 91 = .ok (.invokevirtual 342, 3) := by decide +kernel
theorem dX12_laysComes_94 : decode cX12_laysComes 94 = .ok (.ishl, 1) := by decide +kernel
theorem dX12_laysComes_95 : decode cX12_laysComes 95 = .ok (.ior, 1) := by decide +kernel
theorem dX12_laysComes_96 : decode cX12_laysComes 96 = .ok (.iconst 1, 1) := by decide +kernel
theorem dX12_laysComes_97 : decode cX12_laysComes 97 = .ok (.bastore, 1) := by decide +kernel
theorem dX12_laysComes_98 : decode cX12_laysComes 98 = .ok (.iinc 2 1, 3) := by decide +kernel
theorem dX12_laysComes_101 : decode cX12_laysComes 101 = .ok (.goto (-48), 3) := by decide +kernel
theorem dX12_laysComes_104 : decode cX12_laysComes 104 = .ok (.iinc 1 1, 3) := by decide +kernel
theorem dX12_laysComes_107 : decode cX12_laysComes 107 = .ok (.goto (-64), 3) := by decide +kernel
theorem dX12_laysComes_110 : decode cX12_laysComes 110 = .ok (.return_, 1) := by decide +kernel
theorem dX12_sellable_0 : decode cX12_sellable 0 = .ok (.aload_n 0, 1) := by decide +kernel
theorem dX12_sellable_1 : decode cX12_sellable 1 = .ok (.iconst 0, 1) := by decide +kernel
theorem dX12_sellable_2 : decode cX12_sellable 2 = .ok (.putfield 1, 3) := by decide +kernel
theorem dX12_sellable_5 : decode cX12_sellable 5 = .ok (.aload_n 0, 1) := by decide +kernel
theorem dX12_sellable_6 : decode cX12_sellable 6 = .ok (.invokevirtual 372, 3) := by decide +kernel
theorem dX12_sellable_9 : decode cX12_sellable 9 = .ok (.iconst 0, 1) := by decide +kernel
theorem dX12_sellable_10 : decode cX12_sellable 10 = .ok (.istore_n 1, 1) := by decide +kernel
theorem dX12_sellable_11 : decode cX12_sellable 11 = .ok (.iconst 0, 1) := by decide +kernel
theorem dX12_sellable_12 : decode cX12_sellable 12 = .ok (.istore_n 2, 1) := by decide +kernel
theorem dX12_sellable_13 : decode cX12_sellable 13 = .ok (.iload_n 2, 1) := by decide +kernel
theorem dX12_sellable_14 : decode cX12_sellable 14 = .ok (.sipush 256, 3) := by decide +kernel
theorem dX12_sellable_17 : decode cX12_sellable 17 = .ok (.if_icmp .ge 26, 3) := by decide +kernel
theorem dX12_sellable_20 : decode cX12_sellable 20 = .ok (.iload_n 1, 1) := by decide +kernel
theorem dX12_sellable_21 : decode cX12_sellable 21 = .ok (.aload_n 0, 1) := by decide +kernel
theorem dX12_sellable_22 : decode cX12_sellable 22 = .ok (.getfield 48, 3) := by decide +kernel
theorem dX12_sellable_25 : decode cX12_sellable 25 = .ok (.iload_n 2, 1) := by decide +kernel
theorem dX12_sellable_26 : decode cX12_sellable 26 = .ok (.baload, 1) := by decide +kernel
theorem dX12_sellable_27 : decode cX12_sellable 27 = .ok (.ifCond .eq 7, 3) := by decide +kernel
theorem dX12_sellable_30 : decode cX12_sellable 30 = .ok (.iload_n 2, 1) := by decide +kernel
theorem dX12_sellable_31 : decode cX12_sellable 31 = .ok (.goto 4, 3) := by decide +kernel
theorem dX12_sellable_34 : decode cX12_sellable 34 = .ok (.iconst 0, 1) := by decide +kernel
theorem dX12_sellable_35 : decode cX12_sellable 35 = .ok (.ior, 1) := by decide +kernel
theorem dX12_sellable_36 : decode cX12_sellable 36 = .ok (.istore_n 1, 1) := by decide +kernel
theorem dX12_sellable_37 : decode cX12_sellable 37 = .ok (.iinc 2 1, 3) := by decide +kernel
theorem dX12_sellable_40 : decode cX12_sellable 40 = .ok (.goto (-27), 3) := by decide +kernel
theorem dX12_sellable_43 : decode cX12_sellable 43 = .ok (.iload_n 1, 1) := by decide +kernel
theorem dX12_sellable_44 : decode cX12_sellable 44 = .ok (.ireturn, 1) := by decide +kernel
theorem dX12_guards_0 : decode cX12_guards 0 = .ok (.aload_n 0, 1) := by decide +kernel
theorem dX12_guards_1 : decode cX12_guards 1 = .ok (.iconst 0, 1) := by decide +kernel
theorem dX12_guards_2 : decode cX12_guards 2 = .ok (.putfield 1, 3) := by decide +kernel
theorem dX12_guards_5 : decode cX12_guards 5 = .ok (.iconst 0, 1) := by decide +kernel
theorem dX12_guards_6 : decode cX12_guards 6 = .ok (.istore_n 1, 1) := by decide +kernel
theorem dX12_guards_7 : decode cX12_guards 7 = .ok (.aload_n 0, 1) := by decide +kernel
theorem dX12_guards_8 : decode cX12_guards 8 = .ok (.invokevirtual 351, 3) := by decide +kernel
theorem dX12_guards_11 : decode cX12_guards 11 = .ok (.iconst (-1), 1) := by decide +kernel
theorem dX12_guards_12 : decode cX12_guards 12 = .ok (.if_icmp .ne 5, 3) := by decide +kernel
theorem dX12_guards_15 : decode cX12_guards 15 = .ok (.iload_n 1, 1) := by decide +kernel
theorem dX12_guards_16 : decode cX12_guards 16 = .ok (.ireturn, 1) := by decide +kernel
theorem dX12_guards_17 : decode cX12_guards 17 = .ok (.aload_n 0, 1) := by decide +kernel
theorem dX12_guards_18 : decode cX12_guards 18 = .ok (.getfield 13, 3) := by decide +kernel
theorem dX12_guards_21 : decode cX12_guards 21 = .ok (.bipush 28, 2) := by decide +kernel
theorem dX12_guards_23 : decode cX12_guards 23 = .ok (.iaload, 1) := by decide +kernel
theorem dX12_guards_24 : decode cX12_guards 24 = .ok (.istore_n 2, 1) := by decide +kernel
theorem dX12_guards_25 : decode cX12_guards 25 = .ok (.iconst 0, 1) := by decide +kernel
theorem dX12_guards_26 : decode cX12_guards 26 = .ok (.istore_n 3, 1) := by decide +kernel
theorem dX12_guards_27 : decode cX12_guards 27 = .ok (.iload_n 3, 1) := by decide +kernel
theorem dX12_guards_28 : decode cX12_guards 28 = .ok (.aload_n 0, 1) := by decide +kernel
theorem dX12_guards_29 : decode cX12_guards 29 = .ok (.getfield 13, 3) := by decide +kernel
theorem dX12_guards_32 : decode cX12_guards 32 = .ok (.bipush 26, 2) := by decide +kernel
theorem dX12_guards_34 : decode cX12_guards 34 = .ok (.iaload, 1) := by decide +kernel
theorem dX12_guards_35 : decode cX12_guards 35 = .ok (.if_icmp .ge 51, 3) := by decide +kernel
theorem dX12_guards_38 : decode cX12_guards 38 = .ok (.iload_n 2, 1) := by decide +kernel
theorem dX12_guards_39 : decode cX12_guards 39 = .ok (.i2l, 1) := by decide +kernel
theorem dX12_guards_40 : decode cX12_guards 40 = .ok (.iload_n 3, 1) := by decide +kernel
theorem dX12_guards_41 : decode cX12_guards 41 = .ok (.invokestatic 228, 3) := by decide +kernel
theorem dX12_guards_44 : decode cX12_guards 44 = .ok (.ifCond .eq 6, 3) := by decide +kernel
theorem dX12_guards_47 : decode cX12_guards 47 = .ok (.goto 33, 3) := by decide +kernel
theorem dX12_guards_50 : decode cX12_guards 50 = .ok (.aload_n 0, 1) := by decide +kernel
theorem dX12_guards_51 : decode cX12_guards 51 = .ok (.getfield 13, 3) := by decide +kernel
theorem dX12_guards_54 : decode cX12_guards 54 = .ok (.bipush 28, 2) := by decide +kernel
theorem dX12_guards_56 : decode cX12_guards 56 = .ok (.iload_n 2, 1) := by decide +kernel
theorem dX12_guards_57 : decode cX12_guards 57 = .ok (.iconst 1, 1) := by decide +kernel
theorem dX12_guards_58 : decode cX12_guards 58 = .ok (.iload_n 3, 1) := by decide +kernel
theorem dX12_guards_59 : decode cX12_guards 59 = .ok (.ishl, 1) := by decide +kernel
theorem dX12_guards_60 : decode cX12_guards 60 = .ok (.ior, 1) := by decide +kernel
theorem dX12_guards_61 : decode cX12_guards 61 = .ok (.iastore, 1) := by decide +kernel
theorem dX12_guards_62 : decode cX12_guards 62 = .ok (.iload_n 1, 1) := by decide +kernel
theorem dX12_guards_63 : decode cX12_guards 63 = .ok (.aload_n 0, 1) := by decide +kernel
theorem dX12_guards_64 : decode cX12_guards 64 = .ok (.invokevirtual 351, 3) := by decide +kernel
theorem dX12_guards_67 : decode cX12_guards 67 = .ok (.iconst (-1), 1) := by decide +kernel
theorem dX12_guards_68 : decode cX12_guards 68 = .ok (.if_icmp .ne 9, 3) := by decide +kernel
theorem dX12_guards_71 : decode cX12_guards 71 = .ok (.iconst 1, 1) := by decide +kernel
theorem dX12_guards_72 : decode cX12_guards 72 = .ok (.iload_n 3, 1) := by decide +kernel
theorem dX12_guards_73 : decode cX12_guards 73 = .ok (.ishl, 1) := by decide +kernel
theorem dX12_guards_74 : decode cX12_guards 74 = .ok (.goto 4, 3) := by decide +kernel
theorem dX12_guards_77 : decode cX12_guards 77 = .ok (.iconst 0, 1) := by decide +kernel
theorem dX12_guards_78 : decode cX12_guards 78 = .ok (.ior, 1) := by decide +kernel
theorem dX12_guards_79 : decode cX12_guards 79 = .ok (.istore_n 1, 1) := by decide +kernel
theorem dX12_guards_80 : decode cX12_guards 80 = .ok (.iinc 3 1, 3) := by decide +kernel
theorem dX12_guards_83 : decode cX12_guards 83 = .ok (.goto (-56), 3) := by decide +kernel
theorem dX12_guards_86 : decode cX12_guards 86 = .ok (.aload_n 0, 1) := by decide +kernel
theorem dX12_guards_87 : decode cX12_guards 87 = .ok (.getfield 13, 3) := by decide +kernel
theorem dX12_guards_90 : decode cX12_guards 90 = .ok (.bipush 28, 2) := by decide +kernel
theorem dX12_guards_92 : decode cX12_guards 92 = .ok (.iload_n 2, 1) := by decide +kernel
theorem dX12_guards_93 : decode cX12_guards 93 = .ok (.iastore, 1) := by decide +kernel
theorem dX12_guards_94 : decode cX12_guards 94 = .ok (.iload_n 1, 1) := by decide +kernel
theorem dX12_guards_95 : decode cX12_guards 95 = .ok (.ireturn, 1) := by decide +kernel
theorem dX12_last_0 : decode cX12_last 0 = .ok (.aload_n 0, 1) := by decide +kernel
theorem dX12_last_1 : decode cX12_last 1 = .ok (.iconst 0, 1) := by decide +kernel
theorem dX12_last_2 : decode cX12_last 2 = .ok (.putfield 1, 3) := by decide +kernel
theorem dX12_last_5 : decode cX12_last 5 = .ok (.aload_n 0, 1) := by decide +kernel
theorem dX12_last_6 : decode cX12_last 6 = .ok (.invokevirtual 372, 3) := by decide +kernel
theorem dX12_last_9 : decode cX12_last 9 = .ok (.iconst 0, 1) := by decide +kernel
theorem dX12_last_10 : decode cX12_last 10 = .ok (.istore_n 1, 1) := by decide +kernel
theorem dX12_last_11 : decode cX12_last 11 = .ok (.iconst 0, 1) := by decide +kernel
theorem dX12_last_12 : decode cX12_last 12 = .ok (.istore_n 2, 1) := by decide +kernel
theorem dX12_last_13 : decode cX12_last 13 = .ok (.iload_n 2, 1) := by decide +kernel
theorem dX12_last_14 : decode cX12_last 14 = .ok (.aload_n 0, 1) := by decide +kernel
theorem dX12_last_15 : decode cX12_last 15 = .ok (.invokevirtual 204, 3) := by decide +kernel
theorem dX12_last_18 : decode cX12_last 18 = .ok (.if_icmp .gt 39, 3) := by decide +kernel
theorem dX12_last_21 : decode cX12_last 21 = .ok (.aload_n 0, 1) := by decide +kernel
theorem dX12_last_22 : decode cX12_last 22 = .ok (.invokevirtual 207, 3) := by decide +kernel
theorem dX12_last_25 : decode cX12_last 25 = .ok (.iload_n 2, 1) := by decide +kernel
theorem dX12_last_26 : decode cX12_last 26 = .ok (.iconst (-1), 1) := by decide +kernel
theorem dX12_last_27 : decode cX12_last 27 = .ok (.ixor, 1) := by decide +kernel
theorem dX12_last_28 : decode cX12_last 28 = .ok (.iand, 1) := by decide +kernel
theorem dX12_last_29 : decode cX12_last 29 = .ok (.istore_n 3, 1) := by decide +kernel
theorem dX12_last_30 : decode cX12_last 30 = .ok (.aload_n 0, 1) := by decide +kernel
theorem dX12_last_31 : decode cX12_last 31 = .ok (.getfield 48, 3) := by decide +kernel
theorem dX12_last_34 : decode cX12_last 34 = .ok (.iload_n 2, 1) := by decide +kernel
theorem dX12_last_35 : decode cX12_last 35 = .ok (.baload, 1) := by decide +kernel
theorem dX12_last_36 : decode cX12_last 36 = .ok (.ifCond .eq 15, 3) := by decide +kernel
theorem dX12_last_39 : decode cX12_last 39 = .ok (.iload_n 3, 1) := by decide +kernel
theorem dX12_last_40 : decode cX12_last 40 = .ok (.invokestatic 217, 3) := by decide +kernel
theorem dX12_last_43 : decode cX12_last 43 = .ok (.iconst 1, 1) := by decide +kernel
theorem dX12_last_44 : decode cX12_last 44 = .ok (.if_icmp .ne 7, 3) := by decide +kernel
theorem dX12_last_47 : decode cX12_last 47 = .ok (.iload_n 1, 1) := by decide +kernel
theorem dX12_last_48 : decode cX12_last 48 = .ok (.iload_n 3, 1) := by decide +kernel
theorem dX12_last_49 : decode cX12_last 49 = .ok (.ior, 1) := by decide +kernel
theorem dX12_last_50 : decode cX12_last 50 = .ok (.istore_n 1, 1) := by decide +kernel
theorem dX12_last_51 : decode cX12_last 51 = .ok (.iinc 2 1, 3) := by decide +kernel
theorem dX12_last_54 : decode cX12_last 54 = .ok (.goto (-41), 3) := by decide +kernel
theorem dX12_last_57 : decode cX12_last 57 = .ok (.iload_n 1, 1) := by decide +kernel
theorem dX12_last_58 : decode cX12_last 58 = .ok (.ireturn, 1) := by decide +kernel
theorem dX12_wholeOf_0 : decode cX12_wholeOf 0 = .ok (.aload_n 0, 1) := by decide +kernel
theorem dX12_wholeOf_1 : decode cX12_wholeOf 1 = .ok (.invokevirtual 269, 3) := by decide +kernel
theorem dX12_wholeOf_4 : decode cX12_wholeOf 4 = .ok (.ifCond .ne 7, 3) := by decide +kernel
theorem dX12_wholeOf_7 : decode cX12_wholeOf 7 = .ok (.lconst 1, 1) := by decide +kernel
theorem dX12_wholeOf_8 : decode cX12_wholeOf 8 = .ok (.goto 12, 3) := by decide +kernel
theorem dX12_wholeOf_11 : decode cX12_wholeOf 11 = .ok (.aload_n 0, 1) := by decide +kernel
theorem dX12_wholeOf_12 : decode cX12_wholeOf 12 = .ok (.invokevirtual 269, 3) := by decide +kernel
theorem dX12_wholeOf_15 : decode cX12_wholeOf 15 = .ok (.i2l, 1) := by decide +kernel
theorem dX12_wholeOf_16 : decode cX12_wholeOf 16 = .ok (.iload_n 1, 1) := by decide +kernel
theorem dX12_wholeOf_17 : decode cX12_wholeOf 17 = .ok (.invokestatic 375, 3) := by decide +kernel
theorem dX12_wholeOf_20 : decode cX12_wholeOf 20 = .ok (.lreturn, 1) := by decide +kernel
theorem dX12_laysDays_0 : decode cX12_laysDays 0 = .ok (.aload_n 0, 1) := by decide +kernel
theorem dX12_laysDays_1 : decode cX12_laysDays 1 = .ok (.invokevirtual 361, 3) := by decide +kernel
theorem dX12_laysDays_4 : decode cX12_laysDays 4 = .ok (.aload_n 0, 1) := by decide +kernel
theorem dX12_laysDays_5 : decode cX12_laysDays 5 = .ok (.lconst 0, 1) := by decide +kernel
theorem dX12_laysDays_6 : decode cX12_laysDays 6 = .ok (.putfield 379, 3) := by decide +kernel
theorem dX12_laysDays_9 : decode cX12_laysDays 9 = .ok (.iconst 0, 1) := by decide +kernel
theorem dX12_laysDays_10 : decode cX12_laysDays 10 = .ok (.istore_n 2, 1) := by decide +kernel
theorem dX12_laysDays_11 : decode cX12_laysDays 11 = .ok (.iload_n 2, 1) := by decide +kernel
theorem dX12_laysDays_12 : decode cX12_laysDays 12 = .ok (.bipush 6, 2) := by decide +kernel
theorem dX12_laysDays_14 : decode cX12_laysDays 14 = .ok (.if_icmp .ge 16, 3) := by decide +kernel
theorem dX12_laysDays_17 : decode cX12_laysDays 17 = .ok (.aload_n 0, 1) := by decide +kernel
theorem dX12_laysDays_18 : decode cX12_laysDays 18 = .ok (.getfield 58, 3) := by decide +kernel
theorem dX12_laysDays_21 : decode cX12_laysDays 21 = .ok (.iload_n 2, 1) := by decide +kernel
theorem dX12_laysDays_22 : decode cX12_laysDays 22 = .ok (.lconst 0, 1) := by decide +kernel
theorem dX12_laysDays_23 : decode cX12_laysDays 23 = .ok (.lastore, 1) := by decide +kernel
theorem dX12_laysDays_24 : decode cX12_laysDays 24 = .ok (.iinc 2 1, 3) := by decide +kernel
theorem dX12_laysDays_27 : decode cX12_laysDays 27 = .ok (.goto (-16), 3) := by decide +kernel
theorem dX12_laysDays_30 : decode cX12_laysDays 30 = .ok (.aload_n 0, 1) := by decide +kernel
theorem dX12_laysDays_31 : decode cX12_laysDays 31 = .ok (.invokevirtual 269, 3) := by decide +kernel
theorem dX12_laysDays_34 : decode cX12_laysDays 34 = .ok (.istore_n 2, 1) := by decide +kernel
theorem dX12_laysDays_35 : decode cX12_laysDays 35 = .ok (.iconst 0, 1) := by decide +kernel
theorem dX12_laysDays_36 : decode cX12_laysDays 36 = .ok (.istore_n 3, 1) := by decide +kernel
theorem dX12_laysDays_37 : decode cX12_laysDays 37 = .ok (.iload_n 3, 1) := by decide +kernel
theorem dX12_laysDays_38 : decode cX12_laysDays 38 = .ok (.iload_n 1, 1) := by decide +kernel
theorem dX12_laysDays_39 : decode cX12_laysDays 39 = .ok (.if_icmp .ge 144, 3) := by decide +kernel
theorem dX12_laysDays_42 : decode cX12_laysDays 42 = .ok (.iload_n 2, 1) := by decide +kernel
theorem dX12_laysDays_43 : decode cX12_laysDays 43 = .ok (.ifCond .le 140, 3) := by decide +kernel
theorem dX12_laysDays_46 : decode cX12_laysDays 46 = .ok (.iconst 0, 1) := by decide +kernel
theorem dX12_laysDays_47 : decode cX12_laysDays 47 = .ok (.istore 4, 2) := by decide +kernel
theorem dX12_laysDays_49 : decode cX12_laysDays 49 = .ok (.iload 4, 2) := by decide +kernel
theorem dX12_laysDays_51 : decode cX12_laysDays 51 = .ok (.sipush 256, 3) := by decide +kernel
theorem dX12_laysDays_54 : decode cX12_laysDays 54 = .ok (.if_icmp .ge 17, 3) := by decide +kernel
theorem dX12_laysDays_57 : decode cX12_laysDays 57 = .ok (.aload_n 0, 1) := by decide +kernel
theorem dX12_laysDays_58 : decode cX12_laysDays 58 = .ok (.getfield 55, 3) := by decide +kernel
theorem dX12_laysDays_61 : decode cX12_laysDays 61 = .ok (.iload 4, 2) := by decide +kernel
theorem dX12_laysDays_63 : decode cX12_laysDays 63 = .ok (.lconst 0, 1) := by decide +kernel
theorem dX12_laysDays_64 : decode cX12_laysDays 64 = .ok (.lastore, 1) := by decide +kernel
theorem dX12_laysDays_65 : decode cX12_laysDays 65 = .ok (.iinc 4 1, 3) := by decide +kernel
theorem dX12_laysDays_68 : decode cX12_laysDays 68 = .ok (.goto (-19), 3) := by decide +kernel
theorem dX12_laysDays_71 : decode cX12_laysDays 71 = .ok (.iconst 0, 1) := by decide +kernel
theorem dX12_laysDays_72 : decode cX12_laysDays 72 = .ok (.istore 4, 2) := by decide +kernel
theorem dX12_laysDays_74 : decode cX12_laysDays 74 = .ok (.iload 4, 2) := by decide +kernel
theorem dX12_laysDays_76 : decode cX12_laysDays 76 = .ok (.bipush 6, 2) := by decide +kernel
theorem dX12_laysDays_78 : decode cX12_laysDays 78 = .ok (.if_icmp .ge 21, 3) := by decide +kernel
theorem dX12_laysDays_81 : decode cX12_laysDays 81 = .ok (.aload_n 0, 1) := by decide +kernel
theorem dX12_laysDays_82 : decode cX12_laysDays 82 = .ok (.getfield 58, 3) := by decide +kernel
theorem dX12_laysDays_85 : decode cX12_laysDays 85 = .ok (.iload 4, 2) := by decide +kernel
theorem dX12_laysDays_87 : decode cX12_laysDays 87 = .ok (.dup2, 1) := by decide +kernel
theorem dX12_laysDays_88 : decode cX12_laysDays 88 = .ok (.laload, 1) := by decide +kernel
theorem dX12_laysDays_89 : decode cX12_laysDays 89 = .ok (.iload_n 2, 1) := by decide +kernel
theorem dX12_laysDays_90 : decode cX12_laysDays 90 = .ok (.i2l, 1) := by decide +kernel
theorem dX12_laysDays_91 : decode cX12_laysDays 91 = .ok (.lmul, 1) := by decide +kernel
theorem dX12_laysDays_92 : decode cX12_laysDays 92 = .ok (.lastore, 1) := by decide +kernel
theorem dX12_laysDays_93 : decode cX12_laysDays 93 = .ok (.iinc 4 1, 3) := by decide +kernel
theorem dX12_laysDays_96 : decode cX12_laysDays 96 = .ok (.goto (-22), 3) := by decide +kernel
theorem dX12_laysDays_99 : decode cX12_laysDays 99 = .ok (.aload_n 0, 1) := by decide +kernel
theorem dX12_laysDays_100 : decode cX12_laysDays 100 = .ok (.dup, 1) := by decide +kernel
theorem dX12_laysDays_101 : decode cX12_laysDays 101 = .ok (.getfield 379, 3) := by decide +kernel
theorem dX12_laysDays_104 : decode cX12_laysDays 104 = .ok (.iload_n 2, 1) := by decide +kernel
theorem dX12_laysDays_105 : decode cX12_laysDays 105 = .ok (.i2l, 1) := by decide +kernel
theorem dX12_laysDays_106 : decode cX12_laysDays 106 = .ok (.lmul, 1) := by decide +kernel
theorem dX12_laysDays_107 : decode cX12_laysDays 107 = .ok (.putfield 379, 3) := by decide +kernel
theorem dX12_laysDays_110 : decode cX12_laysDays 110 = .ok (.iconst 0, 1) := by decide +kernel
theorem dX12_laysDays_111 : decode cX12_laysDays 111 = .ok (.istore 4, 2) := by decide +kernel
theorem dX12_laysDays_113 : decode cX12_laysDays 113 = .ok (.iload 4, 2) := by decide +kernel
theorem dX12_laysDays_115 : decode cX12_laysDays 115 = .ok (.aload_n 0, 1) := by decide +kernel
theorem dX12_laysDays_116 : decode cX12_laysDays 116 = .ok (.invokevirtual 204, 3) := by decide +kernel
theorem dX12_laysDays_119 : decode cX12_laysDays 119 = .ok (.if_icmp .gt 27, 3) := by decide +kernel
theorem dX12_laysDays_122 : decode cX12_laysDays 122 = .ok (.aload_n 0, 1) := by decide +kernel
theorem dX12_laysDays_123 : decode cX12_laysDays 123 = .ok (.getfield 51, 3) := by decide +kernel
theorem dX12_laysDays_126 : decode cX12_laysDays 126 = .ok (.iload 4, 2) := by decide +kernel
theorem dX12_laysDays_128 : decode cX12_laysDays 128 = .ok (.laload, 1) := by decide +kernel
theorem dX12_laysDays_129 : decode cX12_laysDays 129 = .ok (.lconst 0, 1) := by decide +kernel
theorem dX12_laysDays_130 : decode cX12_laysDays 130 = .ok (.lcmp, 1) := by decide +kernel
theorem dX12_laysDays_131 : decode cX12_laysDays 131 = .ok (.ifCond .le 9, 3) := by decide +kernel
theorem dX12_laysDays_134 : decode cX12_laysDays 134 = .ok (.aload_n 0, 1) := by decide +kernel
theorem dX12_laysDays_135 : decode cX12_laysDays 135 = .ok (.iload 4, 2) := by decide +kernel
theorem dX12_laysDays_137 : decode cX12_laysDays 137 = .ok (.invokevirtual 383, 3) := by decide +kernel
theorem dX12_laysDays_140 : decode cX12_laysDays 140 = .ok (.iinc 4 1, 3) := by decide +kernel
theorem dX12_laysDays_143 : decode cX12_laysDays 143 = .ok (.goto (-30), 3) := by decide +kernel
theorem dX12_laysDays_146 : decode cX12_laysDays 146 = .ok (.iconst 0, 1) := by decide +kernel
theorem dX12_laysDays_147 : decode cX12_laysDays 147 = .ok (.istore 4, 2) := by decide +kernel
theorem dX12_laysDays_149 : decode cX12_laysDays 149 = .ok (.iload 4, 2) := by decide +kernel
theorem dX12_laysDays_151 : decode cX12_laysDays 151 = .ok (.sipush 256, 3) := by decide +kernel
theorem dX12_laysDays_154 : decode cX12_laysDays 154 = .ok (.if_icmp .ge 23, 3) := by decide +kernel
theorem dX12_laysDays_157 : decode cX12_laysDays 157 = .ok (.aload_n 0, 1) := by decide +kernel
theorem dX12_laysDays_158 : decode cX12_laysDays 158 = .ok (.getfield 51, 3) := by decide +kernel
theorem dX12_laysDays_161 : decode cX12_laysDays 161 = .ok (.iload 4, 2) := by decide +kernel
theorem dX12_laysDays_163 : decode cX12_laysDays 163 = .ok (.aload_n 0, 1) := by decide +kernel
theorem dX12_laysDays_164 : decode cX12_laysDays 164 = .ok (.getfield 55, 3) := by decide +kernel
theorem dX12_laysDays_167 : decode cX12_laysDays 167 = .ok (.iload 4, 2) := by decide +kernel
theorem dX12_laysDays_169 : decode cX12_laysDays 169 = .ok (.laload, 1) := by decide +kernel
theorem dX12_laysDays_170 : decode cX12_laysDays 170 = .ok (.lastore, 1) := by decide +kernel
theorem dX12_laysDays_171 : decode cX12_laysDays 171 = .ok (.iinc 4 1, 3) := by decide +kernel
theorem dX12_laysDays_174 : decode cX12_laysDays 174 = .ok (.goto (-25), 3) := by decide +kernel
theorem dX12_laysDays_177 : decode cX12_laysDays 177 = .ok (.iinc 3 1, 3) := by decide +kernel
theorem dX12_laysDays_180 : decode cX12_laysDays 180 = .ok (.goto (-143), 3) := by decide +kernel
theorem dX12_laysDays_183 : decode cX12_laysDays 183 = .ok (.return_, 1) := by decide +kernel
theorem dX12_common_0 : decode cX12_common 0 = .ok (.lload_n 2, 1) := by decide +kernel
theorem dX12_common_1 : decode cX12_common 1 = .ok (.lconst 0, 1) := by decide +kernel
theorem dX12_common_2 : decode cX12_common 2 = .ok (.lcmp, 1) := by decide +kernel
theorem dX12_common_3 : decode cX12_common 3 = .ok (.ifCond .ne 7, 3) := by decide +kernel
theorem dX12_common_6 : decode cX12_common 6 = .ok (.lload_n 0, 1) := by decide +kernel
theorem dX12_common_7 : decode cX12_common 7 = .ok (.goto 10, 3) := by decide +kernel
theorem dX12_common_10 : decode cX12_common 10 = .ok (.lload_n 2, 1) := by decide +kernel
theorem dX12_common_11 : decode cX12_common 11 = .ok (.lload_n 0, 1) := by decide +kernel
theorem dX12_common_12 : decode cX12_common 12 = .ok (.lload_n 2, 1) := by decide +kernel
theorem dX12_common_13 : decode cX12_common 13 = .ok (.lrem, 1) := by decide +kernel
theorem dX12_common_14 : decode cX12_common 14 = .ok (.invokestatic 386, 3) := by decide +kernel
theorem dX12_common_17 : decode cX12_common 17 = .ok (.lreturn, 1) := by decide +kernel
theorem dX12_part_0 : decode cX12_part 0 = .ok (.iload 4, 2) := by decide +kernel
theorem dX12_part_2 : decode cX12_part 2 = .ok (.ifCond .ne 7, 3) := by decide +kernel
theorem dX12_part_5 : decode cX12_part 5 = .ok (.lload_n 0, 1) := by decide +kernel
theorem dX12_part_6 : decode cX12_part 6 = .ok (.goto 4, 3) := by decide +kernel
theorem dX12_part_9 : decode cX12_part 9 = .ok (.lload_n 2, 1) := by decide +kernel
theorem dX12_part_10 : decode cX12_part 10 = .ok (.lload_n 0, 1) := by decide +kernel
theorem dX12_part_11 : decode cX12_part 11 = .ok (.lload_n 2, 1) := by decide +kernel
theorem dX12_part_12 : decode cX12_part 12 = .ok (.invokestatic 386, 3) := by decide +kernel
theorem dX12_part_15 : decode cX12_part 15 = .ok (.ldiv, 1) := by decide +kernel
theorem dX12_part_16 : decode cX12_part 16 = .ok (.lreturn, 1) := by decide +kernel
theorem dX12_isLate_0 : decode cX12_isLate 0 = .ok (.iload_n 0, 1) := by decide +kernel
theorem dX12_isLate_1 : decode cX12_isLate 1 = .ok (.i2l, 1) := by decide +kernel
theorem dX12_isLate_2 : decode cX12_isLate 2 = .ok (.lconst 0, 1) := by decide +kernel
theorem dX12_isLate_3 : decode cX12_isLate 3 = .ok (.ldc2_w 300, 3) := by decide +kernel
theorem dX12_isLate_6 : decode cX12_isLate 6 = .ok (.invokestatic 142, 3) := by decide +kernel
theorem dX12_isLate_9 : decode cX12_isLate 9 = .ok (.ireturn, 1) := by decide +kernel
theorem dX12_isPart_0 : decode cX12_isPart 0 = .ok (.iload_n 0, 1) := by decide +kernel
theorem dX12_isPart_1 : decode cX12_isPart 1 = .ok (.i2l, 1) := by decide +kernel
theorem dX12_isPart_2 : decode cX12_isPart 2 = .ok (.lconst 0, 1) := by decide +kernel
theorem dX12_isPart_3 : decode cX12_isPart 3 = .ok (.lconst 1, 1) := by decide +kernel
theorem dX12_isPart_4 : decode cX12_isPart 4 = .ok (.invokestatic 142, 3) := by decide +kernel
theorem dX12_isPart_7 : decode cX12_isPart 7 = .ok (.ireturn, 1) := by decide +kernel
theorem dX12_open_0 : decode cX12_open 0 = .ok (.aload_n 0, 1) := by decide +kernel
theorem dX12_open_1 : decode cX12_open 1 = .ok (.iconst 0, 1) := by decide +kernel
theorem dX12_open_2 : decode cX12_open 2 = .ok (.putfield 1, 3) := by decide +kernel
theorem dX12_open_5 : decode cX12_open 5 = .ok (.iload_n 2, 1) := by decide +kernel
theorem dX12_open_6 : decode cX12_open 6 = .ok (.invokestatic 390, 3) := by decide +kernel
theorem dX12_open_9 : decode cX12_open 9 = .ok (.ifCond .ne 7, 3) := by decide +kernel
theorem dX12_open_12 : decode cX12_open 12 = .ok (.ldc2_w 393, 3) := by decide +kernel
theorem dX12_open_15 : decode cX12_open 15 = .ok (.lreturn, 1) := by decide +kernel
theorem dX12_open_16 : decode cX12_open 16 = .ok (.iload_n 1, 1) := by decide +kernel
theorem dX12_open_17 : decode cX12_open 17 = .ok (.invokestatic 395, 3) := by decide +kernel
theorem dX12_open_20 : decode cX12_open 20 = .ok (.ifCond .ne 7, 3) := by decide +kernel
theorem dX12_open_23 : decode cX12_open 23 = .ok (.ldc2_w 359, 3) := by decide +kernel
theorem dX12_open_26 : decode cX12_open 26 = .ok (.lreturn, 1) := by decide +kernel
theorem dX12_open_27 : decode cX12_open 27 = .ok (.aload_n 0, 1) := by decide +kernel
theorem dX12_open_28 : decode cX12_open 28 = .ok (.invokevirtual 345, 3) := by decide +kernel
theorem dX12_open_31 : decode cX12_open 31 = .ok (.aload_n 0, 1) := by decide +kernel
theorem dX12_open_32 : decode cX12_open 32 = .ok (.iload_n 1, 1) := by decide +kernel
theorem dX12_open_33 : decode cX12_open 33 = .ok (.invokevirtual 398, 3) := by decide +kernel
theorem dX12_open_36 : decode cX12_open 36 = .ok (.aload_n 0, 1) := by decide +kernel
theorem dX12_open_37 : decode cX12_open 37 = .ok (.invokevirtual 401, 3) := by decide +kernel
theorem dX12_open_40 : decode cX12_open 40 = .ok (.aload_n 0, 1) := by decide +kernel
theorem dX12_open_41 : decode cX12_open 41 = .ok (.invokevirtual 368, 3) := by decide +kernel
theorem dX12_open_44 : decode cX12_open 44 = .ok (.lsub, 1) := by decide +kernel
theorem dX12_open_45 : decode cX12_open 45 = .ok (.aload_n 0, 1) := by decide +kernel
theorem dX12_open_46 : decode cX12_open 46 = .ok (.iload_n 1, 1) := by decide +kernel
theorem dX12_open_47 : decode cX12_open 47 = .ok (.invokevirtual 404, 3) := by decide +kernel
theorem dX12_open_50 : decode cX12_open 50 = .ok (.iload_n 2, 1) := by decide +kernel
theorem dX12_open_51 : decode cX12_open 51 = .ok (.invokestatic 408, 3) := by decide +kernel
theorem dX12_open_54 : decode cX12_open 54 = .ok (.lreturn, 1) := by decide +kernel
theorem dX12_isMuch_0 : decode cX12_isMuch 0 = .ok (.lload_n 0, 1) := by decide +kernel
theorem dX12_isMuch_1 : decode cX12_isMuch 1 = .ok (.iload 4, 2) := by decide +kernel
theorem dX12_isMuch_3 : decode cX12_isMuch 3 = .ok (.i2l, 1) := by decide +kernel
theorem dX12_isMuch_4 : decode cX12_isMuch 4 = .ok (.lload_n 2, 1) := by decide +kernel
theorem dX12_isMuch_5 : decode cX12_isMuch 5 = .ok (.ldc2_w 304, 3) := by decide +kernel
theorem dX12_isMuch_8 : decode cX12_isMuch 8 = .ok (.ldiv, 1) := by decide +kernel
theorem dX12_isMuch_9 : decode cX12_isMuch 9 = .ok (.lmul, 1) := by decide +kernel
theorem dX12_isMuch_10 : decode cX12_isMuch 10 = .ok (.lsub, 1) := by decide +kernel
theorem dX12_isMuch_11 : decode cX12_isMuch 11 = .ok (.lstore 5, 2) := by decide +kernel
theorem dX12_isMuch_13 : decode cX12_isMuch 13 = .ok (.lload 5, 2) := by decide +kernel
theorem dX12_isMuch_15 : decode cX12_isMuch 15 = .ok (.ldc2_w 304, 3) := by decide +kernel
theorem dX12_isMuch_18 : decode cX12_isMuch 18 = .ok (.lcmp, 1) := by decide +kernel
theorem dX12_isMuch_19 : decode cX12_isMuch 19 = .ok (.ifCond .ge 29, 3) := by decide +kernel
theorem dX12_isMuch_22 : decode cX12_isMuch 22 = .ok (.lload 5, 2) := by decide +kernel
theorem dX12_isMuch_24 : decode cX12_isMuch 24 = .ok (.lconst 0, 1) := by decide +kernel
theorem dX12_isMuch_25 : decode cX12_isMuch 25 = .ok (.lcmp, 1) := by decide +kernel
theorem dX12_isMuch_26 : decode cX12_isMuch 26 = .ok (.ifCond .lt 26, 3) := by decide +kernel
theorem dX12_isMuch_29 : decode cX12_isMuch 29 = .ok (.lload 5, 2) := by decide +kernel
theorem dX12_isMuch_31 : decode cX12_isMuch 31 = .ok (.ldc2_w 304, 3) := by decide +kernel
theorem dX12_isMuch_34 : decode cX12_isMuch 34 = .ok (.lmul, 1) := by decide +kernel
theorem dX12_isMuch_35 : decode cX12_isMuch 35 = .ok (.iload 4, 2) := by decide +kernel
theorem dX12_isMuch_37 : decode cX12_isMuch 37 = .ok (.i2l, 1) := by decide +kernel
theorem dX12_isMuch_38 : decode cX12_isMuch 38 = .ok (.lload_n 2, 1) := by decide +kernel
theorem dX12_isMuch_39 : decode cX12_isMuch 39 = .ok (.ldc2_w 304, 3) := by decide +kernel
theorem dX12_isMuch_42 : decode cX12_isMuch 42 = .ok (.lrem, 1) := by decide +kernel
theorem dX12_isMuch_43 : decode cX12_isMuch 43 = .ok (.lmul, 1) := by decide +kernel
theorem dX12_isMuch_44 : decode cX12_isMuch 44 = .ok (.lcmp, 1) := by decide +kernel
theorem dX12_isMuch_45 : decode cX12_isMuch 45 = .ok (.ifCond .lt 7, 3) := by decide +kernel
theorem dX12_isMuch_48 : decode cX12_isMuch 48 = .ok (.iconst 1, 1) := by decide +kernel
theorem dX12_isMuch_49 : decode cX12_isMuch 49 = .ok (.goto 4, 3) := by decide +kernel
theorem dX12_isMuch_52 : decode cX12_isMuch 52 = .ok (.iconst 0, 1) := by decide +kernel
theorem dX12_isMuch_53 : decode cX12_isMuch 53 = .ok (.ireturn, 1) := by decide +kernel
theorem dX12_likely_0 : decode cX12_likely 0 = .ok (.aload_n 0, 1) := by decide +kernel
theorem dX12_likely_1 : decode cX12_likely 1 = .ok (.iconst 0, 1) := by decide +kernel
theorem dX12_likely_2 : decode cX12_likely 2 = .ok (.putfield 1, 3) := by decide +kernel
theorem dX12_likely_5 : decode cX12_likely 5 = .ok (.iload_n 1, 1) := by decide +kernel
theorem dX12_likely_6 : decode cX12_likely 6 = .ok (.i2l, 1) := by decide +kernel
theorem dX12_likely_7 : decode cX12_likely 7 = .ok (.lconst 0, 1) := by decide +kernel
theorem dX12_likely_8 : decode cX12_likely 8 = .ok (.ldc2_w 304, 3) := by decide +kernel
theorem dX12_likely_11 : decode cX12_likely 11 = .ok (.invokestatic 142, 3) := by decide +kernel
theorem dX12_likely_14 : decode cX12_likely 14 = .ok (.ifCond .ne 6, 3) := by decide +kernel
theorem dX12_likely_17 : decode cX12_likely 17 = .ok (.bipush (-3), 2) := by decide +kernel
theorem dX12_likely_19 : decode cX12_likely 19 = .ok (.ireturn, 1) := by decide +kernel
theorem dX12_likely_20 : decode cX12_likely 20 = .ok (.aload_n 0, 1) := by decide +kernel
theorem dX12_likely_21 : decode cX12_likely 21 = .ok (.invokevirtual 345, 3) := by decide +kernel
theorem dX12_likely_24 : decode cX12_likely 24 = .ok (.iconst 0, 1) := by decide +kernel
theorem dX12_likely_25 : decode cX12_likely 25 = .ok (.istore_n 2, 1) := by decide +kernel
theorem dX12_likely_26 : decode cX12_likely 26 = .ok (.iload_n 2, 1) := by decide +kernel
theorem dX12_likely_27 : decode cX12_likely 27 = .ok (.bipush 10, 2) := by decide +kernel
theorem dX12_likely_29 : decode cX12_likely 29 = .ok (.if_icmp .gt 32, 3) := by decide +kernel
theorem dX12_likely_32 : decode cX12_likely 32 = .ok (.aload_n 0, 1) := by decide +kernel
theorem dX12_likely_33 : decode cX12_likely 33 = .ok (.iload_n 2, 1) := by decide +kernel
theorem dX12_likely_34 : decode cX12_likely 34 = .ok (.invokevirtual 398, 3) := by decide +kernel
theorem dX12_likely_37 : decode cX12_likely 37 = .ok (.aload_n 0, 1) := by decide +kernel
theorem dX12_likely_38 : decode cX12_likely 38 = .ok (.invokevirtual 368, 3) := by decide +kernel
theorem dX12_likely_41 : decode cX12_likely 41 = .ok (.aload_n 0, 1) := by decide +kernel
theorem dX12_likely_42 : decode cX12_likely 42 = .ok (.iload_n 2, 1) := by decide +kernel
theorem dX12_likely_43 : decode cX12_likely 43 = .ok (.invokevirtual 404, 3) := by decide +kernel
theorem dX12_likely_46 : decode cX12_likely 46 = .ok (.iload_n 1, 1) := by decide +kernel
theorem dX12_likely_47 : decode cX12_likely 47 = .ok (.invokestatic 412, 3) := by decide +kernel
theorem dX12_likely_50 : decode cX12_likely 50 = .ok (.ifCond .eq 5, 3) := by decide +kernel
theorem dX12_likely_53 : decode cX12_likely 53 = .ok (.iload_n 2, 1) := by decide +kernel
theorem dX12_likely_54 : decode cX12_likely 54 = .ok (.ireturn, 1) := by decide +kernel
theorem dX12_likely_55 : decode cX12_likely 55 = .ok (.iinc 2 1, 3) := by decide +kernel
theorem dX12_likely_58 : decode cX12_likely 58 = .ok (.goto (-32), 3) := by decide +kernel
theorem dX12_likely_61 : decode cX12_likely 61 = .ok (.iconst (-1), 1) := by decide +kernel
theorem dX12_likely_62 : decode cX12_likely 62 = .ok (.ireturn, 1) := by decide +kernel
theorem dX12_shutsBy_0 : decode cX12_shutsBy 0 = .ok (.aload_n 0, 1) := by decide +kernel
theorem dX12_shutsBy_1 : decode cX12_shutsBy 1 = .ok (.iconst 0, 1) := by decide +kernel
theorem dX12_shutsBy_2 : decode cX12_shutsBy 2 = .ok (.putfield 1, 3) := by decide +kernel
theorem dX12_shutsBy_5 : decode cX12_shutsBy 5 = .ok (.aload_n 0, 1) := by decide +kernel
theorem dX12_shutsBy_6 : decode cX12_shutsBy 6 = .ok (.iload_n 1, 1) := by decide +kernel
theorem dX12_shutsBy_7 : decode cX12_shutsBy 7 = .ok (.i2l, 1) := by decide +kernel
theorem dX12_shutsBy_8 : decode cX12_shutsBy 8 = .ok (.invokevirtual 252, 3) := by decide +kernel
theorem dX12_shutsBy_11 : decode cX12_shutsBy 11 = .ok (.ifCond .eq 10, 3) := by decide +kernel
theorem dX12_shutsBy_14 : decode cX12_shutsBy 14 = .ok (.iload_n 3, 1) := by decide +kernel
theorem dX12_shutsBy_15 : decode cX12_shutsBy 15 = .ok (.invokestatic 390, 3) := by decide +kernel
theorem dX12_shutsBy_18 : decode cX12_shutsBy 18 = .ok (.ifCond .ne 7, 3) := by decide +kernel
theorem dX12_shutsBy_21 : decode cX12_shutsBy 21 = .ok (.ldc2_w 393, 3) := by decide +kernel
theorem dX12_shutsBy_24 : decode cX12_shutsBy 24 = .ok (.lreturn, 1) := by decide +kernel
theorem dX12_shutsBy_25 : decode cX12_shutsBy 25 = .ok (.iload_n 2, 1) := by decide +kernel
theorem dX12_shutsBy_26 : decode cX12_shutsBy 26 = .ok (.invokestatic 395, 3) := by decide +kernel
theorem dX12_shutsBy_29 : decode cX12_shutsBy 29 = .ok (.ifCond .ne 7, 3) := by decide +kernel
theorem dX12_shutsBy_32 : decode cX12_shutsBy 32 = .ok (.ldc2_w 359, 3) := by decide +kernel
theorem dX12_shutsBy_35 : decode cX12_shutsBy 35 = .ok (.lreturn, 1) := by decide +kernel
theorem dX12_shutsBy_36 : decode cX12_shutsBy 36 = .ok (.aload_n 0, 1) := by decide +kernel
theorem dX12_shutsBy_37 : decode cX12_shutsBy 37 = .ok (.invokevirtual 345, 3) := by decide +kernel
theorem dX12_shutsBy_40 : decode cX12_shutsBy 40 = .ok (.aload_n 0, 1) := by decide +kernel
theorem dX12_shutsBy_41 : decode cX12_shutsBy 41 = .ok (.iload_n 2, 1) := by decide +kernel
theorem dX12_shutsBy_42 : decode cX12_shutsBy 42 = .ok (.invokevirtual 398, 3) := by decide +kernel
theorem dX12_shutsBy_45 : decode cX12_shutsBy 45 = .ok (.aload_n 0, 1) := by decide +kernel
theorem dX12_shutsBy_46 : decode cX12_shutsBy 46 = .ok (.getfield 58, 3) := by decide +kernel
theorem dX12_shutsBy_49 : decode cX12_shutsBy 49 = .ok (.iload_n 1, 1) := by decide +kernel
theorem dX12_shutsBy_50 : decode cX12_shutsBy 50 = .ok (.laload, 1) := by decide +kernel
theorem dX12_shutsBy_51 : decode cX12_shutsBy 51 = .ok (.aload_n 0, 1) := by decide +kernel
theorem dX12_shutsBy_52 : decode cX12_shutsBy 52 = .ok (.iload_n 2, 1) := by decide +kernel
theorem dX12_shutsBy_53 : decode cX12_shutsBy 53 = .ok (.invokevirtual 404, 3) := by decide +kernel
theorem dX12_shutsBy_56 : decode cX12_shutsBy 56 = .ok (.iload_n 3, 1) := by decide +kernel
theorem dX12_shutsBy_57 : decode cX12_shutsBy 57 = .ok (.invokestatic 408, 3) := by decide +kernel
theorem dX12_shutsBy_60 : decode cX12_shutsBy 60 = .ok (.lreturn, 1) := by decide +kernel
theorem dX12_closer_0 : decode cX12_closer 0 = .ok (.aload_n 0, 1) := by decide +kernel
theorem dX12_closer_1 : decode cX12_closer 1 = .ok (.iconst 0, 1) := by decide +kernel
theorem dX12_closer_2 : decode cX12_closer 2 = .ok (.putfield 1, 3) := by decide +kernel
theorem dX12_closer_5 : decode cX12_closer 5 = .ok (.iload_n 1, 1) := by decide +kernel
theorem dX12_closer_6 : decode cX12_closer 6 = .ok (.invokestatic 395, 3) := by decide +kernel
theorem dX12_closer_9 : decode cX12_closer 9 = .ok (.ifCond .ne 6, 3) := by decide +kernel
theorem dX12_closer_12 : decode cX12_closer 12 = .ok (.bipush (-3), 2) := by decide +kernel
theorem dX12_closer_14 : decode cX12_closer 14 = .ok (.ireturn, 1) := by decide +kernel
theorem dX12_closer_15 : decode cX12_closer 15 = .ok (.aload_n 0, 1) := by decide +kernel
theorem dX12_closer_16 : decode cX12_closer 16 = .ok (.invokevirtual 345, 3) := by decide +kernel
theorem dX12_closer_19 : decode cX12_closer 19 = .ok (.aload_n 0, 1) := by decide +kernel
theorem dX12_closer_20 : decode cX12_closer 20 = .ok (.iload_n 1, 1) := by decide +kernel
theorem dX12_closer_21 : decode cX12_closer 21 = .ok (.invokevirtual 398, 3) := by decide +kernel
theorem dX12_closer_24 : decode cX12_closer 24 = .ok (.iconst (-1), 1) := by decide +kernel
theorem dX12_closer_25 : decode cX12_closer 25 = .ok (.istore_n 2, 1) := by decide +kernel
theorem dX12_closer_26 : decode cX12_closer 26 = .ok (.lconst 0, 1) := by decide +kernel
theorem dX12_closer_27 : decode cX12_closer 27 = .ok (.lstore_n 3, 1) := by decide +kernel
theorem dX12_closer_28 : decode cX12_closer 28 = .ok (.iconst 0, 1) := by decide +kernel
theorem dX12_closer_29 : decode cX12_closer 29 = .ok (.istore 5, 2) := by decide +kernel
theorem dX12_closer_31 : decode cX12_closer 31 = .ok (.iload 5, 2) := by decide +kernel
theorem dX12_closer_33 : decode cX12_closer 33 = .ok (.aload_n 0, 1) := by decide +kernel
theorem dX12_closer_34 : decode cX12_closer 34 = .ok (.getfield 13, 3) := by decide +kernel
theorem dX12_closer_37 : decode cX12_closer 37 = .ok (.iconst 1, 1) := by decide +kernel
theorem dX12_closer_38 : decode cX12_closer 38 = .ok (.iaload, 1) := by decide +kernel
theorem dX12_closer_39 : decode cX12_closer 39 = .ok (.if_icmp .ge 35, 3) := by decide +kernel
theorem dX12_closer_42 : decode cX12_closer 42 = .ok (.aload_n 0, 1) := by decide +kernel
theorem dX12_closer_43 : decode cX12_closer 43 = .ok (.getfield 58, 3) := by decide +kernel
theorem dX12_closer_46 : decode cX12_closer 46 = .ok (.iload 5, 2) := by decide +kernel
theorem dX12_closer_48 : decode cX12_closer 48 = .ok (.laload, 1) := by decide +kernel
theorem dX12_closer_49 : decode cX12_closer 49 = .ok (.lload_n 3, 1) := by decide +kernel
theorem dX12_closer_50 : decode cX12_closer 50 = .ok (.lcmp, 1) := by decide +kernel
theorem dX12_closer_51 : decode cX12_closer 51 = .ok (.ifCond .gt 6, 3) := by decide +kernel
theorem dX12_closer_54 : decode cX12_closer 54 = .ok (.goto 14, 3) := by decide +kernel
theorem dX12_closer_57 : decode cX12_closer 57 = .ok (.iload 5, 2) := by decide +kernel
theorem dX12_closer_59 : decode cX12_closer 59 = .ok (.istore_n 2, 1) := by decide +kernel
theorem dX12_closer_60 : decode cX12_closer 60 = .ok (.aload_n 0, 1) := by decide +kernel
theorem dX12_closer_61 : decode cX12_closer 61 = .ok (.getfield 58, 3) := by decide +kernel
theorem dX12_closer_64 : decode cX12_closer 64 = .ok (.iload 5, 2) := by decide +kernel
theorem dX12_closer_66 : decode cX12_closer 66 = .ok (.laload, 1) := by decide +kernel
theorem dX12_closer_67 : decode cX12_closer 67 = .ok (.lstore_n 3, 1) := by decide +kernel
theorem dX12_closer_68 : decode cX12_closer 68 = .ok (.iinc 5 1, 3) := by decide +kernel
theorem dX12_closer_71 : decode cX12_closer 71 = .ok (.goto (-40), 3) := by decide +kernel
theorem dX12_closer_74 : decode cX12_closer 74 = .ok (.iload_n 2, 1) := by decide +kernel
theorem dX12_closer_75 : decode cX12_closer 75 = .ok (.ireturn, 1) := by decide +kernel
theorem dX12_soldIn_0 : decode cX12_soldIn 0 = .ok (.aload_n 0, 1) := by decide +kernel
theorem dX12_soldIn_1 : decode cX12_soldIn 1 = .ok (.iconst 0, 1) := by decide +kernel
theorem dX12_soldIn_2 : decode cX12_soldIn 2 = .ok (.putfield 1, 3) := by decide +kernel
theorem dX12_soldIn_5 : decode cX12_soldIn 5 = .ok (.aload_n 0, 1) := by decide +kernel
theorem dX12_soldIn_6 : decode cX12_soldIn 6 = .ok (.iload_n 1, 1) := by decide +kernel
theorem dX12_soldIn_7 : decode cX12_soldIn 7 = .ok (.i2l, 1) := by decide +kernel
theorem dX12_soldIn_8 : decode cX12_soldIn 8 = .ok (.invokevirtual 245, 3) := by decide +kernel
theorem dX12_soldIn_11 : decode cX12_soldIn 11 = .ok (.ifCond .eq 10, 3) := by decide +kernel
theorem dX12_soldIn_14 : decode cX12_soldIn 14 = .ok (.iload_n 3, 1) := by decide +kernel
theorem dX12_soldIn_15 : decode cX12_soldIn 15 = .ok (.invokestatic 390, 3) := by decide +kernel
theorem dX12_soldIn_18 : decode cX12_soldIn 18 = .ok (.ifCond .ne 7, 3) := by decide +kernel
theorem dX12_soldIn_21 : decode cX12_soldIn 21 = .ok (.ldc2_w 393, 3) := by decide +kernel
theorem dX12_soldIn_24 : decode cX12_soldIn 24 = .ok (.lreturn, 1) := by decide +kernel
theorem dX12_soldIn_25 : decode cX12_soldIn 25 = .ok (.iload_n 2, 1) := by decide +kernel
theorem dX12_soldIn_26 : decode cX12_soldIn 26 = .ok (.invokestatic 395, 3) := by decide +kernel
theorem dX12_soldIn_29 : decode cX12_soldIn 29 = .ok (.ifCond .ne 7, 3) := by decide +kernel
theorem dX12_soldIn_32 : decode cX12_soldIn 32 = .ok (.ldc2_w 359, 3) := by decide +kernel
theorem dX12_soldIn_35 : decode cX12_soldIn 35 = .ok (.lreturn, 1) := by decide +kernel
theorem dX12_soldIn_36 : decode cX12_soldIn 36 = .ok (.aload_n 0, 1) := by decide +kernel
theorem dX12_soldIn_37 : decode cX12_soldIn 37 = .ok (.invokevirtual 345, 3) := by decide +kernel
theorem dX12_soldIn_40 : decode cX12_soldIn 40 = .ok (.aload_n 0, 1) := by decide +kernel
theorem dX12_soldIn_41 : decode cX12_soldIn 41 = .ok (.iload_n 2, 1) := by decide +kernel
theorem dX12_soldIn_42 : decode cX12_soldIn 42 = .ok (.invokevirtual 398, 3) := by decide +kernel
theorem dX12_soldIn_45 : decode cX12_soldIn 45 = .ok (.lconst 0, 1) := by decide +kernel
theorem dX12_soldIn_46 : decode cX12_soldIn 46 = .ok (.lstore 4, 2) := by decide +kernel
theorem dX12_soldIn_48 : decode cX12_soldIn 48 = .ok (.iconst 0, 1) := by decide +kernel
theorem dX12_soldIn_49 : decode cX12_soldIn 49 = .ok (.istore 6, 2) := by decide +kernel
theorem dX12_soldIn_51 : decode cX12_soldIn 51 = .ok (.iload 6, 2) := by decide +kernel
theorem dX12_soldIn_53 : decode cX12_soldIn 53 = .ok (.sipush 256, 3) := by decide +kernel
theorem dX12_soldIn_56 : decode cX12_soldIn 56 = .ok (.if_icmp .ge 35, 3) := by decide +kernel
theorem dX12_soldIn_59 : decode cX12_soldIn 59 = .ok (.lload 4, 2) := by decide +kernel
theorem dX12_soldIn_61 : decode cX12_soldIn 61 = .ok (.iload 6, 2) := by decide +kernel
theorem dX12_soldIn_63 : decode cX12_soldIn 63 = .ok (.i2l, 1) := by decide +kernel
theorem dX12_soldIn_64 : decode cX12_soldIn 64 = .ok (.iload_n 1, 1) := by decide +kernel
theorem dX12_soldIn_65 : decode cX12_soldIn 65 = .ok (.invokestatic 228, 3) := by decide +kernel
theorem dX12_soldIn_68 : decode cX12_soldIn 68 = .ok (.ifCond .eq 13, 3) := by decide +kernel
theorem dX12_soldIn_71 : decode cX12_soldIn 71 = .ok (.aload_n 0, 1) := by decide +kernel
theorem dX12_soldIn_72 : decode cX12_soldIn 72 = .ok (.getfield 51, 3) := by decide +kernel
theorem dX12_soldIn_75 : decode cX12_soldIn 75 = .ok (.iload 6, 2) := by decide +kernel
theorem dX12_soldIn_77 : decode cX12_soldIn 77 = .ok (.laload, 1) := by decide +kernel
theorem dX12_soldIn_78 : decode cX12_soldIn 78 = .ok (.goto 4, 3) := by decide +kernel
theorem dX12_soldIn_81 : decode cX12_soldIn 81 = .ok (.lconst 0, 1) := by decide +kernel
theorem dX12_soldIn_82 : decode cX12_soldIn 82 = .ok (.ladd, 1) := by decide +kernel
theorem dX12_soldIn_83 : decode cX12_soldIn 83 = .ok (.lstore 4, 2) := by decide +kernel
theorem dX12_soldIn_85 : decode cX12_soldIn 85 = .ok (.iinc 6 1, 3) := by decide +kernel
theorem dX12_soldIn_88 : decode cX12_soldIn 88 = .ok (.goto (-37), 3) := by decide +kernel
theorem dX12_soldIn_91 : decode cX12_soldIn 91 = .ok (.lload 4, 2) := by decide +kernel
theorem dX12_soldIn_93 : decode cX12_soldIn 93 = .ok (.aload_n 0, 1) := by decide +kernel
theorem dX12_soldIn_94 : decode cX12_soldIn 94 = .ok (.iload_n 2, 1) := by decide +kernel
theorem dX12_soldIn_95 : decode cX12_soldIn 95 = .ok (.invokevirtual 404, 3) := by decide +kernel
theorem dX12_soldIn_98 : decode cX12_soldIn 98 = .ok (.iload_n 3, 1) := by decide +kernel
theorem dX12_soldIn_99 : decode cX12_soldIn 99 = .ok (.invokestatic 408, 3) := by decide +kernel
theorem dX12_soldIn_102 : decode cX12_soldIn 102 = .ok (.lreturn, 1) := by decide +kernel
theorem dX12_hides_0 : decode cX12_hides 0 = .ok (.aload_n 0, 1) := by decide +kernel
theorem dX12_hides_1 : decode cX12_hides 1 = .ok (.iconst 0, 1) := by decide +kernel
theorem dX12_hides_2 : decode cX12_hides 2 = .ok (.putfield 1, 3) := by decide +kernel
theorem dX12_hides_5 : decode cX12_hides 5 = .ok (.iload_n 3, 1) := by decide +kernel
theorem dX12_hides_6 : decode cX12_hides 6 = .ok (.invokestatic 390, 3) := by decide +kernel
theorem dX12_hides_9 : decode cX12_hides 9 = .ok (.ifCond .ne 6, 3) := by decide +kernel
theorem dX12_hides_12 : decode cX12_hides 12 = .ok (.bipush (-2), 2) := by decide +kernel
theorem dX12_hides_14 : decode cX12_hides 14 = .ok (.ireturn, 1) := by decide +kernel
theorem dX12_hides_15 : decode cX12_hides 15 = .ok (.iload_n 1, 1) := by decide +kernel
theorem dX12_hides_16 : decode cX12_hides 16 = .ok (.i2l, 1) := by decide +kernel
theorem dX12_hides_17 : decode cX12_hides 17 = .ok (.lconst 0, 1) := by decide +kernel
theorem dX12_hides_18 : decode cX12_hides 18 = .ok (.ldc2_w 325, 3) := by decide +kernel
theorem dX12_hides_21 : decode cX12_hides 21 = .ok (.invokestatic 142, 3) := by decide +kernel
theorem dX12_hides_24 : decode cX12_hides 24 = .ok (.ifCond .eq 15, 3) := by decide +kernel
theorem dX12_hides_27 : decode cX12_hides 27 = .ok (.iload_n 2, 1) := by decide +kernel
theorem dX12_hides_28 : decode cX12_hides 28 = .ok (.i2l, 1) := by decide +kernel
theorem dX12_hides_29 : decode cX12_hides 29 = .ok (.lconst 1, 1) := by decide +kernel
theorem dX12_hides_30 : decode cX12_hides 30 = .ok (.ldc2_w 416, 3) := by decide +kernel
theorem dX12_hides_33 : decode cX12_hides 33 = .ok (.invokestatic 142, 3) := by decide +kernel
theorem dX12_hides_36 : decode cX12_hides 36 = .ok (.ifCond .ne 6, 3) := by decide +kernel
theorem dX12_hides_39 : decode cX12_hides 39 = .ok (.bipush (-3), 2) := by decide +kernel
theorem dX12_hides_41 : decode cX12_hides 41 = .ok (.ireturn, 1) := by decide +kernel
theorem dX12_hides_42 : decode cX12_hides 42 = .ok (.aload_n 0, 1) := by decide +kernel
theorem dX12_hides_43 : decode cX12_hides 43 = .ok (.invokevirtual 259, 3) := by decide +kernel
theorem dX12_hides_46 : decode cX12_hides 46 = .ok (.ifCond .eq 6, 3) := by decide +kernel
theorem dX12_hides_49 : decode cX12_hides 49 = .ok (.bipush (-5), 2) := by decide +kernel
theorem dX12_hides_51 : decode cX12_hides 51 = .ok (.ireturn, 1) := by decide +kernel
theorem dX12_hides_52 : decode cX12_hides 52 = .ok (.iconst 0, 1) := by decide +kernel
theorem dX12_hides_53 : decode cX12_hides 53 = .ok (.istore 4, 2) := by decide +kernel
theorem dX12_hides_55 : decode cX12_hides 55 = .ok (.aload_n 0, 1) := by decide +kernel
theorem dX12_hides_56 : decode cX12_hides 56 = .ok (.iconst 0, 1) := by decide +kernel
theorem dX12_hides_57 : decode cX12_hides 57 = .ok (.iload_n 2, 1) := by decide +kernel
theorem dX12_hides_58 : decode cX12_hides 58 = .ok (.invokevirtual 418, 3) := by decide +kernel
theorem dX12_hides_61 : decode cX12_hides 61 = .ok (.lstore 5, 2) := by decide +kernel
theorem dX12_hides_63 : decode cX12_hides 63 = .ok (.iconst 1, 1) := by decide +kernel
theorem dX12_hides_64 : decode cX12_hides 64 = .ok (.istore 7, 2) := by decide +kernel
theorem dX12_hides_66 : decode cX12_hides 66 = .ok (.iload 7, 2) := by decide +kernel
theorem dX12_hides_68 : decode cX12_hides 68 = .ok (.iload_n 1, 1) := by decide +kernel
theorem dX12_hides_69 : decode cX12_hides 69 = .ok (.if_icmp .gt 80, 3) := by decide +kernel
theorem dX12_hides_72 : decode cX12_hides 72 = .ok (.iconst 0, 1) := by decide +kernel
theorem dX12_hides_73 : decode cX12_hides 73 = .ok (.istore 8, 2) := by decide +kernel
theorem dX12_hides_75 : decode cX12_hides 75 = .ok (.iload 8, 2) := by decide +kernel
theorem dX12_hides_77 : decode cX12_hides 77 = .ok (.aload_n 0, 1) := by decide +kernel
theorem dX12_hides_78 : decode cX12_hides 78 = .ok (.invokevirtual 207, 3) := by decide +kernel
theorem dX12_hides_81 : decode cX12_hides 81 = .ok (.if_icmp .gt 62, 3) := by decide +kernel
theorem dX12_hides_84 : decode cX12_hides 84 = .ok (.iload 8, 2) := by decide +kernel
theorem dX12_hides_86 : decode cX12_hides 86 = .ok (.aload_n 0, 1) := by decide +kernel
theorem dX12_hides_87 : decode cX12_hides 87 = .ok (.invokevirtual 207, 3) := by decide +kernel
theorem dX12_hides_90 : decode cX12_hides 90 = .ok (.iconst (-1), 1) := by decide +kernel
theorem dX12_hides_91 : decode cX12_hides 91 = .ok (.ixor, 1) := by decide +kernel
theorem dX12_hides_92 : decode cX12_hides 92 = .ok (.iand, 1) := by decide +kernel
theorem dX12_hides_93 : decode cX12_hides 93 = .ok (.ifCond .ne 44, 3) := by decide +kernel
theorem dX12_hides_96 : decode cX12_hides 96 = .ok (.iload 8, 2) := by decide +kernel
theorem dX12_hides_98 : decode cX12_hides 98 = .ok (.invokestatic 217, 3) := by decide +kernel
theorem dX12_hides_101 : decode cX12_hides 101 = .ok (.iload 7, 2) := by decide +kernel
theorem dX12_hides_103 : decode cX12_hides 103 = .ok (.if_icmp .eq 6, 3) := by decide +kernel
theorem dX12_hides_106 : decode cX12_hides 106 = .ok (.goto 31, 3) := by decide +kernel
theorem dX12_hides_109 : decode cX12_hides 109 = .ok (.aload_n 0, 1) := by decide +kernel
theorem dX12_hides_110 : decode cX12_hides 110 = .ok (.iload 8, 2) := by decide +kernel
theorem dX12_hides_112 : decode cX12_hides 112 = .ok (.iload_n 2, 1) := by decide +kernel
theorem dX12_hides_113 : decode cX12_hides 113 = .ok (.invokevirtual 418, 3) := by decide +kernel
theorem dX12_hides_116 : decode cX12_hides 116 = .ok (.lstore 9, 2) := by decide +kernel
theorem dX12_hides_118 : decode cX12_hides 118 = .ok (.lload 9, 2) := by decide +kernel
theorem dX12_hides_120 : decode cX12_hides 120 = .ok (.lload 5, 2) := by decide +kernel
theorem dX12_hides_122 : decode cX12_hides 122 = .ok (.lcmp, 1) := by decide +kernel
theorem dX12_hides_123 : decode cX12_hides 123 = .ok (.ifCond .gt 6, 3) := by decide +kernel
theorem dX12_hides_126 : decode cX12_hides 126 = .ok (.goto 11, 3) := by decide +kernel
theorem dX12_hides_129 : decode cX12_hides 129 = .ok (.iload 8, 2) := by decide +kernel
theorem dX12_hides_131 : decode cX12_hides 131 = .ok (.istore 4, 2) := by decide +kernel
theorem dX12_hides_133 : decode cX12_hides 133 = .ok (.lload 9, 2) := by decide +kernel
theorem dX12_hides_135 : decode cX12_hides 135 = .ok (.lstore 5, 2) := by decide +kernel
theorem dX12_hides_137 : decode cX12_hides 137 = .ok (.iinc 8 1, 3) := by decide +kernel
theorem dX12_hides_140 : decode cX12_hides 140 = .ok (.goto (-65), 3) := by decide +kernel
theorem dX12_hides_143 : decode cX12_hides 143 = .ok (.iinc 7 1, 3) := by decide +kernel
theorem dX12_hides_146 : decode cX12_hides 146 = .ok (.goto (-80), 3) := by decide +kernel
theorem dX12_hides_149 : decode cX12_hides 149 = .ok (.iload_n 3, 1) := by decide +kernel
theorem dX12_hides_150 : decode cX12_hides 150 = .ok (.ifCond .ne 11, 3) := by decide +kernel
theorem dX12_hides_153 : decode cX12_hides 153 = .ok (.iload 4, 2) := by decide +kernel
theorem dX12_hides_155 : decode cX12_hides 155 = .ok (.invokestatic 217, 3) := by decide +kernel
theorem dX12_hides_158 : decode cX12_hides 158 = .ok (.goto 5, 3) := by decide +kernel
theorem dX12_hides_161 : decode cX12_hides 161 = .ok (.iload 4, 2) := by decide +kernel
theorem dX12_hides_163 : decode cX12_hides 163 = .ok (.ireturn, 1) := by decide +kernel
theorem dX12_rota_0 : decode cX12_rota 0 = .ok (.aload_n 0, 1) := by decide +kernel
theorem dX12_rota_1 : decode cX12_rota 1 = .ok (.iconst 0, 1) := by decide +kernel
theorem dX12_rota_2 : decode cX12_rota 2 = .ok (.putfield 1, 3) := by decide +kernel
theorem dX12_rota_5 : decode cX12_rota 5 = .ok (.iload_n 1, 1) := by decide +kernel
theorem dX12_rota_6 : decode cX12_rota 6 = .ok (.invokestatic 390, 3) := by decide +kernel
theorem dX12_rota_9 : decode cX12_rota 9 = .ok (.ifCond .ne 6, 3) := by decide +kernel
theorem dX12_rota_12 : decode cX12_rota 12 = .ok (.bipush (-2), 2) := by decide +kernel
theorem dX12_rota_14 : decode cX12_rota 14 = .ok (.ireturn, 1) := by decide +kernel
theorem dX12_rota_15 : decode cX12_rota 15 = .ok (.aload_n 0, 1) := by decide +kernel
theorem dX12_rota_16 : decode cX12_rota 16 = .ok (.invokevirtual 259, 3) := by decide +kernel
theorem dX12_rota_19 : decode cX12_rota 19 = .ok (.ifCond .eq 6, 3) := by decide +kernel
theorem dX12_rota_22 : decode cX12_rota 22 = .ok (.bipush (-5), 2) := by decide +kernel
theorem dX12_rota_24 : decode cX12_rota 24 = .ok (.ireturn, 1) := by decide +kernel
theorem dX12_rota_25 : decode cX12_rota 25 = .ok (.aload_n 0, 1) := by decide +kernel
theorem dX12_rota_26 : decode cX12_rota 26 = .ok (.invokevirtual 422, 3) := by decide +kernel
theorem dX12_rota_29 : decode cX12_rota 29 = .ok (.istore_n 2, 1) := by decide +kernel
theorem dX12_rota_30 : decode cX12_rota 30 = .ok (.iconst (-1), 1) := by decide +kernel
theorem dX12_rota_31 : decode cX12_rota 31 = .ok (.istore_n 3, 1) := by decide +kernel
theorem dX12_rota_32 : decode cX12_rota 32 = .ok (.iconst 0, 1) := by decide +kernel
theorem dX12_rota_33 : decode cX12_rota 33 = .ok (.istore 4, 2) := by decide +kernel
theorem dX12_rota_35 : decode cX12_rota 35 = .ok (.iload 4, 2) := by decide +kernel
theorem dX12_rota_37 : decode cX12_rota 37 = .ok (.aload_n 0, 1) := by decide +kernel
theorem dX12_rota_38 : decode cX12_rota 38 = .ok (.invokevirtual 207, 3) := by decide +kernel
theorem dX12_rota_41 : decode cX12_rota 41 = .ok (.if_icmp .gt 51, 3) := by decide +kernel
theorem dX12_rota_44 : decode cX12_rota 44 = .ok (.iload 4, 2) := by decide +kernel
theorem dX12_rota_46 : decode cX12_rota 46 = .ok (.aload_n 0, 1) := by decide +kernel
theorem dX12_rota_47 : decode cX12_rota 47 = .ok (.invokevirtual 207, 3) := by decide +kernel
theorem dX12_rota_50 : decode cX12_rota 50 = .ok (.iconst (-1), 1) := by decide +kernel
theorem dX12_rota_51 : decode cX12_rota 51 = .ok (.ixor, 1) := by decide +kernel
theorem dX12_rota_52 : decode cX12_rota 52 = .ok (.iand, 1) := by decide +kernel
theorem dX12_rota_53 : decode cX12_rota 53 = .ok (.ifCond .ne 33, 3) := by decide +kernel
theorem dX12_rota_56 : decode cX12_rota 56 = .ok (.iload_n 3, 1) := by decide +kernel
theorem dX12_rota_57 : decode cX12_rota 57 = .ok (.iconst (-1), 1) := by decide +kernel
theorem dX12_rota_58 : decode cX12_rota 58 = .ok (.if_icmp .eq 15, 3) := by decide +kernel
theorem dX12_rota_61 : decode cX12_rota 61 = .ok (.iload 4, 2) := by decide +kernel
theorem dX12_rota_63 : decode cX12_rota 63 = .ok (.invokestatic 217, 3) := by decide +kernel
theorem dX12_rota_66 : decode cX12_rota 66 = .ok (.iload_n 3, 1) := by decide +kernel
theorem dX12_rota_67 : decode cX12_rota 67 = .ok (.invokestatic 217, 3) := by decide +kernel
theorem dX12_rota_70 : decode cX12_rota 70 = .ok (.if_icmp .ge 16, 3) := by decide +kernel
theorem dX12_rota_73 : decode cX12_rota 73 = .ok (.aload_n 0, 1) := by decide +kernel
theorem dX12_rota_74 : decode cX12_rota 74 = .ok (.iload 4, 2) := by decide +kernel
theorem dX12_rota_76 : decode cX12_rota 76 = .ok (.iload_n 2, 1) := by decide +kernel
theorem dX12_rota_77 : decode cX12_rota 77 = .ok (.invokevirtual 425, 3) := by decide +kernel
theorem dX12_rota_80 : decode cX12_rota 80 = .ok (.ifCond .eq 6, 3) := by decide +kernel
theorem dX12_rota_83 : decode cX12_rota 83 = .ok (.iload 4, 2) := by decide +kernel
theorem dX12_rota_85 : decode cX12_rota 85 = .ok (.istore_n 3, 1) := by decide +kernel
theorem dX12_rota_86 : decode cX12_rota 86 = .ok (.iinc 4 1, 3) := by decide +kernel
theorem dX12_rota_89 : decode cX12_rota 89 = .ok (.goto (-54), 3) := by decide +kernel
theorem dX12_rota_92 : decode cX12_rota 92 = .ok (.iload_n 3, 1) := by decide +kernel
theorem dX12_rota_93 : decode cX12_rota 93 = .ok (.iconst (-1), 1) := by decide +kernel
theorem dX12_rota_94 : decode cX12_rota 94 = .ok (.if_icmp .eq 8, 3) := by decide +kernel
theorem dX12_rota_97 : decode cX12_rota 97 = .ok (.iload_n 1, 1) := by decide +kernel
theorem dX12_rota_98 : decode cX12_rota 98 = .ok (.iconst 1, 1) := by decide +kernel
theorem dX12_rota_99 : decode cX12_rota 99 = .ok (.if_icmp .ne 7, 3) := by decide +kernel
theorem dX12_rota_102 : decode cX12_rota 102 = .ok (.iload_n 3, 1) := by decide +kernel
theorem dX12_rota_103 : decode cX12_rota 103 = .ok (.goto 7, 3) := by decide +kernel
theorem dX12_rota_106 : decode cX12_rota 106 = .ok (.iload_n 3, 1) := by decide +kernel
theorem dX12_rota_107 : decode cX12_rota 107 = .ok (.invokestatic 217, 3) := by decide +kernel
theorem dX12_rota_110 : decode cX12_rota 110 = .ok (.ireturn, 1) := by decide +kernel
theorem dX12_earns_0 : decode cX12_earns 0 = .ok (.aload_n 0, 1) := by decide +kernel
theorem dX12_earns_1 : decode cX12_earns 1 = .ok (.iconst 0, 1) := by decide +kernel
theorem dX12_earns_2 : decode cX12_earns 2 = .ok (.putfield 1, 3) := by decide +kernel
theorem dX12_earns_5 : decode cX12_earns 5 = .ok (.iload_n 2, 1) := by decide +kernel
theorem dX12_earns_6 : decode cX12_earns 6 = .ok (.invokestatic 390, 3) := by decide +kernel
theorem dX12_earns_9 : decode cX12_earns 9 = .ok (.ifCond .ne 7, 3) := by decide +kernel
theorem dX12_earns_12 : decode cX12_earns 12 = .ok (.ldc2_w 393, 3) := by decide +kernel
theorem dX12_earns_15 : decode cX12_earns 15 = .ok (.lreturn, 1) := by decide +kernel
theorem dX12_earns_16 : decode cX12_earns 16 = .ok (.iload_n 1, 1) := by decide +kernel
theorem dX12_earns_17 : decode cX12_earns 17 = .ok (.i2l, 1) := by decide +kernel
theorem dX12_earns_18 : decode cX12_earns 18 = .ok (.lconst 0, 1) := by decide +kernel
theorem dX12_earns_19 : decode cX12_earns 19 = .ok (.ldc2_w 429, 3) := by decide +kernel
theorem dX12_earns_22 : decode cX12_earns 22 = .ok (.invokestatic 142, 3) := by decide +kernel
theorem dX12_earns_25 : decode cX12_earns 25 = .ok (.ifCond .ne 7, 3) := by decide +kernel
theorem dX12_earns_28 : decode cX12_earns 28 = .ok (.ldc2_w 359, 3) := by decide +kernel
theorem dX12_earns_31 : decode cX12_earns 31 = .ok (.lreturn, 1) := by decide +kernel
theorem dX12_earns_32 : decode cX12_earns 32 = .ok (.aload_n 0, 1) := by decide +kernel
theorem dX12_earns_33 : decode cX12_earns 33 = .ok (.invokevirtual 345, 3) := by decide +kernel
theorem dX12_earns_36 : decode cX12_earns 36 = .ok (.aload_n 0, 1) := by decide +kernel
theorem dX12_earns_37 : decode cX12_earns 37 = .ok (.iload_n 1, 1) := by decide +kernel
theorem dX12_earns_38 : decode cX12_earns 38 = .ok (.invokevirtual 398, 3) := by decide +kernel
theorem dX12_earns_41 : decode cX12_earns 41 = .ok (.aload_n 0, 1) := by decide +kernel
theorem dX12_earns_42 : decode cX12_earns 42 = .ok (.getfield 379, 3) := by decide +kernel
theorem dX12_earns_45 : decode cX12_earns 45 = .ok (.aload_n 0, 1) := by decide +kernel
theorem dX12_earns_46 : decode cX12_earns 46 = .ok (.iload_n 1, 1) := by decide +kernel
theorem dX12_earns_47 : decode cX12_earns 47 = .ok (.invokevirtual 404, 3) := by decide +kernel
theorem dX12_earns_50 : decode cX12_earns 50 = .ok (.iload_n 2, 1) := by decide +kernel
theorem dX12_earns_51 : decode cX12_earns 51 = .ok (.invokestatic 408, 3) := by decide +kernel
theorem dX12_earns_54 : decode cX12_earns 54 = .ok (.lreturn, 1) := by decide +kernel
theorem dX12_bestPrice_0 : decode cX12_bestPrice 0 = .ok (.aload_n 0, 1) := by decide +kernel
theorem dX12_bestPrice_1 : decode cX12_bestPrice 1 = .ok (.iconst 0, 1) := by decide +kernel
theorem dX12_bestPrice_2 : decode cX12_bestPrice 2 = .ok (.putfield 1, 3) := by decide +kernel
theorem dX12_bestPrice_5 : decode cX12_bestPrice 5 = .ok (.aload_n 0, 1) := by decide +kernel
theorem dX12_bestPrice_6 : decode cX12_bestPrice 6 = .ok (.iload_n 1, 1) := by decide +kernel
theorem dX12_bestPrice_7 : decode cX12_bestPrice 7 = .ok (.i2l, 1) := by decide +kernel
theorem dX12_bestPrice_8 : decode cX12_bestPrice 8 = .ok (.invokevirtual 245, 3) := by decide +kernel
theorem dX12_bestPrice_11 : decode cX12_bestPrice 11 = .ok (.ifCond .ne 6, 3) := by decide +kernel
theorem dX12_bestPrice_14 : decode cX12_bestPrice 14 = .ok (.bipush (-2), 2) := by decide +kernel
theorem dX12_bestPrice_16 : decode cX12_bestPrice 16 = .ok (.ireturn, 1) := by decide +kernel
theorem dX12_bestPrice_17 : decode cX12_bestPrice 17 = .ok (.iload_n 2, 1) := by decide +kernel
theorem dX12_bestPrice_18 : decode cX12_bestPrice 18 = .ok (.i2l, 1) := by decide +kernel
theorem dX12_bestPrice_19 : decode cX12_bestPrice 19 = .ok (.lconst 1, 1) := by decide +kernel
theorem dX12_bestPrice_20 : decode cX12_bestPrice 20 = .ok (.ldc2_w 431, 3) := by decide +kernel
theorem dX12_bestPrice_23 : decode cX12_bestPrice 23 = .ok (.invokestatic 142, 3) := by decide +kernel
theorem dX12_bestPrice_26 : decode cX12_bestPrice 26 = .ok (.ifCond .ne 6, 3) := by decide +kernel
theorem dX12_bestPrice_29 : decode cX12_bestPrice 29 = .ok (.bipush (-3), 2) := by decide +kernel
theorem dX12_bestPrice_31 : decode cX12_bestPrice 31 = .ok (.ireturn, 1) := by decide +kernel
theorem dX12_bestPrice_32 : decode cX12_bestPrice 32 = .ok (.aload_n 0, 1) := by decide +kernel
theorem dX12_bestPrice_33 : decode cX12_bestPrice 33 = .ok (.invokevirtual 259, 3) := by decide +kernel
theorem dX12_bestPrice_36 : decode cX12_bestPrice 36 = .ok (.ifCond .eq 6, 3) := by decide +kernel
theorem dX12_bestPrice_39 : decode cX12_bestPrice 39 = .ok (.bipush (-5), 2) := by decide +kernel
theorem dX12_bestPrice_41 : decode cX12_bestPrice 41 = .ok (.ireturn, 1) := by decide +kernel
theorem dX12_bestPrice_42 : decode cX12_bestPrice 42 = .ok (.aload_n 0, 1) := by decide +kernel
theorem dX12_bestPrice_43 : decode cX12_bestPrice 43 = .ok (.getfield 13, 3) := by decide +kernel
theorem dX12_bestPrice_46 : decode cX12_bestPrice 46 = .ok (.bipush 33, 2) := by decide +kernel
theorem dX12_bestPrice_48 : decode cX12_bestPrice 48 = .ok (.iload_n 1, 1) := by decide +kernel
theorem dX12_bestPrice_49 : decode cX12_bestPrice 49 = .ok (.iadd, 1) := by decide +kernel
theorem dX12_bestPrice_50 : decode cX12_bestPrice 50 = .ok (.iaload, 1) := by decide +kernel
theorem dX12_bestPrice_51 : decode cX12_bestPrice 51 = .ok (.istore_n 3, 1) := by decide +kernel
theorem dX12_bestPrice_52 : decode cX12_bestPrice 52 = .ok (.iconst (-1), 1) := by decide +kernel
theorem dX12_bestPrice_53 : decode cX12_bestPrice 53 = .ok (.istore 4, 2) := by decide +kernel
theorem dX12_bestPrice_55 : decode cX12_bestPrice 55 = .ok (.ldc2_w 302, 3) := by decide +kernel
theorem dX12_bestPrice_58 : decode cX12_bestPrice 58 = .ok (.lstore 5, 2) := by decide +kernel
theorem dX12_bestPrice_60 : decode cX12_bestPrice 60 = .ok (.iconst 1, 1) := by decide +kernel
theorem dX12_bestPrice_61 : decode cX12_bestPrice 61 = .ok (.istore 7, 2) := by decide +kernel
theorem dX12_bestPrice_63 : decode cX12_bestPrice 63 = .ok (.iload 7, 2) := by decide +kernel
theorem dX12_bestPrice_65 : decode cX12_bestPrice 65 = .ok (.bipush 99, 2) := by decide +kernel
theorem dX12_bestPrice_67 : decode cX12_bestPrice 67 = .ok (.if_icmp .gt 52, 3) := by decide +kernel
theorem dX12_bestPrice_70 : decode cX12_bestPrice 70 = .ok (.aload_n 0, 1) := by decide +kernel
theorem dX12_bestPrice_71 : decode cX12_bestPrice 71 = .ok (.getfield 13, 3) := by decide +kernel
theorem dX12_bestPrice_74 : decode cX12_bestPrice 74 = .ok (.bipush 33, 2) := by decide +kernel
theorem dX12_bestPrice_76 : decode cX12_bestPrice 76 = .ok (.iload_n 1, 1) := by decide +kernel
theorem dX12_bestPrice_77 : decode cX12_bestPrice 77 = .ok (.iadd, 1) := by decide +kernel
theorem dX12_bestPrice_78 : decode cX12_bestPrice 78 = .ok (.iload 7, 2) := by decide +kernel
theorem dX12_bestPrice_80 : decode cX12_bestPrice 80 = .ok (.iastore, 1) := by decide +kernel
theorem dX12_bestPrice_81 : decode cX12_bestPrice 81 = .ok (.aload_n 0, 1) := by decide +kernel
theorem dX12_bestPrice_82 : decode cX12_bestPrice 82 = .ok (.invokevirtual 345, 3) := by decide +kernel
theorem dX12_bestPrice_85 : decode cX12_bestPrice 85 = .ok (.aload_n 0, 1) := by decide +kernel
theorem dX12_bestPrice_86 : decode cX12_bestPrice 86 = .ok (.iload_n 2, 1) := by decide +kernel
theorem dX12_bestPrice_87 : decode cX12_bestPrice 87 = .ok (.invokevirtual 398, 3) := by decide +kernel
theorem dX12_bestPrice_90 : decode cX12_bestPrice 90 = .ok (.aload_n 0, 1) := by decide +kernel
theorem dX12_bestPrice_91 : decode cX12_bestPrice 91 = .ok (.getfield 379, 3) := by decide +kernel
theorem dX12_bestPrice_94 : decode cX12_bestPrice 94 = .ok (.lload 5, 2) := by decide +kernel
theorem dX12_bestPrice_96 : decode cX12_bestPrice 96 = .ok (.lcmp, 1) := by decide +kernel
theorem dX12_bestPrice_97 : decode cX12_bestPrice 97 = .ok (.ifCond .gt 6, 3) := by decide +kernel
theorem dX12_bestPrice_100 : decode cX12_bestPrice 100 = .ok (.goto 13, 3) := by decide +kernel
theorem dX12_bestPrice_103 : decode cX12_bestPrice 103 = .ok (.iload 7, 2) := by decide +kernel
theorem dX12_bestPrice_105 : decode cX12_bestPrice 105 = .ok (.istore 4, 2) := by decide +kernel
theorem dX12_bestPrice_107 : decode cX12_bestPrice 107 = .ok (.aload_n 0, 1) := by decide +kernel
theorem dX12_bestPrice_108 : decode cX12_bestPrice 108 = .ok (.getfield 379, 3) := by decide +kernel
theorem dX12_bestPrice_111 : decode cX12_bestPrice 111 = .ok (.lstore 5, 2) := by decide +kernel
theorem dX12_bestPrice_113 : decode cX12_bestPrice 113 = .ok (.iinc 7 1, 3) := by decide +kernel
theorem dX12_bestPrice_116 : decode cX12_bestPrice 116 = .ok (.goto (-53), 3) := by decide +kernel
theorem dX12_bestPrice_119 : decode cX12_bestPrice 119 = .ok (.aload_n 0, 1) := by decide +kernel
theorem dX12_bestPrice_120 : decode cX12_bestPrice 120 = .ok (.getfield 13, 3) := by decide +kernel
theorem dX12_bestPrice_123 : decode cX12_bestPrice 123 = .ok (.bipush 33, 2) := by decide +kernel
theorem dX12_bestPrice_125 : decode cX12_bestPrice 125 = .ok (.iload_n 1, 1) := by decide +kernel
theorem dX12_bestPrice_126 : decode cX12_bestPrice 126 = .ok (.iadd, 1) := by decide +kernel
theorem dX12_bestPrice_127 : decode cX12_bestPrice 127 = .ok (.iload_n 3, 1) := by decide +kernel
theorem dX12_bestPrice_128 : decode cX12_bestPrice 128 = .ok (.iastore, 1) := by decide +kernel
theorem dX12_bestPrice_129 : decode cX12_bestPrice 129 = .ok (.iload 4, 2) := by decide +kernel
theorem dX12_bestPrice_131 : decode cX12_bestPrice 131 = .ok (.ireturn, 1) := by decide +kernel
theorem dX12_noSeen_0 : decode cX12_noSeen 0 = .ok (.aload_n 0, 1) := by decide +kernel
theorem dX12_noSeen_1 : decode cX12_noSeen 1 = .ok (.iload_n 1, 1) := by decide +kernel
theorem dX12_noSeen_2 : decode cX12_noSeen 2 = .ok (.invokevirtual 327, 3) := by decide +kernel
theorem dX12_noSeen_5 : decode cX12_noSeen 5 = .ok (.istore_n 2, 1) := by decide +kernel
theorem dX12_noSeen_6 : decode cX12_noSeen 6 = .ok (.iload_n 2, 1) := by decide +kernel
theorem dX12_noSeen_7 : decode cX12_noSeen 7 = .ok (.ifCond .eq 5, 3) := by decide +kernel
theorem dX12_noSeen_10 : decode cX12_noSeen 10 = .ok (.iload_n 2, 1) := by decide +kernel
theorem dX12_noSeen_11 : decode cX12_noSeen 11 = .ok (.ireturn, 1) := by decide +kernel
theorem dX12_noSeen_12 : decode cX12_noSeen 12 = .ok (.aload_n 0, 1) := by decide +kernel
theorem dX12_noSeen_13 : decode cX12_noSeen 13 = .ok (.getfield 70, 3) := by decide +kernel
theorem dX12_noSeen_16 : decode cX12_noSeen 16 = .ok (.iload_n 1, 1) := by decide +kernel
theorem dX12_noSeen_17 : decode cX12_noSeen 17 = .ok (.iaload, 1) := by decide +kernel
theorem dX12_noSeen_18 : decode cX12_noSeen 18 = .ok (.i2l, 1) := by decide +kernel
theorem dX12_noSeen_19 : decode cX12_noSeen 19 = .ok (.lconst 1, 1) := by decide +kernel
theorem dX12_noSeen_20 : decode cX12_noSeen 20 = .ok (.ldc2_w 433, 3) := by decide +kernel
theorem dX12_noSeen_23 : decode cX12_noSeen 23 = .ok (.invokestatic 142, 3) := by decide +kernel
theorem dX12_noSeen_26 : decode cX12_noSeen 26 = .ok (.ifCond .ne 6, 3) := by decide +kernel
theorem dX12_noSeen_29 : decode cX12_noSeen 29 = .ok (.bipush (-4), 2) := by decide +kernel
theorem dX12_noSeen_31 : decode cX12_noSeen 31 = .ok (.ireturn, 1) := by decide +kernel
theorem dX12_noSeen_32 : decode cX12_noSeen 32 = .ok (.iconst 0, 1) := by decide +kernel
theorem dX12_noSeen_33 : decode cX12_noSeen 33 = .ok (.istore_n 3, 1) := by decide +kernel
theorem dX12_noSeen_34 : decode cX12_noSeen 34 = .ok (.iload_n 3, 1) := by decide +kernel
theorem dX12_noSeen_35 : decode cX12_noSeen 35 = .ok (.aload_n 0, 1) := by decide +kernel
theorem dX12_noSeen_36 : decode cX12_noSeen 36 = .ok (.getfield 70, 3) := by decide +kernel
theorem dX12_noSeen_39 : decode cX12_noSeen 39 = .ok (.iload_n 1, 1) := by decide +kernel
theorem dX12_noSeen_40 : decode cX12_noSeen 40 = .ok (.iaload, 1) := by decide +kernel
theorem dX12_noSeen_41 : decode cX12_noSeen 41 = .ok (.if_icmp .ge 71, 3) := by decide +kernel
theorem dX12_noSeen_44 : decode cX12_noSeen 44 = .ok (.aload_n 0, 1) := by decide +kernel
theorem dX12_noSeen_45 : decode cX12_noSeen 45 = .ok (.getfield 73, 3) := by decide +kernel
theorem dX12_noSeen_48 : decode cX12_noSeen 48 = .ok (.bipush 40, 2) := by decide +kernel
theorem dX12_noSeen_50 : decode cX12_noSeen 50 = .ok (.iload_n 1, 1) := by decide +kernel
theorem dX12_noSeen_51 : decode cX12_noSeen 51 = .ok (.imul, 1) := by decide +kernel
theorem dX12_noSeen_52 : decode cX12_noSeen 52 = .ok (.iload_n 3, 1) := by decide +kernel
theorem dX12_noSeen_53 : decode cX12_noSeen 53 = .ok (.iadd, 1) := by decide +kernel
theorem dX12_noSeen_54 : decode cX12_noSeen 54 = .ok (.laload, 1) := by decide +kernel
theorem dX12_noSeen_55 : decode cX12_noSeen 55 = .ok (.lstore 4, 2) := by decide +kernel
theorem dX12_noSeen_57 : decode cX12_noSeen 57 = .ok (.lload 4, 2) := by decide +kernel
theorem dX12_noSeen_59 : decode cX12_noSeen 59 = .ok (.lconst 0, 1) := by decide +kernel
theorem dX12_noSeen_60 : decode cX12_noSeen 60 = .ok (.lcmp, 1) := by decide +kernel
theorem dX12_noSeen_61 : decode cX12_noSeen 61 = .ok (.ifCond .lt 42, 3) := by decide +kernel
theorem dX12_noSeen_64 : decode cX12_noSeen 64 = .ok (.aload_n 0, 1) := by decide +kernel
theorem dX12_noSeen_65 : decode cX12_noSeen 65 = .ok (.lload 4, 2) := by decide +kernel
theorem dX12_noSeen_67 : decode cX12_noSeen 67 = .ok (.ldc2_w 300, 3) := by decide +kernel
theorem dX12_noSeen_70 : decode cX12_noSeen 70 = .ok (.ldiv, 1) := by decide +kernel
theorem dX12_noSeen_71 : decode cX12_noSeen 71 = .ok (.invokevirtual 252, 3) := by decide +kernel
theorem dX12_noSeen_74 : decode cX12_noSeen 74 = .ok (.ifCond .eq 29, 3) := by decide +kernel
theorem dX12_noSeen_77 : decode cX12_noSeen 77 = .ok (.lload 4, 2) := by decide +kernel
theorem dX12_noSeen_79 : decode cX12_noSeen 79 = .ok (.ldc2_w 300, 3) := by decide +kernel
theorem dX12_noSeen_82 : decode cX12_noSeen 82 = .ok (.lrem, 1) := by decide +kernel
theorem dX12_noSeen_83 : decode cX12_noSeen 83 = .ok (.ldc2_w 291, 3) := by decide +kernel
theorem dX12_noSeen_86 : decode cX12_noSeen 86 = .ok (.lcmp, 1) := by decide +kernel
theorem dX12_noSeen_87 : decode cX12_noSeen 87 = .ok (.ifCond .eq 19, 3) := by decide +kernel
theorem dX12_noSeen_90 : decode cX12_noSeen 90 = .ok (.aload_n 0, 1) := by decide +kernel
theorem dX12_noSeen_91 : decode cX12_noSeen 91 = .ok (.lload 4, 2) := by decide +kernel
theorem dX12_noSeen_93 : decode cX12_noSeen 93 = .ok (.ldc2_w 300, 3) := by decide +kernel
theorem dX12_noSeen_96 : decode cX12_noSeen 96 = .ok (.lrem, 1) := by decide +kernel
theorem dX12_noSeen_97 : decode cX12_noSeen 97 = .ok (.invokevirtual 245, 3) := by decide +kernel
theorem dX12_noSeen_100 : decode cX12_noSeen 100 = .ok (.ifCond .ne 6, 3) := by decide +kernel
theorem dX12_noSeen_103 : decode cX12_noSeen 103 = .ok (.bipush (-3), 2) := by decide +kernel
theorem dX12_noSeen_105 : decode cX12_noSeen 105 = .ok (.ireturn, 1) := by decide +kernel
theorem dX12_noSeen_106 : decode cX12_noSeen 106 = .ok (.iinc 3 1, 3) := by decide +kernel
theorem dX12_noSeen_109 : decode cX12_noSeen 109 = .ok (.goto (-75), 3) := by decide +kernel
theorem dX12_noSeen_112 : decode cX12_noSeen 112 = .ok (.iconst 0, 1) := by decide +kernel
theorem dX12_noSeen_113 : decode cX12_noSeen 113 = .ok (.ireturn, 1) := by decide +kernel
theorem dX12_seen_0 : decode cX12_seen 0 = .ok (.aload_n 0, 1) := by decide +kernel
theorem dX12_seen_1 : decode cX12_seen 1 = .ok (.iconst 0, 1) := by decide +kernel
theorem dX12_seen_2 : decode cX12_seen 2 = .ok (.putfield 1, 3) := by decide +kernel
theorem dX12_seen_5 : decode cX12_seen 5 = .ok (.aload_n 0, 1) := by decide +kernel
theorem dX12_seen_6 : decode cX12_seen 6 = .ok (.iload_n 1, 1) := by decide +kernel
theorem dX12_seen_7 : decode cX12_seen 7 = .ok (.invokevirtual 435, 3) := by decide +kernel
theorem dX12_seen_10 : decode cX12_seen 10 = .ok (.istore_n 2, 1) := by decide +kernel
theorem dX12_seen_11 : decode cX12_seen 11 = .ok (.iload_n 2, 1) := by decide +kernel
theorem dX12_seen_12 : decode cX12_seen 12 = .ok (.ifCond .eq 7, 3) := by decide +kernel
theorem dX12_seen_15 : decode cX12_seen 15 = .ok (.iload_n 2, 1) := by decide +kernel
theorem dX12_seen_16 : decode cX12_seen 16 = .ok (.goto 8, 3) := by decide +kernel
theorem dX12_seen_19 : decode cX12_seen 19 = .ok (.aload_n 0, 1) := by decide +kernel
theorem dX12_seen_20 : decode cX12_seen 20 = .ok (.iload_n 1, 1) := by decide +kernel
theorem dX12_seen_21 : decode cX12_seen 21 = .ok (.invokevirtual 438, 3) := by decide +kernel
theorem dX12_seen_24 : decode cX12_seen 24 = .ok (.ireturn, 1) := by decide +kernel
theorem dX12_sureGone_0 : decode cX12_sureGone 0 = .ok (.aload_n 0, 1) := by decide +kernel
theorem dX12_sureGone_1 : decode cX12_sureGone 1 = .ok (.iconst 0, 1) := by decide +kernel
theorem dX12_sureGone_2 : decode cX12_sureGone 2 = .ok (.putfield 1, 3) := by decide +kernel
theorem dX12_sureGone_5 : decode cX12_sureGone 5 = .ok (.aload_n 0, 1) := by decide +kernel
theorem dX12_sureGone_6 : decode cX12_sureGone 6 = .ok (.iload_n 1, 1) := by decide +kernel
theorem dX12_sureGone_7 : decode cX12_sureGone 7 = .ok (.invokevirtual 435, 3) := by decide +kernel
theorem dX12_sureGone_10 : decode cX12_sureGone 10 = .ok (.istore_n 2, 1) := by decide +kernel
theorem dX12_sureGone_11 : decode cX12_sureGone 11 = .ok (.iload_n 2, 1) := by decide +kernel
theorem dX12_sureGone_12 : decode cX12_sureGone 12 = .ok (.ifCond .eq 5, 3) := by decide +kernel
theorem dX12_sureGone_15 : decode cX12_sureGone 15 = .ok (.iload_n 2, 1) := by decide +kernel
theorem dX12_sureGone_16 : decode cX12_sureGone 16 = .ok (.ireturn, 1) := by decide +kernel
theorem dX12_sureGone_17 : decode cX12_sureGone 17 = .ok (.aload_n 0, 1) := by decide +kernel
theorem dX12_sureGone_18 : decode cX12_sureGone 18 = .ok (.iload_n 1, 1) := by decide +kernel
theorem dX12_sureGone_19 : decode cX12_sureGone 19 = .ok (.invokevirtual 438, 3) := by decide +kernel
theorem dX12_sureGone_22 : decode cX12_sureGone 22 = .ok (.ifCond .ne 7, 3) := by decide +kernel
theorem dX12_sureGone_25 : decode cX12_sureGone 25 = .ok (.iconst 0, 1) := by decide +kernel
theorem dX12_sureGone_26 : decode cX12_sureGone 26 = .ok (.goto 7, 3) := by decide +kernel
theorem dX12_sureGone_29 : decode cX12_sureGone 29 = .ok (.aload_n 0, 1) := by decide +kernel
theorem dX12_sureGone_30 : decode cX12_sureGone 30 = .ok (.invokevirtual 204, 3) := by decide +kernel
theorem dX12_sureGone_33 : decode cX12_sureGone 33 = .ok (.istore_n 3, 1) := by decide +kernel
theorem dX12_sureGone_34 : decode cX12_sureGone 34 = .ok (.iconst 0, 1) := by decide +kernel
theorem dX12_sureGone_35 : decode cX12_sureGone 35 = .ok (.istore 4, 2) := by decide +kernel
theorem dX12_sureGone_37 : decode cX12_sureGone 37 = .ok (.iload 4, 2) := by decide +kernel
theorem dX12_sureGone_39 : decode cX12_sureGone 39 = .ok (.aload_n 0, 1) := by decide +kernel
theorem dX12_sureGone_40 : decode cX12_sureGone 40 = .ok (.invokevirtual 204, 3) := by decide +kernel
theorem dX12_sureGone_43 : decode cX12_sureGone 43 = .ok (.if_icmp .gt 24, 3) := by decide +kernel
theorem dX12_sureGone_46 : decode cX12_sureGone 46 = .ok (.aload_n 0, 1) := by decide +kernel
theorem dX12_sureGone_47 : decode cX12_sureGone 47 = .ok (.getfield 61, 3) := by decide +kernel
theorem dX12_sureGone_50 : decode cX12_sureGone 50 = .ok (.iload 4, 2) := by decide +kernel
theorem dX12_sureGone_52 : decode cX12_sureGone 52 = .ok (.iaload, 1) := by decide +kernel
theorem dX12_sureGone_53 : decode cX12_sureGone 53 = .ok (.ifCond .lt 8, 3) := by decide +kernel
theorem dX12_sureGone_56 : decode cX12_sureGone 56 = .ok (.iload_n 3, 1) := by decide +kernel
theorem dX12_sureGone_57 : decode cX12_sureGone 57 = .ok (.iload 4, 2) := by decide +kernel
theorem dX12_sureGone_59 : decode cX12_sureGone 59 = .ok (.iand, 1) := by decide +kernel
theorem dX12_sureGone_60 : decode cX12_sureGone 60 = .ok (.istore_n 3, 1) := by decide +kernel
theorem dX12_sureGone_61 : decode cX12_sureGone 61 = .ok (.iinc 4 1, 3) := by decide +kernel
theorem dX12_sureGone_64 : decode cX12_sureGone 64 = .ok (.goto (-27), 3) := by decide +kernel
theorem dX12_sureGone_67 : decode cX12_sureGone 67 = .ok (.iload_n 3, 1) := by decide +kernel
theorem dX12_sureGone_68 : decode cX12_sureGone 68 = .ok (.ireturn, 1) := by decide +kernel
theorem dX12_ask_0 : decode cX12_ask 0 = .ok (.aload_n 0, 1) := by decide +kernel
theorem dX12_ask_1 : decode cX12_ask 1 = .ok (.iconst 0, 1) := by decide +kernel
theorem dX12_ask_2 : decode cX12_ask 2 = .ok (.putfield 1, 3) := by decide +kernel
theorem dX12_ask_5 : decode cX12_ask 5 = .ok (.aload_n 0, 1) := by decide +kernel
theorem dX12_ask_6 : decode cX12_ask 6 = .ok (.iload_n 1, 1) := by decide +kernel
theorem dX12_ask_7 : decode cX12_ask 7 = .ok (.invokevirtual 435, 3) := by decide +kernel
theorem dX12_ask_10 : decode cX12_ask 10 = .ok (.istore_n 2, 1) := by decide +kernel
theorem dX12_ask_11 : decode cX12_ask 11 = .ok (.iload_n 2, 1) := by decide +kernel
theorem dX12_ask_12 : decode cX12_ask 12 = .ok (.ifCond .eq 5, 3) := by decide +kernel
theorem dX12_ask_15 : decode cX12_ask 15 = .ok (.iload_n 2, 1) := by decide +kernel
theorem dX12_ask_16 : decode cX12_ask 16 = .ok (.ireturn, 1) := by decide +kernel
theorem dX12_ask_17 : decode cX12_ask 17 = .ok (.iconst (-1), 1) := by decide +kernel
theorem dX12_ask_18 : decode cX12_ask 18 = .ok (.istore_n 3, 1) := by decide +kernel
theorem dX12_ask_19 : decode cX12_ask 19 = .ok (.ldc_w 341, 3) := by decide +kernel
theorem dX12_ask_22 : decode cX12_ask 22 = .ok (.istore 4, 2) := by decide +kernel
theorem dX12_ask_24 : decode cX12_ask 24 = .ok (.aload_n 0, 1) := by decide +kernel
theorem dX12_ask_25 : decode cX12_ask 25 = .ok (.iload_n 1, 1) := by decide +kernel
theorem dX12_ask_26 : decode cX12_ask 26 = .ok (.invokevirtual 438, 3) := by decide +kernel
theorem dX12_ask_29 : decode cX12_ask 29 = .ok (.istore 5, 2) := by decide +kernel
theorem dX12_ask_31 : decode cX12_ask 31 = .ok (.iconst 0, 1) := by decide +kernel
theorem dX12_ask_32 : decode cX12_ask 32 = .ok (.istore 6, 2) := by decide +kernel
theorem dX12_ask_34 : decode cX12_ask 34 = .ok (.iload 6, 2) := by decide +kernel
theorem dX12_ask_36 : decode cX12_ask 36 = .ok (.aload_n 0, 1) := by decide +kernel
theorem dX12_ask_37 : decode cX12_ask 37 = .ok (.getfield 13, 3) := by decide +kernel
theorem dX12_ask_40 : decode cX12_ask 40 = .ok (.iconst 1, 1) := by decide +kernel
theorem dX12_ask_41 : decode cX12_ask 41 = .ok (.iaload, 1) := by decide +kernel
theorem dX12_ask_42 : decode cX12_ask 42 = .ok (.if_icmp .ge 39, 3) := by decide +kernel
theorem dX12_ask_45 : decode cX12_ask 45 = .ok (.iload 5, 2) := by decide +kernel
theorem dX12_ask_47 : decode cX12_ask 47 = .ok (.ifCond .le 34, 3) := by decide +kernel
theorem dX12_ask_50 : decode cX12_ask 50 = .ok (.aload_n 0, 1) := by decide +kernel
theorem dX12_ask_51 : decode cX12_ask 51 = .ok (.iload 6, 2) := by decide +kernel
theorem dX12_ask_53 : decode cX12_ask 53 = .ok (.invokevirtual 441, 3) := by decide +kernel
theorem dX12_ask_56 : decode cX12_ask 56 = .ok (.istore 7, 2) := by decide +kernel
theorem dX12_ask_58 : decode cX12_ask 58 = .ok (.iload 7, 2) := by decide +kernel
theorem dX12_ask_60 : decode cX12_ask 60 = .ok (.iload 4, 2) := by decide +kernel
theorem dX12_ask_62 : decode cX12_ask 62 = .ok (.if_icmp .lt 6, 3) := by decide +kernel
theorem dX12_ask_65 : decode cX12_ask 65 = .ok (.goto 10, 3) := by decide +kernel
theorem dX12_ask_68 : decode cX12_ask 68 = .ok (.iload 6, 2) := by decide +kernel
theorem dX12_ask_70 : decode cX12_ask 70 = .ok (.istore_n 3, 1) := by decide +kernel
theorem dX12_ask_71 : decode cX12_ask 71 = .ok (.iload 7, 2) := by decide +kernel
theorem dX12_ask_73 : decode cX12_ask 73 = .ok (.istore 4, 2) := by decide +kernel
theorem dX12_ask_75 : decode cX12_ask 75 = .ok (.iinc 6 1, 3) := by decide +kernel
theorem dX12_ask_78 : decode cX12_ask 78 = .ok (.goto (-44), 3) := by decide +kernel
theorem dX12_ask_81 : decode cX12_ask 81 = .ok (.iload_n 3, 1) := by decide +kernel
theorem dX12_ask_82 : decode cX12_ask 82 = .ok (.ireturn, 1) := by decide +kernel
theorem dX12_noGone_0 : decode cX12_noGone 0 = .ok (.aload_n 0, 1) := by decide +kernel
theorem dX12_noGone_1 : decode cX12_noGone 1 = .ok (.iload_n 1, 1) := by decide +kernel
theorem dX12_noGone_2 : decode cX12_noGone 2 = .ok (.invokevirtual 327, 3) := by decide +kernel
theorem dX12_noGone_5 : decode cX12_noGone 5 = .ok (.istore_n 2, 1) := by decide +kernel
theorem dX12_noGone_6 : decode cX12_noGone 6 = .ok (.iload_n 2, 1) := by decide +kernel
theorem dX12_noGone_7 : decode cX12_noGone 7 = .ok (.ifCond .eq 5, 3) := by decide +kernel
theorem dX12_noGone_10 : decode cX12_noGone 10 = .ok (.iload_n 2, 1) := by decide +kernel
theorem dX12_noGone_11 : decode cX12_noGone 11 = .ok (.ireturn, 1) := by decide +kernel
theorem dX12_noGone_12 : decode cX12_noGone 12 = .ok (.aload_n 0, 1) := by decide +kernel
theorem dX12_noGone_13 : decode cX12_noGone 13 = .ok (.getfield 70, 3) := by decide +kernel
theorem dX12_noGone_16 : decode cX12_noGone 16 = .ok (.iload_n 1, 1) := by decide +kernel
theorem dX12_noGone_17 : decode cX12_noGone 17 = .ok (.iaload, 1) := by decide +kernel
theorem dX12_noGone_18 : decode cX12_noGone 18 = .ok (.i2l, 1) := by decide +kernel
theorem dX12_noGone_19 : decode cX12_noGone 19 = .ok (.lconst 1, 1) := by decide +kernel
theorem dX12_noGone_20 : decode cX12_noGone 20 = .ok (.ldc2_w 300, 3) := by decide +kernel
theorem dX12_noGone_23 : decode cX12_noGone 23 = .ok (.invokestatic 142, 3) := by decide +kernel
theorem dX12_noGone_26 : decode cX12_noGone 26 = .ok (.ifCond .ne 6, 3) := by decide +kernel
theorem dX12_noGone_29 : decode cX12_noGone 29 = .ok (.bipush (-4), 2) := by decide +kernel
theorem dX12_noGone_31 : decode cX12_noGone 31 = .ok (.ireturn, 1) := by decide +kernel
theorem dX12_noGone_32 : decode cX12_noGone 32 = .ok (.iconst 0, 1) := by decide +kernel
theorem dX12_noGone_33 : decode cX12_noGone 33 = .ok (.istore_n 3, 1) := by decide +kernel
theorem dX12_noGone_34 : decode cX12_noGone 34 = .ok (.iload_n 3, 1) := by decide +kernel
theorem dX12_noGone_35 : decode cX12_noGone 35 = .ok (.aload_n 0, 1) := by decide +kernel
theorem dX12_noGone_36 : decode cX12_noGone 36 = .ok (.getfield 70, 3) := by decide +kernel
theorem dX12_noGone_39 : decode cX12_noGone 39 = .ok (.iload_n 1, 1) := by decide +kernel
theorem dX12_noGone_40 : decode cX12_noGone 40 = .ok (.iaload, 1) := by decide +kernel
theorem dX12_noGone_41 : decode cX12_noGone 41 = .ok (.if_icmp .ge 48, 3) := by decide +kernel
theorem dX12_noGone_44 : decode cX12_noGone 44 = .ok (.aload_n 0, 1) := by decide +kernel
theorem dX12_noGone_45 : decode cX12_noGone 45 = .ok (.getfield 73, 3) := by decide +kernel
theorem dX12_noGone_48 : decode cX12_noGone 48 = .ok (.bipush 40, 2) := by decide +kernel
theorem dX12_noGone_50 : decode cX12_noGone 50 = .ok (.iload_n 1, 1) := by decide +kernel
theorem dX12_noGone_51 : decode cX12_noGone 51 = .ok (.imul, 1) := by decide +kernel
theorem dX12_noGone_52 : decode cX12_noGone 52 = .ok (.iload_n 3, 1) := by decide +kernel
theorem dX12_noGone_53 : decode cX12_noGone 53 = .ok (.iadd, 1) := by decide +kernel
theorem dX12_noGone_54 : decode cX12_noGone 54 = .ok (.laload, 1) := by decide +kernel
theorem dX12_noGone_55 : decode cX12_noGone 55 = .ok (.ldc2_w 302, 3) := by decide +kernel
theorem dX12_noGone_58 : decode cX12_noGone 58 = .ok (.lcmp, 1) := by decide +kernel
theorem dX12_noGone_59 : decode cX12_noGone 59 = .ok (.ifCond .eq 24, 3) := by decide +kernel
theorem dX12_noGone_62 : decode cX12_noGone 62 = .ok (.aload_n 0, 1) := by decide +kernel
theorem dX12_noGone_63 : decode cX12_noGone 63 = .ok (.aload_n 0, 1) := by decide +kernel
theorem dX12_noGone_64 : decode cX12_noGone 64 = .ok (.getfield 73, 3) := by decide +kernel
theorem dX12_noGone_67 : decode cX12_noGone 67 = .ok (.bipush 40, 2) := by decide +kernel
theorem dX12_noGone_69 : decode cX12_noGone 69 = .ok (.iload_n 1, 1) := by decide +kernel
theorem dX12_noGone_70 : decode cX12_noGone 70 = .ok (.imul, 1) := by decide +kernel
theorem dX12_noGone_71 : decode cX12_noGone 71 = .ok (.iload_n 3, 1) := by decide +kernel
theorem dX12_noGone_72 : decode cX12_noGone 72 = .ok (.iadd, 1) := by decide +kernel
theorem dX12_noGone_73 : decode cX12_noGone 73 = .ok (.laload, 1) := by decide +kernel
theorem dX12_noGone_74 : decode cX12_noGone 74 = .ok (.invokevirtual 245, 3) := by decide +kernel
theorem dX12_noGone_77 : decode cX12_noGone 77 = .ok (.ifCond .ne 6, 3) := by decide +kernel
theorem dX12_noGone_80 : decode cX12_noGone 80 = .ok (.bipush (-3), 2) := by decide +kernel
theorem dX12_noGone_82 : decode cX12_noGone 82 = .ok (.ireturn, 1) := by decide +kernel
theorem dX12_noGone_83 : decode cX12_noGone 83 = .ok (.iinc 3 1, 3) := by decide +kernel
theorem dX12_noGone_86 : decode cX12_noGone 86 = .ok (.goto (-52), 3) := by decide +kernel
theorem dX12_noGone_89 : decode cX12_noGone 89 = .ok (.iconst 0, 1) := by decide +kernel
theorem dX12_noGone_90 : decode cX12_noGone 90 = .ok (.ireturn, 1) := by decide +kernel
theorem dX12_came_0 : decode cX12_came 0 = .ok (.aload_n 0, 1) := by decide +kernel
theorem dX12_came_1 : decode cX12_came 1 = .ok (.iconst 0, 1) := by decide +kernel
theorem dX12_came_2 : decode cX12_came 2 = .ok (.putfield 1, 3) := by decide +kernel
theorem dX12_came_5 : decode cX12_came 5 = .ok (.aload_n 0, 1) := by decide +kernel
theorem dX12_came_6 : decode cX12_came 6 = .ok (.iload_n 1, 1) := by decide +kernel
theorem dX12_came_7 : decode cX12_came 7 = .ok (.invokevirtual 444, 3) := by decide +kernel
theorem dX12_came_10 : decode cX12_came 10 = .ok (.istore_n 2, 1) := by decide +kernel
theorem dX12_came_11 : decode cX12_came 11 = .ok (.iload_n 2, 1) := by decide +kernel
theorem dX12_came_12 : decode cX12_came 12 = .ok (.ifCond .eq 8, 3) := by decide +kernel
theorem dX12_came_15 : decode cX12_came 15 = .ok (.iload_n 2, 1) := by decide +kernel
theorem dX12_came_16 : decode cX12_came 16 = .ok (.i2l, 1) := by decide +kernel
theorem dX12_came_17 : decode cX12_came 17 = .ok (.goto 10, 3) := by decide +kernel
theorem dX12_came_20 : decode cX12_came 20 = .ok (.aload_n 0, 1) := by decide +kernel
theorem dX12_came_21 : decode cX12_came 21 = .ok (.iload_n 1, 1) := by decide +kernel
theorem dX12_came_22 : decode cX12_came 22 = .ok (.iconst (-1), 1) := by decide +kernel
theorem dX12_came_23 : decode cX12_came 23 = .ok (.iconst (-1), 1) := by decide +kernel
theorem dX12_came_24 : decode cX12_came 24 = .ok (.invokevirtual 447, 3) := by decide +kernel
theorem dX12_came_27 : decode cX12_came 27 = .ok (.lreturn, 1) := by decide +kernel
theorem dX12_who_0 : decode cX12_who 0 = .ok (.aload_n 0, 1) := by decide +kernel
theorem dX12_who_1 : decode cX12_who 1 = .ok (.iconst 0, 1) := by decide +kernel
theorem dX12_who_2 : decode cX12_who 2 = .ok (.putfield 1, 3) := by decide +kernel
theorem dX12_who_5 : decode cX12_who 5 = .ok (.aload_n 0, 1) := by decide +kernel
theorem dX12_who_6 : decode cX12_who 6 = .ok (.iload_n 1, 1) := by decide +kernel
theorem dX12_who_7 : decode cX12_who 7 = .ok (.invokevirtual 444, 3) := by decide +kernel
theorem dX12_who_10 : decode cX12_who 10 = .ok (.istore_n 3, 1) := by decide +kernel
theorem dX12_who_11 : decode cX12_who 11 = .ok (.iload_n 3, 1) := by decide +kernel
theorem dX12_who_12 : decode cX12_who 12 = .ok (.ifCond .eq 5, 3) := by decide +kernel
theorem dX12_who_15 : decode cX12_who 15 = .ok (.iload_n 3, 1) := by decide +kernel
theorem dX12_who_16 : decode cX12_who 16 = .ok (.ireturn, 1) := by decide +kernel
theorem dX12_who_17 : decode cX12_who 17 = .ok (.iload_n 2, 1) := by decide +kernel
theorem dX12_who_18 : decode cX12_who 18 = .ok (.i2l, 1) := by decide +kernel
theorem dX12_who_19 : decode cX12_who 19 = .ok (.lconst 0, 1) := by decide +kernel
theorem dX12_who_20 : decode cX12_who 20 = .ok (.aload_n 0, 1) := by decide +kernel
theorem dX12_who_21 : decode cX12_who 21 = .ok (.getfield 70, 3) := by decide +kernel
theorem dX12_who_24 : decode cX12_who 24 = .ok (.iload_n 1, 1) := by decide +kernel
theorem dX12_who_25 : decode cX12_who 25 = .ok (.iaload, 1) := by decide +kernel
theorem dX12_who_26 : decode cX12_who 26 = .ok (.iconst 1, 1) := by decide +kernel
theorem dX12_who_27 : decode cX12_who 27 = .ok (.isub, 1) := by decide +kernel
theorem dX12_who_28 : decode cX12_who 28 = .ok (.i2l, 1) := by decide +kernel
theorem dX12_who_29 : decode cX12_who 29 = .ok (.invokestatic 142, 3) := by decide +kernel
theorem dX12_who_32 : decode cX12_who 32 = .ok (.ifCond .ne 6, 3) := by decide +kernel
theorem dX12_who_35 : decode cX12_who 35 = .ok (.bipush (-7), 2) := by decide +kernel
theorem dX12_who_37 : decode cX12_who 37 = .ok (.ireturn, 1) := by decide +kernel
theorem dX12_who_38 : decode cX12_who 38 = .ok (.iconst 0, 1) := by decide +kernel
theorem dX12_who_39 : decode cX12_who 39 = .ok (.istore 4, 2) := by decide +kernel
theorem dX12_who_41 : decode cX12_who 41 = .ok (.iconst 0, 1) := by decide +kernel
theorem dX12_who_42 : decode cX12_who 42 = .ok (.istore 5, 2) := by decide +kernel
theorem dX12_who_44 : decode cX12_who 44 = .ok (.iload 5, 2) := by decide +kernel
theorem dX12_who_46 : decode cX12_who 46 = .ok (.aload_n 0, 1) := by decide +kernel
theorem dX12_who_47 : decode cX12_who 47 = .ok (.getfield 13, 3) := by decide +kernel
theorem dX12_who_50 : decode cX12_who 50 = .ok (.iconst 1, 1) := by decide +kernel
theorem dX12_who_51 : decode cX12_who 51 = .ok (.iaload, 1) := by decide +kernel
theorem dX12_who_52 : decode cX12_who 52 = .ok (.if_icmp .ge 35, 3) := by decide +kernel
theorem dX12_who_55 : decode cX12_who 55 = .ok (.iload 4, 2) := by decide +kernel
theorem dX12_who_57 : decode cX12_who 57 = .ok (.aload_n 0, 1) := by decide +kernel
theorem dX12_who_58 : decode cX12_who 58 = .ok (.iload_n 1, 1) := by decide +kernel
theorem dX12_who_59 : decode cX12_who 59 = .ok (.iload_n 2, 1) := by decide +kernel
theorem dX12_who_60 : decode cX12_who 60 = .ok (.iload 5, 2) := by decide +kernel
theorem dX12_who_62 : decode cX12_who 62 = .ok (.invokevirtual 447, 3) := by decide +kernel
theorem dX12_who_65 : decode cX12_who 65 = .ok (.lconst 0, 1) := by decide +kernel
theorem dX12_who_66 : decode cX12_who 66 = .ok (.lcmp, 1) := by decide +kernel
theorem dX12_who_67 : decode cX12_who 67 = .ok (.ifCond .le 10, 3) := by decide +kernel
theorem dX12_who_70 : decode cX12_who 70 = .ok (.iconst 1, 1) := by decide +kernel
theorem dX12_who_71 : decode cX12_who 71 = .ok (.iload 5, 2) := by decide +kernel
theorem dX12_who_73 : decode cX12_who 73 = .ok (.ishl, 1) := by decide +kernel
theorem dX12_who_74 : decode cX12_who 74 = .ok (.goto 4, 3) := by decide +kernel
theorem dX12_who_77 : decode cX12_who 77 = .ok (.iconst 0, 1) := by decide +kernel
theorem dX12_who_78 : decode cX12_who 78 = .ok (.ior, 1) := by decide +kernel
theorem dX12_who_79 : decode cX12_who 79 = .ok (.istore 4, 2) := by decide +kernel
theorem dX12_who_81 : decode cX12_who 81 = .ok (.iinc 5 1, 3) := by decide +kernel
theorem dX12_who_84 : decode cX12_who 84 = .ok (.goto (-40), 3) := by decide +kernel
theorem dX12_who_87 : decode cX12_who 87 = .ok (.iload 4, 2) := by decide +kernel
theorem dX12_who_89 : decode cX12_who 89 = .ok (.ireturn, 1) := by decide +kernel
theorem dX12_numbers_0 : decode cX12_numbers 0 = .ok (.aload_n 0, 1) := by decide +kernel
theorem dX12_numbers_1 : decode cX12_numbers 1 = .ok (.iconst 0, 1) := by decide +kernel
theorem dX12_numbers_2 : decode cX12_numbers 2 = .ok (.putfield 1, 3) := by decide +kernel
theorem dX12_numbers_5 : decode cX12_numbers 5 = .ok (.iload_n 1, 1) := by decide +kernel
theorem dX12_numbers_6 : decode cX12_numbers 6 = .ok (.i2l, 1) := by decide +kernel
theorem dX12_numbers_7 : decode cX12_numbers 7 = .ok (.lconst 0, 1) := by decide +kernel
theorem dX12_numbers_8 : decode cX12_numbers 8 = .ok (.ldc2_w 325, 3) := by decide +kernel
theorem dX12_numbers_11 : decode cX12_numbers 11 = .ok (.invokestatic 142, 3) := by decide +kernel
theorem dX12_numbers_14 : decode cX12_numbers 14 = .ok (.ifCond .eq 15, 3) := by decide +kernel
theorem dX12_numbers_17 : decode cX12_numbers 17 = .ok (.iload_n 2, 1) := by decide +kernel
theorem dX12_numbers_18 : decode cX12_numbers 18 = .ok (.i2l, 1) := by decide +kernel
theorem dX12_numbers_19 : decode cX12_numbers 19 = .ok (.lconst 0, 1) := by decide +kernel
theorem dX12_numbers_20 : decode cX12_numbers 20 = .ok (.ldc2_w 325, 3) := by decide +kernel
theorem dX12_numbers_23 : decode cX12_numbers 23 = .ok (.invokestatic 142, 3) := by decide +kernel
theorem dX12_numbers_26 : decode cX12_numbers 26 = .ok (.ifCond .ne 6, 3) := by decide +kernel
theorem dX12_numbers_29 : decode cX12_numbers 29 = .ok (.bipush (-2), 2) := by decide +kernel
theorem dX12_numbers_31 : decode cX12_numbers 31 = .ok (.ireturn, 1) := by decide +kernel
theorem dX12_numbers_32 : decode cX12_numbers 32 = .ok (.iload_n 3, 1) := by decide +kernel
theorem dX12_numbers_33 : decode cX12_numbers 33 = .ok (.i2l, 1) := by decide +kernel
theorem dX12_numbers_34 : decode cX12_numbers 34 = .ok (.lconst 0, 1) := by decide +kernel
theorem dX12_numbers_35 : decode cX12_numbers 35 = .ok (.ldc2_w 336, 3) := by decide +kernel
theorem dX12_numbers_38 : decode cX12_numbers 38 = .ok (.invokestatic 142, 3) := by decide +kernel
theorem dX12_numbers_41 : decode cX12_numbers 41 = .ok (.ifCond .ne 6, 3) := by decide +kernel
theorem dX12_numbers_44 : decode cX12_numbers 44 = .ok (.bipush (-3), 2) := by decide +kernel
theorem dX12_numbers_46 : decode cX12_numbers 46 = .ok (.ireturn, 1) := by decide +kernel
theorem dX12_numbers_47 : decode cX12_numbers 47 = .ok (.aload_n 0, 1) := by decide +kernel
theorem dX12_numbers_48 : decode cX12_numbers 48 = .ok (.getfield 67, 3) := by decide +kernel
theorem dX12_numbers_51 : decode cX12_numbers 51 = .ok (.iload_n 1, 1) := by decide +kernel
theorem dX12_numbers_52 : decode cX12_numbers 52 = .ok (.iload_n 2, 1) := by decide +kernel
theorem dX12_numbers_53 : decode cX12_numbers 53 = .ok (.iastore, 1) := by decide +kernel
theorem dX12_numbers_54 : decode cX12_numbers 54 = .ok (.aload_n 0, 1) := by decide +kernel
theorem dX12_numbers_55 : decode cX12_numbers 55 = .ok (.getfield 70, 3) := by decide +kernel
theorem dX12_numbers_58 : decode cX12_numbers 58 = .ok (.iload_n 1, 1) := by decide +kernel
theorem dX12_numbers_59 : decode cX12_numbers 59 = .ok (.iload_n 3, 1) := by decide +kernel
theorem dX12_numbers_60 : decode cX12_numbers 60 = .ok (.iastore, 1) := by decide +kernel
theorem dX12_numbers_61 : decode cX12_numbers 61 = .ok (.iconst 0, 1) := by decide +kernel
theorem dX12_numbers_62 : decode cX12_numbers 62 = .ok (.istore 4, 2) := by decide +kernel
theorem dX12_numbers_64 : decode cX12_numbers 64 = .ok (.iload 4, 2) := by decide +kernel
theorem dX12_numbers_66 : decode cX12_numbers 66 = .ok (.iload_n 3, 1) := by decide +kernel
theorem dX12_numbers_67 : decode cX12_numbers 67 = .ok (.if_icmp .ge 22, 3) := by decide +kernel
theorem dX12_numbers_70 : decode cX12_numbers 70 = .ok (.aload_n 0, 1) := by decide +kernel
theorem dX12_numbers_71 : decode cX12_numbers 71 = .ok (.getfield 73, 3) := by decide +kernel
theorem dX12_numbers_74 : decode cX12_numbers 74 = .ok (.bipush 40, 2) := by decide +kernel
theorem dX12_numbers_76 : decode cX12_numbers 76 = .ok (.iload_n 1, 1) := by decide +kernel
theorem dX12_numbers_77 : decode cX12_numbers 77 = .ok (.imul, 1) := by decide +kernel
theorem dX12_numbers_78 : decode cX12_numbers 78 = .ok (.iload 4, 2) := by decide +kernel
theorem dX12_numbers_80 : decode cX12_numbers 80 = .ok (.iadd, 1) := by decide +kernel
theorem dX12_numbers_81 : decode cX12_numbers 81 = .ok (.lconst 0, 1) := by decide +kernel
theorem dX12_numbers_82 : decode cX12_numbers 82 = .ok (.lastore, 1) := by decide +kernel
theorem dX12_numbers_83 : decode cX12_numbers 83 = .ok (.iinc 4 1, 3) := by decide +kernel
theorem dX12_numbers_86 : decode cX12_numbers 86 = .ok (.goto (-22), 3) := by decide +kernel
theorem dX12_numbers_89 : decode cX12_numbers 89 = .ok (.iconst 0, 1) := by decide +kernel
theorem dX12_numbers_90 : decode cX12_numbers 90 = .ok (.ireturn, 1) := by decide +kernel
theorem dX12_write_0 : decode cX12_write 0 = .ok (.aload_n 0, 1) := by decide +kernel
theorem dX12_write_1 : decode cX12_write 1 = .ok (.iconst 0, 1) := by decide +kernel
theorem dX12_write_2 : decode cX12_write 2 = .ok (.putfield 1, 3) := by decide +kernel
theorem dX12_write_5 : decode cX12_write 5 = .ok (.aload_n 0, 1) := by decide +kernel
theorem dX12_write_6 : decode cX12_write 6 = .ok (.iload_n 1, 1) := by decide +kernel
theorem dX12_write_7 : decode cX12_write 7 = .ok (.invokevirtual 327, 3) := by decide +kernel
theorem dX12_write_10 : decode cX12_write 10 = .ok (.istore 5, 2) := by decide +kernel
theorem dX12_write_12 : decode cX12_write 12 = .ok (.iload 5, 2) := by decide +kernel
theorem dX12_write_14 : decode cX12_write 14 = .ok (.ifCond .eq 7, 3) := by decide +kernel
theorem dX12_write_17 : decode cX12_write 17 = .ok (.iload 5, 2) := by decide +kernel
theorem dX12_write_19 : decode cX12_write 19 = .ok (.i2l, 1) := by decide +kernel
theorem dX12_write_20 : decode cX12_write 20 = .ok (.lreturn, 1) := by decide +kernel
theorem dX12_write_21 : decode cX12_write 21 = .ok (.iload_n 2, 1) := by decide +kernel
theorem dX12_write_22 : decode cX12_write 22 = .ok (.i2l, 1) := by decide +kernel
theorem dX12_write_23 : decode cX12_write 23 = .ok (.lconst 0, 1) := by decide +kernel
theorem dX12_write_24 : decode cX12_write 24 = .ok (.aload_n 0, 1) := by decide +kernel
theorem dX12_write_25 : decode cX12_write 25 = .ok (.getfield 70, 3) := by decide +kernel
theorem dX12_write_28 : decode cX12_write 28 = .ok (.iload_n 1, 1) := by decide +kernel
theorem dX12_write_29 : decode cX12_write 29 = .ok (.iaload, 1) := by decide +kernel
theorem dX12_write_30 : decode cX12_write 30 = .ok (.iconst 1, 1) := by decide +kernel
theorem dX12_write_31 : decode cX12_write 31 = .ok (.isub, 1) := by decide +kernel
theorem dX12_write_32 : decode cX12_write 32 = .ok (.i2l, 1) := by decide +kernel
theorem dX12_write_33 : decode cX12_write 33 = .ok (.invokestatic 142, 3) := by decide +kernel
theorem dX12_write_36 : decode cX12_write 36 = .ok (.ifCond .ne 7, 3) := by decide +kernel
theorem dX12_write_39 : decode cX12_write 39 = .ok (.ldc2_w 451, 3) := by decide +kernel
theorem dX12_write_42 : decode cX12_write 42 = .ok (.lreturn, 1) := by decide +kernel
theorem dX12_write_43 : decode cX12_write 43 = .ok (.aload_n 0, 1) := by decide +kernel
theorem dX12_write_44 : decode cX12_write 44 = .ok (.getfield 73, 3) := by decide +kernel
theorem dX12_write_47 : decode cX12_write 47 = .ok (.bipush 40, 2) := by decide +kernel
theorem dX12_write_49 : decode cX12_write 49 = .ok (.iload_n 1, 1) := by decide +kernel
theorem dX12_write_50 : decode cX12_write 50 = .ok (.imul, 1) := by decide +kernel
theorem dX12_write_51 : decode cX12_write 51 = .ok (.iload_n 2, 1) := by decide +kernel
theorem dX12_write_52 : decode cX12_write 52 = .ok (.iadd, 1) := by decide +kernel
theorem dX12_write_53 : decode cX12_write 53 = .ok (.lload_n 3, 1) := by decide +kernel
theorem dX12_write_54 : decode cX12_write 54 = .ok (.aload_n 0, 1) := by decide +kernel
theorem dX12_write_55 : decode cX12_write 55 = .ok (.getfield 67, 3) := by decide +kernel
theorem dX12_write_58 : decode cX12_write 58 = .ok (.iload_n 1, 1) := by decide +kernel
theorem dX12_write_59 : decode cX12_write 59 = .ok (.iaload, 1) := by decide +kernel
theorem dX12_write_60 : decode cX12_write 60 = .ok (.invokestatic 453, 3) := by decide +kernel
theorem dX12_write_63 : decode cX12_write 63 = .ok (.lastore, 1) := by decide +kernel
theorem dX12_write_64 : decode cX12_write 64 = .ok (.aload_n 0, 1) := by decide +kernel
theorem dX12_write_65 : decode cX12_write 65 = .ok (.getfield 73, 3) := by decide +kernel
theorem dX12_write_68 : decode cX12_write 68 = .ok (.bipush 40, 2) := by decide +kernel
theorem dX12_write_70 : decode cX12_write 70 = .ok (.iload_n 1, 1) := by decide +kernel
theorem dX12_write_71 : decode cX12_write 71 = .ok (.imul, 1) := by decide +kernel
theorem dX12_write_72 : decode cX12_write 72 = .ok (.iload_n 2, 1) := by decide +kernel
theorem dX12_write_73 : decode cX12_write 73 = .ok (.iadd, 1) := by decide +kernel
theorem dX12_write_74 : decode cX12_write 74 = .ok (.laload, 1) := by decide +kernel
theorem dX12_write_75 : decode cX12_write 75 = .ok (.lreturn, 1) := by decide +kernel
theorem dX12_lists_0 : decode cX12_lists 0 = .ok (.aload_n 0, 1) := by decide +kernel
theorem dX12_lists_1 : decode cX12_lists 1 = .ok (.iconst 0, 1) := by decide +kernel
theorem dX12_lists_2 : decode cX12_lists 2 = .ok (.putfield 1, 3) := by decide +kernel
theorem dX12_lists_5 : decode cX12_lists 5 = .ok (.aload_n 0, 1) := by decide +kernel
theorem dX12_lists_6 : decode cX12_lists 6 = .ok (.iload_n 1, 1) := by decide +kernel
theorem dX12_lists_7 : decode cX12_lists 7 = .ok (.invokevirtual 327, 3) := by decide +kernel
theorem dX12_lists_10 : decode cX12_lists 10 = .ok (.istore_n 2, 1) := by decide +kernel
theorem dX12_lists_11 : decode cX12_lists 11 = .ok (.iload_n 2, 1) := by decide +kernel
theorem dX12_lists_12 : decode cX12_lists 12 = .ok (.ifCond .eq 5, 3) := by decide +kernel
theorem dX12_lists_15 : decode cX12_lists 15 = .ok (.iload_n 2, 1) := by decide +kernel
theorem dX12_lists_16 : decode cX12_lists 16 = .ok (.ireturn, 1) := by decide +kernel
theorem dX12_lists_17 : decode cX12_lists 17 = .ok (.aload_n 0, 1) := by decide +kernel
theorem dX12_lists_18 : decode cX12_lists 18 = .ok (.invokevirtual 354, 3) := by decide +kernel
theorem dX12_lists_21 : decode cX12_lists 21 = .ok (.istore_n 3, 1) := by decide +kernel
theorem dX12_lists_22 : decode cX12_lists 22 = .ok (.iload_n 3, 1) := by decide +kernel
theorem dX12_lists_23 : decode cX12_lists 23 = .ok (.iconst (-1), 1) := by decide +kernel
theorem dX12_lists_24 : decode cX12_lists 24 = .ok (.if_icmp .ne 6, 3) := by decide +kernel
theorem dX12_lists_27 : decode cX12_lists 27 = .ok (.bipush (-5), 2) := by decide +kernel
theorem dX12_lists_29 : decode cX12_lists 29 = .ok (.ireturn, 1) := by decide +kernel
theorem dX12_lists_30 : decode cX12_lists 30 = .ok (.iload_n 3, 1) := by decide +kernel
theorem dX12_lists_31 : decode cX12_lists 31 = .ok (.aload_n 0, 1) := by decide +kernel
theorem dX12_lists_32 : decode cX12_lists 32 = .ok (.getfield 70, 3) := by decide +kernel
theorem dX12_lists_35 : decode cX12_lists 35 = .ok (.iload_n 1, 1) := by decide +kernel
theorem dX12_lists_36 : decode cX12_lists 36 = .ok (.iaload, 1) := by decide +kernel
theorem dX12_lists_37 : decode cX12_lists 37 = .ok (.if_icmp .ge 7, 3) := by decide +kernel
theorem dX12_lists_40 : decode cX12_lists 40 = .ok (.iload_n 3, 1) := by decide +kernel
theorem dX12_lists_41 : decode cX12_lists 41 = .ok (.goto 9, 3) := by decide +kernel
theorem dX12_lists_44 : decode cX12_lists 44 = .ok (.aload_n 0, 1) := by decide +kernel
theorem dX12_lists_45 : decode cX12_lists 45 = .ok (.getfield 70, 3) := by decide +kernel
theorem dX12_lists_48 : decode cX12_lists 48 = .ok (.iload_n 1, 1) := by decide +kernel
theorem dX12_lists_49 : decode cX12_lists 49 = .ok (.iaload, 1) := by decide +kernel
theorem dX12_lists_50 : decode cX12_lists 50 = .ok (.istore 4, 2) := by decide +kernel
theorem dX12_lists_52 : decode cX12_lists 52 = .ok (.iconst 0, 1) := by decide +kernel
theorem dX12_lists_53 : decode cX12_lists 53 = .ok (.istore 5, 2) := by decide +kernel
theorem dX12_lists_55 : decode cX12_lists 55 = .ok (.iload 5, 2) := by decide +kernel
theorem dX12_lists_57 : decode cX12_lists 57 = .ok (.iload 4, 2) := by decide +kernel
theorem dX12_lists_59 : decode cX12_lists 59 = .ok (.if_icmp .ge 29, 3) := by decide +kernel
theorem dX12_lists_62 : decode cX12_lists 62 = .ok (.aload_n 0, 1) := by decide +kernel
theorem dX12_lists_63 : decode cX12_lists 63 = .ok (.getfield 73, 3) := by decide +kernel
theorem dX12_lists_66 : decode cX12_lists 66 = .ok (.bipush 40, 2) := by decide +kernel
theorem dX12_lists_68 : decode cX12_lists 68 = .ok (.iload_n 1, 1) := by decide +kernel
theorem dX12_lists_69 : decode cX12_lists 69 = .ok (.imul, 1) := by decide +kernel
theorem dX12_lists_70 : decode cX12_lists 70 = .ok (.iload 5, 2) := by decide +kernel
theorem dX12_lists_72 : decode cX12_lists 72 = .ok (.iadd, 1) := by decide +kernel
theorem dX12_lists_73 : decode cX12_lists 73 = .ok (.aload_n 0, 1) := by decide +kernel
theorem dX12_lists_74 : decode cX12_lists 74 = .ok (.getfield 45, 3) := by decide +kernel
theorem dX12_lists_77 : decode cX12_lists 77 = .ok (.iload 5, 2) := by decide +kernel
theorem dX12_lists_79 : decode cX12_lists 79 = .ok (.iaload, 1) := by decide +kernel
theorem dX12_lists_80 : decode cX12_lists 80 = .ok (.i2l, 1) := by decide +kernel
theorem dX12_lists_81 : decode cX12_lists 81 = .ok (.lastore, 1) := by decide +kernel
theorem dX12_lists_82 : decode cX12_lists 82 = .ok (.iinc 5 1, 3) := by decide +kernel
theorem dX12_lists_85 : decode cX12_lists 85 = .ok (.goto (-30), 3) := by decide +kernel
theorem dX12_lists_88 : decode cX12_lists 88 = .ok (.iload 4, 2) := by decide +kernel
theorem dX12_lists_90 : decode cX12_lists 90 = .ok (.ireturn, 1) := by decide +kernel
theorem dX12_image_0 : decode cX12_image 0 = .ok (.aload_n 0, 1) := by decide +kernel
theorem dX12_image_1 : decode cX12_image 1 = .ok (.iconst 0, 1) := by decide +kernel
theorem dX12_image_2 : decode cX12_image 2 = .ok (.putfield 1, 3) := by decide +kernel
theorem dX12_image_5 : decode cX12_image 5 = .ok (.iload_n 1, 1) := by decide +kernel
theorem dX12_image_6 : decode cX12_image 6 = .ok (.i2l, 1) := by decide +kernel
theorem dX12_image_7 : decode cX12_image 7 = .ok (.lconst 0, 1) := by decide +kernel
theorem dX12_image_8 : decode cX12_image 8 = .ok (.lconst 1, 1) := by decide +kernel
theorem dX12_image_9 : decode cX12_image 9 = .ok (.invokestatic 142, 3) := by decide +kernel
theorem dX12_image_12 : decode cX12_image 12 = .ok (.ifCond .ne 6, 3) := by decide +kernel
theorem dX12_image_15 : decode cX12_image 15 = .ok (.bipush (-2), 2) := by decide +kernel
theorem dX12_image_17 : decode cX12_image 17 = .ok (.ireturn, 1) := by decide +kernel
theorem dX12_image_18 : decode cX12_image 18 = .ok (.iconst 0, 1) := by decide +kernel
theorem dX12_image_19 : decode cX12_image 19 = .ok (.istore_n 2, 1) := by decide +kernel
theorem dX12_image_20 : decode cX12_image 20 = .ok (.iload_n 2, 1) := by decide +kernel
theorem dX12_image_21 : decode cX12_image 21 = .ok (.sipush 1181, 3) := by decide +kernel
theorem dX12_image_24 : decode cX12_image 24 = .ok (.if_icmp .ge 29, 3) := by decide +kernel
theorem dX12_image_27 : decode cX12_image 27 = .ok (.aload_n 0, 1) := by decide +kernel
theorem dX12_image_28 : decode cX12_image 28 = .ok (.getfield 13, 3) := by decide +kernel
theorem dX12_image_31 : decode cX12_image 31 = .ok (.sipush 1181, 3) := by decide +kernel
theorem dX12_image_34 : decode cX12_image 34 = .ok (.iload_n 1, 1) := by decide +kernel
theorem dX12_image_35 : decode cX12_image 35 = .ok (.iconst 1, 1) := by decide +kernel
theorem dX12_image_36 : decode cX12_image 36 = .ok (.iadd, 1) := by decide +kernel
theorem dX12_image_37 : decode cX12_image 37 = .ok (.imul, 1) := by decide +kernel
theorem dX12_image_38 : decode cX12_image 38 = .ok (.iload_n 2, 1) := by decide +kernel
theorem dX12_image_39 : decode cX12_image 39 = .ok (.iadd, 1) := by decide +kernel
theorem dX12_image_40 : decode cX12_image 40 = .ok (.aload_n 0, 1) := by decide +kernel
theorem dX12_image_41 : decode cX12_image 41 = .ok (.getfield 13, 3) := by decide +kernel
theorem dX12_image_44 : decode cX12_image 44 = .ok (.iload_n 2, 1) := by decide +kernel
theorem dX12_image_45 : decode cX12_image 45 = .ok (.iaload, 1) := by decide +kernel
theorem dX12_image_46 : decode cX12_image 46 = .ok (.iastore, 1) := by decide +kernel
theorem dX12_image_47 : decode cX12_image 47 = .ok (.iinc 2 1, 3) := by decide +kernel
theorem dX12_image_50 : decode cX12_image 50 = .ok (.goto (-30), 3) := by decide +kernel
theorem dX12_image_53 : decode cX12_image 53 = .ok (.aload_n 0, 1) := by decide +kernel
theorem dX12_image_54 : decode cX12_image 54 = .ok (.getfield 17, 3) := by decide +kernel
theorem dX12_image_57 : decode cX12_image 57 = .ok (.iload_n 1, 1) := by decide +kernel
theorem dX12_image_58 : decode cX12_image 58 = .ok (.iconst 1, 1) := by decide +kernel
theorem dX12_image_59 : decode cX12_image 59 = .ok (.bastore, 1) := by decide +kernel
theorem dX12_image_60 : decode cX12_image 60 = .ok (.iconst 0, 1) := by decide +kernel
theorem dX12_image_61 : decode cX12_image 61 = .ok (.ireturn, 1) := by decide +kernel
theorem dX12_restore_0 : decode cX12_restore 0 = .ok (.aload_n 0, 1) := by decide +kernel
theorem dX12_restore_1 : decode cX12_restore 1 = .ok (.iconst 0, 1) := by decide +kernel
theorem dX12_restore_2 : decode cX12_restore 2 = .ok (.putfield 1, 3) := by decide +kernel
theorem dX12_restore_5 : decode cX12_restore 5 = .ok (.iload_n 1, 1) := by decide +kernel
theorem dX12_restore_6 : decode cX12_restore 6 = .ok (.i2l, 1) := by decide +kernel
theorem dX12_restore_7 : decode cX12_restore 7 = .ok (.lconst 0, 1) := by decide +kernel
theorem dX12_restore_8 : decode cX12_restore 8 = .ok (.lconst 1, 1) := by decide +kernel
theorem dX12_restore_9 : decode cX12_restore 9 = .ok (.invokestatic 142, 3) := by decide +kernel
theorem dX12_restore_12 : decode cX12_restore 12 = .ok (.ifCond .ne 6, 3) := by decide +kernel
theorem dX12_restore_15 : decode cX12_restore 15 = .ok (.bipush (-2), 2) := by decide +kernel
theorem dX12_restore_17 : decode cX12_restore 17 = .ok (.ireturn, 1) := by decide +kernel
theorem dX12_restore_18 : decode cX12_restore 18 = .ok (.aload_n 0, 1) := by decide +kernel
theorem dX12_restore_19 : decode cX12_restore 19 = .ok (.getfield 17, 3) := by decide +kernel
theorem dX12_restore_22 : decode cX12_restore 22 = .ok (.iload_n 1, 1) := by decide +kernel
theorem dX12_restore_23 : decode cX12_restore 23 = .ok (.baload, 1) := by decide +kernel
theorem dX12_restore_24 : decode cX12_restore 24 = .ok (.ifCond .ne 6, 3) := by decide +kernel
theorem dX12_restore_27 : decode cX12_restore 27 = .ok (.bipush (-5), 2) := by decide +kernel
theorem dX12_restore_29 : decode cX12_restore 29 = .ok (.ireturn, 1) := by decide +kernel
theorem dX12_restore_30 : decode cX12_restore 30 = .ok (.iconst 0, 1) := by decide +kernel
theorem dX12_restore_31 : decode cX12_restore 31 = .ok (.istore_n 2, 1) := by decide +kernel
theorem dX12_restore_32 : decode cX12_restore 32 = .ok (.iload_n 2, 1) := by decide +kernel
theorem dX12_restore_33 : decode cX12_restore 33 = .ok (.sipush 1181, 3) := by decide +kernel
theorem dX12_restore_36 : decode cX12_restore 36 = .ok (.if_icmp .ge 29, 3) := by decide +kernel
theorem dX12_restore_39 : decode cX12_restore 39 = .ok (.aload_n 0, 1) := by decide +kernel
theorem dX12_restore_40 : decode cX12_restore 40 = .ok (.getfield 13, 3) := by decide +kernel
theorem dX12_restore_43 : decode cX12_restore 43 = .ok (.iload_n 2, 1) := by decide +kernel
theorem dX12_restore_44 : decode cX12_restore 44 = .ok (.aload_n 0, 1) := by decide +kernel
theorem dX12_restore_45 : decode cX12_restore 45 = .ok (.getfield 13, 3) := by decide +kernel
theorem dX12_restore_48 : decode cX12_restore 48 = .ok (.sipush 1181, 3) := by decide +kernel
theorem dX12_restore_51 : decode cX12_restore 51 = .ok (.iload_n 1, 1) := by decide +kernel
theorem dX12_restore_52 : decode cX12_restore 52 = .ok (.iconst 1, 1) := by decide +kernel
theorem dX12_restore_53 : decode cX12_restore 53 = .ok (.iadd, 1) := by decide +kernel
theorem dX12_restore_54 : decode cX12_restore 54 = .ok (.imul, 1) := by decide +kernel
theorem dX12_restore_55 : decode cX12_restore 55 = .ok (.iload_n 2, 1) := by decide +kernel
theorem dX12_restore_56 : decode cX12_restore 56 = .ok (.iadd, 1) := by decide +kernel
theorem dX12_restore_57 : decode cX12_restore 57 = .ok (.iaload, 1) := by decide +kernel
theorem dX12_restore_58 : decode cX12_restore 58 = .ok (.iastore, 1) := by decide +kernel
theorem dX12_restore_59 : decode cX12_restore 59 = .ok (.iinc 2 1, 3) := by decide +kernel
theorem dX12_restore_62 : decode cX12_restore 62 = .ok (.goto (-30), 3) := by decide +kernel
theorem dX12_restore_65 : decode cX12_restore 65 = .ok (.aload_n 0, 1) := by decide +kernel
theorem dX12_restore_66 : decode cX12_restore 66 = .ok (.getfield 13, 3) := by decide +kernel
theorem dX12_restore_69 : decode cX12_restore 69 = .ok (.bipush 49, 2) := by decide +kernel
theorem dX12_restore_71 : decode cX12_restore 71 = .ok (.iconst 0, 1) := by decide +kernel
theorem dX12_restore_72 : decode cX12_restore 72 = .ok (.iastore, 1) := by decide +kernel
theorem dX12_restore_73 : decode cX12_restore 73 = .ok (.iconst 0, 1) := by decide +kernel
theorem dX12_restore_74 : decode cX12_restore 74 = .ok (.ireturn, 1) := by decide +kernel
theorem dX12_count_0 : decode cX12_count 0 = .ok (.aload_n 0, 1) := by decide +kernel
theorem dX12_count_1 : decode cX12_count 1 = .ok (.iconst 0, 1) := by decide +kernel
theorem dX12_count_2 : decode cX12_count 2 = .ok (.putfield 1, 3) := by decide +kernel
theorem dX12_count_5 : decode cX12_count 5 = .ok (.iload_n 1, 1) := by decide +kernel
theorem dX12_count_6 : decode cX12_count 6 = .ok (.tableswitch 155 0 11 #[62, 70, 77, 85, 93, 106, 114, 122, 130, 135, 143, 148], 62) := by decide +kernel
theorem dX12_count_68 : decode cX12_count 68 = .ok (.aload_n 0, 1) := by decide +kernel
theorem dX12_count_69 : decode cX12_count 69 = .ok (.getfield 13, 3) := by decide +kernel
theorem dX12_count_72 : decode cX12_count 72 = .ok (.bipush 26, 2) := by decide +kernel
theorem dX12_count_74 : decode cX12_count 74 = .ok (.iaload, 1) := by decide +kernel
theorem dX12_count_75 : decode cX12_count 75 = .ok (.ireturn, 1) := by decide +kernel
theorem dX12_count_76 : decode cX12_count 76 = .ok (.aload_n 0, 1) := by decide +kernel
theorem dX12_count_77 : decode cX12_count 77 = .ok (.getfield 13, 3) := by decide +kernel
theorem dX12_count_80 : decode cX12_count 80 = .ok (.iconst 1, 1) := by decide +kernel
theorem dX12_count_81 : decode cX12_count 81 = .ok (.iaload, 1) := by decide +kernel
theorem dX12_count_82 : decode cX12_count 82 = .ok (.ireturn, 1) := by decide +kernel
theorem dX12_count_83 : decode cX12_count 83 = .ok (.aload_n 0, 1) := by decide +kernel
theorem dX12_count_84 : decode cX12_count 84 = .ok (.getfield 13, 3) := by decide +kernel
theorem dX12_count_87 : decode cX12_count 87 = .ok (.bipush 27, 2) := by decide +kernel
theorem dX12_count_89 : decode cX12_count 89 = .ok (.iaload, 1) := by decide +kernel
theorem dX12_count_90 : decode cX12_count 90 = .ok (.ireturn, 1) := by decide +kernel
theorem dX12_count_91 : decode cX12_count 91 = .ok (.aload_n 0, 1) := by decide +kernel
theorem dX12_count_92 : decode cX12_count 92 = .ok (.getfield 13, 3) := by decide +kernel
theorem dX12_count_95 : decode cX12_count 95 = .ok (.bipush 28, 2) := by decide +kernel
theorem dX12_count_97 : decode cX12_count 97 = .ok (.iaload, 1) := by decide +kernel
theorem dX12_count_98 : decode cX12_count 98 = .ok (.ireturn, 1) := by decide +kernel
theorem dX12_count_99 : decode cX12_count 99 = .ok (.aload_n 0, 1) := by decide +kernel
theorem dX12_count_100 : decode cX12_count 100 = .ok (.invokevirtual 259, 3) := by decide +kernel
theorem dX12_count_103 : decode cX12_count 103 = .ok (.ifCond .eq 7, 3) := by decide +kernel
theorem dX12_count_106 : decode cX12_count 106 = .ok (.iconst 1, 1) := by decide +kernel
theorem dX12_count_107 : decode cX12_count 107 = .ok (.goto 4, 3) := by decide +kernel
theorem dX12_count_110 : decode cX12_count 110 = .ok (.iconst 0, 1) := by decide +kernel
theorem dX12_count_111 : decode cX12_count 111 = .ok (.ireturn, 1) := by decide +kernel
theorem dX12_count_112 : decode cX12_count 112 = .ok (.aload_n 0, 1) := by decide +kernel
theorem dX12_count_113 : decode cX12_count 113 = .ok (.getfield 13, 3) := by decide +kernel
theorem dX12_count_116 : decode cX12_count 116 = .ok (.bipush 29, 2) := by decide +kernel
theorem dX12_count_118 : decode cX12_count 118 = .ok (.iaload, 1) := by decide +kernel
theorem dX12_count_119 : decode cX12_count 119 = .ok (.ireturn, 1) := by decide +kernel
theorem dX12_count_120 : decode cX12_count 120 = .ok (.aload_n 0, 1) := by decide +kernel
theorem dX12_count_121 : decode cX12_count 121 = .ok (.getfield 13, 3) := by decide +kernel
theorem dX12_count_124 : decode cX12_count 124 = .ok (.bipush 30, 2) := by decide +kernel
theorem dX12_count_126 : decode cX12_count 126 = .ok (.iaload, 1) := by decide +kernel
theorem dX12_count_127 : decode cX12_count 127 = .ok (.ireturn, 1) := by decide +kernel
theorem dX12_count_128 : decode cX12_count 128 = .ok (.aload_n 0, 1) := by decide +kernel
theorem dX12_count_129 : decode cX12_count 129 = .ok (.getfield 13, 3) := by decide +kernel
theorem dX12_count_132 : decode cX12_count 132 = .ok (.bipush 31, 2) := by decide +kernel
theorem dX12_count_134 : decode cX12_count 134 = .ok (.iaload, 1) := by decide +kernel
theorem dX12_count_135 : decode cX12_count 135 = .ok (.ireturn, 1) := by decide +kernel
theorem dX12_count_136 : decode cX12_count 136 = .ok (.aload_n 0, 1) := by decide +kernel
theorem dX12_count_137 : decode cX12_count 137 = .ok (.invokevirtual 269, 3) := by decide +kernel
theorem dX12_count_140 : decode cX12_count 140 = .ok (.ireturn, 1) := by decide +kernel
theorem dX12_count_141 : decode cX12_count 141 = .ok (.aload_n 0, 1) := by decide +kernel
theorem dX12_count_142 : decode cX12_count 142 = .ok (.getfield 13, 3) := by decide +kernel
theorem dX12_count_145 : decode cX12_count 145 = .ok (.bipush 49, 2) := by decide +kernel
theorem dX12_count_147 : decode cX12_count 147 = .ok (.iaload, 1) := by decide +kernel
theorem dX12_count_148 : decode cX12_count 148 = .ok (.ireturn, 1) := by decide +kernel
theorem dX12_count_149 : decode cX12_count 149 = .ok (.aload_n 0, 1) := by decide +kernel
theorem dX12_count_150 : decode cX12_count 150 = .ok (.getfield 80, 3) := by decide +kernel
theorem dX12_count_153 : decode cX12_count 153 = .ok (.ireturn, 1) := by decide +kernel
theorem dX12_count_154 : decode cX12_count 154 = .ok (.aload_n 0, 1) := by decide +kernel
theorem dX12_count_155 : decode cX12_count 155 = .ok (.getfield 13, 3) := by decide +kernel
theorem dX12_count_158 : decode cX12_count 158 = .ok (.iconst 0, 1) := by decide +kernel
theorem dX12_count_159 : decode cX12_count 159 = .ok (.iaload, 1) := by decide +kernel
theorem dX12_count_160 : decode cX12_count 160 = .ok (.ireturn, 1) := by decide +kernel
theorem dX12_count_161 : decode cX12_count 161 = .ok (.iconst (-1), 1) := by decide +kernel
theorem dX12_count_162 : decode cX12_count 162 = .ok (.ireturn, 1) := by decide +kernel
theorem dJ6_bitCount_0f7a4_0 : decode cJ6_bitCount_0f7a4 0 = .ok (.iload_n 0, 1) := by decide +kernel
theorem dJ6_bitCount_0f7a4_1 : decode cJ6_bitCount_0f7a4 1 = .ok (.iload_n 0, 1) := by decide +kernel
theorem dJ6_bitCount_0f7a4_2 : decode cJ6_bitCount_0f7a4 2 = .ok (.iconst 1, 1) := by decide +kernel
theorem dJ6_bitCount_0f7a4_3 : decode cJ6_bitCount_0f7a4 3 = .ok (.iushr, 1) := by decide +kernel
theorem dJ6_bitCount_0f7a4_4 : decode cJ6_bitCount_0f7a4 4 = .ok (.ldc_w 265, 3) := by decide +kernel
theorem dJ6_bitCount_0f7a4_7 : decode cJ6_bitCount_0f7a4 7 = .ok (.iand, 1) := by decide +kernel
theorem dJ6_bitCount_0f7a4_8 : decode cJ6_bitCount_0f7a4 8 = .ok (.isub, 1) := by decide +kernel
theorem dJ6_bitCount_0f7a4_9 : decode cJ6_bitCount_0f7a4 9 = .ok (.istore_n 0, 1) := by decide +kernel
theorem dJ6_bitCount_0f7a4_10 : decode cJ6_bitCount_0f7a4 10 = .ok (.iload_n 0, 1) := by decide +kernel
theorem dJ6_bitCount_0f7a4_11 : decode cJ6_bitCount_0f7a4 11 = .ok (.ldc_w 266, 3) := by decide +kernel
theorem dJ6_bitCount_0f7a4_14 : decode cJ6_bitCount_0f7a4 14 = .ok (.iand, 1) := by decide +kernel
theorem dJ6_bitCount_0f7a4_15 : decode cJ6_bitCount_0f7a4 15 = .ok (.iload_n 0, 1) := by decide +kernel
theorem dJ6_bitCount_0f7a4_16 : decode cJ6_bitCount_0f7a4 16 = .ok (.iconst 2, 1) := by decide +kernel
theorem dJ6_bitCount_0f7a4_17 : decode cJ6_bitCount_0f7a4 17 = .ok (.iushr, 1) := by decide +kernel
theorem dJ6_bitCount_0f7a4_18 : decode cJ6_bitCount_0f7a4 18 = .ok (.ldc_w 266, 3) := by decide +kernel
theorem dJ6_bitCount_0f7a4_21 : decode cJ6_bitCount_0f7a4 21 = .ok (.iand, 1) := by decide +kernel
theorem dJ6_bitCount_0f7a4_22 : decode cJ6_bitCount_0f7a4 22 = .ok (.iadd, 1) := by decide +kernel
theorem dJ6_bitCount_0f7a4_23 : decode cJ6_bitCount_0f7a4 23 = .ok (.istore_n 0, 1) := by decide +kernel
theorem dJ6_bitCount_0f7a4_24 : decode cJ6_bitCount_0f7a4 24 = .ok (.iload_n 0, 1) := by decide +kernel
theorem dJ6_bitCount_0f7a4_25 : decode cJ6_bitCount_0f7a4 25 = .ok (.iload_n 0, 1) := by decide +kernel
theorem dJ6_bitCount_0f7a4_26 : decode cJ6_bitCount_0f7a4 26 = .ok (.iconst 4, 1) := by decide +kernel
theorem dJ6_bitCount_0f7a4_27 : decode cJ6_bitCount_0f7a4 27 = .ok (.iushr, 1) := by decide +kernel
theorem dJ6_bitCount_0f7a4_28 : decode cJ6_bitCount_0f7a4 28 = .ok (.iadd, 1) := by decide +kernel
theorem dJ6_bitCount_0f7a4_29 : decode cJ6_bitCount_0f7a4 29 = .ok (.ldc_w 267, 3) := by decide +kernel
theorem dJ6_bitCount_0f7a4_32 : decode cJ6_bitCount_0f7a4 32 = .ok (.iand, 1) := by decide +kernel
theorem dJ6_bitCount_0f7a4_33 : decode cJ6_bitCount_0f7a4 33 = .ok (.istore_n 0, 1) := by decide +kernel
theorem dJ6_bitCount_0f7a4_34 : decode cJ6_bitCount_0f7a4 34 = .ok (.iload_n 0, 1) := by decide +kernel
theorem dJ6_bitCount_0f7a4_35 : decode cJ6_bitCount_0f7a4 35 = .ok (.iload_n 0, 1) := by decide +kernel
theorem dJ6_bitCount_0f7a4_36 : decode cJ6_bitCount_0f7a4 36 = .ok (.bipush 8, 2) := by decide +kernel
theorem dJ6_bitCount_0f7a4_38 : decode cJ6_bitCount_0f7a4 38 = .ok (.iushr, 1) := by decide +kernel
theorem dJ6_bitCount_0f7a4_39 : decode cJ6_bitCount_0f7a4 39 = .ok (.iadd, 1) := by decide +kernel
theorem dJ6_bitCount_0f7a4_40 : decode cJ6_bitCount_0f7a4 40 = .ok (.istore_n 0, 1) := by decide +kernel
theorem dJ6_bitCount_0f7a4_41 : decode cJ6_bitCount_0f7a4 41 = .ok (.iload_n 0, 1) := by decide +kernel
theorem dJ6_bitCount_0f7a4_42 : decode cJ6_bitCount_0f7a4 42 = .ok (.iload_n 0, 1) := by decide +kernel
theorem dJ6_bitCount_0f7a4_43 : decode cJ6_bitCount_0f7a4 43 = .ok (.bipush 16, 2) := by decide +kernel
theorem dJ6_bitCount_0f7a4_45 : decode cJ6_bitCount_0f7a4 45 = .ok (.iushr, 1) := by decide +kernel
theorem dJ6_bitCount_0f7a4_46 : decode cJ6_bitCount_0f7a4 46 = .ok (.iadd, 1) := by decide +kernel
theorem dJ6_bitCount_0f7a4_47 : decode cJ6_bitCount_0f7a4 47 = .ok (.istore_n 0, 1) := by decide +kernel
theorem dJ6_bitCount_0f7a4_48 : decode cJ6_bitCount_0f7a4 48 = .ok (.iload_n 0, 1) := by decide +kernel
theorem dJ6_bitCount_0f7a4_49 : decode cJ6_bitCount_0f7a4 49 = .ok (.bipush 63, 2) := by decide +kernel
theorem dJ6_bitCount_0f7a4_51 : decode cJ6_bitCount_0f7a4 51 = .ok (.iand, 1) := by decide +kernel
theorem dJ6_bitCount_0f7a4_52 : decode cJ6_bitCount_0f7a4 52 = .ok (.ireturn, 1) := by decide +kernel
theorem dJ7_fill_d0a16_0 : decode cJ7_fill_d0a16 0 = .ok (.iconst 0, 1) := by decide +kernel
theorem dJ7_fill_d0a16_1 : decode cJ7_fill_d0a16 1 = .ok (.istore_n 3, 1) := by decide +kernel
theorem dJ7_fill_d0a16_2 : decode cJ7_fill_d0a16 2 = .ok (.aload_n 0, 1) := by decide +kernel
theorem dJ7_fill_d0a16_3 : decode cJ7_fill_d0a16 3 = .ok (.arraylength, 1) := by decide +kernel
theorem dJ7_fill_d0a16_4 : decode cJ7_fill_d0a16 4 = .ok (.istore 4, 2) := by decide +kernel
theorem dJ7_fill_d0a16_6 : decode cJ7_fill_d0a16 6 = .ok (.iload_n 3, 1) := by decide +kernel
theorem dJ7_fill_d0a16_7 : decode cJ7_fill_d0a16 7 = .ok (.iload 4, 2) := by decide +kernel
theorem dJ7_fill_d0a16_9 : decode cJ7_fill_d0a16 9 = .ok (.if_icmp .ge 13, 3) := by decide +kernel
theorem dJ7_fill_d0a16_12 : decode cJ7_fill_d0a16 12 = .ok (.aload_n 0, 1) := by decide +kernel
theorem dJ7_fill_d0a16_13 : decode cJ7_fill_d0a16 13 = .ok (.iload_n 3, 1) := by decide +kernel
theorem dJ7_fill_d0a16_14 : decode cJ7_fill_d0a16 14 = .ok (.lload_n 1, 1) := by decide +kernel
theorem dJ7_fill_d0a16_15 : decode cJ7_fill_d0a16 15 = .ok (.lastore, 1) := by decide +kernel
theorem dJ7_fill_d0a16_16 : decode cJ7_fill_d0a16 16 = .ok (.iinc 3 1, 3) := by decide +kernel
theorem dJ7_fill_d0a16_19 : decode cJ7_fill_d0a16 19 = .ok (.goto (-13), 3) := by decide +kernel
theorem dJ7_fill_d0a16_22 : decode cJ7_fill_d0a16 22 = .ok (.return_, 1) := by decide +kernel
theorem dJ7_fill_53178_0 : decode cJ7_fill_53178 0 = .ok (.iconst 0, 1) := by decide +kernel
theorem dJ7_fill_53178_1 : decode cJ7_fill_53178 1 = .ok (.istore_n 2, 1) := by decide +kernel
theorem dJ7_fill_53178_2 : decode cJ7_fill_53178 2 = .ok (.aload_n 0, 1) := by decide +kernel
theorem dJ7_fill_53178_3 : decode cJ7_fill_53178 3 = .ok (.arraylength, 1) := by decide +kernel
theorem dJ7_fill_53178_4 : decode cJ7_fill_53178 4 = .ok (.istore_n 3, 1) := by decide +kernel
theorem dJ7_fill_53178_5 : decode cJ7_fill_53178 5 = .ok (.iload_n 2, 1) := by decide +kernel
theorem dJ7_fill_53178_6 : decode cJ7_fill_53178 6 = .ok (.iload_n 3, 1) := by decide +kernel
theorem dJ7_fill_53178_7 : decode cJ7_fill_53178 7 = .ok (.if_icmp .ge 13, 3) := by decide +kernel
theorem dJ7_fill_53178_10 : decode cJ7_fill_53178 10 = .ok (.aload_n 0, 1) := by decide +kernel
theorem dJ7_fill_53178_11 : decode cJ7_fill_53178 11 = .ok (.iload_n 2, 1) := by decide +kernel
theorem dJ7_fill_53178_12 : decode cJ7_fill_53178 12 = .ok (.iload_n 1, 1) := by decide +kernel
theorem dJ7_fill_53178_13 : decode cJ7_fill_53178 13 = .ok (.iastore, 1) := by decide +kernel
theorem dJ7_fill_53178_14 : decode cJ7_fill_53178 14 = .ok (.iinc 2 1, 3) := by decide +kernel
theorem dJ7_fill_53178_17 : decode cJ7_fill_53178 17 = .ok (.goto (-12), 3) := by decide +kernel
theorem dJ7_fill_53178_20 : decode cJ7_fill_53178 20 = .ok (.return_, 1) := by decide +kernel
