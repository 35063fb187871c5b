theorem dX0_init_0 : decode cX0_init 0 = .ok (.aload_n 0, 1) := by decide +kernel
theorem dX0_init_1 : decode cX0_init 1 = .ok (.invokespecial 3, 3) := by decide +kernel
theorem dX0_init_4 : decode cX0_init 4 = .ok (.aload_n 0, 1) := by decide +kernel
theorem dX0_init_5 : decode cX0_init 5 = .ok (.sipush 256, 3) := by decide +kernel
theorem dX0_init_8 : decode cX0_init 8 = .ok (.newarray .int, 2) := by decide +kernel
theorem dX0_init_10 : decode cX0_init 10 = .ok (.putfield 9, 3) := by decide +kernel
theorem dX0_init_13 : decode cX0_init 13 = .ok (.aload_n 0, 1) := by decide +kernel
theorem dX0_init_14 : decode cX0_init 14 = .ok (.bipush 10, 2) := by decide +kernel
theorem dX0_init_16 : decode cX0_init 16 = .ok (.newarray .int, 2) := by decide +kernel
theorem dX0_init_18 : decode cX0_init 18 = .ok (.putfield 15, 3) := by decide +kernel
theorem dX0_init_21 : decode cX0_init 21 = .ok (.aload_n 0, 1) := by decide +kernel
theorem dX0_init_22 : decode cX0_init 22 = .ok (.iconst 0, 1) := by decide +kernel
theorem dX0_init_23 : decode cX0_init 23 = .ok (.putfield 18, 3) := by decide +kernel
theorem dX0_init_26 : decode cX0_init 26 = .ok (.aload_n 0, 1) := by decide +kernel
theorem dX0_init_27 : decode cX0_init 27 = .ok (.iconst 0, 1) := by decide +kernel
theorem dX0_init_28 : decode cX0_init 28 = .ok (.putfield 22, 3) := by decide +kernel
theorem dX0_init_31 : decode cX0_init 31 = .ok (.aload_n 0, 1) := by decide +kernel
theorem dX0_init_32 : decode cX0_init 32 = .ok (.aload_n 1, 1) := by decide +kernel
theorem dX0_init_33 : decode cX0_init 33 = .ok (.putfield 25, 3) := by decide +kernel
theorem dX0_init_36 : decode cX0_init 36 = .ok (.return_, 1) := by decide +kernel
theorem dX0_gather_0 : decode cX0_gather 0 = .ok (.aload_n 0, 1) := by decide +kernel
theorem dX0_gather_1 : decode cX0_gather 1 = .ok (.iconst 0, 1) := by decide +kernel
theorem dX0_gather_2 : decode cX0_gather 2 = .ok (.putfield 18, 3) := by decide +kernel
theorem dX0_gather_5 : decode cX0_gather 5 = .ok (.aload_n 0, 1) := by decide +kernel
theorem dX0_gather_6 : decode cX0_gather 6 = .ok (.aload_n 0, 1) := by decide +kernel
theorem dX0_gather_7 : decode cX0_gather 7 = .ok (.getfield 25, 3) := by decide +kernel
theorem dX0_gather_10 : decode cX0_gather 10 = .ok (.invokevirtual 29, 3) := by decide +kernel
theorem dX0_gather_13 : decode cX0_gather 13 = .ok (.putfield 22, 3) := by decide +kernel
theorem dX0_gather_16 : decode cX0_gather 16 = .ok (.iconst 0, 1) := by decide +kernel
theorem dX0_gather_17 : decode cX0_gather 17 = .ok (.istore_n 2, 1) := by decide +kernel
theorem dX0_gather_18 : decode cX0_gather 18 = .ok (.iload_n 2, 1) := by decide +kernel
theorem dX0_gather_19 : decode cX0_gather 19 = .ok (.aload_n 0, 1) := by decide +kernel
theorem dX0_gather_20 : decode cX0_gather 20 = .ok (.getfield 25, 3) := by decide +kernel
theorem dX0_gather_23 : decode cX0_gather 23 = .ok (.invokevirtual 29, 3) := by decide +kernel
theorem dX0_gather_26 : decode cX0_gather 26 = .ok (.if_icmp .gt 51, 3) := by decide +kernel
theorem dX0_gather_29 : decode cX0_gather 29 = .ok (.aload_n 0, 1) := by decide +kernel
theorem dX0_gather_30 : decode cX0_gather 30 = .ok (.getfield 9, 3) := by decide +kernel
theorem dX0_gather_33 : decode cX0_gather 33 = .ok (.iload_n 2, 1) := by decide +kernel
theorem dX0_gather_34 : decode cX0_gather 34 = .ok (.aload_n 0, 1) := by decide +kernel
theorem dX0_gather_35 : decode cX0_gather 35 = .ok (.iload_n 2, 1) := by decide +kernel
theorem dX0_gather_36 : decode cX0_gather 36 = .ok (.aload_n 1, 1) := by decide +kernel
theorem dX0_gather_37 : decode cX0_gather 37 = .ok (.invokevirtual 35, 3) := by decide +kernel
theorem dX0_gather_40 : decode cX0_gather 40 = .ok (.iastore, 1) := by decide +kernel
theorem dX0_gather_41 : decode cX0_gather 41 = .ok (.aload_n 0, 1) := by decide +kernel
theorem dX0_gather_42 : decode cX0_gather 42 = .ok (.getfield 9, 3) := by decide +kernel
theorem dX0_gather_45 : decode cX0_gather 45 = .ok (.iload_n 2, 1) := by decide +kernel
theorem dX0_gather_46 : decode cX0_gather 46 = .ok (.iaload, 1) := by decide +kernel
theorem dX0_gather_47 : decode cX0_gather 47 = .ok (.iconst (-1), 1) := by decide +kernel
theorem dX0_gather_48 : decode cX0_gather 48 = .ok (.if_icmp .eq 23, 3) := by decide +kernel
theorem dX0_gather_51 : decode cX0_gather 51 = .ok (.aload_n 0, 1) := by decide +kernel
theorem dX0_gather_52 : decode cX0_gather 52 = .ok (.dup, 1) := by decide +kernel
theorem dX0_gather_53 : decode cX0_gather 53 = .ok (.getfield 18, 3) := by decide +kernel
theorem dX0_gather_56 : decode cX0_gather 56 = .ok (.iconst 1, 1) := by decide +kernel
theorem dX0_gather_57 : decode cX0_gather 57 = .ok (.iadd, 1) := by decide +kernel
theorem dX0_gather_58 : decode cX0_gather 58 = .ok (.putfield 18, 3) := by decide +kernel
theorem dX0_gather_61 : decode cX0_gather 61 = .ok (.aload_n 0, 1) := by decide +kernel
theorem dX0_gather_62 : decode cX0_gather 62 = .ok (.dup, 1) := by decide +kernel
theorem dX0_gather_63 : decode cX0_gather 63 = .ok (.getfield 22, 3) := by decide +kernel
theorem dX0_gather_66 : decode cX0_gather 66 = .ok (.iload_n 2, 1) := by decide +kernel
theorem dX0_gather_67 : decode cX0_gather 67 = .ok (.iand, 1) := by decide +kernel
theorem dX0_gather_68 : decode cX0_gather 68 = .ok (.putfield 22, 3) := by decide +kernel
theorem dX0_gather_71 : decode cX0_gather 71 = .ok (.iinc 2 1, 3) := by decide +kernel
theorem dX0_gather_74 : decode cX0_gather 74 = .ok (.goto (-56), 3) := by decide +kernel
theorem dX0_gather_77 : decode cX0_gather 77 = .ok (.return_, 1) := by decide +kernel
theorem dX0_behind_0 : decode cX0_behind 0 = .ok (.iload_n 1, 1) := by decide +kernel
theorem dX0_behind_1 : decode cX0_behind 1 = .ok (.istore_n 3, 1) := by decide +kernel
theorem dX0_behind_2 : decode cX0_behind 2 = .ok (.iconst 0, 1) := by decide +kernel
theorem dX0_behind_3 : decode cX0_behind 3 = .ok (.istore 4, 2) := by decide +kernel
theorem dX0_behind_5 : decode cX0_behind 5 = .ok (.iload 4, 2) := by decide +kernel
theorem dX0_behind_7 : decode cX0_behind 7 = .ok (.aload_n 2, 1) := by decide +kernel
theorem dX0_behind_8 : decode cX0_behind 8 = .ok (.invokevirtual 39, 3) := by decide +kernel
theorem dX0_behind_11 : decode cX0_behind 11 = .ok (.if_icmp .ge 75, 3) := by decide +kernel
theorem dX0_behind_14 : decode cX0_behind 14 = .ok (.aload_n 2, 1) := by decide +kernel
theorem dX0_behind_15 : decode cX0_behind 15 = .ok (.iload 4, 2) := by decide +kernel
theorem dX0_behind_17 : decode cX0_behind 17 = .ok (.invokevirtual 44, 3) := by decide +kernel
theorem dX0_behind_20 : decode cX0_behind 20 = .ok (.l2i, 1) := by decide +kernel
theorem dX0_behind_21 : decode cX0_behind 21 = .ok (.istore 5, 2) := by decide +kernel
theorem dX0_behind_23 : decode cX0_behind 23 = .ok (.aload_n 0, 1) := by decide +kernel
theorem dX0_behind_24 : decode cX0_behind 24 = .ok (.getfield 25, 3) := by decide +kernel
theorem dX0_behind_27 : decode cX0_behind 27 = .ok (.iload_n 3, 1) := by decide +kernel
theorem dX0_behind_28 : decode cX0_behind 28 = .ok (.iload 5, 2) := by decide +kernel
theorem dX0_behind_30 : decode cX0_behind 30 = .ok (.bipush 10, 2) := by decide +kernel
theorem dX0_behind_32 : decode cX0_behind 32 = .ok (.idiv, 1) := by decide +kernel
theorem dX0_behind_33 : decode cX0_behind 33 = .ok (.invokevirtual 48, 3) := by decide +kernel
theorem dX0_behind_36 : decode cX0_behind 36 = .ok (.istore 6, 2) := by decide +kernel
theorem dX0_behind_38 : decode cX0_behind 38 = .ok (.iload 6, 2) := by decide +kernel
theorem dX0_behind_40 : decode cX0_behind 40 = .ok (.iload 5, 2) := by decide +kernel
theorem dX0_behind_42 : decode cX0_behind 42 = .ok (.bipush 10, 2) := by decide +kernel
theorem dX0_behind_44 : decode cX0_behind 44 = .ok (.irem, 1) := by decide +kernel
theorem dX0_behind_45 : decode cX0_behind 45 = .ok (.bipush 9, 2) := by decide +kernel
theorem dX0_behind_47 : decode cX0_behind 47 = .ok (.if_icmp .ne 7, 3) := by decide +kernel
theorem dX0_behind_50 : decode cX0_behind 50 = .ok (.iconst (-1), 1) := by decide +kernel
theorem dX0_behind_51 : decode cX0_behind 51 = .ok (.goto 8, 3) := by decide +kernel
theorem dX0_behind_54 : decode cX0_behind 54 = .ok (.iload 5, 2) := by decide +kernel
theorem dX0_behind_56 : decode cX0_behind 56 = .ok (.bipush 10, 2) := by decide +kernel
theorem dX0_behind_58 : decode cX0_behind 58 = .ok (.irem, 1) := by decide +kernel
theorem dX0_behind_59 : decode cX0_behind 59 = .ok (.if_icmp .eq 5, 3) := by decide +kernel
theorem dX0_behind_62 : decode cX0_behind 62 = .ok (.iconst (-1), 1) := by decide +kernel
theorem dX0_behind_63 : decode cX0_behind 63 = .ok (.ireturn, 1) := by decide +kernel
theorem dX0_behind_64 : decode cX0_behind 64 = .ok (.iload_n 3, 1) := by decide +kernel
theorem dX0_behind_65 : decode cX0_behind 65 = .ok (.iload 6, 2) := by decide +kernel
theorem dX0_behind_67 : decode cX0_behind 67 = .ok (.ifCond .lt 10, 3) := by decide +kernel
theorem dX0_behind_70 : decode cX0_behind 70 = .ok (.iconst 1, 1) := by decide +kernel
theorem dX0_behind_71 : decode cX0_behind 71 = .ok (.iload 6, 2) := by decide +kernel
theorem dX0_behind_73 : decode cX0_behind 73 = .ok (.ishl, 1) := by decide +kernel
theorem dX0_behind_74 : decode cX0_behind 74 = .ok (.goto 4, 3) := by decide +kernel
theorem dX0_behind_77 : decode cX0_behind 77 = .ok (.iconst 0, 1) := by decide +kernel
theorem dX0_behind_78 : decode cX0_behind 78 = .ok (.ior, 1) := by decide +kernel
theorem dX0_behind_79 : decode cX0_behind 79 = .ok (.istore_n 3, 1) := by decide +kernel
theorem dX0_behind_80 : decode cX0_behind 80 = .ok (.iinc 4 1, 3) := by decide +kernel
theorem dX0_behind_83 : decode cX0_behind 83 = .ok (.goto (-78), 3) := by decide +kernel
theorem dX0_behind_86 : decode cX0_behind 86 = .ok (.iload_n 3, 1) := by decide +kernel
theorem dX0_behind_87 : decode cX0_behind 87 = .ok (.ireturn, 1) := by decide +kernel
theorem dX0_mostTelling_0 : decode cX0_mostTelling 0 = .ok (.iconst (-1), 1) := by decide +kernel
theorem dX0_mostTelling_1 : decode cX0_mostTelling 1 = .ok (.istore_n 1, 1) := by decide +kernel
theorem dX0_mostTelling_2 : decode cX0_mostTelling 2 = .ok (.sipush 257, 3) := by decide +kernel
theorem dX0_mostTelling_5 : decode cX0_mostTelling 5 = .ok (.istore_n 2, 1) := by decide +kernel
theorem dX0_mostTelling_6 : decode cX0_mostTelling 6 = .ok (.iconst 0, 1) := by decide +kernel
theorem dX0_mostTelling_7 : decode cX0_mostTelling 7 = .ok (.istore_n 3, 1) := by decide +kernel
theorem dX0_mostTelling_8 : decode cX0_mostTelling 8 = .ok (.iload_n 3, 1) := by decide +kernel
theorem dX0_mostTelling_9 : decode cX0_mostTelling 9 = .ok (.aload_n 0, 1) := by decide +kernel
theorem dX0_mostTelling_10 : decode cX0_mostTelling 10 = .ok (.getfield 25, 3) := by decide +kernel
theorem dX0_mostTelling_13 : decode cX0_mostTelling 13 = .ok (.invokevirtual 52, 3) := by decide +kernel
theorem dX0_mostTelling_16 : decode cX0_mostTelling 16 = .ok (.if_icmp .ge 27, 3) := by decide +kernel
theorem dX0_mostTelling_19 : decode cX0_mostTelling 19 = .ok (.aload_n 0, 1) := by decide +kernel
theorem dX0_mostTelling_20 : decode cX0_mostTelling 20 = .ok (.iload_n 3, 1) := by decide +kernel
theorem dX0_mostTelling_21 : decode cX0_mostTelling 21 = .ok (.invokevirtual 55, 3) := by decide +kernel
theorem dX0_mostTelling_24 : decode cX0_mostTelling 24 = .ok (.istore 4, 2) := by decide +kernel
theorem dX0_mostTelling_26 : decode cX0_mostTelling 26 = .ok (.iload 4, 2) := by decide +kernel
theorem dX0_mostTelling_28 : decode cX0_mostTelling 28 = .ok (.iload_n 2, 1) := by decide +kernel
theorem dX0_mostTelling_29 : decode cX0_mostTelling 29 = .ok (.if_icmp .ge 8, 3) := by decide +kernel
theorem dX0_mostTelling_32 : decode cX0_mostTelling 32 = .ok (.iload 4, 2) := by decide +kernel
theorem dX0_mostTelling_34 : decode cX0_mostTelling 34 = .ok (.istore_n 2, 1) := by decide +kernel
theorem dX0_mostTelling_35 : decode cX0_mostTelling 35 = .ok (.iload_n 3, 1) := by decide +kernel
theorem dX0_mostTelling_36 : decode cX0_mostTelling 36 = .ok (.istore_n 1, 1) := by decide +kernel
theorem dX0_mostTelling_37 : decode cX0_mostTelling 37 = .ok (.iinc 3 1, 3) := by decide +kernel
theorem dX0_mostTelling_40 : decode cX0_mostTelling 40 = .ok (.goto (-32), 3) := by decide +kernel
theorem dX0_mostTelling_43 : decode cX0_mostTelling 43 = .ok (.iload_n 1, 1) := by decide +kernel
theorem dX0_mostTelling_44 : decode cX0_mostTelling 44 = .ok (.ireturn, 1) := by decide +kernel
theorem dX0_mostAlike_0 : decode cX0_mostAlike 0 = .ok (.aload_n 0, 1) := by decide +kernel
theorem dX0_mostAlike_1 : decode cX0_mostAlike 1 = .ok (.getfield 15, 3) := by decide +kernel
theorem dX0_mostAlike_4 : decode cX0_mostAlike 4 = .ok (.iconst 0, 1) := by decide +kernel
theorem dX0_mostAlike_5 : decode cX0_mostAlike 5 = .ok (.invokestatic 59, 3) := by decide +kernel
theorem dX0_mostAlike_8 : decode cX0_mostAlike 8 = .ok (.iconst 0, 1) := by decide +kernel
theorem dX0_mostAlike_9 : decode cX0_mostAlike 9 = .ok (.istore_n 2, 1) := by decide +kernel
theorem dX0_mostAlike_10 : decode cX0_mostAlike 10 = .ok (.iconst 0, 1) := by decide +kernel
theorem dX0_mostAlike_11 : decode cX0_mostAlike 11 = .ok (.istore_n 3, 1) := by decide +kernel
theorem dX0_mostAlike_12 : decode cX0_mostAlike 12 = .ok (.iload_n 3, 1) := by decide +kernel
theorem dX0_mostAlike_13 : decode cX0_mostAlike 13 = .ok (.aload_n 0, 1) := by decide +kernel
theorem dX0_mostAlike_14 : decode cX0_mostAlike 14 = .ok (.getfield 25, 3) := by decide +kernel
theorem dX0_mostAlike_17 : decode cX0_mostAlike 17 = .ok (.invokevirtual 29, 3) := by decide +kernel
theorem dX0_mostAlike_20 : decode cX0_mostAlike 20 = .ok (.if_icmp .gt 72, 3) := by decide +kernel
theorem dX0_mostAlike_23 : decode cX0_mostAlike 23 = .ok (.aload_n 0, 1) := by decide +kernel
theorem dX0_mostAlike_24 : decode cX0_mostAlike 24 = .ok (.getfield 9, 3) := by decide +kernel
theorem dX0_mostAlike_27 : decode cX0_mostAlike 27 = .ok (.iload_n 3, 1) := by decide +kernel
theorem dX0_mostAlike_28 : decode cX0_mostAlike 28 = .ok (.iaload, 1) := by decide +kernel
theorem dX0_mostAlike_29 : decode cX0_mostAlike 29 = .ok (.iconst (-1), 1) := by decide +kernel
theorem dX0_mostAlike_30 : decode cX0_mostAlike 30 = .ok (.if_icmp .eq 56, 3) := by decide +kernel
theorem dX0_mostAlike_33 : decode cX0_mostAlike 33 = .ok (.aload_n 0, 1) := by decide +kernel
theorem dX0_mostAlike_34 : decode cX0_mostAlike 34 = .ok (.getfield 25, 3) := by decide +kernel
theorem dX0_mostAlike_37 : decode cX0_mostAlike 37 = .ok (.aload_n 0, 1) := by decide +kernel
theorem dX0_mostAlike_38 : decode cX0_mostAlike 38 = .ok (.getfield 9, 3) := by decide +kernel
theorem dX0_mostAlike_41 : decode cX0_mostAlike 41 = .ok (.iload_n 3, 1) := by decide +kernel
theorem dX0_mostAlike_42 : decode cX0_mostAlike 42 = .ok (.iaload, 1) := by decide +kernel
theorem dX0_mostAlike_43 : decode cX0_mostAlike 43 = .ok (.iload_n 1, 1) := by decide +kernel
theorem dX0_mostAlike_44 : decode cX0_mostAlike 44 = .ok (.invokevirtual 48, 3) := by decide +kernel
theorem dX0_mostAlike_47 : decode cX0_mostAlike 47 = .ok (.istore 4, 2) := by decide +kernel
theorem dX0_mostAlike_49 : decode cX0_mostAlike 49 = .ok (.iload 4, 2) := by decide +kernel
theorem dX0_mostAlike_51 : decode cX0_mostAlike 51 = .ok (.ifCond .lt 8, 3) := by decide +kernel
theorem dX0_mostAlike_54 : decode cX0_mostAlike 54 = .ok (.iload 4, 2) := by decide +kernel
theorem dX0_mostAlike_56 : decode cX0_mostAlike 56 = .ok (.goto 5, 3) := by decide +kernel
theorem dX0_mostAlike_59 : decode cX0_mostAlike 59 = .ok (.bipush 9, 2) := by decide +kernel
theorem dX0_mostAlike_61 : decode cX0_mostAlike 61 = .ok (.istore 5, 2) := by decide +kernel
theorem dX0_mostAlike_63 : decode cX0_mostAlike 63 = .ok (.aload_n 0, 1) := by decide +kernel
theorem dX0_mostAlike_64 : decode cX0_mostAlike 64 = .ok (.getfield 15, 3) := by decide +kernel
theorem dX0_mostAlike_67 : decode cX0_mostAlike 67 = .ok (.iload 5, 2) := by decide +kernel
theorem dX0_mostAlike_69 : decode cX0_mostAlike 69 = .ok (.dup2, 1) := by decide +kernel
theorem dX0_mostAlike_70 : decode cX0_mostAlike 70 = .ok (.iaload, 1) := by decide +kernel
theorem dX0_mostAlike_71 : decode cX0_mostAlike 71 = .ok (.iconst 1, 1) := by decide +kernel
theorem dX0_mostAlike_72 : decode cX0_mostAlike 72 = .ok (.iadd, 1) := by decide +kernel
theorem dX0_mostAlike_73 : decode cX0_mostAlike 73 = .ok (.iastore, 1) := by decide +kernel
theorem dX0_mostAlike_74 : decode cX0_mostAlike 74 = .ok (.iload_n 2, 1) := by decide +kernel
theorem dX0_mostAlike_75 : decode cX0_mostAlike 75 = .ok (.aload_n 0, 1) := by decide +kernel
theorem dX0_mostAlike_76 : decode cX0_mostAlike 76 = .ok (.getfield 15, 3) := by decide +kernel
theorem dX0_mostAlike_79 : decode cX0_mostAlike 79 = .ok (.iload 5, 2) := by decide +kernel
theorem dX0_mostAlike_81 : decode cX0_mostAlike 81 = .ok (.iaload, 1) := by decide +kernel
theorem dX0_mostAlike_82 : decode cX0_mostAlike 82 = .ok (.invokestatic 65, 3) := by decide +kernel
theorem dX0_mostAlike_85 : decode cX0_mostAlike 85 = .ok (.istore_n 2, 1) := by decide +kernel
theorem dX0_mostAlike_86 : decode cX0_mostAlike 86 = .ok (.iinc 3 1, 3) := by decide +kernel
theorem dX0_mostAlike_89 : decode cX0_mostAlike 89 = .ok (.goto (-77), 3) := by decide +kernel
theorem dX0_mostAlike_92 : decode cX0_mostAlike 92 = .ok (.iload_n 2, 1) := by decide +kernel
theorem dX0_mostAlike_93 : decode cX0_mostAlike 93 = .ok (.ireturn, 1) := by decide +kernel
theorem dX0_rows_0 : decode cX0_rows 0 = .ok (.aload_n 0, 1) := by decide +kernel
theorem dX0_rows_1 : decode cX0_rows 1 = .ok (.getfield 25, 3) := by decide +kernel
theorem dX0_rows_4 : decode cX0_rows 4 = .ok (.invokevirtual 70, 3) := by decide +kernel
theorem dX0_rows_7 : decode cX0_rows 7 = .ok (.iconst 0, 1) := by decide +kernel
theorem dX0_rows_8 : decode cX0_rows 8 = .ok (.istore_n 2, 1) := by decide +kernel
theorem dX0_rows_9 : decode cX0_rows 9 = .ok (.iload_n 2, 1) := by decide +kernel
theorem dX0_rows_10 : decode cX0_rows 10 = .ok (.aload_n 1, 1) := by decide +kernel
theorem dX0_rows_11 : decode cX0_rows 11 = .ok (.invokevirtual 39, 3) := by decide +kernel
theorem dX0_rows_14 : decode cX0_rows 14 = .ok (.if_icmp .ge 22, 3) := by decide +kernel
theorem dX0_rows_17 : decode cX0_rows 17 = .ok (.aload_n 0, 1) := by decide +kernel
theorem dX0_rows_18 : decode cX0_rows 18 = .ok (.getfield 25, 3) := by decide +kernel
theorem dX0_rows_21 : decode cX0_rows 21 = .ok (.aload_n 1, 1) := by decide +kernel
theorem dX0_rows_22 : decode cX0_rows 22 = .ok (.iload_n 2, 1) := by decide +kernel
theorem dX0_rows_23 : decode cX0_rows 23 = .ok (.invokevirtual 44, 3) := by decide +kernel
theorem dX0_rows_26 : decode cX0_rows 26 = .ok (.l2i, 1) := by decide +kernel
theorem dX0_rows_27 : decode cX0_rows 27 = .ok (.invokevirtual 73, 3) := by decide +kernel
theorem dX0_rows_30 : decode cX0_rows 30 = .ok (.iinc 2 1, 3) := by decide +kernel
theorem dX0_rows_33 : decode cX0_rows 33 = .ok (.goto (-24), 3) := by decide +kernel
theorem dX0_rows_36 : decode cX0_rows 36 = .ok (.aload_n 0, 1) := by decide +kernel
theorem dX0_rows_37 : decode cX0_rows 37 = .ok (.getfield 25, 3) := by decide +kernel
theorem dX0_rows_40 : decode cX0_rows 40 = .ok (.invokevirtual 77, 3) := by decide +kernel
theorem dX0_rows_43 : decode cX0_rows 43 = .ok (.lreturn, 1) := by decide +kernel
theorem dX0_comers_0 : decode cX0_comers 0 = .ok (.aload_n 0, 1) := by decide +kernel
theorem dX0_comers_1 : decode cX0_comers 1 = .ok (.getfield 9, 3) := by decide +kernel
theorem dX0_comers_4 : decode cX0_comers 4 = .ok (.iconst 1, 1) := by decide +kernel
theorem dX0_comers_5 : decode cX0_comers 5 = .ok (.invokestatic 59, 3) := by decide +kernel
theorem dX0_comers_8 : decode cX0_comers 8 = .ok (.aload_n 1, 1) := by decide +kernel
theorem dX0_comers_9 : decode cX0_comers 9 = .ok (.invokevirtual 39, 3) := by decide +kernel
theorem dX0_comers_12 : decode cX0_comers 12 = .ok (.iconst 1, 1) := by decide +kernel
theorem dX0_comers_13 : decode cX0_comers 13 = .ok (.isub, 1) := by decide +kernel
theorem dX0_comers_14 : decode cX0_comers 14 = .ok (.istore_n 3, 1) := by decide +kernel
theorem dX0_comers_15 : decode cX0_comers 15 = .ok (.iload_n 3, 1) := by decide +kernel
theorem dX0_comers_16 : decode cX0_comers 16 = .ok (.iload_n 2, 1) := by decide +kernel
theorem dX0_comers_17 : decode cX0_comers 17 = .ok (.if_icmp .le 19, 3) := by decide +kernel
theorem dX0_comers_20 : decode cX0_comers 20 = .ok (.aload_n 0, 1) := by decide +kernel
theorem dX0_comers_21 : decode cX0_comers 21 = .ok (.aload_n 1, 1) := by decide +kernel
theorem dX0_comers_22 : decode cX0_comers 22 = .ok (.iload_n 3, 1) := by decide +kernel
theorem dX0_comers_23 : decode cX0_comers 23 = .ok (.invokevirtual 44, 3) := by decide +kernel
theorem dX0_comers_26 : decode cX0_comers 26 = .ok (.l2i, 1) := by decide +kernel
theorem dX0_comers_27 : decode cX0_comers 27 = .ok (.invokevirtual 81, 3) := by decide +kernel
theorem dX0_comers_30 : decode cX0_comers 30 = .ok (.iinc 3 (-1), 3) := by decide +kernel
theorem dX0_comers_33 : decode cX0_comers 33 = .ok (.goto (-18), 3) := by decide +kernel
theorem dX0_comers_36 : decode cX0_comers 36 = .ok (.aload_n 0, 1) := by decide +kernel
theorem dX0_comers_37 : decode cX0_comers 37 = .ok (.getfield 25, 3) := by decide +kernel
theorem dX0_comers_40 : decode cX0_comers 40 = .ok (.invokevirtual 70, 3) := by decide +kernel
theorem dX0_comers_43 : decode cX0_comers 43 = .ok (.iconst 0, 1) := by decide +kernel
theorem dX0_comers_44 : decode cX0_comers 44 = .ok (.istore_n 3, 1) := by decide +kernel
theorem dX0_comers_45 : decode cX0_comers 45 = .ok (.iload_n 3, 1) := by decide +kernel
theorem dX0_comers_46 : decode cX0_comers 46 = .ok (.iload_n 2, 1) := by decide +kernel
theorem dX0_comers_47 : decode cX0_comers 47 = .ok (.if_icmp .ge 22, 3) := by decide +kernel
theorem dX0_comers_50 : decode cX0_comers 50 = .ok (.aload_n 0, 1) := by decide +kernel
theorem dX0_comers_51 : decode cX0_comers 51 = .ok (.getfield 25, 3) := by decide +kernel
theorem dX0_comers_54 : decode cX0_comers 54 = .ok (.aload_n 1, 1) := by decide +kernel
theorem dX0_comers_55 : decode cX0_comers 55 = .ok (.iload_n 3, 1) := by decide +kernel
theorem dX0_comers_56 : decode cX0_comers 56 = .ok (.invokevirtual 44, 3) := by decide +kernel
theorem dX0_comers_59 : decode cX0_comers 59 = .ok (.l2i, 1) := by decide +kernel
theorem dX0_comers_60 : decode cX0_comers 60 = .ok (.invokevirtual 73, 3) := by decide +kernel
theorem dX0_comers_63 : decode cX0_comers 63 = .ok (.iinc 3 1, 3) := by decide +kernel
theorem dX0_comers_66 : decode cX0_comers 66 = .ok (.goto (-21), 3) := by decide +kernel
theorem dX0_comers_69 : decode cX0_comers 69 = .ok (.iconst 0, 1) := by decide +kernel
theorem dX0_comers_70 : decode cX0_comers 70 = .ok (.istore_n 3, 1) := by decide +kernel
theorem dX0_comers_71 : decode cX0_comers 71 = .ok (.iconst 0, 1) := by decide +kernel
theorem dX0_comers_72 : decode cX0_comers 72 = .ok (.istore 4, 2) := by decide +kernel
theorem dX0_comers_74 : decode cX0_comers 74 = .ok (.iload 4, 2) := by decide +kernel
theorem dX0_comers_76 : decode cX0_comers 76 = .ok (.aload_n 0, 1) := by decide +kernel
theorem dX0_comers_77 : decode cX0_comers 77 = .ok (.getfield 25, 3) := by decide +kernel
theorem dX0_comers_80 : decode cX0_comers 80 = .ok (.invokevirtual 29, 3) := by decide +kernel
theorem dX0_comers_83 : decode cX0_comers 83 = .ok (.if_icmp .gt 36, 3) := by decide +kernel
theorem dX0_comers_86 : decode cX0_comers 86 = .ok (.aload_n 0, 1) := by decide +kernel
theorem dX0_comers_87 : decode cX0_comers 87 = .ok (.getfield 25, 3) := by decide +kernel
theorem dX0_comers_90 : decode cX0_comers 90 = .ok (.iload 4, 2) := by decide +kernel
theorem dX0_comers_92 : decode cX0_comers 92 = .ok (.invokevirtual 84, 3) := by decide +kernel
theorem dX0_comers_95 : decode cX0_comers 95 = .ok (.ifCond .eq 18, 3) := by decide +kernel
theorem dX0_comers_98 : decode cX0_comers 98 = .ok (.iload_n 3, 1) := by decide +kernel
theorem dX0_comers_99 : decode cX0_comers 99 = .ok (.aload_n 0, 1) := by decide +kernel
theorem dX0_comers_100 : decode cX0_comers 100 = .ok (.iload 4, 2) := by decide +kernel
theorem dX0_comers_102 : decode cX0_comers 102 = .ok (.aload_n 1, 1) := by decide +kernel
theorem dX0_comers_103 : decode cX0_comers 103 = .ok (.iload_n 2, 1) := by decide +kernel
theorem dX0_comers_104 : decode cX0_comers 104 = .ok (.invokevirtual 44, 3) := by decide +kernel
theorem dX0_comers_107 : decode cX0_comers 107 = .ok (.l2i, 1) := by decide +kernel
theorem dX0_comers_108 : decode cX0_comers 108 = .ok (.invokevirtual 88, 3) := by decide +kernel
theorem dX0_comers_111 : decode cX0_comers 111 = .ok (.ior, 1) := by decide +kernel
theorem dX0_comers_112 : decode cX0_comers 112 = .ok (.istore_n 3, 1) := by decide +kernel
theorem dX0_comers_113 : decode cX0_comers 113 = .ok (.iinc 4 1, 3) := by decide +kernel
theorem dX0_comers_116 : decode cX0_comers 116 = .ok (.goto (-42), 3) := by decide +kernel
theorem dX0_comers_119 : decode cX0_comers 119 = .ok (.iload_n 3, 1) := by decide +kernel
theorem dX0_comers_120 : decode cX0_comers 120 = .ok (.ireturn, 1) := by decide +kernel
theorem dX0_stepBack_0 : decode cX0_stepBack 0 = .ok (.iconst 0, 1) := by decide +kernel
theorem dX0_stepBack_1 : decode cX0_stepBack 1 = .ok (.istore_n 2, 1) := by decide +kernel
theorem dX0_stepBack_2 : decode cX0_stepBack 2 = .ok (.iload_n 2, 1) := by decide +kernel
theorem dX0_stepBack_3 : decode cX0_stepBack 3 = .ok (.aload_n 0, 1) := by decide +kernel
theorem dX0_stepBack_4 : decode cX0_stepBack 4 = .ok (.getfield 25, 3) := by decide +kernel
theorem dX0_stepBack_7 : decode cX0_stepBack 7 = .ok (.invokevirtual 29, 3) := by decide +kernel
theorem dX0_stepBack_10 : decode cX0_stepBack 10 = .ok (.if_icmp .gt 40, 3) := by decide +kernel
theorem dX0_stepBack_13 : decode cX0_stepBack 13 = .ok (.aload_n 0, 1) := by decide +kernel
theorem dX0_stepBack_14 : decode cX0_stepBack 14 = .ok (.getfield 9, 3) := by decide +kernel
theorem dX0_stepBack_17 : decode cX0_stepBack 17 = .ok (.iload_n 2, 1) := by decide +kernel
theorem dX0_stepBack_18 : decode cX0_stepBack 18 = .ok (.aload_n 0, 1) := by decide +kernel
theorem dX0_stepBack_19 : decode cX0_stepBack 19 = .ok (.getfield 25, 3) := by decide +kernel
theorem dX0_stepBack_22 : decode cX0_stepBack 22 = .ok (.iload_n 2, 1) := by decide +kernel
theorem dX0_stepBack_23 : decode cX0_stepBack 23 = .ok (.invokevirtual 91, 3) := by decide +kernel
theorem dX0_stepBack_26 : decode cX0_stepBack 26 = .ok (.ifCond .eq 16, 3) := by decide +kernel
theorem dX0_stepBack_29 : decode cX0_stepBack 29 = .ok (.aload_n 0, 1) := by decide +kernel
theorem dX0_stepBack_30 : decode cX0_stepBack 30 = .ok (.iload_n 2, 1) := by decide +kernel
theorem dX0_stepBack_31 : decode cX0_stepBack 31 = .ok (.iload_n 1, 1) := by decide +kernel
theorem dX0_stepBack_32 : decode cX0_stepBack 32 = .ok (.invokevirtual 88, 3) := by decide +kernel
theorem dX0_stepBack_35 : decode cX0_stepBack 35 = .ok (.ifCond .eq 7, 3) := by decide +kernel
theorem dX0_stepBack_38 : decode cX0_stepBack 38 = .ok (.iconst 1, 1) := by decide +kernel
theorem dX0_stepBack_39 : decode cX0_stepBack 39 = .ok (.goto 4, 3) := by decide +kernel
theorem dX0_stepBack_42 : decode cX0_stepBack 42 = .ok (.iconst 0, 1) := by decide +kernel
theorem dX0_stepBack_43 : decode cX0_stepBack 43 = .ok (.iastore, 1) := by decide +kernel
theorem dX0_stepBack_44 : decode cX0_stepBack 44 = .ok (.iinc 2 1, 3) := by decide +kernel
theorem dX0_stepBack_47 : decode cX0_stepBack 47 = .ok (.goto (-45), 3) := by decide +kernel
theorem dX0_stepBack_50 : decode cX0_stepBack 50 = .ok (.return_, 1) := by decide +kernel
theorem dX0_fitting_0 : decode cX0_fitting 0 = .ok (.iconst 0, 1) := by decide +kernel
theorem dX0_fitting_1 : decode cX0_fitting 1 = .ok (.istore_n 3, 1) := by decide +kernel
theorem dX0_fitting_2 : decode cX0_fitting 2 = .ok (.iconst 0, 1) := by decide +kernel
theorem dX0_fitting_3 : decode cX0_fitting 3 = .ok (.istore 4, 2) := by decide +kernel
theorem dX0_fitting_5 : decode cX0_fitting 5 = .ok (.iload 4, 2) := by decide +kernel
theorem dX0_fitting_7 : decode cX0_fitting 7 = .ok (.aload_n 0, 1) := by decide +kernel
theorem dX0_fitting_8 : decode cX0_fitting 8 = .ok (.getfield 25, 3) := by decide +kernel
theorem dX0_fitting_11 : decode cX0_fitting 11 = .ok (.invokevirtual 52, 3) := by decide +kernel
theorem dX0_fitting_14 : decode cX0_fitting 14 = .ok (.if_icmp .ge 59, 3) := by decide +kernel
theorem dX0_fitting_17 : decode cX0_fitting 17 = .ok (.aload_n 0, 1) := by decide +kernel
theorem dX0_fitting_18 : decode cX0_fitting 18 = .ok (.getfield 25, 3) := by decide +kernel
theorem dX0_fitting_21 : decode cX0_fitting 21 = .ok (.iload_n 1, 1) := by decide +kernel
theorem dX0_fitting_22 : decode cX0_fitting 22 = .ok (.iload 4, 2) := by decide +kernel
theorem dX0_fitting_24 : decode cX0_fitting 24 = .ok (.invokevirtual 48, 3) := by decide +kernel
theorem dX0_fitting_27 : decode cX0_fitting 27 = .ok (.istore 5, 2) := by decide +kernel
theorem dX0_fitting_29 : decode cX0_fitting 29 = .ok (.iload 5, 2) := by decide +kernel
theorem dX0_fitting_31 : decode cX0_fitting 31 = .ok (.ifCond .lt 36, 3) := by decide +kernel
theorem dX0_fitting_34 : decode cX0_fitting 34 = .ok (.iload_n 2, 1) := by decide +kernel
theorem dX0_fitting_35 : decode cX0_fitting 35 = .ok (.iconst (-1), 1) := by decide +kernel
theorem dX0_fitting_36 : decode cX0_fitting 36 = .ok (.if_icmp .eq 9, 3) := by decide +kernel
theorem dX0_fitting_39 : decode cX0_fitting 39 = .ok (.iload_n 2, 1) := by decide +kernel
theorem dX0_fitting_40 : decode cX0_fitting 40 = .ok (.iload 5, 2) := by decide +kernel
theorem dX0_fitting_42 : decode cX0_fitting 42 = .ok (.if_icmp .ne 25, 3) := by decide +kernel
theorem dX0_fitting_45 : decode cX0_fitting 45 = .ok (.aload_n 0, 1) := by decide +kernel
theorem dX0_fitting_46 : decode cX0_fitting 46 = .ok (.getfield 9, 3) := by decide +kernel
theorem dX0_fitting_49 : decode cX0_fitting 49 = .ok (.iload_n 1, 1) := by decide +kernel
theorem dX0_fitting_50 : decode cX0_fitting 50 = .ok (.iconst 1, 1) := by decide +kernel
theorem dX0_fitting_51 : decode cX0_fitting 51 = .ok (.iload 5, 2) := by decide +kernel
theorem dX0_fitting_53 : decode cX0_fitting 53 = .ok (.ishl, 1) := by decide +kernel
theorem dX0_fitting_54 : decode cX0_fitting 54 = .ok (.ior, 1) := by decide +kernel
theorem dX0_fitting_55 : decode cX0_fitting 55 = .ok (.iaload, 1) := by decide +kernel
theorem dX0_fitting_56 : decode cX0_fitting 56 = .ok (.iconst 1, 1) := by decide +kernel
theorem dX0_fitting_57 : decode cX0_fitting 57 = .ok (.if_icmp .ne 10, 3) := by decide +kernel
theorem dX0_fitting_60 : decode cX0_fitting 60 = .ok (.iload_n 3, 1) := by decide +kernel
theorem dX0_fitting_61 : decode cX0_fitting 61 = .ok (.iconst 1, 1) := by decide +kernel
theorem dX0_fitting_62 : decode cX0_fitting 62 = .ok (.iload 4, 2) := by decide +kernel
theorem dX0_fitting_64 : decode cX0_fitting 64 = .ok (.ishl, 1) := by decide +kernel
theorem dX0_fitting_65 : decode cX0_fitting 65 = .ok (.ior, 1) := by decide +kernel
theorem dX0_fitting_66 : decode cX0_fitting 66 = .ok (.istore_n 3, 1) := by decide +kernel
theorem dX0_fitting_67 : decode cX0_fitting 67 = .ok (.iinc 4 1, 3) := by decide +kernel
theorem dX0_fitting_70 : decode cX0_fitting 70 = .ok (.goto (-65), 3) := by decide +kernel
theorem dX0_fitting_73 : decode cX0_fitting 73 = .ok (.iload_n 3, 1) := by decide +kernel
theorem dX0_fitting_74 : decode cX0_fitting 74 = .ok (.ireturn, 1) := by decide +kernel
theorem dX1_init_0 : decode cX1_init 0 = .ok (.aload_n 0, 1) := by decide +kernel
theorem dX1_init_1 : decode cX1_init 1 = .ok (.invokespecial 3, 3) := by decide +kernel
theorem dX1_init_4 : decode cX1_init 4 = .ok (.aload_n 0, 1) := by decide +kernel
theorem dX1_init_5 : decode cX1_init 5 = .ok (.aload_n 1, 1) := by decide +kernel
theorem dX1_init_6 : decode cX1_init 6 = .ok (.putfield 9, 3) := by decide +kernel
theorem dX1_init_9 : decode cX1_init 9 = .ok (.return_, 1) := by decide +kernel
theorem dX1_visitBy_0 : decode cX1_visitBy 0 = .ok (.iload_n 3, 1) := by decide +kernel
theorem dX1_visitBy_1 : decode cX1_visitBy 1 = .ok (.ifCond .lt 11, 3) := by decide +kernel
theorem dX1_visitBy_4 : decode cX1_visitBy 4 = .ok (.iload_n 3, 1) := by decide +kernel
theorem dX1_visitBy_5 : decode cX1_visitBy 5 = .ok (.aload_n 1, 1) := by decide +kernel
theorem dX1_visitBy_6 : decode cX1_visitBy 6 = .ok (.getfield 15, 3) := by decide +kernel
theorem dX1_visitBy_9 : decode cX1_visitBy 9 = .ok (.if_icmp .lt 6, 3) := by decide +kernel
theorem dX1_visitBy_12 : decode cX1_visitBy 12 = .ok (.bipush (-11), 2) := by decide +kernel
theorem dX1_visitBy_14 : decode cX1_visitBy 14 = .ok (.ireturn, 1) := by decide +kernel
theorem dX1_visitBy_15 : decode cX1_visitBy 15 = .ok (.aload_n 2, 1) := by decide +kernel
theorem dX1_visitBy_16 : decode cX1_visitBy 16 = .ok (.invokevirtual 21, 3) := by decide +kernel
theorem dX1_visitBy_19 : decode cX1_visitBy 19 = .ok (.ifCond .eq 6, 3) := by decide +kernel
theorem dX1_visitBy_22 : decode cX1_visitBy 22 = .ok (.bipush (-12), 2) := by decide +kernel
theorem dX1_visitBy_24 : decode cX1_visitBy 24 = .ok (.ireturn, 1) := by decide +kernel
theorem dX1_visitBy_25 : decode cX1_visitBy 25 = .ok (.aload_n 0, 1) := by decide +kernel
theorem dX1_visitBy_26 : decode cX1_visitBy 26 = .ok (.getfield 9, 3) := by decide +kernel
theorem dX1_visitBy_29 : decode cX1_visitBy 29 = .ok (.aload_n 1, 1) := by decide +kernel
theorem dX1_visitBy_30 : decode cX1_visitBy 30 = .ok (.aload_n 2, 1) := by decide +kernel
theorem dX1_visitBy_31 : decode cX1_visitBy 31 = .ok (.invokevirtual 27, 3) := by decide +kernel
theorem dX1_visitBy_34 : decode cX1_visitBy 34 = .ok (.aload_n 0, 1) := by decide +kernel
theorem dX1_visitBy_35 : decode cX1_visitBy 35 = .ok (.getfield 9, 3) := by decide +kernel
theorem dX1_visitBy_38 : decode cX1_visitBy 38 = .ok (.iload_n 3, 1) := by decide +kernel
theorem dX1_visitBy_39 : decode cX1_visitBy 39 = .ok (.aload_n 2, 1) := by decide +kernel
theorem dX1_visitBy_40 : decode cX1_visitBy 40 = .ok (.getfield 33, 3) := by decide +kernel
theorem dX1_visitBy_43 : decode cX1_visitBy 43 = .ok (.aload_n 2, 1) := by decide +kernel
theorem dX1_visitBy_44 : decode cX1_visitBy 44 = .ok (.getfield 36, 3) := by decide +kernel
theorem dX1_visitBy_47 : decode cX1_visitBy 47 = .ok (.invokevirtual 39, 3) := by decide +kernel
theorem dX1_visitBy_50 : decode cX1_visitBy 50 = .ok (.istore 4, 2) := by decide +kernel
theorem dX1_visitBy_52 : decode cX1_visitBy 52 = .ok (.iload 4, 2) := by decide +kernel
theorem dX1_visitBy_54 : decode cX1_visitBy 54 = .ok (.ifCond .ge 6, 3) := by decide +kernel
theorem dX1_visitBy_57 : decode cX1_visitBy 57 = .ok (.bipush (-13), 2) := by decide +kernel
theorem dX1_visitBy_59 : decode cX1_visitBy 59 = .ok (.ireturn, 1) := by decide +kernel
theorem dX1_visitBy_60 : decode cX1_visitBy 60 = .ok (.aload_n 2, 1) := by decide +kernel
theorem dX1_visitBy_61 : decode cX1_visitBy 61 = .ok (.dup, 1) := by decide +kernel
theorem dX1_visitBy_62 : decode cX1_visitBy 62 = .ok (.getfield 33, 3) := by decide +kernel
theorem dX1_visitBy_65 : decode cX1_visitBy 65 = .ok (.iconst 1, 1) := by decide +kernel
theorem dX1_visitBy_66 : decode cX1_visitBy 66 = .ok (.iload 4, 2) := by decide +kernel
theorem dX1_visitBy_68 : decode cX1_visitBy 68 = .ok (.ishl, 1) := by decide +kernel
theorem dX1_visitBy_69 : decode cX1_visitBy 69 = .ok (.ior, 1) := by decide +kernel
theorem dX1_visitBy_70 : decode cX1_visitBy 70 = .ok (.putfield 33, 3) := by decide +kernel
theorem dX1_visitBy_73 : decode cX1_visitBy 73 = .ok (.aload_n 2, 1) := by decide +kernel
theorem dX1_visitBy_74 : decode cX1_visitBy 74 = .ok (.dup, 1) := by decide +kernel
theorem dX1_visitBy_75 : decode cX1_visitBy 75 = .ok (.getfield 43, 3) := by decide +kernel
theorem dX1_visitBy_78 : decode cX1_visitBy 78 = .ok (.aload_n 2, 1) := by decide +kernel
theorem dX1_visitBy_79 : decode cX1_visitBy 79 = .ok (.getfield 46, 3) := by decide +kernel
theorem dX1_visitBy_82 : decode cX1_visitBy 82 = .ok (.iload 4, 2) := by decide +kernel
theorem dX1_visitBy_84 : decode cX1_visitBy 84 = .ok (.iaload, 1) := by decide +kernel
theorem dX1_visitBy_85 : decode cX1_visitBy 85 = .ok (.iadd, 1) := by decide +kernel
theorem dX1_visitBy_86 : decode cX1_visitBy 86 = .ok (.putfield 43, 3) := by decide +kernel
theorem dX1_visitBy_89 : decode cX1_visitBy 89 = .ok (.iload 4, 2) := by decide +kernel
theorem dX1_visitBy_91 : decode cX1_visitBy 91 = .ok (.ireturn, 1) := by decide +kernel
theorem dX1_giveAway_0 : decode cX1_giveAway 0 = .ok (.aload_n 1, 1) := by decide +kernel
theorem dX1_giveAway_1 : decode cX1_giveAway 1 = .ok (.iload_n 2, 1) := by decide +kernel
theorem dX1_giveAway_2 : decode cX1_giveAway 2 = .ok (.invokevirtual 50, 3) := by decide +kernel
theorem dX1_giveAway_5 : decode cX1_giveAway 5 = .ok (.ifCond .ne 6, 3) := by decide +kernel
theorem dX1_giveAway_8 : decode cX1_giveAway 8 = .ok (.bipush (-11), 2) := by decide +kernel
theorem dX1_giveAway_10 : decode cX1_giveAway 10 = .ok (.ireturn, 1) := by decide +kernel
theorem dX1_giveAway_11 : decode cX1_giveAway 11 = .ok (.aload_n 1, 1) := by decide +kernel
theorem dX1_giveAway_12 : decode cX1_giveAway 12 = .ok (.invokevirtual 21, 3) := by decide +kernel
theorem dX1_giveAway_15 : decode cX1_giveAway 15 = .ok (.ifCond .eq 6, 3) := by decide +kernel
theorem dX1_giveAway_18 : decode cX1_giveAway 18 = .ok (.bipush (-12), 2) := by decide +kernel
theorem dX1_giveAway_20 : decode cX1_giveAway 20 = .ok (.ireturn, 1) := by decide +kernel
theorem dX1_giveAway_21 : decode cX1_giveAway 21 = .ok (.aload_n 1, 1) := by decide +kernel
theorem dX1_giveAway_22 : decode cX1_giveAway 22 = .ok (.dup, 1) := by decide +kernel
theorem dX1_giveAway_23 : decode cX1_giveAway 23 = .ok (.getfield 54, 3) := by decide +kernel
theorem dX1_giveAway_26 : decode cX1_giveAway 26 = .ok (.iconst 1, 1) := by decide +kernel
theorem dX1_giveAway_27 : decode cX1_giveAway 27 = .ok (.iadd, 1) := by decide +kernel
theorem dX1_giveAway_28 : decode cX1_giveAway 28 = .ok (.putfield 54, 3) := by decide +kernel
theorem dX1_giveAway_31 : decode cX1_giveAway 31 = .ok (.aload_n 1, 1) := by decide +kernel
theorem dX1_giveAway_32 : decode cX1_giveAway 32 = .ok (.getfield 54, 3) := by decide +kernel
theorem dX1_giveAway_35 : decode cX1_giveAway 35 = .ok (.ireturn, 1) := by decide +kernel
theorem dX1_turn_0 : decode cX1_turn 0 = .ok (.aload_n 1, 1) := by decide +kernel
theorem dX1_turn_1 : decode cX1_turn 1 = .ok (.iload_n 2, 1) := by decide +kernel
theorem dX1_turn_2 : decode cX1_turn 2 = .ok (.invokevirtual 50, 3) := by decide +kernel
theorem dX1_turn_5 : decode cX1_turn 5 = .ok (.ifCond .ne 6, 3) := by decide +kernel
theorem dX1_turn_8 : decode cX1_turn 8 = .ok (.bipush (-11), 2) := by decide +kernel
theorem dX1_turn_10 : decode cX1_turn 10 = .ok (.ireturn, 1) := by decide +kernel
theorem dX1_turn_11 : decode cX1_turn 11 = .ok (.aload_n 1, 1) := by decide +kernel
theorem dX1_turn_12 : decode cX1_turn 12 = .ok (.invokevirtual 21, 3) := by decide +kernel
theorem dX1_turn_15 : decode cX1_turn 15 = .ok (.ifCond .eq 6, 3) := by decide +kernel
theorem dX1_turn_18 : decode cX1_turn 18 = .ok (.bipush (-12), 2) := by decide +kernel
theorem dX1_turn_20 : decode cX1_turn 20 = .ok (.ireturn, 1) := by decide +kernel
theorem dX1_turn_21 : decode cX1_turn 21 = .ok (.aload_n 1, 1) := by decide +kernel
theorem dX1_turn_22 : decode cX1_turn 22 = .ok (.dup, 1) := by decide +kernel
theorem dX1_turn_23 : decode cX1_turn 23 = .ok (.getfield 36, 3) := by decide +kernel
theorem dX1_turn_26 : decode cX1_turn 26 = .ok (.iconst 1, 1) := by decide +kernel
theorem dX1_turn_27 : decode cX1_turn 27 = .ok (.iload_n 2, 1) := by decide +kernel
theorem dX1_turn_28 : decode cX1_turn 28 = .ok (.ishl, 1) := by decide +kernel
theorem dX1_turn_29 : decode cX1_turn 29 = .ok (.ixor, 1) := by decide +kernel
theorem dX1_turn_30 : decode cX1_turn 30 = .ok (.putfield 36, 3) := by decide +kernel
theorem dX1_turn_33 : decode cX1_turn 33 = .ok (.aload_n 1, 1) := by decide +kernel
theorem dX1_turn_34 : decode cX1_turn 34 = .ok (.getfield 36, 3) := by decide +kernel
theorem dX1_turn_37 : decode cX1_turn 37 = .ok (.iload_n 2, 1) := by decide +kernel
theorem dX1_turn_38 : decode cX1_turn 38 = .ok (.ishr, 1) := by decide +kernel
theorem dX1_turn_39 : decode cX1_turn 39 = .ok (.iconst 1, 1) := by decide +kernel
theorem dX1_turn_40 : decode cX1_turn 40 = .ok (.iand, 1) := by decide +kernel
theorem dX1_turn_41 : decode cX1_turn 41 = .ok (.ireturn, 1) := by decide +kernel
theorem dX1_bringIn_0 : decode cX1_bringIn 0 = .ok (.iload_n 2, 1) := by decide +kernel
theorem dX1_bringIn_1 : decode cX1_bringIn 1 = .ok (.iconst 1, 1) := by decide +kernel
theorem dX1_bringIn_2 : decode cX1_bringIn 2 = .ok (.if_icmp .lt 19, 3) := by decide +kernel
theorem dX1_bringIn_5 : decode cX1_bringIn 5 = .ok (.iload_n 2, 1) := by decide +kernel
theorem dX1_bringIn_6 : decode cX1_bringIn 6 = .ok (.bipush 99, 2) := by decide +kernel
theorem dX1_bringIn_8 : decode cX1_bringIn 8 = .ok (.if_icmp .gt 13, 3) := by decide +kernel
theorem dX1_bringIn_11 : decode cX1_bringIn 11 = .ok (.iload_n 3, 1) := by decide +kernel
theorem dX1_bringIn_12 : decode cX1_bringIn 12 = .ok (.ifCond .lt 9, 3) := by decide +kernel
theorem dX1_bringIn_15 : decode cX1_bringIn 15 = .ok (.iload_n 3, 1) := by decide +kernel
theorem dX1_bringIn_16 : decode cX1_bringIn 16 = .ok (.bipush 9, 2) := by decide +kernel
theorem dX1_bringIn_18 : decode cX1_bringIn 18 = .ok (.if_icmp .le 6, 3) := by decide +kernel
theorem dX1_bringIn_21 : decode cX1_bringIn 21 = .ok (.bipush (-11), 2) := by decide +kernel
theorem dX1_bringIn_23 : decode cX1_bringIn 23 = .ok (.ireturn, 1) := by decide +kernel
theorem dX1_bringIn_24 : decode cX1_bringIn 24 = .ok (.aload_n 1, 1) := by decide +kernel
theorem dX1_bringIn_25 : decode cX1_bringIn 25 = .ok (.invokevirtual 21, 3) := by decide +kernel
theorem dX1_bringIn_28 : decode cX1_bringIn 28 = .ok (.ifCond .eq 6, 3) := by decide +kernel
theorem dX1_bringIn_31 : decode cX1_bringIn 31 = .ok (.bipush (-12), 2) := by decide +kernel
theorem dX1_bringIn_33 : decode cX1_bringIn 33 = .ok (.ireturn, 1) := by decide +kernel
theorem dX1_bringIn_34 : decode cX1_bringIn 34 = .ok (.aload_n 1, 1) := by decide +kernel
theorem dX1_bringIn_35 : decode cX1_bringIn 35 = .ok (.getfield 57, 3) := by decide +kernel
theorem dX1_bringIn_38 : decode cX1_bringIn 38 = .ok (.bipush 8, 2) := by decide +kernel
theorem dX1_bringIn_40 : decode cX1_bringIn 40 = .ok (.if_icmp .lt 6, 3) := by decide +kernel
theorem dX1_bringIn_43 : decode cX1_bringIn 43 = .ok (.bipush (-13), 2) := by decide +kernel
theorem dX1_bringIn_45 : decode cX1_bringIn 45 = .ok (.ireturn, 1) := by decide +kernel
theorem dX1_bringIn_46 : decode cX1_bringIn 46 = .ok (.aload_n 1, 1) := by decide +kernel
theorem dX1_bringIn_47 : decode cX1_bringIn 47 = .ok (.getfield 46, 3) := by decide +kernel
theorem dX1_bringIn_50 : decode cX1_bringIn 50 = .ok (.aload_n 1, 1) := by decide +kernel
theorem dX1_bringIn_51 : decode cX1_bringIn 51 = .ok (.getfield 57, 3) := by decide +kernel
theorem dX1_bringIn_54 : decode cX1_bringIn 54 = .ok (.iload_n 2, 1) := by decide +kernel
theorem dX1_bringIn_55 : decode cX1_bringIn 55 = .ok (.iastore, 1) := by decide +kernel
theorem dX1_bringIn_56 : decode cX1_bringIn 56 = .ok (.aload_n 1, 1) := by decide +kernel
theorem dX1_bringIn_57 : decode cX1_bringIn 57 = .ok (.getfield 60, 3) := by decide +kernel
theorem dX1_bringIn_60 : decode cX1_bringIn 60 = .ok (.aload_n 1, 1) := by decide +kernel
theorem dX1_bringIn_61 : decode cX1_bringIn 61 = .ok (.getfield 57, 3) := by decide +kernel
theorem dX1_bringIn_64 : decode cX1_bringIn 64 = .ok (.iload_n 3, 1) := by decide +kernel
theorem dX1_bringIn_65 : decode cX1_bringIn 65 = .ok (.iastore, 1) := by decide +kernel
theorem dX1_bringIn_66 : decode cX1_bringIn 66 = .ok (.aload_n 1, 1) := by decide +kernel
theorem dX1_bringIn_67 : decode cX1_bringIn 67 = .ok (.dup, 1) := by decide +kernel
theorem dX1_bringIn_68 : decode cX1_bringIn 68 = .ok (.getfield 57, 3) := by decide +kernel
theorem dX1_bringIn_71 : decode cX1_bringIn 71 = .ok (.iconst 1, 1) := by decide +kernel
theorem dX1_bringIn_72 : decode cX1_bringIn 72 = .ok (.iadd, 1) := by decide +kernel
theorem dX1_bringIn_73 : decode cX1_bringIn 73 = .ok (.putfield 57, 3) := by decide +kernel
theorem dX1_bringIn_76 : decode cX1_bringIn 76 = .ok (.aload_n 1, 1) := by decide +kernel
theorem dX1_bringIn_77 : decode cX1_bringIn 77 = .ok (.getfield 57, 3) := by decide +kernel
theorem dX1_bringIn_80 : decode cX1_bringIn 80 = .ok (.iconst 1, 1) := by decide +kernel
theorem dX1_bringIn_81 : decode cX1_bringIn 81 = .ok (.isub, 1) := by decide +kernel
theorem dX1_bringIn_82 : decode cX1_bringIn 82 = .ok (.ireturn, 1) := by decide +kernel
theorem dX1_reprice_0 : decode cX1_reprice 0 = .ok (.aload_n 1, 1) := by decide +kernel
theorem dX1_reprice_1 : decode cX1_reprice 1 = .ok (.iload_n 2, 1) := by decide +kernel
theorem dX1_reprice_2 : decode cX1_reprice 2 = .ok (.invokevirtual 50, 3) := by decide +kernel
theorem dX1_reprice_5 : decode cX1_reprice 5 = .ok (.ifCond .eq 14, 3) := by decide +kernel
theorem dX1_reprice_8 : decode cX1_reprice 8 = .ok (.iload_n 3, 1) := by decide +kernel
theorem dX1_reprice_9 : decode cX1_reprice 9 = .ok (.iconst 1, 1) := by decide +kernel
theorem dX1_reprice_10 : decode cX1_reprice 10 = .ok (.if_icmp .lt 9, 3) := by decide +kernel
theorem dX1_reprice_13 : decode cX1_reprice 13 = .ok (.iload_n 3, 1) := by decide +kernel
theorem dX1_reprice_14 : decode cX1_reprice 14 = .ok (.bipush 99, 2) := by decide +kernel
theorem dX1_reprice_16 : decode cX1_reprice 16 = .ok (.if_icmp .le 6, 3) := by decide +kernel
theorem dX1_reprice_19 : decode cX1_reprice 19 = .ok (.bipush (-11), 2) := by decide +kernel
theorem dX1_reprice_21 : decode cX1_reprice 21 = .ok (.ireturn, 1) := by decide +kernel
theorem dX1_reprice_22 : decode cX1_reprice 22 = .ok (.aload_n 1, 1) := by decide +kernel
theorem dX1_reprice_23 : decode cX1_reprice 23 = .ok (.invokevirtual 21, 3) := by decide +kernel
theorem dX1_reprice_26 : decode cX1_reprice 26 = .ok (.ifCond .eq 6, 3) := by decide +kernel
theorem dX1_reprice_29 : decode cX1_reprice 29 = .ok (.bipush (-12), 2) := by decide +kernel
theorem dX1_reprice_31 : decode cX1_reprice 31 = .ok (.ireturn, 1) := by decide +kernel
theorem dX1_reprice_32 : decode cX1_reprice 32 = .ok (.aload_n 1, 1) := by decide +kernel
theorem dX1_reprice_33 : decode cX1_reprice 33 = .ok (.getfield 46, 3) := by decide +kernel
theorem dX1_reprice_36 : decode cX1_reprice 36 = .ok (.iload_n 2, 1) := by decide +kernel
theorem dX1_reprice_37 : decode cX1_reprice 37 = .ok (.iaload, 1) := by decide +kernel
theorem dX1_reprice_38 : decode cX1_reprice 38 = .ok (.istore 4, 2) := by decide +kernel
theorem dX1_reprice_40 : decode cX1_reprice 40 = .ok (.aload_n 1, 1) := by decide +kernel
theorem dX1_reprice_41 : decode cX1_reprice 41 = .ok (.getfield 46, 3) := by decide +kernel
theorem dX1_reprice_44 : decode cX1_reprice 44 = .ok (.iload_n 2, 1) := by decide +kernel
theorem dX1_reprice_45 : decode cX1_reprice 45 = .ok (.iload_n 3, 1) := by decide +kernel
theorem dX1_reprice_46 : decode cX1_reprice 46 = .ok (.iastore, 1) := by decide +kernel
theorem dX1_reprice_47 : decode cX1_reprice 47 = .ok (.iload 4, 2) := by decide +kernel
theorem dX1_reprice_49 : decode cX1_reprice 49 = .ok (.ireturn, 1) := by decide +kernel
theorem dX1_passDay_0 : decode cX1_passDay 0 = .ok (.aload_n 2, 1) := by decide +kernel
theorem dX1_passDay_1 : decode cX1_passDay 1 = .ok (.dup, 1) := by decide +kernel
theorem dX1_passDay_2 : decode cX1_passDay 2 = .ok (.getfield 63, 3) := by decide +kernel
theorem dX1_passDay_5 : decode cX1_passDay 5 = .ok (.iconst 1, 1) := by decide +kernel
theorem dX1_passDay_6 : decode cX1_passDay 6 = .ok (.iadd, 1) := by decide +kernel
theorem dX1_passDay_7 : decode cX1_passDay 7 = .ok (.putfield 63, 3) := by decide +kernel
theorem dX1_passDay_10 : decode cX1_passDay 10 = .ok (.aload_n 1, 1) := by decide +kernel
theorem dX1_passDay_11 : decode cX1_passDay 11 = .ok (.invokevirtual 66, 3) := by decide +kernel
theorem dX1_passDay_14 : decode cX1_passDay 14 = .ok (.istore_n 3, 1) := by decide +kernel
theorem dX1_passDay_15 : decode cX1_passDay 15 = .ok (.iload_n 3, 1) := by decide +kernel
theorem dX1_passDay_16 : decode cX1_passDay 16 = .ok (.ifCond .le 16, 3) := by decide +kernel
theorem dX1_passDay_19 : decode cX1_passDay 19 = .ok (.aload_n 1, 1) := by decide +kernel
theorem dX1_passDay_20 : decode cX1_passDay 20 = .ok (.aload_n 2, 1) := by decide +kernel
theorem dX1_passDay_21 : decode cX1_passDay 21 = .ok (.invokevirtual 70, 3) := by decide +kernel
theorem dX1_passDay_24 : decode cX1_passDay 24 = .ok (.iload_n 3, 1) := by decide +kernel
theorem dX1_passDay_25 : decode cX1_passDay 25 = .ok (.irem, 1) := by decide +kernel
theorem dX1_passDay_26 : decode cX1_passDay 26 = .ok (.invokevirtual 73, 3) := by decide +kernel
theorem dX1_passDay_29 : decode cX1_passDay 29 = .ok (.goto 4, 3) := by decide +kernel
theorem dX1_passDay_32 : decode cX1_passDay 32 = .ok (.iconst (-1), 1) := by decide +kernel
theorem dX1_passDay_33 : decode cX1_passDay 33 = .ok (.ireturn, 1) := by decide +kernel
theorem dX1_carryOut_0 : decode cX1_carryOut 0 = .ok (.lload_n 3, 1) := by decide +kernel
theorem dX1_carryOut_1 : decode cX1_carryOut 1 = .ok (.ldc2_w 77, 3) := by decide +kernel
theorem dX1_carryOut_4 : decode cX1_carryOut 4 = .ok (.lcmp, 1) := by decide +kernel
theorem dX1_carryOut_5 : decode cX1_carryOut 5 = .ok (.ifCond .lt 11, 3) := by decide +kernel
theorem dX1_carryOut_8 : decode cX1_carryOut 8 = .ok (.lload_n 3, 1) := by decide +kernel
theorem dX1_carryOut_9 : decode cX1_carryOut 9 = .ok (.ldc2_w 79, 3) := by decide +kernel
theorem dX1_carryOut_12 : decode cX1_carryOut 12 = .ok (.lcmp, 1) := by decide +kernel
theorem dX1_carryOut_13 : decode cX1_carryOut 13 = .ok (.ifCond .le 6, 3) := by decide +kernel
theorem dX1_carryOut_16 : decode cX1_carryOut 16 = .ok (.bipush (-11), 2) := by decide +kernel
theorem dX1_carryOut_18 : decode cX1_carryOut 18 = .ok (.ireturn, 1) := by decide +kernel
theorem dX1_carryOut_19 : decode cX1_carryOut 19 = .ok (.lload_n 3, 1) := by decide +kernel
theorem dX1_carryOut_20 : decode cX1_carryOut 20 = .ok (.l2i, 1) := by decide +kernel
theorem dX1_carryOut_21 : decode cX1_carryOut 21 = .ok (.istore 5, 2) := by decide +kernel
theorem dX1_carryOut_23 : decode cX1_carryOut 23 = .ok (.iload 5, 2) := by decide +kernel
theorem dX1_carryOut_25 : decode cX1_carryOut 25 = .ok (.iconst (-1), 1) := by decide +kernel
theorem dX1_carryOut_26 : decode cX1_carryOut 26 = .ok (.if_icmp .ne 28, 3) := by decide +kernel
theorem dX1_carryOut_29 : decode cX1_carryOut 29 = .ok (.aload_n 0, 1) := by decide +kernel
theorem dX1_carryOut_30 : decode cX1_carryOut 30 = .ok (.aload_n 1, 1) := by decide +kernel
theorem dX1_carryOut_31 : decode cX1_carryOut 31 = .ok (.aload_n 2, 1) := by decide +kernel
theorem dX1_carryOut_32 : decode cX1_carryOut 32 = .ok (.invokevirtual 81, 3) := by decide +kernel
theorem dX1_carryOut_35 : decode cX1_carryOut 35 = .ok (.istore 6, 2) := by decide +kernel
theorem dX1_carryOut_37 : decode cX1_carryOut 37 = .ok (.aload_n 0, 1) := by decide +kernel
theorem dX1_carryOut_38 : decode cX1_carryOut 38 = .ok (.aload_n 1, 1) := by decide +kernel
theorem dX1_carryOut_39 : decode cX1_carryOut 39 = .ok (.aload_n 2, 1) := by decide +kernel
theorem dX1_carryOut_40 : decode cX1_carryOut 40 = .ok (.iload 6, 2) := by decide +kernel
theorem dX1_carryOut_42 : decode cX1_carryOut 42 = .ok (.invokevirtual 85, 3) := by decide +kernel
theorem dX1_carryOut_45 : decode cX1_carryOut 45 = .ok (.ifCond .lt 7, 3) := by decide +kernel
theorem dX1_carryOut_48 : decode cX1_carryOut 48 = .ok (.iconst 1, 1) := by decide +kernel
theorem dX1_carryOut_49 : decode cX1_carryOut 49 = .ok (.goto 4, 3) := by decide +kernel
theorem dX1_carryOut_52 : decode cX1_carryOut 52 = .ok (.iconst 0, 1) := by decide +kernel
theorem dX1_carryOut_53 : decode cX1_carryOut 53 = .ok (.ireturn, 1) := by decide +kernel
theorem dX1_carryOut_54 : decode cX1_carryOut 54 = .ok (.iload 5, 2) := by decide +kernel
theorem dX1_carryOut_56 : decode cX1_carryOut 56 = .ok (.bipush 9, 2) := by decide +kernel
theorem dX1_carryOut_58 : decode cX1_carryOut 58 = .ok (.if_icmp .gt 12, 3) := by decide +kernel
theorem dX1_carryOut_61 : decode cX1_carryOut 61 = .ok (.aload_n 0, 1) := by decide +kernel
theorem dX1_carryOut_62 : decode cX1_carryOut 62 = .ok (.aload_n 1, 1) := by decide +kernel
theorem dX1_carryOut_63 : decode cX1_carryOut 63 = .ok (.aload_n 2, 1) := by decide +kernel
theorem dX1_carryOut_64 : decode cX1_carryOut 64 = .ok (.iload 5, 2) := by decide +kernel
theorem dX1_carryOut_66 : decode cX1_carryOut 66 = .ok (.invokevirtual 85, 3) := by decide +kernel
theorem dX1_carryOut_69 : decode cX1_carryOut 69 = .ok (.ireturn, 1) := by decide +kernel
theorem dX1_carryOut_70 : decode cX1_carryOut 70 = .ok (.iload 5, 2) := by decide +kernel
theorem dX1_carryOut_72 : decode cX1_carryOut 72 = .ok (.bipush 100, 2) := by decide +kernel
theorem dX1_carryOut_74 : decode cX1_carryOut 74 = .ok (.if_icmp .lt 21, 3) := by decide +kernel
theorem dX1_carryOut_77 : decode cX1_carryOut 77 = .ok (.iload 5, 2) := by decide +kernel
theorem dX1_carryOut_79 : decode cX1_carryOut 79 = .ok (.bipush 109, 2) := by decide +kernel
theorem dX1_carryOut_81 : decode cX1_carryOut 81 = .ok (.if_icmp .gt 14, 3) := by decide +kernel
theorem dX1_carryOut_84 : decode cX1_carryOut 84 = .ok (.aload_n 0, 1) := by decide +kernel
theorem dX1_carryOut_85 : decode cX1_carryOut 85 = .ok (.aload_n 2, 1) := by decide +kernel
theorem dX1_carryOut_86 : decode cX1_carryOut 86 = .ok (.iload 5, 2) := by decide +kernel
theorem dX1_carryOut_88 : decode cX1_carryOut 88 = .ok (.bipush 100, 2) := by decide +kernel
theorem dX1_carryOut_90 : decode cX1_carryOut 90 = .ok (.isub, 1) := by decide +kernel
theorem dX1_carryOut_91 : decode cX1_carryOut 91 = .ok (.invokevirtual 89, 3) := by decide +kernel
theorem dX1_carryOut_94 : decode cX1_carryOut 94 = .ok (.ireturn, 1) := by decide +kernel
theorem dX1_carryOut_95 : decode cX1_carryOut 95 = .ok (.iload 5, 2) := by decide +kernel
theorem dX1_carryOut_97 : decode cX1_carryOut 97 = .ok (.sipush 200, 3) := by decide +kernel
theorem dX1_carryOut_100 : decode cX1_carryOut 100 = .ok (.if_icmp .lt 23, 3) := by decide +kernel
theorem dX1_carryOut_103 : decode cX1_carryOut 103 = .ok (.iload 5, 2) := by decide +kernel
theorem dX1_carryOut_105 : decode cX1_carryOut 105 = .ok (.sipush 209, 3) := by decide +kernel
theorem dX1_carryOut_108 : decode cX1_carryOut 108 = .ok (.if_icmp .gt 15, 3) := by decide +kernel
theorem dX1_carryOut_111 : decode cX1_carryOut 111 = .ok (.aload_n 0, 1) := by decide +kernel
theorem dX1_carryOut_112 : decode cX1_carryOut 112 = .ok (.aload_n 2, 1) := by decide +kernel
theorem dX1_carryOut_113 : decode cX1_carryOut 113 = .ok (.iload 5, 2) := by decide +kernel
theorem dX1_carryOut_115 : decode cX1_carryOut 115 = .ok (.sipush 200, 3) := by decide +kernel
theorem dX1_carryOut_118 : decode cX1_carryOut 118 = .ok (.isub, 1) := by decide +kernel
theorem dX1_carryOut_119 : decode cX1_carryOut 119 = .ok (.invokevirtual 93, 3) := by decide +kernel
theorem dX1_carryOut_122 : decode cX1_carryOut 122 = .ok (.ireturn, 1) := by decide +kernel
theorem dX1_carryOut_123 : decode cX1_carryOut 123 = .ok (.iload 5, 2) := by decide +kernel
theorem dX1_carryOut_125 : decode cX1_carryOut 125 = .ok (.sipush 1000, 3) := by decide +kernel
theorem dX1_carryOut_128 : decode cX1_carryOut 128 = .ok (.if_icmp .lt 23, 3) := by decide +kernel
theorem dX1_carryOut_131 : decode cX1_carryOut 131 = .ok (.aload_n 0, 1) := by decide +kernel
theorem dX1_carryOut_132 : decode cX1_carryOut 132 = .ok (.aload_n 2, 1) := by decide +kernel
theorem dX1_carryOut_133 : decode cX1_carryOut 133 = .ok (.iload 5, 2) := by decide +kernel
theorem dX1_carryOut_135 : decode cX1_carryOut 135 = .ok (.sipush 1000, 3) := by decide +kernel
theorem dX1_carryOut_138 : decode cX1_carryOut 138 = .ok (.isub, 1) := by decide +kernel
theorem dX1_carryOut_139 : decode cX1_carryOut 139 = .ok (.bipush 100, 2) := by decide +kernel
theorem dX1_carryOut_141 : decode cX1_carryOut 141 = .ok (.idiv, 1) := by decide +kernel
theorem dX1_carryOut_142 : decode cX1_carryOut 142 = .ok (.iload 5, 2) := by decide +kernel
theorem dX1_carryOut_144 : decode cX1_carryOut 144 = .ok (.bipush 100, 2) := by decide +kernel
theorem dX1_carryOut_146 : decode cX1_carryOut 146 = .ok (.irem, 1) := by decide +kernel
theorem dX1_carryOut_147 : decode cX1_carryOut 147 = .ok (.invokevirtual 96, 3) := by decide +kernel
theorem dX1_carryOut_150 : decode cX1_carryOut 150 = .ok (.ireturn, 1) := by decide +kernel
theorem dX1_carryOut_151 : decode cX1_carryOut 151 = .ok (.bipush (-11), 2) := by decide +kernel
theorem dX1_carryOut_153 : decode cX1_carryOut 153 = .ok (.ireturn, 1) := by decide +kernel
theorem dX1_drawDeed_0 : decode cX1_drawDeed 0 = .ok (.aload_n 1, 1) := by decide +kernel
theorem dX1_drawDeed_1 : decode cX1_drawDeed 1 = .ok (.invokevirtual 70, 3) := by decide +kernel
theorem dX1_drawDeed_4 : decode cX1_drawDeed 4 = .ok (.iconst 5, 1) := by decide +kernel
theorem dX1_drawDeed_5 : decode cX1_drawDeed 5 = .ok (.irem, 1) := by decide +kernel
theorem dX1_drawDeed_6 : decode cX1_drawDeed 6 = .ok (.tableswitch 57 2 4 #[26, 34, 45], 26) := by decide +kernel
theorem dX1_drawDeed_32 : decode cX1_drawDeed 32 = .ok (.aload_n 1, 1) := by decide +kernel
theorem dX1_drawDeed_33 : decode cX1_drawDeed 33 = .ok (.invokevirtual 70, 3) := by decide +kernel
theorem dX1_drawDeed_36 : decode cX1_drawDeed 36 = .ok (.bipush 6, 2) := by decide +kernel
theorem dX1_drawDeed_38 : decode cX1_drawDeed 38 = .ok (.irem, 1) := by decide +kernel
theorem dX1_drawDeed_39 : decode cX1_drawDeed 39 = .ok (.ireturn, 1) := by decide +kernel
theorem dX1_drawDeed_40 : decode cX1_drawDeed 40 = .ok (.bipush 100, 2) := by decide +kernel
theorem dX1_drawDeed_42 : decode cX1_drawDeed 42 = .ok (.aload_n 1, 1) := by decide +kernel
theorem dX1_drawDeed_43 : decode cX1_drawDeed 43 = .ok (.invokevirtual 70, 3) := by decide +kernel
theorem dX1_drawDeed_46 : decode cX1_drawDeed 46 = .ok (.bipush 8, 2) := by decide +kernel
theorem dX1_drawDeed_48 : decode cX1_drawDeed 48 = .ok (.irem, 1) := by decide +kernel
theorem dX1_drawDeed_49 : decode cX1_drawDeed 49 = .ok (.iadd, 1) := by decide +kernel
theorem dX1_drawDeed_50 : decode cX1_drawDeed 50 = .ok (.ireturn, 1) := by decide +kernel
theorem dX1_drawDeed_51 : decode cX1_drawDeed 51 = .ok (.sipush 200, 3) := by decide +kernel
theorem dX1_drawDeed_54 : decode cX1_drawDeed 54 = .ok (.aload_n 1, 1) := by decide +kernel
theorem dX1_drawDeed_55 : decode cX1_drawDeed 55 = .ok (.invokevirtual 70, 3) := by decide +kernel
theorem dX1_drawDeed_58 : decode cX1_drawDeed 58 = .ok (.bipush 8, 2) := by decide +kernel
theorem dX1_drawDeed_60 : decode cX1_drawDeed 60 = .ok (.irem, 1) := by decide +kernel
theorem dX1_drawDeed_61 : decode cX1_drawDeed 61 = .ok (.iadd, 1) := by decide +kernel
theorem dX1_drawDeed_62 : decode cX1_drawDeed 62 = .ok (.ireturn, 1) := by decide +kernel
theorem dX1_drawDeed_63 : decode cX1_drawDeed 63 = .ok (.iconst (-1), 1) := by decide +kernel
theorem dX1_drawDeed_64 : decode cX1_drawDeed 64 = .ok (.ireturn, 1) := by decide +kernel
theorem dX2_init_0 : decode cX2_init 0 = .ok (.aload_n 0, 1) := by decide +kernel
theorem dX2_init_1 : decode cX2_init 1 = .ok (.invokespecial 1, 3) := by decide +kernel
theorem dX2_init_4 : decode cX2_init 4 = .ok (.aload_n 0, 1) := by decide +kernel
theorem dX2_init_5 : decode cX2_init 5 = .ok (.iconst 0, 1) := by decide +kernel
theorem dX2_init_6 : decode cX2_init 6 = .ok (.putfield 7, 3) := by decide +kernel
theorem dX2_init_9 : decode cX2_init 9 = .ok (.aload_n 0, 1) := by decide +kernel
theorem dX2_init_10 : decode cX2_init 10 = .ok (.new 13, 3) := by decide +kernel
theorem dX2_init_13 : decode cX2_init 13 = .ok (.dup, 1) := by decide +kernel
theorem dX2_init_14 : decode cX2_init 14 = .ok (.invokespecial 15, 3) := by decide +kernel
theorem dX2_init_17 : decode cX2_init 17 = .ok (.putfield 16, 3) := by decide +kernel
theorem dX2_init_20 : decode cX2_init 20 = .ok (.aload_n 0, 1) := by decide +kernel
theorem dX2_init_21 : decode cX2_init 21 = .ok (.new 20, 3) := by decide +kernel
theorem dX2_init_24 : decode cX2_init 24 = .ok (.dup, 1) := by decide +kernel
theorem dX2_init_25 : decode cX2_init 25 = .ok (.invokespecial 22, 3) := by decide +kernel
theorem dX2_init_28 : decode cX2_init 28 = .ok (.putfield 23, 3) := by decide +kernel
theorem dX2_init_31 : decode cX2_init 31 = .ok (.return_, 1) := by decide +kernel
theorem dX3_isSmall_0 : decode cX3_isSmall 0 = .ok (.iload_n 0, 1) := by decide +kernel
theorem dX3_isSmall_1 : decode cX3_isSmall 1 = .ok (.bipush 97, 2) := by decide +kernel
theorem dX3_isSmall_3 : decode cX3_isSmall 3 = .ok (.if_icmp .lt 13, 3) := by decide +kernel
theorem dX3_isSmall_6 : decode cX3_isSmall 6 = .ok (.iload_n 0, 1) := by decide +kernel
theorem dX3_isSmall_7 : decode cX3_isSmall 7 = .ok (.bipush 122, 2) := by decide +kernel
theorem dX3_isSmall_9 : decode cX3_isSmall 9 = .ok (.if_icmp .gt 7, 3) := by decide +kernel
theorem dX3_isSmall_12 : decode cX3_isSmall 12 = .ok (.iconst 1, 1) := by decide +kernel
theorem dX3_isSmall_13 : decode cX3_isSmall 13 = .ok (.goto 4, 3) := by decide +kernel
theorem dX3_isSmall_16 : decode cX3_isSmall 16 = .ok (.iconst 0, 1) := by decide +kernel
theorem dX3_isSmall_17 : decode cX3_isSmall 17 = .ok (.ireturn, 1) := by decide +kernel
theorem dX3_isDigit_0 : decode cX3_isDigit 0 = .ok (.iload_n 0, 1) := by decide +kernel
theorem dX3_isDigit_1 : decode cX3_isDigit 1 = .ok (.bipush 48, 2) := by decide +kernel
theorem dX3_isDigit_3 : decode cX3_isDigit 3 = .ok (.if_icmp .lt 13, 3) := by decide +kernel
theorem dX3_isDigit_6 : decode cX3_isDigit 6 = .ok (.iload_n 0, 1) := by decide +kernel
theorem dX3_isDigit_7 : decode cX3_isDigit 7 = .ok (.bipush 57, 2) := by decide +kernel
theorem dX3_isDigit_9 : decode cX3_isDigit 9 = .ok (.if_icmp .gt 7, 3) := by decide +kernel
theorem dX3_isDigit_12 : decode cX3_isDigit 12 = .ok (.iconst 1, 1) := by decide +kernel
theorem dX3_isDigit_13 : decode cX3_isDigit 13 = .ok (.goto 4, 3) := by decide +kernel
theorem dX3_isDigit_16 : decode cX3_isDigit 16 = .ok (.iconst 0, 1) := by decide +kernel
theorem dX3_isDigit_17 : decode cX3_isDigit 17 = .ok (.ireturn, 1) := by decide +kernel
theorem dX3_isBlank_0 : decode cX3_isBlank 0 = .ok (.iload_n 0, 1) := by decide +kernel
theorem dX3_isBlank_1 : decode cX3_isBlank 1 = .ok (.bipush 10, 2) := by decide +kernel
theorem dX3_isBlank_3 : decode cX3_isBlank 3 = .ok (.if_icmp .eq 9, 3) := by decide +kernel
theorem dX3_isBlank_6 : decode cX3_isBlank 6 = .ok (.iload_n 0, 1) := by decide +kernel
theorem dX3_isBlank_7 : decode cX3_isBlank 7 = .ok (.bipush 32, 2) := by decide +kernel
theorem dX3_isBlank_9 : decode cX3_isBlank 9 = .ok (.if_icmp .ne 7, 3) := by decide +kernel
theorem dX3_isBlank_12 : decode cX3_isBlank 12 = .ok (.iconst 1, 1) := by decide +kernel
theorem dX3_isBlank_13 : decode cX3_isBlank 13 = .ok (.goto 4, 3) := by decide +kernel
theorem dX3_isBlank_16 : decode cX3_isBlank 16 = .ok (.iconst 0, 1) := by decide +kernel
theorem dX3_isBlank_17 : decode cX3_isBlank 17 = .ok (.ireturn, 1) := by decide +kernel
theorem dX3_endOf_0 : decode cX3_endOf 0 = .ok (.iload_n 1, 1) := by decide +kernel
theorem dX3_endOf_1 : decode cX3_endOf 1 = .ok (.iconst 1, 1) := by decide +kernel
theorem dX3_endOf_2 : decode cX3_endOf 2 = .ok (.iadd, 1) := by decide +kernel
theorem dX3_endOf_3 : decode cX3_endOf 3 = .ok (.istore_n 3, 1) := by decide +kernel
theorem dX3_endOf_4 : decode cX3_endOf 4 = .ok (.aload_n 0, 1) := by decide +kernel
theorem dX3_endOf_5 : decode cX3_endOf 5 = .ok (.iload_n 1, 1) := by decide +kernel
theorem dX3_endOf_6 : decode cX3_endOf 6 = .ok (.iaload, 1) := by decide +kernel
theorem dX3_endOf_7 : decode cX3_endOf 7 = .ok (.invokestatic 9, 3) := by decide +kernel
theorem dX3_endOf_10 : decode cX3_endOf 10 = .ok (.ifCond .eq 23, 3) := by decide +kernel
theorem dX3_endOf_13 : decode cX3_endOf 13 = .ok (.iload_n 3, 1) := by decide +kernel
theorem dX3_endOf_14 : decode cX3_endOf 14 = .ok (.iload_n 2, 1) := by decide +kernel
theorem dX3_endOf_15 : decode cX3_endOf 15 = .ok (.if_icmp .ge 47, 3) := by decide +kernel
theorem dX3_endOf_18 : decode cX3_endOf 18 = .ok (.aload_n 0, 1) := by decide +kernel
theorem dX3_endOf_19 : decode cX3_endOf 19 = .ok (.iload_n 3, 1) := by decide +kernel
theorem dX3_endOf_20 : decode cX3_endOf 20 = .ok (.iaload, 1) := by decide +kernel
theorem dX3_endOf_21 : decode cX3_endOf 21 = .ok (.invokestatic 9, 3) := by decide +kernel
theorem dX3_endOf_24 : decode cX3_endOf 24 = .ok (.ifCond .eq 38, 3) := by decide +kernel
theorem dX3_endOf_27 : decode cX3_endOf 27 = .ok (.iinc 3 1, 3) := by decide +kernel
theorem dX3_endOf_30 : decode cX3_endOf 30 = .ok (.goto (-17), 3) := by decide +kernel
theorem dX3_endOf_33 : decode cX3_endOf 33 = .ok (.aload_n 0, 1) := by decide +kernel
theorem dX3_endOf_34 : decode cX3_endOf 34 = .ok (.iload_n 1, 1) := by decide +kernel
theorem dX3_endOf_35 : decode cX3_endOf 35 = .ok (.iaload, 1) := by decide +kernel
theorem dX3_endOf_36 : decode cX3_endOf 36 = .ok (.invokestatic 13, 3) := by decide +kernel
theorem dX3_endOf_39 : decode cX3_endOf 39 = .ok (.ifCond .eq 23, 3) := by decide +kernel
theorem dX3_endOf_42 : decode cX3_endOf 42 = .ok (.iload_n 3, 1) := by decide +kernel
theorem dX3_endOf_43 : decode cX3_endOf 43 = .ok (.iload_n 2, 1) := by decide +kernel
theorem dX3_endOf_44 : decode cX3_endOf 44 = .ok (.if_icmp .ge 18, 3) := by decide +kernel
theorem dX3_endOf_47 : decode cX3_endOf 47 = .ok (.aload_n 0, 1) := by decide +kernel
theorem dX3_endOf_48 : decode cX3_endOf 48 = .ok (.iload_n 3, 1) := by decide +kernel
theorem dX3_endOf_49 : decode cX3_endOf 49 = .ok (.iaload, 1) := by decide +kernel
theorem dX3_endOf_50 : decode cX3_endOf 50 = .ok (.invokestatic 13, 3) := by decide +kernel
theorem dX3_endOf_53 : decode cX3_endOf 53 = .ok (.ifCond .eq 9, 3) := by decide +kernel
theorem dX3_endOf_56 : decode cX3_endOf 56 = .ok (.iinc 3 1, 3) := by decide +kernel
theorem dX3_endOf_59 : decode cX3_endOf 59 = .ok (.goto (-17), 3) := by decide +kernel
theorem dX3_endOf_62 : decode cX3_endOf 62 = .ok (.iload_n 3, 1) := by decide +kernel
theorem dX3_endOf_63 : decode cX3_endOf 63 = .ok (.ireturn, 1) := by decide +kernel
theorem dX3_meaning_0 : decode cX3_meaning 0 = .ok (.aload_n 0, 1) := by decide +kernel
theorem dX3_meaning_1 : decode cX3_meaning 1 = .ok (.iload_n 1, 1) := by decide +kernel
theorem dX3_meaning_2 : decode cX3_meaning 2 = .ok (.iaload, 1) := by decide +kernel
theorem dX3_meaning_3 : decode cX3_meaning 3 = .ok (.invokestatic 9, 3) := by decide +kernel
theorem dX3_meaning_6 : decode cX3_meaning 6 = .ok (.ifCond .eq 10, 3) := by decide +kernel
theorem dX3_meaning_9 : decode cX3_meaning 9 = .ok (.aload_n 0, 1) := by decide +kernel
theorem dX3_meaning_10 : decode cX3_meaning 10 = .ok (.iload_n 1, 1) := by decide +kernel
theorem dX3_meaning_11 : decode cX3_meaning 11 = .ok (.iload_n 2, 1) := by decide +kernel
theorem dX3_meaning_12 : decode cX3_meaning 12 = .ok (.invokestatic 16, 3) := by decide +kernel
theorem dX3_meaning_15 : decode cX3_meaning 15 = .ok (.ireturn, 1) := by decide +kernel
theorem dX3_meaning_16 : decode cX3_meaning 16 = .ok (.aload_n 0, 1) := by decide +kernel
theorem dX3_meaning_17 : decode cX3_meaning 17 = .ok (.iload_n 1, 1) := by decide +kernel
theorem dX3_meaning_18 : decode cX3_meaning 18 = .ok (.iaload, 1) := by decide +kernel
theorem dX3_meaning_19 : decode cX3_meaning 19 = .ok (.invokestatic 13, 3) := by decide +kernel
theorem dX3_meaning_22 : decode cX3_meaning 22 = .ok (.ifCond .eq 10, 3) := by decide +kernel
theorem dX3_meaning_25 : decode cX3_meaning 25 = .ok (.aload_n 0, 1) := by decide +kernel
theorem dX3_meaning_26 : decode cX3_meaning 26 = .ok (.iload_n 1, 1) := by decide +kernel
theorem dX3_meaning_27 : decode cX3_meaning 27 = .ok (.iload_n 2, 1) := by decide +kernel
theorem dX3_meaning_28 : decode cX3_meaning 28 = .ok (.invokestatic 20, 3) := by decide +kernel
theorem dX3_meaning_31 : decode cX3_meaning 31 = .ok (.ireturn, 1) := by decide +kernel
theorem dX3_meaning_32 : decode cX3_meaning 32 = .ok (.ldc 23, 2) := by decide +kernel
theorem dX3_meaning_34 : decode cX3_meaning 34 = .ok (.aload_n 0, 1) := by decide +kernel
theorem dX3_meaning_35 : decode cX3_meaning 35 = .ok (.iload_n 1, 1) := by decide +kernel
theorem dX3_meaning_36 : decode cX3_meaning 36 = .ok (.iaload, 1) := by decide +kernel
theorem dX3_meaning_37 : decode cX3_meaning 37 = .ok (.i2c, 1) := by decide +kernel
theorem dX3_meaning_38 : decode cX3_meaning 38 = .ok (.invokevirtual 25, 3) := by decide +kernel
theorem dX3_meaning_41 : decode cX3_meaning 41 = .ok (.ifCond .lt 13, 3) := by decide +kernel
theorem dX3_meaning_44 : decode cX3_meaning 44 = .ok (.sipush 2000, 3) := by decide +kernel
theorem dX3_meaning_47 : decode cX3_meaning 47 = .ok (.aload_n 0, 1) := by decide +kernel
theorem dX3_meaning_48 : decode cX3_meaning 48 = .ok (.iload_n 1, 1) := by decide +kernel
theorem dX3_meaning_49 : decode cX3_meaning 49 = .ok (.iaload, 1) := by decide +kernel
theorem dX3_meaning_50 : decode cX3_meaning 50 = .ok (.iadd, 1) := by decide +kernel
theorem dX3_meaning_51 : decode cX3_meaning 51 = .ok (.goto 6, 3) := by decide +kernel
theorem dX3_meaning_54 : decode cX3_meaning 54 = .ok (.sipush 3000, 3) := by decide +kernel
theorem dX3_meaning_57 : decode cX3_meaning 57 = .ok (.ireturn, 1) := by decide +kernel
theorem dX3_numberOf_0 : decode cX3_numberOf 0 = .ok (.iload_n 2, 1) := by decide +kernel
theorem dX3_numberOf_1 : decode cX3_numberOf 1 = .ok (.iload_n 1, 1) := by decide +kernel
theorem dX3_numberOf_2 : decode cX3_numberOf 2 = .ok (.isub, 1) := by decide +kernel
theorem dX3_numberOf_3 : decode cX3_numberOf 3 = .ok (.iconst 3, 1) := by decide +kernel
theorem dX3_numberOf_4 : decode cX3_numberOf 4 = .ok (.if_icmp .le 7, 3) := by decide +kernel
theorem dX3_numberOf_7 : decode cX3_numberOf 7 = .ok (.sipush 3000, 3) := by decide +kernel
theorem dX3_numberOf_10 : decode cX3_numberOf 10 = .ok (.ireturn, 1) := by decide +kernel
theorem dX3_numberOf_11 : decode cX3_numberOf 11 = .ok (.iconst 0, 1) := by decide +kernel
theorem dX3_numberOf_12 : decode cX3_numberOf 12 = .ok (.istore_n 3, 1) := by decide +kernel
theorem dX3_numberOf_13 : decode cX3_numberOf 13 = .ok (.iload_n 1, 1) := by decide +kernel
theorem dX3_numberOf_14 : decode cX3_numberOf 14 = .ok (.istore 4, 2) := by decide +kernel
theorem dX3_numberOf_16 : decode cX3_numberOf 16 = .ok (.iload 4, 2) := by decide +kernel
theorem dX3_numberOf_18 : decode cX3_numberOf 18 = .ok (.iload_n 2, 1) := by decide +kernel
theorem dX3_numberOf_19 : decode cX3_numberOf 19 = .ok (.if_icmp .ge 22, 3) := by decide +kernel
theorem dX3_numberOf_22 : decode cX3_numberOf 22 = .ok (.iload_n 3, 1) := by decide +kernel
theorem dX3_numberOf_23 : decode cX3_numberOf 23 = .ok (.bipush 10, 2) := by decide +kernel
theorem dX3_numberOf_25 : decode cX3_numberOf 25 = .ok (.imul, 1) := by decide +kernel
theorem dX3_numberOf_26 : decode cX3_numberOf 26 = .ok (.aload_n 0, 1) := by decide +kernel
theorem dX3_numberOf_27 : decode cX3_numberOf 27 = .ok (.iload 4, 2) := by decide +kernel
theorem dX3_numberOf_29 : decode cX3_numberOf 29 = .ok (.iaload, 1) := by decide +kernel
theorem dX3_numberOf_30 : decode cX3_numberOf 30 = .ok (.iadd, 1) := by decide +kernel
theorem dX3_numberOf_31 : decode cX3_numberOf 31 = .ok (.bipush 48, 2) := by decide +kernel
theorem dX3_numberOf_33 : decode cX3_numberOf 33 = .ok (.isub, 1) := by decide +kernel
theorem dX3_numberOf_34 : decode cX3_numberOf 34 = .ok (.istore_n 3, 1) := by decide +kernel
theorem dX3_numberOf_35 : decode cX3_numberOf 35 = .ok (.iinc 4 1, 3) := by decide +kernel
theorem dX3_numberOf_38 : decode cX3_numberOf 38 = .ok (.goto (-22), 3) := by decide +kernel
theorem dX3_numberOf_41 : decode cX3_numberOf 41 = .ok (.iload_n 3, 1) := by decide +kernel
theorem dX3_numberOf_42 : decode cX3_numberOf 42 = .ok (.ireturn, 1) := by decide +kernel
theorem dX3_wordOf_0 : decode cX3_wordOf 0 = .ok (.iconst 0, 1) := by decide +kernel
theorem dX3_wordOf_1 : decode cX3_wordOf 1 = .ok (.istore_n 3, 1) := by decide +kernel
theorem dX3_wordOf_2 : decode cX3_wordOf 2 = .ok (.iload_n 3, 1) := by decide +kernel
theorem dX3_wordOf_3 : decode cX3_wordOf 3 = .ok (.bipush 17, 2) := by decide +kernel
theorem dX3_wordOf_5 : decode cX3_wordOf 5 = .ok (.if_icmp .ge 86, 3) := by decide +kernel
theorem dX3_wordOf_8 : decode cX3_wordOf 8 = .ok (.iload_n 2, 1) := by decide +kernel
theorem dX3_wordOf_9 : decode cX3_wordOf 9 = .ok (.iload_n 1, 1) := by decide +kernel
theorem dX3_wordOf_10 : decode cX3_wordOf 10 = .ok (.isub, 1) := by decide +kernel
theorem dX3_wordOf_11 : decode cX3_wordOf 11 = .ok (.bipush 7, 2) := by decide +kernel
theorem dX3_wordOf_13 : decode cX3_wordOf 13 = .ok (.if_icmp .ge 78, 3) := by decide +kernel
theorem dX3_wordOf_16 : decode cX3_wordOf 16 = .ok (.iconst 0, 1) := by decide +kernel
theorem dX3_wordOf_17 : decode cX3_wordOf 17 = .ok (.istore 4, 2) := by decide +kernel
theorem dX3_wordOf_19 : decode cX3_wordOf 19 = .ok (.iload 4, 2) := by decide +kernel
theorem dX3_wordOf_21 : decode cX3_wordOf 21 = .ok (.iload_n 2, 1) := by decide +kernel
theorem dX3_wordOf_22 : decode cX3_wordOf 22 = .ok (.iload_n 1, 1) := by decide +kernel
theorem dX3_wordOf_23 : decode cX3_wordOf 23 = .ok (.isub, 1) := by decide +kernel
theorem dX3_wordOf_24 : decode cX3_wordOf 24 = .ok (.if_icmp .ge 30, 3) := by decide +kernel
theorem dX3_wordOf_27 : decode cX3_wordOf 27 = .ok (.ldc 31, 2) := by decide +kernel
theorem dX3_wordOf_29 : decode cX3_wordOf 29 = .ok (.iload_n 3, 1) := by decide +kernel
theorem dX3_wordOf_30 : decode cX3_wordOf 30 = .ok (.bipush 7, 2) := by decide +kernel
theorem dX3_wordOf_32 : decode cX3_wordOf 32 = .ok (.imul, 1) := by decide +kernel
theorem dX3_wordOf_33 : decode cX3_wordOf 33 = .ok (.iload 4, 2) := by decide +kernel
theorem dX3_wordOf_35 : decode cX3_wordOf 35 = .ok (.iadd, 1) := by decide +kernel
theorem dX3_wordOf_36 : decode cX3_wordOf 36 = .ok (.invokevirtual 33, 3) := by decide +kernel
theorem dX3_wordOf_39 : decode cX3_wordOf 39 = .ok (.aload_n 0, 1) := by decide +kernel
theorem dX3_wordOf_40 : decode cX3_wordOf 40 = .ok (.iload_n 1, 1) := by decide +kernel
theorem dX3_wordOf_41 : decode cX3_wordOf 41 = .ok (.iload 4, 2) := by decide +kernel
theorem dX3_wordOf_43 : decode cX3_wordOf 43 = .ok (.iadd, 1) := by decide +kernel
theorem dX3_wordOf_44 : decode cX3_wordOf 44 = .ok (.iaload, 1) := by decide +kernel
theorem dX3_wordOf_45 : decode cX3_wordOf 45 = .ok (.if_icmp .ne 9, 3) := by decide +kernel
theorem dX3_wordOf_48 : decode cX3_wordOf 48 = .ok (.iinc 4 1, 3) := by decide +kernel
theorem dX3_wordOf_51 : decode cX3_wordOf 51 = .ok (.goto (-32), 3) := by decide +kernel
theorem dX3_wordOf_54 : decode cX3_wordOf 54 = .ok (.iload 4, 2) := by decide +kernel
theorem dX3_wordOf_56 : decode cX3_wordOf 56 = .ok (.iload_n 2, 1) := by decide +kernel
theorem dX3_wordOf_57 : decode cX3_wordOf 57 = .ok (.iload_n 1, 1) := by decide +kernel
theorem dX3_wordOf_58 : decode cX3_wordOf 58 = .ok (.isub, 1) := by decide +kernel
theorem dX3_wordOf_59 : decode cX3_wordOf 59 = .ok (.if_icmp .ne 26, 3) := by decide +kernel
theorem dX3_wordOf_62 : decode cX3_wordOf 62 = .ok (.ldc 31, 2) := by decide +kernel
theorem dX3_wordOf_64 : decode cX3_wordOf 64 = .ok (.iload_n 3, 1) := by decide +kernel
theorem dX3_wordOf_65 : decode cX3_wordOf 65 = .ok (.bipush 7, 2) := by decide +kernel
theorem dX3_wordOf_67 : decode cX3_wordOf 67 = .ok (.imul, 1) := by decide +kernel
theorem dX3_wordOf_68 : decode cX3_wordOf 68 = .ok (.iload 4, 2) := by decide +kernel
theorem dX3_wordOf_70 : decode cX3_wordOf 70 = .ok (.iadd, 1) := by decide +kernel
theorem dX3_wordOf_71 : decode cX3_wordOf 71 = .ok (.invokevirtual 33, 3) := by decide +kernel
theorem dX3_wordOf_74 : decode cX3_wordOf 74 = .ok (.bipush 32, 2) := by decide +kernel
theorem dX3_wordOf_76 : decode cX3_wordOf 76 = .ok (.if_icmp .ne 9, 3) := by decide +kernel
theorem dX3_wordOf_79 : decode cX3_wordOf 79 = .ok (.sipush 1000, 3) := by decide +kernel
theorem dX3_wordOf_82 : decode cX3_wordOf 82 = .ok (.iload_n 3, 1) := by decide +kernel
theorem dX3_wordOf_83 : decode cX3_wordOf 83 = .ok (.iadd, 1) := by decide +kernel
theorem dX3_wordOf_84 : decode cX3_wordOf 84 = .ok (.ireturn, 1) := by decide +kernel
theorem dX3_wordOf_85 : decode cX3_wordOf 85 = .ok (.iinc 3 1, 3) := by decide +kernel
theorem dX3_wordOf_88 : decode cX3_wordOf 88 = .ok (.goto (-86), 3) := by decide +kernel
theorem dX3_wordOf_91 : decode cX3_wordOf 91 = .ok (.sipush 1017, 3) := by decide +kernel
theorem dX3_wordOf_94 : decode cX3_wordOf 94 = .ok (.ireturn, 1) := by decide +kernel
theorem dX4_init_0 : decode cX4_init 0 = .ok (.aload_n 0, 1) := by decide +kernel
theorem dX4_init_1 : decode cX4_init 1 = .ok (.invokespecial 5, 3) := by decide +kernel
theorem dX4_init_4 : decode cX4_init 4 = .ok (.aload_n 0, 1) := by decide +kernel
theorem dX4_init_5 : decode cX4_init 5 = .ok (.sipush 864, 3) := by decide +kernel
theorem dX4_init_8 : decode cX4_init 8 = .ok (.newarray .int, 2) := by decide +kernel
theorem dX4_init_10 : decode cX4_init 10 = .ok (.putfield 11, 3) := by decide +kernel
theorem dX4_init_13 : decode cX4_init 13 = .ok (.aload_n 0, 1) := by decide +kernel
theorem dX4_init_14 : decode cX4_init 14 = .ok (.bipush 8, 2) := by decide +kernel
theorem dX4_init_16 : decode cX4_init 16 = .ok (.newarray .int, 2) := by decide +kernel
theorem dX4_init_18 : decode cX4_init 18 = .ok (.putfield 15, 3) := by decide +kernel
theorem dX4_init_21 : decode cX4_init 21 = .ok (.aload_n 0, 1) := by decide +kernel
theorem dX4_init_22 : decode cX4_init 22 = .ok (.bipush 8, 2) := by decide +kernel
theorem dX4_init_24 : decode cX4_init 24 = .ok (.newarray .int, 2) := by decide +kernel
theorem dX4_init_26 : decode cX4_init 26 = .ok (.putfield 18, 3) := by decide +kernel
theorem dX4_init_29 : decode cX4_init 29 = .ok (.aload_n 0, 1) := by decide +kernel
theorem dX4_init_30 : decode cX4_init 30 = .ok (.bipush 8, 2) := by decide +kernel
theorem dX4_init_32 : decode cX4_init 32 = .ok (.newarray .int, 2) := by decide +kernel
theorem dX4_init_34 : decode cX4_init 34 = .ok (.putfield 23, 3) := by decide +kernel
theorem dX4_init_37 : decode cX4_init 37 = .ok (.aload_n 0, 1) := by decide +kernel
theorem dX4_init_38 : decode cX4_init 38 = .ok (.bipush 64, 2) := by decide +kernel
theorem dX4_init_40 : decode cX4_init 40 = .ok (.newarray .int, 2) := by decide +kernel
theorem dX4_init_42 : decode cX4_init 42 = .ok (.putfield 26, 3) := by decide +kernel
theorem dX4_init_45 : decode cX4_init 45 = .ok (.aload_n 0, 1) := by decide +kernel
theorem dX4_init_46 : decode cX4_init 46 = .ok (.iconst 0, 1) := by decide +kernel
theorem dX4_init_47 : decode cX4_init 47 = .ok (.putfield 29, 3) := by decide +kernel
theorem dX4_init_50 : decode cX4_init 50 = .ok (.aload_n 0, 1) := by decide +kernel
theorem dX4_init_51 : decode cX4_init 51 = .ok (.aload_n 1, 1) := by decide +kernel
theorem dX4_init_52 : decode cX4_init 52 = .ok (.putfield 33, 3) := by decide +kernel
theorem dX4_init_55 : decode cX4_init 55 = .ok (.return_, 1) := by decide +kernel
theorem dX4_forget_0 : decode cX4_forget 0 = .ok (.aload_n 0, 1) := by decide +kernel
theorem dX4_forget_1 : decode cX4_forget 1 = .ok (.getfield 15, 3) := by decide +kernel
theorem dX4_forget_4 : decode cX4_forget 4 = .ok (.iconst 0, 1) := by decide +kernel
theorem dX4_forget_5 : decode cX4_forget 5 = .ok (.invokestatic 37, 3) := by decide +kernel
theorem dX4_forget_8 : decode cX4_forget 8 = .ok (.return_, 1) := by decide +kernel
theorem dX4_tune_0 : decode cX4_tune 0 = .ok (.aload_n 0, 1) := by decide +kernel
theorem dX4_tune_1 : decode cX4_tune 1 = .ok (.aload_n 1, 1) := by decide +kernel
theorem dX4_tune_2 : decode cX4_tune 2 = .ok (.putfield 33, 3) := by decide +kernel
theorem dX4_tune_5 : decode cX4_tune 5 = .ok (.aload_n 0, 1) := by decide +kernel
theorem dX4_tune_6 : decode cX4_tune 6 = .ok (.aload_n 2, 1) := by decide +kernel
theorem dX4_tune_7 : decode cX4_tune 7 = .ok (.getfield 43, 3) := by decide +kernel
theorem dX4_tune_10 : decode cX4_tune 10 = .ok (.putfield 29, 3) := by decide +kernel
theorem dX4_tune_13 : decode cX4_tune 13 = .ok (.iconst 0, 1) := by decide +kernel
theorem dX4_tune_14 : decode cX4_tune 14 = .ok (.istore_n 3, 1) := by decide +kernel
theorem dX4_tune_15 : decode cX4_tune 15 = .ok (.iload_n 3, 1) := by decide +kernel
theorem dX4_tune_16 : decode cX4_tune 16 = .ok (.aload_n 0, 1) := by decide +kernel
theorem dX4_tune_17 : decode cX4_tune 17 = .ok (.getfield 29, 3) := by decide +kernel
theorem dX4_tune_20 : decode cX4_tune 20 = .ok (.if_icmp .ge 104, 3) := by decide +kernel
theorem dX4_tune_23 : decode cX4_tune 23 = .ok (.aload_n 0, 1) := by decide +kernel
theorem dX4_tune_24 : decode cX4_tune 24 = .ok (.getfield 15, 3) := by decide +kernel
theorem dX4_tune_27 : decode cX4_tune 27 = .ok (.iload_n 3, 1) := by decide +kernel
theorem dX4_tune_28 : decode cX4_tune 28 = .ok (.iaload, 1) := by decide +kernel
theorem dX4_tune_29 : decode cX4_tune 29 = .ok (.aload_n 2, 1) := by decide +kernel
theorem dX4_tune_30 : decode cX4_tune 30 = .ok (.getfield 46, 3) := by decide +kernel
theorem dX4_tune_33 : decode cX4_tune 33 = .ok (.iload_n 3, 1) := by decide +kernel
theorem dX4_tune_34 : decode cX4_tune 34 = .ok (.iaload, 1) := by decide +kernel
theorem dX4_tune_35 : decode cX4_tune 35 = .ok (.if_icmp .ne 18, 3) := by decide +kernel
theorem dX4_tune_38 : decode cX4_tune 38 = .ok (.aload_n 0, 1) := by decide +kernel
theorem dX4_tune_39 : decode cX4_tune 39 = .ok (.getfield 18, 3) := by decide +kernel
theorem dX4_tune_42 : decode cX4_tune 42 = .ok (.iload_n 3, 1) := by decide +kernel
theorem dX4_tune_43 : decode cX4_tune 43 = .ok (.iaload, 1) := by decide +kernel
theorem dX4_tune_44 : decode cX4_tune 44 = .ok (.aload_n 2, 1) := by decide +kernel
theorem dX4_tune_45 : decode cX4_tune 45 = .ok (.getfield 47, 3) := by decide +kernel
theorem dX4_tune_48 : decode cX4_tune 48 = .ok (.iload_n 3, 1) := by decide +kernel
theorem dX4_tune_49 : decode cX4_tune 49 = .ok (.iaload, 1) := by decide +kernel
theorem dX4_tune_50 : decode cX4_tune 50 = .ok (.if_icmp .eq 68, 3) := by decide +kernel
theorem dX4_tune_53 : decode cX4_tune 53 = .ok (.aload_n 0, 1) := by decide +kernel
theorem dX4_tune_54 : decode cX4_tune 54 = .ok (.getfield 15, 3) := by decide +kernel
theorem dX4_tune_57 : decode cX4_tune 57 = .ok (.iload_n 3, 1) := by decide +kernel
theorem dX4_tune_58 : decode cX4_tune 58 = .ok (.aload_n 2, 1) := by decide +kernel
theorem dX4_tune_59 : decode cX4_tune 59 = .ok (.getfield 46, 3) := by decide +kernel
theorem dX4_tune_62 : decode cX4_tune 62 = .ok (.iload_n 3, 1) := by decide +kernel
theorem dX4_tune_63 : decode cX4_tune 63 = .ok (.iaload, 1) := by decide +kernel
theorem dX4_tune_64 : decode cX4_tune 64 = .ok (.iastore, 1) := by decide +kernel
theorem dX4_tune_65 : decode cX4_tune 65 = .ok (.aload_n 0, 1) := by decide +kernel
theorem dX4_tune_66 : decode cX4_tune 66 = .ok (.getfield 18, 3) := by decide +kernel
theorem dX4_tune_69 : decode cX4_tune 69 = .ok (.iload_n 3, 1) := by decide +kernel
theorem dX4_tune_70 : decode cX4_tune 70 = .ok (.aload_n 2, 1) := by decide +kernel
theorem dX4_tune_71 : decode cX4_tune 71 = .ok (.getfield 47, 3) := by decide +kernel
theorem dX4_tune_74 : decode cX4_tune 74 = .ok (.iload_n 3, 1) := by decide +kernel
theorem dX4_tune_75 : decode cX4_tune 75 = .ok (.iaload, 1) := by decide +kernel
theorem dX4_tune_76 : decode cX4_tune 76 = .ok (.iastore, 1) := by decide +kernel
theorem dX4_tune_77 : decode cX4_tune 77 = .ok (.iload_n 3, 1) := by decide +kernel
theorem dX4_tune_78 : decode cX4_tune 78 = .ok (.bipush 108, 2) := by decide +kernel
theorem dX4_tune_80 : decode cX4_tune 80 = .ok (.imul, 1) := by decide +kernel
theorem dX4_tune_81 : decode cX4_tune 81 = .ok (.istore 4, 2) := by decide +kernel
theorem dX4_tune_83 : decode cX4_tune 83 = .ok (.iload 4, 2) := by decide +kernel
theorem dX4_tune_85 : decode cX4_tune 85 = .ok (.iload_n 3, 1) := by decide +kernel
theorem dX4_tune_86 : decode cX4_tune 86 = .ok (.iconst 1, 1) := by decide +kernel
theorem dX4_tune_87 : decode cX4_tune 87 = .ok (.iadd, 1) := by decide +kernel
theorem dX4_tune_88 : decode cX4_tune 88 = .ok (.bipush 108, 2) := by decide +kernel
theorem dX4_tune_90 : decode cX4_tune 90 = .ok (.imul, 1) := by decide +kernel
theorem dX4_tune_91 : decode cX4_tune 91 = .ok (.if_icmp .ge 27, 3) := by decide +kernel
theorem dX4_tune_94 : decode cX4_tune 94 = .ok (.iload 4, 2) := by decide +kernel
theorem dX4_tune_96 : decode cX4_tune 96 = .ok (.aload_n 0, 1) := by decide +kernel
theorem dX4_tune_97 : decode cX4_tune 97 = .ok (.getfield 11, 3) := by decide +kernel
theorem dX4_tune_100 : decode cX4_tune 100 = .ok (.arraylength, 1) := by decide +kernel
theorem dX4_tune_101 : decode cX4_tune 101 = .ok (.if_icmp .ge 17, 3) := by decide +kernel
theorem dX4_tune_104 : decode cX4_tune 104 = .ok (.aload_n 0, 1) := by decide +kernel
theorem dX4_tune_105 : decode cX4_tune 105 = .ok (.getfield 11, 3) := by decide +kernel
theorem dX4_tune_108 : decode cX4_tune 108 = .ok (.iload 4, 2) := by decide +kernel
theorem dX4_tune_110 : decode cX4_tune 110 = .ok (.iconst (-1), 1) := by decide +kernel
theorem dX4_tune_111 : decode cX4_tune 111 = .ok (.iastore, 1) := by decide +kernel
theorem dX4_tune_112 : decode cX4_tune 112 = .ok (.iinc 4 1, 3) := by decide +kernel
theorem dX4_tune_115 : decode cX4_tune 115 = .ok (.goto (-32), 3) := by decide +kernel
theorem dX4_tune_118 : decode cX4_tune 118 = .ok (.iinc 3 1, 3) := by decide +kernel
theorem dX4_tune_121 : decode cX4_tune 121 = .ok (.goto (-106), 3) := by decide +kernel
theorem dX4_tune_124 : decode cX4_tune 124 = .ok (.return_, 1) := by decide +kernel
theorem dX4_choice_0 : decode cX4_choice 0 = .ok (.iconst (-1), 1) := by decide +kernel
theorem dX4_choice_1 : decode cX4_choice 1 = .ok (.istore 4, 2) := by decide +kernel
theorem dX4_choice_3 : decode cX4_choice 3 = .ok (.iconst 0, 1) := by decide +kernel
theorem dX4_choice_4 : decode cX4_choice 4 = .ok (.istore 5, 2) := by decide +kernel
theorem dX4_choice_6 : decode cX4_choice 6 = .ok (.iconst 1, 1) := by decide +kernel
theorem dX4_choice_7 : decode cX4_choice 7 = .ok (.aload_n 0, 1) := by decide +kernel
theorem dX4_choice_8 : decode cX4_choice 8 = .ok (.getfield 29, 3) := by decide +kernel
theorem dX4_choice_11 : decode cX4_choice 11 = .ok (.ishl, 1) := by decide +kernel
theorem dX4_choice_12 : decode cX4_choice 12 = .ok (.iconst 1, 1) := by decide +kernel
theorem dX4_choice_13 : decode cX4_choice 13 = .ok (.isub, 1) := by decide +kernel
theorem dX4_choice_14 : decode cX4_choice 14 = .ok (.iload_n 3, 1) := by decide +kernel
theorem dX4_choice_15 : decode cX4_choice 15 = .ok (.iconst (-1), 1) := by decide +kernel
theorem dX4_choice_16 : decode cX4_choice 16 = .ok (.ixor, 1) := by decide +kernel
theorem dX4_choice_17 : decode cX4_choice 17 = .ok (.iand, 1) := by decide +kernel
theorem dX4_choice_18 : decode cX4_choice 18 = .ok (.iload_n 2, 1) := by decide +kernel
theorem dX4_choice_19 : decode cX4_choice 19 = .ok (.iconst (-1), 1) := by decide +kernel
theorem dX4_choice_20 : decode cX4_choice 20 = .ok (.ixor, 1) := by decide +kernel
theorem dX4_choice_21 : decode cX4_choice 21 = .ok (.iand, 1) := by decide +kernel
theorem dX4_choice_22 : decode cX4_choice 22 = .ok (.ifCond .ne 6, 3) := by decide +kernel
theorem dX4_choice_25 : decode cX4_choice 25 = .ok (.iload 4, 2) := by decide +kernel
theorem dX4_choice_27 : decode cX4_choice 27 = .ok (.ireturn, 1) := by decide +kernel
theorem dX4_choice_28 : decode cX4_choice 28 = .ok (.iload_n 2, 1) := by decide +kernel
theorem dX4_choice_29 : decode cX4_choice 29 = .ok (.invokestatic 48, 3) := by decide +kernel
theorem dX4_choice_32 : decode cX4_choice 32 = .ok (.istore 6, 2) := by decide +kernel
theorem dX4_choice_34 : decode cX4_choice 34 = .ok (.iconst 0, 1) := by decide +kernel
theorem dX4_choice_35 : decode cX4_choice 35 = .ok (.istore 7, 2) := by decide +kernel
theorem dX4_choice_37 : decode cX4_choice 37 = .ok (.iload 7, 2) := by decide +kernel
theorem dX4_choice_39 : decode cX4_choice 39 = .ok (.aload_n 0, 1) := by decide +kernel
theorem dX4_choice_40 : decode cX4_choice 40 = .ok (.getfield 29, 3) := by decide +kernel
theorem dX4_choice_43 : decode cX4_choice 43 = .ok (.if_icmp .ge 129, 3) := by decide +kernel
theorem dX4_choice_46 : decode cX4_choice 46 = .ok (.iload_n 3, 1) := by decide +kernel
theorem dX4_choice_47 : decode cX4_choice 47 = .ok (.iload 7, 2) := by decide +kernel
theorem dX4_choice_49 : decode cX4_choice 49 = .ok (.ishr, 1) := by decide +kernel
theorem dX4_choice_50 : decode cX4_choice 50 = .ok (.iconst 1, 1) := by decide +kernel
theorem dX4_choice_51 : decode cX4_choice 51 = .ok (.iand, 1) := by decide +kernel
theorem dX4_choice_52 : decode cX4_choice 52 = .ok (.ifCond .ne 114, 3) := by decide +kernel
theorem dX4_choice_55 : decode cX4_choice 55 = .ok (.iload 7, 2) := by decide +kernel
theorem dX4_choice_57 : decode cX4_choice 57 = .ok (.bipush 108, 2) := by decide +kernel
theorem dX4_choice_59 : decode cX4_choice 59 = .ok (.imul, 1) := by decide +kernel
theorem dX4_choice_60 : decode cX4_choice 60 = .ok (.iload_n 1, 1) := by decide +kernel
theorem dX4_choice_61 : decode cX4_choice 61 = .ok (.bipush 9, 2) := by decide +kernel
theorem dX4_choice_63 : decode cX4_choice 63 = .ok (.imul, 1) := by decide +kernel
theorem dX4_choice_64 : decode cX4_choice 64 = .ok (.iload 6, 2) := by decide +kernel
theorem dX4_choice_66 : decode cX4_choice 66 = .ok (.iadd, 1) := by decide +kernel
theorem dX4_choice_67 : decode cX4_choice 67 = .ok (.iconst 2, 1) := by decide +kernel
theorem dX4_choice_68 : decode cX4_choice 68 = .ok (.imul, 1) := by decide +kernel
theorem dX4_choice_69 : decode cX4_choice 69 = .ok (.iadd, 1) := by decide +kernel
theorem dX4_choice_70 : decode cX4_choice 70 = .ok (.iload_n 2, 1) := by decide +kernel
theorem dX4_choice_71 : decode cX4_choice 71 = .ok (.iload 7, 2) := by decide +kernel
theorem dX4_choice_73 : decode cX4_choice 73 = .ok (.ishr, 1) := by decide +kernel
theorem dX4_choice_74 : decode cX4_choice 74 = .ok (.iconst 1, 1) := by decide +kernel
theorem dX4_choice_75 : decode cX4_choice 75 = .ok (.iand, 1) := by decide +kernel
theorem dX4_choice_76 : decode cX4_choice 76 = .ok (.iadd, 1) := by decide +kernel
theorem dX4_choice_77 : decode cX4_choice 77 = .ok (.istore 8, 2) := by decide +kernel
theorem dX4_choice_79 : decode cX4_choice 79 = .ok (.iload 8, 2) := by decide +kernel
theorem dX4_choice_81 : decode cX4_choice 81 = .ok (.ifCond .lt 23, 3) := by decide +kernel
theorem dX4_choice_84 : decode cX4_choice 84 = .ok (.iload 8, 2) := by decide +kernel
theorem dX4_choice_86 : decode cX4_choice 86 = .ok (.aload_n 0, 1) := by decide +kernel
theorem dX4_choice_87 : decode cX4_choice 87 = .ok (.getfield 11, 3) := by decide +kernel
theorem dX4_choice_90 : decode cX4_choice 90 = .ok (.arraylength, 1) := by decide +kernel
theorem dX4_choice_91 : decode cX4_choice 91 = .ok (.if_icmp .ge 13, 3) := by decide +kernel
theorem dX4_choice_94 : decode cX4_choice 94 = .ok (.aload_n 0, 1) := by decide +kernel
theorem dX4_choice_95 : decode cX4_choice 95 = .ok (.getfield 11, 3) := by decide +kernel
theorem dX4_choice_98 : decode cX4_choice 98 = .ok (.iload 8, 2) := by decide +kernel
theorem dX4_choice_100 : decode cX4_choice 100 = .ok (.iaload, 1) := by decide +kernel
theorem dX4_choice_101 : decode cX4_choice 101 = .ok (.goto 4, 3) := by decide +kernel
theorem dX4_choice_104 : decode cX4_choice 104 = .ok (.iconst 0, 1) := by decide +kernel
theorem dX4_choice_105 : decode cX4_choice 105 = .ok (.istore 9, 2) := by decide +kernel
theorem dX4_choice_107 : decode cX4_choice 107 = .ok (.iload 9, 2) := by decide +kernel
theorem dX4_choice_109 : decode cX4_choice 109 = .ok (.iconst (-1), 1) := by decide +kernel
theorem dX4_choice_110 : decode cX4_choice 110 = .ok (.if_icmp .ne 41, 3) := by decide +kernel
theorem dX4_choice_113 : decode cX4_choice 113 = .ok (.aload_n 0, 1) := by decide +kernel
theorem dX4_choice_114 : decode cX4_choice 114 = .ok (.iload_n 1, 1) := by decide +kernel
theorem dX4_choice_115 : decode cX4_choice 115 = .ok (.iload 7, 2) := by decide +kernel
theorem dX4_choice_117 : decode cX4_choice 117 = .ok (.iload_n 2, 1) := by decide +kernel
theorem dX4_choice_118 : decode cX4_choice 118 = .ok (.invokevirtual 54, 3) := by decide +kernel
theorem dX4_choice_121 : decode cX4_choice 121 = .ok (.ifCond .eq 18, 3) := by decide +kernel
theorem dX4_choice_124 : decode cX4_choice 124 = .ok (.iconst 0, 1) := by decide +kernel
theorem dX4_choice_125 : decode cX4_choice 125 = .ok (.aload_n 0, 1) := by decide +kernel
theorem dX4_choice_126 : decode cX4_choice 126 = .ok (.iload_n 1, 1) := by decide +kernel
theorem dX4_choice_127 : decode cX4_choice 127 = .ok (.iload 7, 2) := by decide +kernel
theorem dX4_choice_129 : decode cX4_choice 129 = .ok (.iload_n 2, 1) := by decide +kernel
theorem dX4_choice_130 : decode cX4_choice 130 = .ok (.invokevirtual 58, 3) := by decide +kernel
theorem dX4_choice_133 : decode cX4_choice 133 = .ok (.invokestatic 62, 3) := by decide +kernel
theorem dX4_choice_136 : decode cX4_choice 136 = .ok (.goto 4, 3) := by decide +kernel
theorem dX4_choice_139 : decode cX4_choice 139 = .ok (.iconst 0, 1) := by decide +kernel
theorem dX4_choice_140 : decode cX4_choice 140 = .ok (.istore 9, 2) := by decide +kernel
theorem dX4_choice_142 : decode cX4_choice 142 = .ok (.aload_n 0, 1) := by decide +kernel
theorem dX4_choice_143 : decode cX4_choice 143 = .ok (.getfield 11, 3) := by decide +kernel
theorem dX4_choice_146 : decode cX4_choice 146 = .ok (.iload 8, 2) := by decide +kernel
theorem dX4_choice_148 : decode cX4_choice 148 = .ok (.iload 9, 2) := by decide +kernel
theorem dX4_choice_150 : decode cX4_choice 150 = .ok (.iastore, 1) := by decide +kernel
theorem dX4_choice_151 : decode cX4_choice 151 = .ok (.iload 9, 2) := by decide +kernel
theorem dX4_choice_153 : decode cX4_choice 153 = .ok (.iload 5, 2) := by decide +kernel
theorem dX4_choice_155 : decode cX4_choice 155 = .ok (.if_icmp .le 11, 3) := by decide +kernel
theorem dX4_choice_158 : decode cX4_choice 158 = .ok (.iload 9, 2) := by decide +kernel
theorem dX4_choice_160 : decode cX4_choice 160 = .ok (.istore 5, 2) := by decide +kernel
theorem dX4_choice_162 : decode cX4_choice 162 = .ok (.iload 7, 2) := by decide +kernel
theorem dX4_choice_164 : decode cX4_choice 164 = .ok (.istore 4, 2) := by decide +kernel
theorem dX4_choice_166 : decode cX4_choice 166 = .ok (.iinc 7 1, 3) := by decide +kernel
theorem dX4_choice_169 : decode cX4_choice 169 = .ok (.goto (-132), 3) := by decide +kernel
theorem dX4_choice_172 : decode cX4_choice 172 = .ok (.iload 4, 2) := by decide +kernel
theorem dX4_choice_174 : decode cX4_choice 174 = .ok (.ireturn, 1) := by decide +kernel
theorem dX4_allowed_0 : decode cX4_allowed 0 = .ok (.iconst 0, 1) := by decide +kernel
theorem dX4_allowed_1 : decode cX4_allowed 1 = .ok (.istore 4, 2) := by decide +kernel
theorem dX4_allowed_3 : decode cX4_allowed 3 = .ok (.iconst 0, 1) := by decide +kernel
theorem dX4_allowed_4 : decode cX4_allowed 4 = .ok (.istore 5, 2) := by decide +kernel
theorem dX4_allowed_6 : decode cX4_allowed 6 = .ok (.iload 5, 2) := by decide +kernel
theorem dX4_allowed_8 : decode cX4_allowed 8 = .ok (.aload_n 0, 1) := by decide +kernel
theorem dX4_allowed_9 : decode cX4_allowed 9 = .ok (.getfield 29, 3) := by decide +kernel
theorem dX4_allowed_12 : decode cX4_allowed 12 = .ok (.if_icmp .ge 38, 3) := by decide +kernel
theorem dX4_allowed_15 : decode cX4_allowed 15 = .ok (.iload_n 3, 1) := by decide +kernel
theorem dX4_allowed_16 : decode cX4_allowed 16 = .ok (.iload 5, 2) := by decide +kernel
theorem dX4_allowed_18 : decode cX4_allowed 18 = .ok (.ishr, 1) := by decide +kernel
theorem dX4_allowed_19 : decode cX4_allowed 19 = .ok (.iconst 1, 1) := by decide +kernel
theorem dX4_allowed_20 : decode cX4_allowed 20 = .ok (.iand, 1) := by decide +kernel
theorem dX4_allowed_21 : decode cX4_allowed 21 = .ok (.ifCond .ne 23, 3) := by decide +kernel
theorem dX4_allowed_24 : decode cX4_allowed 24 = .ok (.aload_n 0, 1) := by decide +kernel
theorem dX4_allowed_25 : decode cX4_allowed 25 = .ok (.iload_n 1, 1) := by decide +kernel
theorem dX4_allowed_26 : decode cX4_allowed 26 = .ok (.iload 5, 2) := by decide +kernel
theorem dX4_allowed_28 : decode cX4_allowed 28 = .ok (.iload_n 2, 1) := by decide +kernel
theorem dX4_allowed_29 : decode cX4_allowed 29 = .ok (.invokevirtual 54, 3) := by decide +kernel
theorem dX4_allowed_32 : decode cX4_allowed 32 = .ok (.ifCond .eq 12, 3) := by decide +kernel
theorem dX4_allowed_35 : decode cX4_allowed 35 = .ok (.iload 4, 2) := by decide +kernel
theorem dX4_allowed_37 : decode cX4_allowed 37 = .ok (.iconst 1, 1) := by decide +kernel
theorem dX4_allowed_38 : decode cX4_allowed 38 = .ok (.iload 5, 2) := by decide +kernel
theorem dX4_allowed_40 : decode cX4_allowed 40 = .ok (.ishl, 1) := by decide +kernel
theorem dX4_allowed_41 : decode cX4_allowed 41 = .ok (.ior, 1) := by decide +kernel
theorem dX4_allowed_42 : decode cX4_allowed 42 = .ok (.istore 4, 2) := by decide +kernel
theorem dX4_allowed_44 : decode cX4_allowed 44 = .ok (.iinc 5 1, 3) := by decide +kernel
theorem dX4_allowed_47 : decode cX4_allowed 47 = .ok (.goto (-41), 3) := by decide +kernel
theorem dX4_allowed_50 : decode cX4_allowed 50 = .ok (.iload 4, 2) := by decide +kernel
theorem dX4_allowed_52 : decode cX4_allowed 52 = .ok (.ireturn, 1) := by decide +kernel
theorem dX4_lets_0 : decode cX4_lets 0 = .ok (.aload_n 0, 1) := by decide +kernel
theorem dX4_lets_1 : decode cX4_lets 1 = .ok (.getfield 15, 3) := by decide +kernel
theorem dX4_lets_4 : decode cX4_lets 4 = .ok (.iload_n 2, 1) := by decide +kernel
theorem dX4_lets_5 : decode cX4_lets 5 = .ok (.iaload, 1) := by decide +kernel
theorem dX4_lets_6 : decode cX4_lets 6 = .ok (.aload_n 0, 1) := by decide +kernel
theorem dX4_lets_7 : decode cX4_lets 7 = .ok (.getfield 33, 3) := by decide +kernel
theorem dX4_lets_10 : decode cX4_lets 10 = .ok (.getfield 68, 3) := by decide +kernel
theorem dX4_lets_13 : decode cX4_lets 13 = .ok (.iload_n 1, 1) := by decide +kernel
theorem dX4_lets_14 : decode cX4_lets 14 = .ok (.iaload, 1) := by decide +kernel
theorem dX4_lets_15 : decode cX4_lets 15 = .ok (.if_icmp .le 5, 3) := by decide +kernel
theorem dX4_lets_18 : decode cX4_lets 18 = .ok (.iconst 0, 1) := by decide +kernel
theorem dX4_lets_19 : decode cX4_lets 19 = .ok (.ireturn, 1) := by decide +kernel
theorem dX4_lets_20 : decode cX4_lets 20 = .ok (.aload_n 0, 1) := by decide +kernel
theorem dX4_lets_21 : decode cX4_lets 21 = .ok (.getfield 33, 3) := by decide +kernel
theorem dX4_lets_24 : decode cX4_lets 24 = .ok (.getfield 73, 3) := by decide +kernel
theorem dX4_lets_27 : decode cX4_lets 27 = .ok (.aload_n 0, 1) := by decide +kernel
theorem dX4_lets_28 : decode cX4_lets 28 = .ok (.getfield 33, 3) := by decide +kernel
theorem dX4_lets_31 : decode cX4_lets 31 = .ok (.getfield 76, 3) := by decide +kernel
theorem dX4_lets_34 : decode cX4_lets 34 = .ok (.if_icmp .ne 5, 3) := by decide +kernel
theorem dX4_lets_37 : decode cX4_lets 37 = .ok (.iconst 1, 1) := by decide +kernel
theorem dX4_lets_38 : decode cX4_lets 38 = .ok (.ireturn, 1) := by decide +kernel
theorem dX4_lets_39 : decode cX4_lets 39 = .ok (.aload_n 0, 1) := by decide +kernel
theorem dX4_lets_40 : decode cX4_lets 40 = .ok (.iload_n 1, 1) := by decide +kernel
theorem dX4_lets_41 : decode cX4_lets 41 = .ok (.iload_n 2, 1) := by decide +kernel
theorem dX4_lets_42 : decode cX4_lets 42 = .ok (.iload_n 3, 1) := by decide +kernel
theorem dX4_lets_43 : decode cX4_lets 43 = .ok (.invokevirtual 79, 3) := by decide +kernel
theorem dX4_lets_46 : decode cX4_lets 46 = .ok (.aload_n 0, 1) := by decide +kernel
theorem dX4_lets_47 : decode cX4_lets 47 = .ok (.aload_n 0, 1) := by decide +kernel
theorem dX4_lets_48 : decode cX4_lets 48 = .ok (.getfield 33, 3) := by decide +kernel
theorem dX4_lets_51 : decode cX4_lets 51 = .ok (.getfield 73, 3) := by decide +kernel
theorem dX4_lets_54 : decode cX4_lets 54 = .ok (.aload_n 0, 1) := by decide +kernel
theorem dX4_lets_55 : decode cX4_lets 55 = .ok (.getfield 33, 3) := by decide +kernel
theorem dX4_lets_58 : decode cX4_lets 58 = .ok (.getfield 76, 3) := by decide +kernel
theorem dX4_lets_61 : decode cX4_lets 61 = .ok (.invokevirtual 83, 3) := by decide +kernel
theorem dX4_lets_64 : decode cX4_lets 64 = .ok (.ifCond .eq 7, 3) := by decide +kernel
theorem dX4_lets_67 : decode cX4_lets 67 = .ok (.iconst 1, 1) := by decide +kernel
theorem dX4_lets_68 : decode cX4_lets 68 = .ok (.goto 4, 3) := by decide +kernel
theorem dX4_lets_71 : decode cX4_lets 71 = .ok (.iconst 0, 1) := by decide +kernel
theorem dX4_lets_72 : decode cX4_lets 72 = .ok (.ireturn, 1) := by decide +kernel
theorem dX4_wish_0 : decode cX4_wish 0 = .ok (.aload_n 0, 1) := by decide +kernel
theorem dX4_wish_1 : decode cX4_wish 1 = .ok (.getfield 33, 3) := by decide +kernel
theorem dX4_wish_4 : decode cX4_wish 4 = .ok (.getfield 86, 3) := by decide +kernel
theorem dX4_wish_7 : decode cX4_wish 7 = .ok (.aload_n 0, 1) := by decide +kernel
theorem dX4_wish_8 : decode cX4_wish 8 = .ok (.getfield 33, 3) := by decide +kernel
theorem dX4_wish_11 : decode cX4_wish 11 = .ok (.getfield 89, 3) := by decide +kernel
theorem dX4_wish_14 : decode cX4_wish 14 = .ok (.if_icmp .ne 20, 3) := by decide +kernel
theorem dX4_wish_17 : decode cX4_wish 17 = .ok (.aload_n 0, 1) := by decide +kernel
theorem dX4_wish_18 : decode cX4_wish 18 = .ok (.getfield 33, 3) := by decide +kernel
theorem dX4_wish_21 : decode cX4_wish 21 = .ok (.getfield 68, 3) := by decide +kernel
theorem dX4_wish_24 : decode cX4_wish 24 = .ok (.iload_n 1, 1) := by decide +kernel
theorem dX4_wish_25 : decode cX4_wish 25 = .ok (.iaload, 1) := by decide +kernel
theorem dX4_wish_26 : decode cX4_wish 26 = .ok (.aload_n 0, 1) := by decide +kernel
theorem dX4_wish_27 : decode cX4_wish 27 = .ok (.getfield 15, 3) := by decide +kernel
theorem dX4_wish_30 : decode cX4_wish 30 = .ok (.iload_n 2, 1) := by decide +kernel
theorem dX4_wish_31 : decode cX4_wish 31 = .ok (.iaload, 1) := by decide +kernel
theorem dX4_wish_32 : decode cX4_wish 32 = .ok (.isub, 1) := by decide +kernel
theorem dX4_wish_33 : decode cX4_wish 33 = .ok (.ireturn, 1) := by decide +kernel
theorem dX4_wish_34 : decode cX4_wish 34 = .ok (.aload_n 0, 1) := by decide +kernel
theorem dX4_wish_35 : decode cX4_wish 35 = .ok (.iload_n 1, 1) := by decide +kernel
theorem dX4_wish_36 : decode cX4_wish 36 = .ok (.iload_n 2, 1) := by decide +kernel
theorem dX4_wish_37 : decode cX4_wish 37 = .ok (.iload_n 3, 1) := by decide +kernel
theorem dX4_wish_38 : decode cX4_wish 38 = .ok (.invokevirtual 79, 3) := by decide +kernel
theorem dX4_wish_41 : decode cX4_wish 41 = .ok (.aload_n 0, 1) := by decide +kernel
theorem dX4_wish_42 : decode cX4_wish 42 = .ok (.aload_n 0, 1) := by decide +kernel
theorem dX4_wish_43 : decode cX4_wish 43 = .ok (.getfield 33, 3) := by decide +kernel
theorem dX4_wish_46 : decode cX4_wish 46 = .ok (.getfield 86, 3) := by decide +kernel
theorem dX4_wish_49 : decode cX4_wish 49 = .ok (.aload_n 0, 1) := by decide +kernel
theorem dX4_wish_50 : decode cX4_wish 50 = .ok (.getfield 33, 3) := by decide +kernel
theorem dX4_wish_53 : decode cX4_wish 53 = .ok (.getfield 89, 3) := by decide +kernel
theorem dX4_wish_56 : decode cX4_wish 56 = .ok (.invokevirtual 83, 3) := by decide +kernel
theorem dX4_wish_59 : decode cX4_wish 59 = .ok (.ireturn, 1) := by decide +kernel
theorem dX4_learn_0 : decode cX4_learn 0 = .ok (.aload_n 0, 1) := by decide +kernel
theorem dX4_learn_1 : decode cX4_learn 1 = .ok (.getfield 23, 3) := by decide +kernel
theorem dX4_learn_4 : decode cX4_learn 4 = .ok (.iconst 0, 1) := by decide +kernel
theorem dX4_learn_5 : decode cX4_learn 5 = .ok (.iload_n 1, 1) := by decide +kernel
theorem dX4_learn_6 : decode cX4_learn 6 = .ok (.iastore, 1) := by decide +kernel
theorem dX4_learn_7 : decode cX4_learn 7 = .ok (.aload_n 0, 1) := by decide +kernel
theorem dX4_learn_8 : decode cX4_learn 8 = .ok (.getfield 23, 3) := by decide +kernel
theorem dX4_learn_11 : decode cX4_learn 11 = .ok (.iconst 1, 1) := by decide +kernel
theorem dX4_learn_12 : decode cX4_learn 12 = .ok (.aload_n 0, 1) := by decide +kernel
theorem dX4_learn_13 : decode cX4_learn 13 = .ok (.getfield 33, 3) := by decide +kernel
theorem dX4_learn_16 : decode cX4_learn 16 = .ok (.getfield 68, 3) := by decide +kernel
theorem dX4_learn_19 : decode cX4_learn 19 = .ok (.iload_n 1, 1) := by decide +kernel
theorem dX4_learn_20 : decode cX4_learn 20 = .ok (.iaload, 1) := by decide +kernel
theorem dX4_learn_21 : decode cX4_learn 21 = .ok (.iastore, 1) := by decide +kernel
theorem dX4_learn_22 : decode cX4_learn 22 = .ok (.aload_n 0, 1) := by decide +kernel
theorem dX4_learn_23 : decode cX4_learn 23 = .ok (.getfield 23, 3) := by decide +kernel
theorem dX4_learn_26 : decode cX4_learn 26 = .ok (.iconst 2, 1) := by decide +kernel
theorem dX4_learn_27 : decode cX4_learn 27 = .ok (.aload_n 0, 1) := by decide +kernel
theorem dX4_learn_28 : decode cX4_learn 28 = .ok (.getfield 33, 3) := by decide +kernel
theorem dX4_learn_31 : decode cX4_learn 31 = .ok (.getfield 92, 3) := by decide +kernel
theorem dX4_learn_34 : decode cX4_learn 34 = .ok (.iload_n 1, 1) := by decide +kernel
theorem dX4_learn_35 : decode cX4_learn 35 = .ok (.iaload, 1) := by decide +kernel
theorem dX4_learn_36 : decode cX4_learn 36 = .ok (.iastore, 1) := by decide +kernel
theorem dX4_learn_37 : decode cX4_learn 37 = .ok (.aload_n 0, 1) := by decide +kernel
theorem dX4_learn_38 : decode cX4_learn 38 = .ok (.getfield 23, 3) := by decide +kernel
theorem dX4_learn_41 : decode cX4_learn 41 = .ok (.iconst 3, 1) := by decide +kernel
theorem dX4_learn_42 : decode cX4_learn 42 = .ok (.iload_n 2, 1) := by decide +kernel
theorem dX4_learn_43 : decode cX4_learn 43 = .ok (.iastore, 1) := by decide +kernel
theorem dX4_learn_44 : decode cX4_learn 44 = .ok (.aload_n 0, 1) := by decide +kernel
theorem dX4_learn_45 : decode cX4_learn 45 = .ok (.getfield 23, 3) := by decide +kernel
theorem dX4_learn_48 : decode cX4_learn 48 = .ok (.iconst 4, 1) := by decide +kernel
theorem dX4_learn_49 : decode cX4_learn 49 = .ok (.aload_n 0, 1) := by decide +kernel
theorem dX4_learn_50 : decode cX4_learn 50 = .ok (.getfield 15, 3) := by decide +kernel
theorem dX4_learn_53 : decode cX4_learn 53 = .ok (.iload_n 2, 1) := by decide +kernel
theorem dX4_learn_54 : decode cX4_learn 54 = .ok (.iaload, 1) := by decide +kernel
theorem dX4_learn_55 : decode cX4_learn 55 = .ok (.iastore, 1) := by decide +kernel
theorem dX4_learn_56 : decode cX4_learn 56 = .ok (.aload_n 0, 1) := by decide +kernel
theorem dX4_learn_57 : decode cX4_learn 57 = .ok (.getfield 23, 3) := by decide +kernel
theorem dX4_learn_60 : decode cX4_learn 60 = .ok (.iconst 5, 1) := by decide +kernel
theorem dX4_learn_61 : decode cX4_learn 61 = .ok (.aload_n 0, 1) := by decide +kernel
theorem dX4_learn_62 : decode cX4_learn 62 = .ok (.getfield 18, 3) := by decide +kernel
theorem dX4_learn_65 : decode cX4_learn 65 = .ok (.iload_n 2, 1) := by decide +kernel
theorem dX4_learn_66 : decode cX4_learn 66 = .ok (.iaload, 1) := by decide +kernel
theorem dX4_learn_67 : decode cX4_learn 67 = .ok (.iastore, 1) := by decide +kernel
theorem dX4_learn_68 : decode cX4_learn 68 = .ok (.aload_n 0, 1) := by decide +kernel
theorem dX4_learn_69 : decode cX4_learn 69 = .ok (.getfield 23, 3) := by decide +kernel
theorem dX4_learn_72 : decode cX4_learn 72 = .ok (.bipush 6, 2) := by decide +kernel
theorem dX4_learn_74 : decode cX4_learn 74 = .ok (.iload_n 3, 1) := by decide +kernel
theorem dX4_learn_75 : decode cX4_learn 75 = .ok (.invokestatic 48, 3) := by decide +kernel
theorem dX4_learn_78 : decode cX4_learn 78 = .ok (.iastore, 1) := by decide +kernel
theorem dX4_learn_79 : decode cX4_learn 79 = .ok (.aload_n 0, 1) := by decide +kernel
theorem dX4_learn_80 : decode cX4_learn 80 = .ok (.getfield 23, 3) := by decide +kernel
theorem dX4_learn_83 : decode cX4_learn 83 = .ok (.bipush 7, 2) := by decide +kernel
theorem dX4_learn_85 : decode cX4_learn 85 = .ok (.iload_n 3, 1) := by decide +kernel
theorem dX4_learn_86 : decode cX4_learn 86 = .ok (.iload_n 2, 1) := by decide +kernel
theorem dX4_learn_87 : decode cX4_learn 87 = .ok (.ishr, 1) := by decide +kernel
theorem dX4_learn_88 : decode cX4_learn 88 = .ok (.iconst 1, 1) := by decide +kernel
theorem dX4_learn_89 : decode cX4_learn 89 = .ok (.iand, 1) := by decide +kernel
theorem dX4_learn_90 : decode cX4_learn 90 = .ok (.iastore, 1) := by decide +kernel
theorem dX4_learn_91 : decode cX4_learn 91 = .ok (.return_, 1) := by decide +kernel
theorem dX4_reckon_0 : decode cX4_reckon 0 = .ok (.iconst 0, 1) := by decide +kernel
theorem dX4_reckon_1 : decode cX4_reckon 1 = .ok (.istore_n 3, 1) := by decide +kernel
theorem dX4_reckon_2 : decode cX4_reckon 2 = .ok (.iload_n 1, 1) := by decide +kernel
theorem dX4_reckon_3 : decode cX4_reckon 3 = .ok (.istore 4, 2) := by decide +kernel
theorem dX4_reckon_5 : decode cX4_reckon 5 = .ok (.iload 4, 2) := by decide +kernel
theorem dX4_reckon_7 : decode cX4_reckon 7 = .ok (.iload_n 2, 1) := by decide +kernel
theorem dX4_reckon_8 : decode cX4_reckon 8 = .ok (.if_icmp .ge 158, 3) := by decide +kernel
theorem dX4_reckon_11 : decode cX4_reckon 11 = .ok (.iload 4, 2) := by decide +kernel
theorem dX4_reckon_13 : decode cX4_reckon 13 = .ok (.aload_n 0, 1) := by decide +kernel
theorem dX4_reckon_14 : decode cX4_reckon 14 = .ok (.getfield 33, 3) := by decide +kernel
theorem dX4_reckon_17 : decode cX4_reckon 17 = .ok (.getfield 95, 3) := by decide +kernel
theorem dX4_reckon_20 : decode cX4_reckon 20 = .ok (.arraylength, 1) := by decide +kernel
theorem dX4_reckon_21 : decode cX4_reckon 21 = .ok (.if_icmp .ge 145, 3) := by decide +kernel
theorem dX4_reckon_24 : decode cX4_reckon 24 = .ok (.aload_n 0, 1) := by decide +kernel
theorem dX4_reckon_25 : decode cX4_reckon 25 = .ok (.getfield 33, 3) := by decide +kernel
theorem dX4_reckon_28 : decode cX4_reckon 28 = .ok (.getfield 95, 3) := by decide +kernel
theorem dX4_reckon_31 : decode cX4_reckon 31 = .ok (.iload 4, 2) := by decide +kernel
theorem dX4_reckon_33 : decode cX4_reckon 33 = .ok (.iaload, 1) := by decide +kernel
theorem dX4_reckon_34 : decode cX4_reckon 34 = .ok (.istore 5, 2) := by decide +kernel
theorem dX4_reckon_36 : decode cX4_reckon 36 = .ok (.iload 5, 2) := by decide +kernel
theorem dX4_reckon_38 : decode cX4_reckon 38 = .ok (.sipush 1008, 3) := by decide +kernel
theorem dX4_reckon_41 : decode cX4_reckon 41 = .ok (.if_icmp .ge 48, 3) := by decide +kernel
theorem dX4_reckon_44 : decode cX4_reckon 44 = .ok (.iload_n 3, 1) := by decide +kernel
theorem dX4_reckon_45 : decode cX4_reckon 45 = .ok (.aload_n 0, 1) := by decide +kernel
theorem dX4_reckon_46 : decode cX4_reckon 46 = .ok (.getfield 26, 3) := by decide +kernel
theorem dX4_reckon_49 : decode cX4_reckon 49 = .ok (.arraylength, 1) := by decide +kernel
theorem dX4_reckon_50 : decode cX4_reckon 50 = .ok (.if_icmp .ge 110, 3) := by decide +kernel
theorem dX4_reckon_53 : decode cX4_reckon 53 = .ok (.aload_n 0, 1) := by decide +kernel
theorem dX4_reckon_54 : decode cX4_reckon 54 = .ok (.getfield 26, 3) := by decide +kernel
theorem dX4_reckon_57 : decode cX4_reckon 57 = .ok (.iload_n 3, 1) := by decide +kernel
theorem dX4_reckon_58 : decode cX4_reckon 58 = .ok (.iload 5, 2) := by decide +kernel
theorem dX4_reckon_60 : decode cX4_reckon 60 = .ok (.sipush 1000, 3) := by decide +kernel
theorem dX4_reckon_63 : decode cX4_reckon 63 = .ok (.if_icmp .ge 8, 3) := by decide +kernel
theorem dX4_reckon_66 : decode cX4_reckon 66 = .ok (.iload 5, 2) := by decide +kernel
theorem dX4_reckon_68 : decode cX4_reckon 68 = .ok (.goto 14, 3) := by decide +kernel
theorem dX4_reckon_71 : decode cX4_reckon 71 = .ok (.aload_n 0, 1) := by decide +kernel
theorem dX4_reckon_72 : decode cX4_reckon 72 = .ok (.getfield 23, 3) := by decide +kernel
theorem dX4_reckon_75 : decode cX4_reckon 75 = .ok (.iload 5, 2) := by decide +kernel
theorem dX4_reckon_77 : decode cX4_reckon 77 = .ok (.sipush 1000, 3) := by decide +kernel
theorem dX4_reckon_80 : decode cX4_reckon 80 = .ok (.isub, 1) := by decide +kernel
theorem dX4_reckon_81 : decode cX4_reckon 81 = .ok (.iaload, 1) := by decide +kernel
theorem dX4_reckon_82 : decode cX4_reckon 82 = .ok (.iastore, 1) := by decide +kernel
theorem dX4_reckon_83 : decode cX4_reckon 83 = .ok (.iinc 3 1, 3) := by decide +kernel
theorem dX4_reckon_86 : decode cX4_reckon 86 = .ok (.goto 74, 3) := by decide +kernel
theorem dX4_reckon_89 : decode cX4_reckon 89 = .ok (.iload 5, 2) := by decide +kernel
theorem dX4_reckon_91 : decode cX4_reckon 91 = .ok (.sipush 1016, 3) := by decide +kernel
theorem dX4_reckon_94 : decode cX4_reckon 94 = .ok (.if_icmp .ne 29, 3) := by decide +kernel
theorem dX4_reckon_97 : decode cX4_reckon 97 = .ok (.iload_n 3, 1) := by decide +kernel
theorem dX4_reckon_98 : decode cX4_reckon 98 = .ok (.iconst 1, 1) := by decide +kernel
theorem dX4_reckon_99 : decode cX4_reckon 99 = .ok (.if_icmp .lt 61, 3) := by decide +kernel
theorem dX4_reckon_102 : decode cX4_reckon 102 = .ok (.aload_n 0, 1) := by decide +kernel
theorem dX4_reckon_103 : decode cX4_reckon 103 = .ok (.getfield 26, 3) := by decide +kernel
theorem dX4_reckon_106 : decode cX4_reckon 106 = .ok (.iload_n 3, 1) := by decide +kernel
theorem dX4_reckon_107 : decode cX4_reckon 107 = .ok (.iconst 1, 1) := by decide +kernel
theorem dX4_reckon_108 : decode cX4_reckon 108 = .ok (.isub, 1) := by decide +kernel
theorem dX4_reckon_109 : decode cX4_reckon 109 = .ok (.iconst 1, 1) := by decide +kernel
theorem dX4_reckon_110 : decode cX4_reckon 110 = .ok (.aload_n 0, 1) := by decide +kernel
theorem dX4_reckon_111 : decode cX4_reckon 111 = .ok (.getfield 26, 3) := by decide +kernel
theorem dX4_reckon_114 : decode cX4_reckon 114 = .ok (.iload_n 3, 1) := by decide +kernel
theorem dX4_reckon_115 : decode cX4_reckon 115 = .ok (.iconst 1, 1) := by decide +kernel
theorem dX4_reckon_116 : decode cX4_reckon 116 = .ok (.isub, 1) := by decide +kernel
theorem dX4_reckon_117 : decode cX4_reckon 117 = .ok (.iaload, 1) := by decide +kernel
theorem dX4_reckon_118 : decode cX4_reckon 118 = .ok (.isub, 1) := by decide +kernel
theorem dX4_reckon_119 : decode cX4_reckon 119 = .ok (.iastore, 1) := by decide +kernel
theorem dX4_reckon_120 : decode cX4_reckon 120 = .ok (.goto 40, 3) := by decide +kernel
theorem dX4_reckon_123 : decode cX4_reckon 123 = .ok (.iload_n 3, 1) := by decide +kernel
theorem dX4_reckon_124 : decode cX4_reckon 124 = .ok (.iconst 2, 1) := by decide +kernel
theorem dX4_reckon_125 : decode cX4_reckon 125 = .ok (.if_icmp .lt 35, 3) := by decide +kernel
theorem dX4_reckon_128 : decode cX4_reckon 128 = .ok (.iinc 3 (-1), 3) := by decide +kernel
theorem dX4_reckon_131 : decode cX4_reckon 131 = .ok (.aload_n 0, 1) := by decide +kernel
theorem dX4_reckon_132 : decode cX4_reckon 132 = .ok (.getfield 26, 3) := by decide +kernel
theorem dX4_reckon_135 : decode cX4_reckon 135 = .ok (.iload_n 3, 1) := by decide +kernel
theorem dX4_reckon_136 : decode cX4_reckon 136 = .ok (.iconst 1, 1) := by decide +kernel
theorem dX4_reckon_137 : decode cX4_reckon 137 = .ok (.isub, 1) := by decide +kernel
theorem dX4_reckon_138 : decode cX4_reckon 138 = .ok (.aload_n 0, 1) := by decide +kernel
theorem dX4_reckon_139 : decode cX4_reckon 139 = .ok (.getfield 26, 3) := by decide +kernel
theorem dX4_reckon_142 : decode cX4_reckon 142 = .ok (.iload_n 3, 1) := by decide +kernel
theorem dX4_reckon_143 : decode cX4_reckon 143 = .ok (.iconst 1, 1) := by decide +kernel
theorem dX4_reckon_144 : decode cX4_reckon 144 = .ok (.isub, 1) := by decide +kernel
theorem dX4_reckon_145 : decode cX4_reckon 145 = .ok (.iaload, 1) := by decide +kernel
theorem dX4_reckon_146 : decode cX4_reckon 146 = .ok (.i2l, 1) := by decide +kernel
theorem dX4_reckon_147 : decode cX4_reckon 147 = .ok (.iload 5, 2) := by decide +kernel
theorem dX4_reckon_149 : decode cX4_reckon 149 = .ok (.aload_n 0, 1) := by decide +kernel
theorem dX4_reckon_150 : decode cX4_reckon 150 = .ok (.getfield 26, 3) := by decide +kernel
theorem dX4_reckon_153 : decode cX4_reckon 153 = .ok (.iload_n 3, 1) := by decide +kernel
theorem dX4_reckon_154 : decode cX4_reckon 154 = .ok (.iaload, 1) := by decide +kernel
theorem dX4_reckon_155 : decode cX4_reckon 155 = .ok (.i2l, 1) := by decide +kernel
theorem dX4_reckon_156 : decode cX4_reckon 156 = .ok (.invokestatic 98, 3) := by decide +kernel
theorem dX4_reckon_159 : decode cX4_reckon 159 = .ok (.iastore, 1) := by decide +kernel
theorem dX4_reckon_160 : decode cX4_reckon 160 = .ok (.iinc 4 1, 3) := by decide +kernel
theorem dX4_reckon_163 : decode cX4_reckon 163 = .ok (.goto (-158), 3) := by decide +kernel
theorem dX4_reckon_166 : decode cX4_reckon 166 = .ok (.iload_n 3, 1) := by decide +kernel
theorem dX4_reckon_167 : decode cX4_reckon 167 = .ok (.ifCond .le 14, 3) := by decide +kernel
theorem dX4_reckon_170 : decode cX4_reckon 170 = .ok (.aload_n 0, 1) := by decide +kernel
theorem dX4_reckon_171 : decode cX4_reckon 171 = .ok (.getfield 26, 3) := by decide +kernel
theorem dX4_reckon_174 : decode cX4_reckon 174 = .ok (.iload_n 3, 1) := by decide +kernel
theorem dX4_reckon_175 : decode cX4_reckon 175 = .ok (.iconst 1, 1) := by decide +kernel
theorem dX4_reckon_176 : decode cX4_reckon 176 = .ok (.isub, 1) := by decide +kernel
theorem dX4_reckon_177 : decode cX4_reckon 177 = .ok (.iaload, 1) := by decide +kernel
theorem dX4_reckon_178 : decode cX4_reckon 178 = .ok (.goto 4, 3) := by decide +kernel
theorem dX4_reckon_181 : decode cX4_reckon 181 = .ok (.iconst 0, 1) := by decide +kernel
theorem dX4_reckon_182 : decode cX4_reckon 182 = .ok (.ireturn, 1) := by decide +kernel
theorem dX4_joined_0 : decode cX4_joined 0 = .ok (.iload_n 2, 1) := by decide +kernel
theorem dX4_joined_1 : decode cX4_joined 1 = .ok (.lookupswitch 132 #[(1015, 127), (2042, 83), (2043, 67), (2045, 75), (2060, 103), (2061, 91), (2062, 115)], 67) := by decide +kernel
theorem dX4_joined_68 : decode cX4_joined 68 = .ok (.lload_n 0, 1) := by decide +kernel
theorem dX4_joined_69 : decode cX4_joined 69 = .ok (.lload_n 3, 1) := by decide +kernel
theorem dX4_joined_70 : decode cX4_joined 70 = .ok (.ladd, 1) := by decide +kernel
theorem dX4_joined_71 : decode cX4_joined 71 = .ok (.lstore 5, 2) := by decide +kernel
theorem dX4_joined_73 : decode cX4_joined 73 = .ok (.goto 65, 3) := by decide +kernel
theorem dX4_joined_76 : decode cX4_joined 76 = .ok (.lload_n 0, 1) := by decide +kernel
theorem dX4_joined_77 : decode cX4_joined 77 = .ok (.lload_n 3, 1) := by decide +kernel
theorem dX4_joined_78 : decode cX4_joined 78 = .ok (.lsub, 1) := by decide +kernel
theorem dX4_joined_79 : decode cX4_joined 79 = .ok (.lstore 5, 2) := by decide +kernel
theorem dX4_joined_81 : decode cX4_joined 81 = .ok (.goto 57, 3) := by decide +kernel
theorem dX4_joined_84 : decode cX4_joined 84 = .ok (.lload_n 0, 1) := by decide +kernel
theorem dX4_joined_85 : decode cX4_joined 85 = .ok (.lload_n 3, 1) := by decide +kernel
theorem dX4_joined_86 : decode cX4_joined 86 = .ok (.lmul, 1) := by decide +kernel
theorem dX4_joined_87 : decode cX4_joined 87 = .ok (.lstore 5, 2) := by decide +kernel
theorem dX4_joined_89 : decode cX4_joined 89 = .ok (.goto 49, 3) := by decide +kernel
theorem dX4_joined_92 : decode cX4_joined 92 = .ok (.lload_n 0, 1) := by decide +kernel
theorem dX4_joined_93 : decode cX4_joined 93 = .ok (.lload_n 3, 1) := by decide +kernel
theorem dX4_joined_94 : decode cX4_joined 94 = .ok (.lcmp, 1) := by decide +kernel
theorem dX4_joined_95 : decode cX4_joined 95 = .ok (.ifCond .ne 7, 3) := by decide +kernel
theorem dX4_joined_98 : decode cX4_joined 98 = .ok (.iconst 1, 1) := by decide +kernel
theorem dX4_joined_99 : decode cX4_joined 99 = .ok (.goto 4, 3) := by decide +kernel
theorem dX4_joined_102 : decode cX4_joined 102 = .ok (.iconst 0, 1) := by decide +kernel
theorem dX4_joined_103 : decode cX4_joined 103 = .ok (.ireturn, 1) := by decide +kernel
theorem dX4_joined_104 : decode cX4_joined 104 = .ok (.lload_n 0, 1) := by decide +kernel
theorem dX4_joined_105 : decode cX4_joined 105 = .ok (.lload_n 3, 1) := by decide +kernel
theorem dX4_joined_106 : decode cX4_joined 106 = .ok (.lcmp, 1) := by decide +kernel
theorem dX4_joined_107 : decode cX4_joined 107 = .ok (.ifCond .ge 7, 3) := by decide +kernel
theorem dX4_joined_110 : decode cX4_joined 110 = .ok (.iconst 1, 1) := by decide +kernel
theorem dX4_joined_111 : decode cX4_joined 111 = .ok (.goto 4, 3) := by decide +kernel
theorem dX4_joined_114 : decode cX4_joined 114 = .ok (.iconst 0, 1) := by decide +kernel
theorem dX4_joined_115 : decode cX4_joined 115 = .ok (.ireturn, 1) := by decide +kernel
theorem dX4_joined_116 : decode cX4_joined 116 = .ok (.lload_n 0, 1) := by decide +kernel
theorem dX4_joined_117 : decode cX4_joined 117 = .ok (.lload_n 3, 1) := by decide +kernel
theorem dX4_joined_118 : decode cX4_joined 118 = .ok (.lcmp, 1) := by decide +kernel
theorem dX4_joined_119 : decode cX4_joined 119 = .ok (.ifCond .le 7, 3) := by decide +kernel
theorem dX4_joined_122 : decode cX4_joined 122 = .ok (.iconst 1, 1) := by decide +kernel
theorem dX4_joined_123 : decode cX4_joined 123 = .ok (.goto 4, 3) := by decide +kernel
theorem dX4_joined_126 : decode cX4_joined 126 = .ok (.iconst 0, 1) := by decide +kernel
theorem dX4_joined_127 : decode cX4_joined 127 = .ok (.ireturn, 1) := by decide +kernel
theorem dX4_joined_128 : decode cX4_joined 128 = .ok (.lload_n 0, 1) := by decide +kernel
theorem dX4_joined_129 : decode cX4_joined 129 = .ok (.lload_n 3, 1) := by decide +kernel
theorem dX4_joined_130 : decode cX4_joined 130 = .ok (.land, 1) := by decide +kernel
theorem dX4_joined_131 : decode cX4_joined 131 = .ok (.l2i, 1) := by decide +kernel
theorem dX4_joined_132 : decode cX4_joined 132 = .ok (.ireturn, 1) := by decide +kernel
theorem dX4_joined_133 : decode cX4_joined 133 = .ok (.lload_n 0, 1) := by decide +kernel
theorem dX4_joined_134 : decode cX4_joined 134 = .ok (.lload_n 3, 1) := by decide +kernel
theorem dX4_joined_135 : decode cX4_joined 135 = .ok (.lor, 1) := by decide +kernel
theorem dX4_joined_136 : decode cX4_joined 136 = .ok (.l2i, 1) := by decide +kernel
theorem dX4_joined_137 : decode cX4_joined 137 = .ok (.ireturn, 1) := by decide +kernel
theorem dX4_joined_138 : decode cX4_joined 138 = .ok (.lload 5, 2) := by decide +kernel
theorem dX4_joined_140 : decode cX4_joined 140 = .ok (.ldc2_w 102, 3) := by decide +kernel
theorem dX4_joined_143 : decode cX4_joined 143 = .ok (.lcmp, 1) := by decide +kernel
theorem dX4_joined_144 : decode cX4_joined 144 = .ok (.ifCond .le 6, 3) := by decide +kernel
theorem dX4_joined_147 : decode cX4_joined 147 = .ok (.ldc 104, 2) := by decide +kernel
theorem dX4_joined_149 : decode cX4_joined 149 = .ok (.ireturn, 1) := by decide +kernel
theorem dX4_joined_150 : decode cX4_joined 150 = .ok (.lload 5, 2) := by decide +kernel
theorem dX4_joined_152 : decode cX4_joined 152 = .ok (.ldc2_w 105, 3) := by decide +kernel
theorem dX4_joined_155 : decode cX4_joined 155 = .ok (.lcmp, 1) := by decide +kernel
theorem dX4_joined_156 : decode cX4_joined 156 = .ok (.ifCond .ge 8, 3) := by decide +kernel
theorem dX4_joined_159 : decode cX4_joined 159 = .ok (.ldc 107, 2) := by decide +kernel
theorem dX4_joined_161 : decode cX4_joined 161 = .ok (.goto 6, 3) := by decide +kernel
theorem dX4_joined_164 : decode cX4_joined 164 = .ok (.lload 5, 2) := by decide +kernel
theorem dX4_joined_166 : decode cX4_joined 166 = .ok (.l2i, 1) := by decide +kernel
theorem dX4_joined_167 : decode cX4_joined 167 = .ok (.ireturn, 1) := by decide +kernel
theorem dX5_init_0 : decode cX5_init 0 = .ok (.aload_n 0, 1) := by decide +kernel
theorem dX5_init_1 : decode cX5_init 1 = .ok (.invokespecial 3, 3) := by decide +kernel
theorem dX5_init_4 : decode cX5_init 4 = .ok (.aload_n 0, 1) := by decide +kernel
theorem dX5_init_5 : decode cX5_init 5 = .ok (.sipush 1536, 3) := by decide +kernel
theorem dX5_init_8 : decode cX5_init 8 = .ok (.newarray .int, 2) := by decide +kernel
theorem dX5_init_10 : decode cX5_init 10 = .ok (.putfield 9, 3) := by decide +kernel
theorem dX5_init_13 : decode cX5_init 13 = .ok (.aload_n 0, 1) := by decide +kernel
theorem dX5_init_14 : decode cX5_init 14 = .ok (.sipush 256, 3) := by decide +kernel
theorem dX5_init_17 : decode cX5_init 17 = .ok (.newarray .int, 2) := by decide +kernel
theorem dX5_init_19 : decode cX5_init 19 = .ok (.putfield 15, 3) := by decide +kernel
theorem dX5_init_22 : decode cX5_init 22 = .ok (.aload_n 0, 1) := by decide +kernel
theorem dX5_init_23 : decode cX5_init 23 = .ok (.sipush 256, 3) := by decide +kernel
theorem dX5_init_26 : decode cX5_init 26 = .ok (.newarray .int, 2) := by decide +kernel
theorem dX5_init_28 : decode cX5_init 28 = .ok (.putfield 18, 3) := by decide +kernel
theorem dX5_init_31 : decode cX5_init 31 = .ok (.aload_n 0, 1) := by decide +kernel
theorem dX5_init_32 : decode cX5_init 32 = .ok (.sipush 256, 3) := by decide +kernel
theorem dX5_init_35 : decode cX5_init 35 = .ok (.newarray .long, 2) := by decide +kernel
theorem dX5_init_37 : decode cX5_init 37 = .ok (.putfield 21, 3) := by decide +kernel
theorem dX5_init_40 : decode cX5_init 40 = .ok (.aload_n 0, 1) := by decide +kernel
theorem dX5_init_41 : decode cX5_init 41 = .ok (.sipush 256, 3) := by decide +kernel
theorem dX5_init_44 : decode cX5_init 44 = .ok (.newarray .long, 2) := by decide +kernel
theorem dX5_init_46 : decode cX5_init 46 = .ok (.putfield 25, 3) := by decide +kernel
theorem dX5_init_49 : decode cX5_init 49 = .ok (.aload_n 0, 1) := by decide +kernel
theorem dX5_init_50 : decode cX5_init 50 = .ok (.bipush 6, 2) := by decide +kernel
theorem dX5_init_52 : decode cX5_init 52 = .ok (.newarray .long, 2) := by decide +kernel
theorem dX5_init_54 : decode cX5_init 54 = .ok (.putfield 28, 3) := by decide +kernel
theorem dX5_init_57 : decode cX5_init 57 = .ok (.aload_n 0, 1) := by decide +kernel
theorem dX5_init_58 : decode cX5_init 58 = .ok (.lconst 1, 1) := by decide +kernel
theorem dX5_init_59 : decode cX5_init 59 = .ok (.putfield 31, 3) := by decide +kernel
theorem dX5_init_62 : decode cX5_init 62 = .ok (.aload_n 0, 1) := by decide +kernel
theorem dX5_init_63 : decode cX5_init 63 = .ok (.lconst 0, 1) := by decide +kernel
theorem dX5_init_64 : decode cX5_init 64 = .ok (.putfield 35, 3) := by decide +kernel
theorem dX5_init_67 : decode cX5_init 67 = .ok (.aload_n 0, 1) := by decide +kernel
theorem dX5_init_68 : decode cX5_init 68 = .ok (.iconst 0, 1) := by decide +kernel
theorem dX5_init_69 : decode cX5_init 69 = .ok (.putfield 38, 3) := by decide +kernel
theorem dX5_init_72 : decode cX5_init 72 = .ok (.aload_n 0, 1) := by decide +kernel
theorem dX5_init_73 : decode cX5_init 73 = .ok (.iconst 0, 1) := by decide +kernel
theorem dX5_init_74 : decode cX5_init 74 = .ok (.putfield 42, 3) := by decide +kernel
theorem dX5_init_77 : decode cX5_init 77 = .ok (.aload_n 0, 1) := by decide +kernel
theorem dX5_init_78 : decode cX5_init 78 = .ok (.iconst 0, 1) := by decide +kernel
theorem dX5_init_79 : decode cX5_init 79 = .ok (.putfield 45, 3) := by decide +kernel
theorem dX5_init_82 : decode cX5_init 82 = .ok (.aload_n 0, 1) := by decide +kernel
theorem dX5_init_83 : decode cX5_init 83 = .ok (.aload_n 1, 1) := by decide +kernel
theorem dX5_init_84 : decode cX5_init 84 = .ok (.putfield 48, 3) := by decide +kernel
theorem dX5_init_87 : decode cX5_init 87 = .ok (.aload_n 0, 1) := by decide +kernel
theorem dX5_init_88 : decode cX5_init 88 = .ok (.aload_n 2, 1) := by decide +kernel
theorem dX5_init_89 : decode cX5_init 89 = .ok (.putfield 52, 3) := by decide +kernel
theorem dX5_init_92 : decode cX5_init 92 = .ok (.aload_n 0, 1) := by decide +kernel
theorem dX5_init_93 : decode cX5_init 93 = .ok (.aload_n 3, 1) := by decide +kernel
theorem dX5_init_94 : decode cX5_init 94 = .ok (.putfield 56, 3) := by decide +kernel
theorem dX5_init_97 : decode cX5_init 97 = .ok (.return_, 1) := by decide +kernel
theorem dX5_aim_0 : decode cX5_aim 0 = .ok (.aload_n 0, 1) := by decide +kernel
theorem dX5_aim_1 : decode cX5_aim 1 = .ok (.aload_n 1, 1) := by decide +kernel
theorem dX5_aim_2 : decode cX5_aim 2 = .ok (.putfield 52, 3) := by decide +kernel
theorem dX5_aim_5 : decode cX5_aim 5 = .ok (.aload_n 0, 1) := by decide +kernel
theorem dX5_aim_6 : decode cX5_aim 6 = .ok (.aload_n 2, 1) := by decide +kernel
theorem dX5_aim_7 : decode cX5_aim 7 = .ok (.putfield 56, 3) := by decide +kernel
theorem dX5_aim_10 : decode cX5_aim 10 = .ok (.aload_n 0, 1) := by decide +kernel
theorem dX5_aim_11 : decode cX5_aim 11 = .ok (.aload_n 0, 1) := by decide +kernel
theorem dX5_aim_12 : decode cX5_aim 12 = .ok (.getfield 56, 3) := by decide +kernel
theorem dX5_aim_15 : decode cX5_aim 15 = .ok (.invokevirtual 60, 3) := by decide +kernel
theorem dX5_aim_18 : decode cX5_aim 18 = .ok (.putfield 38, 3) := by decide +kernel
theorem dX5_aim_21 : decode cX5_aim 21 = .ok (.aload_n 0, 1) := by decide +kernel
theorem dX5_aim_22 : decode cX5_aim 22 = .ok (.aload_n 0, 1) := by decide +kernel
theorem dX5_aim_23 : decode cX5_aim 23 = .ok (.getfield 38, 3) := by decide +kernel
theorem dX5_aim_26 : decode cX5_aim 26 = .ok (.iload_n 3, 1) := by decide +kernel
theorem dX5_aim_27 : decode cX5_aim 27 = .ok (.iconst (-1), 1) := by decide +kernel
theorem dX5_aim_28 : decode cX5_aim 28 = .ok (.ixor, 1) := by decide +kernel
theorem dX5_aim_29 : decode cX5_aim 29 = .ok (.iand, 1) := by decide +kernel
theorem dX5_aim_30 : decode cX5_aim 30 = .ok (.putfield 42, 3) := by decide +kernel
theorem dX5_aim_33 : decode cX5_aim 33 = .ok (.aload_n 0, 1) := by decide +kernel
theorem dX5_aim_34 : decode cX5_aim 34 = .ok (.aload_n 0, 1) := by decide +kernel
theorem dX5_aim_35 : decode cX5_aim 35 = .ok (.getfield 56, 3) := by decide +kernel
theorem dX5_aim_38 : decode cX5_aim 38 = .ok (.getfield 66, 3) := by decide +kernel
theorem dX5_aim_41 : decode cX5_aim 41 = .ok (.aload_n 0, 1) := by decide +kernel
theorem dX5_aim_42 : decode cX5_aim 42 = .ok (.getfield 38, 3) := by decide +kernel
theorem dX5_aim_45 : decode cX5_aim 45 = .ok (.iand, 1) := by decide +kernel
theorem dX5_aim_46 : decode cX5_aim 46 = .ok (.putfield 45, 3) := by decide +kernel
theorem dX5_aim_49 : decode cX5_aim 49 = .ok (.aload_n 0, 1) := by decide +kernel
theorem dX5_aim_50 : decode cX5_aim 50 = .ok (.getfield 48, 3) := by decide +kernel
theorem dX5_aim_53 : decode cX5_aim 53 = .ok (.aload_n 0, 1) := by decide +kernel
theorem dX5_aim_54 : decode cX5_aim 54 = .ok (.getfield 52, 3) := by decide +kernel
theorem dX5_aim_57 : decode cX5_aim 57 = .ok (.aload_n 0, 1) := by decide +kernel
theorem dX5_aim_58 : decode cX5_aim 58 = .ok (.getfield 56, 3) := by decide +kernel
theorem dX5_aim_61 : decode cX5_aim 61 = .ok (.invokevirtual 69, 3) := by decide +kernel
theorem dX5_aim_64 : decode cX5_aim 64 = .ok (.return_, 1) := by decide +kernel
theorem dX5_look_0 : decode cX5_look 0 = .ok (.aload_n 0, 1) := by decide +kernel
theorem dX5_look_1 : decode cX5_look 1 = .ok (.aload_n 1, 1) := by decide +kernel
theorem dX5_look_2 : decode cX5_look 2 = .ok (.aload_n 2, 1) := by decide +kernel
theorem dX5_look_3 : decode cX5_look 3 = .ok (.iload_n 3, 1) := by decide +kernel
theorem dX5_look_4 : decode cX5_look 4 = .ok (.invokevirtual 75, 3) := by decide +kernel
theorem dX5_look_7 : decode cX5_look 7 = .ok (.aload_n 0, 1) := by decide +kernel
theorem dX5_look_8 : decode cX5_look 8 = .ok (.getfield 15, 3) := by decide +kernel
theorem dX5_look_11 : decode cX5_look 11 = .ok (.iconst 0, 1) := by decide +kernel
theorem dX5_look_12 : decode cX5_look 12 = .ok (.invokestatic 79, 3) := by decide +kernel
theorem dX5_look_15 : decode cX5_look 15 = .ok (.aload_n 0, 1) := by decide +kernel
theorem dX5_look_16 : decode cX5_look 16 = .ok (.getfield 15, 3) := by decide +kernel
theorem dX5_look_19 : decode cX5_look 19 = .ok (.aload_n 0, 1) := by decide +kernel
theorem dX5_look_20 : decode cX5_look 20 = .ok (.getfield 45, 3) := by decide +kernel
theorem dX5_look_23 : decode cX5_look 23 = .ok (.iconst 1, 1) := by decide +kernel
theorem dX5_look_24 : decode cX5_look 24 = .ok (.iastore, 1) := by decide +kernel
theorem dX5_look_25 : decode cX5_look 25 = .ok (.aload_n 0, 1) := by decide +kernel
theorem dX5_look_26 : decode cX5_look 26 = .ok (.getfield 45, 3) := by decide +kernel
theorem dX5_look_29 : decode cX5_look 29 = .ok (.istore 4, 2) := by decide +kernel
theorem dX5_look_31 : decode cX5_look 31 = .ok (.iload 4, 2) := by decide +kernel
theorem dX5_look_33 : decode cX5_look 33 = .ok (.aload_n 0, 1) := by decide +kernel
theorem dX5_look_34 : decode cX5_look 34 = .ok (.getfield 38, 3) := by decide +kernel
theorem dX5_look_37 : decode cX5_look 37 = .ok (.if_icmp .gt 27, 3) := by decide +kernel
theorem dX5_look_40 : decode cX5_look 40 = .ok (.aload_n 0, 1) := by decide +kernel
theorem dX5_look_41 : decode cX5_look 41 = .ok (.getfield 15, 3) := by decide +kernel
theorem dX5_look_44 : decode cX5_look 44 = .ok (.iload 4, 2) := by decide +kernel
theorem dX5_look_46 : decode cX5_look 46 = .ok (.iaload, 1) := by decide +kernel
theorem dX5_look_47 : decode cX5_look 47 = .ok (.iconst 1, 1) := by decide +kernel
theorem dX5_look_48 : decode cX5_look 48 = .ok (.if_icmp .ne 10, 3) := by decide +kernel
theorem dX5_look_51 : decode cX5_look 51 = .ok (.aload_n 0, 1) := by decide +kernel
theorem dX5_look_52 : decode cX5_look 52 = .ok (.iload 4, 2) := by decide +kernel
theorem dX5_look_54 : decode cX5_look 54 = .ok (.iload_n 3, 1) := by decide +kernel
theorem dX5_look_55 : decode cX5_look 55 = .ok (.invokevirtual 85, 3) := by decide +kernel
theorem dX5_look_58 : decode cX5_look 58 = .ok (.iinc 4 1, 3) := by decide +kernel
theorem dX5_look_61 : decode cX5_look 61 = .ok (.goto (-30), 3) := by decide +kernel
theorem dX5_look_64 : decode cX5_look 64 = .ok (.return_, 1) := by decide +kernel
theorem dX5_lookEverywhere_0 : decode cX5_lookEverywhere 0 = .ok (.aload_n 0, 1) := by decide +kernel
theorem dX5_lookEverywhere_1 : decode cX5_lookEverywhere 1 = .ok (.aload_n 1, 1) := by decide +kernel
theorem dX5_lookEverywhere_2 : decode cX5_lookEverywhere 2 = .ok (.aload_n 2, 1) := by decide +kernel
theorem dX5_lookEverywhere_3 : decode cX5_lookEverywhere 3 = .ok (.aload_n 2, 1) := by decide +kernel
theorem dX5_lookEverywhere_4 : decode cX5_lookEverywhere 4 = .ok (.getfield 89, 3) := by decide +kernel
theorem dX5_lookEverywhere_7 : decode cX5_lookEverywhere 7 = .ok (.invokevirtual 75, 3) := by decide +kernel
theorem dX5_lookEverywhere_10 : decode cX5_lookEverywhere 10 = .ok (.iconst 0, 1) := by decide +kernel
theorem dX5_lookEverywhere_11 : decode cX5_lookEverywhere 11 = .ok (.istore_n 3, 1) := by decide +kernel
theorem dX5_lookEverywhere_12 : decode cX5_lookEverywhere 12 = .ok (.iload_n 3, 1) := by decide +kernel
theorem dX5_lookEverywhere_13 : decode cX5_lookEverywhere 13 = .ok (.aload_n 0, 1) := by decide +kernel
theorem dX5_lookEverywhere_14 : decode cX5_lookEverywhere 14 = .ok (.getfield 38, 3) := by decide +kernel
theorem dX5_lookEverywhere_17 : decode cX5_lookEverywhere 17 = .ok (.if_icmp .gt 18, 3) := by decide +kernel
theorem dX5_lookEverywhere_20 : decode cX5_lookEverywhere 20 = .ok (.aload_n 0, 1) := by decide +kernel
theorem dX5_lookEverywhere_21 : decode cX5_lookEverywhere 21 = .ok (.iload_n 3, 1) := by decide +kernel
theorem dX5_lookEverywhere_22 : decode cX5_lookEverywhere 22 = .ok (.aload_n 2, 1) := by decide +kernel
theorem dX5_lookEverywhere_23 : decode cX5_lookEverywhere 23 = .ok (.getfield 89, 3) := by decide +kernel
theorem dX5_lookEverywhere_26 : decode cX5_lookEverywhere 26 = .ok (.invokevirtual 85, 3) := by decide +kernel
theorem dX5_lookEverywhere_29 : decode cX5_lookEverywhere 29 = .ok (.iinc 3 1, 3) := by decide +kernel
theorem dX5_lookEverywhere_32 : decode cX5_lookEverywhere 32 = .ok (.goto (-20), 3) := by decide +kernel
theorem dX5_lookEverywhere_35 : decode cX5_lookEverywhere 35 = .ok (.return_, 1) := by decide +kernel
theorem dX5_meet_0 : decode cX5_meet 0 = .ok (.aload_n 0, 1) := by decide +kernel
theorem dX5_meet_1 : decode cX5_meet 1 = .ok (.getfield 15, 3) := by decide +kernel
theorem dX5_meet_4 : decode cX5_meet 4 = .ok (.iload_n 1, 1) := by decide +kernel
theorem dX5_meet_5 : decode cX5_meet 5 = .ok (.iconst 1, 1) := by decide +kernel
theorem dX5_meet_6 : decode cX5_meet 6 = .ok (.iastore, 1) := by decide +kernel
theorem dX5_meet_7 : decode cX5_meet 7 = .ok (.iconst 0, 1) := by decide +kernel
theorem dX5_meet_8 : decode cX5_meet 8 = .ok (.istore_n 3, 1) := by decide +kernel
theorem dX5_meet_9 : decode cX5_meet 9 = .ok (.iload_n 3, 1) := by decide +kernel
theorem dX5_meet_10 : decode cX5_meet 10 = .ok (.aload_n 0, 1) := by decide +kernel
theorem dX5_meet_11 : decode cX5_meet 11 = .ok (.getfield 52, 3) := by decide +kernel
theorem dX5_meet_14 : decode cX5_meet 14 = .ok (.getfield 92, 3) := by decide +kernel
theorem dX5_meet_17 : decode cX5_meet 17 = .ok (.if_icmp .ge 51, 3) := by decide +kernel
theorem dX5_meet_20 : decode cX5_meet 20 = .ok (.aload_n 0, 1) := by decide +kernel
theorem dX5_meet_21 : decode cX5_meet 21 = .ok (.getfield 48, 3) := by decide +kernel
theorem dX5_meet_24 : decode cX5_meet 24 = .ok (.iload_n 3, 1) := by decide +kernel
theorem dX5_meet_25 : decode cX5_meet 25 = .ok (.iload_n 1, 1) := by decide +kernel
theorem dX5_meet_26 : decode cX5_meet 26 = .ok (.iload_n 2, 1) := by decide +kernel
theorem dX5_meet_27 : decode cX5_meet 27 = .ok (.invokevirtual 97, 3) := by decide +kernel
theorem dX5_meet_30 : decode cX5_meet 30 = .ok (.istore 4, 2) := by decide +kernel
theorem dX5_meet_32 : decode cX5_meet 32 = .ok (.aload_n 0, 1) := by decide +kernel
theorem dX5_meet_33 : decode cX5_meet 33 = .ok (.getfield 9, 3) := by decide +kernel
theorem dX5_meet_36 : decode cX5_meet 36 = .ok (.iload_n 1, 1) := by decide +kernel
theorem dX5_meet_37 : decode cX5_meet 37 = .ok (.bipush 6, 2) := by decide +kernel
theorem dX5_meet_39 : decode cX5_meet 39 = .ok (.imul, 1) := by decide +kernel
theorem dX5_meet_40 : decode cX5_meet 40 = .ok (.iload_n 3, 1) := by decide +kernel
theorem dX5_meet_41 : decode cX5_meet 41 = .ok (.iadd, 1) := by decide +kernel
theorem dX5_meet_42 : decode cX5_meet 42 = .ok (.iload 4, 2) := by decide +kernel
theorem dX5_meet_44 : decode cX5_meet 44 = .ok (.iastore, 1) := by decide +kernel
theorem dX5_meet_45 : decode cX5_meet 45 = .ok (.iload 4, 2) := by decide +kernel
theorem dX5_meet_47 : decode cX5_meet 47 = .ok (.ifCond .lt 15, 3) := by decide +kernel
theorem dX5_meet_50 : decode cX5_meet 50 = .ok (.aload_n 0, 1) := by decide +kernel
theorem dX5_meet_51 : decode cX5_meet 51 = .ok (.getfield 15, 3) := by decide +kernel
theorem dX5_meet_54 : decode cX5_meet 54 = .ok (.iload_n 1, 1) := by decide +kernel
theorem dX5_meet_55 : decode cX5_meet 55 = .ok (.iconst 1, 1) := by decide +kernel
theorem dX5_meet_56 : decode cX5_meet 56 = .ok (.iload 4, 2) := by decide +kernel
theorem dX5_meet_58 : decode cX5_meet 58 = .ok (.ishl, 1) := by decide +kernel
theorem dX5_meet_59 : decode cX5_meet 59 = .ok (.ior, 1) := by decide +kernel
theorem dX5_meet_60 : decode cX5_meet 60 = .ok (.iconst 1, 1) := by decide +kernel
theorem dX5_meet_61 : decode cX5_meet 61 = .ok (.iastore, 1) := by decide +kernel
theorem dX5_meet_62 : decode cX5_meet 62 = .ok (.iinc 3 1, 3) := by decide +kernel
theorem dX5_meet_65 : decode cX5_meet 65 = .ok (.goto (-56), 3) := by decide +kernel
theorem dX5_meet_68 : decode cX5_meet 68 = .ok (.return_, 1) := by decide +kernel
theorem dX5_everyKind_0 : decode cX5_everyKind 0 = .ok (.aload_n 0, 1) := by decide +kernel
theorem dX5_everyKind_1 : decode cX5_everyKind 1 = .ok (.getfield 38, 3) := by decide +kernel
theorem dX5_everyKind_4 : decode cX5_everyKind 4 = .ok (.ireturn, 1) := by decide +kernel
theorem dX5_buyers_0 : decode cX5_buyers 0 = .ok (.aload_n 0, 1) := by decide +kernel
theorem dX5_buyers_1 : decode cX5_buyers 1 = .ok (.getfield 52, 3) := by decide +kernel
theorem dX5_buyers_4 : decode cX5_buyers 4 = .ok (.getfield 92, 3) := by decide +kernel
theorem dX5_buyers_7 : decode cX5_buyers 7 = .ok (.ireturn, 1) := by decide +kernel
theorem dX5_pick_0 : decode cX5_pick 0 = .ok (.iload_n 1, 1) := by decide +kernel
theorem dX5_pick_1 : decode cX5_pick 1 = .ok (.bipush 6, 2) := by decide +kernel
theorem dX5_pick_3 : decode cX5_pick 3 = .ok (.imul, 1) := by decide +kernel
theorem dX5_pick_4 : decode cX5_pick 4 = .ok (.iload_n 2, 1) := by decide +kernel
theorem dX5_pick_5 : decode cX5_pick 5 = .ok (.iadd, 1) := by decide +kernel
theorem dX5_pick_6 : decode cX5_pick 6 = .ok (.istore_n 3, 1) := by decide +kernel
theorem dX5_pick_7 : decode cX5_pick 7 = .ok (.iload_n 3, 1) := by decide +kernel
theorem dX5_pick_8 : decode cX5_pick 8 = .ok (.ifCond .lt 21, 3) := by decide +kernel
theorem dX5_pick_11 : decode cX5_pick 11 = .ok (.iload_n 3, 1) := by decide +kernel
theorem dX5_pick_12 : decode cX5_pick 12 = .ok (.aload_n 0, 1) := by decide +kernel
theorem dX5_pick_13 : decode cX5_pick 13 = .ok (.getfield 9, 3) := by decide +kernel
theorem dX5_pick_16 : decode cX5_pick 16 = .ok (.arraylength, 1) := by decide +kernel
theorem dX5_pick_17 : decode cX5_pick 17 = .ok (.if_icmp .ge 12, 3) := by decide +kernel
theorem dX5_pick_20 : decode cX5_pick 20 = .ok (.aload_n 0, 1) := by decide +kernel
theorem dX5_pick_21 : decode cX5_pick 21 = .ok (.getfield 9, 3) := by decide +kernel
theorem dX5_pick_24 : decode cX5_pick 24 = .ok (.iload_n 3, 1) := by decide +kernel
theorem dX5_pick_25 : decode cX5_pick 25 = .ok (.iaload, 1) := by decide +kernel
theorem dX5_pick_26 : decode cX5_pick 26 = .ok (.goto 4, 3) := by decide +kernel
theorem dX5_pick_29 : decode cX5_pick 29 = .ok (.iconst (-1), 1) := by decide +kernel
theorem dX5_pick_30 : decode cX5_pick 30 = .ok (.ireturn, 1) := by decide +kernel
theorem dX5_isMet_0 : decode cX5_isMet 0 = .ok (.aload_n 0, 1) := by decide +kernel
theorem dX5_isMet_1 : decode cX5_isMet 1 = .ok (.getfield 15, 3) := by decide +kernel
theorem dX5_isMet_4 : decode cX5_isMet 4 = .ok (.iload_n 1, 1) := by decide +kernel
theorem dX5_isMet_5 : decode cX5_isMet 5 = .ok (.iaload, 1) := by decide +kernel
theorem dX5_isMet_6 : decode cX5_isMet 6 = .ok (.iconst 1, 1) := by decide +kernel
theorem dX5_isMet_7 : decode cX5_isMet 7 = .ok (.if_icmp .ne 7, 3) := by decide +kernel
theorem dX5_isMet_10 : decode cX5_isMet 10 = .ok (.iconst 1, 1) := by decide +kernel
theorem dX5_isMet_11 : decode cX5_isMet 11 = .ok (.goto 4, 3) := by decide +kernel
theorem dX5_isMet_14 : decode cX5_isMet 14 = .ok (.iconst 0, 1) := by decide +kernel
theorem dX5_isMet_15 : decode cX5_isMet 15 = .ok (.ireturn, 1) := by decide +kernel
theorem dX5_isShutAt_0 : decode cX5_isShutAt 0 = .ok (.aload_n 0, 1) := by decide +kernel
theorem dX5_isShutAt_1 : decode cX5_isShutAt 1 = .ok (.getfield 42, 3) := by decide +kernel
theorem dX5_isShutAt_4 : decode cX5_isShutAt 4 = .ok (.iload_n 1, 1) := by decide +kernel
theorem dX5_isShutAt_5 : decode cX5_isShutAt 5 = .ok (.iconst (-1), 1) := by decide +kernel
theorem dX5_isShutAt_6 : decode cX5_isShutAt 6 = .ok (.ixor, 1) := by decide +kernel
theorem dX5_isShutAt_7 : decode cX5_isShutAt 7 = .ok (.iand, 1) := by decide +kernel
theorem dX5_isShutAt_8 : decode cX5_isShutAt 8 = .ok (.ifCond .ne 7, 3) := by decide +kernel
theorem dX5_isShutAt_11 : decode cX5_isShutAt 11 = .ok (.iconst 1, 1) := by decide +kernel
theorem dX5_isShutAt_12 : decode cX5_isShutAt 12 = .ok (.goto 4, 3) := by decide +kernel
theorem dX5_isShutAt_15 : decode cX5_isShutAt 15 = .ok (.iconst 0, 1) := by decide +kernel
theorem dX5_isShutAt_16 : decode cX5_isShutAt 16 = .ok (.ireturn, 1) := by decide +kernel
theorem dX5_takersNow_0 : decode cX5_takersNow 0 = .ok (.iconst 0, 1) := by decide +kernel
theorem dX5_takersNow_1 : decode cX5_takersNow 1 = .ok (.istore_n 1, 1) := by decide +kernel
theorem dX5_takersNow_2 : decode cX5_takersNow 2 = .ok (.iconst 0, 1) := by decide +kernel
theorem dX5_takersNow_3 : decode cX5_takersNow 3 = .ok (.istore_n 2, 1) := by decide +kernel
theorem dX5_takersNow_4 : decode cX5_takersNow 4 = .ok (.iload_n 2, 1) := by decide +kernel
theorem dX5_takersNow_5 : decode cX5_takersNow 5 = .ok (.aload_n 0, 1) := by decide +kernel
theorem dX5_takersNow_6 : decode cX5_takersNow 6 = .ok (.getfield 52, 3) := by decide +kernel
theorem dX5_takersNow_9 : decode cX5_takersNow 9 = .ok (.getfield 92, 3) := by decide +kernel
theorem dX5_takersNow_12 : decode cX5_takersNow 12 = .ok (.if_icmp .ge 27, 3) := by decide +kernel
theorem dX5_takersNow_15 : decode cX5_takersNow 15 = .ok (.aload_n 0, 1) := by decide +kernel
theorem dX5_takersNow_16 : decode cX5_takersNow 16 = .ok (.aload_n 0, 1) := by decide +kernel
theorem dX5_takersNow_17 : decode cX5_takersNow 17 = .ok (.getfield 45, 3) := by decide +kernel
theorem dX5_takersNow_20 : decode cX5_takersNow 20 = .ok (.iload_n 2, 1) := by decide +kernel
theorem dX5_takersNow_21 : decode cX5_takersNow 21 = .ok (.invokevirtual 101, 3) := by decide +kernel
theorem dX5_takersNow_24 : decode cX5_takersNow 24 = .ok (.ifCond .lt 9, 3) := by decide +kernel
theorem dX5_takersNow_27 : decode cX5_takersNow 27 = .ok (.iload_n 1, 1) := by decide +kernel
theorem dX5_takersNow_28 : decode cX5_takersNow 28 = .ok (.iconst 1, 1) := by decide +kernel
theorem dX5_takersNow_29 : decode cX5_takersNow 29 = .ok (.iload_n 2, 1) := by decide +kernel
theorem dX5_takersNow_30 : decode cX5_takersNow 30 = .ok (.ishl, 1) := by decide +kernel
theorem dX5_takersNow_31 : decode cX5_takersNow 31 = .ok (.ior, 1) := by decide +kernel
theorem dX5_takersNow_32 : decode cX5_takersNow 32 = .ok (.istore_n 1, 1) := by decide +kernel
theorem dX5_takersNow_33 : decode cX5_takersNow 33 = .ok (.iinc 2 1, 3) := by decide +kernel
theorem dX5_takersNow_36 : decode cX5_takersNow 36 = .ok (.goto (-32), 3) := by decide +kernel
theorem dX5_takersNow_39 : decode cX5_takersNow 39 = .ok (.iload_n 1, 1) := by decide +kernel
theorem dX5_takersNow_40 : decode cX5_takersNow 40 = .ok (.ireturn, 1) := by decide +kernel
theorem dX5_shortest_0 : decode cX5_shortest 0 = .ok (.aload_n 0, 1) := by decide +kernel
theorem dX5_shortest_1 : decode cX5_shortest 1 = .ok (.iconst 1, 1) := by decide +kernel
theorem dX5_shortest_2 : decode cX5_shortest 2 = .ok (.aload_n 0, 1) := by decide +kernel
theorem dX5_shortest_3 : decode cX5_shortest 3 = .ok (.getfield 52, 3) := by decide +kernel
theorem dX5_shortest_6 : decode cX5_shortest 6 = .ok (.getfield 92, 3) := by decide +kernel
theorem dX5_shortest_9 : decode cX5_shortest 9 = .ok (.ishl, 1) := by decide +kernel
theorem dX5_shortest_10 : decode cX5_shortest 10 = .ok (.iconst 1, 1) := by decide +kernel
theorem dX5_shortest_11 : decode cX5_shortest 11 = .ok (.isub, 1) := by decide +kernel
theorem dX5_shortest_12 : decode cX5_shortest 12 = .ok (.invokevirtual 105, 3) := by decide +kernel
theorem dX5_shortest_15 : decode cX5_shortest 15 = .ok (.ireturn, 1) := by decide +kernel
theorem dX5_measure_0 : decode cX5_measure 0 = .ok (.aload_n 0, 1) := by decide +kernel
theorem dX5_measure_1 : decode cX5_measure 1 = .ok (.getfield 38, 3) := by decide +kernel
theorem dX5_measure_4 : decode cX5_measure 4 = .ok (.istore_n 2, 1) := by decide +kernel
theorem dX5_measure_5 : decode cX5_measure 5 = .ok (.iload_n 2, 1) := by decide +kernel
theorem dX5_measure_6 : decode cX5_measure 6 = .ok (.aload_n 0, 1) := by decide +kernel
theorem dX5_measure_7 : decode cX5_measure 7 = .ok (.getfield 45, 3) := by decide +kernel
theorem dX5_measure_10 : decode cX5_measure 10 = .ok (.if_icmp .lt 43, 3) := by decide +kernel
theorem dX5_measure_13 : decode cX5_measure 13 = .ok (.aload_n 0, 1) := by decide +kernel
theorem dX5_measure_14 : decode cX5_measure 14 = .ok (.getfield 15, 3) := by decide +kernel
theorem dX5_measure_17 : decode cX5_measure 17 = .ok (.iload_n 2, 1) := by decide +kernel
theorem dX5_measure_18 : decode cX5_measure 18 = .ok (.iaload, 1) := by decide +kernel
theorem dX5_measure_19 : decode cX5_measure 19 = .ok (.iconst 1, 1) := by decide +kernel
theorem dX5_measure_20 : decode cX5_measure 20 = .ok (.if_icmp .ne 27, 3) := by decide +kernel
theorem dX5_measure_23 : decode cX5_measure 23 = .ok (.aload_n 0, 1) := by decide +kernel
theorem dX5_measure_24 : decode cX5_measure 24 = .ok (.getfield 18, 3) := by decide +kernel
theorem dX5_measure_27 : decode cX5_measure 27 = .ok (.iload_n 2, 1) := by decide +kernel
theorem dX5_measure_28 : decode cX5_measure 28 = .ok (.aload_n 0, 1) := by decide +kernel
theorem dX5_measure_29 : decode cX5_measure 29 = .ok (.iload_n 2, 1) := by decide +kernel
theorem dX5_measure_30 : decode cX5_measure 30 = .ok (.invokevirtual 109, 3) := by decide +kernel
theorem dX5_measure_33 : decode cX5_measure 33 = .ok (.ifCond .eq 7, 3) := by decide +kernel
theorem dX5_measure_36 : decode cX5_measure 36 = .ok (.iconst 0, 1) := by decide +kernel
theorem dX5_measure_37 : decode cX5_measure 37 = .ok (.goto 9, 3) := by decide +kernel
theorem dX5_measure_40 : decode cX5_measure 40 = .ok (.aload_n 0, 1) := by decide +kernel
theorem dX5_measure_41 : decode cX5_measure 41 = .ok (.iload_n 2, 1) := by decide +kernel
theorem dX5_measure_42 : decode cX5_measure 42 = .ok (.iload_n 1, 1) := by decide +kernel
theorem dX5_measure_43 : decode cX5_measure 43 = .ok (.invokevirtual 113, 3) := by decide +kernel
theorem dX5_measure_46 : decode cX5_measure 46 = .ok (.iastore, 1) := by decide +kernel
theorem dX5_measure_47 : decode cX5_measure 47 = .ok (.iinc 2 (-1), 3) := by decide +kernel
theorem dX5_measure_50 : decode cX5_measure 50 = .ok (.goto (-45), 3) := by decide +kernel
theorem dX5_measure_53 : decode cX5_measure 53 = .ok (.aload_n 0, 1) := by decide +kernel
theorem dX5_measure_54 : decode cX5_measure 54 = .ok (.getfield 18, 3) := by decide +kernel
theorem dX5_measure_57 : decode cX5_measure 57 = .ok (.aload_n 0, 1) := by decide +kernel
theorem dX5_measure_58 : decode cX5_measure 58 = .ok (.getfield 45, 3) := by decide +kernel
theorem dX5_measure_61 : decode cX5_measure 61 = .ok (.iaload, 1) := by decide +kernel
theorem dX5_measure_62 : decode cX5_measure 62 = .ok (.ireturn, 1) := by decide +kernel
theorem dX5_stepsFrom_0 : decode cX5_stepsFrom 0 = .ok (.iconst (-1), 1) := by decide +kernel
theorem dX5_stepsFrom_1 : decode cX5_stepsFrom 1 = .ok (.istore_n 3, 1) := by decide +kernel
theorem dX5_stepsFrom_2 : decode cX5_stepsFrom 2 = .ok (.iconst 0, 1) := by decide +kernel
theorem dX5_stepsFrom_3 : decode cX5_stepsFrom 3 = .ok (.istore 4, 2) := by decide +kernel
theorem dX5_stepsFrom_5 : decode cX5_stepsFrom 5 = .ok (.iload 4, 2) := by decide +kernel
theorem dX5_stepsFrom_7 : decode cX5_stepsFrom 7 = .ok (.aload_n 0, 1) := by decide +kernel
theorem dX5_stepsFrom_8 : decode cX5_stepsFrom 8 = .ok (.getfield 52, 3) := by decide +kernel
theorem dX5_stepsFrom_11 : decode cX5_stepsFrom 11 = .ok (.getfield 92, 3) := by decide +kernel
theorem dX5_stepsFrom_14 : decode cX5_stepsFrom 14 = .ok (.if_icmp .ge 78, 3) := by decide +kernel
theorem dX5_stepsFrom_17 : decode cX5_stepsFrom 17 = .ok (.aload_n 0, 1) := by decide +kernel
theorem dX5_stepsFrom_18 : decode cX5_stepsFrom 18 = .ok (.iload_n 1, 1) := by decide +kernel
theorem dX5_stepsFrom_19 : decode cX5_stepsFrom 19 = .ok (.iload 4, 2) := by decide +kernel
theorem dX5_stepsFrom_21 : decode cX5_stepsFrom 21 = .ok (.invokevirtual 101, 3) := by decide +kernel
theorem dX5_stepsFrom_24 : decode cX5_stepsFrom 24 = .ok (.istore 5, 2) := by decide +kernel
theorem dX5_stepsFrom_26 : decode cX5_stepsFrom 26 = .ok (.iload_n 2, 1) := by decide +kernel
theorem dX5_stepsFrom_27 : decode cX5_stepsFrom 27 = .ok (.iload 4, 2) := by decide +kernel
theorem dX5_stepsFrom_29 : decode cX5_stepsFrom 29 = .ok (.ishr, 1) := by decide +kernel
theorem dX5_stepsFrom_30 : decode cX5_stepsFrom 30 = .ok (.iconst 1, 1) := by decide +kernel
theorem dX5_stepsFrom_31 : decode cX5_stepsFrom 31 = .ok (.iand, 1) := by decide +kernel
theorem dX5_stepsFrom_32 : decode cX5_stepsFrom 32 = .ok (.iconst 1, 1) := by decide +kernel
theorem dX5_stepsFrom_33 : decode cX5_stepsFrom 33 = .ok (.if_icmp .ne 53, 3) := by decide +kernel
theorem dX5_stepsFrom_36 : decode cX5_stepsFrom 36 = .ok (.iload 5, 2) := by decide +kernel
theorem dX5_stepsFrom_38 : decode cX5_stepsFrom 38 = .ok (.ifCond .lt 48, 3) := by decide +kernel
theorem dX5_stepsFrom_41 : decode cX5_stepsFrom 41 = .ok (.iload_n 1, 1) := by decide +kernel
theorem dX5_stepsFrom_42 : decode cX5_stepsFrom 42 = .ok (.iload 5, 2) := by decide +kernel
theorem dX5_stepsFrom_44 : decode cX5_stepsFrom 44 = .ok (.ishr, 1) := by decide +kernel
theorem dX5_stepsFrom_45 : decode cX5_stepsFrom 45 = .ok (.iconst 1, 1) := by decide +kernel
theorem dX5_stepsFrom_46 : decode cX5_stepsFrom 46 = .ok (.iand, 1) := by decide +kernel
theorem dX5_stepsFrom_47 : decode cX5_stepsFrom 47 = .ok (.ifCond .ne 39, 3) := by decide +kernel
theorem dX5_stepsFrom_50 : decode cX5_stepsFrom 50 = .ok (.aload_n 0, 1) := by decide +kernel
theorem dX5_stepsFrom_51 : decode cX5_stepsFrom 51 = .ok (.getfield 18, 3) := by decide +kernel
theorem dX5_stepsFrom_54 : decode cX5_stepsFrom 54 = .ok (.iload_n 1, 1) := by decide +kernel
theorem dX5_stepsFrom_55 : decode cX5_stepsFrom 55 = .ok (.iconst 1, 1) := by decide +kernel
theorem dX5_stepsFrom_56 : decode cX5_stepsFrom 56 = .ok (.iload 5, 2) := by decide +kernel
theorem dX5_stepsFrom_58 : decode cX5_stepsFrom 58 = .ok (.ishl, 1) := by decide +kernel
theorem dX5_stepsFrom_59 : decode cX5_stepsFrom 59 = .ok (.ior, 1) := by decide +kernel
theorem dX5_stepsFrom_60 : decode cX5_stepsFrom 60 = .ok (.iaload, 1) := by decide +kernel
theorem dX5_stepsFrom_61 : decode cX5_stepsFrom 61 = .ok (.istore 6, 2) := by decide +kernel
theorem dX5_stepsFrom_63 : decode cX5_stepsFrom 63 = .ok (.iload 6, 2) := by decide +kernel
theorem dX5_stepsFrom_65 : decode cX5_stepsFrom 65 = .ok (.ifCond .lt 21, 3) := by decide +kernel
theorem dX5_stepsFrom_68 : decode cX5_stepsFrom 68 = .ok (.iload_n 3, 1) := by decide +kernel
theorem dX5_stepsFrom_69 : decode cX5_stepsFrom 69 = .ok (.iconst (-1), 1) := by decide +kernel
theorem dX5_stepsFrom_70 : decode cX5_stepsFrom 70 = .ok (.if_icmp .eq 11, 3) := by decide +kernel
theorem dX5_stepsFrom_73 : decode cX5_stepsFrom 73 = .ok (.iload 6, 2) := by decide +kernel
theorem dX5_stepsFrom_75 : decode cX5_stepsFrom 75 = .ok (.iconst 1, 1) := by decide +kernel
theorem dX5_stepsFrom_76 : decode cX5_stepsFrom 76 = .ok (.iadd, 1) := by decide +kernel
theorem dX5_stepsFrom_77 : decode cX5_stepsFrom 77 = .ok (.iload_n 3, 1) := by decide +kernel
theorem dX5_stepsFrom_78 : decode cX5_stepsFrom 78 = .ok (.if_icmp .ge 8, 3) := by decide +kernel
theorem dX5_stepsFrom_81 : decode cX5_stepsFrom 81 = .ok (.iload 6, 2) := by decide +kernel
theorem dX5_stepsFrom_83 : decode cX5_stepsFrom 83 = .ok (.iconst 1, 1) := by decide +kernel
theorem dX5_stepsFrom_84 : decode cX5_stepsFrom 84 = .ok (.iadd, 1) := by decide +kernel
theorem dX5_stepsFrom_85 : decode cX5_stepsFrom 85 = .ok (.istore_n 3, 1) := by decide +kernel
theorem dX5_stepsFrom_86 : decode cX5_stepsFrom 86 = .ok (.iinc 4 1, 3) := by decide +kernel
theorem dX5_stepsFrom_89 : decode cX5_stepsFrom 89 = .ok (.goto (-84), 3) := by decide +kernel
theorem dX5_stepsFrom_92 : decode cX5_stepsFrom 92 = .ok (.iload_n 3, 1) := by decide +kernel
theorem dX5_stepsFrom_93 : decode cX5_stepsFrom 93 = .ok (.ireturn, 1) := by decide +kernel
theorem dX5_comerAt_0 : decode cX5_comerAt 0 = .ok (.aload_n 0, 1) := by decide +kernel
theorem dX5_comerAt_1 : decode cX5_comerAt 1 = .ok (.getfield 45, 3) := by decide +kernel
theorem dX5_comerAt_4 : decode cX5_comerAt 4 = .ok (.istore_n 2, 1) := by decide +kernel
theorem dX5_comerAt_5 : decode cX5_comerAt 5 = .ok (.iconst (-1), 1) := by decide +kernel
theorem dX5_comerAt_6 : decode cX5_comerAt 6 = .ok (.istore_n 3, 1) := by decide +kernel
theorem dX5_comerAt_7 : decode cX5_comerAt 7 = .ok (.iconst 0, 1) := by decide +kernel
theorem dX5_comerAt_8 : decode cX5_comerAt 8 = .ok (.istore 4, 2) := by decide +kernel
theorem dX5_comerAt_10 : decode cX5_comerAt 10 = .ok (.iload 4, 2) := by decide +kernel
theorem dX5_comerAt_12 : decode cX5_comerAt 12 = .ok (.iload_n 1, 1) := by decide +kernel
theorem dX5_comerAt_13 : decode cX5_comerAt 13 = .ok (.if_icmp .gt 40, 3) := by decide +kernel
theorem dX5_comerAt_16 : decode cX5_comerAt 16 = .ok (.iload 4, 2) := by decide +kernel
theorem dX5_comerAt_18 : decode cX5_comerAt 18 = .ok (.bipush 8, 2) := by decide +kernel
theorem dX5_comerAt_20 : decode cX5_comerAt 20 = .ok (.if_icmp .gt 33, 3) := by decide +kernel
theorem dX5_comerAt_23 : decode cX5_comerAt 23 = .ok (.aload_n 0, 1) := by decide +kernel
theorem dX5_comerAt_24 : decode cX5_comerAt 24 = .ok (.iload_n 2, 1) := by decide +kernel
theorem dX5_comerAt_25 : decode cX5_comerAt 25 = .ok (.invokevirtual 116, 3) := by decide +kernel
theorem dX5_comerAt_28 : decode cX5_comerAt 28 = .ok (.istore_n 3, 1) := by decide +kernel
theorem dX5_comerAt_29 : decode cX5_comerAt 29 = .ok (.iload_n 3, 1) := by decide +kernel
theorem dX5_comerAt_30 : decode cX5_comerAt 30 = .ok (.iconst (-1), 1) := by decide +kernel
theorem dX5_comerAt_31 : decode cX5_comerAt 31 = .ok (.if_icmp .ne 5, 3) := by decide +kernel
theorem dX5_comerAt_34 : decode cX5_comerAt 34 = .ok (.iconst (-1), 1) := by decide +kernel
theorem dX5_comerAt_35 : decode cX5_comerAt 35 = .ok (.ireturn, 1) := by decide +kernel
theorem dX5_comerAt_36 : decode cX5_comerAt 36 = .ok (.iload_n 2, 1) := by decide +kernel
theorem dX5_comerAt_37 : decode cX5_comerAt 37 = .ok (.iconst 1, 1) := by decide +kernel
theorem dX5_comerAt_38 : decode cX5_comerAt 38 = .ok (.aload_n 0, 1) := by decide +kernel
theorem dX5_comerAt_39 : decode cX5_comerAt 39 = .ok (.iload_n 2, 1) := by decide +kernel
theorem dX5_comerAt_40 : decode cX5_comerAt 40 = .ok (.iload_n 3, 1) := by decide +kernel
theorem dX5_comerAt_41 : decode cX5_comerAt 41 = .ok (.invokevirtual 101, 3) := by decide +kernel
theorem dX5_comerAt_44 : decode cX5_comerAt 44 = .ok (.ishl, 1) := by decide +kernel
theorem dX5_comerAt_45 : decode cX5_comerAt 45 = .ok (.ior, 1) := by decide +kernel
theorem dX5_comerAt_46 : decode cX5_comerAt 46 = .ok (.istore_n 2, 1) := by decide +kernel
theorem dX5_comerAt_47 : decode cX5_comerAt 47 = .ok (.iinc 4 1, 3) := by decide +kernel
theorem dX5_comerAt_50 : decode cX5_comerAt 50 = .ok (.goto (-40), 3) := by decide +kernel
theorem dX5_comerAt_53 : decode cX5_comerAt 53 = .ok (.iload_n 3, 1) := by decide +kernel
theorem dX5_comerAt_54 : decode cX5_comerAt 54 = .ok (.ireturn, 1) := by decide +kernel
theorem dX5_nearestComer_0 : decode cX5_nearestComer 0 = .ok (.iconst 0, 1) := by decide +kernel
theorem dX5_nearestComer_1 : decode cX5_nearestComer 1 = .ok (.istore_n 2, 1) := by decide +kernel
theorem dX5_nearestComer_2 : decode cX5_nearestComer 2 = .ok (.iload_n 2, 1) := by decide +kernel
theorem dX5_nearestComer_3 : decode cX5_nearestComer 3 = .ok (.aload_n 0, 1) := by decide +kernel
theorem dX5_nearestComer_4 : decode cX5_nearestComer 4 = .ok (.getfield 52, 3) := by decide +kernel
theorem dX5_nearestComer_7 : decode cX5_nearestComer 7 = .ok (.getfield 92, 3) := by decide +kernel
theorem dX5_nearestComer_10 : decode cX5_nearestComer 10 = .ok (.if_icmp .ge 62, 3) := by decide +kernel
theorem dX5_nearestComer_13 : decode cX5_nearestComer 13 = .ok (.aload_n 0, 1) := by decide +kernel
theorem dX5_nearestComer_14 : decode cX5_nearestComer 14 = .ok (.iload_n 1, 1) := by decide +kernel
theorem dX5_nearestComer_15 : decode cX5_nearestComer 15 = .ok (.iload_n 2, 1) := by decide +kernel
theorem dX5_nearestComer_16 : decode cX5_nearestComer 16 = .ok (.invokevirtual 101, 3) := by decide +kernel
theorem dX5_nearestComer_19 : decode cX5_nearestComer 19 = .ok (.istore_n 3, 1) := by decide +kernel
theorem dX5_nearestComer_20 : decode cX5_nearestComer 20 = .ok (.iload_n 3, 1) := by decide +kernel
theorem dX5_nearestComer_21 : decode cX5_nearestComer 21 = .ok (.ifCond .lt 45, 3) := by decide +kernel
theorem dX5_nearestComer_24 : decode cX5_nearestComer 24 = .ok (.iload_n 1, 1) := by decide +kernel
theorem dX5_nearestComer_25 : decode cX5_nearestComer 25 = .ok (.iload_n 3, 1) := by decide +kernel
theorem dX5_nearestComer_26 : decode cX5_nearestComer 26 = .ok (.ishr, 1) := by decide +kernel
theorem dX5_nearestComer_27 : decode cX5_nearestComer 27 = .ok (.iconst 1, 1) := by decide +kernel
theorem dX5_nearestComer_28 : decode cX5_nearestComer 28 = .ok (.iand, 1) := by decide +kernel
theorem dX5_nearestComer_29 : decode cX5_nearestComer 29 = .ok (.ifCond .ne 37, 3) := by decide +kernel
theorem dX5_nearestComer_32 : decode cX5_nearestComer 32 = .ok (.aload_n 0, 1) := by decide +kernel
theorem dX5_nearestComer_33 : decode cX5_nearestComer 33 = .ok (.getfield 18, 3) := by decide +kernel
theorem dX5_nearestComer_36 : decode cX5_nearestComer 36 = .ok (.iload_n 1, 1) := by decide +kernel
theorem dX5_nearestComer_37 : decode cX5_nearestComer 37 = .ok (.iconst 1, 1) := by decide +kernel
theorem dX5_nearestComer_38 : decode cX5_nearestComer 38 = .ok (.iload_n 3, 1) := by decide +kernel
theorem dX5_nearestComer_39 : decode cX5_nearestComer 39 = .ok (.ishl, 1) := by decide +kernel
theorem dX5_nearestComer_40 : decode cX5_nearestComer 40 = .ok (.ior, 1) := by decide +kernel
theorem dX5_nearestComer_41 : decode cX5_nearestComer 41 = .ok (.iaload, 1) := by decide +kernel
theorem dX5_nearestComer_42 : decode cX5_nearestComer 42 = .ok (.ifCond .lt 24, 3) := by decide +kernel
theorem dX5_nearestComer_45 : decode cX5_nearestComer 45 = .ok (.aload_n 0, 1) := by decide +kernel
theorem dX5_nearestComer_46 : decode cX5_nearestComer 46 = .ok (.getfield 18, 3) := by decide +kernel
theorem dX5_nearestComer_49 : decode cX5_nearestComer 49 = .ok (.iload_n 1, 1) := by decide +kernel
theorem dX5_nearestComer_50 : decode cX5_nearestComer 50 = .ok (.iconst 1, 1) := by decide +kernel
theorem dX5_nearestComer_51 : decode cX5_nearestComer 51 = .ok (.iload_n 3, 1) := by decide +kernel
theorem dX5_nearestComer_52 : decode cX5_nearestComer 52 = .ok (.ishl, 1) := by decide +kernel
theorem dX5_nearestComer_53 : decode cX5_nearestComer 53 = .ok (.ior, 1) := by decide +kernel
theorem dX5_nearestComer_54 : decode cX5_nearestComer 54 = .ok (.iaload, 1) := by decide +kernel
theorem dX5_nearestComer_55 : decode cX5_nearestComer 55 = .ok (.aload_n 0, 1) := by decide +kernel
theorem dX5_nearestComer_56 : decode cX5_nearestComer 56 = .ok (.getfield 18, 3) := by decide +kernel
theorem dX5_nearestComer_59 : decode cX5_nearestComer 59 = .ok (.iload_n 1, 1) := by decide +kernel
theorem dX5_nearestComer_60 : decode cX5_nearestComer 60 = .ok (.iaload, 1) := by decide +kernel
theorem dX5_nearestComer_61 : decode cX5_nearestComer 61 = .ok (.if_icmp .ge 5, 3) := by decide +kernel
theorem dX5_nearestComer_64 : decode cX5_nearestComer 64 = .ok (.iload_n 2, 1) := by decide +kernel
theorem dX5_nearestComer_65 : decode cX5_nearestComer 65 = .ok (.ireturn, 1) := by decide +kernel
theorem dX5_nearestComer_66 : decode cX5_nearestComer 66 = .ok (.iinc 2 1, 3) := by decide +kernel
theorem dX5_nearestComer_69 : decode cX5_nearestComer 69 = .ok (.goto (-67), 3) := by decide +kernel
theorem dX5_nearestComer_72 : decode cX5_nearestComer 72 = .ok (.iconst (-1), 1) := by decide +kernel
theorem dX5_nearestComer_73 : decode cX5_nearestComer 73 = .ok (.ireturn, 1) := by decide +kernel
theorem dX5_neededBuyers_0 : decode cX5_neededBuyers 0 = .ok (.iconst 0, 1) := by decide +kernel
theorem dX5_neededBuyers_1 : decode cX5_neededBuyers 1 = .ok (.istore_n 1, 1) := by decide +kernel
theorem dX5_neededBuyers_2 : decode cX5_neededBuyers 2 = .ok (.iconst 1, 1) := by decide +kernel
theorem dX5_neededBuyers_3 : decode cX5_neededBuyers 3 = .ok (.aload_n 0, 1) := by decide +kernel
theorem dX5_neededBuyers_4 : decode cX5_neededBuyers 4 = .ok (.getfield 52, 3) := by decide +kernel
theorem dX5_neededBuyers_7 : decode cX5_neededBuyers 7 = .ok (.getfield 92, 3) := by decide +kernel
theorem dX5_neededBuyers_10 : decode cX5_neededBuyers 10 = .ok (.ishl, 1) := by decide +kernel
theorem dX5_neededBuyers_11 : decode cX5_neededBuyers 11 = .ok (.iconst 1, 1) := by decide +kernel
theorem dX5_neededBuyers_12 : decode cX5_neededBuyers 12 = .ok (.isub, 1) := by decide +kernel
theorem dX5_neededBuyers_13 : decode cX5_neededBuyers 13 = .ok (.istore_n 2, 1) := by decide +kernel
theorem dX5_neededBuyers_14 : decode cX5_neededBuyers 14 = .ok (.aload_n 0, 1) := by decide +kernel
theorem dX5_neededBuyers_15 : decode cX5_neededBuyers 15 = .ok (.iload_n 2, 1) := by decide +kernel
theorem dX5_neededBuyers_16 : decode cX5_neededBuyers 16 = .ok (.invokevirtual 105, 3) := by decide +kernel
theorem dX5_neededBuyers_19 : decode cX5_neededBuyers 19 = .ok (.iconst (-1), 1) := by decide +kernel
theorem dX5_neededBuyers_20 : decode cX5_neededBuyers 20 = .ok (.if_icmp .ne 5, 3) := by decide +kernel
theorem dX5_neededBuyers_23 : decode cX5_neededBuyers 23 = .ok (.iload_n 1, 1) := by decide +kernel
theorem dX5_neededBuyers_24 : decode cX5_neededBuyers 24 = .ok (.ireturn, 1) := by decide +kernel
theorem dX5_neededBuyers_25 : decode cX5_neededBuyers 25 = .ok (.iconst 0, 1) := by decide +kernel
theorem dX5_neededBuyers_26 : decode cX5_neededBuyers 26 = .ok (.istore_n 3, 1) := by decide +kernel
theorem dX5_neededBuyers_27 : decode cX5_neededBuyers 27 = .ok (.iload_n 3, 1) := by decide +kernel
theorem dX5_neededBuyers_28 : decode cX5_neededBuyers 28 = .ok (.aload_n 0, 1) := by decide +kernel
theorem dX5_neededBuyers_29 : decode cX5_neededBuyers 29 = .ok (.getfield 52, 3) := by decide +kernel
theorem dX5_neededBuyers_32 : decode cX5_neededBuyers 32 = .ok (.getfield 92, 3) := by decide +kernel
theorem dX5_neededBuyers_35 : decode cX5_neededBuyers 35 = .ok (.if_icmp .ge 30, 3) := by decide +kernel
theorem dX5_neededBuyers_38 : decode cX5_neededBuyers 38 = .ok (.aload_n 0, 1) := by decide +kernel
theorem dX5_neededBuyers_39 : decode cX5_neededBuyers 39 = .ok (.iload_n 2, 1) := by decide +kernel
theorem dX5_neededBuyers_40 : decode cX5_neededBuyers 40 = .ok (.iconst 1, 1) := by decide +kernel
theorem dX5_neededBuyers_41 : decode cX5_neededBuyers 41 = .ok (.iload_n 3, 1) := by decide +kernel
theorem dX5_neededBuyers_42 : decode cX5_neededBuyers 42 = .ok (.ishl, 1) := by decide +kernel
theorem dX5_neededBuyers_43 : decode cX5_neededBuyers 43 = .ok (.iconst (-1), 1) := by decide +kernel
theorem dX5_neededBuyers_44 : decode cX5_neededBuyers 44 = .ok (.ixor, 1) := by decide +kernel
theorem dX5_neededBuyers_45 : decode cX5_neededBuyers 45 = .ok (.iand, 1) := by decide +kernel
theorem dX5_neededBuyers_46 : decode cX5_neededBuyers 46 = .ok (.invokevirtual 105, 3) := by decide +kernel
theorem dX5_neededBuyers_49 : decode cX5_neededBuyers 49 = .ok (.iconst (-1), 1) := by decide +kernel
theorem dX5_neededBuyers_50 : decode cX5_neededBuyers 50 = .ok (.if_icmp .ne 9, 3) := by decide +kernel
theorem dX5_neededBuyers_53 : decode cX5_neededBuyers 53 = .ok (.iload_n 1, 1) := by decide +kernel
theorem dX5_neededBuyers_54 : decode cX5_neededBuyers 54 = .ok (.iconst 1, 1) := by decide +kernel
theorem dX5_neededBuyers_55 : decode cX5_neededBuyers 55 = .ok (.iload_n 3, 1) := by decide +kernel
theorem dX5_neededBuyers_56 : decode cX5_neededBuyers 56 = .ok (.ishl, 1) := by decide +kernel
theorem dX5_neededBuyers_57 : decode cX5_neededBuyers 57 = .ok (.ior, 1) := by decide +kernel
theorem dX5_neededBuyers_58 : decode cX5_neededBuyers 58 = .ok (.istore_n 1, 1) := by decide +kernel
theorem dX5_neededBuyers_59 : decode cX5_neededBuyers 59 = .ok (.iinc 3 1, 3) := by decide +kernel
theorem dX5_neededBuyers_62 : decode cX5_neededBuyers 62 = .ok (.goto (-35), 3) := by decide +kernel
theorem dX5_neededBuyers_65 : decode cX5_neededBuyers 65 = .ok (.iload_n 1, 1) := by decide +kernel
theorem dX5_neededBuyers_66 : decode cX5_neededBuyers 66 = .ok (.ireturn, 1) := by decide +kernel
theorem dX5_everSold_0 : decode cX5_everSold 0 = .ok (.aload_n 0, 1) := by decide +kernel
theorem dX5_everSold_1 : decode cX5_everSold 1 = .ok (.getfield 45, 3) := by decide +kernel
theorem dX5_everSold_4 : decode cX5_everSold 4 = .ok (.istore_n 1, 1) := by decide +kernel
theorem dX5_everSold_5 : decode cX5_everSold 5 = .ok (.aload_n 0, 1) := by decide +kernel
theorem dX5_everSold_6 : decode cX5_everSold 6 = .ok (.getfield 45, 3) := by decide +kernel
theorem dX5_everSold_9 : decode cX5_everSold 9 = .ok (.istore_n 2, 1) := by decide +kernel
theorem dX5_everSold_10 : decode cX5_everSold 10 = .ok (.iload_n 2, 1) := by decide +kernel
theorem dX5_everSold_11 : decode cX5_everSold 11 = .ok (.aload_n 0, 1) := by decide +kernel
theorem dX5_everSold_12 : decode cX5_everSold 12 = .ok (.getfield 38, 3) := by decide +kernel
theorem dX5_everSold_15 : decode cX5_everSold 15 = .ok (.if_icmp .gt 27, 3) := by decide +kernel
theorem dX5_everSold_18 : decode cX5_everSold 18 = .ok (.iload_n 1, 1) := by decide +kernel
theorem dX5_everSold_19 : decode cX5_everSold 19 = .ok (.aload_n 0, 1) := by decide +kernel
theorem dX5_everSold_20 : decode cX5_everSold 20 = .ok (.getfield 15, 3) := by decide +kernel
theorem dX5_everSold_23 : decode cX5_everSold 23 = .ok (.iload_n 2, 1) := by decide +kernel
theorem dX5_everSold_24 : decode cX5_everSold 24 = .ok (.iaload, 1) := by decide +kernel
theorem dX5_everSold_25 : decode cX5_everSold 25 = .ok (.iconst 1, 1) := by decide +kernel
theorem dX5_everSold_26 : decode cX5_everSold 26 = .ok (.if_icmp .ne 7, 3) := by decide +kernel
theorem dX5_everSold_29 : decode cX5_everSold 29 = .ok (.iload_n 2, 1) := by decide +kernel
theorem dX5_everSold_30 : decode cX5_everSold 30 = .ok (.goto 4, 3) := by decide +kernel
theorem dX5_everSold_33 : decode cX5_everSold 33 = .ok (.iconst 0, 1) := by decide +kernel
theorem dX5_everSold_34 : decode cX5_everSold 34 = .ok (.ior, 1) := by decide +kernel
theorem dX5_everSold_35 : decode cX5_everSold 35 = .ok (.istore_n 1, 1) := by decide +kernel
theorem dX5_everSold_36 : decode cX5_everSold 36 = .ok (.iinc 2 1, 3) := by decide +kernel
theorem dX5_everSold_39 : decode cX5_everSold 39 = .ok (.goto (-29), 3) := by decide +kernel
theorem dX5_everSold_42 : decode cX5_everSold 42 = .ok (.iload_n 1, 1) := by decide +kernel
theorem dX5_everSold_43 : decode cX5_everSold 43 = .ok (.ireturn, 1) := by decide +kernel
theorem dX5_lastLeft_0 : decode cX5_lastLeft 0 = .ok (.iconst 0, 1) := by decide +kernel
theorem dX5_lastLeft_1 : decode cX5_lastLeft 1 = .ok (.istore_n 1, 1) := by decide +kernel
theorem dX5_lastLeft_2 : decode cX5_lastLeft 2 = .ok (.aload_n 0, 1) := by decide +kernel
theorem dX5_lastLeft_3 : decode cX5_lastLeft 3 = .ok (.getfield 45, 3) := by decide +kernel
theorem dX5_lastLeft_6 : decode cX5_lastLeft 6 = .ok (.istore_n 2, 1) := by decide +kernel
theorem dX5_lastLeft_7 : decode cX5_lastLeft 7 = .ok (.iload_n 2, 1) := by decide +kernel
theorem dX5_lastLeft_8 : decode cX5_lastLeft 8 = .ok (.aload_n 0, 1) := by decide +kernel
theorem dX5_lastLeft_9 : decode cX5_lastLeft 9 = .ok (.getfield 38, 3) := by decide +kernel
theorem dX5_lastLeft_12 : decode cX5_lastLeft 12 = .ok (.if_icmp .gt 40, 3) := by decide +kernel
theorem dX5_lastLeft_15 : decode cX5_lastLeft 15 = .ok (.aload_n 0, 1) := by decide +kernel
theorem dX5_lastLeft_16 : decode cX5_lastLeft 16 = .ok (.getfield 42, 3) := by decide +kernel
theorem dX5_lastLeft_19 : decode cX5_lastLeft 19 = .ok (.iload_n 2, 1) := by decide +kernel
theorem dX5_lastLeft_20 : decode cX5_lastLeft 20 = .ok (.iconst (-1), 1) := by decide +kernel
theorem dX5_lastLeft_21 : decode cX5_lastLeft 21 = .ok (.ixor, 1) := by decide +kernel
theorem dX5_lastLeft_22 : decode cX5_lastLeft 22 = .ok (.iand, 1) := by decide +kernel
theorem dX5_lastLeft_23 : decode cX5_lastLeft 23 = .ok (.istore_n 3, 1) := by decide +kernel
theorem dX5_lastLeft_24 : decode cX5_lastLeft 24 = .ok (.aload_n 0, 1) := by decide +kernel
theorem dX5_lastLeft_25 : decode cX5_lastLeft 25 = .ok (.getfield 15, 3) := by decide +kernel
theorem dX5_lastLeft_28 : decode cX5_lastLeft 28 = .ok (.iload_n 2, 1) := by decide +kernel
theorem dX5_lastLeft_29 : decode cX5_lastLeft 29 = .ok (.iaload, 1) := by decide +kernel
theorem dX5_lastLeft_30 : decode cX5_lastLeft 30 = .ok (.iconst 1, 1) := by decide +kernel
theorem dX5_lastLeft_31 : decode cX5_lastLeft 31 = .ok (.if_icmp .ne 15, 3) := by decide +kernel
theorem dX5_lastLeft_34 : decode cX5_lastLeft 34 = .ok (.iload_n 3, 1) := by decide +kernel
theorem dX5_lastLeft_35 : decode cX5_lastLeft 35 = .ok (.invokestatic 119, 3) := by decide +kernel
theorem dX5_lastLeft_38 : decode cX5_lastLeft 38 = .ok (.iconst 1, 1) := by decide +kernel
theorem dX5_lastLeft_39 : decode cX5_lastLeft 39 = .ok (.if_icmp .ne 7, 3) := by decide +kernel
theorem dX5_lastLeft_42 : decode cX5_lastLeft 42 = .ok (.iload_n 1, 1) := by decide +kernel
theorem dX5_lastLeft_43 : decode cX5_lastLeft 43 = .ok (.iload_n 3, 1) := by decide +kernel
theorem dX5_lastLeft_44 : decode cX5_lastLeft 44 = .ok (.ior, 1) := by decide +kernel
theorem dX5_lastLeft_45 : decode cX5_lastLeft 45 = .ok (.istore_n 1, 1) := by decide +kernel
theorem dX5_lastLeft_46 : decode cX5_lastLeft 46 = .ok (.iinc 2 1, 3) := by decide +kernel
theorem dX5_lastLeft_49 : decode cX5_lastLeft 49 = .ok (.goto (-42), 3) := by decide +kernel
theorem dX5_lastLeft_52 : decode cX5_lastLeft 52 = .ok (.iload_n 1, 1) := by decide +kernel
theorem dX5_lastLeft_53 : decode cX5_lastLeft 53 = .ok (.ireturn, 1) := by decide +kernel
theorem dX5_beginRows_0 : decode cX5_beginRows 0 = .ok (.aload_n 0, 1) := by decide +kernel
theorem dX5_beginRows_1 : decode cX5_beginRows 1 = .ok (.getfield 21, 3) := by decide +kernel
theorem dX5_beginRows_4 : decode cX5_beginRows 4 = .ok (.lconst 0, 1) := by decide +kernel
theorem dX5_beginRows_5 : decode cX5_beginRows 5 = .ok (.invokestatic 124, 3) := by decide +kernel
theorem dX5_beginRows_8 : decode cX5_beginRows 8 = .ok (.aload_n 0, 1) := by decide +kernel
theorem dX5_beginRows_9 : decode cX5_beginRows 9 = .ok (.getfield 21, 3) := by decide +kernel
theorem dX5_beginRows_12 : decode cX5_beginRows 12 = .ok (.aload_n 0, 1) := by decide +kernel
theorem dX5_beginRows_13 : decode cX5_beginRows 13 = .ok (.getfield 45, 3) := by decide +kernel
theorem dX5_beginRows_16 : decode cX5_beginRows 16 = .ok (.lconst 1, 1) := by decide +kernel
theorem dX5_beginRows_17 : decode cX5_beginRows 17 = .ok (.lastore, 1) := by decide +kernel
theorem dX5_beginRows_18 : decode cX5_beginRows 18 = .ok (.return_, 1) := by decide +kernel
theorem dX5_lengthenRows_0 : decode cX5_lengthenRows 0 = .ok (.aload_n 0, 1) := by decide +kernel
theorem dX5_lengthenRows_1 : decode cX5_lengthenRows 1 = .ok (.getfield 25, 3) := by decide +kernel
theorem dX5_lengthenRows_4 : decode cX5_lengthenRows 4 = .ok (.lconst 0, 1) := by decide +kernel
theorem dX5_lengthenRows_5 : decode cX5_lengthenRows 5 = .ok (.invokestatic 124, 3) := by decide +kernel
theorem dX5_lengthenRows_8 : decode cX5_lengthenRows 8 = .ok (.aload_n 0, 1) := by decide +kernel
theorem dX5_lengthenRows_9 : decode cX5_lengthenRows 9 = .ok (.getfield 45, 3) := by decide +kernel
theorem dX5_lengthenRows_12 : decode cX5_lengthenRows 12 = .ok (.istore_n 2, 1) := by decide +kernel
theorem dX5_lengthenRows_13 : decode cX5_lengthenRows 13 = .ok (.iload_n 2, 1) := by decide +kernel
theorem dX5_lengthenRows_14 : decode cX5_lengthenRows 14 = .ok (.aload_n 0, 1) := by decide +kernel
theorem dX5_lengthenRows_15 : decode cX5_lengthenRows 15 = .ok (.getfield 38, 3) := by decide +kernel
theorem dX5_lengthenRows_18 : decode cX5_lengthenRows 18 = .ok (.if_icmp .gt 83, 3) := by decide +kernel
theorem dX5_lengthenRows_21 : decode cX5_lengthenRows 21 = .ok (.iconst 0, 1) := by decide +kernel
theorem dX5_lengthenRows_22 : decode cX5_lengthenRows 22 = .ok (.istore_n 3, 1) := by decide +kernel
theorem dX5_lengthenRows_23 : decode cX5_lengthenRows 23 = .ok (.iload_n 3, 1) := by decide +kernel
theorem dX5_lengthenRows_24 : decode cX5_lengthenRows 24 = .ok (.aload_n 0, 1) := by decide +kernel
theorem dX5_lengthenRows_25 : decode cX5_lengthenRows 25 = .ok (.getfield 52, 3) := by decide +kernel
theorem dX5_lengthenRows_28 : decode cX5_lengthenRows 28 = .ok (.getfield 92, 3) := by decide +kernel
theorem dX5_lengthenRows_31 : decode cX5_lengthenRows 31 = .ok (.if_icmp .ge 64, 3) := by decide +kernel
theorem dX5_lengthenRows_34 : decode cX5_lengthenRows 34 = .ok (.aload_n 0, 1) := by decide +kernel
theorem dX5_lengthenRows_35 : decode cX5_lengthenRows 35 = .ok (.getfield 21, 3) := by decide +kernel
theorem dX5_lengthenRows_38 : decode cX5_lengthenRows 38 = .ok (.iload_n 2, 1) := by decide +kernel
theorem dX5_lengthenRows_39 : decode cX5_lengthenRows 39 = .ok (.laload, 1) := by decide +kernel
theorem dX5_lengthenRows_40 : decode cX5_lengthenRows 40 = .ok (.lconst 0, 1) := by decide +kernel
theorem dX5_lengthenRows_41 : decode cX5_lengthenRows 41 = .ok (.lcmp, 1) := by decide +kernel
theorem dX5_lengthenRows_42 : decode cX5_lengthenRows 42 = .ok (.ifCond .eq 53, 3) := by decide +kernel
theorem dX5_lengthenRows_45 : decode cX5_lengthenRows 45 = .ok (.aload_n 0, 1) := by decide +kernel
theorem dX5_lengthenRows_46 : decode cX5_lengthenRows 46 = .ok (.iload_n 2, 1) := by decide +kernel
theorem dX5_lengthenRows_47 : decode cX5_lengthenRows 47 = .ok (.iload_n 3, 1) := by decide +kernel
theorem dX5_lengthenRows_48 : decode cX5_lengthenRows 48 = .ok (.invokevirtual 101, 3) := by decide +kernel
theorem dX5_lengthenRows_51 : decode cX5_lengthenRows 51 = .ok (.istore 4, 2) := by decide +kernel
theorem dX5_lengthenRows_53 : decode cX5_lengthenRows 53 = .ok (.iload 4, 2) := by decide +kernel
theorem dX5_lengthenRows_55 : decode cX5_lengthenRows 55 = .ok (.ifCond .lt 34, 3) := by decide +kernel
theorem dX5_lengthenRows_58 : decode cX5_lengthenRows 58 = .ok (.iload_n 1, 1) := by decide +kernel
theorem dX5_lengthenRows_59 : decode cX5_lengthenRows 59 = .ok (.iconst (-1), 1) := by decide +kernel
theorem dX5_lengthenRows_60 : decode cX5_lengthenRows 60 = .ok (.if_icmp .eq 9, 3) := by decide +kernel
theorem dX5_lengthenRows_63 : decode cX5_lengthenRows 63 = .ok (.iload_n 1, 1) := by decide +kernel
theorem dX5_lengthenRows_64 : decode cX5_lengthenRows 64 = .ok (.iload 4, 2) := by decide +kernel
theorem dX5_lengthenRows_66 : decode cX5_lengthenRows 66 = .ok (.if_icmp .ne 23, 3) := by decide +kernel
theorem dX5_lengthenRows_69 : decode cX5_lengthenRows 69 = .ok (.aload_n 0, 1) := by decide +kernel
theorem dX5_lengthenRows_70 : decode cX5_lengthenRows 70 = .ok (.getfield 25, 3) := by decide +kernel
theorem dX5_lengthenRows_73 : decode cX5_lengthenRows 73 = .ok (.iload_n 2, 1) := by decide +kernel
theorem dX5_lengthenRows_74 : decode cX5_lengthenRows 74 = .ok (.iconst 1, 1) := by decide +kernel
theorem dX5_lengthenRows_75 : decode cX5_lengthenRows 75 = .ok (.iload 4, 2) := by decide +kernel
theorem dX5_lengthenRows_77 : decode cX5_lengthenRows 77 = .ok (.ishl, 1) := by decide +kernel
theorem dX5_lengthenRows_78 : decode cX5_lengthenRows 78 = .ok (.ior, 1) := by decide +kernel
theorem dX5_lengthenRows_79 : decode cX5_lengthenRows 79 = .ok (.dup2, 1) := by decide +kernel
theorem dX5_lengthenRows_80 : decode cX5_lengthenRows 80 = .ok (.laload, 1) := by decide +kernel
theorem dX5_lengthenRows_81 : decode cX5_lengthenRows 81 = .ok (.aload_n 0, 1) := by decide +kernel
theorem dX5_lengthenRows_82 : decode cX5_lengthenRows 82 = .ok (.getfield 21, 3) := by decide +kernel
theorem dX5_lengthenRows_85 : decode cX5_lengthenRows 85 = .ok (.iload_n 2, 1) := by decide +kernel
theorem dX5_lengthenRows_86 : decode cX5_lengthenRows 86 = .ok (.laload, 1) := by decide +kernel
theorem dX5_lengthenRows_87 : decode cX5_lengthenRows 87 = .ok (.ladd, 1) := by decide +kernel
theorem dX5_lengthenRows_88 : decode cX5_lengthenRows 88 = .ok (.lastore, 1) := by decide +kernel
theorem dX5_lengthenRows_89 : decode cX5_lengthenRows 89 = .ok (.iinc 3 1, 3) := by decide +kernel
theorem dX5_lengthenRows_92 : decode cX5_lengthenRows 92 = .ok (.goto (-69), 3) := by decide +kernel
theorem dX5_lengthenRows_95 : decode cX5_lengthenRows 95 = .ok (.iinc 2 1, 3) := by decide +kernel
theorem dX5_lengthenRows_98 : decode cX5_lengthenRows 98 = .ok (.goto (-85), 3) := by decide +kernel
theorem dX5_lengthenRows_101 : decode cX5_lengthenRows 101 = .ok (.aload_n 0, 1) := by decide +kernel
theorem dX5_lengthenRows_102 : decode cX5_lengthenRows 102 = .ok (.invokevirtual 127, 3) := by decide +kernel
theorem dX5_lengthenRows_105 : decode cX5_lengthenRows 105 = .ok (.return_, 1) := by decide +kernel
theorem dX5_swapWays_0 : decode cX5_swapWays 0 = .ok (.aload_n 0, 1) := by decide +kernel
theorem dX5_swapWays_1 : decode cX5_swapWays 1 = .ok (.getfield 21, 3) := by decide +kernel
theorem dX5_swapWays_4 : decode cX5_swapWays 4 = .ok (.astore_n 1, 1) := by decide +kernel
theorem dX5_swapWays_5 : decode cX5_swapWays 5 = .ok (.aload_n 0, 1) := by decide +kernel
theorem dX5_swapWays_6 : decode cX5_swapWays 6 = .ok (.aload_n 0, 1) := by decide +kernel
theorem dX5_swapWays_7 : decode cX5_swapWays 7 = .ok (.getfield 25, 3) := by decide +kernel
theorem dX5_swapWays_10 : decode cX5_swapWays 10 = .ok (.putfield 21, 3) := by decide +kernel
theorem dX5_swapWays_13 : decode cX5_swapWays 13 = .ok (.aload_n 0, 1) := by decide +kernel
theorem dX5_swapWays_14 : decode cX5_swapWays 14 = .ok (.aload_n 1, 1) := by decide +kernel
theorem dX5_swapWays_15 : decode cX5_swapWays 15 = .ok (.putfield 25, 3) := by decide +kernel
theorem dX5_swapWays_18 : decode cX5_swapWays 18 = .ok (.return_, 1) := by decide +kernel
theorem dX5_isOnRow_0 : decode cX5_isOnRow 0 = .ok (.aload_n 0, 1) := by decide +kernel
theorem dX5_isOnRow_1 : decode cX5_isOnRow 1 = .ok (.getfield 21, 3) := by decide +kernel
theorem dX5_isOnRow_4 : decode cX5_isOnRow 4 = .ok (.iload_n 1, 1) := by decide +kernel
theorem dX5_isOnRow_5 : decode cX5_isOnRow 5 = .ok (.laload, 1) := by decide +kernel
theorem dX5_isOnRow_6 : decode cX5_isOnRow 6 = .ok (.lconst 0, 1) := by decide +kernel
theorem dX5_isOnRow_7 : decode cX5_isOnRow 7 = .ok (.lcmp, 1) := by decide +kernel
theorem dX5_isOnRow_8 : decode cX5_isOnRow 8 = .ok (.ifCond .eq 7, 3) := by decide +kernel
theorem dX5_isOnRow_11 : decode cX5_isOnRow 11 = .ok (.iconst 1, 1) := by decide +kernel
theorem dX5_isOnRow_12 : decode cX5_isOnRow 12 = .ok (.goto 4, 3) := by decide +kernel
theorem dX5_isOnRow_15 : decode cX5_isOnRow 15 = .ok (.iconst 0, 1) := by decide +kernel
theorem dX5_isOnRow_16 : decode cX5_isOnRow 16 = .ok (.ireturn, 1) := by decide +kernel
theorem dX5_allWays_0 : decode cX5_allWays 0 = .ok (.lconst 0, 1) := by decide +kernel
theorem dX5_allWays_1 : decode cX5_allWays 1 = .ok (.lstore_n 1, 1) := by decide +kernel
theorem dX5_allWays_2 : decode cX5_allWays 2 = .ok (.aload_n 0, 1) := by decide +kernel
theorem dX5_allWays_3 : decode cX5_allWays 3 = .ok (.getfield 45, 3) := by decide +kernel
theorem dX5_allWays_6 : decode cX5_allWays 6 = .ok (.istore_n 3, 1) := by decide +kernel
theorem dX5_allWays_7 : decode cX5_allWays 7 = .ok (.iload_n 3, 1) := by decide +kernel
theorem dX5_allWays_8 : decode cX5_allWays 8 = .ok (.aload_n 0, 1) := by decide +kernel
theorem dX5_allWays_9 : decode cX5_allWays 9 = .ok (.getfield 38, 3) := by decide +kernel
theorem dX5_allWays_12 : decode cX5_allWays 12 = .ok (.if_icmp .gt 18, 3) := by decide +kernel
theorem dX5_allWays_15 : decode cX5_allWays 15 = .ok (.lload_n 1, 1) := by decide +kernel
theorem dX5_allWays_16 : decode cX5_allWays 16 = .ok (.aload_n 0, 1) := by decide +kernel
theorem dX5_allWays_17 : decode cX5_allWays 17 = .ok (.getfield 21, 3) := by decide +kernel
theorem dX5_allWays_20 : decode cX5_allWays 20 = .ok (.iload_n 3, 1) := by decide +kernel
theorem dX5_allWays_21 : decode cX5_allWays 21 = .ok (.laload, 1) := by decide +kernel
theorem dX5_allWays_22 : decode cX5_allWays 22 = .ok (.ladd, 1) := by decide +kernel
theorem dX5_allWays_23 : decode cX5_allWays 23 = .ok (.lstore_n 1, 1) := by decide +kernel
theorem dX5_allWays_24 : decode cX5_allWays 24 = .ok (.iinc 3 1, 3) := by decide +kernel
theorem dX5_allWays_27 : decode cX5_allWays 27 = .ok (.goto (-20), 3) := by decide +kernel
theorem dX5_allWays_30 : decode cX5_allWays 30 = .ok (.lload_n 1, 1) := by decide +kernel
theorem dX5_allWays_31 : decode cX5_allWays 31 = .ok (.lreturn, 1) := by decide +kernel
theorem dX5_openWays_0 : decode cX5_openWays 0 = .ok (.lconst 0, 1) := by decide +kernel
theorem dX5_openWays_1 : decode cX5_openWays 1 = .ok (.lstore_n 1, 1) := by decide +kernel
theorem dX5_openWays_2 : decode cX5_openWays 2 = .ok (.aload_n 0, 1) := by decide +kernel
theorem dX5_openWays_3 : decode cX5_openWays 3 = .ok (.getfield 45, 3) := by decide +kernel
theorem dX5_openWays_6 : decode cX5_openWays 6 = .ok (.istore_n 3, 1) := by decide +kernel
theorem dX5_openWays_7 : decode cX5_openWays 7 = .ok (.iload_n 3, 1) := by decide +kernel
theorem dX5_openWays_8 : decode cX5_openWays 8 = .ok (.aload_n 0, 1) := by decide +kernel
theorem dX5_openWays_9 : decode cX5_openWays 9 = .ok (.getfield 38, 3) := by decide +kernel
theorem dX5_openWays_12 : decode cX5_openWays 12 = .ok (.if_icmp .gt 30, 3) := by decide +kernel
theorem dX5_openWays_15 : decode cX5_openWays 15 = .ok (.lload_n 1, 1) := by decide +kernel
theorem dX5_openWays_16 : decode cX5_openWays 16 = .ok (.aload_n 0, 1) := by decide +kernel
theorem dX5_openWays_17 : decode cX5_openWays 17 = .ok (.iload_n 3, 1) := by decide +kernel
theorem dX5_openWays_18 : decode cX5_openWays 18 = .ok (.invokevirtual 109, 3) := by decide +kernel
theorem dX5_openWays_21 : decode cX5_openWays 21 = .ok (.ifCond .eq 7, 3) := by decide +kernel
theorem dX5_openWays_24 : decode cX5_openWays 24 = .ok (.lconst 0, 1) := by decide +kernel
theorem dX5_openWays_25 : decode cX5_openWays 25 = .ok (.goto 9, 3) := by decide +kernel
theorem dX5_openWays_28 : decode cX5_openWays 28 = .ok (.aload_n 0, 1) := by decide +kernel
theorem dX5_openWays_29 : decode cX5_openWays 29 = .ok (.getfield 21, 3) := by decide +kernel
theorem dX5_openWays_32 : decode cX5_openWays 32 = .ok (.iload_n 3, 1) := by decide +kernel
theorem dX5_openWays_33 : decode cX5_openWays 33 = .ok (.laload, 1) := by decide +kernel
theorem dX5_openWays_34 : decode cX5_openWays 34 = .ok (.ladd, 1) := by decide +kernel
theorem dX5_openWays_35 : decode cX5_openWays 35 = .ok (.lstore_n 1, 1) := by decide +kernel
theorem dX5_openWays_36 : decode cX5_openWays 36 = .ok (.iinc 3 1, 3) := by decide +kernel
theorem dX5_openWays_39 : decode cX5_openWays 39 = .ok (.goto (-32), 3) := by decide +kernel
theorem dX5_openWays_42 : decode cX5_openWays 42 = .ok (.lload_n 1, 1) := by decide +kernel
theorem dX5_openWays_43 : decode cX5_openWays 43 = .ok (.lreturn, 1) := by decide +kernel
theorem dX5_soldWays_0 : decode cX5_soldWays 0 = .ok (.lconst 0, 1) := by decide +kernel
theorem dX5_soldWays_1 : decode cX5_soldWays 1 = .ok (.lstore_n 2, 1) := by decide +kernel
theorem dX5_soldWays_2 : decode cX5_soldWays 2 = .ok (.aload_n 0, 1) := by decide +kernel
theorem dX5_soldWays_3 : decode cX5_soldWays 3 = .ok (.getfield 45, 3) := by decide +kernel
theorem dX5_soldWays_6 : decode cX5_soldWays 6 = .ok (.istore 4, 2) := by decide +kernel
theorem dX5_soldWays_8 : decode cX5_soldWays 8 = .ok (.iload 4, 2) := by decide +kernel
theorem dX5_soldWays_10 : decode cX5_soldWays 10 = .ok (.aload_n 0, 1) := by decide +kernel
theorem dX5_soldWays_11 : decode cX5_soldWays 11 = .ok (.getfield 38, 3) := by decide +kernel
theorem dX5_soldWays_14 : decode cX5_soldWays 14 = .ok (.if_icmp .gt 33, 3) := by decide +kernel
theorem dX5_soldWays_17 : decode cX5_soldWays 17 = .ok (.lload_n 2, 1) := by decide +kernel
theorem dX5_soldWays_18 : decode cX5_soldWays 18 = .ok (.iload 4, 2) := by decide +kernel
theorem dX5_soldWays_20 : decode cX5_soldWays 20 = .ok (.iload_n 1, 1) := by decide +kernel
theorem dX5_soldWays_21 : decode cX5_soldWays 21 = .ok (.ishr, 1) := by decide +kernel
theorem dX5_soldWays_22 : decode cX5_soldWays 22 = .ok (.iconst 1, 1) := by decide +kernel
theorem dX5_soldWays_23 : decode cX5_soldWays 23 = .ok (.iand, 1) := by decide +kernel
theorem dX5_soldWays_24 : decode cX5_soldWays 24 = .ok (.iconst 1, 1) := by decide +kernel
theorem dX5_soldWays_25 : decode cX5_soldWays 25 = .ok (.if_icmp .ne 13, 3) := by decide +kernel
theorem dX5_soldWays_28 : decode cX5_soldWays 28 = .ok (.aload_n 0, 1) := by decide +kernel
theorem dX5_soldWays_29 : decode cX5_soldWays 29 = .ok (.getfield 21, 3) := by decide +kernel
theorem dX5_soldWays_32 : decode cX5_soldWays 32 = .ok (.iload 4, 2) := by decide +kernel
theorem dX5_soldWays_34 : decode cX5_soldWays 34 = .ok (.laload, 1) := by decide +kernel
theorem dX5_soldWays_35 : decode cX5_soldWays 35 = .ok (.goto 4, 3) := by decide +kernel
theorem dX5_soldWays_38 : decode cX5_soldWays 38 = .ok (.lconst 0, 1) := by decide +kernel
theorem dX5_soldWays_39 : decode cX5_soldWays 39 = .ok (.ladd, 1) := by decide +kernel
theorem dX5_soldWays_40 : decode cX5_soldWays 40 = .ok (.lstore_n 2, 1) := by decide +kernel
theorem dX5_soldWays_41 : decode cX5_soldWays 41 = .ok (.iinc 4 1, 3) := by decide +kernel
theorem dX5_soldWays_44 : decode cX5_soldWays 44 = .ok (.goto (-36), 3) := by decide +kernel
theorem dX5_soldWays_47 : decode cX5_soldWays 47 = .ok (.lload_n 2, 1) := by decide +kernel
theorem dX5_soldWays_48 : decode cX5_soldWays 48 = .ok (.lreturn, 1) := by decide +kernel
theorem dX5_rowsToShut_0 : decode cX5_rowsToShut 0 = .ok (.aload_n 0, 1) := by decide +kernel
theorem dX5_rowsToShut_1 : decode cX5_rowsToShut 1 = .ok (.invokevirtual 130, 3) := by decide +kernel
theorem dX5_rowsToShut_4 : decode cX5_rowsToShut 4 = .ok (.iconst 0, 1) := by decide +kernel
theorem dX5_rowsToShut_5 : decode cX5_rowsToShut 5 = .ok (.istore_n 2, 1) := by decide +kernel
theorem dX5_rowsToShut_6 : decode cX5_rowsToShut 6 = .ok (.iload_n 2, 1) := by decide +kernel
theorem dX5_rowsToShut_7 : decode cX5_rowsToShut 7 = .ok (.iload_n 1, 1) := by decide +kernel
theorem dX5_rowsToShut_8 : decode cX5_rowsToShut 8 = .ok (.if_icmp .ge 14, 3) := by decide +kernel
theorem dX5_rowsToShut_11 : decode cX5_rowsToShut 11 = .ok (.aload_n 0, 1) := by decide +kernel
theorem dX5_rowsToShut_12 : decode cX5_rowsToShut 12 = .ok (.iconst (-1), 1) := by decide +kernel
theorem dX5_rowsToShut_13 : decode cX5_rowsToShut 13 = .ok (.invokevirtual 133, 3) := by decide +kernel
theorem dX5_rowsToShut_16 : decode cX5_rowsToShut 16 = .ok (.iinc 2 1, 3) := by decide +kernel
theorem dX5_rowsToShut_19 : decode cX5_rowsToShut 19 = .ok (.goto (-13), 3) := by decide +kernel
theorem dX5_rowsToShut_22 : decode cX5_rowsToShut 22 = .ok (.aload_n 0, 1) := by decide +kernel
theorem dX5_rowsToShut_23 : decode cX5_rowsToShut 23 = .ok (.invokevirtual 137, 3) := by decide +kernel
theorem dX5_rowsToShut_26 : decode cX5_rowsToShut 26 = .ok (.aload_n 0, 1) := by decide +kernel
theorem dX5_rowsToShut_27 : decode cX5_rowsToShut 27 = .ok (.invokevirtual 141, 3) := by decide +kernel
theorem dX5_rowsToShut_30 : decode cX5_rowsToShut 30 = .ok (.lsub, 1) := by decide +kernel
theorem dX5_rowsToShut_31 : decode cX5_rowsToShut 31 = .ok (.lreturn, 1) := by decide +kernel
theorem dX5_passDays_0 : decode cX5_passDays 0 = .ok (.aload_n 0, 1) := by decide +kernel
theorem dX5_passDays_1 : decode cX5_passDays 1 = .ok (.invokevirtual 130, 3) := by decide +kernel
theorem dX5_passDays_4 : decode cX5_passDays 4 = .ok (.aload_n 0, 1) := by decide +kernel
theorem dX5_passDays_5 : decode cX5_passDays 5 = .ok (.getfield 28, 3) := by decide +kernel
theorem dX5_passDays_8 : decode cX5_passDays 8 = .ok (.lconst 0, 1) := by decide +kernel
theorem dX5_passDays_9 : decode cX5_passDays 9 = .ok (.invokestatic 124, 3) := by decide +kernel
theorem dX5_passDays_12 : decode cX5_passDays 12 = .ok (.aload_n 0, 1) := by decide +kernel
theorem dX5_passDays_13 : decode cX5_passDays 13 = .ok (.lconst 1, 1) := by decide +kernel
theorem dX5_passDays_14 : decode cX5_passDays 14 = .ok (.putfield 31, 3) := by decide +kernel
theorem dX5_passDays_17 : decode cX5_passDays 17 = .ok (.aload_n 0, 1) := by decide +kernel
theorem dX5_passDays_18 : decode cX5_passDays 18 = .ok (.lconst 0, 1) := by decide +kernel
theorem dX5_passDays_19 : decode cX5_passDays 19 = .ok (.putfield 35, 3) := by decide +kernel
theorem dX5_passDays_22 : decode cX5_passDays 22 = .ok (.aload_n 0, 1) := by decide +kernel
theorem dX5_passDays_23 : decode cX5_passDays 23 = .ok (.getfield 52, 3) := by decide +kernel
theorem dX5_passDays_26 : decode cX5_passDays 26 = .ok (.invokevirtual 144, 3) := by decide +kernel
theorem dX5_passDays_29 : decode cX5_passDays 29 = .ok (.istore_n 2, 1) := by decide +kernel
theorem dX5_passDays_30 : decode cX5_passDays 30 = .ok (.iconst 0, 1) := by decide +kernel
theorem dX5_passDays_31 : decode cX5_passDays 31 = .ok (.istore_n 3, 1) := by decide +kernel
theorem dX5_passDays_32 : decode cX5_passDays 32 = .ok (.iload_n 3, 1) := by decide +kernel
theorem dX5_passDays_33 : decode cX5_passDays 33 = .ok (.iload_n 1, 1) := by decide +kernel
theorem dX5_passDays_34 : decode cX5_passDays 34 = .ok (.if_icmp .ge 18, 3) := by decide +kernel
theorem dX5_passDays_37 : decode cX5_passDays 37 = .ok (.iload_n 2, 1) := by decide +kernel
theorem dX5_passDays_38 : decode cX5_passDays 38 = .ok (.ifCond .le 14, 3) := by decide +kernel
theorem dX5_passDays_41 : decode cX5_passDays 41 = .ok (.aload_n 0, 1) := by decide +kernel
theorem dX5_passDays_42 : decode cX5_passDays 42 = .ok (.iload_n 2, 1) := by decide +kernel
theorem dX5_passDays_43 : decode cX5_passDays 43 = .ok (.invokevirtual 147, 3) := by decide +kernel
theorem dX5_passDays_46 : decode cX5_passDays 46 = .ok (.iinc 3 1, 3) := by decide +kernel
theorem dX5_passDays_49 : decode cX5_passDays 49 = .ok (.goto (-17), 3) := by decide +kernel
theorem dX5_passDays_52 : decode cX5_passDays 52 = .ok (.return_, 1) := by decide +kernel
theorem dX5_passDay_0 : decode cX5_passDay 0 = .ok (.aload_n 0, 1) := by decide +kernel
theorem dX5_passDay_1 : decode cX5_passDay 1 = .ok (.getfield 25, 3) := by decide +kernel
theorem dX5_passDay_4 : decode cX5_passDay 4 = .ok (.lconst 0, 1) := by decide +kernel
theorem dX5_passDay_5 : decode cX5_passDay 5 = .ok (.invokestatic 124, 3) := by decide +kernel
theorem dX5_passDay_8 : decode cX5_passDay 8 = .ok (.aload_n 0, 1) := by decide +kernel
theorem dX5_passDay_9 : decode cX5_passDay 9 = .ok (.dup, 1) := by decide +kernel
theorem dX5_passDay_10 : decode cX5_passDay 10 = .ok (.getfield 31, 3) := by decide +kernel
theorem dX5_passDay_13 : decode cX5_passDay 13 = .ok (.iload_n 1, 1) := by decide +kernel
theorem dX5_passDay_14 : decode cX5_passDay 14 = .ok (.i2l, 1) := by decide +kernel
theorem dX5_passDay_15 : decode cX5_passDay 15 = .ok (.lmul, 1) := by decide +kernel
theorem dX5_passDay_16 : decode cX5_passDay 16 = .ok (.putfield 31, 3) := by decide +kernel
theorem dX5_passDay_19 : decode cX5_passDay 19 = .ok (.aload_n 0, 1) := by decide +kernel
theorem dX5_passDay_20 : decode cX5_passDay 20 = .ok (.dup, 1) := by decide +kernel
theorem dX5_passDay_21 : decode cX5_passDay 21 = .ok (.getfield 35, 3) := by decide +kernel
theorem dX5_passDay_24 : decode cX5_passDay 24 = .ok (.iload_n 1, 1) := by decide +kernel
theorem dX5_passDay_25 : decode cX5_passDay 25 = .ok (.i2l, 1) := by decide +kernel
theorem dX5_passDay_26 : decode cX5_passDay 26 = .ok (.lmul, 1) := by decide +kernel
theorem dX5_passDay_27 : decode cX5_passDay 27 = .ok (.putfield 35, 3) := by decide +kernel
theorem dX5_passDay_30 : decode cX5_passDay 30 = .ok (.iconst 0, 1) := by decide +kernel
theorem dX5_passDay_31 : decode cX5_passDay 31 = .ok (.istore_n 2, 1) := by decide +kernel
theorem dX5_passDay_32 : decode cX5_passDay 32 = .ok (.iload_n 2, 1) := by decide +kernel
theorem dX5_passDay_33 : decode cX5_passDay 33 = .ok (.aload_n 0, 1) := by decide +kernel
theorem dX5_passDay_34 : decode cX5_passDay 34 = .ok (.getfield 52, 3) := by decide +kernel
theorem dX5_passDay_37 : decode cX5_passDay 37 = .ok (.getfield 92, 3) := by decide +kernel
theorem dX5_passDay_40 : decode cX5_passDay 40 = .ok (.if_icmp .ge 20, 3) := by decide +kernel
theorem dX5_passDay_43 : decode cX5_passDay 43 = .ok (.aload_n 0, 1) := by decide +kernel
theorem dX5_passDay_44 : decode cX5_passDay 44 = .ok (.getfield 28, 3) := by decide +kernel
theorem dX5_passDay_47 : decode cX5_passDay 47 = .ok (.iload_n 2, 1) := by decide +kernel
theorem dX5_passDay_48 : decode cX5_passDay 48 = .ok (.dup2, 1) := by decide +kernel
theorem dX5_passDay_49 : decode cX5_passDay 49 = .ok (.laload, 1) := by decide +kernel
theorem dX5_passDay_50 : decode cX5_passDay 50 = .ok (.iload_n 1, 1) := by decide +kernel
theorem dX5_passDay_51 : decode cX5_passDay 51 = .ok (.i2l, 1) := by decide +kernel
theorem dX5_passDay_52 : decode cX5_passDay 52 = .ok (.lmul, 1) := by decide +kernel
theorem dX5_passDay_53 : decode cX5_passDay 53 = .ok (.lastore, 1) := by decide +kernel
theorem dX5_passDay_54 : decode cX5_passDay 54 = .ok (.iinc 2 1, 3) := by decide +kernel
theorem dX5_passDay_57 : decode cX5_passDay 57 = .ok (.goto (-25), 3) := by decide +kernel
theorem dX5_passDay_60 : decode cX5_passDay 60 = .ok (.aload_n 0, 1) := by decide +kernel
theorem dX5_passDay_61 : decode cX5_passDay 61 = .ok (.getfield 45, 3) := by decide +kernel
theorem dX5_passDay_64 : decode cX5_passDay 64 = .ok (.istore_n 2, 1) := by decide +kernel
theorem dX5_passDay_65 : decode cX5_passDay 65 = .ok (.iload_n 2, 1) := by decide +kernel
theorem dX5_passDay_66 : decode cX5_passDay 66 = .ok (.aload_n 0, 1) := by decide +kernel
theorem dX5_passDay_67 : decode cX5_passDay 67 = .ok (.getfield 38, 3) := by decide +kernel
theorem dX5_passDay_70 : decode cX5_passDay 70 = .ok (.if_icmp .gt 25, 3) := by decide +kernel
theorem dX5_passDay_73 : decode cX5_passDay 73 = .ok (.aload_n 0, 1) := by decide +kernel
theorem dX5_passDay_74 : decode cX5_passDay 74 = .ok (.getfield 21, 3) := by decide +kernel
theorem dX5_passDay_77 : decode cX5_passDay 77 = .ok (.iload_n 2, 1) := by decide +kernel
theorem dX5_passDay_78 : decode cX5_passDay 78 = .ok (.laload, 1) := by decide +kernel
theorem dX5_passDay_79 : decode cX5_passDay 79 = .ok (.lconst 0, 1) := by decide +kernel
theorem dX5_passDay_80 : decode cX5_passDay 80 = .ok (.lcmp, 1) := by decide +kernel
theorem dX5_passDay_81 : decode cX5_passDay 81 = .ok (.ifCond .eq 8, 3) := by decide +kernel
theorem dX5_passDay_84 : decode cX5_passDay 84 = .ok (.aload_n 0, 1) := by decide +kernel
theorem dX5_passDay_85 : decode cX5_passDay 85 = .ok (.iload_n 2, 1) := by decide +kernel
theorem dX5_passDay_86 : decode cX5_passDay 86 = .ok (.invokevirtual 150, 3) := by decide +kernel
theorem dX5_passDay_89 : decode cX5_passDay 89 = .ok (.iinc 2 1, 3) := by decide +kernel
theorem dX5_passDay_92 : decode cX5_passDay 92 = .ok (.goto (-27), 3) := by decide +kernel
theorem dX5_passDay_95 : decode cX5_passDay 95 = .ok (.aload_n 0, 1) := by decide +kernel
theorem dX5_passDay_96 : decode cX5_passDay 96 = .ok (.invokevirtual 127, 3) := by decide +kernel
theorem dX5_passDay_99 : decode cX5_passDay 99 = .ok (.return_, 1) := by decide +kernel
theorem dX5_spread_0 : decode cX5_spread 0 = .ok (.iconst 0, 1) := by decide +kernel
theorem dX5_spread_1 : decode cX5_spread 1 = .ok (.istore_n 2, 1) := by decide +kernel
theorem dX5_spread_2 : decode cX5_spread 2 = .ok (.iload_n 2, 1) := by decide +kernel
theorem dX5_spread_3 : decode cX5_spread 3 = .ok (.aload_n 0, 1) := by decide +kernel
theorem dX5_spread_4 : decode cX5_spread 4 = .ok (.getfield 52, 3) := by decide +kernel
theorem dX5_spread_7 : decode cX5_spread 7 = .ok (.getfield 92, 3) := by decide +kernel
theorem dX5_spread_10 : decode cX5_spread 10 = .ok (.if_icmp .ge 117, 3) := by decide +kernel
theorem dX5_spread_13 : decode cX5_spread 13 = .ok (.aload_n 0, 1) := by decide +kernel
theorem dX5_spread_14 : decode cX5_spread 14 = .ok (.getfield 21, 3) := by decide +kernel
theorem dX5_spread_17 : decode cX5_spread 17 = .ok (.iload_n 1, 1) := by decide +kernel
theorem dX5_spread_18 : decode cX5_spread 18 = .ok (.laload, 1) := by decide +kernel
theorem dX5_spread_19 : decode cX5_spread 19 = .ok (.aload_n 0, 1) := by decide +kernel
theorem dX5_spread_20 : decode cX5_spread 20 = .ok (.getfield 52, 3) := by decide +kernel
theorem dX5_spread_23 : decode cX5_spread 23 = .ok (.getfield 153, 3) := by decide +kernel
theorem dX5_spread_26 : decode cX5_spread 26 = .ok (.iload_n 2, 1) := by decide +kernel
theorem dX5_spread_27 : decode cX5_spread 27 = .ok (.iaload, 1) := by decide +kernel
theorem dX5_spread_28 : decode cX5_spread 28 = .ok (.i2l, 1) := by decide +kernel
theorem dX5_spread_29 : decode cX5_spread 29 = .ok (.lmul, 1) := by decide +kernel
theorem dX5_spread_30 : decode cX5_spread 30 = .ok (.lstore_n 3, 1) := by decide +kernel
theorem dX5_spread_31 : decode cX5_spread 31 = .ok (.aload_n 0, 1) := by decide +kernel
theorem dX5_spread_32 : decode cX5_spread 32 = .ok (.iload_n 1, 1) := by decide +kernel
theorem dX5_spread_33 : decode cX5_spread 33 = .ok (.iload_n 2, 1) := by decide +kernel
theorem dX5_spread_34 : decode cX5_spread 34 = .ok (.invokevirtual 101, 3) := by decide +kernel
theorem dX5_spread_37 : decode cX5_spread 37 = .ok (.istore 5, 2) := by decide +kernel
theorem dX5_spread_39 : decode cX5_spread 39 = .ok (.iload 5, 2) := by decide +kernel
theorem dX5_spread_41 : decode cX5_spread 41 = .ok (.ifCond .ge 16, 3) := by decide +kernel
theorem dX5_spread_44 : decode cX5_spread 44 = .ok (.aload_n 0, 1) := by decide +kernel
theorem dX5_spread_45 : decode cX5_spread 45 = .ok (.getfield 25, 3) := by decide +kernel
theorem dX5_spread_48 : decode cX5_spread 48 = .ok (.iload_n 1, 1) := by decide +kernel
theorem dX5_spread_49 : decode cX5_spread 49 = .ok (.dup2, 1) := by decide +kernel
theorem dX5_spread_50 : decode cX5_spread 50 = .ok (.laload, 1) := by decide +kernel
theorem dX5_spread_51 : decode cX5_spread 51 = .ok (.lload_n 3, 1) := by decide +kernel
theorem dX5_spread_52 : decode cX5_spread 52 = .ok (.ladd, 1) := by decide +kernel
theorem dX5_spread_53 : decode cX5_spread 53 = .ok (.lastore, 1) := by decide +kernel
theorem dX5_spread_54 : decode cX5_spread 54 = .ok (.goto 67, 3) := by decide +kernel
theorem dX5_spread_57 : decode cX5_spread 57 = .ok (.iload_n 1, 1) := by decide +kernel
theorem dX5_spread_58 : decode cX5_spread 58 = .ok (.iconst 1, 1) := by decide +kernel
theorem dX5_spread_59 : decode cX5_spread 59 = .ok (.iload 5, 2) := by decide +kernel
theorem dX5_spread_61 : decode cX5_spread 61 = .ok (.ishl, 1) := by decide +kernel
theorem dX5_spread_62 : decode cX5_spread 62 = .ok (.ior, 1) := by decide +kernel
theorem dX5_spread_63 : decode cX5_spread 63 = .ok (.istore 6, 2) := by decide +kernel
theorem dX5_spread_65 : decode cX5_spread 65 = .ok (.aload_n 0, 1) := by decide +kernel
theorem dX5_spread_66 : decode cX5_spread 66 = .ok (.getfield 25, 3) := by decide +kernel
theorem dX5_spread_69 : decode cX5_spread 69 = .ok (.iload 6, 2) := by decide +kernel
theorem dX5_spread_71 : decode cX5_spread 71 = .ok (.dup2, 1) := by decide +kernel
theorem dX5_spread_72 : decode cX5_spread 72 = .ok (.laload, 1) := by decide +kernel
theorem dX5_spread_73 : decode cX5_spread 73 = .ok (.lload_n 3, 1) := by decide +kernel
theorem dX5_spread_74 : decode cX5_spread 74 = .ok (.ladd, 1) := by decide +kernel
theorem dX5_spread_75 : decode cX5_spread 75 = .ok (.lastore, 1) := by decide +kernel
theorem dX5_spread_76 : decode cX5_spread 76 = .ok (.aload_n 0, 1) := by decide +kernel
theorem dX5_spread_77 : decode cX5_spread 77 = .ok (.dup, 1) := by decide +kernel
theorem dX5_spread_78 : decode cX5_spread 78 = .ok (.getfield 35, 3) := by decide +kernel
theorem dX5_spread_81 : decode cX5_spread 81 = .ok (.lload_n 3, 1) := by decide +kernel
theorem dX5_spread_82 : decode cX5_spread 82 = .ok (.aload_n 0, 1) := by decide +kernel
theorem dX5_spread_83 : decode cX5_spread 83 = .ok (.getfield 56, 3) := by decide +kernel
theorem dX5_spread_86 : decode cX5_spread 86 = .ok (.getfield 156, 3) := by decide +kernel
theorem dX5_spread_89 : decode cX5_spread 89 = .ok (.iload 5, 2) := by decide +kernel
theorem dX5_spread_91 : decode cX5_spread 91 = .ok (.iaload, 1) := by decide +kernel
theorem dX5_spread_92 : decode cX5_spread 92 = .ok (.i2l, 1) := by decide +kernel
theorem dX5_spread_93 : decode cX5_spread 93 = .ok (.lmul, 1) := by decide +kernel
theorem dX5_spread_94 : decode cX5_spread 94 = .ok (.ladd, 1) := by decide +kernel
theorem dX5_spread_95 : decode cX5_spread 95 = .ok (.putfield 35, 3) := by decide +kernel
theorem dX5_spread_98 : decode cX5_spread 98 = .ok (.aload_n 0, 1) := by decide +kernel
theorem dX5_spread_99 : decode cX5_spread 99 = .ok (.getfield 28, 3) := by decide +kernel
theorem dX5_spread_102 : decode cX5_spread 102 = .ok (.iload_n 2, 1) := by decide +kernel
theorem dX5_spread_103 : decode cX5_spread 103 = .ok (.dup2, 1) := by decide +kernel
theorem dX5_spread_104 : decode cX5_spread 104 = .ok (.laload, 1) := by decide +kernel
theorem dX5_spread_105 : decode cX5_spread 105 = .ok (.aload_n 0, 1) := by decide +kernel
theorem dX5_spread_106 : decode cX5_spread 106 = .ok (.iload 6, 2) := by decide +kernel
theorem dX5_spread_108 : decode cX5_spread 108 = .ok (.invokevirtual 109, 3) := by decide +kernel
theorem dX5_spread_111 : decode cX5_spread 111 = .ok (.ifCond .eq 7, 3) := by decide +kernel
theorem dX5_spread_114 : decode cX5_spread 114 = .ok (.lload_n 3, 1) := by decide +kernel
theorem dX5_spread_115 : decode cX5_spread 115 = .ok (.goto 4, 3) := by decide +kernel
theorem dX5_spread_118 : decode cX5_spread 118 = .ok (.lconst 0, 1) := by decide +kernel
theorem dX5_spread_119 : decode cX5_spread 119 = .ok (.ladd, 1) := by decide +kernel
theorem dX5_spread_120 : decode cX5_spread 120 = .ok (.lastore, 1) := by decide +kernel
theorem dX5_spread_121 : decode cX5_spread 121 = .ok (.iinc 2 1, 3) := by decide +kernel
theorem dX5_spread_124 : decode cX5_spread 124 = .ok (.goto (-122), 3) := by decide +kernel
theorem dX5_spread_127 : decode cX5_spread 127 = .ok (.return_, 1) := by decide +kernel
theorem dX6_init_0 : decode cX6_init 0 = .ok (.aload_n 0, 1) := by decide +kernel
theorem dX6_init_1 : decode cX6_init 1 = .ok (.invokespecial 3, 3) := by decide +kernel
theorem dX6_init_4 : decode cX6_init 4 = .ok (.aload_n 0, 1) := by decide +kernel
theorem dX6_init_5 : decode cX6_init 5 = .ok (.bipush 10, 2) := by decide +kernel
theorem dX6_init_7 : decode cX6_init 7 = .ok (.anewarray 9, 3) := by decide +kernel
theorem dX6_init_10 : decode cX6_init 10 = .ok (.putfield 11, 3) := by decide +kernel
theorem dX6_init_13 : decode cX6_init 13 = .ok (.aload_n 0, 1) := by decide +kernel
theorem dX6_init_14 : decode cX6_init 14 = .ok (.iconst 0, 1) := by decide +kernel
theorem dX6_init_15 : decode cX6_init 15 = .ok (.putfield 17, 3) := by decide +kernel
theorem dX6_init_18 : decode cX6_init 18 = .ok (.aload_n 0, 1) := by decide +kernel
theorem dX6_init_19 : decode cX6_init 19 = .ok (.iconst 0, 1) := by decide +kernel
theorem dX6_init_20 : decode cX6_init 20 = .ok (.putfield 21, 3) := by decide +kernel
theorem dX6_init_23 : decode cX6_init 23 = .ok (.iconst 0, 1) := by decide +kernel
theorem dX6_init_24 : decode cX6_init 24 = .ok (.istore_n 1, 1) := by decide +kernel
theorem dX6_init_25 : decode cX6_init 25 = .ok (.iload_n 1, 1) := by decide +kernel
theorem dX6_init_26 : decode cX6_init 26 = .ok (.aload_n 0, 1) := by decide +kernel
theorem dX6_init_27 : decode cX6_init 27 = .ok (.getfield 11, 3) := by decide +kernel
theorem dX6_init_30 : decode cX6_init 30 = .ok (.arraylength, 1) := by decide +kernel
theorem dX6_init_31 : decode cX6_init 31 = .ok (.if_icmp .ge 22, 3) := by decide +kernel
theorem dX6_init_34 : decode cX6_init 34 = .ok (.aload_n 0, 1) := by decide +kernel
theorem dX6_init_35 : decode cX6_init 35 = .ok (.getfield 11, 3) := by decide +kernel
theorem dX6_init_38 : decode cX6_init 38 = .ok (.iload_n 1, 1) := by decide +kernel
theorem dX6_init_39 : decode cX6_init 39 = .ok (.new 9, 3) := by decide +kernel
theorem dX6_init_42 : decode cX6_init 42 = .ok (.dup, 1) := by decide +kernel
theorem dX6_init_43 : decode cX6_init 43 = .ok (.invokespecial 24, 3) := by decide +kernel
theorem dX6_init_46 : decode cX6_init 46 = .ok (.aastore, 1) := by decide +kernel
theorem dX6_init_47 : decode cX6_init 47 = .ok (.iinc 1 1, 3) := by decide +kernel
theorem dX6_init_50 : decode cX6_init 50 = .ok (.goto (-25), 3) := by decide +kernel
theorem dX6_init_53 : decode cX6_init 53 = .ok (.return_, 1) := by decide +kernel
theorem dX6_clear_0 : decode cX6_clear 0 = .ok (.aload_n 0, 1) := by decide +kernel
theorem dX6_clear_1 : decode cX6_clear 1 = .ok (.iconst 0, 1) := by decide +kernel
theorem dX6_clear_2 : decode cX6_clear 2 = .ok (.putfield 21, 3) := by decide +kernel
theorem dX6_clear_5 : decode cX6_clear 5 = .ok (.return_, 1) := by decide +kernel
theorem dX6_keep_0 : decode cX6_keep 0 = .ok (.aload_n 0, 1) := by decide +kernel
theorem dX6_keep_1 : decode cX6_keep 1 = .ok (.getfield 11, 3) := by decide +kernel
theorem dX6_keep_4 : decode cX6_keep 4 = .ok (.aload_n 0, 1) := by decide +kernel
theorem dX6_keep_5 : decode cX6_keep 5 = .ok (.getfield 17, 3) := by decide +kernel
theorem dX6_keep_8 : decode cX6_keep 8 = .ok (.aaload, 1) := by decide +kernel
theorem dX6_keep_9 : decode cX6_keep 9 = .ok (.aload_n 1, 1) := by decide +kernel
theorem dX6_keep_10 : decode cX6_keep 10 = .ok (.invokevirtual 25, 3) := by decide +kernel
theorem dX6_keep_13 : decode cX6_keep 13 = .ok (.aload_n 0, 1) := by decide +kernel
theorem dX6_keep_14 : decode cX6_keep 14 = .ok (.aload_n 0, 1) := by decide +kernel
theorem dX6_keep_15 : decode cX6_keep 15 = .ok (.getfield 17, 3) := by decide +kernel
theorem dX6_keep_18 : decode cX6_keep 18 = .ok (.iconst 1, 1) := by decide +kernel
theorem dX6_keep_19 : decode cX6_keep 19 = .ok (.iadd, 1) := by decide +kernel
theorem dX6_keep_20 : decode cX6_keep 20 = .ok (.bipush 10, 2) := by decide +kernel
theorem dX6_keep_22 : decode cX6_keep 22 = .ok (.irem, 1) := by decide +kernel
theorem dX6_keep_23 : decode cX6_keep 23 = .ok (.putfield 17, 3) := by decide +kernel
theorem dX6_keep_26 : decode cX6_keep 26 = .ok (.aload_n 0, 1) := by decide +kernel
theorem dX6_keep_27 : decode cX6_keep 27 = .ok (.aload_n 0, 1) := by decide +kernel
theorem dX6_keep_28 : decode cX6_keep 28 = .ok (.getfield 21, 3) := by decide +kernel
theorem dX6_keep_31 : decode cX6_keep 31 = .ok (.iconst 1, 1) := by decide +kernel
theorem dX6_keep_32 : decode cX6_keep 32 = .ok (.iadd, 1) := by decide +kernel
theorem dX6_keep_33 : decode cX6_keep 33 = .ok (.bipush 10, 2) := by decide +kernel
theorem dX6_keep_35 : decode cX6_keep 35 = .ok (.invokestatic 29, 3) := by decide +kernel
theorem dX6_keep_38 : decode cX6_keep 38 = .ok (.putfield 21, 3) := by decide +kernel
theorem dX6_keep_41 : decode cX6_keep 41 = .ok (.return_, 1) := by decide +kernel
theorem dX6_bringBack_0 : decode cX6_bringBack 0 = .ok (.aload_n 0, 1) := by decide +kernel
theorem dX6_bringBack_1 : decode cX6_bringBack 1 = .ok (.aload_n 0, 1) := by decide +kernel
theorem dX6_bringBack_2 : decode cX6_bringBack 2 = .ok (.getfield 17, 3) := by decide +kernel
theorem dX6_bringBack_5 : decode cX6_bringBack 5 = .ok (.iload_n 1, 1) := by decide +kernel
theorem dX6_bringBack_6 : decode cX6_bringBack 6 = .ok (.isub, 1) := by decide +kernel
theorem dX6_bringBack_7 : decode cX6_bringBack 7 = .ok (.bipush 10, 2) := by decide +kernel
theorem dX6_bringBack_9 : decode cX6_bringBack 9 = .ok (.invokestatic 35, 3) := by decide +kernel
theorem dX6_bringBack_12 : decode cX6_bringBack 12 = .ok (.putfield 17, 3) := by decide +kernel
theorem dX6_bringBack_15 : decode cX6_bringBack 15 = .ok (.aload_n 0, 1) := by decide +kernel
theorem dX6_bringBack_16 : decode cX6_bringBack 16 = .ok (.dup, 1) := by decide +kernel
theorem dX6_bringBack_17 : decode cX6_bringBack 17 = .ok (.getfield 21, 3) := by decide +kernel
theorem dX6_bringBack_20 : decode cX6_bringBack 20 = .ok (.iload_n 1, 1) := by decide +kernel
theorem dX6_bringBack_21 : decode cX6_bringBack 21 = .ok (.isub, 1) := by decide +kernel
theorem dX6_bringBack_22 : decode cX6_bringBack 22 = .ok (.putfield 21, 3) := by decide +kernel
theorem dX6_bringBack_25 : decode cX6_bringBack 25 = .ok (.aload_n 2, 1) := by decide +kernel
theorem dX6_bringBack_26 : decode cX6_bringBack 26 = .ok (.aload_n 0, 1) := by decide +kernel
theorem dX6_bringBack_27 : decode cX6_bringBack 27 = .ok (.getfield 11, 3) := by decide +kernel
theorem dX6_bringBack_30 : decode cX6_bringBack 30 = .ok (.aload_n 0, 1) := by decide +kernel
theorem dX6_bringBack_31 : decode cX6_bringBack 31 = .ok (.getfield 17, 3) := by decide +kernel
theorem dX6_bringBack_34 : decode cX6_bringBack 34 = .ok (.aaload, 1) := by decide +kernel
theorem dX6_bringBack_35 : decode cX6_bringBack 35 = .ok (.invokevirtual 25, 3) := by decide +kernel
theorem dX6_bringBack_38 : decode cX6_bringBack 38 = .ok (.return_, 1) := by decide +kernel
theorem dX7_init_0 : decode cX7_init 0 = .ok (.aload_n 0, 1) := by decide +kernel
theorem dX7_init_1 : decode cX7_init 1 = .ok (.invokespecial 3, 3) := by decide +kernel
theorem dX7_init_4 : decode cX7_init 4 = .ok (.aload_n 0, 1) := by decide +kernel
theorem dX7_init_5 : decode cX7_init 5 = .ok (.iconst 0, 1) := by decide +kernel
theorem dX7_init_6 : decode cX7_init 6 = .ok (.putfield 9, 3) := by decide +kernel
theorem dX7_init_9 : decode cX7_init 9 = .ok (.aload_n 0, 1) := by decide +kernel
theorem dX7_init_10 : decode cX7_init 10 = .ok (.iconst 0, 1) := by decide +kernel
theorem dX7_init_11 : decode cX7_init 11 = .ok (.putfield 15, 3) := by decide +kernel
theorem dX7_init_14 : decode cX7_init 14 = .ok (.aload_n 0, 1) := by decide +kernel
theorem dX7_init_15 : decode cX7_init 15 = .ok (.bipush 6, 2) := by decide +kernel
theorem dX7_init_17 : decode cX7_init 17 = .ok (.newarray .int, 2) := by decide +kernel
theorem dX7_init_19 : decode cX7_init 19 = .ok (.putfield 18, 3) := by decide +kernel
theorem dX7_init_22 : decode cX7_init 22 = .ok (.aload_n 0, 1) := by decide +kernel
theorem dX7_init_23 : decode cX7_init 23 = .ok (.bipush 6, 2) := by decide +kernel
theorem dX7_init_25 : decode cX7_init 25 = .ok (.newarray .int, 2) := by decide +kernel
theorem dX7_init_27 : decode cX7_init 27 = .ok (.putfield 22, 3) := by decide +kernel
theorem dX7_init_30 : decode cX7_init 30 = .ok (.aload_n 0, 1) := by decide +kernel
theorem dX7_init_31 : decode cX7_init 31 = .ok (.bipush 6, 2) := by decide +kernel
theorem dX7_init_33 : decode cX7_init 33 = .ok (.newarray .int, 2) := by decide +kernel
theorem dX7_init_35 : decode cX7_init 35 = .ok (.putfield 25, 3) := by decide +kernel
theorem dX7_init_38 : decode cX7_init 38 = .ok (.aload_n 0, 1) := by decide +kernel
theorem dX7_init_39 : decode cX7_init 39 = .ok (.sipush 900, 3) := by decide +kernel
theorem dX7_init_42 : decode cX7_init 42 = .ok (.newarray .int, 2) := by decide +kernel
theorem dX7_init_44 : decode cX7_init 44 = .ok (.putfield 28, 3) := by decide +kernel
theorem dX7_init_47 : decode cX7_init 47 = .ok (.aload_n 0, 1) := by decide +kernel
theorem dX7_init_48 : decode cX7_init 48 = .ok (.iconst 0, 1) := by decide +kernel
theorem dX7_init_49 : decode cX7_init 49 = .ok (.putfield 31, 3) := by decide +kernel
theorem dX7_init_52 : decode cX7_init 52 = .ok (.aload_n 0, 1) := by decide +kernel
theorem dX7_init_53 : decode cX7_init 53 = .ok (.iconst 0, 1) := by decide +kernel
theorem dX7_init_54 : decode cX7_init 54 = .ok (.putfield 34, 3) := by decide +kernel
theorem dX7_init_57 : decode cX7_init 57 = .ok (.aload_n 0, 1) := by decide +kernel
theorem dX7_init_58 : decode cX7_init 58 = .ok (.iconst 0, 1) := by decide +kernel
theorem dX7_init_59 : decode cX7_init 59 = .ok (.putfield 37, 3) := by decide +kernel
theorem dX7_init_62 : decode cX7_init 62 = .ok (.aload_n 0, 1) := by decide +kernel
theorem dX7_init_63 : decode cX7_init 63 = .ok (.iconst 0, 1) := by decide +kernel
theorem dX7_init_64 : decode cX7_init 64 = .ok (.putfield 40, 3) := by decide +kernel
theorem dX7_init_67 : decode cX7_init 67 = .ok (.aload_n 0, 1) := by decide +kernel
theorem dX7_init_68 : decode cX7_init 68 = .ok (.iconst 0, 1) := by decide +kernel
theorem dX7_init_69 : decode cX7_init 69 = .ok (.putfield 43, 3) := by decide +kernel
theorem dX7_init_72 : decode cX7_init 72 = .ok (.return_, 1) := by decide +kernel
theorem dX7_clear_0 : decode cX7_clear 0 = .ok (.aload_n 0, 1) := by decide +kernel
theorem dX7_clear_1 : decode cX7_clear 1 = .ok (.iconst 0, 1) := by decide +kernel
theorem dX7_clear_2 : decode cX7_clear 2 = .ok (.putfield 9, 3) := by decide +kernel
theorem dX7_clear_5 : decode cX7_clear 5 = .ok (.aload_n 0, 1) := by decide +kernel
theorem dX7_clear_6 : decode cX7_clear 6 = .ok (.iconst 0, 1) := by decide +kernel
theorem dX7_clear_7 : decode cX7_clear 7 = .ok (.putfield 15, 3) := by decide +kernel
theorem dX7_clear_10 : decode cX7_clear 10 = .ok (.aload_n 0, 1) := by decide +kernel
theorem dX7_clear_11 : decode cX7_clear 11 = .ok (.iconst 0, 1) := by decide +kernel
theorem dX7_clear_12 : decode cX7_clear 12 = .ok (.putfield 31, 3) := by decide +kernel
theorem dX7_clear_15 : decode cX7_clear 15 = .ok (.aload_n 0, 1) := by decide +kernel
theorem dX7_clear_16 : decode cX7_clear 16 = .ok (.iconst 0, 1) := by decide +kernel
theorem dX7_clear_17 : decode cX7_clear 17 = .ok (.putfield 34, 3) := by decide +kernel
theorem dX7_clear_20 : decode cX7_clear 20 = .ok (.aload_n 0, 1) := by decide +kernel
theorem dX7_clear_21 : decode cX7_clear 21 = .ok (.iconst 0, 1) := by decide +kernel
theorem dX7_clear_22 : decode cX7_clear 22 = .ok (.putfield 37, 3) := by decide +kernel
theorem dX7_clear_25 : decode cX7_clear 25 = .ok (.aload_n 0, 1) := by decide +kernel
theorem dX7_clear_26 : decode cX7_clear 26 = .ok (.iconst 0, 1) := by decide +kernel
theorem dX7_clear_27 : decode cX7_clear 27 = .ok (.putfield 40, 3) := by decide +kernel
theorem dX7_clear_30 : decode cX7_clear 30 = .ok (.aload_n 0, 1) := by decide +kernel
theorem dX7_clear_31 : decode cX7_clear 31 = .ok (.iconst 0, 1) := by decide +kernel
theorem dX7_clear_32 : decode cX7_clear 32 = .ok (.putfield 43, 3) := by decide +kernel
theorem dX7_clear_35 : decode cX7_clear 35 = .ok (.return_, 1) := by decide +kernel
theorem dX7_copyFrom_0 : decode cX7_copyFrom 0 = .ok (.aload_n 0, 1) := by decide +kernel
theorem dX7_copyFrom_1 : decode cX7_copyFrom 1 = .ok (.aload_n 1, 1) := by decide +kernel
theorem dX7_copyFrom_2 : decode cX7_copyFrom 2 = .ok (.getfield 9, 3) := by decide +kernel
theorem dX7_copyFrom_5 : decode cX7_copyFrom 5 = .ok (.putfield 9, 3) := by decide +kernel
theorem dX7_copyFrom_8 : decode cX7_copyFrom 8 = .ok (.aload_n 0, 1) := by decide +kernel
theorem dX7_copyFrom_9 : decode cX7_copyFrom 9 = .ok (.aload_n 1, 1) := by decide +kernel
theorem dX7_copyFrom_10 : decode cX7_copyFrom 10 = .ok (.getfield 15, 3) := by decide +kernel
theorem dX7_copyFrom_13 : decode cX7_copyFrom 13 = .ok (.putfield 15, 3) := by decide +kernel
theorem dX7_copyFrom_16 : decode cX7_copyFrom 16 = .ok (.aload_n 0, 1) := by decide +kernel
theorem dX7_copyFrom_17 : decode cX7_copyFrom 17 = .ok (.aload_n 1, 1) := by decide +kernel
theorem dX7_copyFrom_18 : decode cX7_copyFrom 18 = .ok (.getfield 31, 3) := by decide +kernel
theorem dX7_copyFrom_21 : decode cX7_copyFrom 21 = .ok (.putfield 31, 3) := by decide +kernel
theorem dX7_copyFrom_24 : decode cX7_copyFrom 24 = .ok (.aload_n 0, 1) := by decide +kernel
theorem dX7_copyFrom_25 : decode cX7_copyFrom 25 = .ok (.aload_n 1, 1) := by decide +kernel
theorem dX7_copyFrom_26 : decode cX7_copyFrom 26 = .ok (.getfield 34, 3) := by decide +kernel
theorem dX7_copyFrom_29 : decode cX7_copyFrom 29 = .ok (.putfield 34, 3) := by decide +kernel
theorem dX7_copyFrom_32 : decode cX7_copyFrom 32 = .ok (.aload_n 0, 1) := by decide +kernel
theorem dX7_copyFrom_33 : decode cX7_copyFrom 33 = .ok (.aload_n 1, 1) := by decide +kernel
theorem dX7_copyFrom_34 : decode cX7_copyFrom 34 = .ok (.getfield 37, 3) := by decide +kernel
theorem dX7_copyFrom_37 : decode cX7_copyFrom 37 = .ok (.putfield 37, 3) := by decide +kernel
theorem dX7_copyFrom_40 : decode cX7_copyFrom 40 = .ok (.aload_n 0, 1) := by decide +kernel
theorem dX7_copyFrom_41 : decode cX7_copyFrom 41 = .ok (.aload_n 1, 1) := by decide +kernel
theorem dX7_copyFrom_42 : decode cX7_copyFrom 42 = .ok (.getfield 40, 3) := by decide +kernel
theorem dX7_copyFrom_45 : decode cX7_copyFrom 45 = .ok (.putfield 40, 3) := by decide +kernel
theorem dX7_copyFrom_48 : decode cX7_copyFrom 48 = .ok (.aload_n 0, 1) := by decide +kernel
theorem dX7_copyFrom_49 : decode cX7_copyFrom 49 = .ok (.aload_n 1, 1) := by decide +kernel
theorem dX7_copyFrom_50 : decode cX7_copyFrom 50 = .ok (.getfield 43, 3) := by decide +kernel
theorem dX7_copyFrom_53 : decode cX7_copyFrom 53 = .ok (.putfield 43, 3) := by decide +kernel
theorem dX7_copyFrom_56 : decode cX7_copyFrom 56 = .ok (.iconst 0, 1) := by decide +kernel
theorem dX7_copyFrom_57 : decode cX7_copyFrom 57 = .ok (.istore_n 2, 1) := by decide +kernel
theorem dX7_copyFrom_58 : decode cX7_copyFrom 58 = .ok (.iload_n 2, 1) := by decide +kernel
theorem dX7_copyFrom_59 : decode cX7_copyFrom 59 = .ok (.bipush 6, 2) := by decide +kernel
theorem dX7_copyFrom_61 : decode cX7_copyFrom 61 = .ok (.if_icmp .ge 45, 3) := by decide +kernel
theorem dX7_copyFrom_64 : decode cX7_copyFrom 64 = .ok (.aload_n 0, 1) := by decide +kernel
theorem dX7_copyFrom_65 : decode cX7_copyFrom 65 = .ok (.getfield 18, 3) := by decide +kernel
theorem dX7_copyFrom_68 : decode cX7_copyFrom 68 = .ok (.iload_n 2, 1) := by decide +kernel
theorem dX7_copyFrom_69 : decode cX7_copyFrom 69 = .ok (.aload_n 1, 1) := by decide +kernel
theorem dX7_copyFrom_70 : decode cX7_copyFrom 70 = .ok (.getfield 18, 3) := by decide +kernel
theorem dX7_copyFrom_73 : decode cX7_copyFrom 73 = .ok (.iload_n 2, 1) := by decide +kernel
theorem dX7_copyFrom_74 : decode cX7_copyFrom 74 = .ok (.iaload, 1) := by decide +kernel
theorem dX7_copyFrom_75 : decode cX7_copyFrom 75 = .ok (.iastore, 1) := by decide +kernel
theorem dX7_copyFrom_76 : decode cX7_copyFrom 76 = .ok (.aload_n 0, 1) := by decide +kernel
theorem dX7_copyFrom_77 : decode cX7_copyFrom 77 = .ok (.getfield 22, 3) := by decide +kernel
theorem dX7_copyFrom_80 : decode cX7_copyFrom 80 = .ok (.iload_n 2, 1) := by decide +kernel
theorem dX7_copyFrom_81 : decode cX7_copyFrom 81 = .ok (.aload_n 1, 1) := by decide +kernel
theorem dX7_copyFrom_82 : decode cX7_copyFrom 82 = .ok (.getfield 22, 3) := by decide +kernel
theorem dX7_copyFrom_85 : decode cX7_copyFrom 85 = .ok (.iload_n 2, 1) := by decide +kernel
theorem dX7_copyFrom_86 : decode cX7_copyFrom 86 = .ok (.iaload, 1) := by decide +kernel
theorem dX7_copyFrom_87 : decode cX7_copyFrom 87 = .ok (.iastore, 1) := by decide +kernel
theorem dX7_copyFrom_88 : decode cX7_copyFrom 88 = .ok (.aload_n 0, 1) := by decide +kernel
theorem dX7_copyFrom_89 : decode cX7_copyFrom 89 = .ok (.getfield 25, 3) := by decide +kernel
theorem dX7_copyFrom_92 : decode cX7_copyFrom 92 = .ok (.iload_n 2, 1) := by decide +kernel
theorem dX7_copyFrom_93 : decode cX7_copyFrom 93 = .ok (.aload_n 1, 1) := by decide +kernel
theorem dX7_copyFrom_94 : decode cX7_copyFrom 94 = .ok (.getfield 25, 3) := by decide +kernel
theorem dX7_copyFrom_97 : decode cX7_copyFrom 97 = .ok (.iload_n 2, 1) := by decide +kernel
theorem dX7_copyFrom_98 : decode cX7_copyFrom 98 = .ok (.iaload, 1) := by decide +kernel
theorem dX7_copyFrom_99 : decode cX7_copyFrom 99 = .ok (.iastore, 1) := by decide +kernel
theorem dX7_copyFrom_100 : decode cX7_copyFrom 100 = .ok (.iinc 2 1, 3) := by decide +kernel
theorem dX7_copyFrom_103 : decode cX7_copyFrom 103 = .ok (.goto (-45), 3) := by decide +kernel
theorem dX7_copyFrom_106 : decode cX7_copyFrom 106 = .ok (.iconst 0, 1) := by decide +kernel
theorem dX7_copyFrom_107 : decode cX7_copyFrom 107 = .ok (.istore_n 2, 1) := by decide +kernel
theorem dX7_copyFrom_108 : decode cX7_copyFrom 108 = .ok (.iload_n 2, 1) := by decide +kernel
theorem dX7_copyFrom_109 : decode cX7_copyFrom 109 = .ok (.aload_n 0, 1) := by decide +kernel
theorem dX7_copyFrom_110 : decode cX7_copyFrom 110 = .ok (.getfield 31, 3) := by decide +kernel
theorem dX7_copyFrom_113 : decode cX7_copyFrom 113 = .ok (.if_icmp .ge 30, 3) := by decide +kernel
theorem dX7_copyFrom_116 : decode cX7_copyFrom 116 = .ok (.iload_n 2, 1) := by decide +kernel
theorem dX7_copyFrom_117 : decode cX7_copyFrom 117 = .ok (.aload_n 0, 1) := by decide +kernel
theorem dX7_copyFrom_118 : decode cX7_copyFrom 118 = .ok (.getfield 28, 3) := by decide +kernel
theorem dX7_copyFrom_121 : decode cX7_copyFrom 121 = .ok (.arraylength, 1) := by decide +kernel
theorem dX7_copyFrom_122 : decode cX7_copyFrom 122 = .ok (.if_icmp .ge 21, 3) := by decide +kernel
theorem dX7_copyFrom_125 : decode cX7_copyFrom 125 = .ok (.aload_n 0, 1) := by decide +kernel
theorem dX7_copyFrom_126 : decode cX7_copyFrom 126 = .ok (.getfield 28, 3) := by decide +kernel
theorem dX7_copyFrom_129 : decode cX7_copyFrom 129 = .ok (.iload_n 2, 1) := by decide +kernel
theorem dX7_copyFrom_130 : decode cX7_copyFrom 130 = .ok (.aload_n 1, 1) := by decide +kernel
theorem dX7_copyFrom_131 : decode cX7_copyFrom 131 = .ok (.getfield 28, 3) := by decide +kernel
theorem dX7_copyFrom_134 : decode cX7_copyFrom 134 = .ok (.iload_n 2, 1) := by decide +kernel
theorem dX7_copyFrom_135 : decode cX7_copyFrom 135 = .ok (.iaload, 1) := by decide +kernel
theorem dX7_copyFrom_136 : decode cX7_copyFrom 136 = .ok (.iastore, 1) := by decide +kernel
theorem dX7_copyFrom_137 : decode cX7_copyFrom 137 = .ok (.iinc 2 1, 3) := by decide +kernel
theorem dX7_copyFrom_140 : decode cX7_copyFrom 140 = .ok (.goto (-32), 3) := by decide +kernel
theorem dX7_copyFrom_143 : decode cX7_copyFrom 143 = .ok (.return_, 1) := by decide +kernel
theorem dX7_together_0 : decode cX7_together 0 = .ok (.iconst 0, 1) := by decide +kernel
theorem dX7_together_1 : decode cX7_together 1 = .ok (.istore_n 1, 1) := by decide +kernel
theorem dX7_together_2 : decode cX7_together 2 = .ok (.iconst 0, 1) := by decide +kernel
theorem dX7_together_3 : decode cX7_together 3 = .ok (.istore_n 2, 1) := by decide +kernel
theorem dX7_together_4 : decode cX7_together 4 = .ok (.iload_n 2, 1) := by decide +kernel
theorem dX7_together_5 : decode cX7_together 5 = .ok (.aload_n 0, 1) := by decide +kernel
theorem dX7_together_6 : decode cX7_together 6 = .ok (.getfield 9, 3) := by decide +kernel
theorem dX7_together_9 : decode cX7_together 9 = .ok (.if_icmp .ge 18, 3) := by decide +kernel
theorem dX7_together_12 : decode cX7_together 12 = .ok (.iload_n 1, 1) := by decide +kernel
theorem dX7_together_13 : decode cX7_together 13 = .ok (.aload_n 0, 1) := by decide +kernel
theorem dX7_together_14 : decode cX7_together 14 = .ok (.getfield 25, 3) := by decide +kernel
theorem dX7_together_17 : decode cX7_together 17 = .ok (.iload_n 2, 1) := by decide +kernel
theorem dX7_together_18 : decode cX7_together 18 = .ok (.iaload, 1) := by decide +kernel
theorem dX7_together_19 : decode cX7_together 19 = .ok (.iadd, 1) := by decide +kernel
theorem dX7_together_20 : decode cX7_together 20 = .ok (.istore_n 1, 1) := by decide +kernel
theorem dX7_together_21 : decode cX7_together 21 = .ok (.iinc 2 1, 3) := by decide +kernel
theorem dX7_together_24 : decode cX7_together 24 = .ok (.goto (-20), 3) := by decide +kernel
theorem dX7_together_27 : decode cX7_together 27 = .ok (.iload_n 1, 1) := by decide +kernel
theorem dX7_together_28 : decode cX7_together 28 = .ok (.ireturn, 1) := by decide +kernel
theorem dX7_comerFor_0 : decode cX7_comerFor 0 = .ok (.iconst 0, 1) := by decide +kernel
theorem dX7_comerFor_1 : decode cX7_comerFor 1 = .ok (.istore_n 2, 1) := by decide +kernel
theorem dX7_comerFor_2 : decode cX7_comerFor 2 = .ok (.iconst 0, 1) := by decide +kernel
theorem dX7_comerFor_3 : decode cX7_comerFor 3 = .ok (.istore_n 3, 1) := by decide +kernel
theorem dX7_comerFor_4 : decode cX7_comerFor 4 = .ok (.iload_n 3, 1) := by decide +kernel
theorem dX7_comerFor_5 : decode cX7_comerFor 5 = .ok (.aload_n 0, 1) := by decide +kernel
theorem dX7_comerFor_6 : decode cX7_comerFor 6 = .ok (.getfield 9, 3) := by decide +kernel
theorem dX7_comerFor_9 : decode cX7_comerFor 9 = .ok (.if_icmp .ge 25, 3) := by decide +kernel
theorem dX7_comerFor_12 : decode cX7_comerFor 12 = .ok (.iload_n 2, 1) := by decide +kernel
theorem dX7_comerFor_13 : decode cX7_comerFor 13 = .ok (.aload_n 0, 1) := by decide +kernel
theorem dX7_comerFor_14 : decode cX7_comerFor 14 = .ok (.getfield 25, 3) := by decide +kernel
theorem dX7_comerFor_17 : decode cX7_comerFor 17 = .ok (.iload_n 3, 1) := by decide +kernel
theorem dX7_comerFor_18 : decode cX7_comerFor 18 = .ok (.iaload, 1) := by decide +kernel
theorem dX7_comerFor_19 : decode cX7_comerFor 19 = .ok (.iadd, 1) := by decide +kernel
theorem dX7_comerFor_20 : decode cX7_comerFor 20 = .ok (.istore_n 2, 1) := by decide +kernel
theorem dX7_comerFor_21 : decode cX7_comerFor 21 = .ok (.iload_n 2, 1) := by decide +kernel
theorem dX7_comerFor_22 : decode cX7_comerFor 22 = .ok (.iload_n 1, 1) := by decide +kernel
theorem dX7_comerFor_23 : decode cX7_comerFor 23 = .ok (.if_icmp .le 5, 3) := by decide +kernel
theorem dX7_comerFor_26 : decode cX7_comerFor 26 = .ok (.iload_n 3, 1) := by decide +kernel
theorem dX7_comerFor_27 : decode cX7_comerFor 27 = .ok (.ireturn, 1) := by decide +kernel
theorem dX7_comerFor_28 : decode cX7_comerFor 28 = .ok (.iinc 3 1, 3) := by decide +kernel
theorem dX7_comerFor_31 : decode cX7_comerFor 31 = .ok (.goto (-27), 3) := by decide +kernel
theorem dX7_comerFor_34 : decode cX7_comerFor 34 = .ok (.iconst (-1), 1) := by decide +kernel
theorem dX7_comerFor_35 : decode cX7_comerFor 35 = .ok (.ireturn, 1) := by decide +kernel
theorem dX8_init_0 : decode cX8_init 0 = .ok (.aload_n 0, 1) := by decide +kernel
theorem dX8_init_1 : decode cX8_init 1 = .ok (.invokespecial 3, 3) := by decide +kernel
theorem dX8_init_4 : decode cX8_init 4 = .ok (.aload_n 0, 1) := by decide +kernel
theorem dX8_init_5 : decode cX8_init 5 = .ok (.sipush 901, 3) := by decide +kernel
theorem dX8_init_8 : decode cX8_init 8 = .ok (.newarray .int, 2) := by decide +kernel
theorem dX8_init_10 : decode cX8_init 10 = .ok (.putfield 9, 3) := by decide +kernel
theorem dX8_init_13 : decode cX8_init 13 = .ok (.aload_n 0, 1) := by decide +kernel
theorem dX8_init_14 : decode cX8_init 14 = .ok (.sipush 901, 3) := by decide +kernel
theorem dX8_init_17 : decode cX8_init 17 = .ok (.newarray .int, 2) := by decide +kernel
theorem dX8_init_19 : decode cX8_init 19 = .ok (.putfield 15, 3) := by decide +kernel
theorem dX8_init_22 : decode cX8_init 22 = .ok (.aload_n 0, 1) := by decide +kernel
theorem dX8_init_23 : decode cX8_init 23 = .ok (.iconst 0, 1) := by decide +kernel
theorem dX8_init_24 : decode cX8_init 24 = .ok (.putfield 18, 3) := by decide +kernel
theorem dX8_init_27 : decode cX8_init 27 = .ok (.aload_n 0, 1) := by decide +kernel
theorem dX8_init_28 : decode cX8_init 28 = .ok (.iconst 0, 1) := by decide +kernel
theorem dX8_init_29 : decode cX8_init 29 = .ok (.putfield 22, 3) := by decide +kernel
theorem dX8_init_32 : decode cX8_init 32 = .ok (.aload_n 0, 1) := by decide +kernel
theorem dX8_init_33 : decode cX8_init 33 = .ok (.iconst (-1), 1) := by decide +kernel
theorem dX8_init_34 : decode cX8_init 34 = .ok (.putfield 25, 3) := by decide +kernel
theorem dX8_init_37 : decode cX8_init 37 = .ok (.aload_n 0, 1) := by decide +kernel
theorem dX8_init_38 : decode cX8_init 38 = .ok (.aload_n 1, 1) := by decide +kernel
theorem dX8_init_39 : decode cX8_init 39 = .ok (.putfield 28, 3) := by decide +kernel
theorem dX8_init_42 : decode cX8_init 42 = .ok (.aload_n 0, 1) := by decide +kernel
theorem dX8_init_43 : decode cX8_init 43 = .ok (.aload_n 2, 1) := by decide +kernel
theorem dX8_init_44 : decode cX8_init 44 = .ok (.putfield 32, 3) := by decide +kernel
theorem dX8_init_47 : decode cX8_init 47 = .ok (.return_, 1) := by decide +kernel
theorem dX8_read_0 : decode cX8_read 0 = .ok (.aload_n 0, 1) := by decide +kernel
theorem dX8_read_1 : decode cX8_read 1 = .ok (.aload_n 3, 1) := by decide +kernel
theorem dX8_read_2 : decode cX8_read 2 = .ok (.putfield 28, 3) := by decide +kernel
theorem dX8_read_5 : decode cX8_read 5 = .ok (.aload_n 0, 1) := by decide +kernel
theorem dX8_read_6 : decode cX8_read 6 = .ok (.aload 4, 2) := by decide +kernel
theorem dX8_read_8 : decode cX8_read 8 = .ok (.putfield 32, 3) := by decide +kernel
theorem dX8_read_11 : decode cX8_read 11 = .ok (.aload_n 0, 1) := by decide +kernel
theorem dX8_read_12 : decode cX8_read 12 = .ok (.getfield 28, 3) := by decide +kernel
theorem dX8_read_15 : decode cX8_read 15 = .ok (.invokevirtual 36, 3) := by decide +kernel
theorem dX8_read_18 : decode cX8_read 18 = .ok (.aload_n 0, 1) := by decide +kernel
theorem dX8_read_19 : decode cX8_read 19 = .ok (.getfield 32, 3) := by decide +kernel
theorem dX8_read_22 : decode cX8_read 22 = .ok (.invokevirtual 41, 3) := by decide +kernel
theorem dX8_read_25 : decode cX8_read 25 = .ok (.aload_n 0, 1) := by decide +kernel
theorem dX8_read_26 : decode cX8_read 26 = .ok (.aload_n 1, 1) := by decide +kernel
theorem dX8_read_27 : decode cX8_read 27 = .ok (.iload_n 2, 1) := by decide +kernel
theorem dX8_read_28 : decode cX8_read 28 = .ok (.invokevirtual 44, 3) := by decide +kernel
theorem dX8_read_31 : decode cX8_read 31 = .ok (.aload_n 0, 1) := by decide +kernel
theorem dX8_read_32 : decode cX8_read 32 = .ok (.iconst 0, 1) := by decide +kernel
theorem dX8_read_33 : decode cX8_read 33 = .ok (.putfield 18, 3) := by decide +kernel
theorem dX8_read_36 : decode cX8_read 36 = .ok (.aload_n 0, 1) := by decide +kernel
theorem dX8_read_37 : decode cX8_read 37 = .ok (.iconst 0, 1) := by decide +kernel
theorem dX8_read_38 : decode cX8_read 38 = .ok (.putfield 22, 3) := by decide +kernel
theorem dX8_read_41 : decode cX8_read 41 = .ok (.aload_n 0, 1) := by decide +kernel
theorem dX8_read_42 : decode cX8_read 42 = .ok (.iconst (-1), 1) := by decide +kernel
theorem dX8_read_43 : decode cX8_read 43 = .ok (.putfield 25, 3) := by decide +kernel
theorem dX8_read_46 : decode cX8_read 46 = .ok (.aload_n 0, 1) := by decide +kernel
theorem dX8_read_47 : decode cX8_read 47 = .ok (.sipush 1008, 3) := by decide +kernel
theorem dX8_read_50 : decode cX8_read 50 = .ok (.invokevirtual 50, 3) := by decide +kernel
theorem dX8_read_53 : decode cX8_read 53 = .ok (.aload_n 0, 1) := by decide +kernel
theorem dX8_read_54 : decode cX8_read 54 = .ok (.invokevirtual 54, 3) := by decide +kernel
theorem dX8_read_57 : decode cX8_read 57 = .ok (.iconst 0, 1) := by decide +kernel
theorem dX8_read_58 : decode cX8_read 58 = .ok (.istore 5, 2) := by decide +kernel
theorem dX8_read_60 : decode cX8_read 60 = .ok (.iload 5, 2) := by decide +kernel
theorem dX8_read_62 : decode cX8_read 62 = .ok (.sipush 900, 3) := by decide +kernel
theorem dX8_read_65 : decode cX8_read 65 = .ok (.if_icmp .ge 34, 3) := by decide +kernel
theorem dX8_read_68 : decode cX8_read 68 = .ok (.aload_n 0, 1) := by decide +kernel
theorem dX8_read_69 : decode cX8_read 69 = .ok (.getfield 22, 3) := by decide +kernel
theorem dX8_read_72 : decode cX8_read 72 = .ok (.ifCond .ne 27, 3) := by decide +kernel
theorem dX8_read_75 : decode cX8_read 75 = .ok (.aload_n 0, 1) := by decide +kernel
theorem dX8_read_76 : decode cX8_read 76 = .ok (.invokevirtual 57, 3) := by decide +kernel
theorem dX8_read_79 : decode cX8_read 79 = .ok (.sipush 3001, 3) := by decide +kernel
theorem dX8_read_82 : decode cX8_read 82 = .ok (.if_icmp .eq 17, 3) := by decide +kernel
theorem dX8_read_85 : decode cX8_read 85 = .ok (.aload_n 0, 1) := by decide +kernel
theorem dX8_read_86 : decode cX8_read 86 = .ok (.invokevirtual 61, 3) := by decide +kernel
theorem dX8_read_89 : decode cX8_read 89 = .ok (.aload_n 0, 1) := by decide +kernel
theorem dX8_read_90 : decode cX8_read 90 = .ok (.invokevirtual 54, 3) := by decide +kernel
theorem dX8_read_93 : decode cX8_read 93 = .ok (.iinc 5 1, 3) := by decide +kernel
theorem dX8_read_96 : decode cX8_read 96 = .ok (.goto (-36), 3) := by decide +kernel
theorem dX8_read_99 : decode cX8_read 99 = .ok (.return_, 1) := by decide +kernel
theorem dX8_split_0 : decode cX8_split 0 = .ok (.iconst 0, 1) := by decide +kernel
theorem dX8_split_1 : decode cX8_split 1 = .ok (.istore_n 3, 1) := by decide +kernel
theorem dX8_split_2 : decode cX8_split 2 = .ok (.iconst 0, 1) := by decide +kernel
theorem dX8_split_3 : decode cX8_split 3 = .ok (.istore 4, 2) := by decide +kernel
theorem dX8_split_5 : decode cX8_split 5 = .ok (.iconst 1, 1) := by decide +kernel
theorem dX8_split_6 : decode cX8_split 6 = .ok (.istore 5, 2) := by decide +kernel
theorem dX8_split_8 : decode cX8_split 8 = .ok (.iload 4, 2) := by decide +kernel
theorem dX8_split_10 : decode cX8_split 10 = .ok (.iload_n 2, 1) := by decide +kernel
theorem dX8_split_11 : decode cX8_split 11 = .ok (.if_icmp .ge 98, 3) := by decide +kernel
theorem dX8_split_14 : decode cX8_split 14 = .ok (.iload 4, 2) := by decide +kernel
theorem dX8_split_16 : decode cX8_split 16 = .ok (.aload_n 1, 1) := by decide +kernel
theorem dX8_split_17 : decode cX8_split 17 = .ok (.arraylength, 1) := by decide +kernel
theorem dX8_split_18 : decode cX8_split 18 = .ok (.if_icmp .ge 91, 3) := by decide +kernel
theorem dX8_split_21 : decode cX8_split 21 = .ok (.iload 5, 2) := by decide +kernel
theorem dX8_split_23 : decode cX8_split 23 = .ok (.ifCond .eq 86, 3) := by decide +kernel
theorem dX8_split_26 : decode cX8_split 26 = .ok (.iload 4, 2) := by decide +kernel
theorem dX8_split_28 : decode cX8_split 28 = .ok (.iconst 1, 1) := by decide +kernel
theorem dX8_split_29 : decode cX8_split 29 = .ok (.iadd, 1) := by decide +kernel
theorem dX8_split_30 : decode cX8_split 30 = .ok (.istore 6, 2) := by decide +kernel
theorem dX8_split_32 : decode cX8_split 32 = .ok (.aload_n 1, 1) := by decide +kernel
theorem dX8_split_33 : decode cX8_split 33 = .ok (.iload 4, 2) := by decide +kernel
theorem dX8_split_35 : decode cX8_split 35 = .ok (.iaload, 1) := by decide +kernel
theorem dX8_split_36 : decode cX8_split 36 = .ok (.invokestatic 64, 3) := by decide +kernel
theorem dX8_split_39 : decode cX8_split 39 = .ok (.ifCond .ne 56, 3) := by decide +kernel
theorem dX8_split_42 : decode cX8_split 42 = .ok (.aload_n 1, 1) := by decide +kernel
theorem dX8_split_43 : decode cX8_split 43 = .ok (.iload 4, 2) := by decide +kernel
theorem dX8_split_45 : decode cX8_split 45 = .ok (.iload_n 2, 1) := by decide +kernel
theorem dX8_split_46 : decode cX8_split 46 = .ok (.invokestatic 68, 3) := by decide +kernel
theorem dX8_split_49 : decode cX8_split 49 = .ok (.istore 6, 2) := by decide +kernel
theorem dX8_split_51 : decode cX8_split 51 = .ok (.aload_n 0, 1) := by decide +kernel
theorem dX8_split_52 : decode cX8_split 52 = .ok (.getfield 15, 3) := by decide +kernel
theorem dX8_split_55 : decode cX8_split 55 = .ok (.iload_n 3, 1) := by decide +kernel
theorem dX8_split_56 : decode cX8_split 56 = .ok (.iload 4, 2) := by decide +kernel
theorem dX8_split_58 : decode cX8_split 58 = .ok (.iastore, 1) := by decide +kernel
theorem dX8_split_59 : decode cX8_split 59 = .ok (.aload_n 0, 1) := by decide +kernel
theorem dX8_split_60 : decode cX8_split 60 = .ok (.getfield 9, 3) := by decide +kernel
theorem dX8_split_63 : decode cX8_split 63 = .ok (.iload_n 3, 1) := by decide +kernel
theorem dX8_split_64 : decode cX8_split 64 = .ok (.aload_n 1, 1) := by decide +kernel
theorem dX8_split_65 : decode cX8_split 65 = .ok (.iload 4, 2) := by decide +kernel
theorem dX8_split_67 : decode cX8_split 67 = .ok (.iload 6, 2) := by decide +kernel
theorem dX8_split_69 : decode cX8_split 69 = .ok (.invokestatic 72, 3) := by decide +kernel
theorem dX8_split_72 : decode cX8_split 72 = .ok (.iastore, 1) := by decide +kernel
theorem dX8_split_73 : decode cX8_split 73 = .ok (.aload_n 0, 1) := by decide +kernel
theorem dX8_split_74 : decode cX8_split 74 = .ok (.getfield 9, 3) := by decide +kernel
theorem dX8_split_77 : decode cX8_split 77 = .ok (.iload_n 3, 1) := by decide +kernel
theorem dX8_split_78 : decode cX8_split 78 = .ok (.iaload, 1) := by decide +kernel
theorem dX8_split_79 : decode cX8_split 79 = .ok (.sipush 3000, 3) := by decide +kernel
theorem dX8_split_82 : decode cX8_split 82 = .ok (.if_icmp .eq 7, 3) := by decide +kernel
theorem dX8_split_85 : decode cX8_split 85 = .ok (.iconst 1, 1) := by decide +kernel
theorem dX8_split_86 : decode cX8_split 86 = .ok (.goto 4, 3) := by decide +kernel
theorem dX8_split_89 : decode cX8_split 89 = .ok (.iconst 0, 1) := by decide +kernel
theorem dX8_split_90 : decode cX8_split 90 = .ok (.istore 5, 2) := by decide +kernel
theorem dX8_split_92 : decode cX8_split 92 = .ok (.iinc 3 1, 3) := by decide +kernel
theorem dX8_split_95 : decode cX8_split 95 = .ok (.iload 4, 2) := by decide +kernel
theorem dX8_split_97 : decode cX8_split 97 = .ok (.iconst 1, 1) := by decide +kernel
theorem dX8_split_98 : decode cX8_split 98 = .ok (.iadd, 1) := by decide +kernel
theorem dX8_split_99 : decode cX8_split 99 = .ok (.iload 6, 2) := by decide +kernel
theorem dX8_split_101 : decode cX8_split 101 = .ok (.invokestatic 75, 3) := by decide +kernel
theorem dX8_split_104 : decode cX8_split 104 = .ok (.istore 4, 2) := by decide +kernel
theorem dX8_split_106 : decode cX8_split 106 = .ok (.goto (-98), 3) := by decide +kernel
theorem dX8_split_109 : decode cX8_split 109 = .ok (.aload_n 0, 1) := by decide +kernel
theorem dX8_split_110 : decode cX8_split 110 = .ok (.getfield 15, 3) := by decide +kernel
theorem dX8_split_113 : decode cX8_split 113 = .ok (.iload_n 3, 1) := by decide +kernel
theorem dX8_split_114 : decode cX8_split 114 = .ok (.iload_n 2, 1) := by decide +kernel
theorem dX8_split_115 : decode cX8_split 115 = .ok (.iastore, 1) := by decide +kernel
theorem dX8_split_116 : decode cX8_split 116 = .ok (.aload_n 0, 1) := by decide +kernel
theorem dX8_split_117 : decode cX8_split 117 = .ok (.getfield 9, 3) := by decide +kernel
theorem dX8_split_120 : decode cX8_split 120 = .ok (.iload_n 3, 1) := by decide +kernel
theorem dX8_split_121 : decode cX8_split 121 = .ok (.sipush 3001, 3) := by decide +kernel
theorem dX8_split_124 : decode cX8_split 124 = .ok (.iastore, 1) := by decide +kernel
theorem dX8_split_125 : decode cX8_split 125 = .ok (.return_, 1) := by decide +kernel
theorem dX8_token_0 : decode cX8_token 0 = .ok (.aload_n 0, 1) := by decide +kernel
theorem dX8_token_1 : decode cX8_token 1 = .ok (.getfield 18, 3) := by decide +kernel
theorem dX8_token_4 : decode cX8_token 4 = .ok (.aload_n 0, 1) := by decide +kernel
theorem dX8_token_5 : decode cX8_token 5 = .ok (.getfield 9, 3) := by decide +kernel
theorem dX8_token_8 : decode cX8_token 8 = .ok (.arraylength, 1) := by decide +kernel
theorem dX8_token_9 : decode cX8_token 9 = .ok (.if_icmp .ge 15, 3) := by decide +kernel
theorem dX8_token_12 : decode cX8_token 12 = .ok (.aload_n 0, 1) := by decide +kernel
theorem dX8_token_13 : decode cX8_token 13 = .ok (.getfield 9, 3) := by decide +kernel
theorem dX8_token_16 : decode cX8_token 16 = .ok (.aload_n 0, 1) := by decide +kernel
theorem dX8_token_17 : decode cX8_token 17 = .ok (.getfield 18, 3) := by decide +kernel
theorem dX8_token_20 : decode cX8_token 20 = .ok (.iaload, 1) := by decide +kernel
theorem dX8_token_21 : decode cX8_token 21 = .ok (.goto 6, 3) := by decide +kernel
theorem dX8_token_24 : decode cX8_token 24 = .ok (.sipush 3001, 3) := by decide +kernel
theorem dX8_token_27 : decode cX8_token 27 = .ok (.ireturn, 1) := by decide +kernel
theorem dX8_fail_0 : decode cX8_fail 0 = .ok (.aload_n 0, 1) := by decide +kernel
theorem dX8_fail_1 : decode cX8_fail 1 = .ok (.getfield 22, 3) := by decide +kernel
theorem dX8_fail_4 : decode cX8_fail 4 = .ok (.ifCond .ne 52, 3) := by decide +kernel
theorem dX8_fail_7 : decode cX8_fail 7 = .ok (.aload_n 0, 1) := by decide +kernel
theorem dX8_fail_8 : decode cX8_fail 8 = .ok (.getfield 18, 3) := by decide +kernel
theorem dX8_fail_11 : decode cX8_fail 11 = .ok (.aload_n 0, 1) := by decide +kernel
theorem dX8_fail_12 : decode cX8_fail 12 = .ok (.getfield 9, 3) := by decide +kernel
theorem dX8_fail_15 : decode cX8_fail 15 = .ok (.arraylength, 1) := by decide +kernel
theorem dX8_fail_16 : decode cX8_fail 16 = .ok (.if_icmp .ge 40, 3) := by decide +kernel
theorem dX8_fail_19 : decode cX8_fail 19 = .ok (.aload_n 0, 1) := by decide +kernel
theorem dX8_fail_20 : decode cX8_fail 20 = .ok (.aload_n 0, 1) := by decide +kernel
theorem dX8_fail_21 : decode cX8_fail 21 = .ok (.getfield 9, 3) := by decide +kernel
theorem dX8_fail_24 : decode cX8_fail 24 = .ok (.aload_n 0, 1) := by decide +kernel
theorem dX8_fail_25 : decode cX8_fail 25 = .ok (.getfield 18, 3) := by decide +kernel
theorem dX8_fail_28 : decode cX8_fail 28 = .ok (.iaload, 1) := by decide +kernel
theorem dX8_fail_29 : decode cX8_fail 29 = .ok (.sipush 3000, 3) := by decide +kernel
theorem dX8_fail_32 : decode cX8_fail 32 = .ok (.if_icmp .ne 7, 3) := by decide +kernel
theorem dX8_fail_35 : decode cX8_fail 35 = .ok (.iconst 1, 1) := by decide +kernel
theorem dX8_fail_36 : decode cX8_fail 36 = .ok (.goto 4, 3) := by decide +kernel
theorem dX8_fail_39 : decode cX8_fail 39 = .ok (.iload_n 1, 1) := by decide +kernel
theorem dX8_fail_40 : decode cX8_fail 40 = .ok (.putfield 22, 3) := by decide +kernel
theorem dX8_fail_43 : decode cX8_fail 43 = .ok (.aload_n 0, 1) := by decide +kernel
theorem dX8_fail_44 : decode cX8_fail 44 = .ok (.aload_n 0, 1) := by decide +kernel
theorem dX8_fail_45 : decode cX8_fail 45 = .ok (.getfield 15, 3) := by decide +kernel
theorem dX8_fail_48 : decode cX8_fail 48 = .ok (.aload_n 0, 1) := by decide +kernel
theorem dX8_fail_49 : decode cX8_fail 49 = .ok (.getfield 18, 3) := by decide +kernel
theorem dX8_fail_52 : decode cX8_fail 52 = .ok (.iaload, 1) := by decide +kernel
theorem dX8_fail_53 : decode cX8_fail 53 = .ok (.putfield 25, 3) := by decide +kernel
theorem dX8_fail_56 : decode cX8_fail 56 = .ok (.return_, 1) := by decide +kernel
theorem dX8_expect_0 : decode cX8_expect 0 = .ok (.aload_n 0, 1) := by decide +kernel
theorem dX8_expect_1 : decode cX8_expect 1 = .ok (.getfield 22, 3) := by decide +kernel
theorem dX8_expect_4 : decode cX8_expect 4 = .ok (.ifCond .eq 4, 3) := by decide +kernel
theorem dX8_expect_7 : decode cX8_expect 7 = .ok (.return_, 1) := by decide +kernel
theorem dX8_expect_8 : decode cX8_expect 8 = .ok (.aload_n 0, 1) := by decide +kernel
theorem dX8_expect_9 : decode cX8_expect 9 = .ok (.invokevirtual 57, 3) := by decide +kernel
theorem dX8_expect_12 : decode cX8_expect 12 = .ok (.iload_n 1, 1) := by decide +kernel
theorem dX8_expect_13 : decode cX8_expect 13 = .ok (.if_icmp .ne 16, 3) := by decide +kernel
theorem dX8_expect_16 : decode cX8_expect 16 = .ok (.aload_n 0, 1) := by decide +kernel
theorem dX8_expect_17 : decode cX8_expect 17 = .ok (.dup, 1) := by decide +kernel
theorem dX8_expect_18 : decode cX8_expect 18 = .ok (.getfield 18, 3) := by decide +kernel
theorem dX8_expect_21 : decode cX8_expect 21 = .ok (.iconst 1, 1) := by decide +kernel
theorem dX8_expect_22 : decode cX8_expect 22 = .ok (.iadd, 1) := by decide +kernel
theorem dX8_expect_23 : decode cX8_expect 23 = .ok (.putfield 18, 3) := by decide +kernel
theorem dX8_expect_26 : decode cX8_expect 26 = .ok (.goto 8, 3) := by decide +kernel
theorem dX8_expect_29 : decode cX8_expect 29 = .ok (.aload_n 0, 1) := by decide +kernel
theorem dX8_expect_30 : decode cX8_expect 30 = .ok (.iconst 2, 1) := by decide +kernel
theorem dX8_expect_31 : decode cX8_expect 31 = .ok (.invokevirtual 81, 3) := by decide +kernel
theorem dX8_expect_34 : decode cX8_expect 34 = .ok (.return_, 1) := by decide +kernel
theorem dX8_endLine_0 : decode cX8_endLine 0 = .ok (.aload_n 0, 1) := by decide +kernel
theorem dX8_endLine_1 : decode cX8_endLine 1 = .ok (.sipush 2059, 3) := by decide +kernel
theorem dX8_endLine_4 : decode cX8_endLine 4 = .ok (.invokevirtual 50, 3) := by decide +kernel
theorem dX8_endLine_7 : decode cX8_endLine 7 = .ok (.aload_n 0, 1) := by decide +kernel
theorem dX8_endLine_8 : decode cX8_endLine 8 = .ok (.getfield 28, 3) := by decide +kernel
theorem dX8_endLine_11 : decode cX8_endLine 11 = .ok (.dup, 1) := by decide +kernel
theorem dX8_endLine_12 : decode cX8_endLine 12 = .ok (.getfield 84, 3) := by decide +kernel
theorem dX8_endLine_15 : decode cX8_endLine 15 = .ok (.iconst 1, 1) := by decide +kernel
theorem dX8_endLine_16 : decode cX8_endLine 16 = .ok (.iadd, 1) := by decide +kernel
theorem dX8_endLine_17 : decode cX8_endLine 17 = .ok (.putfield 84, 3) := by decide +kernel
theorem dX8_endLine_20 : decode cX8_endLine 20 = .ok (.return_, 1) := by decide +kernel
theorem dX8_numberWithin_0 : decode cX8_numberWithin 0 = .ok (.aload_n 0, 1) := by decide +kernel
theorem dX8_numberWithin_1 : decode cX8_numberWithin 1 = .ok (.invokevirtual 57, 3) := by decide +kernel
theorem dX8_numberWithin_4 : decode cX8_numberWithin 4 = .ok (.istore_n 3, 1) := by decide +kernel
theorem dX8_numberWithin_5 : decode cX8_numberWithin 5 = .ok (.aload_n 0, 1) := by decide +kernel
theorem dX8_numberWithin_6 : decode cX8_numberWithin 6 = .ok (.getfield 22, 3) := by decide +kernel
theorem dX8_numberWithin_9 : decode cX8_numberWithin 9 = .ok (.ifCond .eq 5, 3) := by decide +kernel
theorem dX8_numberWithin_12 : decode cX8_numberWithin 12 = .ok (.iload_n 1, 1) := by decide +kernel
theorem dX8_numberWithin_13 : decode cX8_numberWithin 13 = .ok (.ireturn, 1) := by decide +kernel
theorem dX8_numberWithin_14 : decode cX8_numberWithin 14 = .ok (.iload_n 3, 1) := by decide +kernel
theorem dX8_numberWithin_15 : decode cX8_numberWithin 15 = .ok (.sipush 1000, 3) := by decide +kernel
theorem dX8_numberWithin_18 : decode cX8_numberWithin 18 = .ok (.if_icmp .lt 11, 3) := by decide +kernel
theorem dX8_numberWithin_21 : decode cX8_numberWithin 21 = .ok (.aload_n 0, 1) := by decide +kernel
theorem dX8_numberWithin_22 : decode cX8_numberWithin 22 = .ok (.iconst 2, 1) := by decide +kernel
theorem dX8_numberWithin_23 : decode cX8_numberWithin 23 = .ok (.invokevirtual 81, 3) := by decide +kernel
theorem dX8_numberWithin_26 : decode cX8_numberWithin 26 = .ok (.goto 31, 3) := by decide +kernel
theorem dX8_numberWithin_29 : decode cX8_numberWithin 29 = .ok (.iload_n 3, 1) := by decide +kernel
theorem dX8_numberWithin_30 : decode cX8_numberWithin 30 = .ok (.iload_n 1, 1) := by decide +kernel
theorem dX8_numberWithin_31 : decode cX8_numberWithin 31 = .ok (.if_icmp .lt 8, 3) := by decide +kernel
theorem dX8_numberWithin_34 : decode cX8_numberWithin 34 = .ok (.iload_n 3, 1) := by decide +kernel
theorem dX8_numberWithin_35 : decode cX8_numberWithin 35 = .ok (.iload_n 2, 1) := by decide +kernel
theorem dX8_numberWithin_36 : decode cX8_numberWithin 36 = .ok (.if_icmp .le 11, 3) := by decide +kernel
theorem dX8_numberWithin_39 : decode cX8_numberWithin 39 = .ok (.aload_n 0, 1) := by decide +kernel
theorem dX8_numberWithin_40 : decode cX8_numberWithin 40 = .ok (.iconst 3, 1) := by decide +kernel
theorem dX8_numberWithin_41 : decode cX8_numberWithin 41 = .ok (.invokevirtual 81, 3) := by decide +kernel
theorem dX8_numberWithin_44 : decode cX8_numberWithin 44 = .ok (.goto 13, 3) := by decide +kernel
theorem dX8_numberWithin_47 : decode cX8_numberWithin 47 = .ok (.aload_n 0, 1) := by decide +kernel
theorem dX8_numberWithin_48 : decode cX8_numberWithin 48 = .ok (.dup, 1) := by decide +kernel
theorem dX8_numberWithin_49 : decode cX8_numberWithin 49 = .ok (.getfield 18, 3) := by decide +kernel
theorem dX8_numberWithin_52 : decode cX8_numberWithin 52 = .ok (.iconst 1, 1) := by decide +kernel
theorem dX8_numberWithin_53 : decode cX8_numberWithin 53 = .ok (.iadd, 1) := by decide +kernel
theorem dX8_numberWithin_54 : decode cX8_numberWithin 54 = .ok (.putfield 18, 3) := by decide +kernel
theorem dX8_numberWithin_57 : decode cX8_numberWithin 57 = .ok (.iload_n 3, 1) := by decide +kernel
theorem dX8_numberWithin_58 : decode cX8_numberWithin 58 = .ok (.ireturn, 1) := by decide +kernel
theorem dX8_line_0 : decode cX8_line 0 = .ok (.aload_n 0, 1) := by decide +kernel
theorem dX8_line_1 : decode cX8_line 1 = .ok (.invokevirtual 57, 3) := by decide +kernel
theorem dX8_line_4 : decode cX8_line 4 = .ok (.tableswitch 172 1003 1011 #[52, 172, 172, 172, 172, 172, 59, 66, 119], 52) := by decide +kernel
theorem dX8_line_56 : decode cX8_line 56 = .ok (.aload_n 0, 1) := by decide +kernel
theorem dX8_line_57 : decode cX8_line 57 = .ok (.invokevirtual 87, 3) := by decide +kernel
theorem dX8_line_60 : decode cX8_line 60 = .ok (.goto 121, 3) := by decide +kernel
theorem dX8_line_63 : decode cX8_line 63 = .ok (.aload_n 0, 1) := by decide +kernel
theorem dX8_line_64 : decode cX8_line 64 = .ok (.invokevirtual 90, 3) := by decide +kernel
theorem dX8_line_67 : decode cX8_line 67 = .ok (.goto 114, 3) := by decide +kernel
theorem dX8_line_70 : decode cX8_line 70 = .ok (.aload_n 0, 1) := by decide +kernel
theorem dX8_line_71 : decode cX8_line 71 = .ok (.dup, 1) := by decide +kernel
theorem dX8_line_72 : decode cX8_line 72 = .ok (.getfield 18, 3) := by decide +kernel
theorem dX8_line_75 : decode cX8_line 75 = .ok (.iconst 1, 1) := by decide +kernel
theorem dX8_line_76 : decode cX8_line 76 = .ok (.iadd, 1) := by decide +kernel
theorem dX8_line_77 : decode cX8_line 77 = .ok (.putfield 18, 3) := by decide +kernel
theorem dX8_line_80 : decode cX8_line 80 = .ok (.aload_n 0, 1) := by decide +kernel
theorem dX8_line_81 : decode cX8_line 81 = .ok (.sipush 2058, 3) := by decide +kernel
theorem dX8_line_84 : decode cX8_line 84 = .ok (.invokevirtual 50, 3) := by decide +kernel
theorem dX8_line_87 : decode cX8_line 87 = .ok (.aload_n 0, 1) := by decide +kernel
theorem dX8_line_88 : decode cX8_line 88 = .ok (.getfield 28, 3) := by decide +kernel
theorem dX8_line_91 : decode cX8_line 91 = .ok (.aload_n 0, 1) := by decide +kernel
theorem dX8_line_92 : decode cX8_line 92 = .ok (.getfield 28, 3) := by decide +kernel
theorem dX8_line_95 : decode cX8_line 95 = .ok (.getfield 93, 3) := by decide +kernel
theorem dX8_line_98 : decode cX8_line 98 = .ok (.putfield 96, 3) := by decide +kernel
theorem dX8_line_101 : decode cX8_line 101 = .ok (.aload_n 0, 1) := by decide +kernel
theorem dX8_line_102 : decode cX8_line 102 = .ok (.iconst 0, 1) := by decide +kernel
theorem dX8_line_103 : decode cX8_line 103 = .ok (.invokevirtual 99, 3) := by decide +kernel
theorem dX8_line_106 : decode cX8_line 106 = .ok (.aload_n 0, 1) := by decide +kernel
theorem dX8_line_107 : decode cX8_line 107 = .ok (.getfield 28, 3) := by decide +kernel
theorem dX8_line_110 : decode cX8_line 110 = .ok (.aload_n 0, 1) := by decide +kernel
theorem dX8_line_111 : decode cX8_line 111 = .ok (.getfield 28, 3) := by decide +kernel
theorem dX8_line_114 : decode cX8_line 114 = .ok (.getfield 93, 3) := by decide +kernel
theorem dX8_line_117 : decode cX8_line 117 = .ok (.putfield 102, 3) := by decide +kernel
theorem dX8_line_120 : decode cX8_line 120 = .ok (.goto 61, 3) := by decide +kernel
theorem dX8_line_123 : decode cX8_line 123 = .ok (.aload_n 0, 1) := by decide +kernel
theorem dX8_line_124 : decode cX8_line 124 = .ok (.dup, 1) := by decide +kernel
theorem dX8_line_125 : decode cX8_line 125 = .ok (.getfield 18, 3) := by decide +kernel
theorem dX8_line_128 : decode cX8_line 128 = .ok (.iconst 1, 1) := by decide +kernel
theorem dX8_line_129 : decode cX8_line 129 = .ok (.iadd, 1) := by decide +kernel
theorem dX8_line_130 : decode cX8_line 130 = .ok (.putfield 18, 3) := by decide +kernel
theorem dX8_line_133 : decode cX8_line 133 = .ok (.aload_n 0, 1) := by decide +kernel
theorem dX8_line_134 : decode cX8_line 134 = .ok (.sipush 2058, 3) := by decide +kernel
theorem dX8_line_137 : decode cX8_line 137 = .ok (.invokevirtual 50, 3) := by decide +kernel
theorem dX8_line_140 : decode cX8_line 140 = .ok (.aload_n 0, 1) := by decide +kernel
theorem dX8_line_141 : decode cX8_line 141 = .ok (.getfield 28, 3) := by decide +kernel
theorem dX8_line_144 : decode cX8_line 144 = .ok (.aload_n 0, 1) := by decide +kernel
theorem dX8_line_145 : decode cX8_line 145 = .ok (.getfield 28, 3) := by decide +kernel
theorem dX8_line_148 : decode cX8_line 148 = .ok (.getfield 93, 3) := by decide +kernel
theorem dX8_line_151 : decode cX8_line 151 = .ok (.putfield 105, 3) := by decide +kernel
theorem dX8_line_154 : decode cX8_line 154 = .ok (.aload_n 0, 1) := by decide +kernel
theorem dX8_line_155 : decode cX8_line 155 = .ok (.iconst 0, 1) := by decide +kernel
theorem dX8_line_156 : decode cX8_line 156 = .ok (.invokevirtual 108, 3) := by decide +kernel
theorem dX8_line_159 : decode cX8_line 159 = .ok (.aload_n 0, 1) := by decide +kernel
theorem dX8_line_160 : decode cX8_line 160 = .ok (.getfield 28, 3) := by decide +kernel
theorem dX8_line_163 : decode cX8_line 163 = .ok (.aload_n 0, 1) := by decide +kernel
theorem dX8_line_164 : decode cX8_line 164 = .ok (.getfield 28, 3) := by decide +kernel
theorem dX8_line_167 : decode cX8_line 167 = .ok (.getfield 93, 3) := by decide +kernel
theorem dX8_line_170 : decode cX8_line 170 = .ok (.putfield 111, 3) := by decide +kernel
theorem dX8_line_173 : decode cX8_line 173 = .ok (.goto 8, 3) := by decide +kernel
theorem dX8_line_176 : decode cX8_line 176 = .ok (.aload_n 0, 1) := by decide +kernel
theorem dX8_line_177 : decode cX8_line 177 = .ok (.iconst 2, 1) := by decide +kernel
theorem dX8_line_178 : decode cX8_line 178 = .ok (.invokevirtual 81, 3) := by decide +kernel
theorem dX8_line_181 : decode cX8_line 181 = .ok (.return_, 1) := by decide +kernel
theorem dX8_kindLine_0 : decode cX8_kindLine 0 = .ok (.aload_n 0, 1) := by decide +kernel
theorem dX8_kindLine_1 : decode cX8_kindLine 1 = .ok (.getfield 32, 3) := by decide +kernel
theorem dX8_kindLine_4 : decode cX8_kindLine 4 = .ok (.getfield 114, 3) := by decide +kernel
theorem dX8_kindLine_7 : decode cX8_kindLine 7 = .ok (.istore_n 1, 1) := by decide +kernel
theorem dX8_kindLine_8 : decode cX8_kindLine 8 = .ok (.iload_n 1, 1) := by decide +kernel
theorem dX8_kindLine_9 : decode cX8_kindLine 9 = .ok (.bipush 8, 2) := by decide +kernel
theorem dX8_kindLine_11 : decode cX8_kindLine 11 = .ok (.if_icmp .lt 9, 3) := by decide +kernel
theorem dX8_kindLine_14 : decode cX8_kindLine 14 = .ok (.aload_n 0, 1) := by decide +kernel
theorem dX8_kindLine_15 : decode cX8_kindLine 15 = .ok (.iconst 4, 1) := by decide +kernel
theorem dX8_kindLine_16 : decode cX8_kindLine 16 = .ok (.invokevirtual 81, 3) := by decide +kernel
theorem dX8_kindLine_19 : decode cX8_kindLine 19 = .ok (.return_, 1) := by decide +kernel
theorem dX8_kindLine_20 : decode cX8_kindLine 20 = .ok (.aload_n 0, 1) := by decide +kernel
theorem dX8_kindLine_21 : decode cX8_kindLine 21 = .ok (.dup, 1) := by decide +kernel
theorem dX8_kindLine_22 : decode cX8_kindLine 22 = .ok (.getfield 18, 3) := by decide +kernel
theorem dX8_kindLine_25 : decode cX8_kindLine 25 = .ok (.iconst 1, 1) := by decide +kernel
theorem dX8_kindLine_26 : decode cX8_kindLine 26 = .ok (.iadd, 1) := by decide +kernel
theorem dX8_kindLine_27 : decode cX8_kindLine 27 = .ok (.putfield 18, 3) := by decide +kernel
theorem dX8_kindLine_30 : decode cX8_kindLine 30 = .ok (.aload_n 0, 1) := by decide +kernel
theorem dX8_kindLine_31 : decode cX8_kindLine 31 = .ok (.sipush 1004, 3) := by decide +kernel
theorem dX8_kindLine_34 : decode cX8_kindLine 34 = .ok (.invokevirtual 50, 3) := by decide +kernel
theorem dX8_kindLine_37 : decode cX8_kindLine 37 = .ok (.aload_n 0, 1) := by decide +kernel
theorem dX8_kindLine_38 : decode cX8_kindLine 38 = .ok (.getfield 32, 3) := by decide +kernel
theorem dX8_kindLine_41 : decode cX8_kindLine 41 = .ok (.getfield 117, 3) := by decide +kernel
theorem dX8_kindLine_44 : decode cX8_kindLine 44 = .ok (.iload_n 1, 1) := by decide +kernel
theorem dX8_kindLine_45 : decode cX8_kindLine 45 = .ok (.aload_n 0, 1) := by decide +kernel
theorem dX8_kindLine_46 : decode cX8_kindLine 46 = .ok (.iconst 1, 1) := by decide +kernel
theorem dX8_kindLine_47 : decode cX8_kindLine 47 = .ok (.bipush 99, 2) := by decide +kernel
theorem dX8_kindLine_49 : decode cX8_kindLine 49 = .ok (.invokevirtual 120, 3) := by decide +kernel
theorem dX8_kindLine_52 : decode cX8_kindLine 52 = .ok (.iastore, 1) := by decide +kernel
theorem dX8_kindLine_53 : decode cX8_kindLine 53 = .ok (.aload_n 0, 1) := by decide +kernel
theorem dX8_kindLine_54 : decode cX8_kindLine 54 = .ok (.getfield 32, 3) := by decide +kernel
theorem dX8_kindLine_57 : decode cX8_kindLine 57 = .ok (.getfield 123, 3) := by decide +kernel
theorem dX8_kindLine_60 : decode cX8_kindLine 60 = .ok (.iload_n 1, 1) := by decide +kernel
theorem dX8_kindLine_61 : decode cX8_kindLine 61 = .ok (.iconst 0, 1) := by decide +kernel
theorem dX8_kindLine_62 : decode cX8_kindLine 62 = .ok (.iastore, 1) := by decide +kernel
theorem dX8_kindLine_63 : decode cX8_kindLine 63 = .ok (.aload_n 0, 1) := by decide +kernel
theorem dX8_kindLine_64 : decode cX8_kindLine 64 = .ok (.getfield 32, 3) := by decide +kernel
theorem dX8_kindLine_67 : decode cX8_kindLine 67 = .ok (.dup, 1) := by decide +kernel
theorem dX8_kindLine_68 : decode cX8_kindLine 68 = .ok (.getfield 114, 3) := by decide +kernel
theorem dX8_kindLine_71 : decode cX8_kindLine 71 = .ok (.iconst 1, 1) := by decide +kernel
theorem dX8_kindLine_72 : decode cX8_kindLine 72 = .ok (.iadd, 1) := by decide +kernel
theorem dX8_kindLine_73 : decode cX8_kindLine 73 = .ok (.putfield 114, 3) := by decide +kernel
theorem dX8_kindLine_76 : decode cX8_kindLine 76 = .ok (.iconst 1, 1) := by decide +kernel
theorem dX8_kindLine_77 : decode cX8_kindLine 77 = .ok (.istore_n 2, 1) := by decide +kernel
theorem dX8_kindLine_78 : decode cX8_kindLine 78 = .ok (.iconst 0, 1) := by decide +kernel
theorem dX8_kindLine_79 : decode cX8_kindLine 79 = .ok (.istore_n 3, 1) := by decide +kernel
theorem dX8_kindLine_80 : decode cX8_kindLine 80 = .ok (.iload_n 3, 1) := by decide +kernel
theorem dX8_kindLine_81 : decode cX8_kindLine 81 = .ok (.sipush 900, 3) := by decide +kernel
theorem dX8_kindLine_84 : decode cX8_kindLine 84 = .ok (.if_icmp .ge 26, 3) := by decide +kernel
theorem dX8_kindLine_87 : decode cX8_kindLine 87 = .ok (.iload_n 2, 1) := by decide +kernel
theorem dX8_kindLine_88 : decode cX8_kindLine 88 = .ok (.ifCond .eq 22, 3) := by decide +kernel
theorem dX8_kindLine_91 : decode cX8_kindLine 91 = .ok (.aload_n 0, 1) := by decide +kernel
theorem dX8_kindLine_92 : decode cX8_kindLine 92 = .ok (.getfield 22, 3) := by decide +kernel
theorem dX8_kindLine_95 : decode cX8_kindLine 95 = .ok (.ifCond .ne 15, 3) := by decide +kernel
theorem dX8_kindLine_98 : decode cX8_kindLine 98 = .ok (.aload_n 0, 1) := by decide +kernel
theorem dX8_kindLine_99 : decode cX8_kindLine 99 = .ok (.iload_n 1, 1) := by decide +kernel
theorem dX8_kindLine_100 : decode cX8_kindLine 100 = .ok (.invokevirtual 126, 3) := by decide +kernel
theorem dX8_kindLine_103 : decode cX8_kindLine 103 = .ok (.istore_n 2, 1) := by decide +kernel
theorem dX8_kindLine_104 : decode cX8_kindLine 104 = .ok (.iinc 3 1, 3) := by decide +kernel
theorem dX8_kindLine_107 : decode cX8_kindLine 107 = .ok (.goto (-27), 3) := by decide +kernel
theorem dX8_kindLine_110 : decode cX8_kindLine 110 = .ok (.return_, 1) := by decide +kernel
theorem dX8_takeFlag_0 : decode cX8_takeFlag 0 = .ok (.aload_n 0, 1) := by decide +kernel
theorem dX8_takeFlag_1 : decode cX8_takeFlag 1 = .ok (.invokevirtual 57, 3) := by decide +kernel
theorem dX8_takeFlag_4 : decode cX8_takeFlag 4 = .ok (.istore_n 2, 1) := by decide +kernel
theorem dX8_takeFlag_5 : decode cX8_takeFlag 5 = .ok (.iload_n 2, 1) := by decide +kernel
theorem dX8_takeFlag_6 : decode cX8_takeFlag 6 = .ok (.sipush 1005, 3) := by decide +kernel
theorem dX8_takeFlag_9 : decode cX8_takeFlag 9 = .ok (.if_icmp .eq 19, 3) := by decide +kernel
theorem dX8_takeFlag_12 : decode cX8_takeFlag 12 = .ok (.iload_n 2, 1) := by decide +kernel
theorem dX8_takeFlag_13 : decode cX8_takeFlag 13 = .ok (.sipush 1007, 3) := by decide +kernel
theorem dX8_takeFlag_16 : decode cX8_takeFlag 16 = .ok (.if_icmp .eq 12, 3) := by decide +kernel
theorem dX8_takeFlag_19 : decode cX8_takeFlag 19 = .ok (.iload_n 2, 1) := by decide +kernel
theorem dX8_takeFlag_20 : decode cX8_takeFlag 20 = .ok (.sipush 1012, 3) := by decide +kernel
theorem dX8_takeFlag_23 : decode cX8_takeFlag 23 = .ok (.if_icmp .eq 5, 3) := by decide +kernel
theorem dX8_takeFlag_26 : decode cX8_takeFlag 26 = .ok (.iconst 0, 1) := by decide +kernel
theorem dX8_takeFlag_27 : decode cX8_takeFlag 27 = .ok (.ireturn, 1) := by decide +kernel
theorem dX8_takeFlag_28 : decode cX8_takeFlag 28 = .ok (.aload_n 0, 1) := by decide +kernel
theorem dX8_takeFlag_29 : decode cX8_takeFlag 29 = .ok (.dup, 1) := by decide +kernel
theorem dX8_takeFlag_30 : decode cX8_takeFlag 30 = .ok (.getfield 18, 3) := by decide +kernel
theorem dX8_takeFlag_33 : decode cX8_takeFlag 33 = .ok (.iconst 1, 1) := by decide +kernel
theorem dX8_takeFlag_34 : decode cX8_takeFlag 34 = .ok (.iadd, 1) := by decide +kernel
theorem dX8_takeFlag_35 : decode cX8_takeFlag 35 = .ok (.putfield 18, 3) := by decide +kernel
theorem dX8_takeFlag_38 : decode cX8_takeFlag 38 = .ok (.iload_n 2, 1) := by decide +kernel
theorem dX8_takeFlag_39 : decode cX8_takeFlag 39 = .ok (.sipush 1005, 3) := by decide +kernel
theorem dX8_takeFlag_42 : decode cX8_takeFlag 42 = .ok (.if_icmp .ne 22, 3) := by decide +kernel
theorem dX8_takeFlag_45 : decode cX8_takeFlag 45 = .ok (.aload_n 0, 1) := by decide +kernel
theorem dX8_takeFlag_46 : decode cX8_takeFlag 46 = .ok (.getfield 32, 3) := by decide +kernel
theorem dX8_takeFlag_49 : decode cX8_takeFlag 49 = .ok (.getfield 123, 3) := by decide +kernel
theorem dX8_takeFlag_52 : decode cX8_takeFlag 52 = .ok (.iload_n 1, 1) := by decide +kernel
theorem dX8_takeFlag_53 : decode cX8_takeFlag 53 = .ok (.aload_n 0, 1) := by decide +kernel
theorem dX8_takeFlag_54 : decode cX8_takeFlag 54 = .ok (.iconst 0, 1) := by decide +kernel
theorem dX8_takeFlag_55 : decode cX8_takeFlag 55 = .ok (.bipush 9, 2) := by decide +kernel
theorem dX8_takeFlag_57 : decode cX8_takeFlag 57 = .ok (.invokevirtual 120, 3) := by decide +kernel
theorem dX8_takeFlag_60 : decode cX8_takeFlag 60 = .ok (.iastore, 1) := by decide +kernel
theorem dX8_takeFlag_61 : decode cX8_takeFlag 61 = .ok (.goto 43, 3) := by decide +kernel
theorem dX8_takeFlag_64 : decode cX8_takeFlag 64 = .ok (.iload_n 2, 1) := by decide +kernel
theorem dX8_takeFlag_65 : decode cX8_takeFlag 65 = .ok (.sipush 1007, 3) := by decide +kernel
theorem dX8_takeFlag_68 : decode cX8_takeFlag 68 = .ok (.if_icmp .ne 21, 3) := by decide +kernel
theorem dX8_takeFlag_71 : decode cX8_takeFlag 71 = .ok (.aload_n 0, 1) := by decide +kernel
theorem dX8_takeFlag_72 : decode cX8_takeFlag 72 = .ok (.getfield 32, 3) := by decide +kernel
theorem dX8_takeFlag_75 : decode cX8_takeFlag 75 = .ok (.dup, 1) := by decide +kernel
theorem dX8_takeFlag_76 : decode cX8_takeFlag 76 = .ok (.getfield 129, 3) := by decide +kernel
theorem dX8_takeFlag_79 : decode cX8_takeFlag 79 = .ok (.iconst 1, 1) := by decide +kernel
theorem dX8_takeFlag_80 : decode cX8_takeFlag 80 = .ok (.iload_n 1, 1) := by decide +kernel
theorem dX8_takeFlag_81 : decode cX8_takeFlag 81 = .ok (.ishl, 1) := by decide +kernel
theorem dX8_takeFlag_82 : decode cX8_takeFlag 82 = .ok (.ior, 1) := by decide +kernel
theorem dX8_takeFlag_83 : decode cX8_takeFlag 83 = .ok (.putfield 129, 3) := by decide +kernel
theorem dX8_takeFlag_86 : decode cX8_takeFlag 86 = .ok (.goto 18, 3) := by decide +kernel
theorem dX8_takeFlag_89 : decode cX8_takeFlag 89 = .ok (.aload_n 0, 1) := by decide +kernel
theorem dX8_takeFlag_90 : decode cX8_takeFlag 90 = .ok (.getfield 32, 3) := by decide +kernel
theorem dX8_takeFlag_93 : decode cX8_takeFlag 93 = .ok (.dup, 1) := by decide +kernel
theorem dX8_takeFlag_94 : decode cX8_takeFlag 94 = .ok (.getfield 132, 3) := by decide +kernel
theorem dX8_takeFlag_97 : decode cX8_takeFlag 97 = .ok (.iconst 1, 1) := by decide +kernel
theorem dX8_takeFlag_98 : decode cX8_takeFlag 98 = .ok (.iload_n 1, 1) := by decide +kernel
theorem dX8_takeFlag_99 : decode cX8_takeFlag 99 = .ok (.ishl, 1) := by decide +kernel
theorem dX8_takeFlag_100 : decode cX8_takeFlag 100 = .ok (.ior, 1) := by decide +kernel
theorem dX8_takeFlag_101 : decode cX8_takeFlag 101 = .ok (.putfield 132, 3) := by decide +kernel
theorem dX8_takeFlag_104 : decode cX8_takeFlag 104 = .ok (.iconst 1, 1) := by decide +kernel
theorem dX8_takeFlag_105 : decode cX8_takeFlag 105 = .ok (.ireturn, 1) := by decide +kernel
theorem dX8_buyerLine_0 : decode cX8_buyerLine 0 = .ok (.aload_n 0, 1) := by decide +kernel
theorem dX8_buyerLine_1 : decode cX8_buyerLine 1 = .ok (.getfield 28, 3) := by decide +kernel
theorem dX8_buyerLine_4 : decode cX8_buyerLine 4 = .ok (.getfield 135, 3) := by decide +kernel
theorem dX8_buyerLine_7 : decode cX8_buyerLine 7 = .ok (.istore_n 1, 1) := by decide +kernel
theorem dX8_buyerLine_8 : decode cX8_buyerLine 8 = .ok (.iload_n 1, 1) := by decide +kernel
theorem dX8_buyerLine_9 : decode cX8_buyerLine 9 = .ok (.bipush 6, 2) := by decide +kernel
theorem dX8_buyerLine_11 : decode cX8_buyerLine 11 = .ok (.if_icmp .lt 9, 3) := by decide +kernel
theorem dX8_buyerLine_14 : decode cX8_buyerLine 14 = .ok (.aload_n 0, 1) := by decide +kernel
theorem dX8_buyerLine_15 : decode cX8_buyerLine 15 = .ok (.iconst 4, 1) := by decide +kernel
theorem dX8_buyerLine_16 : decode cX8_buyerLine 16 = .ok (.invokevirtual 81, 3) := by decide +kernel
theorem dX8_buyerLine_19 : decode cX8_buyerLine 19 = .ok (.return_, 1) := by decide +kernel
theorem dX8_buyerLine_20 : decode cX8_buyerLine 20 = .ok (.aload_n 0, 1) := by decide +kernel
theorem dX8_buyerLine_21 : decode cX8_buyerLine 21 = .ok (.dup, 1) := by decide +kernel
theorem dX8_buyerLine_22 : decode cX8_buyerLine 22 = .ok (.getfield 18, 3) := by decide +kernel
theorem dX8_buyerLine_25 : decode cX8_buyerLine 25 = .ok (.iconst 1, 1) := by decide +kernel
theorem dX8_buyerLine_26 : decode cX8_buyerLine 26 = .ok (.iadd, 1) := by decide +kernel
theorem dX8_buyerLine_27 : decode cX8_buyerLine 27 = .ok (.putfield 18, 3) := by decide +kernel
theorem dX8_buyerLine_30 : decode cX8_buyerLine 30 = .ok (.aload_n 0, 1) := by decide +kernel
theorem dX8_buyerLine_31 : decode cX8_buyerLine 31 = .ok (.sipush 1001, 3) := by decide +kernel
theorem dX8_buyerLine_34 : decode cX8_buyerLine 34 = .ok (.invokevirtual 50, 3) := by decide +kernel
theorem dX8_buyerLine_37 : decode cX8_buyerLine 37 = .ok (.aload_n 0, 1) := by decide +kernel
theorem dX8_buyerLine_38 : decode cX8_buyerLine 38 = .ok (.getfield 28, 3) := by decide +kernel
theorem dX8_buyerLine_41 : decode cX8_buyerLine 41 = .ok (.getfield 138, 3) := by decide +kernel
theorem dX8_buyerLine_44 : decode cX8_buyerLine 44 = .ok (.iload_n 1, 1) := by decide +kernel
theorem dX8_buyerLine_45 : decode cX8_buyerLine 45 = .ok (.aload_n 0, 1) := by decide +kernel
theorem dX8_buyerLine_46 : decode cX8_buyerLine 46 = .ok (.iconst 0, 1) := by decide +kernel
theorem dX8_buyerLine_47 : decode cX8_buyerLine 47 = .ok (.sipush 999, 3) := by decide +kernel
theorem dX8_buyerLine_50 : decode cX8_buyerLine 50 = .ok (.invokevirtual 120, 3) := by decide +kernel
theorem dX8_buyerLine_53 : decode cX8_buyerLine 53 = .ok (.iastore, 1) := by decide +kernel
theorem dX8_buyerLine_54 : decode cX8_buyerLine 54 = .ok (.aload_n 0, 1) := by decide +kernel
theorem dX8_buyerLine_55 : decode cX8_buyerLine 55 = .ok (.getfield 28, 3) := by decide +kernel
theorem dX8_buyerLine_58 : decode cX8_buyerLine 58 = .ok (.getfield 141, 3) := by decide +kernel
theorem dX8_buyerLine_61 : decode cX8_buyerLine 61 = .ok (.iload_n 1, 1) := by decide +kernel
theorem dX8_buyerLine_62 : decode cX8_buyerLine 62 = .ok (.iconst 0, 1) := by decide +kernel
theorem dX8_buyerLine_63 : decode cX8_buyerLine 63 = .ok (.iastore, 1) := by decide +kernel
theorem dX8_buyerLine_64 : decode cX8_buyerLine 64 = .ok (.aload_n 0, 1) := by decide +kernel
theorem dX8_buyerLine_65 : decode cX8_buyerLine 65 = .ok (.getfield 28, 3) := by decide +kernel
theorem dX8_buyerLine_68 : decode cX8_buyerLine 68 = .ok (.getfield 144, 3) := by decide +kernel
theorem dX8_buyerLine_71 : decode cX8_buyerLine 71 = .ok (.iload_n 1, 1) := by decide +kernel
theorem dX8_buyerLine_72 : decode cX8_buyerLine 72 = .ok (.iconst 1, 1) := by decide +kernel
theorem dX8_buyerLine_73 : decode cX8_buyerLine 73 = .ok (.iastore, 1) := by decide +kernel
theorem dX8_buyerLine_74 : decode cX8_buyerLine 74 = .ok (.aload_n 0, 1) := by decide +kernel
theorem dX8_buyerLine_75 : decode cX8_buyerLine 75 = .ok (.getfield 28, 3) := by decide +kernel
theorem dX8_buyerLine_78 : decode cX8_buyerLine 78 = .ok (.dup, 1) := by decide +kernel
theorem dX8_buyerLine_79 : decode cX8_buyerLine 79 = .ok (.getfield 135, 3) := by decide +kernel
theorem dX8_buyerLine_82 : decode cX8_buyerLine 82 = .ok (.iconst 1, 1) := by decide +kernel
theorem dX8_buyerLine_83 : decode cX8_buyerLine 83 = .ok (.iadd, 1) := by decide +kernel
theorem dX8_buyerLine_84 : decode cX8_buyerLine 84 = .ok (.putfield 135, 3) := by decide +kernel
theorem dX8_buyerLine_87 : decode cX8_buyerLine 87 = .ok (.iconst 1, 1) := by decide +kernel
theorem dX8_buyerLine_88 : decode cX8_buyerLine 88 = .ok (.istore_n 2, 1) := by decide +kernel
theorem dX8_buyerLine_89 : decode cX8_buyerLine 89 = .ok (.iconst 0, 1) := by decide +kernel
theorem dX8_buyerLine_90 : decode cX8_buyerLine 90 = .ok (.istore_n 3, 1) := by decide +kernel
theorem dX8_buyerLine_91 : decode cX8_buyerLine 91 = .ok (.iload_n 3, 1) := by decide +kernel
theorem dX8_buyerLine_92 : decode cX8_buyerLine 92 = .ok (.sipush 900, 3) := by decide +kernel
theorem dX8_buyerLine_95 : decode cX8_buyerLine 95 = .ok (.if_icmp .ge 26, 3) := by decide +kernel
theorem dX8_buyerLine_98 : decode cX8_buyerLine 98 = .ok (.iload_n 2, 1) := by decide +kernel
theorem dX8_buyerLine_99 : decode cX8_buyerLine 99 = .ok (.ifCond .eq 22, 3) := by decide +kernel
theorem dX8_buyerLine_102 : decode cX8_buyerLine 102 = .ok (.aload_n 0, 1) := by decide +kernel
theorem dX8_buyerLine_103 : decode cX8_buyerLine 103 = .ok (.getfield 22, 3) := by decide +kernel
theorem dX8_buyerLine_106 : decode cX8_buyerLine 106 = .ok (.ifCond .ne 15, 3) := by decide +kernel
theorem dX8_buyerLine_109 : decode cX8_buyerLine 109 = .ok (.aload_n 0, 1) := by decide +kernel
theorem dX8_buyerLine_110 : decode cX8_buyerLine 110 = .ok (.iload_n 1, 1) := by decide +kernel
theorem dX8_buyerLine_111 : decode cX8_buyerLine 111 = .ok (.invokevirtual 147, 3) := by decide +kernel
theorem dX8_buyerLine_114 : decode cX8_buyerLine 114 = .ok (.istore_n 2, 1) := by decide +kernel
theorem dX8_buyerLine_115 : decode cX8_buyerLine 115 = .ok (.iinc 3 1, 3) := by decide +kernel
theorem dX8_buyerLine_118 : decode cX8_buyerLine 118 = .ok (.goto (-27), 3) := by decide +kernel
theorem dX8_buyerLine_121 : decode cX8_buyerLine 121 = .ok (.return_, 1) := by decide +kernel
theorem dX8_takeMark_0 : decode cX8_takeMark 0 = .ok (.aload_n 0, 1) := by decide +kernel
theorem dX8_takeMark_1 : decode cX8_takeMark 1 = .ok (.invokevirtual 57, 3) := by decide +kernel
theorem dX8_takeMark_4 : decode cX8_takeMark 4 = .ok (.istore_n 2, 1) := by decide +kernel
theorem dX8_takeMark_5 : decode cX8_takeMark 5 = .ok (.iload_n 2, 1) := by decide +kernel
theorem dX8_takeMark_6 : decode cX8_takeMark 6 = .ok (.sipush 1002, 3) := by decide +kernel
theorem dX8_takeMark_9 : decode cX8_takeMark 9 = .ok (.if_icmp .eq 12, 3) := by decide +kernel
theorem dX8_takeMark_12 : decode cX8_takeMark 12 = .ok (.iload_n 2, 1) := by decide +kernel
theorem dX8_takeMark_13 : decode cX8_takeMark 13 = .ok (.sipush 1013, 3) := by decide +kernel
theorem dX8_takeMark_16 : decode cX8_takeMark 16 = .ok (.if_icmp .eq 5, 3) := by decide +kernel
theorem dX8_takeMark_19 : decode cX8_takeMark 19 = .ok (.iconst 0, 1) := by decide +kernel
theorem dX8_takeMark_20 : decode cX8_takeMark 20 = .ok (.ireturn, 1) := by decide +kernel
theorem dX8_takeMark_21 : decode cX8_takeMark 21 = .ok (.aload_n 0, 1) := by decide +kernel
theorem dX8_takeMark_22 : decode cX8_takeMark 22 = .ok (.dup, 1) := by decide +kernel
theorem dX8_takeMark_23 : decode cX8_takeMark 23 = .ok (.getfield 18, 3) := by decide +kernel
theorem dX8_takeMark_26 : decode cX8_takeMark 26 = .ok (.iconst 1, 1) := by decide +kernel
theorem dX8_takeMark_27 : decode cX8_takeMark 27 = .ok (.iadd, 1) := by decide +kernel
theorem dX8_takeMark_28 : decode cX8_takeMark 28 = .ok (.putfield 18, 3) := by decide +kernel
theorem dX8_takeMark_31 : decode cX8_takeMark 31 = .ok (.aload_n 0, 1) := by decide +kernel
theorem dX8_takeMark_32 : decode cX8_takeMark 32 = .ok (.iconst 0, 1) := by decide +kernel
theorem dX8_takeMark_33 : decode cX8_takeMark 33 = .ok (.bipush 9, 2) := by decide +kernel
theorem dX8_takeMark_35 : decode cX8_takeMark 35 = .ok (.invokevirtual 120, 3) := by decide +kernel
theorem dX8_takeMark_38 : decode cX8_takeMark 38 = .ok (.istore_n 3, 1) := by decide +kernel
theorem dX8_takeMark_39 : decode cX8_takeMark 39 = .ok (.iload_n 2, 1) := by decide +kernel
theorem dX8_takeMark_40 : decode cX8_takeMark 40 = .ok (.sipush 1002, 3) := by decide +kernel
theorem dX8_takeMark_43 : decode cX8_takeMark 43 = .ok (.if_icmp .ne 16, 3) := by decide +kernel
theorem dX8_takeMark_46 : decode cX8_takeMark 46 = .ok (.aload_n 0, 1) := by decide +kernel
theorem dX8_takeMark_47 : decode cX8_takeMark 47 = .ok (.getfield 28, 3) := by decide +kernel
theorem dX8_takeMark_50 : decode cX8_takeMark 50 = .ok (.getfield 141, 3) := by decide +kernel
theorem dX8_takeMark_53 : decode cX8_takeMark 53 = .ok (.iload_n 1, 1) := by decide +kernel
theorem dX8_takeMark_54 : decode cX8_takeMark 54 = .ok (.iload_n 3, 1) := by decide +kernel
theorem dX8_takeMark_55 : decode cX8_takeMark 55 = .ok (.iastore, 1) := by decide +kernel
theorem dX8_takeMark_56 : decode cX8_takeMark 56 = .ok (.goto 13, 3) := by decide +kernel
theorem dX8_takeMark_59 : decode cX8_takeMark 59 = .ok (.aload_n 0, 1) := by decide +kernel
theorem dX8_takeMark_60 : decode cX8_takeMark 60 = .ok (.getfield 28, 3) := by decide +kernel
theorem dX8_takeMark_63 : decode cX8_takeMark 63 = .ok (.getfield 144, 3) := by decide +kernel
theorem dX8_takeMark_66 : decode cX8_takeMark 66 = .ok (.iload_n 1, 1) := by decide +kernel
theorem dX8_takeMark_67 : decode cX8_takeMark 67 = .ok (.iload_n 3, 1) := by decide +kernel
theorem dX8_takeMark_68 : decode cX8_takeMark 68 = .ok (.iastore, 1) := by decide +kernel
theorem dX8_takeMark_69 : decode cX8_takeMark 69 = .ok (.iconst 1, 1) := by decide +kernel
theorem dX8_takeMark_70 : decode cX8_takeMark 70 = .ok (.ireturn, 1) := by decide +kernel
theorem dX8_emit_0 : decode cX8_emit 0 = .ok (.aload_n 0, 1) := by decide +kernel
theorem dX8_emit_1 : decode cX8_emit 1 = .ok (.getfield 22, 3) := by decide +kernel
theorem dX8_emit_4 : decode cX8_emit 4 = .ok (.ifCond .ne 50, 3) := by decide +kernel
theorem dX8_emit_7 : decode cX8_emit 7 = .ok (.aload_n 0, 1) := by decide +kernel
theorem dX8_emit_8 : decode cX8_emit 8 = .ok (.getfield 28, 3) := by decide +kernel
theorem dX8_emit_11 : decode cX8_emit 11 = .ok (.getfield 93, 3) := by decide +kernel
theorem dX8_emit_14 : decode cX8_emit 14 = .ok (.aload_n 0, 1) := by decide +kernel
theorem dX8_emit_15 : decode cX8_emit 15 = .ok (.getfield 28, 3) := by decide +kernel
theorem dX8_emit_18 : decode cX8_emit 18 = .ok (.getfield 150, 3) := by decide +kernel
theorem dX8_emit_21 : decode cX8_emit 21 = .ok (.arraylength, 1) := by decide +kernel
theorem dX8_emit_22 : decode cX8_emit 22 = .ok (.if_icmp .ge 32, 3) := by decide +kernel
theorem dX8_emit_25 : decode cX8_emit 25 = .ok (.aload_n 0, 1) := by decide +kernel
theorem dX8_emit_26 : decode cX8_emit 26 = .ok (.getfield 28, 3) := by decide +kernel
theorem dX8_emit_29 : decode cX8_emit 29 = .ok (.getfield 150, 3) := by decide +kernel
theorem dX8_emit_32 : decode cX8_emit 32 = .ok (.aload_n 0, 1) := by decide +kernel
theorem dX8_emit_33 : decode cX8_emit 33 = .ok (.getfield 28, 3) := by decide +kernel
theorem dX8_emit_36 : decode cX8_emit 36 = .ok (.getfield 93, 3) := by decide +kernel
theorem dX8_emit_39 : decode cX8_emit 39 = .ok (.iload_n 1, 1) := by decide +kernel
theorem dX8_emit_40 : decode cX8_emit 40 = .ok (.iastore, 1) := by decide +kernel
theorem dX8_emit_41 : decode cX8_emit 41 = .ok (.aload_n 0, 1) := by decide +kernel
theorem dX8_emit_42 : decode cX8_emit 42 = .ok (.getfield 28, 3) := by decide +kernel
theorem dX8_emit_45 : decode cX8_emit 45 = .ok (.dup, 1) := by decide +kernel
theorem dX8_emit_46 : decode cX8_emit 46 = .ok (.getfield 93, 3) := by decide +kernel
theorem dX8_emit_49 : decode cX8_emit 49 = .ok (.iconst 1, 1) := by decide +kernel
theorem dX8_emit_50 : decode cX8_emit 50 = .ok (.iadd, 1) := by decide +kernel
theorem dX8_emit_51 : decode cX8_emit 51 = .ok (.putfield 93, 3) := by decide +kernel
theorem dX8_emit_54 : decode cX8_emit 54 = .ok (.return_, 1) := by decide +kernel
theorem dX8_truth_0 : decode cX8_truth 0 = .ok (.aload_n 0, 1) := by decide +kernel
theorem dX8_truth_1 : decode cX8_truth 1 = .ok (.iload_n 1, 1) := by decide +kernel
theorem dX8_truth_2 : decode cX8_truth 2 = .ok (.invokevirtual 153, 3) := by decide +kernel
theorem dX8_truth_5 : decode cX8_truth 5 = .ok (.iconst 0, 1) := by decide +kernel
theorem dX8_truth_6 : decode cX8_truth 6 = .ok (.istore_n 2, 1) := by decide +kernel
theorem dX8_truth_7 : decode cX8_truth 7 = .ok (.iload_n 2, 1) := by decide +kernel
theorem dX8_truth_8 : decode cX8_truth 8 = .ok (.sipush 900, 3) := by decide +kernel
theorem dX8_truth_11 : decode cX8_truth 11 = .ok (.if_icmp .ge 48, 3) := by decide +kernel
theorem dX8_truth_14 : decode cX8_truth 14 = .ok (.aload_n 0, 1) := by decide +kernel
theorem dX8_truth_15 : decode cX8_truth 15 = .ok (.getfield 22, 3) := by decide +kernel
theorem dX8_truth_18 : decode cX8_truth 18 = .ok (.ifCond .ne 41, 3) := by decide +kernel
theorem dX8_truth_21 : decode cX8_truth 21 = .ok (.aload_n 0, 1) := by decide +kernel
theorem dX8_truth_22 : decode cX8_truth 22 = .ok (.invokevirtual 57, 3) := by decide +kernel
theorem dX8_truth_25 : decode cX8_truth 25 = .ok (.sipush 1014, 3) := by decide +kernel
theorem dX8_truth_28 : decode cX8_truth 28 = .ok (.if_icmp .ne 31, 3) := by decide +kernel
theorem dX8_truth_31 : decode cX8_truth 31 = .ok (.aload_n 0, 1) := by decide +kernel
theorem dX8_truth_32 : decode cX8_truth 32 = .ok (.dup, 1) := by decide +kernel
theorem dX8_truth_33 : decode cX8_truth 33 = .ok (.getfield 18, 3) := by decide +kernel
theorem dX8_truth_36 : decode cX8_truth 36 = .ok (.iconst 1, 1) := by decide +kernel
theorem dX8_truth_37 : decode cX8_truth 37 = .ok (.iadd, 1) := by decide +kernel
theorem dX8_truth_38 : decode cX8_truth 38 = .ok (.putfield 18, 3) := by decide +kernel
theorem dX8_truth_41 : decode cX8_truth 41 = .ok (.aload_n 0, 1) := by decide +kernel
theorem dX8_truth_42 : decode cX8_truth 42 = .ok (.iload_n 1, 1) := by decide +kernel
theorem dX8_truth_43 : decode cX8_truth 43 = .ok (.invokevirtual 153, 3) := by decide +kernel
theorem dX8_truth_46 : decode cX8_truth 46 = .ok (.aload_n 0, 1) := by decide +kernel
theorem dX8_truth_47 : decode cX8_truth 47 = .ok (.sipush 1014, 3) := by decide +kernel
theorem dX8_truth_50 : decode cX8_truth 50 = .ok (.invokevirtual 156, 3) := by decide +kernel
theorem dX8_truth_53 : decode cX8_truth 53 = .ok (.iinc 2 1, 3) := by decide +kernel
theorem dX8_truth_56 : decode cX8_truth 56 = .ok (.goto (-49), 3) := by decide +kernel
theorem dX8_truth_59 : decode cX8_truth 59 = .ok (.return_, 1) := by decide +kernel
theorem dX8_both_0 : decode cX8_both 0 = .ok (.aload_n 0, 1) := by decide +kernel
theorem dX8_both_1 : decode cX8_both 1 = .ok (.iload_n 1, 1) := by decide +kernel
theorem dX8_both_2 : decode cX8_both 2 = .ok (.invokevirtual 159, 3) := by decide +kernel
theorem dX8_both_5 : decode cX8_both 5 = .ok (.iconst 0, 1) := by decide +kernel
theorem dX8_both_6 : decode cX8_both 6 = .ok (.istore_n 2, 1) := by decide +kernel
theorem dX8_both_7 : decode cX8_both 7 = .ok (.iload_n 2, 1) := by decide +kernel
theorem dX8_both_8 : decode cX8_both 8 = .ok (.sipush 900, 3) := by decide +kernel
theorem dX8_both_11 : decode cX8_both 11 = .ok (.if_icmp .ge 48, 3) := by decide +kernel
theorem dX8_both_14 : decode cX8_both 14 = .ok (.aload_n 0, 1) := by decide +kernel
theorem dX8_both_15 : decode cX8_both 15 = .ok (.getfield 22, 3) := by decide +kernel
theorem dX8_both_18 : decode cX8_both 18 = .ok (.ifCond .ne 41, 3) := by decide +kernel
theorem dX8_both_21 : decode cX8_both 21 = .ok (.aload_n 0, 1) := by decide +kernel
theorem dX8_both_22 : decode cX8_both 22 = .ok (.invokevirtual 57, 3) := by decide +kernel
theorem dX8_both_25 : decode cX8_both 25 = .ok (.sipush 1015, 3) := by decide +kernel
theorem dX8_both_28 : decode cX8_both 28 = .ok (.if_icmp .ne 31, 3) := by decide +kernel
theorem dX8_both_31 : decode cX8_both 31 = .ok (.aload_n 0, 1) := by decide +kernel
theorem dX8_both_32 : decode cX8_both 32 = .ok (.dup, 1) := by decide +kernel
theorem dX8_both_33 : decode cX8_both 33 = .ok (.getfield 18, 3) := by decide +kernel
theorem dX8_both_36 : decode cX8_both 36 = .ok (.iconst 1, 1) := by decide +kernel
theorem dX8_both_37 : decode cX8_both 37 = .ok (.iadd, 1) := by decide +kernel
theorem dX8_both_38 : decode cX8_both 38 = .ok (.putfield 18, 3) := by decide +kernel
theorem dX8_both_41 : decode cX8_both 41 = .ok (.aload_n 0, 1) := by decide +kernel
theorem dX8_both_42 : decode cX8_both 42 = .ok (.iload_n 1, 1) := by decide +kernel
theorem dX8_both_43 : decode cX8_both 43 = .ok (.invokevirtual 159, 3) := by decide +kernel
theorem dX8_both_46 : decode cX8_both 46 = .ok (.aload_n 0, 1) := by decide +kernel
theorem dX8_both_47 : decode cX8_both 47 = .ok (.sipush 1015, 3) := by decide +kernel
theorem dX8_both_50 : decode cX8_both 50 = .ok (.invokevirtual 156, 3) := by decide +kernel
theorem dX8_both_53 : decode cX8_both 53 = .ok (.iinc 2 1, 3) := by decide +kernel
theorem dX8_both_56 : decode cX8_both 56 = .ok (.goto (-49), 3) := by decide +kernel
theorem dX8_both_59 : decode cX8_both 59 = .ok (.return_, 1) := by decide +kernel
theorem dX8_unit_0 : decode cX8_unit 0 = .ok (.aload_n 0, 1) := by decide +kernel
theorem dX8_unit_1 : decode cX8_unit 1 = .ok (.getfield 22, 3) := by decide +kernel
theorem dX8_unit_4 : decode cX8_unit 4 = .ok (.ifCond .eq 4, 3) := by decide +kernel
theorem dX8_unit_7 : decode cX8_unit 7 = .ok (.return_, 1) := by decide +kernel
theorem dX8_unit_8 : decode cX8_unit 8 = .ok (.aload_n 0, 1) := by decide +kernel
theorem dX8_unit_9 : decode cX8_unit 9 = .ok (.invokevirtual 57, 3) := by decide +kernel
theorem dX8_unit_12 : decode cX8_unit 12 = .ok (.istore_n 2, 1) := by decide +kernel
theorem dX8_unit_13 : decode cX8_unit 13 = .ok (.iload_n 2, 1) := by decide +kernel
theorem dX8_unit_14 : decode cX8_unit 14 = .ok (.sipush 1016, 3) := by decide +kernel
theorem dX8_unit_17 : decode cX8_unit 17 = .ok (.if_icmp .ne 25, 3) := by decide +kernel
theorem dX8_unit_20 : decode cX8_unit 20 = .ok (.aload_n 0, 1) := by decide +kernel
theorem dX8_unit_21 : decode cX8_unit 21 = .ok (.iload_n 1, 1) := by decide +kernel
theorem dX8_unit_22 : decode cX8_unit 22 = .ok (.invokevirtual 162, 3) := by decide +kernel
theorem dX8_unit_25 : decode cX8_unit 25 = .ok (.aload_n 0, 1) := by decide +kernel
theorem dX8_unit_26 : decode cX8_unit 26 = .ok (.iload_n 1, 1) := by decide +kernel
theorem dX8_unit_27 : decode cX8_unit 27 = .ok (.iconst 1, 1) := by decide +kernel
theorem dX8_unit_28 : decode cX8_unit 28 = .ok (.iadd, 1) := by decide +kernel
theorem dX8_unit_29 : decode cX8_unit 29 = .ok (.invokevirtual 159, 3) := by decide +kernel
theorem dX8_unit_32 : decode cX8_unit 32 = .ok (.aload_n 0, 1) := by decide +kernel
theorem dX8_unit_33 : decode cX8_unit 33 = .ok (.sipush 1016, 3) := by decide +kernel
theorem dX8_unit_36 : decode cX8_unit 36 = .ok (.invokevirtual 156, 3) := by decide +kernel
theorem dX8_unit_39 : decode cX8_unit 39 = .ok (.goto 91, 3) := by decide +kernel
theorem dX8_unit_42 : decode cX8_unit 42 = .ok (.iload_n 2, 1) := by decide +kernel
theorem dX8_unit_43 : decode cX8_unit 43 = .ok (.sipush 2091, 3) := by decide +kernel
theorem dX8_unit_46 : decode cX8_unit 46 = .ok (.if_icmp .ne 25, 3) := by decide +kernel
theorem dX8_unit_49 : decode cX8_unit 49 = .ok (.aload_n 0, 1) := by decide +kernel
theorem dX8_unit_50 : decode cX8_unit 50 = .ok (.iload_n 1, 1) := by decide +kernel
theorem dX8_unit_51 : decode cX8_unit 51 = .ok (.invokevirtual 162, 3) := by decide +kernel
theorem dX8_unit_54 : decode cX8_unit 54 = .ok (.aload_n 0, 1) := by decide +kernel
theorem dX8_unit_55 : decode cX8_unit 55 = .ok (.iload_n 1, 1) := by decide +kernel
theorem dX8_unit_56 : decode cX8_unit 56 = .ok (.iconst 1, 1) := by decide +kernel
theorem dX8_unit_57 : decode cX8_unit 57 = .ok (.iadd, 1) := by decide +kernel
theorem dX8_unit_58 : decode cX8_unit 58 = .ok (.invokevirtual 108, 3) := by decide +kernel
theorem dX8_unit_61 : decode cX8_unit 61 = .ok (.aload_n 0, 1) := by decide +kernel
theorem dX8_unit_62 : decode cX8_unit 62 = .ok (.sipush 2093, 3) := by decide +kernel
theorem dX8_unit_65 : decode cX8_unit 65 = .ok (.invokevirtual 50, 3) := by decide +kernel
theorem dX8_unit_68 : decode cX8_unit 68 = .ok (.goto 62, 3) := by decide +kernel
theorem dX8_unit_71 : decode cX8_unit 71 = .ok (.aload_n 0, 1) := by decide +kernel
theorem dX8_unit_72 : decode cX8_unit 72 = .ok (.iload_n 1, 1) := by decide +kernel
theorem dX8_unit_73 : decode cX8_unit 73 = .ok (.invokevirtual 99, 3) := by decide +kernel
theorem dX8_unit_76 : decode cX8_unit 76 = .ok (.aload_n 0, 1) := by decide +kernel
theorem dX8_unit_77 : decode cX8_unit 77 = .ok (.invokevirtual 57, 3) := by decide +kernel
theorem dX8_unit_80 : decode cX8_unit 80 = .ok (.istore_n 3, 1) := by decide +kernel
theorem dX8_unit_81 : decode cX8_unit 81 = .ok (.iload_n 3, 1) := by decide +kernel
theorem dX8_unit_82 : decode cX8_unit 82 = .ok (.sipush 2061, 3) := by decide +kernel
theorem dX8_unit_85 : decode cX8_unit 85 = .ok (.if_icmp .eq 17, 3) := by decide +kernel
theorem dX8_unit_88 : decode cX8_unit 88 = .ok (.iload_n 3, 1) := by decide +kernel
theorem dX8_unit_89 : decode cX8_unit 89 = .ok (.sipush 2060, 3) := by decide +kernel
theorem dX8_unit_92 : decode cX8_unit 92 = .ok (.if_icmp .eq 10, 3) := by decide +kernel
theorem dX8_unit_95 : decode cX8_unit 95 = .ok (.iload_n 3, 1) := by decide +kernel
theorem dX8_unit_96 : decode cX8_unit 96 = .ok (.sipush 2062, 3) := by decide +kernel
theorem dX8_unit_99 : decode cX8_unit 99 = .ok (.if_icmp .ne 26, 3) := by decide +kernel
theorem dX8_unit_102 : decode cX8_unit 102 = .ok (.aload_n 0, 1) := by decide +kernel
theorem dX8_unit_103 : decode cX8_unit 103 = .ok (.dup, 1) := by decide +kernel
theorem dX8_unit_104 : decode cX8_unit 104 = .ok (.getfield 18, 3) := by decide +kernel
theorem dX8_unit_107 : decode cX8_unit 107 = .ok (.iconst 1, 1) := by decide +kernel
theorem dX8_unit_108 : decode cX8_unit 108 = .ok (.iadd, 1) := by decide +kernel
theorem dX8_unit_109 : decode cX8_unit 109 = .ok (.putfield 18, 3) := by decide +kernel
theorem dX8_unit_112 : decode cX8_unit 112 = .ok (.aload_n 0, 1) := by decide +kernel
theorem dX8_unit_113 : decode cX8_unit 113 = .ok (.iload_n 1, 1) := by decide +kernel
theorem dX8_unit_114 : decode cX8_unit 114 = .ok (.invokevirtual 99, 3) := by decide +kernel
theorem dX8_unit_117 : decode cX8_unit 117 = .ok (.aload_n 0, 1) := by decide +kernel
theorem dX8_unit_118 : decode cX8_unit 118 = .ok (.iload_n 3, 1) := by decide +kernel
theorem dX8_unit_119 : decode cX8_unit 119 = .ok (.invokevirtual 156, 3) := by decide +kernel
theorem dX8_unit_122 : decode cX8_unit 122 = .ok (.goto 8, 3) := by decide +kernel
theorem dX8_unit_125 : decode cX8_unit 125 = .ok (.aload_n 0, 1) := by decide +kernel
theorem dX8_unit_126 : decode cX8_unit 126 = .ok (.iconst 2, 1) := by decide +kernel
theorem dX8_unit_127 : decode cX8_unit 127 = .ok (.invokevirtual 81, 3) := by decide +kernel
theorem dX8_unit_130 : decode cX8_unit 130 = .ok (.return_, 1) := by decide +kernel
theorem dX8_goDeeper_0 : decode cX8_goDeeper 0 = .ok (.iload_n 1, 1) := by decide +kernel
theorem dX8_goDeeper_1 : decode cX8_goDeeper 1 = .ok (.bipush 6, 2) := by decide +kernel
theorem dX8_goDeeper_3 : decode cX8_goDeeper 3 = .ok (.if_icmp .lt 11, 3) := by decide +kernel
theorem dX8_goDeeper_6 : decode cX8_goDeeper 6 = .ok (.aload_n 0, 1) := by decide +kernel
theorem dX8_goDeeper_7 : decode cX8_goDeeper 7 = .ok (.iconst 4, 1) := by decide +kernel
theorem dX8_goDeeper_8 : decode cX8_goDeeper 8 = .ok (.invokevirtual 81, 3) := by decide +kernel
theorem dX8_goDeeper_11 : decode cX8_goDeeper 11 = .ok (.goto 13, 3) := by decide +kernel
theorem dX8_goDeeper_14 : decode cX8_goDeeper 14 = .ok (.aload_n 0, 1) := by decide +kernel
theorem dX8_goDeeper_15 : decode cX8_goDeeper 15 = .ok (.dup, 1) := by decide +kernel
theorem dX8_goDeeper_16 : decode cX8_goDeeper 16 = .ok (.getfield 18, 3) := by decide +kernel
theorem dX8_goDeeper_19 : decode cX8_goDeeper 19 = .ok (.iconst 1, 1) := by decide +kernel
theorem dX8_goDeeper_20 : decode cX8_goDeeper 20 = .ok (.iadd, 1) := by decide +kernel
theorem dX8_goDeeper_21 : decode cX8_goDeeper 21 = .ok (.putfield 18, 3) := by decide +kernel
theorem dX8_goDeeper_24 : decode cX8_goDeeper 24 = .ok (.return_, 1) := by decide +kernel
theorem dX8_sum_0 : decode cX8_sum 0 = .ok (.aload_n 0, 1) := by decide +kernel
theorem dX8_sum_1 : decode cX8_sum 1 = .ok (.iload_n 1, 1) := by decide +kernel
theorem dX8_sum_2 : decode cX8_sum 2 = .ok (.invokevirtual 165, 3) := by decide +kernel
theorem dX8_sum_5 : decode cX8_sum 5 = .ok (.aload_n 0, 1) := by decide +kernel
theorem dX8_sum_6 : decode cX8_sum 6 = .ok (.invokevirtual 57, 3) := by decide +kernel
theorem dX8_sum_9 : decode cX8_sum 9 = .ok (.istore_n 2, 1) := by decide +kernel
theorem dX8_sum_10 : decode cX8_sum 10 = .ok (.iconst 0, 1) := by decide +kernel
theorem dX8_sum_11 : decode cX8_sum 11 = .ok (.istore_n 3, 1) := by decide +kernel
theorem dX8_sum_12 : decode cX8_sum 12 = .ok (.iload_n 3, 1) := by decide +kernel
theorem dX8_sum_13 : decode cX8_sum 13 = .ok (.sipush 900, 3) := by decide +kernel
theorem dX8_sum_16 : decode cX8_sum 16 = .ok (.if_icmp .ge 55, 3) := by decide +kernel
theorem dX8_sum_19 : decode cX8_sum 19 = .ok (.aload_n 0, 1) := by decide +kernel
theorem dX8_sum_20 : decode cX8_sum 20 = .ok (.getfield 22, 3) := by decide +kernel
theorem dX8_sum_23 : decode cX8_sum 23 = .ok (.ifCond .ne 48, 3) := by decide +kernel
theorem dX8_sum_26 : decode cX8_sum 26 = .ok (.iload_n 2, 1) := by decide +kernel
theorem dX8_sum_27 : decode cX8_sum 27 = .ok (.sipush 2043, 3) := by decide +kernel
theorem dX8_sum_30 : decode cX8_sum 30 = .ok (.if_icmp .eq 10, 3) := by decide +kernel
theorem dX8_sum_33 : decode cX8_sum 33 = .ok (.iload_n 2, 1) := by decide +kernel
theorem dX8_sum_34 : decode cX8_sum 34 = .ok (.sipush 2045, 3) := by decide +kernel
theorem dX8_sum_37 : decode cX8_sum 37 = .ok (.if_icmp .ne 34, 3) := by decide +kernel
theorem dX8_sum_40 : decode cX8_sum 40 = .ok (.aload_n 0, 1) := by decide +kernel
theorem dX8_sum_41 : decode cX8_sum 41 = .ok (.dup, 1) := by decide +kernel
theorem dX8_sum_42 : decode cX8_sum 42 = .ok (.getfield 18, 3) := by decide +kernel
theorem dX8_sum_45 : decode cX8_sum 45 = .ok (.iconst 1, 1) := by decide +kernel
theorem dX8_sum_46 : decode cX8_sum 46 = .ok (.iadd, 1) := by decide +kernel
theorem dX8_sum_47 : decode cX8_sum 47 = .ok (.putfield 18, 3) := by decide +kernel
theorem dX8_sum_50 : decode cX8_sum 50 = .ok (.aload_n 0, 1) := by decide +kernel
theorem dX8_sum_51 : decode cX8_sum 51 = .ok (.iload_n 1, 1) := by decide +kernel
theorem dX8_sum_52 : decode cX8_sum 52 = .ok (.invokevirtual 165, 3) := by decide +kernel
theorem dX8_sum_55 : decode cX8_sum 55 = .ok (.aload_n 0, 1) := by decide +kernel
theorem dX8_sum_56 : decode cX8_sum 56 = .ok (.iload_n 2, 1) := by decide +kernel
theorem dX8_sum_57 : decode cX8_sum 57 = .ok (.invokevirtual 156, 3) := by decide +kernel
theorem dX8_sum_60 : decode cX8_sum 60 = .ok (.aload_n 0, 1) := by decide +kernel
theorem dX8_sum_61 : decode cX8_sum 61 = .ok (.invokevirtual 57, 3) := by decide +kernel
theorem dX8_sum_64 : decode cX8_sum 64 = .ok (.istore_n 2, 1) := by decide +kernel
theorem dX8_sum_65 : decode cX8_sum 65 = .ok (.iinc 3 1, 3) := by decide +kernel
theorem dX8_sum_68 : decode cX8_sum 68 = .ok (.goto (-56), 3) := by decide +kernel
theorem dX8_sum_71 : decode cX8_sum 71 = .ok (.return_, 1) := by decide +kernel
theorem dX8_term_0 : decode cX8_term 0 = .ok (.aload_n 0, 1) := by decide +kernel
theorem dX8_term_1 : decode cX8_term 1 = .ok (.iload_n 1, 1) := by decide +kernel
theorem dX8_term_2 : decode cX8_term 2 = .ok (.invokevirtual 168, 3) := by decide +kernel
theorem dX8_term_5 : decode cX8_term 5 = .ok (.iconst 0, 1) := by decide +kernel
theorem dX8_term_6 : decode cX8_term 6 = .ok (.istore_n 2, 1) := by decide +kernel
theorem dX8_term_7 : decode cX8_term 7 = .ok (.iload_n 2, 1) := by decide +kernel
theorem dX8_term_8 : decode cX8_term 8 = .ok (.sipush 900, 3) := by decide +kernel
theorem dX8_term_11 : decode cX8_term 11 = .ok (.if_icmp .ge 48, 3) := by decide +kernel
theorem dX8_term_14 : decode cX8_term 14 = .ok (.aload_n 0, 1) := by decide +kernel
theorem dX8_term_15 : decode cX8_term 15 = .ok (.getfield 22, 3) := by decide +kernel
theorem dX8_term_18 : decode cX8_term 18 = .ok (.ifCond .ne 41, 3) := by decide +kernel
theorem dX8_term_21 : decode cX8_term 21 = .ok (.aload_n 0, 1) := by decide +kernel
theorem dX8_term_22 : decode cX8_term 22 = .ok (.invokevirtual 57, 3) := by decide +kernel
theorem dX8_term_25 : decode cX8_term 25 = .ok (.sipush 2042, 3) := by decide +kernel
theorem dX8_term_28 : decode cX8_term 28 = .ok (.if_icmp .ne 31, 3) := by decide +kernel
theorem dX8_term_31 : decode cX8_term 31 = .ok (.aload_n 0, 1) := by decide +kernel
theorem dX8_term_32 : decode cX8_term 32 = .ok (.dup, 1) := by decide +kernel
theorem dX8_term_33 : decode cX8_term 33 = .ok (.getfield 18, 3) := by decide +kernel
theorem dX8_term_36 : decode cX8_term 36 = .ok (.iconst 1, 1) := by decide +kernel
theorem dX8_term_37 : decode cX8_term 37 = .ok (.iadd, 1) := by decide +kernel
theorem dX8_term_38 : decode cX8_term 38 = .ok (.putfield 18, 3) := by decide +kernel
theorem dX8_term_41 : decode cX8_term 41 = .ok (.aload_n 0, 1) := by decide +kernel
theorem dX8_term_42 : decode cX8_term 42 = .ok (.iload_n 1, 1) := by decide +kernel
theorem dX8_term_43 : decode cX8_term 43 = .ok (.invokevirtual 168, 3) := by decide +kernel
theorem dX8_term_46 : decode cX8_term 46 = .ok (.aload_n 0, 1) := by decide +kernel
theorem dX8_term_47 : decode cX8_term 47 = .ok (.sipush 2042, 3) := by decide +kernel
theorem dX8_term_50 : decode cX8_term 50 = .ok (.invokevirtual 156, 3) := by decide +kernel
theorem dX8_term_53 : decode cX8_term 53 = .ok (.iinc 2 1, 3) := by decide +kernel
theorem dX8_term_56 : decode cX8_term 56 = .ok (.goto (-49), 3) := by decide +kernel
theorem dX8_term_59 : decode cX8_term 59 = .ok (.return_, 1) := by decide +kernel
theorem dX8_atom_0 : decode cX8_atom 0 = .ok (.aload_n 0, 1) := by decide +kernel
theorem dX8_atom_1 : decode cX8_atom 1 = .ok (.getfield 22, 3) := by decide +kernel
theorem dX8_atom_4 : decode cX8_atom 4 = .ok (.ifCond .eq 4, 3) := by decide +kernel
theorem dX8_atom_7 : decode cX8_atom 7 = .ok (.return_, 1) := by decide +kernel
theorem dX8_atom_8 : decode cX8_atom 8 = .ok (.aload_n 0, 1) := by decide +kernel
theorem dX8_atom_9 : decode cX8_atom 9 = .ok (.invokevirtual 57, 3) := by decide +kernel
theorem dX8_atom_12 : decode cX8_atom 12 = .ok (.istore_n 2, 1) := by decide +kernel
theorem dX8_atom_13 : decode cX8_atom 13 = .ok (.iload_n 2, 1) := by decide +kernel
theorem dX8_atom_14 : decode cX8_atom 14 = .ok (.sipush 1008, 3) := by decide +kernel
theorem dX8_atom_17 : decode cX8_atom 17 = .ok (.if_icmp .ge 21, 3) := by decide +kernel
theorem dX8_atom_20 : decode cX8_atom 20 = .ok (.aload_n 0, 1) := by decide +kernel
theorem dX8_atom_21 : decode cX8_atom 21 = .ok (.dup, 1) := by decide +kernel
theorem dX8_atom_22 : decode cX8_atom 22 = .ok (.getfield 18, 3) := by decide +kernel
theorem dX8_atom_25 : decode cX8_atom 25 = .ok (.iconst 1, 1) := by decide +kernel
theorem dX8_atom_26 : decode cX8_atom 26 = .ok (.iadd, 1) := by decide +kernel
theorem dX8_atom_27 : decode cX8_atom 27 = .ok (.putfield 18, 3) := by decide +kernel
theorem dX8_atom_30 : decode cX8_atom 30 = .ok (.aload_n 0, 1) := by decide +kernel
theorem dX8_atom_31 : decode cX8_atom 31 = .ok (.iload_n 2, 1) := by decide +kernel
theorem dX8_atom_32 : decode cX8_atom 32 = .ok (.invokevirtual 156, 3) := by decide +kernel
theorem dX8_atom_35 : decode cX8_atom 35 = .ok (.goto 37, 3) := by decide +kernel
theorem dX8_atom_38 : decode cX8_atom 38 = .ok (.iload_n 2, 1) := by decide +kernel
theorem dX8_atom_39 : decode cX8_atom 39 = .ok (.sipush 2040, 3) := by decide +kernel
theorem dX8_atom_42 : decode cX8_atom 42 = .ok (.if_icmp .ne 25, 3) := by decide +kernel
theorem dX8_atom_45 : decode cX8_atom 45 = .ok (.aload_n 0, 1) := by decide +kernel
theorem dX8_atom_46 : decode cX8_atom 46 = .ok (.iload_n 1, 1) := by decide +kernel
theorem dX8_atom_47 : decode cX8_atom 47 = .ok (.invokevirtual 162, 3) := by decide +kernel
theorem dX8_atom_50 : decode cX8_atom 50 = .ok (.aload_n 0, 1) := by decide +kernel
theorem dX8_atom_51 : decode cX8_atom 51 = .ok (.iload_n 1, 1) := by decide +kernel
theorem dX8_atom_52 : decode cX8_atom 52 = .ok (.iconst 1, 1) := by decide +kernel
theorem dX8_atom_53 : decode cX8_atom 53 = .ok (.iadd, 1) := by decide +kernel
theorem dX8_atom_54 : decode cX8_atom 54 = .ok (.invokevirtual 99, 3) := by decide +kernel
theorem dX8_atom_57 : decode cX8_atom 57 = .ok (.aload_n 0, 1) := by decide +kernel
theorem dX8_atom_58 : decode cX8_atom 58 = .ok (.sipush 2041, 3) := by decide +kernel
theorem dX8_atom_61 : decode cX8_atom 61 = .ok (.invokevirtual 50, 3) := by decide +kernel
theorem dX8_atom_64 : decode cX8_atom 64 = .ok (.goto 8, 3) := by decide +kernel
theorem dX8_atom_67 : decode cX8_atom 67 = .ok (.aload_n 0, 1) := by decide +kernel
theorem dX8_atom_68 : decode cX8_atom 68 = .ok (.iconst 2, 1) := by decide +kernel
theorem dX8_atom_69 : decode cX8_atom 69 = .ok (.invokevirtual 81, 3) := by decide +kernel
theorem dX8_atom_72 : decode cX8_atom 72 = .ok (.return_, 1) := by decide +kernel
theorem dX9_init_0 : decode cX9_init 0 = .ok (.aload_n 0, 1) := by decide +kernel
theorem dX9_init_1 : decode cX9_init 1 = .ok (.invokespecial 3, 3) := by decide +kernel
theorem dX9_init_4 : decode cX9_init 4 = .ok (.aload_n 0, 1) := by decide +kernel
theorem dX9_init_5 : decode cX9_init 5 = .ok (.iconst 0, 1) := by decide +kernel
theorem dX9_init_6 : decode cX9_init 6 = .ok (.putfield 9, 3) := by decide +kernel
theorem dX9_init_9 : decode cX9_init 9 = .ok (.aload_n 0, 1) := by decide +kernel
theorem dX9_init_10 : decode cX9_init 10 = .ok (.bipush 8, 2) := by decide +kernel
theorem dX9_init_12 : decode cX9_init 12 = .ok (.newarray .int, 2) := by decide +kernel
theorem dX9_init_14 : decode cX9_init 14 = .ok (.putfield 15, 3) := by decide +kernel
theorem dX9_init_17 : decode cX9_init 17 = .ok (.aload_n 0, 1) := by decide +kernel
theorem dX9_init_18 : decode cX9_init 18 = .ok (.bipush 8, 2) := by decide +kernel
theorem dX9_init_20 : decode cX9_init 20 = .ok (.newarray .int, 2) := by decide +kernel
theorem dX9_init_22 : decode cX9_init 22 = .ok (.putfield 19, 3) := by decide +kernel
theorem dX9_init_25 : decode cX9_init 25 = .ok (.aload_n 0, 1) := by decide +kernel
theorem dX9_init_26 : decode cX9_init 26 = .ok (.iconst 0, 1) := by decide +kernel
theorem dX9_init_27 : decode cX9_init 27 = .ok (.putfield 22, 3) := by decide +kernel
theorem dX9_init_30 : decode cX9_init 30 = .ok (.aload_n 0, 1) := by decide +kernel
theorem dX9_init_31 : decode cX9_init 31 = .ok (.iconst 0, 1) := by decide +kernel
theorem dX9_init_32 : decode cX9_init 32 = .ok (.putfield 25, 3) := by decide +kernel
theorem dX9_init_35 : decode cX9_init 35 = .ok (.aload_n 0, 1) := by decide +kernel
theorem dX9_init_36 : decode cX9_init 36 = .ok (.iconst 0, 1) := by decide +kernel
theorem dX9_init_37 : decode cX9_init 37 = .ok (.putfield 28, 3) := by decide +kernel
theorem dX9_init_40 : decode cX9_init 40 = .ok (.aload_n 0, 1) := by decide +kernel
theorem dX9_init_41 : decode cX9_init 41 = .ok (.iconst 0, 1) := by decide +kernel
theorem dX9_init_42 : decode cX9_init 42 = .ok (.putfield 31, 3) := by decide +kernel
theorem dX9_init_45 : decode cX9_init 45 = .ok (.aload_n 0, 1) := by decide +kernel
theorem dX9_init_46 : decode cX9_init 46 = .ok (.iconst 0, 1) := by decide +kernel
theorem dX9_init_47 : decode cX9_init 47 = .ok (.putfield 34, 3) := by decide +kernel
theorem dX9_init_50 : decode cX9_init 50 = .ok (.aload_n 0, 1) := by decide +kernel
theorem dX9_init_51 : decode cX9_init 51 = .ok (.iconst 0, 1) := by decide +kernel
theorem dX9_init_52 : decode cX9_init 52 = .ok (.putfield 37, 3) := by decide +kernel
theorem dX9_init_55 : decode cX9_init 55 = .ok (.return_, 1) := by decide +kernel
theorem dX9_clear_0 : decode cX9_clear 0 = .ok (.aload_n 0, 1) := by decide +kernel
theorem dX9_clear_1 : decode cX9_clear 1 = .ok (.iconst 0, 1) := by decide +kernel
theorem dX9_clear_2 : decode cX9_clear 2 = .ok (.putfield 9, 3) := by decide +kernel
theorem dX9_clear_5 : decode cX9_clear 5 = .ok (.aload_n 0, 1) := by decide +kernel
theorem dX9_clear_6 : decode cX9_clear 6 = .ok (.iconst 0, 1) := by decide +kernel
theorem dX9_clear_7 : decode cX9_clear 7 = .ok (.putfield 22, 3) := by decide +kernel
theorem dX9_clear_10 : decode cX9_clear 10 = .ok (.aload_n 0, 1) := by decide +kernel
theorem dX9_clear_11 : decode cX9_clear 11 = .ok (.iconst 0, 1) := by decide +kernel
theorem dX9_clear_12 : decode cX9_clear 12 = .ok (.putfield 25, 3) := by decide +kernel
theorem dX9_clear_15 : decode cX9_clear 15 = .ok (.aload_n 0, 1) := by decide +kernel
theorem dX9_clear_16 : decode cX9_clear 16 = .ok (.iconst 0, 1) := by decide +kernel
theorem dX9_clear_17 : decode cX9_clear 17 = .ok (.putfield 28, 3) := by decide +kernel
theorem dX9_clear_20 : decode cX9_clear 20 = .ok (.aload_n 0, 1) := by decide +kernel
theorem dX9_clear_21 : decode cX9_clear 21 = .ok (.iconst 0, 1) := by decide +kernel
theorem dX9_clear_22 : decode cX9_clear 22 = .ok (.putfield 31, 3) := by decide +kernel
theorem dX9_clear_25 : decode cX9_clear 25 = .ok (.aload_n 0, 1) := by decide +kernel
theorem dX9_clear_26 : decode cX9_clear 26 = .ok (.iconst 0, 1) := by decide +kernel
theorem dX9_clear_27 : decode cX9_clear 27 = .ok (.putfield 34, 3) := by decide +kernel
theorem dX9_clear_30 : decode cX9_clear 30 = .ok (.aload_n 0, 1) := by decide +kernel
theorem dX9_clear_31 : decode cX9_clear 31 = .ok (.iconst 0, 1) := by decide +kernel
theorem dX9_clear_32 : decode cX9_clear 32 = .ok (.putfield 37, 3) := by decide +kernel
theorem dX9_clear_35 : decode cX9_clear 35 = .ok (.return_, 1) := by decide +kernel
theorem dX9_copyFrom_0 : decode cX9_copyFrom 0 = .ok (.aload_n 0, 1) := by decide +kernel
theorem dX9_copyFrom_1 : decode cX9_copyFrom 1 = .ok (.aload_n 1, 1) := by decide +kernel
theorem dX9_copyFrom_2 : decode cX9_copyFrom 2 = .ok (.getfield 9, 3) := by decide +kernel
theorem dX9_copyFrom_5 : decode cX9_copyFrom 5 = .ok (.putfield 9, 3) := by decide +kernel
theorem dX9_copyFrom_8 : decode cX9_copyFrom 8 = .ok (.iconst 0, 1) := by decide +kernel
theorem dX9_copyFrom_9 : decode cX9_copyFrom 9 = .ok (.istore_n 2, 1) := by decide +kernel
theorem dX9_copyFrom_10 : decode cX9_copyFrom 10 = .ok (.iload_n 2, 1) := by decide +kernel
theorem dX9_copyFrom_11 : decode cX9_copyFrom 11 = .ok (.bipush 8, 2) := by decide +kernel
theorem dX9_copyFrom_13 : decode cX9_copyFrom 13 = .ok (.if_icmp .ge 33, 3) := by decide +kernel
theorem dX9_copyFrom_16 : decode cX9_copyFrom 16 = .ok (.aload_n 0, 1) := by decide +kernel
theorem dX9_copyFrom_17 : decode cX9_copyFrom 17 = .ok (.getfield 15, 3) := by decide +kernel
theorem dX9_copyFrom_20 : decode cX9_copyFrom 20 = .ok (.iload_n 2, 1) := by decide +kernel
theorem dX9_copyFrom_21 : decode cX9_copyFrom 21 = .ok (.aload_n 1, 1) := by decide +kernel
theorem dX9_copyFrom_22 : decode cX9_copyFrom 22 = .ok (.getfield 15, 3) := by decide +kernel
theorem dX9_copyFrom_25 : decode cX9_copyFrom 25 = .ok (.iload_n 2, 1) := by decide +kernel
theorem dX9_copyFrom_26 : decode cX9_copyFrom 26 = .ok (.iaload, 1) := by decide +kernel
theorem dX9_copyFrom_27 : decode cX9_copyFrom 27 = .ok (.iastore, 1) := by decide +kernel
theorem dX9_copyFrom_28 : decode cX9_copyFrom 28 = .ok (.aload_n 0, 1) := by decide +kernel
theorem dX9_copyFrom_29 : decode cX9_copyFrom 29 = .ok (.getfield 19, 3) := by decide +kernel
theorem dX9_copyFrom_32 : decode cX9_copyFrom 32 = .ok (.iload_n 2, 1) := by decide +kernel
theorem dX9_copyFrom_33 : decode cX9_copyFrom 33 = .ok (.aload_n 1, 1) := by decide +kernel
theorem dX9_copyFrom_34 : decode cX9_copyFrom 34 = .ok (.getfield 19, 3) := by decide +kernel
theorem dX9_copyFrom_37 : decode cX9_copyFrom 37 = .ok (.iload_n 2, 1) := by decide +kernel
theorem dX9_copyFrom_38 : decode cX9_copyFrom 38 = .ok (.iaload, 1) := by decide +kernel
theorem dX9_copyFrom_39 : decode cX9_copyFrom 39 = .ok (.iastore, 1) := by decide +kernel
theorem dX9_copyFrom_40 : decode cX9_copyFrom 40 = .ok (.iinc 2 1, 3) := by decide +kernel
theorem dX9_copyFrom_43 : decode cX9_copyFrom 43 = .ok (.goto (-33), 3) := by decide +kernel
theorem dX9_copyFrom_46 : decode cX9_copyFrom 46 = .ok (.aload_n 0, 1) := by decide +kernel
theorem dX9_copyFrom_47 : decode cX9_copyFrom 47 = .ok (.aload_n 1, 1) := by decide +kernel
theorem dX9_copyFrom_48 : decode cX9_copyFrom 48 = .ok (.getfield 22, 3) := by decide +kernel
theorem dX9_copyFrom_51 : decode cX9_copyFrom 51 = .ok (.putfield 22, 3) := by decide +kernel
theorem dX9_copyFrom_54 : decode cX9_copyFrom 54 = .ok (.aload_n 0, 1) := by decide +kernel
theorem dX9_copyFrom_55 : decode cX9_copyFrom 55 = .ok (.aload_n 1, 1) := by decide +kernel
theorem dX9_copyFrom_56 : decode cX9_copyFrom 56 = .ok (.getfield 25, 3) := by decide +kernel
theorem dX9_copyFrom_59 : decode cX9_copyFrom 59 = .ok (.putfield 25, 3) := by decide +kernel
theorem dX9_copyFrom_62 : decode cX9_copyFrom 62 = .ok (.aload_n 0, 1) := by decide +kernel
theorem dX9_copyFrom_63 : decode cX9_copyFrom 63 = .ok (.aload_n 1, 1) := by decide +kernel
theorem dX9_copyFrom_64 : decode cX9_copyFrom 64 = .ok (.getfield 28, 3) := by decide +kernel
theorem dX9_copyFrom_67 : decode cX9_copyFrom 67 = .ok (.putfield 28, 3) := by decide +kernel
theorem dX9_copyFrom_70 : decode cX9_copyFrom 70 = .ok (.aload_n 0, 1) := by decide +kernel
theorem dX9_copyFrom_71 : decode cX9_copyFrom 71 = .ok (.aload_n 1, 1) := by decide +kernel
theorem dX9_copyFrom_72 : decode cX9_copyFrom 72 = .ok (.getfield 31, 3) := by decide +kernel
theorem dX9_copyFrom_75 : decode cX9_copyFrom 75 = .ok (.putfield 31, 3) := by decide +kernel
theorem dX9_copyFrom_78 : decode cX9_copyFrom 78 = .ok (.aload_n 0, 1) := by decide +kernel
theorem dX9_copyFrom_79 : decode cX9_copyFrom 79 = .ok (.aload_n 1, 1) := by decide +kernel
theorem dX9_copyFrom_80 : decode cX9_copyFrom 80 = .ok (.getfield 34, 3) := by decide +kernel
theorem dX9_copyFrom_83 : decode cX9_copyFrom 83 = .ok (.putfield 34, 3) := by decide +kernel
theorem dX9_copyFrom_86 : decode cX9_copyFrom 86 = .ok (.aload_n 0, 1) := by decide +kernel
theorem dX9_copyFrom_87 : decode cX9_copyFrom 87 = .ok (.aload_n 1, 1) := by decide +kernel
theorem dX9_copyFrom_88 : decode cX9_copyFrom 88 = .ok (.getfield 37, 3) := by decide +kernel
theorem dX9_copyFrom_91 : decode cX9_copyFrom 91 = .ok (.putfield 37, 3) := by decide +kernel
theorem dX9_copyFrom_94 : decode cX9_copyFrom 94 = .ok (.return_, 1) := by decide +kernel
theorem dX9_holds_0 : decode cX9_holds 0 = .ok (.iload_n 1, 1) := by decide +kernel
theorem dX9_holds_1 : decode cX9_holds 1 = .ok (.ifCond .lt 15, 3) := by decide +kernel
theorem dX9_holds_4 : decode cX9_holds 4 = .ok (.iload_n 1, 1) := by decide +kernel
theorem dX9_holds_5 : decode cX9_holds 5 = .ok (.aload_n 0, 1) := by decide +kernel
theorem dX9_holds_6 : decode cX9_holds 6 = .ok (.getfield 9, 3) := by decide +kernel
theorem dX9_holds_9 : decode cX9_holds 9 = .ok (.if_icmp .ge 7, 3) := by decide +kernel
theorem dX9_holds_12 : decode cX9_holds 12 = .ok (.iconst 1, 1) := by decide +kernel
theorem dX9_holds_13 : decode cX9_holds 13 = .ok (.goto 4, 3) := by decide +kernel
theorem dX9_holds_16 : decode cX9_holds 16 = .ok (.iconst 0, 1) := by decide +kernel
theorem dX9_holds_17 : decode cX9_holds 17 = .ok (.ireturn, 1) := by decide +kernel
theorem dX9_everyKind_0 : decode cX9_everyKind 0 = .ok (.iconst 1, 1) := by decide +kernel
theorem dX9_everyKind_1 : decode cX9_everyKind 1 = .ok (.aload_n 0, 1) := by decide +kernel
theorem dX9_everyKind_2 : decode cX9_everyKind 2 = .ok (.getfield 9, 3) := by decide +kernel
theorem dX9_everyKind_5 : decode cX9_everyKind 5 = .ok (.ishl, 1) := by decide +kernel
theorem dX9_everyKind_6 : decode cX9_everyKind 6 = .ok (.iconst 1, 1) := by decide +kernel
theorem dX9_everyKind_7 : decode cX9_everyKind 7 = .ok (.isub, 1) := by decide +kernel
theorem dX9_everyKind_8 : decode cX9_everyKind 8 = .ok (.ireturn, 1) := by decide +kernel
theorem dX9_isShut_0 : decode cX9_isShut 0 = .ok (.aload_n 0, 1) := by decide +kernel
theorem dX9_isShut_1 : decode cX9_isShut 1 = .ok (.invokevirtual 40, 3) := by decide +kernel
theorem dX9_isShut_4 : decode cX9_isShut 4 = .ok (.aload_n 0, 1) := by decide +kernel
theorem dX9_isShut_5 : decode cX9_isShut 5 = .ok (.getfield 25, 3) := by decide +kernel
theorem dX9_isShut_8 : decode cX9_isShut 8 = .ok (.iconst (-1), 1) := by decide +kernel
theorem dX9_isShut_9 : decode cX9_isShut 9 = .ok (.ixor, 1) := by decide +kernel
theorem dX9_isShut_10 : decode cX9_isShut 10 = .ok (.iand, 1) := by decide +kernel
theorem dX9_isShut_11 : decode cX9_isShut 11 = .ok (.aload_n 0, 1) := by decide +kernel
theorem dX9_isShut_12 : decode cX9_isShut 12 = .ok (.getfield 22, 3) := by decide +kernel
theorem dX9_isShut_15 : decode cX9_isShut 15 = .ok (.iconst (-1), 1) := by decide +kernel
theorem dX9_isShut_16 : decode cX9_isShut 16 = .ok (.ixor, 1) := by decide +kernel
theorem dX9_isShut_17 : decode cX9_isShut 17 = .ok (.iand, 1) := by decide +kernel
theorem dX9_isShut_18 : decode cX9_isShut 18 = .ok (.ifCond .ne 7, 3) := by decide +kernel
theorem dX9_isShut_21 : decode cX9_isShut 21 = .ok (.iconst 1, 1) := by decide +kernel
theorem dX9_isShut_22 : decode cX9_isShut 22 = .ok (.goto 4, 3) := by decide +kernel
theorem dX9_isShut_25 : decode cX9_isShut 25 = .ok (.iconst 0, 1) := by decide +kernel
theorem dX9_isShut_26 : decode cX9_isShut 26 = .ok (.ireturn, 1) := by decide +kernel
theorem dX9_draw_0 : decode cX9_draw 0 = .ok (.aload_n 0, 1) := by decide +kernel
theorem dX9_draw_1 : decode cX9_draw 1 = .ok (.ldc 44, 2) := by decide +kernel
theorem dX9_draw_3 : decode cX9_draw 3 = .ok (.aload_n 0, 1) := by decide +kernel
theorem dX9_draw_4 : decode cX9_draw 4 = .ok (.getfield 37, 3) := by decide +kernel
theorem dX9_draw_7 : decode cX9_draw 7 = .ok (.imul, 1) := by decide +kernel
theorem dX9_draw_8 : decode cX9_draw 8 = .ok (.sipush 12345, 3) := by decide +kernel
theorem dX9_draw_11 : decode cX9_draw 11 = .ok (.iadd, 1) := by decide +kernel
theorem dX9_draw_12 : decode cX9_draw 12 = .ok (.putfield 37, 3) := by decide +kernel
theorem dX9_draw_15 : decode cX9_draw 15 = .ok (.aload_n 0, 1) := by decide +kernel
theorem dX9_draw_16 : decode cX9_draw 16 = .ok (.getfield 37, 3) := by decide +kernel
theorem dX9_draw_19 : decode cX9_draw 19 = .ok (.bipush 16, 2) := by decide +kernel
theorem dX9_draw_21 : decode cX9_draw 21 = .ok (.iushr, 1) := by decide +kernel
theorem dX9_draw_22 : decode cX9_draw 22 = .ok (.ireturn, 1) := by decide +kernel
theorem dX10_init_0 : decode cX10_init 0 = .ok (.aload_n 0, 1) := by decide +kernel
theorem dX10_init_1 : decode cX10_init 1 = .ok (.invokespecial 3, 3) := by decide +kernel
theorem dX10_init_4 : decode cX10_init 4 = .ok (.aload_n 0, 1) := by decide +kernel
theorem dX10_init_5 : decode cX10_init 5 = .ok (.bipush 40, 2) := by decide +kernel
theorem dX10_init_7 : decode cX10_init 7 = .ok (.newarray .long, 2) := by decide +kernel
theorem dX10_init_9 : decode cX10_init 9 = .ok (.putfield 9, 3) := by decide +kernel
theorem dX10_init_12 : decode cX10_init 12 = .ok (.aload_n 0, 1) := by decide +kernel
theorem dX10_init_13 : decode cX10_init 13 = .ok (.iconst 0, 1) := by decide +kernel
theorem dX10_init_14 : decode cX10_init 14 = .ok (.putfield 15, 3) := by decide +kernel
theorem dX10_init_17 : decode cX10_init 17 = .ok (.aload_n 0, 1) := by decide +kernel
theorem dX10_init_18 : decode cX10_init 18 = .ok (.iconst (-1), 1) := by decide +kernel
theorem dX10_init_19 : decode cX10_init 19 = .ok (.putfield 19, 3) := by decide +kernel
theorem dX10_init_22 : decode cX10_init 22 = .ok (.return_, 1) := by decide +kernel
theorem dX10_isMissing_0 : decode cX10_isMissing 0 = .ok (.aload_n 0, 1) := by decide +kernel
theorem dX10_isMissing_1 : decode cX10_isMissing 1 = .ok (.getfield 19, 3) := by decide +kernel
theorem dX10_isMissing_4 : decode cX10_isMissing 4 = .ok (.iconst (-1), 1) := by decide +kernel
theorem dX10_isMissing_5 : decode cX10_isMissing 5 = .ok (.if_icmp .ne 7, 3) := by decide +kernel
theorem dX10_isMissing_8 : decode cX10_isMissing 8 = .ok (.iconst 1, 1) := by decide +kernel
theorem dX10_isMissing_9 : decode cX10_isMissing 9 = .ok (.goto 4, 3) := by decide +kernel
theorem dX10_isMissing_12 : decode cX10_isMissing 12 = .ok (.iconst 0, 1) := by decide +kernel
theorem dX10_isMissing_13 : decode cX10_isMissing 13 = .ok (.ireturn, 1) := by decide +kernel
theorem dX10_size_0 : decode cX10_size 0 = .ok (.aload_n 0, 1) := by decide +kernel
theorem dX10_size_1 : decode cX10_size 1 = .ok (.getfield 19, 3) := by decide +kernel
theorem dX10_size_4 : decode cX10_size 4 = .ok (.iconst 0, 1) := by decide +kernel
theorem dX10_size_5 : decode cX10_size 5 = .ok (.invokestatic 22, 3) := by decide +kernel
theorem dX10_size_8 : decode cX10_size 8 = .ok (.ireturn, 1) := by decide +kernel
theorem dX10_has_0 : decode cX10_has 0 = .ok (.iload_n 1, 1) := by decide +kernel
theorem dX10_has_1 : decode cX10_has 1 = .ok (.ifCond .lt 15, 3) := by decide +kernel
theorem dX10_has_4 : decode cX10_has 4 = .ok (.iload_n 1, 1) := by decide +kernel
theorem dX10_has_5 : decode cX10_has 5 = .ok (.aload_n 0, 1) := by decide +kernel
theorem dX10_has_6 : decode cX10_has 6 = .ok (.getfield 19, 3) := by decide +kernel
theorem dX10_has_9 : decode cX10_has 9 = .ok (.if_icmp .ge 7, 3) := by decide +kernel
theorem dX10_has_12 : decode cX10_has 12 = .ok (.iconst 1, 1) := by decide +kernel
theorem dX10_has_13 : decode cX10_has 13 = .ok (.goto 4, 3) := by decide +kernel
theorem dX10_has_16 : decode cX10_has 16 = .ok (.iconst 0, 1) := by decide +kernel
theorem dX10_has_17 : decode cX10_has 17 = .ok (.ireturn, 1) := by decide +kernel
theorem dX10_layOut_0 : decode cX10_layOut 0 = .ok (.aload_n 0, 1) := by decide +kernel
theorem dX10_layOut_1 : decode cX10_layOut 1 = .ok (.getfield 9, 3) := by decide +kernel
theorem dX10_layOut_4 : decode cX10_layOut 4 = .ok (.lconst 0, 1) := by decide +kernel
theorem dX10_layOut_5 : decode cX10_layOut 5 = .ok (.invokestatic 28, 3) := by decide +kernel
theorem dX10_layOut_8 : decode cX10_layOut 8 = .ok (.aload_n 0, 1) := by decide +kernel
theorem dX10_layOut_9 : decode cX10_layOut 9 = .ok (.iload_n 1, 1) := by decide +kernel
theorem dX10_layOut_10 : decode cX10_layOut 10 = .ok (.putfield 15, 3) := by decide +kernel
theorem dX10_layOut_13 : decode cX10_layOut 13 = .ok (.aload_n 0, 1) := by decide +kernel
theorem dX10_layOut_14 : decode cX10_layOut 14 = .ok (.iload_n 2, 1) := by decide +kernel
theorem dX10_layOut_15 : decode cX10_layOut 15 = .ok (.putfield 19, 3) := by decide +kernel
theorem dX10_layOut_18 : decode cX10_layOut 18 = .ok (.return_, 1) := by decide +kernel
theorem dX10_numberAt_0 : decode cX10_numberAt 0 = .ok (.aload_n 0, 1) := by decide +kernel
theorem dX10_numberAt_1 : decode cX10_numberAt 1 = .ok (.iload_n 1, 1) := by decide +kernel
theorem dX10_numberAt_2 : decode cX10_numberAt 2 = .ok (.invokevirtual 34, 3) := by decide +kernel
theorem dX10_numberAt_5 : decode cX10_numberAt 5 = .ok (.ifCond .eq 12, 3) := by decide +kernel
theorem dX10_numberAt_8 : decode cX10_numberAt 8 = .ok (.aload_n 0, 1) := by decide +kernel
theorem dX10_numberAt_9 : decode cX10_numberAt 9 = .ok (.getfield 9, 3) := by decide +kernel
theorem dX10_numberAt_12 : decode cX10_numberAt 12 = .ok (.iload_n 1, 1) := by decide +kernel
theorem dX10_numberAt_13 : decode cX10_numberAt 13 = .ok (.laload, 1) := by decide +kernel
theorem dX10_numberAt_14 : decode cX10_numberAt 14 = .ok (.goto 4, 3) := by decide +kernel
theorem dX10_numberAt_17 : decode cX10_numberAt 17 = .ok (.lconst 0, 1) := by decide +kernel
theorem dX10_numberAt_18 : decode cX10_numberAt 18 = .ok (.lreturn, 1) := by decide +kernel
theorem dX10_put_0 : decode cX10_put 0 = .ok (.aload_n 0, 1) := by decide +kernel
theorem dX10_put_1 : decode cX10_put 1 = .ok (.iload_n 1, 1) := by decide +kernel
theorem dX10_put_2 : decode cX10_put 2 = .ok (.invokevirtual 34, 3) := by decide +kernel
theorem dX10_put_5 : decode cX10_put 5 = .ok (.ifCond .eq 14, 3) := by decide +kernel
theorem dX10_put_8 : decode cX10_put 8 = .ok (.aload_n 0, 1) := by decide +kernel
theorem dX10_put_9 : decode cX10_put 9 = .ok (.getfield 9, 3) := by decide +kernel
theorem dX10_put_12 : decode cX10_put 12 = .ok (.iload_n 1, 1) := by decide +kernel
theorem dX10_put_13 : decode cX10_put 13 = .ok (.aload_n 0, 1) := by decide +kernel
theorem dX10_put_14 : decode cX10_put 14 = .ok (.lload_n 2, 1) := by decide +kernel
theorem dX10_put_15 : decode cX10_put 15 = .ok (.invokevirtual 38, 3) := by decide +kernel
theorem dX10_put_18 : decode cX10_put 18 = .ok (.lastore, 1) := by decide +kernel
theorem dX10_put_19 : decode cX10_put 19 = .ok (.return_, 1) := by decide +kernel
theorem dX10_cut_0 : decode cX10_cut 0 = .ok (.aload_n 0, 1) := by decide +kernel
theorem dX10_cut_1 : decode cX10_cut 1 = .ok (.getfield 15, 3) := by decide +kernel
theorem dX10_cut_4 : decode cX10_cut 4 = .ok (.tableswitch 42 0 2 #[28, 33, 38], 28) := by decide +kernel
theorem dX10_cut_32 : decode cX10_cut 32 = .ok (.lload_n 1, 1) := by decide +kernel
theorem dX10_cut_33 : decode cX10_cut 33 = .ok (.l2i, 1) := by decide +kernel
theorem dX10_cut_34 : decode cX10_cut 34 = .ok (.i2b, 1) := by decide +kernel
theorem dX10_cut_35 : decode cX10_cut 35 = .ok (.i2l, 1) := by decide +kernel
theorem dX10_cut_36 : decode cX10_cut 36 = .ok (.lreturn, 1) := by decide +kernel
theorem dX10_cut_37 : decode cX10_cut 37 = .ok (.lload_n 1, 1) := by decide +kernel
theorem dX10_cut_38 : decode cX10_cut 38 = .ok (.l2i, 1) := by decide +kernel
theorem dX10_cut_39 : decode cX10_cut 39 = .ok (.i2s, 1) := by decide +kernel
theorem dX10_cut_40 : decode cX10_cut 40 = .ok (.i2l, 1) := by decide +kernel
theorem dX10_cut_41 : decode cX10_cut 41 = .ok (.lreturn, 1) := by decide +kernel
theorem dX10_cut_42 : decode cX10_cut 42 = .ok (.lload_n 1, 1) := by decide +kernel
theorem dX10_cut_43 : decode cX10_cut 43 = .ok (.l2i, 1) := by decide +kernel
theorem dX10_cut_44 : decode cX10_cut 44 = .ok (.i2l, 1) := by decide +kernel
theorem dX10_cut_45 : decode cX10_cut 45 = .ok (.lreturn, 1) := by decide +kernel
theorem dX10_cut_46 : decode cX10_cut 46 = .ok (.lload_n 1, 1) := by decide +kernel
theorem dX10_cut_47 : decode cX10_cut 47 = .ok (.lreturn, 1) := by decide +kernel
theorem dX11_init_0 : decode cX11_init 0 = .ok (.aload_n 0, 1) := by decide +kernel
theorem dX11_init_1 : decode cX11_init 1 = .ok (.invokespecial 3, 3) := by decide +kernel
theorem dX11_init_4 : decode cX11_init 4 = .ok (.aload_n 0, 1) := by decide +kernel
theorem dX11_init_5 : decode cX11_init 5 = .ok (.sipush 900, 3) := by decide +kernel
theorem dX11_init_8 : decode cX11_init 8 = .ok (.newarray .int, 2) := by decide +kernel
theorem dX11_init_10 : decode cX11_init 10 = .ok (.putfield 9, 3) := by decide +kernel
theorem dX11_init_13 : decode cX11_init 13 = .ok (.aload_n 0, 1) := by decide +kernel
theorem dX11_init_14 : decode cX11_init 14 = .ok (.iconst 0, 1) := by decide +kernel
theorem dX11_init_15 : decode cX11_init 15 = .ok (.putfield 13, 3) := by decide +kernel
theorem dX11_init_18 : decode cX11_init 18 = .ok (.aload_n 0, 1) := by decide +kernel
theorem dX11_init_19 : decode cX11_init 19 = .ok (.iconst 0, 1) := by decide +kernel
theorem dX11_init_20 : decode cX11_init 20 = .ok (.putfield 17, 3) := by decide +kernel
theorem dX11_init_23 : decode cX11_init 23 = .ok (.aload_n 0, 1) := by decide +kernel
theorem dX11_init_24 : decode cX11_init 24 = .ok (.iconst (-1), 1) := by decide +kernel
theorem dX11_init_25 : decode cX11_init 25 = .ok (.putfield 20, 3) := by decide +kernel
theorem dX11_init_28 : decode cX11_init 28 = .ok (.aload_n 0, 1) := by decide +kernel
theorem dX11_init_29 : decode cX11_init 29 = .ok (.new 23, 3) := by decide +kernel
theorem dX11_init_32 : decode cX11_init 32 = .ok (.dup, 1) := by decide +kernel
theorem dX11_init_33 : decode cX11_init 33 = .ok (.invokespecial 25, 3) := by decide +kernel
theorem dX11_init_36 : decode cX11_init 36 = .ok (.putfield 26, 3) := by decide +kernel
theorem dX11_init_39 : decode cX11_init 39 = .ok (.aload_n 0, 1) := by decide +kernel
theorem dX11_init_40 : decode cX11_init 40 = .ok (.new 23, 3) := by decide +kernel
theorem dX11_init_43 : decode cX11_init 43 = .ok (.dup, 1) := by decide +kernel
theorem dX11_init_44 : decode cX11_init 44 = .ok (.invokespecial 25, 3) := by decide +kernel
theorem dX11_init_47 : decode cX11_init 47 = .ok (.putfield 30, 3) := by decide +kernel
theorem dX11_init_50 : decode cX11_init 50 = .ok (.aload_n 0, 1) := by decide +kernel
theorem dX11_init_51 : decode cX11_init 51 = .ok (.new 33, 3) := by decide +kernel
theorem dX11_init_54 : decode cX11_init 54 = .ok (.dup, 1) := by decide +kernel
theorem dX11_init_55 : decode cX11_init 55 = .ok (.invokespecial 35, 3) := by decide +kernel
theorem dX11_init_58 : decode cX11_init 58 = .ok (.putfield 36, 3) := by decide +kernel
theorem dX11_init_61 : decode cX11_init 61 = .ok (.aload_n 0, 1) := by decide +kernel
theorem dX11_init_62 : decode cX11_init 62 = .ok (.new 33, 3) := by decide +kernel
theorem dX11_init_65 : decode cX11_init 65 = .ok (.dup, 1) := by decide +kernel
theorem dX11_init_66 : decode cX11_init 66 = .ok (.invokespecial 35, 3) := by decide +kernel
theorem dX11_init_69 : decode cX11_init 69 = .ok (.putfield 40, 3) := by decide +kernel
theorem dX11_init_72 : decode cX11_init 72 = .ok (.aload_n 0, 1) := by decide +kernel
theorem dX11_init_73 : decode cX11_init 73 = .ok (.new 43, 3) := by decide +kernel
theorem dX11_init_76 : decode cX11_init 76 = .ok (.dup, 1) := by decide +kernel
theorem dX11_init_77 : decode cX11_init 77 = .ok (.invokespecial 45, 3) := by decide +kernel
theorem dX11_init_80 : decode cX11_init 80 = .ok (.putfield 46, 3) := by decide +kernel
theorem dX11_init_83 : decode cX11_init 83 = .ok (.aload_n 0, 1) := by decide +kernel
theorem dX11_init_84 : decode cX11_init 84 = .ok (.iconst 4, 1) := by decide +kernel
theorem dX11_init_85 : decode cX11_init 85 = .ok (.anewarray 50, 3) := by decide +kernel
theorem dX11_init_88 : decode cX11_init 88 = .ok (.putfield 52, 3) := by decide +kernel
theorem dX11_init_91 : decode cX11_init 91 = .ok (.aload_n 0, 1) := by decide +kernel
theorem dX11_init_92 : decode cX11_init 92 = .ok (.iconst 2, 1) := by decide +kernel
theorem dX11_init_93 : decode cX11_init 93 = .ok (.anewarray 56, 3) := by decide +kernel
theorem dX11_init_96 : decode cX11_init 96 = .ok (.putfield 58, 3) := by decide +kernel
theorem dX11_init_99 : decode cX11_init 99 = .ok (.aload_n 0, 1) := by decide +kernel
theorem dX11_init_100 : decode cX11_init 100 = .ok (.new 62, 3) := by decide +kernel
theorem dX11_init_103 : decode cX11_init 103 = .ok (.dup, 1) := by decide +kernel
theorem dX11_init_104 : decode cX11_init 104 = .ok (.aload_n 0, 1) := by decide +kernel
theorem dX11_init_105 : decode cX11_init 105 = .ok (.getfield 30, 3) := by decide +kernel
theorem dX11_init_108 : decode cX11_init 108 = .ok (.aload_n 0, 1) := by decide +kernel
theorem dX11_init_109 : decode cX11_init 109 = .ok (.getfield 40, 3) := by decide +kernel
theorem dX11_init_112 : decode cX11_init 112 = .ok (.invokespecial 64, 3) := by decide +kernel
theorem dX11_init_115 : decode cX11_init 115 = .ok (.putfield 67, 3) := by decide +kernel
theorem dX11_init_118 : decode cX11_init 118 = .ok (.aload_n 0, 1) := by decide +kernel
theorem dX11_init_119 : decode cX11_init 119 = .ok (.new 71, 3) := by decide +kernel
theorem dX11_init_122 : decode cX11_init 122 = .ok (.dup, 1) := by decide +kernel
theorem dX11_init_123 : decode cX11_init 123 = .ok (.aload_n 0, 1) := by decide +kernel
theorem dX11_init_124 : decode cX11_init 124 = .ok (.getfield 26, 3) := by decide +kernel
theorem dX11_init_127 : decode cX11_init 127 = .ok (.invokespecial 73, 3) := by decide +kernel
theorem dX11_init_130 : decode cX11_init 130 = .ok (.putfield 76, 3) := by decide +kernel
theorem dX11_init_133 : decode cX11_init 133 = .ok (.aload_n 0, 1) := by decide +kernel
theorem dX11_init_134 : decode cX11_init 134 = .ok (.new 80, 3) := by decide +kernel
theorem dX11_init_137 : decode cX11_init 137 = .ok (.dup, 1) := by decide +kernel
theorem dX11_init_138 : decode cX11_init 138 = .ok (.aload_n 0, 1) := by decide +kernel
theorem dX11_init_139 : decode cX11_init 139 = .ok (.getfield 76, 3) := by decide +kernel
theorem dX11_init_142 : decode cX11_init 142 = .ok (.invokespecial 82, 3) := by decide +kernel
theorem dX11_init_145 : decode cX11_init 145 = .ok (.putfield 85, 3) := by decide +kernel
theorem dX11_init_148 : decode cX11_init 148 = .ok (.aload_n 0, 1) := by decide +kernel
theorem dX11_init_149 : decode cX11_init 149 = .ok (.new 89, 3) := by decide +kernel
theorem dX11_init_152 : decode cX11_init 152 = .ok (.dup, 1) := by decide +kernel
theorem dX11_init_153 : decode cX11_init 153 = .ok (.aload_n 0, 1) := by decide +kernel
theorem dX11_init_154 : decode cX11_init 154 = .ok (.getfield 76, 3) := by decide +kernel
theorem dX11_init_157 : decode cX11_init 157 = .ok (.aload_n 0, 1) := by decide +kernel
theorem dX11_init_158 : decode cX11_init 158 = .ok (.getfield 26, 3) := by decide +kernel
theorem dX11_init_161 : decode cX11_init 161 = .ok (.aload_n 0, 1) := by decide +kernel
theorem dX11_init_162 : decode cX11_init 162 = .ok (.getfield 36, 3) := by decide +kernel
theorem dX11_init_165 : decode cX11_init 165 = .ok (.invokespecial 91, 3) := by decide +kernel
theorem dX11_init_168 : decode cX11_init 168 = .ok (.putfield 94, 3) := by decide +kernel
theorem dX11_init_171 : decode cX11_init 171 = .ok (.aload_n 0, 1) := by decide +kernel
theorem dX11_init_172 : decode cX11_init 172 = .ok (.new 98, 3) := by decide +kernel
theorem dX11_init_175 : decode cX11_init 175 = .ok (.dup, 1) := by decide +kernel
theorem dX11_init_176 : decode cX11_init 176 = .ok (.aload_n 0, 1) := by decide +kernel
theorem dX11_init_177 : decode cX11_init 177 = .ok (.getfield 94, 3) := by decide +kernel
theorem dX11_init_180 : decode cX11_init 180 = .ok (.invokespecial 100, 3) := by decide +kernel
theorem dX11_init_183 : decode cX11_init 183 = .ok (.putfield 103, 3) := by decide +kernel
