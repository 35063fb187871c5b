theorem dX12_kind_5 : decode cX12_kind 5 = .ok (.aload_n 0, 1) := by decide +kernel
theorem dX12_kind_6 : decode cX12_kind 6 = .ok (.iload_n 1, 1) := by decide +kernel
theorem dX12_kind_7 : decode cX12_kind 7 = .ok (.i2l, 1) := by decide +kernel
theorem dX12_kind_8 : decode cX12_kind 8 = .ok (.invokevirtual 245, 3) := by decide +kernel
theorem dX12_kind_11 : decode cX12_kind 11 = .ok (.ifCond .ne 6, 3) := by decide +kernel
theorem dX12_kind_14 : decode cX12_kind 14 = .ok (.bipush (-2), 2) := by decide +kernel
theorem dX12_kind_16 : decode cX12_kind 16 = .ok (.ireturn, 1) := by decide +kernel
theorem dX12_kind_17 : decode cX12_kind 17 = .ok (.iload_n 2, 1) := by decide +kernel
theorem dX12_kind_18 : decode cX12_kind 18 = .ok (.tableswitch 84 0 4 #[34, 44, 54, 66, 78], 34) := by decide +kernel
theorem dX12_kind_52 : decode cX12_kind 52 = .ok (.aload_n 0, 1) := by decide +kernel
theorem dX12_kind_53 : decode cX12_kind 53 = .ok (.getfield 13, 3) := by decide +kernel
theorem dX12_kind_56 : decode cX12_kind 56 = .ok (.bipush 33, 2) := by decide +kernel
theorem dX12_kind_58 : decode cX12_kind 58 = .ok (.iload_n 1, 1) := by decide +kernel
theorem dX12_kind_59 : decode cX12_kind 59 = .ok (.iadd, 1) := by decide +kernel
theorem dX12_kind_60 : decode cX12_kind 60 = .ok (.iaload, 1) := by decide +kernel
theorem dX12_kind_61 : decode cX12_kind 61 = .ok (.ireturn, 1) := by decide +kernel
theorem dX12_kind_62 : decode cX12_kind 62 = .ok (.aload_n 0, 1) := by decide +kernel
theorem dX12_kind_63 : decode cX12_kind 63 = .ok (.getfield 13, 3) := by decide +kernel
theorem dX12_kind_66 : decode cX12_kind 66 = .ok (.bipush 41, 2) := by decide +kernel
theorem dX12_kind_68 : decode cX12_kind 68 = .ok (.iload_n 1, 1) := by decide +kernel
theorem dX12_kind_69 : decode cX12_kind 69 = .ok (.iadd, 1) := by decide +kernel
theorem dX12_kind_70 : decode cX12_kind 70 = .ok (.iaload, 1) := by decide +kernel
theorem dX12_kind_71 : decode cX12_kind 71 = .ok (.ireturn, 1) := by decide +kernel
theorem dX12_kind_72 : decode cX12_kind 72 = .ok (.aload_n 0, 1) := by decide +kernel
theorem dX12_kind_73 : decode cX12_kind 73 = .ok (.getfield 13, 3) := by decide +kernel
theorem dX12_kind_76 : decode cX12_kind 76 = .ok (.bipush 27, 2) := by decide +kernel
theorem dX12_kind_78 : decode cX12_kind 78 = .ok (.iaload, 1) := by decide +kernel
theorem dX12_kind_79 : decode cX12_kind 79 = .ok (.iload_n 1, 1) := by decide +kernel
theorem dX12_kind_80 : decode cX12_kind 80 = .ok (.ishr, 1) := by decide +kernel
theorem dX12_kind_81 : decode cX12_kind 81 = .ok (.iconst 1, 1) := by decide +kernel
theorem dX12_kind_82 : decode cX12_kind 82 = .ok (.iand, 1) := by decide +kernel
theorem dX12_kind_83 : decode cX12_kind 83 = .ok (.ireturn, 1) := by decide +kernel
theorem dX12_kind_84 : decode cX12_kind 84 = .ok (.aload_n 0, 1) := by decide +kernel
theorem dX12_kind_85 : decode cX12_kind 85 = .ok (.getfield 13, 3) := by decide +kernel
theorem dX12_kind_88 : decode cX12_kind 88 = .ok (.bipush 28, 2) := by decide +kernel
theorem dX12_kind_90 : decode cX12_kind 90 = .ok (.iaload, 1) := by decide +kernel
theorem dX12_kind_91 : decode cX12_kind 91 = .ok (.iload_n 1, 1) := by decide +kernel
theorem dX12_kind_92 : decode cX12_kind 92 = .ok (.ishr, 1) := by decide +kernel
theorem dX12_kind_93 : decode cX12_kind 93 = .ok (.iconst 1, 1) := by decide +kernel
theorem dX12_kind_94 : decode cX12_kind 94 = .ok (.iand, 1) := by decide +kernel
theorem dX12_kind_95 : decode cX12_kind 95 = .ok (.ireturn, 1) := by decide +kernel
theorem dX12_kind_96 : decode cX12_kind 96 = .ok (.aload_n 0, 1) := by decide +kernel
theorem dX12_kind_97 : decode cX12_kind 97 = .ok (.iload_n 1, 1) := by decide +kernel
theorem dX12_kind_98 : decode cX12_kind 98 = .ok (.invokevirtual 249, 3) := by decide +kernel
theorem dX12_kind_101 : decode cX12_kind 101 = .ok (.ireturn, 1) := by decide +kernel
theorem dX12_kind_102 : decode cX12_kind 102 = .ok (.bipush (-2), 2) := by decide +kernel
theorem dX12_kind_104 : decode cX12_kind 104 = .ok (.ireturn, 1) := by decide +kernel
theorem dX12_buyer_0 : decode cX12_buyer 0 = .ok (.aload_n 0, 1) := by decide +kernel
theorem dX12_buyer_1 : decode cX12_buyer 1 = .ok (.iconst 0, 1) := by decide +kernel
theorem dX12_buyer_2 : decode cX12_buyer 2 = .ok (.putfield 1, 3) := by decide +kernel
theorem dX12_buyer_5 : decode cX12_buyer 5 = .ok (.aload_n 0, 1) := by decide +kernel
theorem dX12_buyer_6 : decode cX12_buyer 6 = .ok (.iload_n 1, 1) := by decide +kernel
theorem dX12_buyer_7 : decode cX12_buyer 7 = .ok (.i2l, 1) := by decide +kernel
theorem dX12_buyer_8 : decode cX12_buyer 8 = .ok (.invokevirtual 252, 3) := by decide +kernel
theorem dX12_buyer_11 : decode cX12_buyer 11 = .ok (.ifCond .ne 6, 3) := by decide +kernel
theorem dX12_buyer_14 : decode cX12_buyer 14 = .ok (.bipush (-2), 2) := by decide +kernel
theorem dX12_buyer_16 : decode cX12_buyer 16 = .ok (.ireturn, 1) := by decide +kernel
theorem dX12_buyer_17 : decode cX12_buyer 17 = .ok (.iload_n 2, 1) := by decide +kernel
theorem dX12_buyer_18 : decode cX12_buyer 18 = .ok (.tableswitch 76 0 4 #[34, 44, 54, 64, 70], 34) := by decide +kernel
theorem dX12_buyer_52 : decode cX12_buyer 52 = .ok (.aload_n 0, 1) := by decide +kernel
theorem dX12_buyer_53 : decode cX12_buyer 53 = .ok (.getfield 13, 3) := by decide +kernel
theorem dX12_buyer_56 : decode cX12_buyer 56 = .ok (.bipush 8, 2) := by decide +kernel
theorem dX12_buyer_58 : decode cX12_buyer 58 = .ok (.iload_n 1, 1) := by decide +kernel
theorem dX12_buyer_59 : decode cX12_buyer 59 = .ok (.iadd, 1) := by decide +kernel
theorem dX12_buyer_60 : decode cX12_buyer 60 = .ok (.iaload, 1) := by decide +kernel
theorem dX12_buyer_61 : decode cX12_buyer 61 = .ok (.ireturn, 1) := by decide +kernel
theorem dX12_buyer_62 : decode cX12_buyer 62 = .ok (.aload_n 0, 1) := by decide +kernel
theorem dX12_buyer_63 : decode cX12_buyer 63 = .ok (.getfield 13, 3) := by decide +kernel
theorem dX12_buyer_66 : decode cX12_buyer 66 = .ok (.bipush 14, 2) := by decide +kernel
theorem dX12_buyer_68 : decode cX12_buyer 68 = .ok (.iload_n 1, 1) := by decide +kernel
theorem dX12_buyer_69 : decode cX12_buyer 69 = .ok (.iadd, 1) := by decide +kernel
theorem dX12_buyer_70 : decode cX12_buyer 70 = .ok (.iaload, 1) := by decide +kernel
theorem dX12_buyer_71 : decode cX12_buyer 71 = .ok (.ireturn, 1) := by decide +kernel
theorem dX12_buyer_72 : decode cX12_buyer 72 = .ok (.aload_n 0, 1) := by decide +kernel
theorem dX12_buyer_73 : decode cX12_buyer 73 = .ok (.getfield 13, 3) := by decide +kernel
theorem dX12_buyer_76 : decode cX12_buyer 76 = .ok (.bipush 20, 2) := by decide +kernel
theorem dX12_buyer_78 : decode cX12_buyer 78 = .ok (.iload_n 1, 1) := by decide +kernel
theorem dX12_buyer_79 : decode cX12_buyer 79 = .ok (.iadd, 1) := by decide +kernel
theorem dX12_buyer_80 : decode cX12_buyer 80 = .ok (.iaload, 1) := by decide +kernel
theorem dX12_buyer_81 : decode cX12_buyer 81 = .ok (.ireturn, 1) := by decide +kernel
theorem dX12_buyer_82 : decode cX12_buyer 82 = .ok (.aload_n 0, 1) := by decide +kernel
theorem dX12_buyer_83 : decode cX12_buyer 83 = .ok (.iload_n 1, 1) := by decide +kernel
theorem dX12_buyer_84 : decode cX12_buyer 84 = .ok (.invokevirtual 255, 3) := by decide +kernel
theorem dX12_buyer_87 : decode cX12_buyer 87 = .ok (.ireturn, 1) := by decide +kernel
theorem dX12_buyer_88 : decode cX12_buyer 88 = .ok (.aload_n 0, 1) := by decide +kernel
theorem dX12_buyer_89 : decode cX12_buyer 89 = .ok (.iload_n 1, 1) := by decide +kernel
theorem dX12_buyer_90 : decode cX12_buyer 90 = .ok (.invokevirtual 242, 3) := by decide +kernel
theorem dX12_buyer_93 : decode cX12_buyer 93 = .ok (.ireturn, 1) := by decide +kernel
theorem dX12_buyer_94 : decode cX12_buyer 94 = .ok (.bipush (-2), 2) := by decide +kernel
theorem dX12_buyer_96 : decode cX12_buyer 96 = .ok (.ireturn, 1) := by decide +kernel
theorem dX12_wants_0 : decode cX12_wants 0 = .ok (.aload_n 0, 1) := by decide +kernel
theorem dX12_wants_1 : decode cX12_wants 1 = .ok (.iconst 0, 1) := by decide +kernel
theorem dX12_wants_2 : decode cX12_wants 2 = .ok (.putfield 1, 3) := by decide +kernel
theorem dX12_wants_5 : decode cX12_wants 5 = .ok (.aload_n 0, 1) := by decide +kernel
theorem dX12_wants_6 : decode cX12_wants 6 = .ok (.iload_n 1, 1) := by decide +kernel
theorem dX12_wants_7 : decode cX12_wants 7 = .ok (.i2l, 1) := by decide +kernel
theorem dX12_wants_8 : decode cX12_wants 8 = .ok (.invokevirtual 252, 3) := by decide +kernel
theorem dX12_wants_11 : decode cX12_wants 11 = .ok (.ifCond .eq 28, 3) := by decide +kernel
theorem dX12_wants_14 : decode cX12_wants 14 = .ok (.aload_n 0, 1) := by decide +kernel
theorem dX12_wants_15 : decode cX12_wants 15 = .ok (.iload_n 2, 1) := by decide +kernel
theorem dX12_wants_16 : decode cX12_wants 16 = .ok (.i2l, 1) := by decide +kernel
theorem dX12_wants_17 : decode cX12_wants 17 = .ok (.invokevirtual 245, 3) := by decide +kernel
theorem dX12_wants_20 : decode cX12_wants 20 = .ok (.ifCond .eq 19, 3) := by decide +kernel
theorem dX12_wants_23 : decode cX12_wants 23 = .ok (.aload_n 0, 1) := by decide +kernel
theorem dX12_wants_24 : decode cX12_wants 24 = .ok (.iload_n 1, 1) := by decide +kernel
theorem dX12_wants_25 : decode cX12_wants 25 = .ok (.iload_n 2, 1) := by decide +kernel
theorem dX12_wants_26 : decode cX12_wants 26 = .ok (.aload_n 0, 1) := by decide +kernel
theorem dX12_wants_27 : decode cX12_wants 27 = .ok (.getfield 13, 3) := by decide +kernel
theorem dX12_wants_30 : decode cX12_wants 30 = .ok (.bipush 27, 2) := by decide +kernel
theorem dX12_wants_32 : decode cX12_wants 32 = .ok (.iaload, 1) := by decide +kernel
theorem dX12_wants_33 : decode cX12_wants 33 = .ok (.invokevirtual 236, 3) := by decide +kernel
theorem dX12_wants_36 : decode cX12_wants 36 = .ok (.goto 6, 3) := by decide +kernel
theorem dX12_wants_39 : decode cX12_wants 39 = .ok (.ldc_w 258, 3) := by decide +kernel
theorem dX12_wants_42 : decode cX12_wants 42 = .ok (.ireturn, 1) := by decide +kernel
theorem dX12_keeps_0 : decode cX12_keeps 0 = .ok (.iconst 0, 1) := by decide +kernel
theorem dX12_keeps_1 : decode cX12_keeps 1 = .ok (.istore_n 1, 1) := by decide +kernel
theorem dX12_keeps_2 : decode cX12_keeps 2 = .ok (.iload_n 1, 1) := by decide +kernel
theorem dX12_keeps_3 : decode cX12_keeps 3 = .ok (.bipush 23, 2) := by decide +kernel
theorem dX12_keeps_5 : decode cX12_keeps 5 = .ok (.if_icmp .ge 24, 3) := by decide +kernel
theorem dX12_keeps_8 : decode cX12_keeps 8 = .ok (.aload_n 0, 1) := by decide +kernel
theorem dX12_keeps_9 : decode cX12_keeps 9 = .ok (.getfield 36, 3) := by decide +kernel
theorem dX12_keeps_12 : decode cX12_keeps 12 = .ok (.iload_n 1, 1) := by decide +kernel
theorem dX12_keeps_13 : decode cX12_keeps 13 = .ok (.aload_n 0, 1) := by decide +kernel
theorem dX12_keeps_14 : decode cX12_keeps 14 = .ok (.getfield 13, 3) := by decide +kernel
theorem dX12_keeps_17 : decode cX12_keeps 17 = .ok (.bipush 26, 2) := by decide +kernel
theorem dX12_keeps_19 : decode cX12_keeps 19 = .ok (.iload_n 1, 1) := by decide +kernel
theorem dX12_keeps_20 : decode cX12_keeps 20 = .ok (.iadd, 1) := by decide +kernel
theorem dX12_keeps_21 : decode cX12_keeps 21 = .ok (.iaload, 1) := by decide +kernel
theorem dX12_keeps_22 : decode cX12_keeps 22 = .ok (.iastore, 1) := by decide +kernel
theorem dX12_keeps_23 : decode cX12_keeps 23 = .ok (.iinc 1 1, 3) := by decide +kernel
theorem dX12_keeps_26 : decode cX12_keeps 26 = .ok (.goto (-24), 3) := by decide +kernel
theorem dX12_keeps_29 : decode cX12_keeps 29 = .ok (.return_, 1) := by decide +kernel
theorem dX12_isAgain_0 : decode cX12_isAgain 0 = .ok (.iconst 0, 1) := by decide +kernel
theorem dX12_isAgain_1 : decode cX12_isAgain 1 = .ok (.istore_n 1, 1) := by decide +kernel
theorem dX12_isAgain_2 : decode cX12_isAgain 2 = .ok (.iload_n 1, 1) := by decide +kernel
theorem dX12_isAgain_3 : decode cX12_isAgain 3 = .ok (.bipush 23, 2) := by decide +kernel
theorem dX12_isAgain_5 : decode cX12_isAgain 5 = .ok (.if_icmp .ge 24, 3) := by decide +kernel
theorem dX12_isAgain_8 : decode cX12_isAgain 8 = .ok (.aload_n 0, 1) := by decide +kernel
theorem dX12_isAgain_9 : decode cX12_isAgain 9 = .ok (.getfield 13, 3) := by decide +kernel
theorem dX12_isAgain_12 : decode cX12_isAgain 12 = .ok (.bipush 26, 2) := by decide +kernel
theorem dX12_isAgain_14 : decode cX12_isAgain 14 = .ok (.iload_n 1, 1) := by decide +kernel
theorem dX12_isAgain_15 : decode cX12_isAgain 15 = .ok (.iadd, 1) := by decide +kernel
theorem dX12_isAgain_16 : decode cX12_isAgain 16 = .ok (.aload_n 0, 1) := by decide +kernel
theorem dX12_isAgain_17 : decode cX12_isAgain 17 = .ok (.getfield 36, 3) := by decide +kernel
theorem dX12_isAgain_20 : decode cX12_isAgain 20 = .ok (.iload_n 1, 1) := by decide +kernel
theorem dX12_isAgain_21 : decode cX12_isAgain 21 = .ok (.iaload, 1) := by decide +kernel
theorem dX12_isAgain_22 : decode cX12_isAgain 22 = .ok (.iastore, 1) := by decide +kernel
theorem dX12_isAgain_23 : decode cX12_isAgain 23 = .ok (.iinc 1 1, 3) := by decide +kernel
theorem dX12_isAgain_26 : decode cX12_isAgain 26 = .ok (.goto (-24), 3) := by decide +kernel
theorem dX12_isAgain_29 : decode cX12_isAgain 29 = .ok (.return_, 1) := by decide +kernel
theorem dX12_notes_0 : decode cX12_notes 0 = .ok (.aload_n 0, 1) := by decide +kernel
theorem dX12_notes_1 : decode cX12_notes 1 = .ok (.getfield 13, 3) := by decide +kernel
theorem dX12_notes_4 : decode cX12_notes 4 = .ok (.bipush 49, 2) := by decide +kernel
theorem dX12_notes_6 : decode cX12_notes 6 = .ok (.iaload, 1) := by decide +kernel
theorem dX12_notes_7 : decode cX12_notes 7 = .ok (.bipush 10, 2) := by decide +kernel
theorem dX12_notes_9 : decode cX12_notes 9 = .ok (.if_icmp .ne 47, 3) := by decide +kernel
theorem dX12_notes_12 : decode cX12_notes 12 = .ok (.iconst 0, 1) := by decide +kernel
theorem dX12_notes_13 : decode cX12_notes 13 = .ok (.istore_n 1, 1) := by decide +kernel
theorem dX12_notes_14 : decode cX12_notes 14 = .ok (.iload_n 1, 1) := by decide +kernel
theorem dX12_notes_15 : decode cX12_notes 15 = .ok (.sipush 207, 3) := by decide +kernel
theorem dX12_notes_18 : decode cX12_notes 18 = .ok (.if_icmp .ge 27, 3) := by decide +kernel
theorem dX12_notes_21 : decode cX12_notes 21 = .ok (.aload_n 0, 1) := by decide +kernel
theorem dX12_notes_22 : decode cX12_notes 22 = .ok (.getfield 13, 3) := by decide +kernel
theorem dX12_notes_25 : decode cX12_notes 25 = .ok (.bipush 50, 2) := by decide +kernel
theorem dX12_notes_27 : decode cX12_notes 27 = .ok (.iload_n 1, 1) := by decide +kernel
theorem dX12_notes_28 : decode cX12_notes 28 = .ok (.iadd, 1) := by decide +kernel
theorem dX12_notes_29 : decode cX12_notes 29 = .ok (.aload_n 0, 1) := by decide +kernel
theorem dX12_notes_30 : decode cX12_notes 30 = .ok (.getfield 13, 3) := by decide +kernel
theorem dX12_notes_33 : decode cX12_notes 33 = .ok (.bipush 73, 2) := by decide +kernel
theorem dX12_notes_35 : decode cX12_notes 35 = .ok (.iload_n 1, 1) := by decide +kernel
theorem dX12_notes_36 : decode cX12_notes 36 = .ok (.iadd, 1) := by decide +kernel
theorem dX12_notes_37 : decode cX12_notes 37 = .ok (.iaload, 1) := by decide +kernel
theorem dX12_notes_38 : decode cX12_notes 38 = .ok (.iastore, 1) := by decide +kernel
theorem dX12_notes_39 : decode cX12_notes 39 = .ok (.iinc 1 1, 3) := by decide +kernel
theorem dX12_notes_42 : decode cX12_notes 42 = .ok (.goto (-28), 3) := by decide +kernel
theorem dX12_notes_45 : decode cX12_notes 45 = .ok (.aload_n 0, 1) := by decide +kernel
theorem dX12_notes_46 : decode cX12_notes 46 = .ok (.getfield 13, 3) := by decide +kernel
theorem dX12_notes_49 : decode cX12_notes 49 = .ok (.bipush 49, 2) := by decide +kernel
theorem dX12_notes_51 : decode cX12_notes 51 = .ok (.dup2, 1) := by decide +kernel
theorem dX12_notes_52 : decode cX12_notes 52 = .ok (.iaload, 1) := by decide +kernel
theorem dX12_notes_53 : decode cX12_notes 53 = .ok (.iconst 1, 1) := by decide +kernel
theorem dX12_notes_54 : decode cX12_notes 54 = .ok (.isub, 1) := by decide +kernel
theorem dX12_notes_55 : decode cX12_notes 55 = .ok (.iastore, 1) := by decide +kernel
theorem dX12_notes_56 : decode cX12_notes 56 = .ok (.iconst 0, 1) := by decide +kernel
theorem dX12_notes_57 : decode cX12_notes 57 = .ok (.istore_n 1, 1) := by decide +kernel
theorem dX12_notes_58 : decode cX12_notes 58 = .ok (.iload_n 1, 1) := by decide +kernel
theorem dX12_notes_59 : decode cX12_notes 59 = .ok (.bipush 23, 2) := by decide +kernel
theorem dX12_notes_61 : decode cX12_notes 61 = .ok (.if_icmp .ge 35, 3) := by decide +kernel
theorem dX12_notes_64 : decode cX12_notes 64 = .ok (.aload_n 0, 1) := by decide +kernel
theorem dX12_notes_65 : decode cX12_notes 65 = .ok (.getfield 13, 3) := by decide +kernel
theorem dX12_notes_68 : decode cX12_notes 68 = .ok (.bipush 50, 2) := by decide +kernel
theorem dX12_notes_70 : decode cX12_notes 70 = .ok (.bipush 23, 2) := by decide +kernel
theorem dX12_notes_72 : decode cX12_notes 72 = .ok (.aload_n 0, 1) := by decide +kernel
theorem dX12_notes_73 : decode cX12_notes 73 = .ok (.getfield 13, 3) := by decide +kernel
theorem dX12_notes_76 : decode cX12_notes 76 = .ok (.bipush 49, 2) := by decide +kernel
theorem dX12_notes_78 : decode cX12_notes 78 = .ok (.iaload, 1) := by decide +kernel
theorem dX12_notes_79 : decode cX12_notes 79 = .ok (.imul, 1) := by decide +kernel
theorem dX12_notes_80 : decode cX12_notes 80 = .ok (.iadd, 1) := by decide +kernel
theorem dX12_notes_81 : decode cX12_notes 81 = .ok (.iload_n 1, 1) := by decide +kernel
theorem dX12_notes_82 : decode cX12_notes 82 = .ok (.iadd, 1) := by decide +kernel
theorem dX12_notes_83 : decode cX12_notes 83 = .ok (.aload_n 0, 1) := by decide +kernel
theorem dX12_notes_84 : decode cX12_notes 84 = .ok (.getfield 36, 3) := by decide +kernel
theorem dX12_notes_87 : decode cX12_notes 87 = .ok (.iload_n 1, 1) := by decide +kernel
theorem dX12_notes_88 : decode cX12_notes 88 = .ok (.iaload, 1) := by decide +kernel
theorem dX12_notes_89 : decode cX12_notes 89 = .ok (.iastore, 1) := by decide +kernel
theorem dX12_notes_90 : decode cX12_notes 90 = .ok (.iinc 1 1, 3) := by decide +kernel
theorem dX12_notes_93 : decode cX12_notes 93 = .ok (.goto (-35), 3) := by decide +kernel
theorem dX12_notes_96 : decode cX12_notes 96 = .ok (.aload_n 0, 1) := by decide +kernel
theorem dX12_notes_97 : decode cX12_notes 97 = .ok (.getfield 13, 3) := by decide +kernel
theorem dX12_notes_100 : decode cX12_notes 100 = .ok (.bipush 49, 2) := by decide +kernel
theorem dX12_notes_102 : decode cX12_notes 102 = .ok (.dup2, 1) := by decide +kernel
theorem dX12_notes_103 : decode cX12_notes 103 = .ok (.iaload, 1) := by decide +kernel
theorem dX12_notes_104 : decode cX12_notes 104 = .ok (.iconst 1, 1) := by decide +kernel
theorem dX12_notes_105 : decode cX12_notes 105 = .ok (.iadd, 1) := by decide +kernel
theorem dX12_notes_106 : decode cX12_notes 106 = .ok (.iastore, 1) := by decide +kernel
theorem dX12_notes_107 : decode cX12_notes 107 = .ok (.return_, 1) := by decide +kernel
theorem dX12_whyVisit_0 : decode cX12_whyVisit 0 = .ok (.aload_n 0, 1) := by decide +kernel
theorem dX12_whyVisit_1 : decode cX12_whyVisit 1 = .ok (.lload_n 1, 1) := by decide +kernel
theorem dX12_whyVisit_2 : decode cX12_whyVisit 2 = .ok (.invokevirtual 252, 3) := by decide +kernel
theorem dX12_whyVisit_5 : decode cX12_whyVisit 5 = .ok (.ifCond .ne 7, 3) := by decide +kernel
theorem dX12_whyVisit_8 : decode cX12_whyVisit 8 = .ok (.iconst 1, 1) := by decide +kernel
theorem dX12_whyVisit_9 : decode cX12_whyVisit 9 = .ok (.goto 29, 3) := by decide +kernel
theorem dX12_whyVisit_12 : decode cX12_whyVisit 12 = .ok (.aload_n 0, 1) := by decide +kernel
theorem dX12_whyVisit_13 : decode cX12_whyVisit 13 = .ok (.invokevirtual 259, 3) := by decide +kernel
theorem dX12_whyVisit_16 : decode cX12_whyVisit 16 = .ok (.ifCond .eq 7, 3) := by decide +kernel
theorem dX12_whyVisit_19 : decode cX12_whyVisit 19 = .ok (.iconst 2, 1) := by decide +kernel
theorem dX12_whyVisit_20 : decode cX12_whyVisit 20 = .ok (.goto 18, 3) := by decide +kernel
theorem dX12_whyVisit_23 : decode cX12_whyVisit 23 = .ok (.aload_n 0, 1) := by decide +kernel
theorem dX12_whyVisit_24 : decode cX12_whyVisit 24 = .ok (.lload_n 1, 1) := by decide +kernel
theorem dX12_whyVisit_25 : decode cX12_whyVisit 25 = .ok (.l2i, 1) := by decide +kernel
theorem dX12_whyVisit_26 : decode cX12_whyVisit 26 = .ok (.invokevirtual 242, 3) := by decide +kernel
theorem dX12_whyVisit_29 : decode cX12_whyVisit 29 = .ok (.iconst (-1), 1) := by decide +kernel
theorem dX12_whyVisit_30 : decode cX12_whyVisit 30 = .ok (.if_icmp .ne 7, 3) := by decide +kernel
theorem dX12_whyVisit_33 : decode cX12_whyVisit 33 = .ok (.iconst 3, 1) := by decide +kernel
theorem dX12_whyVisit_34 : decode cX12_whyVisit 34 = .ok (.goto 4, 3) := by decide +kernel
theorem dX12_whyVisit_37 : decode cX12_whyVisit 37 = .ok (.iconst 0, 1) := by decide +kernel
theorem dX12_whyVisit_38 : decode cX12_whyVisit 38 = .ok (.ireturn, 1) := by decide +kernel
theorem dX12_whyKind_0 : decode cX12_whyKind 0 = .ok (.aload_n 0, 1) := by decide +kernel
theorem dX12_whyKind_1 : decode cX12_whyKind 1 = .ok (.lload_n 1, 1) := by decide +kernel
theorem dX12_whyKind_2 : decode cX12_whyKind 2 = .ok (.invokevirtual 245, 3) := by decide +kernel
theorem dX12_whyKind_5 : decode cX12_whyKind 5 = .ok (.ifCond .ne 7, 3) := by decide +kernel
theorem dX12_whyKind_8 : decode cX12_whyKind 8 = .ok (.iconst 1, 1) := by decide +kernel
theorem dX12_whyKind_9 : decode cX12_whyKind 9 = .ok (.goto 15, 3) := by decide +kernel
theorem dX12_whyKind_12 : decode cX12_whyKind 12 = .ok (.aload_n 0, 1) := by decide +kernel
theorem dX12_whyKind_13 : decode cX12_whyKind 13 = .ok (.invokevirtual 259, 3) := by decide +kernel
theorem dX12_whyKind_16 : decode cX12_whyKind 16 = .ok (.ifCond .eq 7, 3) := by decide +kernel
theorem dX12_whyKind_19 : decode cX12_whyKind 19 = .ok (.iconst 2, 1) := by decide +kernel
theorem dX12_whyKind_20 : decode cX12_whyKind 20 = .ok (.goto 4, 3) := by decide +kernel
theorem dX12_whyKind_23 : decode cX12_whyKind 23 = .ok (.iconst 0, 1) := by decide +kernel
theorem dX12_whyKind_24 : decode cX12_whyKind 24 = .ok (.ireturn, 1) := by decide +kernel
theorem dX12_isPrice_0 : decode cX12_isPrice 0 = .ok (.lload_n 0, 1) := by decide +kernel
theorem dX12_isPrice_1 : decode cX12_isPrice 1 = .ok (.lconst 1, 1) := by decide +kernel
theorem dX12_isPrice_2 : decode cX12_isPrice 2 = .ok (.ldc2_w 263, 3) := by decide +kernel
theorem dX12_isPrice_5 : decode cX12_isPrice 5 = .ok (.invokestatic 142, 3) := by decide +kernel
theorem dX12_isPrice_8 : decode cX12_isPrice 8 = .ok (.ireturn, 1) := by decide +kernel
theorem dX12_whyPrice_0 : decode cX12_whyPrice 0 = .ok (.aload_n 0, 1) := by decide +kernel
theorem dX12_whyPrice_1 : decode cX12_whyPrice 1 = .ok (.lload_n 1, 1) := by decide +kernel
theorem dX12_whyPrice_2 : decode cX12_whyPrice 2 = .ok (.invokevirtual 245, 3) := by decide +kernel
theorem dX12_whyPrice_5 : decode cX12_whyPrice 5 = .ok (.ifCond .eq 10, 3) := by decide +kernel
theorem dX12_whyPrice_8 : decode cX12_whyPrice 8 = .ok (.lload_n 3, 1) := by decide +kernel
theorem dX12_whyPrice_9 : decode cX12_whyPrice 9 = .ok (.invokestatic 265, 3) := by decide +kernel
theorem dX12_whyPrice_12 : decode cX12_whyPrice 12 = .ok (.ifCond .ne 7, 3) := by decide +kernel
theorem dX12_whyPrice_15 : decode cX12_whyPrice 15 = .ok (.iconst 1, 1) := by decide +kernel
theorem dX12_whyPrice_16 : decode cX12_whyPrice 16 = .ok (.goto 15, 3) := by decide +kernel
theorem dX12_whyPrice_19 : decode cX12_whyPrice 19 = .ok (.aload_n 0, 1) := by decide +kernel
theorem dX12_whyPrice_20 : decode cX12_whyPrice 20 = .ok (.invokevirtual 259, 3) := by decide +kernel
theorem dX12_whyPrice_23 : decode cX12_whyPrice 23 = .ok (.ifCond .eq 7, 3) := by decide +kernel
theorem dX12_whyPrice_26 : decode cX12_whyPrice 26 = .ok (.iconst 2, 1) := by decide +kernel
theorem dX12_whyPrice_27 : decode cX12_whyPrice 27 = .ok (.goto 4, 3) := by decide +kernel
theorem dX12_whyPrice_30 : decode cX12_whyPrice 30 = .ok (.iconst 0, 1) := by decide +kernel
theorem dX12_whyPrice_31 : decode cX12_whyPrice 31 = .ok (.ireturn, 1) := by decide +kernel
theorem dX12_visits_0 : decode cX12_visits 0 = .ok (.aload_n 0, 1) := by decide +kernel
theorem dX12_visits_1 : decode cX12_visits 1 = .ok (.iload_n 1, 1) := by decide +kernel
theorem dX12_visits_2 : decode cX12_visits 2 = .ok (.invokevirtual 242, 3) := by decide +kernel
theorem dX12_visits_5 : decode cX12_visits 5 = .ok (.istore_n 2, 1) := by decide +kernel
theorem dX12_visits_6 : decode cX12_visits 6 = .ok (.aload_n 0, 1) := by decide +kernel
theorem dX12_visits_7 : decode cX12_visits 7 = .ok (.getfield 13, 3) := by decide +kernel
theorem dX12_visits_10 : decode cX12_visits 10 = .ok (.bipush 27, 2) := by decide +kernel
theorem dX12_visits_12 : decode cX12_visits 12 = .ok (.dup2, 1) := by decide +kernel
theorem dX12_visits_13 : decode cX12_visits 13 = .ok (.iaload, 1) := by decide +kernel
theorem dX12_visits_14 : decode cX12_visits 14 = .ok (.iconst 1, 1) := by decide +kernel
theorem dX12_visits_15 : decode cX12_visits 15 = .ok (.iload_n 2, 1) := by decide +kernel
theorem dX12_visits_16 : decode cX12_visits 16 = .ok (.ishl, 1) := by decide +kernel
theorem dX12_visits_17 : decode cX12_visits 17 = .ok (.ior, 1) := by decide +kernel
theorem dX12_visits_18 : decode cX12_visits 18 = .ok (.iastore, 1) := by decide +kernel
theorem dX12_visits_19 : decode cX12_visits 19 = .ok (.aload_n 0, 1) := by decide +kernel
theorem dX12_visits_20 : decode cX12_visits 20 = .ok (.getfield 13, 3) := by decide +kernel
theorem dX12_visits_23 : decode cX12_visits 23 = .ok (.bipush 29, 2) := by decide +kernel
theorem dX12_visits_25 : decode cX12_visits 25 = .ok (.dup2, 1) := by decide +kernel
theorem dX12_visits_26 : decode cX12_visits 26 = .ok (.iaload, 1) := by decide +kernel
theorem dX12_visits_27 : decode cX12_visits 27 = .ok (.aload_n 0, 1) := by decide +kernel
theorem dX12_visits_28 : decode cX12_visits 28 = .ok (.getfield 13, 3) := by decide +kernel
theorem dX12_visits_31 : decode cX12_visits 31 = .ok (.bipush 33, 2) := by decide +kernel
theorem dX12_visits_33 : decode cX12_visits 33 = .ok (.iload_n 2, 1) := by decide +kernel
theorem dX12_visits_34 : decode cX12_visits 34 = .ok (.iadd, 1) := by decide +kernel
theorem dX12_visits_35 : decode cX12_visits 35 = .ok (.iaload, 1) := by decide +kernel
theorem dX12_visits_36 : decode cX12_visits 36 = .ok (.iadd, 1) := by decide +kernel
theorem dX12_visits_37 : decode cX12_visits 37 = .ok (.iastore, 1) := by decide +kernel
theorem dX12_visits_38 : decode cX12_visits 38 = .ok (.iload_n 2, 1) := by decide +kernel
theorem dX12_visits_39 : decode cX12_visits 39 = .ok (.ireturn, 1) := by decide +kernel
theorem dX12_draw_0 : decode cX12_draw 0 = .ok (.aload_n 0, 1) := by decide +kernel
theorem dX12_draw_1 : decode cX12_draw 1 = .ok (.getfield 13, 3) := by decide +kernel
theorem dX12_draw_4 : decode cX12_draw 4 = .ok (.bipush 32, 2) := by decide +kernel
theorem dX12_draw_6 : decode cX12_draw 6 = .ok (.ldc_w 268, 3) := by decide +kernel
theorem dX12_draw_9 : decode cX12_draw 9 = .ok (.aload_n 0, 1) := by decide +kernel
theorem dX12_draw_10 : decode cX12_draw 10 = .ok (.getfield 13, 3) := by decide +kernel
theorem dX12_draw_13 : decode cX12_draw 13 = .ok (.bipush 32, 2) := by decide +kernel
theorem dX12_draw_15 : decode cX12_draw 15 = .ok (.iaload, 1) := by decide +kernel
theorem dX12_draw_16 : decode cX12_draw 16 = .ok (.imul, 1) := by decide +kernel
theorem dX12_draw_17 : decode cX12_draw 17 = .ok (.sipush 12345, 3) := by decide +kernel
theorem dX12_draw_20 : decode cX12_draw 20 = .ok (.iadd, 1) := by decide +kernel
theorem dX12_draw_21 : decode cX12_draw 21 = .ok (.iastore, 1) := by decide +kernel
theorem dX12_draw_22 : decode cX12_draw 22 = .ok (.aload_n 0, 1) := by decide +kernel
theorem dX12_draw_23 : decode cX12_draw 23 = .ok (.getfield 13, 3) := by decide +kernel
theorem dX12_draw_26 : decode cX12_draw 26 = .ok (.bipush 32, 2) := by decide +kernel
theorem dX12_draw_28 : decode cX12_draw 28 = .ok (.iaload, 1) := by decide +kernel
theorem dX12_draw_29 : decode cX12_draw 29 = .ok (.bipush 16, 2) := by decide +kernel
theorem dX12_draw_31 : decode cX12_draw 31 = .ok (.iushr, 1) := by decide +kernel
theorem dX12_draw_32 : decode cX12_draw 32 = .ok (.iload_n 1, 1) := by decide +kernel
theorem dX12_draw_33 : decode cX12_draw 33 = .ok (.irem, 1) := by decide +kernel
theorem dX12_draw_34 : decode cX12_draw 34 = .ok (.ireturn, 1) := by decide +kernel
theorem dX12_oddsAll_0 : decode cX12_oddsAll 0 = .ok (.iconst 0, 1) := by decide +kernel
theorem dX12_oddsAll_1 : decode cX12_oddsAll 1 = .ok (.istore_n 1, 1) := by decide +kernel
theorem dX12_oddsAll_2 : decode cX12_oddsAll 2 = .ok (.iconst 0, 1) := by decide +kernel
theorem dX12_oddsAll_3 : decode cX12_oddsAll 3 = .ok (.istore_n 2, 1) := by decide +kernel
theorem dX12_oddsAll_4 : decode cX12_oddsAll 4 = .ok (.iload_n 2, 1) := by decide +kernel
theorem dX12_oddsAll_5 : decode cX12_oddsAll 5 = .ok (.aload_n 0, 1) := by decide +kernel
theorem dX12_oddsAll_6 : decode cX12_oddsAll 6 = .ok (.getfield 13, 3) := by decide +kernel
theorem dX12_oddsAll_9 : decode cX12_oddsAll 9 = .ok (.iconst 1, 1) := by decide +kernel
theorem dX12_oddsAll_10 : decode cX12_oddsAll 10 = .ok (.iaload, 1) := by decide +kernel
theorem dX12_oddsAll_11 : decode cX12_oddsAll 11 = .ok (.if_icmp .ge 21, 3) := by decide +kernel
theorem dX12_oddsAll_14 : decode cX12_oddsAll 14 = .ok (.iload_n 1, 1) := by decide +kernel
theorem dX12_oddsAll_15 : decode cX12_oddsAll 15 = .ok (.aload_n 0, 1) := by decide +kernel
theorem dX12_oddsAll_16 : decode cX12_oddsAll 16 = .ok (.getfield 13, 3) := by decide +kernel
theorem dX12_oddsAll_19 : decode cX12_oddsAll 19 = .ok (.bipush 20, 2) := by decide +kernel
theorem dX12_oddsAll_21 : decode cX12_oddsAll 21 = .ok (.iload_n 2, 1) := by decide +kernel
theorem dX12_oddsAll_22 : decode cX12_oddsAll 22 = .ok (.iadd, 1) := by decide +kernel
theorem dX12_oddsAll_23 : decode cX12_oddsAll 23 = .ok (.iaload, 1) := by decide +kernel
theorem dX12_oddsAll_24 : decode cX12_oddsAll 24 = .ok (.iadd, 1) := by decide +kernel
theorem dX12_oddsAll_25 : decode cX12_oddsAll 25 = .ok (.istore_n 1, 1) := by decide +kernel
theorem dX12_oddsAll_26 : decode cX12_oddsAll 26 = .ok (.iinc 2 1, 3) := by decide +kernel
theorem dX12_oddsAll_29 : decode cX12_oddsAll 29 = .ok (.goto (-25), 3) := by decide +kernel
theorem dX12_oddsAll_32 : decode cX12_oddsAll 32 = .ok (.iload_n 1, 1) := by decide +kernel
theorem dX12_oddsAll_33 : decode cX12_oddsAll 33 = .ok (.ireturn, 1) := by decide +kernel
theorem dX12_goesDay_0 : decode cX12_goesDay 0 = .ok (.aload_n 0, 1) := by decide +kernel
theorem dX12_goesDay_1 : decode cX12_goesDay 1 = .ok (.getfield 13, 3) := by decide +kernel
theorem dX12_goesDay_4 : decode cX12_goesDay 4 = .ok (.bipush 31, 2) := by decide +kernel
theorem dX12_goesDay_6 : decode cX12_goesDay 6 = .ok (.dup2, 1) := by decide +kernel
theorem dX12_goesDay_7 : decode cX12_goesDay 7 = .ok (.iaload, 1) := by decide +kernel
theorem dX12_goesDay_8 : decode cX12_goesDay 8 = .ok (.iconst 1, 1) := by decide +kernel
theorem dX12_goesDay_9 : decode cX12_goesDay 9 = .ok (.iadd, 1) := by decide +kernel
theorem dX12_goesDay_10 : decode cX12_goesDay 10 = .ok (.iastore, 1) := by decide +kernel
theorem dX12_goesDay_11 : decode cX12_goesDay 11 = .ok (.aload_n 0, 1) := by decide +kernel
theorem dX12_goesDay_12 : decode cX12_goesDay 12 = .ok (.invokevirtual 269, 3) := by decide +kernel
theorem dX12_goesDay_15 : decode cX12_goesDay 15 = .ok (.istore_n 1, 1) := by decide +kernel
theorem dX12_goesDay_16 : decode cX12_goesDay 16 = .ok (.iload_n 1, 1) := by decide +kernel
theorem dX12_goesDay_17 : decode cX12_goesDay 17 = .ok (.ifCond .ne 5, 3) := by decide +kernel
theorem dX12_goesDay_20 : decode cX12_goesDay 20 = .ok (.iconst 0, 1) := by decide +kernel
theorem dX12_goesDay_21 : decode cX12_goesDay 21 = .ok (.ireturn, 1) := by decide +kernel
theorem dX12_goesDay_22 : decode cX12_goesDay 22 = .ok (.aload_n 0, 1) := by decide +kernel
theorem dX12_goesDay_23 : decode cX12_goesDay 23 = .ok (.iload_n 1, 1) := by decide +kernel
theorem dX12_goesDay_24 : decode cX12_goesDay 24 = .ok (.invokevirtual 272, 3) := by decide +kernel
theorem dX12_goesDay_27 : decode cX12_goesDay 27 = .ok (.istore_n 2, 1) := by decide +kernel
theorem dX12_goesDay_28 : decode cX12_goesDay 28 = .ok (.iconst 0, 1) := by decide +kernel
theorem dX12_goesDay_29 : decode cX12_goesDay 29 = .ok (.istore_n 3, 1) := by decide +kernel
theorem dX12_goesDay_30 : decode cX12_goesDay 30 = .ok (.iload_n 2, 1) := by decide +kernel
theorem dX12_goesDay_31 : decode cX12_goesDay 31 = .ok (.aload_n 0, 1) := by decide +kernel
theorem dX12_goesDay_32 : decode cX12_goesDay 32 = .ok (.getfield 13, 3) := by decide +kernel
theorem dX12_goesDay_35 : decode cX12_goesDay 35 = .ok (.bipush 20, 2) := by decide +kernel
theorem dX12_goesDay_37 : decode cX12_goesDay 37 = .ok (.iload_n 3, 1) := by decide +kernel
theorem dX12_goesDay_38 : decode cX12_goesDay 38 = .ok (.iadd, 1) := by decide +kernel
theorem dX12_goesDay_39 : decode cX12_goesDay 39 = .ok (.iaload, 1) := by decide +kernel
theorem dX12_goesDay_40 : decode cX12_goesDay 40 = .ok (.if_icmp .lt 21, 3) := by decide +kernel
theorem dX12_goesDay_43 : decode cX12_goesDay 43 = .ok (.iload_n 2, 1) := by decide +kernel
theorem dX12_goesDay_44 : decode cX12_goesDay 44 = .ok (.aload_n 0, 1) := by decide +kernel
theorem dX12_goesDay_45 : decode cX12_goesDay 45 = .ok (.getfield 13, 3) := by decide +kernel
theorem dX12_goesDay_48 : decode cX12_goesDay 48 = .ok (.bipush 20, 2) := by decide +kernel
theorem dX12_goesDay_50 : decode cX12_goesDay 50 = .ok (.iload_n 3, 1) := by decide +kernel
theorem dX12_goesDay_51 : decode cX12_goesDay 51 = .ok (.iadd, 1) := by decide +kernel
theorem dX12_goesDay_52 : decode cX12_goesDay 52 = .ok (.iaload, 1) := by decide +kernel
theorem dX12_goesDay_53 : decode cX12_goesDay 53 = .ok (.isub, 1) := by decide +kernel
theorem dX12_goesDay_54 : decode cX12_goesDay 54 = .ok (.istore_n 2, 1) := by decide +kernel
theorem dX12_goesDay_55 : decode cX12_goesDay 55 = .ok (.iinc 3 1, 3) := by decide +kernel
theorem dX12_goesDay_58 : decode cX12_goesDay 58 = .ok (.goto (-28), 3) := by decide +kernel
theorem dX12_goesDay_61 : decode cX12_goesDay 61 = .ok (.aload_n 0, 1) := by decide +kernel
theorem dX12_goesDay_62 : decode cX12_goesDay 62 = .ok (.iload_n 3, 1) := by decide +kernel
theorem dX12_goesDay_63 : decode cX12_goesDay 63 = .ok (.i2l, 1) := by decide +kernel
theorem dX12_goesDay_64 : decode cX12_goesDay 64 = .ok (.invokevirtual 275, 3) := by decide +kernel
theorem dX12_goesDay_67 : decode cX12_goesDay 67 = .ok (.ifCond .eq 5, 3) := by decide +kernel
theorem dX12_goesDay_70 : decode cX12_goesDay 70 = .ok (.iconst 0, 1) := by decide +kernel
theorem dX12_goesDay_71 : decode cX12_goesDay 71 = .ok (.ireturn, 1) := by decide +kernel
theorem dX12_goesDay_72 : decode cX12_goesDay 72 = .ok (.aload_n 0, 1) := by decide +kernel
theorem dX12_goesDay_73 : decode cX12_goesDay 73 = .ok (.iload_n 3, 1) := by decide +kernel
theorem dX12_goesDay_74 : decode cX12_goesDay 74 = .ok (.invokevirtual 279, 3) := by decide +kernel
theorem dX12_goesDay_77 : decode cX12_goesDay 77 = .ok (.pop, 1) := by decide +kernel
theorem dX12_goesDay_78 : decode cX12_goesDay 78 = .ok (.iconst 1, 1) := by decide +kernel
theorem dX12_goesDay_79 : decode cX12_goesDay 79 = .ok (.ireturn, 1) := by decide +kernel
theorem dX12_seed_0 : decode cX12_seed 0 = .ok (.aload_n 0, 1) := by decide +kernel
theorem dX12_seed_1 : decode cX12_seed 1 = .ok (.iconst 0, 1) := by decide +kernel
theorem dX12_seed_2 : decode cX12_seed 2 = .ok (.putfield 1, 3) := by decide +kernel
theorem dX12_seed_5 : decode cX12_seed 5 = .ok (.aload_n 0, 1) := by decide +kernel
theorem dX12_seed_6 : decode cX12_seed 6 = .ok (.invokevirtual 282, 3) := by decide +kernel
theorem dX12_seed_9 : decode cX12_seed 9 = .ok (.aload_n 0, 1) := by decide +kernel
theorem dX12_seed_10 : decode cX12_seed 10 = .ok (.getfield 13, 3) := by decide +kernel
theorem dX12_seed_13 : decode cX12_seed 13 = .ok (.bipush 32, 2) := by decide +kernel
theorem dX12_seed_15 : decode cX12_seed 15 = .ok (.iload_n 1, 1) := by decide +kernel
theorem dX12_seed_16 : decode cX12_seed 16 = .ok (.iastore, 1) := by decide +kernel
theorem dX12_seed_17 : decode cX12_seed 17 = .ok (.aload_n 0, 1) := by decide +kernel
theorem dX12_seed_18 : decode cX12_seed 18 = .ok (.invokevirtual 285, 3) := by decide +kernel
theorem dX12_seed_21 : decode cX12_seed 21 = .ok (.aload_n 0, 1) := by decide +kernel
theorem dX12_seed_22 : decode cX12_seed 22 = .ok (.getfield 36, 3) := by decide +kernel
theorem dX12_seed_25 : decode cX12_seed 25 = .ok (.bipush 6, 2) := by decide +kernel
theorem dX12_seed_27 : decode cX12_seed 27 = .ok (.iaload, 1) := by decide +kernel
theorem dX12_seed_28 : decode cX12_seed 28 = .ok (.ireturn, 1) := by decide +kernel
theorem dX12_visit_0 : decode cX12_visit 0 = .ok (.aload_n 0, 1) := by decide +kernel
theorem dX12_visit_1 : decode cX12_visit 1 = .ok (.iconst 0, 1) := by decide +kernel
theorem dX12_visit_2 : decode cX12_visit 2 = .ok (.putfield 1, 3) := by decide +kernel
theorem dX12_visit_5 : decode cX12_visit 5 = .ok (.aload_n 0, 1) := by decide +kernel
theorem dX12_visit_6 : decode cX12_visit 6 = .ok (.iload_n 1, 1) := by decide +kernel
theorem dX12_visit_7 : decode cX12_visit 7 = .ok (.i2l, 1) := by decide +kernel
theorem dX12_visit_8 : decode cX12_visit 8 = .ok (.invokevirtual 275, 3) := by decide +kernel
theorem dX12_visit_11 : decode cX12_visit 11 = .ok (.istore_n 2, 1) := by decide +kernel
theorem dX12_visit_12 : decode cX12_visit 12 = .ok (.iload_n 2, 1) := by decide +kernel
theorem dX12_visit_13 : decode cX12_visit 13 = .ok (.ifCond .eq 8, 3) := by decide +kernel
theorem dX12_visit_16 : decode cX12_visit 16 = .ok (.bipush (-10), 2) := by decide +kernel
theorem dX12_visit_18 : decode cX12_visit 18 = .ok (.iload_n 2, 1) := by decide +kernel
theorem dX12_visit_19 : decode cX12_visit 19 = .ok (.isub, 1) := by decide +kernel
theorem dX12_visit_20 : decode cX12_visit 20 = .ok (.ireturn, 1) := by decide +kernel
theorem dX12_visit_21 : decode cX12_visit 21 = .ok (.aload_n 0, 1) := by decide +kernel
theorem dX12_visit_22 : decode cX12_visit 22 = .ok (.invokevirtual 282, 3) := by decide +kernel
theorem dX12_visit_25 : decode cX12_visit 25 = .ok (.aload_n 0, 1) := by decide +kernel
theorem dX12_visit_26 : decode cX12_visit 26 = .ok (.iload_n 1, 1) := by decide +kernel
theorem dX12_visit_27 : decode cX12_visit 27 = .ok (.invokevirtual 279, 3) := by decide +kernel
theorem dX12_visit_30 : decode cX12_visit 30 = .ok (.istore_n 3, 1) := by decide +kernel
theorem dX12_visit_31 : decode cX12_visit 31 = .ok (.aload_n 0, 1) := by decide +kernel
theorem dX12_visit_32 : decode cX12_visit 32 = .ok (.invokevirtual 285, 3) := by decide +kernel
theorem dX12_visit_35 : decode cX12_visit 35 = .ok (.iload_n 3, 1) := by decide +kernel
theorem dX12_visit_36 : decode cX12_visit 36 = .ok (.ireturn, 1) := by decide +kernel
theorem dX12_gift_0 : decode cX12_gift 0 = .ok (.aload_n 0, 1) := by decide +kernel
theorem dX12_gift_1 : decode cX12_gift 1 = .ok (.iconst 0, 1) := by decide +kernel
theorem dX12_gift_2 : decode cX12_gift 2 = .ok (.putfield 1, 3) := by decide +kernel
theorem dX12_gift_5 : decode cX12_gift 5 = .ok (.aload_n 0, 1) := by decide +kernel
theorem dX12_gift_6 : decode cX12_gift 6 = .ok (.iload_n 1, 1) := by decide +kernel
theorem dX12_gift_7 : decode cX12_gift 7 = .ok (.i2l, 1) := by decide +kernel
theorem dX12_gift_8 : decode cX12_gift 8 = .ok (.invokevirtual 288, 3) := by decide +kernel
theorem dX12_gift_11 : decode cX12_gift 11 = .ok (.istore_n 2, 1) := by decide +kernel
theorem dX12_gift_12 : decode cX12_gift 12 = .ok (.iload_n 2, 1) := by decide +kernel
theorem dX12_gift_13 : decode cX12_gift 13 = .ok (.ifCond .eq 8, 3) := by decide +kernel
theorem dX12_gift_16 : decode cX12_gift 16 = .ok (.bipush (-10), 2) := by decide +kernel
theorem dX12_gift_18 : decode cX12_gift 18 = .ok (.iload_n 2, 1) := by decide +kernel
theorem dX12_gift_19 : decode cX12_gift 19 = .ok (.isub, 1) := by decide +kernel
theorem dX12_gift_20 : decode cX12_gift 20 = .ok (.ireturn, 1) := by decide +kernel
theorem dX12_gift_21 : decode cX12_gift 21 = .ok (.aload_n 0, 1) := by decide +kernel
theorem dX12_gift_22 : decode cX12_gift 22 = .ok (.invokevirtual 282, 3) := by decide +kernel
theorem dX12_gift_25 : decode cX12_gift 25 = .ok (.aload_n 0, 1) := by decide +kernel
theorem dX12_gift_26 : decode cX12_gift 26 = .ok (.getfield 13, 3) := by decide +kernel
theorem dX12_gift_29 : decode cX12_gift 29 = .ok (.bipush 30, 2) := by decide +kernel
theorem dX12_gift_31 : decode cX12_gift 31 = .ok (.dup2, 1) := by decide +kernel
theorem dX12_gift_32 : decode cX12_gift 32 = .ok (.iaload, 1) := by decide +kernel
theorem dX12_gift_33 : decode cX12_gift 33 = .ok (.iconst 1, 1) := by decide +kernel
theorem dX12_gift_34 : decode cX12_gift 34 = .ok (.iadd, 1) := by decide +kernel
theorem dX12_gift_35 : decode cX12_gift 35 = .ok (.iastore, 1) := by decide +kernel
theorem dX12_gift_36 : decode cX12_gift 36 = .ok (.aload_n 0, 1) := by decide +kernel
theorem dX12_gift_37 : decode cX12_gift 37 = .ok (.invokevirtual 285, 3) := by decide +kernel
theorem dX12_gift_40 : decode cX12_gift 40 = .ok (.aload_n 0, 1) := by decide +kernel
theorem dX12_gift_41 : decode cX12_gift 41 = .ok (.getfield 13, 3) := by decide +kernel
theorem dX12_gift_44 : decode cX12_gift 44 = .ok (.bipush 30, 2) := by decide +kernel
theorem dX12_gift_46 : decode cX12_gift 46 = .ok (.iaload, 1) := by decide +kernel
theorem dX12_gift_47 : decode cX12_gift 47 = .ok (.ireturn, 1) := by decide +kernel
theorem dX12_hide_0 : decode cX12_hide 0 = .ok (.aload_n 0, 1) := by decide +kernel
theorem dX12_hide_1 : decode cX12_hide 1 = .ok (.iconst 0, 1) := by decide +kernel
theorem dX12_hide_2 : decode cX12_hide 2 = .ok (.putfield 1, 3) := by decide +kernel
theorem dX12_hide_5 : decode cX12_hide 5 = .ok (.aload_n 0, 1) := by decide +kernel
theorem dX12_hide_6 : decode cX12_hide 6 = .ok (.iload_n 1, 1) := by decide +kernel
theorem dX12_hide_7 : decode cX12_hide 7 = .ok (.i2l, 1) := by decide +kernel
theorem dX12_hide_8 : decode cX12_hide 8 = .ok (.invokevirtual 288, 3) := by decide +kernel
theorem dX12_hide_11 : decode cX12_hide 11 = .ok (.istore_n 2, 1) := by decide +kernel
theorem dX12_hide_12 : decode cX12_hide 12 = .ok (.iload_n 2, 1) := by decide +kernel
theorem dX12_hide_13 : decode cX12_hide 13 = .ok (.ifCond .eq 8, 3) := by decide +kernel
theorem dX12_hide_16 : decode cX12_hide 16 = .ok (.bipush (-10), 2) := by decide +kernel
theorem dX12_hide_18 : decode cX12_hide 18 = .ok (.iload_n 2, 1) := by decide +kernel
theorem dX12_hide_19 : decode cX12_hide 19 = .ok (.isub, 1) := by decide +kernel
theorem dX12_hide_20 : decode cX12_hide 20 = .ok (.ireturn, 1) := by decide +kernel
theorem dX12_hide_21 : decode cX12_hide 21 = .ok (.aload_n 0, 1) := by decide +kernel
theorem dX12_hide_22 : decode cX12_hide 22 = .ok (.invokevirtual 282, 3) := by decide +kernel
theorem dX12_hide_25 : decode cX12_hide 25 = .ok (.aload_n 0, 1) := by decide +kernel
theorem dX12_hide_26 : decode cX12_hide 26 = .ok (.getfield 13, 3) := by decide +kernel
theorem dX12_hide_29 : decode cX12_hide 29 = .ok (.bipush 28, 2) := by decide +kernel
theorem dX12_hide_31 : decode cX12_hide 31 = .ok (.dup2, 1) := by decide +kernel
theorem dX12_hide_32 : decode cX12_hide 32 = .ok (.iaload, 1) := by decide +kernel
theorem dX12_hide_33 : decode cX12_hide 33 = .ok (.iconst 1, 1) := by decide +kernel
theorem dX12_hide_34 : decode cX12_hide 34 = .ok (.iload_n 1, 1) := by decide +kernel
theorem dX12_hide_35 : decode cX12_hide 35 = .ok (.ishl, 1) := by decide +kernel
theorem dX12_hide_36 : decode cX12_hide 36 = .ok (.ixor, 1) := by decide +kernel
theorem dX12_hide_37 : decode cX12_hide 37 = .ok (.iastore, 1) := by decide +kernel
theorem dX12_hide_38 : decode cX12_hide 38 = .ok (.aload_n 0, 1) := by decide +kernel
theorem dX12_hide_39 : decode cX12_hide 39 = .ok (.invokevirtual 285, 3) := by decide +kernel
theorem dX12_hide_42 : decode cX12_hide 42 = .ok (.aload_n 0, 1) := by decide +kernel
theorem dX12_hide_43 : decode cX12_hide 43 = .ok (.getfield 13, 3) := by decide +kernel
theorem dX12_hide_46 : decode cX12_hide 46 = .ok (.bipush 28, 2) := by decide +kernel
theorem dX12_hide_48 : decode cX12_hide 48 = .ok (.iaload, 1) := by decide +kernel
theorem dX12_hide_49 : decode cX12_hide 49 = .ok (.iload_n 1, 1) := by decide +kernel
theorem dX12_hide_50 : decode cX12_hide 50 = .ok (.ishr, 1) := by decide +kernel
theorem dX12_hide_51 : decode cX12_hide 51 = .ok (.iconst 1, 1) := by decide +kernel
theorem dX12_hide_52 : decode cX12_hide 52 = .ok (.iand, 1) := by decide +kernel
theorem dX12_hide_53 : decode cX12_hide 53 = .ok (.ireturn, 1) := by decide +kernel
theorem dX12_add_0 : decode cX12_add 0 = .ok (.aload_n 0, 1) := by decide +kernel
theorem dX12_add_1 : decode cX12_add 1 = .ok (.iconst 0, 1) := by decide +kernel
theorem dX12_add_2 : decode cX12_add 2 = .ok (.putfield 1, 3) := by decide +kernel
theorem dX12_add_5 : decode cX12_add 5 = .ok (.iload_n 1, 1) := by decide +kernel
theorem dX12_add_6 : decode cX12_add 6 = .ok (.i2l, 1) := by decide +kernel
theorem dX12_add_7 : decode cX12_add 7 = .ok (.invokestatic 265, 3) := by decide +kernel
theorem dX12_add_10 : decode cX12_add 10 = .ok (.ifCond .eq 15, 3) := by decide +kernel
theorem dX12_add_13 : decode cX12_add 13 = .ok (.iload_n 2, 1) := by decide +kernel
theorem dX12_add_14 : decode cX12_add 14 = .ok (.i2l, 1) := by decide +kernel
theorem dX12_add_15 : decode cX12_add 15 = .ok (.lconst 0, 1) := by decide +kernel
theorem dX12_add_16 : decode cX12_add 16 = .ok (.ldc2_w 291, 3) := by decide +kernel
theorem dX12_add_19 : decode cX12_add 19 = .ok (.invokestatic 142, 3) := by decide +kernel
theorem dX12_add_22 : decode cX12_add 22 = .ok (.ifCond .ne 6, 3) := by decide +kernel
theorem dX12_add_25 : decode cX12_add 25 = .ok (.bipush (-11), 2) := by decide +kernel
theorem dX12_add_27 : decode cX12_add 27 = .ok (.ireturn, 1) := by decide +kernel
theorem dX12_add_28 : decode cX12_add 28 = .ok (.aload_n 0, 1) := by decide +kernel
theorem dX12_add_29 : decode cX12_add 29 = .ok (.invokevirtual 259, 3) := by decide +kernel
theorem dX12_add_32 : decode cX12_add 32 = .ok (.ifCond .eq 6, 3) := by decide +kernel
theorem dX12_add_35 : decode cX12_add 35 = .ok (.bipush (-12), 2) := by decide +kernel
theorem dX12_add_37 : decode cX12_add 37 = .ok (.ireturn, 1) := by decide +kernel
theorem dX12_add_38 : decode cX12_add 38 = .ok (.aload_n 0, 1) := by decide +kernel
theorem dX12_add_39 : decode cX12_add 39 = .ok (.getfield 13, 3) := by decide +kernel
theorem dX12_add_42 : decode cX12_add 42 = .ok (.bipush 26, 2) := by decide +kernel
theorem dX12_add_44 : decode cX12_add 44 = .ok (.iaload, 1) := by decide +kernel
theorem dX12_add_45 : decode cX12_add 45 = .ok (.bipush 8, 2) := by decide +kernel
theorem dX12_add_47 : decode cX12_add 47 = .ok (.if_icmp .ne 6, 3) := by decide +kernel
theorem dX12_add_50 : decode cX12_add 50 = .ok (.bipush (-13), 2) := by decide +kernel
theorem dX12_add_52 : decode cX12_add 52 = .ok (.ireturn, 1) := by decide +kernel
theorem dX12_add_53 : decode cX12_add 53 = .ok (.aload_n 0, 1) := by decide +kernel
theorem dX12_add_54 : decode cX12_add 54 = .ok (.invokevirtual 282, 3) := by decide +kernel
theorem dX12_add_57 : decode cX12_add 57 = .ok (.aload_n 0, 1) := by decide +kernel
theorem dX12_add_58 : decode cX12_add 58 = .ok (.getfield 13, 3) := by decide +kernel
theorem dX12_add_61 : decode cX12_add 61 = .ok (.bipush 26, 2) := by decide +kernel
theorem dX12_add_63 : decode cX12_add 63 = .ok (.iaload, 1) := by decide +kernel
theorem dX12_add_64 : decode cX12_add 64 = .ok (.istore_n 3, 1) := by decide +kernel
theorem dX12_add_65 : decode cX12_add 65 = .ok (.aload_n 0, 1) := by decide +kernel
theorem dX12_add_66 : decode cX12_add 66 = .ok (.getfield 13, 3) := by decide +kernel
theorem dX12_add_69 : decode cX12_add 69 = .ok (.bipush 26, 2) := by decide +kernel
theorem dX12_add_71 : decode cX12_add 71 = .ok (.dup2, 1) := by decide +kernel
theorem dX12_add_72 : decode cX12_add 72 = .ok (.iaload, 1) := by decide +kernel
theorem dX12_add_73 : decode cX12_add 73 = .ok (.iconst 1, 1) := by decide +kernel
theorem dX12_add_74 : decode cX12_add 74 = .ok (.iadd, 1) := by decide +kernel
theorem dX12_add_75 : decode cX12_add 75 = .ok (.iastore, 1) := by decide +kernel
theorem dX12_add_76 : decode cX12_add 76 = .ok (.aload_n 0, 1) := by decide +kernel
theorem dX12_add_77 : decode cX12_add 77 = .ok (.getfield 13, 3) := by decide +kernel
theorem dX12_add_80 : decode cX12_add 80 = .ok (.bipush 33, 2) := by decide +kernel
theorem dX12_add_82 : decode cX12_add 82 = .ok (.iload_n 3, 1) := by decide +kernel
theorem dX12_add_83 : decode cX12_add 83 = .ok (.iadd, 1) := by decide +kernel
theorem dX12_add_84 : decode cX12_add 84 = .ok (.iload_n 1, 1) := by decide +kernel
theorem dX12_add_85 : decode cX12_add 85 = .ok (.iastore, 1) := by decide +kernel
theorem dX12_add_86 : decode cX12_add 86 = .ok (.aload_n 0, 1) := by decide +kernel
theorem dX12_add_87 : decode cX12_add 87 = .ok (.getfield 13, 3) := by decide +kernel
theorem dX12_add_90 : decode cX12_add 90 = .ok (.bipush 41, 2) := by decide +kernel
theorem dX12_add_92 : decode cX12_add 92 = .ok (.iload_n 3, 1) := by decide +kernel
theorem dX12_add_93 : decode cX12_add 93 = .ok (.iadd, 1) := by decide +kernel
theorem dX12_add_94 : decode cX12_add 94 = .ok (.iload_n 2, 1) := by decide +kernel
theorem dX12_add_95 : decode cX12_add 95 = .ok (.iastore, 1) := by decide +kernel
theorem dX12_add_96 : decode cX12_add 96 = .ok (.aload_n 0, 1) := by decide +kernel
theorem dX12_add_97 : decode cX12_add 97 = .ok (.invokevirtual 285, 3) := by decide +kernel
theorem dX12_add_100 : decode cX12_add 100 = .ok (.iload_n 3, 1) := by decide +kernel
theorem dX12_add_101 : decode cX12_add 101 = .ok (.ireturn, 1) := by decide +kernel
theorem dX12_price_0 : decode cX12_price 0 = .ok (.aload_n 0, 1) := by decide +kernel
theorem dX12_price_1 : decode cX12_price 1 = .ok (.iconst 0, 1) := by decide +kernel
theorem dX12_price_2 : decode cX12_price 2 = .ok (.putfield 1, 3) := by decide +kernel
theorem dX12_price_5 : decode cX12_price 5 = .ok (.aload_n 0, 1) := by decide +kernel
theorem dX12_price_6 : decode cX12_price 6 = .ok (.iload_n 1, 1) := by decide +kernel
theorem dX12_price_7 : decode cX12_price 7 = .ok (.i2l, 1) := by decide +kernel
theorem dX12_price_8 : decode cX12_price 8 = .ok (.iload_n 2, 1) := by decide +kernel
theorem dX12_price_9 : decode cX12_price 9 = .ok (.i2l, 1) := by decide +kernel
theorem dX12_price_10 : decode cX12_price 10 = .ok (.invokevirtual 293, 3) := by decide +kernel
theorem dX12_price_13 : decode cX12_price 13 = .ok (.istore_n 3, 1) := by decide +kernel
theorem dX12_price_14 : decode cX12_price 14 = .ok (.iload_n 3, 1) := by decide +kernel
theorem dX12_price_15 : decode cX12_price 15 = .ok (.ifCond .eq 8, 3) := by decide +kernel
theorem dX12_price_18 : decode cX12_price 18 = .ok (.bipush (-10), 2) := by decide +kernel
theorem dX12_price_20 : decode cX12_price 20 = .ok (.iload_n 3, 1) := by decide +kernel
theorem dX12_price_21 : decode cX12_price 21 = .ok (.isub, 1) := by decide +kernel
theorem dX12_price_22 : decode cX12_price 22 = .ok (.ireturn, 1) := by decide +kernel
theorem dX12_price_23 : decode cX12_price 23 = .ok (.aload_n 0, 1) := by decide +kernel
theorem dX12_price_24 : decode cX12_price 24 = .ok (.invokevirtual 282, 3) := by decide +kernel
theorem dX12_price_27 : decode cX12_price 27 = .ok (.aload_n 0, 1) := by decide +kernel
theorem dX12_price_28 : decode cX12_price 28 = .ok (.getfield 13, 3) := by decide +kernel
theorem dX12_price_31 : decode cX12_price 31 = .ok (.bipush 33, 2) := by decide +kernel
theorem dX12_price_33 : decode cX12_price 33 = .ok (.iload_n 1, 1) := by decide +kernel
theorem dX12_price_34 : decode cX12_price 34 = .ok (.iadd, 1) := by decide +kernel
theorem dX12_price_35 : decode cX12_price 35 = .ok (.iload_n 2, 1) := by decide +kernel
theorem dX12_price_36 : decode cX12_price 36 = .ok (.iastore, 1) := by decide +kernel
theorem dX12_price_37 : decode cX12_price 37 = .ok (.aload_n 0, 1) := by decide +kernel
theorem dX12_price_38 : decode cX12_price 38 = .ok (.invokevirtual 285, 3) := by decide +kernel
theorem dX12_price_41 : decode cX12_price 41 = .ok (.aload_n 0, 1) := by decide +kernel
theorem dX12_price_42 : decode cX12_price 42 = .ok (.getfield 36, 3) := by decide +kernel
theorem dX12_price_45 : decode cX12_price 45 = .ok (.bipush 7, 2) := by decide +kernel
theorem dX12_price_47 : decode cX12_price 47 = .ok (.iload_n 1, 1) := by decide +kernel
theorem dX12_price_48 : decode cX12_price 48 = .ok (.iadd, 1) := by decide +kernel
theorem dX12_price_49 : decode cX12_price 49 = .ok (.iaload, 1) := by decide +kernel
theorem dX12_price_50 : decode cX12_price 50 = .ok (.ireturn, 1) := by decide +kernel
theorem dX12_days_0 : decode cX12_days 0 = .ok (.aload_n 0, 1) := by decide +kernel
theorem dX12_days_1 : decode cX12_days 1 = .ok (.iconst 0, 1) := by decide +kernel
theorem dX12_days_2 : decode cX12_days 2 = .ok (.putfield 1, 3) := by decide +kernel
theorem dX12_days_5 : decode cX12_days 5 = .ok (.iload_n 1, 1) := by decide +kernel
theorem dX12_days_6 : decode cX12_days 6 = .ok (.i2l, 1) := by decide +kernel
theorem dX12_days_7 : decode cX12_days 7 = .ok (.lconst 1, 1) := by decide +kernel
theorem dX12_days_8 : decode cX12_days 8 = .ok (.ldc2_w 263, 3) := by decide +kernel
theorem dX12_days_11 : decode cX12_days 11 = .ok (.invokestatic 142, 3) := by decide +kernel
theorem dX12_days_14 : decode cX12_days 14 = .ok (.ifCond .ne 6, 3) := by decide +kernel
theorem dX12_days_17 : decode cX12_days 17 = .ok (.bipush (-3), 2) := by decide +kernel
theorem dX12_days_19 : decode cX12_days 19 = .ok (.ireturn, 1) := by decide +kernel
theorem dX12_days_20 : decode cX12_days 20 = .ok (.aload_n 0, 1) := by decide +kernel
theorem dX12_days_21 : decode cX12_days 21 = .ok (.invokevirtual 282, 3) := by decide +kernel
theorem dX12_days_24 : decode cX12_days 24 = .ok (.iconst 0, 1) := by decide +kernel
theorem dX12_days_25 : decode cX12_days 25 = .ok (.istore_n 2, 1) := by decide +kernel
theorem dX12_days_26 : decode cX12_days 26 = .ok (.iconst 0, 1) := by decide +kernel
theorem dX12_days_27 : decode cX12_days 27 = .ok (.istore_n 3, 1) := by decide +kernel
theorem dX12_days_28 : decode cX12_days 28 = .ok (.iload_n 3, 1) := by decide +kernel
theorem dX12_days_29 : decode cX12_days 29 = .ok (.iload_n 1, 1) := by decide +kernel
theorem dX12_days_30 : decode cX12_days 30 = .ok (.if_icmp .ge 16, 3) := by decide +kernel
theorem dX12_days_33 : decode cX12_days 33 = .ok (.iload_n 2, 1) := by decide +kernel
theorem dX12_days_34 : decode cX12_days 34 = .ok (.aload_n 0, 1) := by decide +kernel
theorem dX12_days_35 : decode cX12_days 35 = .ok (.invokevirtual 297, 3) := by decide +kernel
theorem dX12_days_38 : decode cX12_days 38 = .ok (.iadd, 1) := by decide +kernel
theorem dX12_days_39 : decode cX12_days 39 = .ok (.istore_n 2, 1) := by decide +kernel
theorem dX12_days_40 : decode cX12_days 40 = .ok (.iinc 3 1, 3) := by decide +kernel
theorem dX12_days_43 : decode cX12_days 43 = .ok (.goto (-15), 3) := by decide +kernel
theorem dX12_days_46 : decode cX12_days 46 = .ok (.aload_n 0, 1) := by decide +kernel
theorem dX12_days_47 : decode cX12_days 47 = .ok (.invokevirtual 285, 3) := by decide +kernel
theorem dX12_days_50 : decode cX12_days 50 = .ok (.iload_n 2, 1) := by decide +kernel
theorem dX12_days_51 : decode cX12_days 51 = .ok (.ireturn, 1) := by decide +kernel
theorem dX12_undo_0 : decode cX12_undo 0 = .ok (.aload_n 0, 1) := by decide +kernel
theorem dX12_undo_1 : decode cX12_undo 1 = .ok (.iconst 0, 1) := by decide +kernel
theorem dX12_undo_2 : decode cX12_undo 2 = .ok (.putfield 1, 3) := by decide +kernel
theorem dX12_undo_5 : decode cX12_undo 5 = .ok (.iload_n 1, 1) := by decide +kernel
theorem dX12_undo_6 : decode cX12_undo 6 = .ok (.i2l, 1) := by decide +kernel
theorem dX12_undo_7 : decode cX12_undo 7 = .ok (.lconst 1, 1) := by decide +kernel
theorem dX12_undo_8 : decode cX12_undo 8 = .ok (.ldc2_w 300, 3) := by decide +kernel
theorem dX12_undo_11 : decode cX12_undo 11 = .ok (.invokestatic 142, 3) := by decide +kernel
theorem dX12_undo_14 : decode cX12_undo 14 = .ok (.ifCond .eq 14, 3) := by decide +kernel
theorem dX12_undo_17 : decode cX12_undo 17 = .ok (.iload_n 1, 1) := by decide +kernel
theorem dX12_undo_18 : decode cX12_undo 18 = .ok (.aload_n 0, 1) := by decide +kernel
theorem dX12_undo_19 : decode cX12_undo 19 = .ok (.getfield 13, 3) := by decide +kernel
theorem dX12_undo_22 : decode cX12_undo 22 = .ok (.bipush 49, 2) := by decide +kernel
theorem dX12_undo_24 : decode cX12_undo 24 = .ok (.iaload, 1) := by decide +kernel
theorem dX12_undo_25 : decode cX12_undo 25 = .ok (.if_icmp .le 6, 3) := by decide +kernel
theorem dX12_undo_28 : decode cX12_undo 28 = .ok (.bipush (-3), 2) := by decide +kernel
theorem dX12_undo_30 : decode cX12_undo 30 = .ok (.ireturn, 1) := by decide +kernel
theorem dX12_undo_31 : decode cX12_undo 31 = .ok (.aload_n 0, 1) := by decide +kernel
theorem dX12_undo_32 : decode cX12_undo 32 = .ok (.getfield 13, 3) := by decide +kernel
theorem dX12_undo_35 : decode cX12_undo 35 = .ok (.bipush 49, 2) := by decide +kernel
theorem dX12_undo_37 : decode cX12_undo 37 = .ok (.dup2, 1) := by decide +kernel
theorem dX12_undo_38 : decode cX12_undo 38 = .ok (.iaload, 1) := by decide +kernel
theorem dX12_undo_39 : decode cX12_undo 39 = .ok (.iload_n 1, 1) := by decide +kernel
theorem dX12_undo_40 : decode cX12_undo 40 = .ok (.isub, 1) := by decide +kernel
theorem dX12_undo_41 : decode cX12_undo 41 = .ok (.iastore, 1) := by decide +kernel
theorem dX12_undo_42 : decode cX12_undo 42 = .ok (.iconst 0, 1) := by decide +kernel
theorem dX12_undo_43 : decode cX12_undo 43 = .ok (.istore_n 2, 1) := by decide +kernel
theorem dX12_undo_44 : decode cX12_undo 44 = .ok (.iload_n 2, 1) := by decide +kernel
theorem dX12_undo_45 : decode cX12_undo 45 = .ok (.bipush 23, 2) := by decide +kernel
theorem dX12_undo_47 : decode cX12_undo 47 = .ok (.if_icmp .ge 38, 3) := by decide +kernel
theorem dX12_undo_50 : decode cX12_undo 50 = .ok (.aload_n 0, 1) := by decide +kernel
theorem dX12_undo_51 : decode cX12_undo 51 = .ok (.getfield 13, 3) := by decide +kernel
theorem dX12_undo_54 : decode cX12_undo 54 = .ok (.bipush 26, 2) := by decide +kernel
theorem dX12_undo_56 : decode cX12_undo 56 = .ok (.iload_n 2, 1) := by decide +kernel
theorem dX12_undo_57 : decode cX12_undo 57 = .ok (.iadd, 1) := by decide +kernel
theorem dX12_undo_58 : decode cX12_undo 58 = .ok (.aload_n 0, 1) := by decide +kernel
theorem dX12_undo_59 : decode cX12_undo 59 = .ok (.getfield 13, 3) := by decide +kernel
theorem dX12_undo_62 : decode cX12_undo 62 = .ok (.bipush 50, 2) := by decide +kernel
theorem dX12_undo_64 : decode cX12_undo 64 = .ok (.bipush 23, 2) := by decide +kernel
theorem dX12_undo_66 : decode cX12_undo 66 = .ok (.aload_n 0, 1) := by decide +kernel
theorem dX12_undo_67 : decode cX12_undo 67 = .ok (.getfield 13, 3) := by decide +kernel
theorem dX12_undo_70 : decode cX12_undo 70 = .ok (.bipush 49, 2) := by decide +kernel
theorem dX12_undo_72 : decode cX12_undo 72 = .ok (.iaload, 1) := by decide +kernel
theorem dX12_undo_73 : decode cX12_undo 73 = .ok (.imul, 1) := by decide +kernel
theorem dX12_undo_74 : decode cX12_undo 74 = .ok (.iadd, 1) := by decide +kernel
theorem dX12_undo_75 : decode cX12_undo 75 = .ok (.iload_n 2, 1) := by decide +kernel
theorem dX12_undo_76 : decode cX12_undo 76 = .ok (.iadd, 1) := by decide +kernel
theorem dX12_undo_77 : decode cX12_undo 77 = .ok (.iaload, 1) := by decide +kernel
theorem dX12_undo_78 : decode cX12_undo 78 = .ok (.iastore, 1) := by decide +kernel
theorem dX12_undo_79 : decode cX12_undo 79 = .ok (.iinc 2 1, 3) := by decide +kernel
theorem dX12_undo_82 : decode cX12_undo 82 = .ok (.goto (-38), 3) := by decide +kernel
theorem dX12_undo_85 : decode cX12_undo 85 = .ok (.aload_n 0, 1) := by decide +kernel
theorem dX12_undo_86 : decode cX12_undo 86 = .ok (.getfield 13, 3) := by decide +kernel
theorem dX12_undo_89 : decode cX12_undo 89 = .ok (.bipush 49, 2) := by decide +kernel
theorem dX12_undo_91 : decode cX12_undo 91 = .ok (.iaload, 1) := by decide +kernel
theorem dX12_undo_92 : decode cX12_undo 92 = .ok (.ireturn, 1) := by decide +kernel
theorem dX12_whyNot_0 : decode cX12_whyNot 0 = .ok (.lload_n 1, 1) := by decide +kernel
theorem dX12_whyNot_1 : decode cX12_whyNot 1 = .ok (.ldc2_w 302, 3) := by decide +kernel
theorem dX12_whyNot_4 : decode cX12_whyNot 4 = .ok (.lcmp, 1) := by decide +kernel
theorem dX12_whyNot_5 : decode cX12_whyNot 5 = .ok (.ifCond .ne 5, 3) := by decide +kernel
theorem dX12_whyNot_8 : decode cX12_whyNot 8 = .ok (.iconst 0, 1) := by decide +kernel
theorem dX12_whyNot_9 : decode cX12_whyNot 9 = .ok (.ireturn, 1) := by decide +kernel
theorem dX12_whyNot_10 : decode cX12_whyNot 10 = .ok (.lload_n 1, 1) := by decide +kernel
theorem dX12_whyNot_11 : decode cX12_whyNot 11 = .ok (.lconst 0, 1) := by decide +kernel
theorem dX12_whyNot_12 : decode cX12_whyNot 12 = .ok (.ldc2_w 291, 3) := by decide +kernel
theorem dX12_whyNot_15 : decode cX12_whyNot 15 = .ok (.invokestatic 142, 3) := by decide +kernel
theorem dX12_whyNot_18 : decode cX12_whyNot 18 = .ok (.ifCond .eq 9, 3) := by decide +kernel
theorem dX12_whyNot_21 : decode cX12_whyNot 21 = .ok (.aload_n 0, 1) := by decide +kernel
theorem dX12_whyNot_22 : decode cX12_whyNot 22 = .ok (.lload_n 1, 1) := by decide +kernel
theorem dX12_whyNot_23 : decode cX12_whyNot 23 = .ok (.invokevirtual 275, 3) := by decide +kernel
theorem dX12_whyNot_26 : decode cX12_whyNot 26 = .ok (.ireturn, 1) := by decide +kernel
theorem dX12_whyNot_27 : decode cX12_whyNot 27 = .ok (.lload_n 1, 1) := by decide +kernel
theorem dX12_whyNot_28 : decode cX12_whyNot 28 = .ok (.ldc2_w 304, 3) := by decide +kernel
theorem dX12_whyNot_31 : decode cX12_whyNot 31 = .ok (.ldc2_w 306, 3) := by decide +kernel
theorem dX12_whyNot_34 : decode cX12_whyNot 34 = .ok (.invokestatic 142, 3) := by decide +kernel
theorem dX12_whyNot_37 : decode cX12_whyNot 37 = .ok (.ifCond .eq 13, 3) := by decide +kernel
theorem dX12_whyNot_40 : decode cX12_whyNot 40 = .ok (.aload_n 0, 1) := by decide +kernel
theorem dX12_whyNot_41 : decode cX12_whyNot 41 = .ok (.lload_n 1, 1) := by decide +kernel
theorem dX12_whyNot_42 : decode cX12_whyNot 42 = .ok (.ldc2_w 304, 3) := by decide +kernel
theorem dX12_whyNot_45 : decode cX12_whyNot 45 = .ok (.lsub, 1) := by decide +kernel
theorem dX12_whyNot_46 : decode cX12_whyNot 46 = .ok (.invokevirtual 288, 3) := by decide +kernel
theorem dX12_whyNot_49 : decode cX12_whyNot 49 = .ok (.ireturn, 1) := by decide +kernel
theorem dX12_whyNot_50 : decode cX12_whyNot 50 = .ok (.lload_n 1, 1) := by decide +kernel
theorem dX12_whyNot_51 : decode cX12_whyNot 51 = .ok (.ldc2_w 308, 3) := by decide +kernel
theorem dX12_whyNot_54 : decode cX12_whyNot 54 = .ok (.ldc2_w 310, 3) := by decide +kernel
theorem dX12_whyNot_57 : decode cX12_whyNot 57 = .ok (.invokestatic 142, 3) := by decide +kernel
theorem dX12_whyNot_60 : decode cX12_whyNot 60 = .ok (.ifCond .eq 13, 3) := by decide +kernel
theorem dX12_whyNot_63 : decode cX12_whyNot 63 = .ok (.aload_n 0, 1) := by decide +kernel
theorem dX12_whyNot_64 : decode cX12_whyNot 64 = .ok (.lload_n 1, 1) := by decide +kernel
theorem dX12_whyNot_65 : decode cX12_whyNot 65 = .ok (.ldc2_w 308, 3) := by decide +kernel
theorem dX12_whyNot_68 : decode cX12_whyNot 68 = .ok (.lsub, 1) := by decide +kernel
theorem dX12_whyNot_69 : decode cX12_whyNot 69 = .ok (.invokevirtual 288, 3) := by decide +kernel
theorem dX12_whyNot_72 : decode cX12_whyNot 72 = .ok (.ireturn, 1) := by decide +kernel
theorem dX12_whyNot_73 : decode cX12_whyNot 73 = .ok (.lload_n 1, 1) := by decide +kernel
theorem dX12_whyNot_74 : decode cX12_whyNot 74 = .ok (.ldc2_w 312, 3) := by decide +kernel
theorem dX12_whyNot_77 : decode cX12_whyNot 77 = .ok (.ldc2_w 314, 3) := by decide +kernel
theorem dX12_whyNot_80 : decode cX12_whyNot 80 = .ok (.invokestatic 142, 3) := by decide +kernel
theorem dX12_whyNot_83 : decode cX12_whyNot 83 = .ok (.ifCond .eq 24, 3) := by decide +kernel
theorem dX12_whyNot_86 : decode cX12_whyNot 86 = .ok (.aload_n 0, 1) := by decide +kernel
theorem dX12_whyNot_87 : decode cX12_whyNot 87 = .ok (.lload_n 1, 1) := by decide +kernel
theorem dX12_whyNot_88 : decode cX12_whyNot 88 = .ok (.ldc2_w 312, 3) := by decide +kernel
theorem dX12_whyNot_91 : decode cX12_whyNot 91 = .ok (.lsub, 1) := by decide +kernel
theorem dX12_whyNot_92 : decode cX12_whyNot 92 = .ok (.ldc2_w 304, 3) := by decide +kernel
theorem dX12_whyNot_95 : decode cX12_whyNot 95 = .ok (.ldiv, 1) := by decide +kernel
theorem dX12_whyNot_96 : decode cX12_whyNot 96 = .ok (.lload_n 1, 1) := by decide +kernel
theorem dX12_whyNot_97 : decode cX12_whyNot 97 = .ok (.ldc2_w 304, 3) := by decide +kernel
theorem dX12_whyNot_100 : decode cX12_whyNot 100 = .ok (.lrem, 1) := by decide +kernel
theorem dX12_whyNot_101 : decode cX12_whyNot 101 = .ok (.invokevirtual 293, 3) := by decide +kernel
theorem dX12_whyNot_104 : decode cX12_whyNot 104 = .ok (.goto 4, 3) := by decide +kernel
theorem dX12_whyNot_107 : decode cX12_whyNot 107 = .ok (.iconst 1, 1) := by decide +kernel
theorem dX12_whyNot_108 : decode cX12_whyNot 108 = .ok (.ireturn, 1) := by decide +kernel
theorem dX12_does_0 : decode cX12_does 0 = .ok (.iload_n 1, 1) := by decide +kernel
theorem dX12_does_1 : decode cX12_does 1 = .ok (.iconst (-1), 1) := by decide +kernel
theorem dX12_does_2 : decode cX12_does 2 = .ok (.if_icmp .ne 11, 3) := by decide +kernel
theorem dX12_does_5 : decode cX12_does 5 = .ok (.aload_n 0, 1) := by decide +kernel
theorem dX12_does_6 : decode cX12_does 6 = .ok (.invokevirtual 297, 3) := by decide +kernel
theorem dX12_does_9 : decode cX12_does 9 = .ok (.pop, 1) := by decide +kernel
theorem dX12_does_10 : decode cX12_does 10 = .ok (.goto 86, 3) := by decide +kernel
theorem dX12_does_13 : decode cX12_does 13 = .ok (.iload_n 1, 1) := by decide +kernel
theorem dX12_does_14 : decode cX12_does 14 = .ok (.bipush 100, 2) := by decide +kernel
theorem dX12_does_16 : decode cX12_does 16 = .ok (.if_icmp .ge 12, 3) := by decide +kernel
theorem dX12_does_19 : decode cX12_does 19 = .ok (.aload_n 0, 1) := by decide +kernel
theorem dX12_does_20 : decode cX12_does 20 = .ok (.iload_n 1, 1) := by decide +kernel
theorem dX12_does_21 : decode cX12_does 21 = .ok (.invokevirtual 279, 3) := by decide +kernel
theorem dX12_does_24 : decode cX12_does 24 = .ok (.pop, 1) := by decide +kernel
theorem dX12_does_25 : decode cX12_does 25 = .ok (.goto 71, 3) := by decide +kernel
theorem dX12_does_28 : decode cX12_does 28 = .ok (.iload_n 1, 1) := by decide +kernel
theorem dX12_does_29 : decode cX12_does 29 = .ok (.sipush 200, 3) := by decide +kernel
theorem dX12_does_32 : decode cX12_does 32 = .ok (.if_icmp .ge 17, 3) := by decide +kernel
theorem dX12_does_35 : decode cX12_does 35 = .ok (.aload_n 0, 1) := by decide +kernel
theorem dX12_does_36 : decode cX12_does 36 = .ok (.getfield 13, 3) := by decide +kernel
theorem dX12_does_39 : decode cX12_does 39 = .ok (.bipush 30, 2) := by decide +kernel
theorem dX12_does_41 : decode cX12_does 41 = .ok (.dup2, 1) := by decide +kernel
theorem dX12_does_42 : decode cX12_does 42 = .ok (.iaload, 1) := by decide +kernel
theorem dX12_does_43 : decode cX12_does 43 = .ok (.iconst 1, 1) := by decide +kernel
theorem dX12_does_44 : decode cX12_does 44 = .ok (.iadd, 1) := by decide +kernel
theorem dX12_does_45 : decode cX12_does 45 = .ok (.iastore, 1) := by decide +kernel
theorem dX12_does_46 : decode cX12_does 46 = .ok (.goto 50, 3) := by decide +kernel
theorem dX12_does_49 : decode cX12_does 49 = .ok (.iload_n 1, 1) := by decide +kernel
theorem dX12_does_50 : decode cX12_does 50 = .ok (.sipush 1000, 3) := by decide +kernel
theorem dX12_does_53 : decode cX12_does 53 = .ok (.if_icmp .ge 23, 3) := by decide +kernel
theorem dX12_does_56 : decode cX12_does 56 = .ok (.aload_n 0, 1) := by decide +kernel
theorem dX12_does_57 : decode cX12_does 57 = .ok (.getfield 13, 3) := by decide +kernel
theorem dX12_does_60 : decode cX12_does 60 = .ok (.bipush 28, 2) := by decide +kernel
theorem dX12_does_62 : decode cX12_does 62 = .ok (.dup2, 1) := by decide +kernel
theorem dX12_does_63 : decode cX12_does 63 = .ok (.iaload, 1) := by decide +kernel
theorem dX12_does_64 : decode cX12_does 64 = .ok (.iconst 1, 1) := by decide +kernel
theorem dX12_does_65 : decode cX12_does 65 = .ok (.iload_n 1, 1) := by decide +kernel
theorem dX12_does_66 : decode cX12_does 66 = .ok (.sipush 200, 3) := by decide +kernel
theorem dX12_does_69 : decode cX12_does 69 = .ok (.isub, 1) := by decide +kernel
theorem dX12_does_70 : decode cX12_does 70 = .ok (.ishl, 1) := by decide +kernel
theorem dX12_does_71 : decode cX12_does 71 = .ok (.ixor, 1) := by decide +kernel
theorem dX12_does_72 : decode cX12_does 72 = .ok (.iastore, 1) := by decide +kernel
theorem dX12_does_73 : decode cX12_does 73 = .ok (.goto 23, 3) := by decide +kernel
theorem dX12_does_76 : decode cX12_does 76 = .ok (.aload_n 0, 1) := by decide +kernel
theorem dX12_does_77 : decode cX12_does 77 = .ok (.getfield 13, 3) := by decide +kernel
theorem dX12_does_80 : decode cX12_does 80 = .ok (.bipush 33, 2) := by decide +kernel
theorem dX12_does_82 : decode cX12_does 82 = .ok (.iload_n 1, 1) := by decide +kernel
theorem dX12_does_83 : decode cX12_does 83 = .ok (.sipush 1000, 3) := by decide +kernel
theorem dX12_does_86 : decode cX12_does 86 = .ok (.isub, 1) := by decide +kernel
theorem dX12_does_87 : decode cX12_does 87 = .ok (.bipush 100, 2) := by decide +kernel
theorem dX12_does_89 : decode cX12_does 89 = .ok (.idiv, 1) := by decide +kernel
theorem dX12_does_90 : decode cX12_does 90 = .ok (.iadd, 1) := by decide +kernel
theorem dX12_does_91 : decode cX12_does 91 = .ok (.iload_n 1, 1) := by decide +kernel
theorem dX12_does_92 : decode cX12_does 92 = .ok (.bipush 100, 2) := by decide +kernel
theorem dX12_does_94 : decode cX12_does 94 = .ok (.irem, 1) := by decide +kernel
theorem dX12_does_95 : decode cX12_does 95 = .ok (.iastore, 1) := by decide +kernel
theorem dX12_does_96 : decode cX12_does 96 = .ok (.return_, 1) := by decide +kernel
theorem dX12_tells_0 : decode cX12_tells 0 = .ok (.aload_n 0, 1) := by decide +kernel
theorem dX12_tells_1 : decode cX12_tells 1 = .ok (.iconst 0, 1) := by decide +kernel
theorem dX12_tells_2 : decode cX12_tells 2 = .ok (.putfield 316, 3) := by decide +kernel
theorem dX12_tells_5 : decode cX12_tells 5 = .ok (.iconst 0, 1) := by decide +kernel
theorem dX12_tells_6 : decode cX12_tells 6 = .ok (.istore_n 2, 1) := by decide +kernel
theorem dX12_tells_7 : decode cX12_tells 7 = .ok (.iload_n 2, 1) := by decide +kernel
theorem dX12_tells_8 : decode cX12_tells 8 = .ok (.aload_n 0, 1) := by decide +kernel
theorem dX12_tells_9 : decode cX12_tells 9 = .ok (.getfield 70, 3) := by decide +kernel
theorem dX12_tells_12 : decode cX12_tells 12 = .ok (.iload_n 1, 1) := by decide +kernel
theorem dX12_tells_13 : decode cX12_tells 13 = .ok (.iaload, 1) := by decide +kernel
theorem dX12_tells_14 : decode cX12_tells 14 = .ok (.if_icmp .ge 53, 3) := by decide +kernel
theorem dX12_tells_17 : decode cX12_tells 17 = .ok (.aload_n 0, 1) := by decide +kernel
theorem dX12_tells_18 : decode cX12_tells 18 = .ok (.aload_n 0, 1) := by decide +kernel
theorem dX12_tells_19 : decode cX12_tells 19 = .ok (.aload_n 0, 1) := by decide +kernel
theorem dX12_tells_20 : decode cX12_tells 20 = .ok (.getfield 73, 3) := by decide +kernel
theorem dX12_tells_23 : decode cX12_tells 23 = .ok (.bipush 40, 2) := by decide +kernel
theorem dX12_tells_25 : decode cX12_tells 25 = .ok (.iload_n 1, 1) := by decide +kernel
theorem dX12_tells_26 : decode cX12_tells 26 = .ok (.imul, 1) := by decide +kernel
theorem dX12_tells_27 : decode cX12_tells 27 = .ok (.iload_n 2, 1) := by decide +kernel
theorem dX12_tells_28 : decode cX12_tells 28 = .ok (.iadd, 1) := by decide +kernel
theorem dX12_tells_29 : decode cX12_tells 29 = .ok (.laload, 1) := by decide +kernel
theorem dX12_tells_30 : decode cX12_tells 30 = .ok (.invokevirtual 319, 3) := by decide +kernel
theorem dX12_tells_33 : decode cX12_tells 33 = .ok (.putfield 316, 3) := by decide +kernel
theorem dX12_tells_36 : decode cX12_tells 36 = .ok (.aload_n 0, 1) := by decide +kernel
theorem dX12_tells_37 : decode cX12_tells 37 = .ok (.getfield 316, 3) := by decide +kernel
theorem dX12_tells_40 : decode cX12_tells 40 = .ok (.ifCond .eq 5, 3) := by decide +kernel
theorem dX12_tells_43 : decode cX12_tells 43 = .ok (.iload_n 2, 1) := by decide +kernel
theorem dX12_tells_44 : decode cX12_tells 44 = .ok (.ireturn, 1) := by decide +kernel
theorem dX12_tells_45 : decode cX12_tells 45 = .ok (.aload_n 0, 1) := by decide +kernel
theorem dX12_tells_46 : decode cX12_tells 46 = .ok (.aload_n 0, 1) := by decide +kernel
theorem dX12_tells_47 : decode cX12_tells 47 = .ok (.getfield 73, 3) := by decide +kernel
theorem dX12_tells_50 : decode cX12_tells 50 = .ok (.bipush 40, 2) := by decide +kernel
theorem dX12_tells_52 : decode cX12_tells 52 = .ok (.iload_n 1, 1) := by decide +kernel
theorem dX12_tells_53 : decode cX12_tells 53 = .ok (.imul, 1) := by decide +kernel
theorem dX12_tells_54 : decode cX12_tells 54 = .ok (.iload_n 2, 1) := by decide +kernel
theorem dX12_tells_55 : decode cX12_tells 55 = .ok (.iadd, 1) := by decide +kernel
theorem dX12_tells_56 : decode cX12_tells 56 = .ok (.laload, 1) := by decide +kernel
theorem dX12_tells_57 : decode cX12_tells 57 = .ok (.l2i, 1) := by decide +kernel
theorem dX12_tells_58 : decode cX12_tells 58 = .ok (.invokevirtual 322, 3) := by decide +kernel
theorem dX12_tells_61 : decode cX12_tells 61 = .ok (.iinc 2 1, 3) := by decide +kernel
theorem dX12_tells_64 : decode cX12_tells 64 = .ok (.goto (-57), 3) := by decide +kernel
theorem dX12_tells_67 : decode cX12_tells 67 = .ok (.aload_n 0, 1) := by decide +kernel
theorem dX12_tells_68 : decode cX12_tells 68 = .ok (.getfield 70, 3) := by decide +kernel
theorem dX12_tells_71 : decode cX12_tells 71 = .ok (.iload_n 1, 1) := by decide +kernel
theorem dX12_tells_72 : decode cX12_tells 72 = .ok (.iaload, 1) := by decide +kernel
theorem dX12_tells_73 : decode cX12_tells 73 = .ok (.ireturn, 1) := by decide +kernel
theorem dX12_noTray_0 : decode cX12_noTray 0 = .ok (.iload_n 1, 1) := by decide +kernel
theorem dX12_noTray_1 : decode cX12_noTray 1 = .ok (.i2l, 1) := by decide +kernel
theorem dX12_noTray_2 : decode cX12_noTray 2 = .ok (.lconst 0, 1) := by decide +kernel
theorem dX12_noTray_3 : decode cX12_noTray 3 = .ok (.ldc2_w 325, 3) := by decide +kernel
theorem dX12_noTray_6 : decode cX12_noTray 6 = .ok (.invokestatic 142, 3) := by decide +kernel
theorem dX12_noTray_9 : decode cX12_noTray 9 = .ok (.ifCond .ne 8, 3) := by decide +kernel
theorem dX12_noTray_12 : decode cX12_noTray 12 = .ok (.bipush (-2), 2) := by decide +kernel
theorem dX12_noTray_14 : decode cX12_noTray 14 = .ok (.goto 19, 3) := by decide +kernel
theorem dX12_noTray_17 : decode cX12_noTray 17 = .ok (.aload_n 0, 1) := by decide +kernel
theorem dX12_noTray_18 : decode cX12_noTray 18 = .ok (.getfield 67, 3) := by decide +kernel
theorem dX12_noTray_21 : decode cX12_noTray 21 = .ok (.iload_n 1, 1) := by decide +kernel
theorem dX12_noTray_22 : decode cX12_noTray 22 = .ok (.iaload, 1) := by decide +kernel
theorem dX12_noTray_23 : decode cX12_noTray 23 = .ok (.iconst (-1), 1) := by decide +kernel
theorem dX12_noTray_24 : decode cX12_noTray 24 = .ok (.if_icmp .ne 8, 3) := by decide +kernel
theorem dX12_noTray_27 : decode cX12_noTray 27 = .ok (.bipush (-6), 2) := by decide +kernel
theorem dX12_noTray_29 : decode cX12_noTray 29 = .ok (.goto 4, 3) := by decide +kernel
theorem dX12_noTray_32 : decode cX12_noTray 32 = .ok (.iconst 0, 1) := by decide +kernel
theorem dX12_noTray_33 : decode cX12_noTray 33 = .ok (.ireturn, 1) := by decide +kernel
theorem dX12_judge_0 : decode cX12_judge 0 = .ok (.aload_n 0, 1) := by decide +kernel
theorem dX12_judge_1 : decode cX12_judge 1 = .ok (.iconst 0, 1) := by decide +kernel
theorem dX12_judge_2 : decode cX12_judge 2 = .ok (.putfield 1, 3) := by decide +kernel
theorem dX12_judge_5 : decode cX12_judge 5 = .ok (.iload_n 2, 1) := by decide +kernel
theorem dX12_judge_6 : decode cX12_judge 6 = .ok (.i2l, 1) := by decide +kernel
theorem dX12_judge_7 : decode cX12_judge 7 = .ok (.lconst 0, 1) := by decide +kernel
theorem dX12_judge_8 : decode cX12_judge 8 = .ok (.ldc2_w 325, 3) := by decide +kernel
theorem dX12_judge_11 : decode cX12_judge 11 = .ok (.invokestatic 142, 3) := by decide +kernel
theorem dX12_judge_14 : decode cX12_judge 14 = .ok (.ifCond .ne 6, 3) := by decide +kernel
theorem dX12_judge_17 : decode cX12_judge 17 = .ok (.bipush (-2), 2) := by decide +kernel
theorem dX12_judge_19 : decode cX12_judge 19 = .ok (.ireturn, 1) := by decide +kernel
theorem dX12_judge_20 : decode cX12_judge 20 = .ok (.aload_n 0, 1) := by decide +kernel
theorem dX12_judge_21 : decode cX12_judge 21 = .ok (.iload_n 1, 1) := by decide +kernel
theorem dX12_judge_22 : decode cX12_judge 22 = .ok (.invokevirtual 327, 3) := by decide +kernel
theorem dX12_judge_25 : decode cX12_judge 25 = .ok (.istore_n 3, 1) := by decide +kernel
theorem dX12_judge_26 : decode cX12_judge 26 = .ok (.iload_n 3, 1) := by decide +kernel
theorem dX12_judge_27 : decode cX12_judge 27 = .ok (.ifCond .eq 5, 3) := by decide +kernel
theorem dX12_judge_30 : decode cX12_judge 30 = .ok (.iload_n 3, 1) := by decide +kernel
theorem dX12_judge_31 : decode cX12_judge 31 = .ok (.ireturn, 1) := by decide +kernel
theorem dX12_judge_32 : decode cX12_judge 32 = .ok (.aload_n 0, 1) := by decide +kernel
theorem dX12_judge_33 : decode cX12_judge 33 = .ok (.invokevirtual 282, 3) := by decide +kernel
theorem dX12_judge_36 : decode cX12_judge 36 = .ok (.aload_n 0, 1) := by decide +kernel
theorem dX12_judge_37 : decode cX12_judge 37 = .ok (.iload_n 1, 1) := by decide +kernel
theorem dX12_judge_38 : decode cX12_judge 38 = .ok (.invokevirtual 330, 3) := by decide +kernel
theorem dX12_judge_41 : decode cX12_judge 41 = .ok (.istore 4, 2) := by decide +kernel
theorem dX12_judge_43 : decode cX12_judge 43 = .ok (.aload_n 0, 1) := by decide +kernel
theorem dX12_judge_44 : decode cX12_judge 44 = .ok (.getfield 13, 3) := by decide +kernel
theorem dX12_judge_47 : decode cX12_judge 47 = .ok (.bipush 27, 2) := by decide +kernel
theorem dX12_judge_49 : decode cX12_judge 49 = .ok (.iaload, 1) := by decide +kernel
theorem dX12_judge_50 : decode cX12_judge 50 = .ok (.istore 5, 2) := by decide +kernel
theorem dX12_judge_52 : decode cX12_judge 52 = .ok (.aload_n 0, 1) := by decide +kernel
theorem dX12_judge_53 : decode cX12_judge 53 = .ok (.getfield 13, 3) := by decide +kernel
theorem dX12_judge_56 : decode cX12_judge 56 = .ok (.bipush 29, 2) := by decide +kernel
theorem dX12_judge_58 : decode cX12_judge 58 = .ok (.iaload, 1) := by decide +kernel
theorem dX12_judge_59 : decode cX12_judge 59 = .ok (.istore 6, 2) := by decide +kernel
theorem dX12_judge_61 : decode cX12_judge 61 = .ok (.aload_n 0, 1) := by decide +kernel
theorem dX12_judge_62 : decode cX12_judge 62 = .ok (.invokevirtual 333, 3) := by decide +kernel
theorem dX12_judge_65 : decode cX12_judge 65 = .ok (.iload_n 2, 1) := by decide +kernel
theorem dX12_judge_66 : decode cX12_judge 66 = .ok (.ifCond .ne 19, 3) := by decide +kernel
theorem dX12_judge_69 : decode cX12_judge 69 = .ok (.aload_n 0, 1) := by decide +kernel
theorem dX12_judge_70 : decode cX12_judge 70 = .ok (.getfield 316, 3) := by decide +kernel
theorem dX12_judge_73 : decode cX12_judge 73 = .ok (.ifCond .ne 7, 3) := by decide +kernel
theorem dX12_judge_76 : decode cX12_judge 76 = .ok (.iconst (-1), 1) := by decide +kernel
theorem dX12_judge_77 : decode cX12_judge 77 = .ok (.goto 32, 3) := by decide +kernel
theorem dX12_judge_80 : decode cX12_judge 80 = .ok (.iload 4, 2) := by decide +kernel
theorem dX12_judge_82 : decode cX12_judge 82 = .ok (.goto 27, 3) := by decide +kernel
theorem dX12_judge_85 : decode cX12_judge 85 = .ok (.iload_n 2, 1) := by decide +kernel
theorem dX12_judge_86 : decode cX12_judge 86 = .ok (.iconst 1, 1) := by decide +kernel
theorem dX12_judge_87 : decode cX12_judge 87 = .ok (.if_icmp .ne 10, 3) := by decide +kernel
theorem dX12_judge_90 : decode cX12_judge 90 = .ok (.aload_n 0, 1) := by decide +kernel
theorem dX12_judge_91 : decode cX12_judge 91 = .ok (.getfield 316, 3) := by decide +kernel
theorem dX12_judge_94 : decode cX12_judge 94 = .ok (.goto 15, 3) := by decide +kernel
theorem dX12_judge_97 : decode cX12_judge 97 = .ok (.iload_n 2, 1) := by decide +kernel
theorem dX12_judge_98 : decode cX12_judge 98 = .ok (.iconst 2, 1) := by decide +kernel
theorem dX12_judge_99 : decode cX12_judge 99 = .ok (.if_icmp .ne 8, 3) := by decide +kernel
theorem dX12_judge_102 : decode cX12_judge 102 = .ok (.iload 5, 2) := by decide +kernel
theorem dX12_judge_104 : decode cX12_judge 104 = .ok (.goto 5, 3) := by decide +kernel
theorem dX12_judge_107 : decode cX12_judge 107 = .ok (.iload 6, 2) := by decide +kernel
theorem dX12_judge_109 : decode cX12_judge 109 = .ok (.ireturn, 1) := by decide +kernel
theorem dX12_perform_0 : decode cX12_perform 0 = .ok (.aload_n 0, 1) := by decide +kernel
theorem dX12_perform_1 : decode cX12_perform 1 = .ok (.iconst 0, 1) := by decide +kernel
theorem dX12_perform_2 : decode cX12_perform 2 = .ok (.putfield 1, 3) := by decide +kernel
theorem dX12_perform_5 : decode cX12_perform 5 = .ok (.aload_n 0, 1) := by decide +kernel
theorem dX12_perform_6 : decode cX12_perform 6 = .ok (.iload_n 1, 1) := by decide +kernel
theorem dX12_perform_7 : decode cX12_perform 7 = .ok (.invokevirtual 327, 3) := by decide +kernel
theorem dX12_perform_10 : decode cX12_perform 10 = .ok (.istore_n 2, 1) := by decide +kernel
theorem dX12_perform_11 : decode cX12_perform 11 = .ok (.iload_n 2, 1) := by decide +kernel
theorem dX12_perform_12 : decode cX12_perform 12 = .ok (.ifCond .eq 5, 3) := by decide +kernel
theorem dX12_perform_15 : decode cX12_perform 15 = .ok (.iload_n 2, 1) := by decide +kernel
theorem dX12_perform_16 : decode cX12_perform 16 = .ok (.ireturn, 1) := by decide +kernel
theorem dX12_perform_17 : decode cX12_perform 17 = .ok (.aload_n 0, 1) := by decide +kernel
theorem dX12_perform_18 : decode cX12_perform 18 = .ok (.invokevirtual 282, 3) := by decide +kernel
theorem dX12_perform_21 : decode cX12_perform 21 = .ok (.aload_n 0, 1) := by decide +kernel
theorem dX12_perform_22 : decode cX12_perform 22 = .ok (.iload_n 1, 1) := by decide +kernel
theorem dX12_perform_23 : decode cX12_perform 23 = .ok (.invokevirtual 330, 3) := by decide +kernel
theorem dX12_perform_26 : decode cX12_perform 26 = .ok (.istore_n 3, 1) := by decide +kernel
theorem dX12_perform_27 : decode cX12_perform 27 = .ok (.iload_n 3, 1) := by decide +kernel
theorem dX12_perform_28 : decode cX12_perform 28 = .ok (.ifCond .le 7, 3) := by decide +kernel
theorem dX12_perform_31 : decode cX12_perform 31 = .ok (.aload_n 0, 1) := by decide +kernel
theorem dX12_perform_32 : decode cX12_perform 32 = .ok (.invokevirtual 285, 3) := by decide +kernel
theorem dX12_perform_35 : decode cX12_perform 35 = .ok (.iload_n 3, 1) := by decide +kernel
theorem dX12_perform_36 : decode cX12_perform 36 = .ok (.ireturn, 1) := by decide +kernel
theorem dX12_drawn_0 : decode cX12_drawn 0 = .ok (.aload_n 0, 1) := by decide +kernel
theorem dX12_drawn_1 : decode cX12_drawn 1 = .ok (.iconst 5, 1) := by decide +kernel
theorem dX12_drawn_2 : decode cX12_drawn 2 = .ok (.invokevirtual 272, 3) := by decide +kernel
theorem dX12_drawn_5 : decode cX12_drawn 5 = .ok (.istore_n 1, 1) := by decide +kernel
theorem dX12_drawn_6 : decode cX12_drawn 6 = .ok (.iload_n 1, 1) := by decide +kernel
theorem dX12_drawn_7 : decode cX12_drawn 7 = .ok (.iconst 2, 1) := by decide +kernel
theorem dX12_drawn_8 : decode cX12_drawn 8 = .ok (.if_icmp .ge 7, 3) := by decide +kernel
theorem dX12_drawn_11 : decode cX12_drawn 11 = .ok (.iconst (-1), 1) := by decide +kernel
theorem dX12_drawn_12 : decode cX12_drawn 12 = .ok (.goto 30, 3) := by decide +kernel
theorem dX12_drawn_15 : decode cX12_drawn 15 = .ok (.iload_n 1, 1) := by decide +kernel
theorem dX12_drawn_16 : decode cX12_drawn 16 = .ok (.iconst 2, 1) := by decide +kernel
theorem dX12_drawn_17 : decode cX12_drawn 17 = .ok (.if_icmp .ne 12, 3) := by decide +kernel
theorem dX12_drawn_20 : decode cX12_drawn 20 = .ok (.aload_n 0, 1) := by decide +kernel
theorem dX12_drawn_21 : decode cX12_drawn 21 = .ok (.bipush 6, 2) := by decide +kernel
theorem dX12_drawn_23 : decode cX12_drawn 23 = .ok (.invokevirtual 272, 3) := by decide +kernel
theorem dX12_drawn_26 : decode cX12_drawn 26 = .ok (.goto 16, 3) := by decide +kernel
theorem dX12_drawn_29 : decode cX12_drawn 29 = .ok (.bipush 100, 2) := by decide +kernel
theorem dX12_drawn_31 : decode cX12_drawn 31 = .ok (.iload_n 1, 1) := by decide +kernel
theorem dX12_drawn_32 : decode cX12_drawn 32 = .ok (.iconst 2, 1) := by decide +kernel
theorem dX12_drawn_33 : decode cX12_drawn 33 = .ok (.isub, 1) := by decide +kernel
theorem dX12_drawn_34 : decode cX12_drawn 34 = .ok (.imul, 1) := by decide +kernel
theorem dX12_drawn_35 : decode cX12_drawn 35 = .ok (.aload_n 0, 1) := by decide +kernel
theorem dX12_drawn_36 : decode cX12_drawn 36 = .ok (.bipush 8, 2) := by decide +kernel
theorem dX12_drawn_38 : decode cX12_drawn 38 = .ok (.invokevirtual 272, 3) := by decide +kernel
theorem dX12_drawn_41 : decode cX12_drawn 41 = .ok (.iadd, 1) := by decide +kernel
theorem dX12_drawn_42 : decode cX12_drawn 42 = .ok (.ireturn, 1) := by decide +kernel
theorem dX12_season_0 : decode cX12_season 0 = .ok (.aload_n 0, 1) := by decide +kernel
theorem dX12_season_1 : decode cX12_season 1 = .ok (.iconst 0, 1) := by decide +kernel
theorem dX12_season_2 : decode cX12_season 2 = .ok (.putfield 1, 3) := by decide +kernel
theorem dX12_season_5 : decode cX12_season 5 = .ok (.iload_n 2, 1) := by decide +kernel
theorem dX12_season_6 : decode cX12_season 6 = .ok (.i2l, 1) := by decide +kernel
theorem dX12_season_7 : decode cX12_season 7 = .ok (.lconst 1, 1) := by decide +kernel
theorem dX12_season_8 : decode cX12_season 8 = .ok (.ldc2_w 336, 3) := by decide +kernel
theorem dX12_season_11 : decode cX12_season 11 = .ok (.invokestatic 142, 3) := by decide +kernel
theorem dX12_season_14 : decode cX12_season 14 = .ok (.ifCond .ne 6, 3) := by decide +kernel
theorem dX12_season_17 : decode cX12_season 17 = .ok (.bipush (-3), 2) := by decide +kernel
theorem dX12_season_19 : decode cX12_season 19 = .ok (.ireturn, 1) := by decide +kernel
theorem dX12_season_20 : decode cX12_season 20 = .ok (.aload_n 0, 1) := by decide +kernel
theorem dX12_season_21 : decode cX12_season 21 = .ok (.invokevirtual 282, 3) := by decide +kernel
theorem dX12_season_24 : decode cX12_season 24 = .ok (.aload_n 0, 1) := by decide +kernel
theorem dX12_season_25 : decode cX12_season 25 = .ok (.getfield 13, 3) := by decide +kernel
theorem dX12_season_28 : decode cX12_season 28 = .ok (.bipush 32, 2) := by decide +kernel
theorem dX12_season_30 : decode cX12_season 30 = .ok (.iload_n 1, 1) := by decide +kernel
theorem dX12_season_31 : decode cX12_season 31 = .ok (.iastore, 1) := by decide +kernel
theorem dX12_season_32 : decode cX12_season 32 = .ok (.iconst 0, 1) := by decide +kernel
theorem dX12_season_33 : decode cX12_season 33 = .ok (.istore_n 3, 1) := by decide +kernel
theorem dX12_season_34 : decode cX12_season 34 = .ok (.iconst 0, 1) := by decide +kernel
theorem dX12_season_35 : decode cX12_season 35 = .ok (.istore 4, 2) := by decide +kernel
theorem dX12_season_37 : decode cX12_season 37 = .ok (.iload 4, 2) := by decide +kernel
theorem dX12_season_39 : decode cX12_season 39 = .ok (.iload_n 2, 1) := by decide +kernel
theorem dX12_season_40 : decode cX12_season 40 = .ok (.if_icmp .ge 37, 3) := by decide +kernel
theorem dX12_season_43 : decode cX12_season 43 = .ok (.aload_n 0, 1) := by decide +kernel
theorem dX12_season_44 : decode cX12_season 44 = .ok (.invokevirtual 338, 3) := by decide +kernel
theorem dX12_season_47 : decode cX12_season 47 = .ok (.istore 5, 2) := by decide +kernel
theorem dX12_season_49 : decode cX12_season 49 = .ok (.aload_n 0, 1) := by decide +kernel
theorem dX12_season_50 : decode cX12_season 50 = .ok (.iload 5, 2) := by decide +kernel
theorem dX12_season_52 : decode cX12_season 52 = .ok (.i2l, 1) := by decide +kernel
theorem dX12_season_53 : decode cX12_season 53 = .ok (.invokevirtual 319, 3) := by decide +kernel
theorem dX12_season_56 : decode cX12_season 56 = .ok (.ifCond .eq 6, 3) := by decide +kernel
theorem dX12_season_59 : decode cX12_season 59 = .ok (.goto 12, 3) := by decide +kernel
theorem dX12_season_62 : decode cX12_season 62 = .ok (.aload_n 0, 1) := by decide +kernel
theorem dX12_season_63 : decode cX12_season 63 = .ok (.iload 5, 2) := by decide +kernel
theorem dX12_season_65 : decode cX12_season 65 = .ok (.invokevirtual 322, 3) := by decide +kernel
theorem dX12_season_68 : decode cX12_season 68 = .ok (.iinc 3 1, 3) := by decide +kernel
theorem dX12_season_71 : decode cX12_season 71 = .ok (.iinc 4 1, 3) := by decide +kernel
theorem dX12_season_74 : decode cX12_season 74 = .ok (.goto (-37), 3) := by decide +kernel
theorem dX12_season_77 : decode cX12_season 77 = .ok (.iload_n 3, 1) := by decide +kernel
theorem dX12_season_78 : decode cX12_season 78 = .ok (.ifCond .le 10, 3) := by decide +kernel
theorem dX12_season_81 : decode cX12_season 81 = .ok (.aload_n 0, 1) := by decide +kernel
theorem dX12_season_82 : decode cX12_season 82 = .ok (.invokevirtual 285, 3) := by decide +kernel
theorem dX12_season_85 : decode cX12_season 85 = .ok (.goto 7, 3) := by decide +kernel
theorem dX12_season_88 : decode cX12_season 88 = .ok (.aload_n 0, 1) := by decide +kernel
theorem dX12_season_89 : decode cX12_season 89 = .ok (.invokevirtual 333, 3) := by decide +kernel
theorem dX12_season_92 : decode cX12_season 92 = .ok (.iload_n 3, 1) := by decide +kernel
theorem dX12_season_93 : decode cX12_season 93 = .ok (.ireturn, 1) := by decide +kernel
theorem dX12_boughtBy_0 : decode cX12_boughtBy 0 = .ok (.aload_n 0, 1) := by decide +kernel
theorem dX12_boughtBy_1 : decode cX12_boughtBy 1 = .ok (.getfield 39, 3) := by decide +kernel
theorem dX12_boughtBy_4 : decode cX12_boughtBy 4 = .ok (.bipush 6, 2) := by decide +kernel
theorem dX12_boughtBy_6 : decode cX12_boughtBy 6 = .ok (.iload_n 1, 1) := by decide +kernel
theorem dX12_boughtBy_7 : decode cX12_boughtBy 7 = .ok (.imul, 1) := by decide +kernel
theorem dX12_boughtBy_8 : decode cX12_boughtBy 8 = .ok (.iload_n 2, 1) := by decide +kernel
theorem dX12_boughtBy_9 : decode cX12_boughtBy 9 = .ok (.iadd, 1) := by decide +kernel
theorem dX12_boughtBy_10 : decode cX12_boughtBy 10 = .ok (.iaload, 1) := by decide +kernel
theorem dX12_boughtBy_11 : decode cX12_boughtBy 11 = .ok (.ireturn, 1) := by decide +kernel
theorem dX12_laysBuys_0 : decode cX12_laysBuys 0 = .ok (.iconst 0, 1) := by decide +kernel
theorem dX12_laysBuys_1 : decode cX12_laysBuys 1 = .ok (.istore_n 1, 1) := by decide +kernel
theorem dX12_laysBuys_2 : decode cX12_laysBuys 2 = .ok (.iload_n 1, 1) := by decide +kernel
theorem dX12_laysBuys_3 : decode cX12_laysBuys 3 = .ok (.aload_n 0, 1) := by decide +kernel
theorem dX12_laysBuys_4 : decode cX12_laysBuys 4 = .ok (.invokevirtual 204, 3) := by decide +kernel
theorem dX12_laysBuys_7 : decode cX12_laysBuys 7 = .ok (.if_icmp .gt 44, 3) := by decide +kernel
theorem dX12_laysBuys_10 : decode cX12_laysBuys 10 = .ok (.iconst 0, 1) := by decide +kernel
theorem dX12_laysBuys_11 : decode cX12_laysBuys 11 = .ok (.istore_n 2, 1) := by decide +kernel
theorem dX12_laysBuys_12 : decode cX12_laysBuys 12 = .ok (.iload_n 2, 1) := by decide +kernel
theorem dX12_laysBuys_13 : decode cX12_laysBuys 13 = .ok (.aload_n 0, 1) := by decide +kernel
theorem dX12_laysBuys_14 : decode cX12_laysBuys 14 = .ok (.getfield 13, 3) := by decide +kernel
theorem dX12_laysBuys_17 : decode cX12_laysBuys 17 = .ok (.iconst 1, 1) := by decide +kernel
theorem dX12_laysBuys_18 : decode cX12_laysBuys 18 = .ok (.iaload, 1) := by decide +kernel
theorem dX12_laysBuys_19 : decode cX12_laysBuys 19 = .ok (.if_icmp .ge 26, 3) := by decide +kernel
theorem dX12_laysBuys_22 : decode cX12_laysBuys 22 = .ok (.aload_n 0, 1) := by decide +kernel
theorem dX12_laysBuys_23 : decode cX12_laysBuys 23 = .ok (.getfield 39, 3) := by decide +kernel
theorem dX12_laysBuys_26 : decode cX12_laysBuys 26 = .ok (.bipush 6, 2) := by decide +kernel
theorem dX12_laysBuys_28 : decode cX12_laysBuys 28 = .ok (.iload_n 1, 1) := by decide +kernel
theorem dX12_laysBuys_29 : decode cX12_laysBuys 29 = .ok (.imul, 1) := by decide +kernel
theorem dX12_laysBuys_30 : decode cX12_laysBuys 30 = .ok (.iload_n 2, 1) := by decide +kernel
theorem dX12_laysBuys_31 : decode cX12_laysBuys 31 = .ok (.iadd, 1) := by decide +kernel
theorem dX12_laysBuys_32 : decode cX12_laysBuys 32 = .ok (.aload_n 0, 1) := by decide +kernel
theorem dX12_laysBuys_33 : decode cX12_laysBuys 33 = .ok (.iload_n 2, 1) := by decide +kernel
theorem dX12_laysBuys_34 : decode cX12_laysBuys 34 = .ok (.iload_n 1, 1) := by decide +kernel
theorem dX12_laysBuys_35 : decode cX12_laysBuys 35 = .ok (.invokevirtual 239, 3) := by decide +kernel
theorem dX12_laysBuys_38 : decode cX12_laysBuys 38 = .ok (.iastore, 1) := by decide +kernel
theorem dX12_laysBuys_39 : decode cX12_laysBuys 39 = .ok (.iinc 2 1, 3) := by decide +kernel
theorem dX12_laysBuys_42 : decode cX12_laysBuys 42 = .ok (.goto (-30), 3) := by decide +kernel
theorem dX12_laysBuys_45 : decode cX12_laysBuys 45 = .ok (.iinc 1 1, 3) := by decide +kernel
theorem dX12_laysBuys_48 : decode cX12_laysBuys 48 = .ok (.goto (-46), 3) := by decide +kernel
theorem dX12_laysBuys_51 : decode cX12_laysBuys 51 = .ok (.return_, 1) := by decide +kernel
theorem dX12_laysEnding_0 : decode cX12_laysEnding 0 = .ok (.aload_n 0, 1) := by decide +kernel
theorem dX12_laysEnding_1 : decode cX12_laysEnding 1 = .ok (.invokevirtual 204, 3) := by decide +kernel
theorem dX12_laysEnding_4 : decode cX12_laysEnding 4 = .ok (.istore_n 2, 1) := by decide +kernel
theorem dX12_laysEnding_5 : decode cX12_laysEnding 5 = .ok (.iload_n 2, 1) := by decide +kernel
theorem dX12_laysEnding_6 : decode cX12_laysEnding 6 = .ok (.ifCond .lt 118, 3) := by decide +kernel
theorem dX12_laysEnding_9 : decode cX12_laysEnding 9 = .ok (.aload_n 0, 1) := by decide +kernel
theorem dX12_laysEnding_10 : decode cX12_laysEnding 10 = .ok (.iload_n 2, 1) := by decide +kernel
theorem dX12_laysEnding_11 : decode cX12_laysEnding 11 = .ok (.invokevirtual 210, 3) := by decide +kernel
theorem dX12_laysEnding_14 : decode cX12_laysEnding 14 = .ok (.ifCond .eq 7, 3) := by decide +kernel
theorem dX12_laysEnding_17 : decode cX12_laysEnding 17 = .ok (.iconst 0, 1) := by decide +kernel
theorem dX12_laysEnding_18 : decode cX12_laysEnding 18 = .ok (.goto 6, 3) := by decide +kernel
theorem dX12_laysEnding_21 : decode cX12_laysEnding 21 = .ok (.ldc_w 341, 3) := by decide +kernel
theorem dX12_laysEnding_24 : decode cX12_laysEnding 24 = .ok (.istore_n 3, 1) := by decide +kernel
theorem dX12_laysEnding_25 : decode cX12_laysEnding 25 = .ok (.iconst 0, 1) := by decide +kernel
theorem dX12_laysEnding_26 : decode cX12_laysEnding 26 = .ok (.istore 4, 2) := by decide +kernel
theorem dX12_laysEnding_28 : decode cX12_laysEnding 28 = .ok (.iload 4, 2) := by decide +kernel
theorem dX12_laysEnding_30 : decode cX12_laysEnding 30 = .ok (.aload_n 0, 1) := by decide +kernel
theorem dX12_laysEnding_31 : decode cX12_laysEnding 31 = .ok (.getfield 13, 3) := by decide +kernel
theorem dX12_laysEnding_34 : decode cX12_laysEnding 34 = .ok (.iconst 1, 1) := by decide +kernel
theorem dX12_laysEnding_35 : decode cX12_laysEnding 35 = .ok (.iaload, 1) := by decide +kernel
theorem dX12_laysEnding_36 : decode cX12_laysEnding 36 = .ok (.if_icmp .ge 75, 3) := by decide +kernel
theorem dX12_laysEnding_39 : decode cX12_laysEnding 39 = .ok (.iload 4, 2) := by decide +kernel
theorem dX12_laysEnding_41 : decode cX12_laysEnding 41 = .ok (.iload_n 1, 1) := by decide +kernel
theorem dX12_laysEnding_42 : decode cX12_laysEnding 42 = .ok (.if_icmp .ne 7, 3) := by decide +kernel
theorem dX12_laysEnding_45 : decode cX12_laysEnding 45 = .ok (.iconst (-1), 1) := by decide +kernel
theorem dX12_laysEnding_46 : decode cX12_laysEnding 46 = .ok (.goto 10, 3) := by decide +kernel
theorem dX12_laysEnding_49 : decode cX12_laysEnding 49 = .ok (.aload_n 0, 1) := by decide +kernel
theorem dX12_laysEnding_50 : decode cX12_laysEnding 50 = .ok (.iload_n 2, 1) := by decide +kernel
theorem dX12_laysEnding_51 : decode cX12_laysEnding 51 = .ok (.iload 4, 2) := by decide +kernel
theorem dX12_laysEnding_53 : decode cX12_laysEnding 53 = .ok (.invokevirtual 342, 3) := by decide +kernel
theorem dX12_laysEnding_56 : decode cX12_laysEnding 56 = .ok (.istore 5, 2) := by decide +kernel
theorem dX12_laysEnding_58 : decode cX12_laysEnding 58 = .ok (.iload 5, 2) := by decide +kernel
theorem dX12_laysEnding_60 : decode cX12_laysEnding 60 = .ok (.iconst (-1), 1) := by decide +kernel
theorem dX12_laysEnding_61 : decode cX12_laysEnding 61 = .ok (.if_icmp .eq 44, 3) := by decide +kernel
theorem dX12_laysEnding_64 : decode cX12_laysEnding 64 = .ok (.iload_n 2, 1) := by decide +kernel
theorem dX12_laysEnding_65 : decode cX12_laysEnding 65 = .ok (.i2l, 1) := by decide +kernel
theorem dX12_laysEnding_66 : decode cX12_laysEnding 66 = .ok (.iload 5, 2) := by decide +kernel
theorem dX12_laysEnding_68 : decode cX12_laysEnding 68 = .ok (.invokestatic 228, 3) := by decide +kernel
theorem dX12_laysEnding_71 : decode cX12_laysEnding 71 = .ok (.ifCond .eq 6, 3) := by decide +kernel
theorem dX12_laysEnding_74 : decode cX12_laysEnding 74 = .ok (.goto 31, 3) := by decide +kernel
theorem dX12_laysEnding_77 : decode cX12_laysEnding 77 = .ok (.aload_n 0, 1) := by decide +kernel
theorem dX12_laysEnding_78 : decode cX12_laysEnding 78 = .ok (.getfield 42, 3) := by decide +kernel
theorem dX12_laysEnding_81 : decode cX12_laysEnding 81 = .ok (.iload_n 2, 1) := by decide +kernel
theorem dX12_laysEnding_82 : decode cX12_laysEnding 82 = .ok (.iconst 1, 1) := by decide +kernel
theorem dX12_laysEnding_83 : decode cX12_laysEnding 83 = .ok (.iload 5, 2) := by decide +kernel
theorem dX12_laysEnding_85 : decode cX12_laysEnding 85 = .ok (.ishl, 1) := by decide +kernel
theorem dX12_laysEnding_86 : decode cX12_laysEnding 86 = .ok (.ior, 1) := by decide +kernel
theorem dX12_laysEnding_87 : decode cX12_laysEnding 87 = .ok (.iaload, 1) := by decide +kernel
theorem dX12_laysEnding_88 : decode cX12_laysEnding 88 = .ok (.iconst 1, 1) := by decide +kernel
theorem dX12_laysEnding_89 : decode cX12_laysEnding 89 = .ok (.iadd, 1) := by decide +kernel
theorem dX12_laysEnding_90 : decode cX12_laysEnding 90 = .ok (.istore 6, 2) := by decide +kernel
theorem dX12_laysEnding_92 : decode cX12_laysEnding 92 = .ok (.iload 6, 2) := by decide +kernel
theorem dX12_laysEnding_94 : decode cX12_laysEnding 94 = .ok (.iload_n 3, 1) := by decide +kernel
theorem dX12_laysEnding_95 : decode cX12_laysEnding 95 = .ok (.if_icmp .ge 8, 3) := by decide +kernel
theorem dX12_laysEnding_98 : decode cX12_laysEnding 98 = .ok (.iload 6, 2) := by decide +kernel
theorem dX12_laysEnding_100 : decode cX12_laysEnding 100 = .ok (.goto 4, 3) := by decide +kernel
theorem dX12_laysEnding_103 : decode cX12_laysEnding 103 = .ok (.iload_n 3, 1) := by decide +kernel
theorem dX12_laysEnding_104 : decode cX12_laysEnding 104 = .ok (.istore_n 3, 1) := by decide +kernel
theorem dX12_laysEnding_105 : decode cX12_laysEnding 105 = .ok (.iinc 4 1, 3) := by decide +kernel
theorem dX12_laysEnding_108 : decode cX12_laysEnding 108 = .ok (.goto (-80), 3) := by decide +kernel
theorem dX12_laysEnding_111 : decode cX12_laysEnding 111 = .ok (.aload_n 0, 1) := by decide +kernel
theorem dX12_laysEnding_112 : decode cX12_laysEnding 112 = .ok (.getfield 42, 3) := by decide +kernel
theorem dX12_laysEnding_115 : decode cX12_laysEnding 115 = .ok (.iload_n 2, 1) := by decide +kernel
theorem dX12_laysEnding_116 : decode cX12_laysEnding 116 = .ok (.iload_n 3, 1) := by decide +kernel
theorem dX12_laysEnding_117 : decode cX12_laysEnding 117 = .ok (.iastore, 1) := by decide +kernel
theorem dX12_laysEnding_118 : decode cX12_laysEnding 118 = .ok (.iinc 2 (-1), 3) := by decide +kernel
theorem dX12_laysEnding_121 : decode cX12_laysEnding 121 = .ok (.goto (-116), 3) := by decide +kernel
theorem dX12_laysEnding_124 : decode cX12_laysEnding 124 = .ok (.aload_n 0, 1) := by decide +kernel
theorem dX12_laysEnding_125 : decode cX12_laysEnding 125 = .ok (.getfield 42, 3) := by decide +kernel
theorem dX12_laysEnding_128 : decode cX12_laysEnding 128 = .ok (.aload_n 0, 1) := by decide +kernel
theorem dX12_laysEnding_129 : decode cX12_laysEnding 129 = .ok (.getfield 13, 3) := by decide +kernel
theorem dX12_laysEnding_132 : decode cX12_laysEnding 132 = .ok (.bipush 27, 2) := by decide +kernel
theorem dX12_laysEnding_134 : decode cX12_laysEnding 134 = .ok (.iaload, 1) := by decide +kernel
theorem dX12_laysEnding_135 : decode cX12_laysEnding 135 = .ok (.iaload, 1) := by decide +kernel
theorem dX12_laysEnding_136 : decode cX12_laysEnding 136 = .ok (.ldc_w 341, 3) := by decide +kernel
theorem dX12_laysEnding_139 : decode cX12_laysEnding 139 = .ok (.if_icmp .lt 7, 3) := by decide +kernel
theorem dX12_laysEnding_142 : decode cX12_laysEnding 142 = .ok (.iconst (-1), 1) := by decide +kernel
theorem dX12_laysEnding_143 : decode cX12_laysEnding 143 = .ok (.goto 15, 3) := by decide +kernel
theorem dX12_laysEnding_146 : decode cX12_laysEnding 146 = .ok (.aload_n 0, 1) := by decide +kernel
theorem dX12_laysEnding_147 : decode cX12_laysEnding 147 = .ok (.getfield 42, 3) := by decide +kernel
theorem dX12_laysEnding_150 : decode cX12_laysEnding 150 = .ok (.aload_n 0, 1) := by decide +kernel
theorem dX12_laysEnding_151 : decode cX12_laysEnding 151 = .ok (.getfield 13, 3) := by decide +kernel
theorem dX12_laysEnding_154 : decode cX12_laysEnding 154 = .ok (.bipush 27, 2) := by decide +kernel
theorem dX12_laysEnding_156 : decode cX12_laysEnding 156 = .ok (.iaload, 1) := by decide +kernel
theorem dX12_laysEnding_157 : decode cX12_laysEnding 157 = .ok (.iaload, 1) := by decide +kernel
theorem dX12_laysEnding_158 : decode cX12_laysEnding 158 = .ok (.ireturn, 1) := by decide +kernel
theorem dX12_endingNow_0 : decode cX12_endingNow 0 = .ok (.aload_n 0, 1) := by decide +kernel
theorem dX12_endingNow_1 : decode cX12_endingNow 1 = .ok (.invokevirtual 345, 3) := by decide +kernel
theorem dX12_endingNow_4 : decode cX12_endingNow 4 = .ok (.aload_n 0, 1) := by decide +kernel
theorem dX12_endingNow_5 : decode cX12_endingNow 5 = .ok (.iconst (-1), 1) := by decide +kernel
theorem dX12_endingNow_6 : decode cX12_endingNow 6 = .ok (.invokevirtual 348, 3) := by decide +kernel
theorem dX12_endingNow_9 : decode cX12_endingNow 9 = .ok (.ireturn, 1) := by decide +kernel
theorem dX12_laysEndingRow_0 : decode cX12_laysEndingRow 0 = .ok (.aload_n 0, 1) := by decide +kernel
theorem dX12_laysEndingRow_1 : decode cX12_laysEndingRow 1 = .ok (.invokevirtual 351, 3) := by decide +kernel
theorem dX12_laysEndingRow_4 : decode cX12_laysEndingRow 4 = .ok (.istore_n 1, 1) := by decide +kernel
theorem dX12_laysEndingRow_5 : decode cX12_laysEndingRow 5 = .ok (.aload_n 0, 1) := by decide +kernel
theorem dX12_laysEndingRow_6 : decode cX12_laysEndingRow 6 = .ok (.getfield 13, 3) := by decide +kernel
theorem dX12_laysEndingRow_9 : decode cX12_laysEndingRow 9 = .ok (.bipush 27, 2) := by decide +kernel
theorem dX12_laysEndingRow_11 : decode cX12_laysEndingRow 11 = .ok (.iaload, 1) := by decide +kernel
theorem dX12_laysEndingRow_12 : decode cX12_laysEndingRow 12 = .ok (.istore_n 2, 1) := by decide +kernel
theorem dX12_laysEndingRow_13 : decode cX12_laysEndingRow 13 = .ok (.iconst 0, 1) := by decide +kernel
theorem dX12_laysEndingRow_14 : decode cX12_laysEndingRow 14 = .ok (.istore_n 3, 1) := by decide +kernel
theorem dX12_laysEndingRow_15 : decode cX12_laysEndingRow 15 = .ok (.iload_n 3, 1) := by decide +kernel
theorem dX12_laysEndingRow_16 : decode cX12_laysEndingRow 16 = .ok (.iload_n 1, 1) := by decide +kernel
theorem dX12_laysEndingRow_17 : decode cX12_laysEndingRow 17 = .ok (.if_icmp .ge 88, 3) := by decide +kernel
theorem dX12_laysEndingRow_20 : decode cX12_laysEndingRow 20 = .ok (.iconst 0, 1) := by decide +kernel
theorem dX12_laysEndingRow_21 : decode cX12_laysEndingRow 21 = .ok (.istore 4, 2) := by decide +kernel
theorem dX12_laysEndingRow_23 : decode cX12_laysEndingRow 23 = .ok (.aload_n 0, 1) := by decide +kernel
theorem dX12_laysEndingRow_24 : decode cX12_laysEndingRow 24 = .ok (.iload_n 2, 1) := by decide +kernel
theorem dX12_laysEndingRow_25 : decode cX12_laysEndingRow 25 = .ok (.iload 4, 2) := by decide +kernel
theorem dX12_laysEndingRow_27 : decode cX12_laysEndingRow 27 = .ok (.invokevirtual 342, 3) := by decide +kernel
theorem dX12_laysEndingRow_30 : decode cX12_laysEndingRow 30 = .ok (.iconst (-1), 1) := by decide +kernel
theorem dX12_laysEndingRow_31 : decode cX12_laysEndingRow 31 = .ok (.if_icmp .eq 42, 3) := by decide +kernel
theorem dX12_laysEndingRow_34 : decode cX12_laysEndingRow 34 = .ok (.iload_n 2, 1) := by decide +kernel
theorem dX12_laysEndingRow_35 : decode cX12_laysEndingRow 35 = .ok (.i2l, 1) := by decide +kernel
theorem dX12_laysEndingRow_36 : decode cX12_laysEndingRow 36 = .ok (.aload_n 0, 1) := by decide +kernel
theorem dX12_laysEndingRow_37 : decode cX12_laysEndingRow 37 = .ok (.iload_n 2, 1) := by decide +kernel
theorem dX12_laysEndingRow_38 : decode cX12_laysEndingRow 38 = .ok (.iload 4, 2) := by decide +kernel
theorem dX12_laysEndingRow_40 : decode cX12_laysEndingRow 40 = .ok (.invokevirtual 342, 3) := by decide +kernel
theorem dX12_laysEndingRow_43 : decode cX12_laysEndingRow 43 = .ok (.invokestatic 228, 3) := by decide +kernel
theorem dX12_laysEndingRow_46 : decode cX12_laysEndingRow 46 = .ok (.ifCond .ne 27, 3) := by decide +kernel
theorem dX12_laysEndingRow_49 : decode cX12_laysEndingRow 49 = .ok (.aload_n 0, 1) := by decide +kernel
theorem dX12_laysEndingRow_50 : decode cX12_laysEndingRow 50 = .ok (.getfield 42, 3) := by decide +kernel
theorem dX12_laysEndingRow_53 : decode cX12_laysEndingRow 53 = .ok (.iload_n 2, 1) := by decide +kernel
theorem dX12_laysEndingRow_54 : decode cX12_laysEndingRow 54 = .ok (.iconst 1, 1) := by decide +kernel
theorem dX12_laysEndingRow_55 : decode cX12_laysEndingRow 55 = .ok (.aload_n 0, 1) := by decide +kernel
theorem dX12_laysEndingRow_56 : decode cX12_laysEndingRow 56 = .ok (.iload_n 2, 1) := by decide +kernel
theorem dX12_laysEndingRow_57 : decode cX12_laysEndingRow 57 = .ok (.iload 4, 2) := by decide +kernel
theorem dX12_laysEndingRow_59 : decode cX12_laysEndingRow 59 = .ok (.invokevirtual 342, 3) := by decide +kernel
theorem dX12_laysEndingRow_62 : decode cX12_laysEndingRow 62 = .ok (.ishl, 1) := by decide +kernel
theorem dX12_laysEndingRow_63 : decode cX12_laysEndingRow 63 = .ok (.ior, 1) := by decide +kernel
theorem dX12_laysEndingRow_64 : decode cX12_laysEndingRow 64 = .ok (.iaload, 1) := by decide +kernel
theorem dX12_laysEndingRow_65 : decode cX12_laysEndingRow 65 = .ok (.iload_n 1, 1) := by decide +kernel
theorem dX12_laysEndingRow_66 : decode cX12_laysEndingRow 66 = .ok (.iload_n 3, 1) := by decide +kernel
theorem dX12_laysEndingRow_67 : decode cX12_laysEndingRow 67 = .ok (.isub, 1) := by decide +kernel
theorem dX12_laysEndingRow_68 : decode cX12_laysEndingRow 68 = .ok (.iconst 1, 1) := by decide +kernel
theorem dX12_laysEndingRow_69 : decode cX12_laysEndingRow 69 = .ok (.isub, 1) := by decide +kernel
theorem dX12_laysEndingRow_70 : decode cX12_laysEndingRow 70 = .ok (.if_icmp .eq 9, 3) := by decide +kernel
theorem dX12_laysEndingRow_73 : decode cX12_laysEndingRow 73 = .ok (.iinc 4 1, 3) := by decide +kernel
theorem dX12_laysEndingRow_76 : decode cX12_laysEndingRow 76 = .ok (.goto (-53), 3) := by decide +kernel
theorem dX12_laysEndingRow_79 : decode cX12_laysEndingRow 79 = .ok (.aload_n 0, 1) := by decide +kernel
theorem dX12_laysEndingRow_80 : decode cX12_laysEndingRow 80 = .ok (.getfield 45, 3) := by decide +kernel
theorem dX12_laysEndingRow_83 : decode cX12_laysEndingRow 83 = .ok (.iload_n 3, 1) := by decide +kernel
theorem dX12_laysEndingRow_84 : decode cX12_laysEndingRow 84 = .ok (.iload 4, 2) := by decide +kernel
theorem dX12_laysEndingRow_86 : decode cX12_laysEndingRow 86 = .ok (.iastore, 1) := by decide +kernel
theorem dX12_laysEndingRow_87 : decode cX12_laysEndingRow 87 = .ok (.iload_n 2, 1) := by decide +kernel
theorem dX12_laysEndingRow_88 : decode cX12_laysEndingRow 88 = .ok (.iconst 1, 1) := by decide +kernel
theorem dX12_laysEndingRow_89 : decode cX12_laysEndingRow 89 = .ok (.aload_n 0, 1) := by decide +kernel
theorem dX12_laysEndingRow_90 : decode cX12_laysEndingRow 90 = .ok (.iload_n 2, 1) := by decide +kernel
theorem dX12_laysEndingRow_91 : decode cX12_laysEndingRow 91 = .ok (.iload 4, 2) := by decide +kernel
theorem dX12_laysEndingRow_93 : decode cX12_laysEndingRow 93 = .ok (.invokevirtual 342, 3) := by decide +kernel
theorem dX12_laysEndingRow_96 : decode cX12_laysEndingRow 96 = .ok (.ishl, 1) := by decide +kernel
theorem dX12_laysEndingRow_97 : decode cX12_laysEndingRow 97 = .ok (.ior, 1) := by decide +kernel
theorem dX12_laysEndingRow_98 : decode cX12_laysEndingRow 98 = .ok (.istore_n 2, 1) := by decide +kernel
theorem dX12_laysEndingRow_99 : decode cX12_laysEndingRow 99 = .ok (.iinc 3 1, 3) := by decide +kernel
theorem dX12_laysEndingRow_102 : decode cX12_laysEndingRow 102 = .ok (.goto (-87), 3) := by decide +kernel
theorem dX12_laysEndingRow_105 : decode cX12_laysEndingRow 105 = .ok (.iload_n 1, 1) := by decide +kernel
theorem dX12_laysEndingRow_106 : decode cX12_laysEndingRow 106 = .ok (.ireturn, 1) := by decide +kernel
theorem dX12_ending_0 : decode cX12_ending 0 = .ok (.aload_n 0, 1) := by decide +kernel
theorem dX12_ending_1 : decode cX12_ending 1 = .ok (.iconst 0, 1) := by decide +kernel
theorem dX12_ending_2 : decode cX12_ending 2 = .ok (.putfield 1, 3) := by decide +kernel
theorem dX12_ending_5 : decode cX12_ending 5 = .ok (.aload_n 0, 1) := by decide +kernel
theorem dX12_ending_6 : decode cX12_ending 6 = .ok (.invokevirtual 351, 3) := by decide +kernel
theorem dX12_ending_9 : decode cX12_ending 9 = .ok (.ireturn, 1) := by decide +kernel
theorem dX12_endingBy_0 : decode cX12_endingBy 0 = .ok (.aload_n 0, 1) := by decide +kernel
theorem dX12_endingBy_1 : decode cX12_endingBy 1 = .ok (.iconst 0, 1) := by decide +kernel
theorem dX12_endingBy_2 : decode cX12_endingBy 2 = .ok (.putfield 1, 3) := by decide +kernel
theorem dX12_endingBy_5 : decode cX12_endingBy 5 = .ok (.iload_n 1, 1) := by decide +kernel
theorem dX12_endingBy_6 : decode cX12_endingBy 6 = .ok (.ifCond .ge 6, 3) := by decide +kernel
theorem dX12_endingBy_9 : decode cX12_endingBy 9 = .ok (.bipush (-3), 2) := by decide +kernel
theorem dX12_endingBy_11 : decode cX12_endingBy 11 = .ok (.ireturn, 1) := by decide +kernel
theorem dX12_endingBy_12 : decode cX12_endingBy 12 = .ok (.aload_n 0, 1) := by decide +kernel
theorem dX12_endingBy_13 : decode cX12_endingBy 13 = .ok (.invokevirtual 354, 3) := by decide +kernel
theorem dX12_endingBy_16 : decode cX12_endingBy 16 = .ok (.istore_n 2, 1) := by decide +kernel
theorem dX12_endingBy_17 : decode cX12_endingBy 17 = .ok (.iload_n 1, 1) := by decide +kernel
theorem dX12_endingBy_18 : decode cX12_endingBy 18 = .ok (.iload_n 2, 1) := by decide +kernel
theorem dX12_endingBy_19 : decode cX12_endingBy 19 = .ok (.if_icmp .ge 12, 3) := by decide +kernel
theorem dX12_endingBy_22 : decode cX12_endingBy 22 = .ok (.aload_n 0, 1) := by decide +kernel
theorem dX12_endingBy_23 : decode cX12_endingBy 23 = .ok (.getfield 45, 3) := by decide +kernel
theorem dX12_endingBy_26 : decode cX12_endingBy 26 = .ok (.iload_n 1, 1) := by decide +kernel
theorem dX12_endingBy_27 : decode cX12_endingBy 27 = .ok (.iaload, 1) := by decide +kernel
theorem dX12_endingBy_28 : decode cX12_endingBy 28 = .ok (.goto 4, 3) := by decide +kernel
theorem dX12_endingBy_31 : decode cX12_endingBy 31 = .ok (.iconst (-1), 1) := by decide +kernel
theorem dX12_endingBy_32 : decode cX12_endingBy 32 = .ok (.ireturn, 1) := by decide +kernel
theorem dX12_beginsRows_0 : decode cX12_beginsRows 0 = .ok (.iconst 0, 1) := by decide +kernel
theorem dX12_beginsRows_1 : decode cX12_beginsRows 1 = .ok (.istore_n 1, 1) := by decide +kernel
theorem dX12_beginsRows_2 : decode cX12_beginsRows 2 = .ok (.iload_n 1, 1) := by decide +kernel
theorem dX12_beginsRows_3 : decode cX12_beginsRows 3 = .ok (.sipush 256, 3) := by decide +kernel
theorem dX12_beginsRows_6 : decode cX12_beginsRows 6 = .ok (.if_icmp .ge 31, 3) := by decide +kernel
theorem dX12_beginsRows_9 : decode cX12_beginsRows 9 = .ok (.aload_n 0, 1) := by decide +kernel
theorem dX12_beginsRows_10 : decode cX12_beginsRows 10 = .ok (.getfield 51, 3) := by decide +kernel
theorem dX12_beginsRows_13 : decode cX12_beginsRows 13 = .ok (.iload_n 1, 1) := by decide +kernel
theorem dX12_beginsRows_14 : decode cX12_beginsRows 14 = .ok (.iload_n 1, 1) := by decide +kernel
theorem dX12_beginsRows_15 : decode cX12_beginsRows 15 = .ok (.aload_n 0, 1) := by decide +kernel
theorem dX12_beginsRows_16 : decode cX12_beginsRows 16 = .ok (.getfield 13, 3) := by decide +kernel
theorem dX12_beginsRows_19 : decode cX12_beginsRows 19 = .ok (.bipush 27, 2) := by decide +kernel
theorem dX12_beginsRows_21 : decode cX12_beginsRows 21 = .ok (.iaload, 1) := by decide +kernel
theorem dX12_beginsRows_22 : decode cX12_beginsRows 22 = .ok (.if_icmp .ne 7, 3) := by decide +kernel
theorem dX12_beginsRows_25 : decode cX12_beginsRows 25 = .ok (.lconst 1, 1) := by decide +kernel
theorem dX12_beginsRows_26 : decode cX12_beginsRows 26 = .ok (.goto 4, 3) := by decide +kernel
theorem dX12_beginsRows_29 : decode cX12_beginsRows 29 = .ok (.lconst 0, 1) := by decide +kernel
theorem dX12_beginsRows_30 : decode cX12_beginsRows 30 = .ok (.lastore, 1) := by decide +kernel
theorem dX12_beginsRows_31 : decode cX12_beginsRows 31 = .ok (.iinc 1 1, 3) := by decide +kernel
theorem dX12_beginsRows_34 : decode cX12_beginsRows 34 = .ok (.goto (-32), 3) := by decide +kernel
theorem dX12_beginsRows_37 : decode cX12_beginsRows 37 = .ok (.return_, 1) := by decide +kernel
theorem dX12_goesRows_0 : decode cX12_goesRows 0 = .ok (.iconst 0, 1) := by decide +kernel
theorem dX12_goesRows_1 : decode cX12_goesRows 1 = .ok (.istore_n 3, 1) := by decide +kernel
theorem dX12_goesRows_2 : decode cX12_goesRows 2 = .ok (.iload_n 3, 1) := by decide +kernel
theorem dX12_goesRows_3 : decode cX12_goesRows 3 = .ok (.sipush 256, 3) := by decide +kernel
theorem dX12_goesRows_6 : decode cX12_goesRows 6 = .ok (.if_icmp .ge 16, 3) := by decide +kernel
theorem dX12_goesRows_9 : decode cX12_goesRows 9 = .ok (.aload_n 0, 1) := by decide +kernel
theorem dX12_goesRows_10 : decode cX12_goesRows 10 = .ok (.getfield 55, 3) := by decide +kernel
theorem dX12_goesRows_13 : decode cX12_goesRows 13 = .ok (.iload_n 3, 1) := by decide +kernel
theorem dX12_goesRows_14 : decode cX12_goesRows 14 = .ok (.lconst 0, 1) := by decide +kernel
theorem dX12_goesRows_15 : decode cX12_goesRows 15 = .ok (.lastore, 1) := by decide +kernel
theorem dX12_goesRows_16 : decode cX12_goesRows 16 = .ok (.iinc 3 1, 3) := by decide +kernel
theorem dX12_goesRows_19 : decode cX12_goesRows 19 = .ok (.goto (-17), 3) := by decide +kernel
theorem dX12_goesRows_22 : decode cX12_goesRows 22 = .ok (.iconst 0, 1) := by decide +kernel
theorem dX12_goesRows_23 : decode cX12_goesRows 23 = .ok (.istore_n 3, 1) := by decide +kernel
theorem dX12_goesRows_24 : decode cX12_goesRows 24 = .ok (.iload_n 3, 1) := by decide +kernel
theorem dX12_goesRows_25 : decode cX12_goesRows 25 = .ok (.aload_n 0, 1) := by decide +kernel
theorem dX12_goesRows_26 : decode cX12_goesRows 26 = .ok (.invokevirtual 204, 3) := by decide +kernel
theorem dX12_goesRows_29 : decode cX12_goesRows 29 = .ok (.if_icmp .gt 97, 3) := by decide +kernel
theorem dX12_goesRows_32 : decode cX12_goesRows 32 = .ok (.iconst 0, 1) := by decide +kernel
theorem dX12_goesRows_33 : decode cX12_goesRows 33 = .ok (.istore 4, 2) := by decide +kernel
theorem dX12_goesRows_35 : decode cX12_goesRows 35 = .ok (.iload 4, 2) := by decide +kernel
theorem dX12_goesRows_37 : decode cX12_goesRows 37 = .ok (.aload_n 0, 1) := by decide +kernel
theorem dX12_goesRows_38 : decode cX12_goesRows 38 = .ok (.getfield 13, 3) := by decide +kernel
theorem dX12_goesRows_41 : decode cX12_goesRows 41 = .ok (.iconst 1, 1) := by decide +kernel
theorem dX12_goesRows_42 : decode cX12_goesRows 42 = .ok (.iaload, 1) := by decide +kernel
theorem dX12_goesRows_43 : decode cX12_goesRows 43 = .ok (.if_icmp .ge 77, 3) := by decide +kernel
theorem dX12_goesRows_46 : decode cX12_goesRows 46 = .ok (.aload_n 0, 1) := by decide +kernel
theorem dX12_goesRows_47 : decode cX12_goesRows 47 = .ok (.getfield 51, 3) := by decide +kernel
theorem dX12_goesRows_50 : decode cX12_goesRows 50 = .ok (.iload_n 3, 1) := by decide +kernel
theorem dX12_goesRows_51 : decode cX12_goesRows 51 = .ok (.laload, 1) := by decide +kernel
theorem dX12_goesRows_52 : decode cX12_goesRows 52 = .ok (.lconst 0, 1) := by decide +kernel
theorem dX12_goesRows_53 : decode cX12_goesRows 53 = .ok (.lcmp, 1) := by decide +kernel
theorem dX12_goesRows_54 : decode cX12_goesRows 54 = .ok (.ifCond .le 66, 3) := by decide +kernel
theorem dX12_goesRows_57 : decode cX12_goesRows 57 = .ok (.aload_n 0, 1) := by decide +kernel
theorem dX12_goesRows_58 : decode cX12_goesRows 58 = .ok (.iload_n 3, 1) := by decide +kernel
theorem dX12_goesRows_59 : decode cX12_goesRows 59 = .ok (.iload 4, 2) := by decide +kernel
theorem dX12_goesRows_61 : decode cX12_goesRows 61 = .ok (.invokevirtual 342, 3) := by decide +kernel
theorem dX12_goesRows_64 : decode cX12_goesRows 64 = .ok (.istore 5, 2) := by decide +kernel
theorem dX12_goesRows_66 : decode cX12_goesRows 66 = .ok (.iload 5, 2) := by decide +kernel
theorem dX12_goesRows_68 : decode cX12_goesRows 68 = .ok (.iconst (-1), 1) := by decide +kernel
theorem dX12_goesRows_69 : decode cX12_goesRows 69 = .ok (.if_icmp .eq 45, 3) := by decide +kernel
theorem dX12_goesRows_72 : decode cX12_goesRows 72 = .ok (.iload_n 1, 1) := by decide +kernel
theorem dX12_goesRows_73 : decode cX12_goesRows 73 = .ok (.iconst (-1), 1) := by decide +kernel
theorem dX12_goesRows_74 : decode cX12_goesRows 74 = .ok (.if_icmp .eq 9, 3) := by decide +kernel
theorem dX12_goesRows_77 : decode cX12_goesRows 77 = .ok (.iload 5, 2) := by decide +kernel
theorem dX12_goesRows_79 : decode cX12_goesRows 79 = .ok (.iload_n 1, 1) := by decide +kernel
theorem dX12_goesRows_80 : decode cX12_goesRows 80 = .ok (.if_icmp .ne 34, 3) := by decide +kernel
theorem dX12_goesRows_83 : decode cX12_goesRows 83 = .ok (.iload_n 2, 1) := by decide +kernel
theorem dX12_goesRows_84 : decode cX12_goesRows 84 = .ok (.iconst (-1), 1) := by decide +kernel
theorem dX12_goesRows_85 : decode cX12_goesRows 85 = .ok (.if_icmp .eq 9, 3) := by decide +kernel
theorem dX12_goesRows_88 : decode cX12_goesRows 88 = .ok (.iload 4, 2) := by decide +kernel
theorem dX12_goesRows_90 : decode cX12_goesRows 90 = .ok (.iload_n 2, 1) := by decide +kernel
theorem dX12_goesRows_91 : decode cX12_goesRows 91 = .ok (.if_icmp .ne 23, 3) := by decide +kernel
theorem dX12_goesRows_94 : decode cX12_goesRows 94 = .ok (.aload_n 0, 1) := by decide +kernel
theorem dX12_goesRows_95 : decode cX12_goesRows 95 = .ok (.getfield 55, 3) := by decide +kernel
theorem dX12_goesRows_98 : decode cX12_goesRows 98 = .ok (.iload_n 3, 1) := by decide +kernel
theorem dX12_goesRows_99 : decode cX12_goesRows 99 = .ok (.iconst 1, 1) := by decide +kernel
theorem dX12_goesRows_100 : decode cX12_goesRows 100 = .ok (.iload 5, 2) := by decide +kernel
theorem dX12_goesRows_102 : decode cX12_goesRows 102 = .ok (.ishl, 1) := by decide +kernel
theorem dX12_goesRows_103 : decode cX12_goesRows 103 = .ok (.ior, 1) := by decide +kernel
theorem dX12_goesRows_104 : decode cX12_goesRows 104 = .ok (.dup2, 1) := by decide +kernel
theorem dX12_goesRows_105 : decode cX12_goesRows 105 = .ok (.laload, 1) := by decide +kernel
theorem dX12_goesRows_106 : decode cX12_goesRows 106 = .ok (.aload_n 0, 1) := by decide +kernel
theorem dX12_goesRows_107 : decode cX12_goesRows 107 = .ok (.getfield 51, 3) := by decide +kernel
theorem dX12_goesRows_110 : decode cX12_goesRows 110 = .ok (.iload_n 3, 1) := by decide +kernel
theorem dX12_goesRows_111 : decode cX12_goesRows 111 = .ok (.laload, 1) := by decide +kernel
theorem dX12_goesRows_112 : decode cX12_goesRows 112 = .ok (.ladd, 1) := by decide +kernel
theorem dX12_goesRows_113 : decode cX12_goesRows 113 = .ok (.lastore, 1) := by decide +kernel
theorem dX12_goesRows_114 : decode cX12_goesRows 114 = .ok (.iinc 4 1, 3) := by decide +kernel
theorem dX12_goesRows_117 : decode cX12_goesRows 117 = .ok (.goto (-82), 3) := by decide +kernel
theorem dX12_goesRows_120 : decode cX12_goesRows 120 = .ok (.iinc 3 1, 3) := by decide +kernel
theorem dX12_goesRows_123 : decode cX12_goesRows 123 = .ok (.goto (-99), 3) := by decide +kernel
theorem dX12_goesRows_126 : decode cX12_goesRows 126 = .ok (.iconst 0, 1) := by decide +kernel
theorem dX12_goesRows_127 : decode cX12_goesRows 127 = .ok (.istore_n 3, 1) := by decide +kernel
theorem dX12_goesRows_128 : decode cX12_goesRows 128 = .ok (.iload_n 3, 1) := by decide +kernel
theorem dX12_goesRows_129 : decode cX12_goesRows 129 = .ok (.sipush 256, 3) := by decide +kernel
theorem dX12_goesRows_132 : decode cX12_goesRows 132 = .ok (.if_icmp .ge 21, 3) := by decide +kernel
theorem dX12_goesRows_135 : decode cX12_goesRows 135 = .ok (.aload_n 0, 1) := by decide +kernel
theorem dX12_goesRows_136 : decode cX12_goesRows 136 = .ok (.getfield 51, 3) := by decide +kernel
theorem dX12_goesRows_139 : decode cX12_goesRows 139 = .ok (.iload_n 3, 1) := by decide +kernel
theorem dX12_goesRows_140 : decode cX12_goesRows 140 = .ok (.aload_n 0, 1) := by decide +kernel
theorem dX12_goesRows_141 : decode cX12_goesRows 141 = .ok (.getfield 55, 3) := by decide +kernel
theorem dX12_goesRows_144 : decode cX12_goesRows 144 = .ok (.iload_n 3, 1) := by decide +kernel
theorem dX12_goesRows_145 : decode cX12_goesRows 145 = .ok (.laload, 1) := by decide +kernel
theorem dX12_goesRows_146 : decode cX12_goesRows 146 = .ok (.lastore, 1) := by decide +kernel
theorem dX12_goesRows_147 : decode cX12_goesRows 147 = .ok (.iinc 3 1, 3) := by decide +kernel
theorem dX12_goesRows_150 : decode cX12_goesRows 150 = .ok (.goto (-22), 3) := by decide +kernel
theorem dX12_goesRows_153 : decode cX12_goesRows 153 = .ok (.return_, 1) := by decide +kernel
theorem dX12_sumRows_0 : decode cX12_sumRows 0 = .ok (.lconst 0, 1) := by decide +kernel
theorem dX12_sumRows_1 : decode cX12_sumRows 1 = .ok (.lstore_n 1, 1) := by decide +kernel
theorem dX12_sumRows_2 : decode cX12_sumRows 2 = .ok (.iconst 0, 1) := by decide +kernel
theorem dX12_sumRows_3 : decode cX12_sumRows 3 = .ok (.istore_n 3, 1) := by decide +kernel
theorem dX12_sumRows_4 : decode cX12_sumRows 4 = .ok (.iload_n 3, 1) := by decide +kernel
theorem dX12_sumRows_5 : decode cX12_sumRows 5 = .ok (.sipush 256, 3) := by decide +kernel
theorem dX12_sumRows_8 : decode cX12_sumRows 8 = .ok (.if_icmp .ge 18, 3) := by decide +kernel
theorem dX12_sumRows_11 : decode cX12_sumRows 11 = .ok (.lload_n 1, 1) := by decide +kernel
theorem dX12_sumRows_12 : decode cX12_sumRows 12 = .ok (.aload_n 0, 1) := by decide +kernel
theorem dX12_sumRows_13 : decode cX12_sumRows 13 = .ok (.getfield 51, 3) := by decide +kernel
theorem dX12_sumRows_16 : decode cX12_sumRows 16 = .ok (.iload_n 3, 1) := by decide +kernel
theorem dX12_sumRows_17 : decode cX12_sumRows 17 = .ok (.laload, 1) := by decide +kernel
theorem dX12_sumRows_18 : decode cX12_sumRows 18 = .ok (.ladd, 1) := by decide +kernel
theorem dX12_sumRows_19 : decode cX12_sumRows 19 = .ok (.lstore_n 1, 1) := by decide +kernel
theorem dX12_sumRows_20 : decode cX12_sumRows 20 = .ok (.iinc 3 1, 3) := by decide +kernel
theorem dX12_sumRows_23 : decode cX12_sumRows 23 = .ok (.goto (-19), 3) := by decide +kernel
theorem dX12_sumRows_26 : decode cX12_sumRows 26 = .ok (.lload_n 1, 1) := by decide +kernel
theorem dX12_sumRows_27 : decode cX12_sumRows 27 = .ok (.lreturn, 1) := by decide +kernel
theorem dX12_shutRows_0 : decode cX12_shutRows 0 = .ok (.lconst 0, 1) := by decide +kernel
theorem dX12_shutRows_1 : decode cX12_shutRows 1 = .ok (.lstore_n 1, 1) := by decide +kernel
theorem dX12_shutRows_2 : decode cX12_shutRows 2 = .ok (.iconst 0, 1) := by decide +kernel
theorem dX12_shutRows_3 : decode cX12_shutRows 3 = .ok (.istore_n 3, 1) := by decide +kernel
theorem dX12_shutRows_4 : decode cX12_shutRows 4 = .ok (.iload_n 3, 1) := by decide +kernel
theorem dX12_shutRows_5 : decode cX12_shutRows 5 = .ok (.sipush 256, 3) := by decide +kernel
theorem dX12_shutRows_8 : decode cX12_shutRows 8 = .ok (.if_icmp .ge 30, 3) := by decide +kernel
theorem dX12_shutRows_11 : decode cX12_shutRows 11 = .ok (.lload_n 1, 1) := by decide +kernel
theorem dX12_shutRows_12 : decode cX12_shutRows 12 = .ok (.aload_n 0, 1) := by decide +kernel
theorem dX12_shutRows_13 : decode cX12_shutRows 13 = .ok (.iload_n 3, 1) := by decide +kernel
theorem dX12_shutRows_14 : decode cX12_shutRows 14 = .ok (.invokevirtual 210, 3) := by decide +kernel
theorem dX12_shutRows_17 : decode cX12_shutRows 17 = .ok (.ifCond .eq 12, 3) := by decide +kernel
theorem dX12_shutRows_20 : decode cX12_shutRows 20 = .ok (.aload_n 0, 1) := by decide +kernel
theorem dX12_shutRows_21 : decode cX12_shutRows 21 = .ok (.getfield 51, 3) := by decide +kernel
theorem dX12_shutRows_24 : decode cX12_shutRows 24 = .ok (.iload_n 3, 1) := by decide +kernel
theorem dX12_shutRows_25 : decode cX12_shutRows 25 = .ok (.laload, 1) := by decide +kernel
theorem dX12_shutRows_26 : decode cX12_shutRows 26 = .ok (.goto 4, 3) := by decide +kernel
theorem dX12_shutRows_29 : decode cX12_shutRows 29 = .ok (.lconst 0, 1) := by decide +kernel
theorem dX12_shutRows_30 : decode cX12_shutRows 30 = .ok (.ladd, 1) := by decide +kernel
theorem dX12_shutRows_31 : decode cX12_shutRows 31 = .ok (.lstore_n 1, 1) := by decide +kernel
theorem dX12_shutRows_32 : decode cX12_shutRows 32 = .ok (.iinc 3 1, 3) := by decide +kernel
theorem dX12_shutRows_35 : decode cX12_shutRows 35 = .ok (.goto (-31), 3) := by decide +kernel
theorem dX12_shutRows_38 : decode cX12_shutRows 38 = .ok (.lload_n 1, 1) := by decide +kernel
theorem dX12_shutRows_39 : decode cX12_shutRows 39 = .ok (.lreturn, 1) := by decide +kernel
theorem dX12_endings_0 : decode cX12_endings 0 = .ok (.aload_n 0, 1) := by decide +kernel
theorem dX12_endings_1 : decode cX12_endings 1 = .ok (.iconst 0, 1) := by decide +kernel
theorem dX12_endings_2 : decode cX12_endings 2 = .ok (.putfield 1, 3) := by decide +kernel
theorem dX12_endings_5 : decode cX12_endings 5 = .ok (.iload_n 1, 1) := by decide +kernel
theorem dX12_endings_6 : decode cX12_endings 6 = .ok (.i2l, 1) := by decide +kernel
theorem dX12_endings_7 : decode cX12_endings 7 = .ok (.lconst 0, 1) := by decide +kernel
theorem dX12_endings_8 : decode cX12_endings 8 = .ok (.ldc2_w 357, 3) := by decide +kernel
theorem dX12_endings_11 : decode cX12_endings 11 = .ok (.invokestatic 142, 3) := by decide +kernel
theorem dX12_endings_14 : decode cX12_endings 14 = .ok (.ifCond .ne 7, 3) := by decide +kernel
theorem dX12_endings_17 : decode cX12_endings 17 = .ok (.ldc2_w 359, 3) := by decide +kernel
theorem dX12_endings_20 : decode cX12_endings 20 = .ok (.lreturn, 1) := by decide +kernel
theorem dX12_endings_21 : decode cX12_endings 21 = .ok (.aload_n 0, 1) := by decide +kernel
theorem dX12_endings_22 : decode cX12_endings 22 = .ok (.invokevirtual 345, 3) := by decide +kernel
theorem dX12_endings_25 : decode cX12_endings 25 = .ok (.aload_n 0, 1) := by decide +kernel
theorem dX12_endings_26 : decode cX12_endings 26 = .ok (.invokevirtual 361, 3) := by decide +kernel
theorem dX12_endings_29 : decode cX12_endings 29 = .ok (.iconst 0, 1) := by decide +kernel
theorem dX12_endings_30 : decode cX12_endings 30 = .ok (.istore_n 2, 1) := by decide +kernel
theorem dX12_endings_31 : decode cX12_endings 31 = .ok (.iload_n 2, 1) := by decide +kernel
theorem dX12_endings_32 : decode cX12_endings 32 = .ok (.iload_n 1, 1) := by decide +kernel
theorem dX12_endings_33 : decode cX12_endings 33 = .ok (.if_icmp .ge 15, 3) := by decide +kernel
theorem dX12_endings_36 : decode cX12_endings 36 = .ok (.aload_n 0, 1) := by decide +kernel
theorem dX12_endings_37 : decode cX12_endings 37 = .ok (.iconst (-1), 1) := by decide +kernel
theorem dX12_endings_38 : decode cX12_endings 38 = .ok (.iconst (-1), 1) := by decide +kernel
theorem dX12_endings_39 : decode cX12_endings 39 = .ok (.invokevirtual 364, 3) := by decide +kernel
theorem dX12_endings_42 : decode cX12_endings 42 = .ok (.iinc 2 1, 3) := by decide +kernel
theorem dX12_endings_45 : decode cX12_endings 45 = .ok (.goto (-14), 3) := by decide +kernel
theorem dX12_endings_48 : decode cX12_endings 48 = .ok (.aload_n 0, 1) := by decide +kernel
theorem dX12_endings_49 : decode cX12_endings 49 = .ok (.invokevirtual 368, 3) := by decide +kernel
theorem dX12_endings_52 : decode cX12_endings 52 = .ok (.lreturn, 1) := by decide +kernel
theorem dX12_needed_0 : decode cX12_needed 0 = .ok (.aload_n 0, 1) := by decide +kernel
theorem dX12_needed_1 : decode cX12_needed 1 = .ok (.iconst 0, 1) := by decide +kernel
theorem dX12_needed_2 : decode cX12_needed 2 = .ok (.putfield 1, 3) := by decide +kernel
theorem dX12_needed_5 : decode cX12_needed 5 = .ok (.iconst 0, 1) := by decide +kernel
theorem dX12_needed_6 : decode cX12_needed 6 = .ok (.istore_n 1, 1) := by decide +kernel
theorem dX12_needed_7 : decode cX12_needed 7 = .ok (.aload_n 0, 1) := by decide +kernel
theorem dX12_needed_8 : decode cX12_needed 8 = .ok (.invokevirtual 351, 3) := by decide +kernel
theorem dX12_needed_11 : decode cX12_needed 11 = .ok (.iconst (-1), 1) := by decide +kernel
theorem dX12_needed_12 : decode cX12_needed 12 = .ok (.if_icmp .ne 5, 3) := by decide +kernel
theorem dX12_needed_15 : decode cX12_needed 15 = .ok (.iload_n 1, 1) := by decide +kernel
theorem dX12_needed_16 : decode cX12_needed 16 = .ok (.ireturn, 1) := by decide +kernel
theorem dX12_needed_17 : decode cX12_needed 17 = .ok (.iconst 0, 1) := by decide +kernel
theorem dX12_needed_18 : decode cX12_needed 18 = .ok (.istore_n 2, 1) := by decide +kernel
theorem dX12_needed_19 : decode cX12_needed 19 = .ok (.iload_n 2, 1) := by decide +kernel
theorem dX12_needed_20 : decode cX12_needed 20 = .ok (.aload_n 0, 1) := by decide +kernel
theorem dX12_needed_21 : decode cX12_needed 21 = .ok (.getfield 13, 3) := by decide +kernel
theorem dX12_needed_24 : decode cX12_needed 24 = .ok (.iconst 1, 1) := by decide +kernel
theorem dX12_needed_25 : decode cX12_needed 25 = .ok (.iaload, 1) := by decide +kernel
theorem dX12_needed_26 : decode cX12_needed 26 = .ok (.if_icmp .ge 28, 3) := by decide +kernel
theorem dX12_needed_29 : decode cX12_needed 29 = .ok (.iload_n 1, 1) := by decide +kernel
theorem dX12_needed_30 : decode cX12_needed 30 = .ok (.aload_n 0, 1) := by decide +kernel
theorem dX12_needed_31 : decode cX12_needed 31 = .ok (.iload_n 2, 1) := by decide +kernel
theorem dX12_needed_32 : decode cX12_needed 32 = .ok (.invokevirtual 348, 3) := by decide +kernel
theorem dX12_needed_35 : decode cX12_needed 35 = .ok (.iconst (-1), 1) := by decide +kernel
theorem dX12_needed_36 : decode cX12_needed 36 = .ok (.if_icmp .ne 9, 3) := by decide +kernel
theorem dX12_needed_39 : decode cX12_needed 39 = .ok (.iconst 1, 1) := by decide +kernel
theorem dX12_needed_40 : decode cX12_needed 40 = .ok (.iload_n 2, 1) := by decide +kernel
theorem dX12_needed_41 : decode cX12_needed 41 = .ok (.ishl, 1) := by decide +kernel
theorem dX12_needed_42 : decode cX12_needed 42 = .ok (.goto 4, 3) := by decide +kernel
theorem dX12_needed_45 : decode cX12_needed 45 = .ok (.iconst 0, 1) := by decide +kernel
theorem dX12_needed_46 : decode cX12_needed 46 = .ok (.ior, 1) := by decide +kernel
theorem dX12_needed_47 : decode cX12_needed 47 = .ok (.istore_n 1, 1) := by decide +kernel
theorem dX12_needed_48 : decode cX12_needed 48 = .ok (.iinc 2 1, 3) := by decide +kernel
theorem dX12_needed_51 : decode cX12_needed 51 = .ok (.goto (-32), 3) := by decide +kernel
theorem dX12_needed_54 : decode cX12_needed 54 = .ok (.iload_n 1, 1) := by decide +kernel
theorem dX12_needed_55 : decode cX12_needed 55 = .ok (.ireturn, 1) := by decide +kernel
theorem dX12_laysComes_0 : decode cX12_laysComes 0 = .ok (.aload_n 0, 1) := by decide +kernel
theorem dX12_laysComes_1 : decode cX12_laysComes 1 = .ok (.invokevirtual 345, 3) := by decide +kernel
theorem dX12_laysComes_4 : decode cX12_laysComes 4 = .ok (.iconst 0, 1) := by decide +kernel
theorem dX12_laysComes_5 : decode cX12_laysComes 5 = .ok (.istore_n 1, 1) := by decide +kernel
theorem dX12_laysComes_6 : decode cX12_laysComes 6 = .ok (.iload_n 1, 1) := by decide +kernel
theorem dX12_laysComes_7 : decode cX12_laysComes 7 = .ok (.sipush 256, 3) := by decide +kernel
theorem dX12_laysComes_10 : decode cX12_laysComes 10 = .ok (.if_icmp .ge 31, 3) := by decide +kernel
theorem dX12_laysComes_13 : decode cX12_laysComes 13 = .ok (.aload_n 0, 1) := by decide +kernel
theorem dX12_laysComes_14 : decode cX12_laysComes 14 = .ok (.getfield 48, 3) := by decide +kernel
theorem dX12_laysComes_17 : decode cX12_laysComes 17 = .ok (.iload_n 1, 1) := by decide +kernel
theorem dX12_laysComes_18 : decode cX12_laysComes 18 = .ok (.iload_n 1, 1) := by decide +kernel
theorem dX12_laysComes_19 : decode cX12_laysComes 19 = .ok (.aload_n 0, 1) := by decide +kernel
theorem dX12_laysComes_20 : decode cX12_laysComes 20 = .ok (.getfield 13, 3) := by decide +kernel
theorem dX12_laysComes_23 : decode cX12_laysComes 23 = .ok (.bipush 27, 2) := by decide +kernel
theorem dX12_laysComes_25 : decode cX12_laysComes 25 = .ok (.iaload, 1) := by decide +kernel
theorem dX12_laysComes_26 : decode cX12_laysComes 26 = .ok (.if_icmp .ne 7, 3) := by decide +kernel
theorem dX12_laysComes_29 : decode cX12_laysComes 29 = .ok (.iconst 1, 1) := by decide +kernel
theorem dX12_laysComes_30 : decode cX12_laysComes 30 = .ok (.goto 4, 3) := by decide +kernel
theorem dX12_laysComes_33 : decode cX12_laysComes 33 = .ok (.iconst 0, 1) := by decide +kernel
theorem dX12_laysComes_34 : decode cX12_laysComes 34 = .ok (.bastore, 1) := by decide +kernel
theorem dX12_laysComes_35 : decode cX12_laysComes 35 = .ok (.iinc 1 1, 3) := by decide +kernel
theorem dX12_laysComes_38 : decode cX12_laysComes 38 = .ok (.goto (-32), 3) := by decide +kernel
theorem dX12_laysComes_41 : decode cX12_laysComes 41 = .ok (.iconst 0, 1) := by decide +kernel
theorem dX12_laysComes_42 : decode cX12_laysComes 42 = .ok (.istore_n 1, 1) := by decide +kernel
theorem dX12_laysComes_43 : decode cX12_laysComes 43 = .ok (.iload_n 1, 1) := by decide +kernel
theorem dX12_laysComes_44 : decode cX12_laysComes 44 = .ok (.aload_n 0, 1) := by decide +kernel
theorem dX12_laysComes_45 : decode cX12_laysComes 45 = .ok (.invokevirtual 204, 3) := by decide +kernel
theorem dX12_laysComes_48 : decode cX12_laysComes 48 = .ok (.if_icmp .gt 62, 3) := by decide +kernel
theorem dX12_laysComes_51 : decode cX12_laysComes 51 = .ok (.iconst 0, 1) := by decide +kernel
theorem dX12_laysComes_52 : decode cX12_laysComes 52 = .ok (.istore_n 2, 1) := by decide +kernel
theorem dX12_laysComes_53 : decode cX12_laysComes 53 = .ok (.iload_n 2, 1) := by decide +kernel
theorem dX12_laysComes_54 : decode cX12_laysComes 54 = .ok (.aload_n 0, 1) := by decide +kernel
theorem dX12_laysComes_55 : decode cX12_laysComes 55 = .ok (.getfield 13, 3) := by decide +kernel
theorem dX12_laysComes_58 : decode cX12_laysComes 58 = .ok (.iconst 1, 1) := by decide +kernel
theorem dX12_laysComes_59 : decode cX12_laysComes 59 = .ok (.iaload, 1) := by decide +kernel
theorem dX12_laysComes_60 : decode cX12_laysComes 60 = .ok (.if_icmp .ge 44, 3) := by decide +kernel
theorem dX12_laysComes_63 : decode cX12_laysComes 63 = .ok (.aload_n 0, 1) := by decide +kernel
theorem dX12_laysComes_64 : decode cX12_laysComes 64 = .ok (.getfield 48, 3) := by decide +kernel
theorem dX12_laysComes_67 : decode cX12_laysComes 67 = .ok (.iload_n 1, 1) := by decide +kernel
theorem dX12_laysComes_68 : decode cX12_laysComes 68 = .ok (.baload, 1) := by decide +kernel
theorem dX12_laysComes_69 : decode cX12_laysComes 69 = .ok (.ifCond .eq 35, 3) := by decide +kernel
theorem dX12_laysComes_72 : decode cX12_laysComes 72 = .ok (.aload_n 0, 1) := by decide +kernel
theorem dX12_laysComes_73 : decode cX12_laysComes 73 = .ok (.iload_n 1, 1) := by decide +kernel
theorem dX12_laysComes_74 : decode cX12_laysComes 74 = .ok (.iload_n 2, 1) := by decide +kernel
theorem dX12_laysComes_75 : decode cX12_laysComes 75 = .ok (.invokevirtual 342, 3) := by decide +kernel
theorem dX12_laysComes_78 : decode cX12_laysComes 78 = .ok (.iconst (-1), 1) := by decide +kernel
theorem dX12_laysComes_79 : decode cX12_laysComes 79 = .ok (.if_icmp .eq 19, 3) := by decide +kernel
theorem dX12_laysComes_82 : decode cX12_laysComes 82 = .ok (.aload_n 0, 1) := by decide +kernel
theorem dX12_laysComes_83 : decode cX12_laysComes 83 = .ok (.getfield 48, 3) := by decide +kernel
theorem dX12_laysComes_86 : decode cX12_laysComes 86 = .ok (.iload_n 1, 1) := by decide +kernel
theorem dX12_laysComes_87 : decode cX12_laysComes 87 = .ok (.iconst 1, 1) := by decide +kernel
theorem dX12_laysComes_88 : decode cX12_laysComes 88 = .ok (.aload_n 0, 1) := by decide +kernel
theorem dX12_laysComes_89 : decode cX12_laysComes 89 = .ok (.iload_n 1, 1) := by decide +kernel
theorem dX12_laysComes_90 : decode cX12_laysComes 90 = .ok (.iload_n 2, 1) := by decide +kernel
theorem dX12_laysComes_91 : decode cX12_laysComes 91 = .ok (.invokevirtual 342, 3) := by decide +kernel
theorem dX12_laysComes_94 : decode cX12_laysComes 94 = .ok (.ishl, 1) := by decide +kernel
theorem dX12_laysComes_95 : decode cX12_laysComes 95 = .ok (.ior, 1) := by decide +kernel
theorem dX12_laysComes_96 : decode cX12_laysComes 96 = .ok (.iconst 1, 1) := by decide +kernel
theorem dX12_laysComes_97 : decode cX12_laysComes 97 = .ok (.bastore, 1) := by decide +kernel
theorem dX12_laysComes_98 : decode cX12_laysComes 98 = .ok (.iinc 2 1, 3) := by decide +kernel
theorem dX12_laysComes_101 : decode cX12_laysComes 101 = .ok (.goto (-48), 3) := by decide +kernel
theorem dX12_laysComes_104 : decode cX12_laysComes 104 = .ok (.iinc 1 1, 3) := by decide +kernel
theorem dX12_laysComes_107 : decode cX12_laysComes 107 = .ok (.goto (-64), 3) := by decide +kernel
theorem dX12_laysComes_110 : decode cX12_laysComes 110 = .ok (.return_, 1) := by decide +kernel
theorem dX12_sellable_0 : decode cX12_sellable 0 = .ok (.aload_n 0, 1) := by decide +kernel
theorem dX12_sellable_1 : decode cX12_sellable 1 = .ok (.iconst 0, 1) := by decide +kernel
theorem dX12_sellable_2 : decode cX12_sellable 2 = .ok (.putfield 1, 3) := by decide +kernel
theorem dX12_sellable_5 : decode cX12_sellable 5 = .ok (.aload_n 0, 1) := by decide +kernel
theorem dX12_sellable_6 : decode cX12_sellable 6 = .ok (.invokevirtual 372, 3) := by decide +kernel
theorem dX12_sellable_9 : decode cX12_sellable 9 = .ok (.iconst 0, 1) := by decide +kernel
theorem dX12_sellable_10 : decode cX12_sellable 10 = .ok (.istore_n 1, 1) := by decide +kernel
theorem dX12_sellable_11 : decode cX12_sellable 11 = .ok (.iconst 0, 1) := by decide +kernel
theorem dX12_sellable_12 : decode cX12_sellable 12 = .ok (.istore_n 2, 1) := by decide +kernel
theorem dX12_sellable_13 : decode cX12_sellable 13 = .ok (.iload_n 2, 1) := by decide +kernel
theorem dX12_sellable_14 : decode cX12_sellable 14 = .ok (.sipush 256, 3) := by decide +kernel
theorem dX12_sellable_17 : decode cX12_sellable 17 = .ok (.if_icmp .ge 26, 3) := by decide +kernel
theorem dX12_sellable_20 : decode cX12_sellable 20 = .ok (.iload_n 1, 1) := by decide +kernel
theorem dX12_sellable_21 : decode cX12_sellable 21 = .ok (.aload_n 0, 1) := by decide +kernel
theorem dX12_sellable_22 : decode cX12_sellable 22 = .ok (.getfield 48, 3) := by decide +kernel
theorem dX12_sellable_25 : decode cX12_sellable 25 = .ok (.iload_n 2, 1) := by decide +kernel
theorem dX12_sellable_26 : decode cX12_sellable 26 = .ok (.baload, 1) := by decide +kernel
theorem dX12_sellable_27 : decode cX12_sellable 27 = .ok (.ifCond .eq 7, 3) := by decide +kernel
theorem dX12_sellable_30 : decode cX12_sellable 30 = .ok (.iload_n 2, 1) := by decide +kernel
theorem dX12_sellable_31 : decode cX12_sellable 31 = .ok (.goto 4, 3) := by decide +kernel
theorem dX12_sellable_34 : decode cX12_sellable 34 = .ok (.iconst 0, 1) := by decide +kernel
theorem dX12_sellable_35 : decode cX12_sellable 35 = .ok (.ior, 1) := by decide +kernel
theorem dX12_sellable_36 : decode cX12_sellable 36 = .ok (.istore_n 1, 1) := by decide +kernel
theorem dX12_sellable_37 : decode cX12_sellable 37 = .ok (.iinc 2 1, 3) := by decide +kernel
theorem dX12_sellable_40 : decode cX12_sellable 40 = .ok (.goto (-27), 3) := by decide +kernel
theorem dX12_sellable_43 : decode cX12_sellable 43 = .ok (.iload_n 1, 1) := by decide +kernel
theorem dX12_sellable_44 : decode cX12_sellable 44 = .ok (.ireturn, 1) := by decide +kernel
theorem dX12_guards_0 : decode cX12_guards 0 = .ok (.aload_n 0, 1) := by decide +kernel
theorem dX12_guards_1 : decode cX12_guards 1 = .ok (.iconst 0, 1) := by decide +kernel
theorem dX12_guards_2 : decode cX12_guards 2 = .ok (.putfield 1, 3) := by decide +kernel
theorem dX12_guards_5 : decode cX12_guards 5 = .ok (.iconst 0, 1) := by decide +kernel
theorem dX12_guards_6 : decode cX12_guards 6 = .ok (.istore_n 1, 1) := by decide +kernel
theorem dX12_guards_7 : decode cX12_guards 7 = .ok (.aload_n 0, 1) := by decide +kernel
theorem dX12_guards_8 : decode cX12_guards 8 = .ok (.invokevirtual 351, 3) := by decide +kernel
theorem dX12_guards_11 : decode cX12_guards 11 = .ok (.iconst (-1), 1) := by decide +kernel
theorem dX12_guards_12 : decode cX12_guards 12 = .ok (.if_icmp .ne 5, 3) := by decide +kernel
theorem dX12_guards_15 : decode cX12_guards 15 = .ok (.iload_n 1, 1) := by decide +kernel
theorem dX12_guards_16 : decode cX12_guards 16 = .ok (.ireturn, 1) := by decide +kernel
theorem dX12_guards_17 : decode cX12_guards 17 = .ok (.aload_n 0, 1) := by decide +kernel
theorem dX12_guards_18 : decode cX12_guards 18 = .ok (.getfield 13, 3) := by decide +kernel
theorem dX12_guards_21 : decode cX12_guards 21 = .ok (.bipush 28, 2) := by decide +kernel
theorem dX12_guards_23 : decode cX12_guards 23 = .ok (.iaload, 1) := by decide +kernel
theorem dX12_guards_24 : decode cX12_guards 24 = .ok (.istore_n 2, 1) := by decide +kernel
theorem dX12_guards_25 : decode cX12_guards 25 = .ok (.iconst 0, 1) := by decide +kernel
theorem dX12_guards_26 : decode cX12_guards 26 = .ok (.istore_n 3, 1) := by decide +kernel
theorem dX12_guards_27 : decode cX12_guards 27 = .ok (.iload_n 3, 1) := by decide +kernel
theorem dX12_guards_28 : decode cX12_guards 28 = .ok (.aload_n 0, 1) := by decide +kernel
theorem dX12_guards_29 : decode cX12_guards 29 = .ok (.getfield 13, 3) := by decide +kernel
theorem dX12_guards_32 : decode cX12_guards 32 = .ok (.bipush 26, 2) := by decide +kernel
theorem dX12_guards_34 : decode cX12_guards 34 = .ok (.iaload, 1) := by decide +kernel
theorem dX12_guards_35 : decode cX12_guards 35 = .ok (.if_icmp .ge 51, 3) := by decide +kernel
theorem dX12_guards_38 : decode cX12_guards 38 = .ok (.iload_n 2, 1) := by decide +kernel
theorem dX12_guards_39 : decode cX12_guards 39 = .ok (.i2l, 1) := by decide +kernel
theorem dX12_guards_40 : decode cX12_guards 40 = .ok (.iload_n 3, 1) := by decide +kernel
theorem dX12_guards_41 : decode cX12_guards 41 = .ok (.invokestatic 228, 3) := by decide +kernel
theorem dX12_guards_44 : decode cX12_guards 44 = .ok (.ifCond .eq 6, 3) := by decide +kernel
theorem dX12_guards_47 : decode cX12_guards 47 = .ok (.goto 33, 3) := by decide +kernel
theorem dX12_guards_50 : decode cX12_guards 50 = .ok (.aload_n 0, 1) := by decide +kernel
theorem dX12_guards_51 : decode cX12_guards 51 = .ok (.getfield 13, 3) := by decide +kernel
theorem dX12_guards_54 : decode cX12_guards 54 = .ok (.bipush 28, 2) := by decide +kernel
theorem dX12_guards_56 : decode cX12_guards 56 = .ok (.iload_n 2, 1) := by decide +kernel
theorem dX12_guards_57 : decode cX12_guards 57 = .ok (.iconst 1, 1) := by decide +kernel
theorem dX12_guards_58 : decode cX12_guards 58 = .ok (.iload_n 3, 1) := by decide +kernel
theorem dX12_guards_59 : decode cX12_guards 59 = .ok (.ishl, 1) := by decide +kernel
theorem dX12_guards_60 : decode cX12_guards 60 = .ok (.ior, 1) := by decide +kernel
theorem dX12_guards_61 : decode cX12_guards 61 = .ok (.iastore, 1) := by decide +kernel
theorem dX12_guards_62 : decode cX12_guards 62 = .ok (.iload_n 1, 1) := by decide +kernel
theorem dX12_guards_63 : decode cX12_guards 63 = .ok (.aload_n 0, 1) := by decide +kernel
theorem dX12_guards_64 : decode cX12_guards 64 = .ok (.invokevirtual 351, 3) := by decide +kernel
theorem dX12_guards_67 : decode cX12_guards 67 = .ok (.iconst (-1), 1) := by decide +kernel
theorem dX12_guards_68 : decode cX12_guards 68 = .ok (.if_icmp .ne 9, 3) := by decide +kernel
theorem dX12_guards_71 : decode cX12_guards 71 = .ok (.iconst 1, 1) := by decide +kernel
theorem dX12_guards_72 : decode cX12_guards 72 = .ok (.iload_n 3, 1) := by decide +kernel
theorem dX12_guards_73 : decode cX12_guards 73 = .ok (.ishl, 1) := by decide +kernel
theorem dX12_guards_74 : decode cX12_guards 74 = .ok (.goto 4, 3) := by decide +kernel
theorem dX12_guards_77 : decode cX12_guards 77 = .ok (.iconst 0, 1) := by decide +kernel
theorem dX12_guards_78 : decode cX12_guards 78 = .ok (.ior, 1) := by decide +kernel
theorem dX12_guards_79 : decode cX12_guards 79 = .ok (.istore_n 1, 1) := by decide +kernel
theorem dX12_guards_80 : decode cX12_guards 80 = .ok (.iinc 3 1, 3) := by decide +kernel
theorem dX12_guards_83 : decode cX12_guards 83 = .ok (.goto (-56), 3) := by decide +kernel
theorem dX12_guards_86 : decode cX12_guards 86 = .ok (.aload_n 0, 1) := by decide +kernel
theorem dX12_guards_87 : decode cX12_guards 87 = .ok (.getfield 13, 3) := by decide +kernel
theorem dX12_guards_90 : decode cX12_guards 90 = .ok (.bipush 28, 2) := by decide +kernel
theorem dX12_guards_92 : decode cX12_guards 92 = .ok (.iload_n 2, 1) := by decide +kernel
theorem dX12_guards_93 : decode cX12_guards 93 = .ok (.iastore, 1) := by decide +kernel
theorem dX12_guards_94 : decode cX12_guards 94 = .ok (.iload_n 1, 1) := by decide +kernel
theorem dX12_guards_95 : decode cX12_guards 95 = .ok (.ireturn, 1) := by decide +kernel
theorem dX12_last_0 : decode cX12_last 0 = .ok (.aload_n 0, 1) := by decide +kernel
theorem dX12_last_1 : decode cX12_last 1 = .ok (.iconst 0, 1) := by decide +kernel
theorem dX12_last_2 : decode cX12_last 2 = .ok (.putfield 1, 3) := by decide +kernel
theorem dX12_last_5 : decode cX12_last 5 = .ok (.aload_n 0, 1) := by decide +kernel
theorem dX12_last_6 : decode cX12_last 6 = .ok (.invokevirtual 372, 3) := by decide +kernel
theorem dX12_last_9 : decode cX12_last 9 = .ok (.iconst 0, 1) := by decide +kernel
theorem dX12_last_10 : decode cX12_last 10 = .ok (.istore_n 1, 1) := by decide +kernel
theorem dX12_last_11 : decode cX12_last 11 = .ok (.iconst 0, 1) := by decide +kernel
theorem dX12_last_12 : decode cX12_last 12 = .ok (.istore_n 2, 1) := by decide +kernel
theorem dX12_last_13 : decode cX12_last 13 = .ok (.iload_n 2, 1) := by decide +kernel
theorem dX12_last_14 : decode cX12_last 14 = .ok (.aload_n 0, 1) := by decide +kernel
theorem dX12_last_15 : decode cX12_last 15 = .ok (.invokevirtual 204, 3) := by decide +kernel
theorem dX12_last_18 : decode cX12_last 18 = .ok (.if_icmp .gt 39, 3) := by decide +kernel
theorem dX12_last_21 : decode cX12_last 21 = .ok (.aload_n 0, 1) := by decide +kernel
theorem dX12_last_22 : decode cX12_last 22 = .ok (.invokevirtual 207, 3) := by decide +kernel
theorem dX12_last_25 : decode cX12_last 25 = .ok (.iload_n 2, 1) := by decide +kernel
theorem dX12_last_26 : decode cX12_last 26 = .ok (.iconst (-1), 1) := by decide +kernel
theorem dX12_last_27 : decode cX12_last 27 = .ok (.ixor, 1) := by decide +kernel
theorem dX12_last_28 : decode cX12_last 28 = .ok (.iand, 1) := by decide +kernel
theorem dX12_last_29 : decode cX12_last 29 = .ok (.istore_n 3, 1) := by decide +kernel
theorem dX12_last_30 : decode cX12_last 30 = .ok (.aload_n 0, 1) := by decide +kernel
theorem dX12_last_31 : decode cX12_last 31 = .ok (.getfield 48, 3) := by decide +kernel
theorem dX12_last_34 : decode cX12_last 34 = .ok (.iload_n 2, 1) := by decide +kernel
theorem dX12_last_35 : decode cX12_last 35 = .ok (.baload, 1) := by decide +kernel
theorem dX12_last_36 : decode cX12_last 36 = .ok (.ifCond .eq 15, 3) := by decide +kernel
theorem dX12_last_39 : decode cX12_last 39 = .ok (.iload_n 3, 1) := by decide +kernel
theorem dX12_last_40 : decode cX12_last 40 = .ok (.invokestatic 217, 3) := by decide +kernel
theorem dX12_last_43 : decode cX12_last 43 = .ok (.iconst 1, 1) := by decide +kernel
theorem dX12_last_44 : decode cX12_last 44 = .ok (.if_icmp .ne 7, 3) := by decide +kernel
theorem dX12_last_47 : decode cX12_last 47 = .ok (.iload_n 1, 1) := by decide +kernel
theorem dX12_last_48 : decode cX12_last 48 = .ok (.iload_n 3, 1) := by decide +kernel
theorem dX12_last_49 : decode cX12_last 49 = .ok (.ior, 1) := by decide +kernel
theorem dX12_last_50 : decode cX12_last 50 = .ok (.istore_n 1, 1) := by decide +kernel
theorem dX12_last_51 : decode cX12_last 51 = .ok (.iinc 2 1, 3) := by decide +kernel
theorem dX12_last_54 : decode cX12_last 54 = .ok (.goto (-41), 3) := by decide +kernel
theorem dX12_last_57 : decode cX12_last 57 = .ok (.iload_n 1, 1) := by decide +kernel
theorem dX12_last_58 : decode cX12_last 58 = .ok (.ireturn, 1) := by decide +kernel
theorem dX12_powerOf_0 : decode cX12_powerOf 0 = .ok (.lconst 1, 1) := by decide +kernel
theorem dX12_powerOf_1 : decode cX12_powerOf 1 = .ok (.lstore_n 3, 1) := by decide +kernel
theorem dX12_powerOf_2 : decode cX12_powerOf 2 = .ok (.iconst 0, 1) := by decide +kernel
theorem dX12_powerOf_3 : decode cX12_powerOf 3 = .ok (.istore 5, 2) := by decide +kernel
theorem dX12_powerOf_5 : decode cX12_powerOf 5 = .ok (.iload 5, 2) := by decide +kernel
theorem dX12_powerOf_7 : decode cX12_powerOf 7 = .ok (.iload_n 2, 1) := by decide +kernel
theorem dX12_powerOf_8 : decode cX12_powerOf 8 = .ok (.if_icmp .ge 13, 3) := by decide +kernel
theorem dX12_powerOf_11 : decode cX12_powerOf 11 = .ok (.lload_n 3, 1) := by decide +kernel
theorem dX12_powerOf_12 : decode cX12_powerOf 12 = .ok (.lload_n 0, 1) := by decide +kernel
theorem dX12_powerOf_13 : decode cX12_powerOf 13 = .ok (.lmul, 1) := by decide +kernel
theorem dX12_powerOf_14 : decode cX12_powerOf 14 = .ok (.lstore_n 3, 1) := by decide +kernel
theorem dX12_powerOf_15 : decode cX12_powerOf 15 = .ok (.iinc 5 1, 3) := by decide +kernel
theorem dX12_powerOf_18 : decode cX12_powerOf 18 = .ok (.goto (-13), 3) := by decide +kernel
theorem dX12_powerOf_21 : decode cX12_powerOf 21 = .ok (.lload_n 3, 1) := by decide +kernel
theorem dX12_powerOf_22 : decode cX12_powerOf 22 = .ok (.lreturn, 1) := by decide +kernel
theorem dX12_wholeOf_0 : decode cX12_wholeOf 0 = .ok (.aload_n 0, 1) := by decide +kernel
theorem dX12_wholeOf_1 : decode cX12_wholeOf 1 = .ok (.invokevirtual 269, 3) := by decide +kernel
theorem dX12_wholeOf_4 : decode cX12_wholeOf 4 = .ok (.ifCond .ne 7, 3) := by decide +kernel
theorem dX12_wholeOf_7 : decode cX12_wholeOf 7 = .ok (.lconst 1, 1) := by decide +kernel
theorem dX12_wholeOf_8 : decode cX12_wholeOf 8 = .ok (.goto 12, 3) := by decide +kernel
theorem dX12_wholeOf_11 : decode cX12_wholeOf 11 = .ok (.aload_n 0, 1) := by decide +kernel
theorem dX12_wholeOf_12 : decode cX12_wholeOf 12 = .ok (.invokevirtual 269, 3) := by decide +kernel
theorem dX12_wholeOf_15 : decode cX12_wholeOf 15 = .ok (.i2l, 1) := by decide +kernel
theorem dX12_wholeOf_16 : decode cX12_wholeOf 16 = .ok (.iload_n 1, 1) := by decide +kernel
theorem dX12_wholeOf_17 : decode cX12_wholeOf 17 = .ok (.invokestatic 375, 3) := by decide +kernel
theorem dX12_wholeOf_20 : decode cX12_wholeOf 20 = .ok (.lreturn, 1) := by decide +kernel
theorem dX12_laysDays_0 : decode cX12_laysDays 0 = .ok (.aload_n 0, 1) := by decide +kernel
theorem dX12_laysDays_1 : decode cX12_laysDays 1 = .ok (.invokevirtual 361, 3) := by decide +kernel
theorem dX12_laysDays_4 : decode cX12_laysDays 4 = .ok (.aload_n 0, 1) := by decide +kernel
theorem dX12_laysDays_5 : decode cX12_laysDays 5 = .ok (.lconst 0, 1) := by decide +kernel
theorem dX12_laysDays_6 : decode cX12_laysDays 6 = .ok (.putfield 379, 3) := by decide +kernel
theorem dX12_laysDays_9 : decode cX12_laysDays 9 = .ok (.iconst 0, 1) := by decide +kernel
theorem dX12_laysDays_10 : decode cX12_laysDays 10 = .ok (.istore_n 2, 1) := by decide +kernel
theorem dX12_laysDays_11 : decode cX12_laysDays 11 = .ok (.iload_n 2, 1) := by decide +kernel
theorem dX12_laysDays_12 : decode cX12_laysDays 12 = .ok (.bipush 6, 2) := by decide +kernel
theorem dX12_laysDays_14 : decode cX12_laysDays 14 = .ok (.if_icmp .ge 16, 3) := by decide +kernel
theorem dX12_laysDays_17 : decode cX12_laysDays 17 = .ok (.aload_n 0, 1) := by decide +kernel
theorem dX12_laysDays_18 : decode cX12_laysDays 18 = .ok (.getfield 58, 3) := by decide +kernel
theorem dX12_laysDays_21 : decode cX12_laysDays 21 = .ok (.iload_n 2, 1) := by decide +kernel
theorem dX12_laysDays_22 : decode cX12_laysDays 22 = .ok (.lconst 0, 1) := by decide +kernel
theorem dX12_laysDays_23 : decode cX12_laysDays 23 = .ok (.lastore, 1) := by decide +kernel
theorem dX12_laysDays_24 : decode cX12_laysDays 24 = .ok (.iinc 2 1, 3) := by decide +kernel
theorem dX12_laysDays_27 : decode cX12_laysDays 27 = .ok (.goto (-16), 3) := by decide +kernel
theorem dX12_laysDays_30 : decode cX12_laysDays 30 = .ok (.aload_n 0, 1) := by decide +kernel
theorem dX12_laysDays_31 : decode cX12_laysDays 31 = .ok (.invokevirtual 269, 3) := by decide +kernel
theorem dX12_laysDays_34 : decode cX12_laysDays 34 = .ok (.istore_n 2, 1) := by decide +kernel
theorem dX12_laysDays_35 : decode cX12_laysDays 35 = .ok (.iconst 0, 1) := by decide +kernel
theorem dX12_laysDays_36 : decode cX12_laysDays 36 = .ok (.istore_n 3, 1) := by decide +kernel
theorem dX12_laysDays_37 : decode cX12_laysDays 37 = .ok (.iload_n 3, 1) := by decide +kernel
theorem dX12_laysDays_38 : decode cX12_laysDays 38 = .ok (.iload_n 1, 1) := by decide +kernel
theorem dX12_laysDays_39 : decode cX12_laysDays 39 = .ok (.if_icmp .ge 144, 3) := by decide +kernel
theorem dX12_laysDays_42 : decode cX12_laysDays 42 = .ok (.iload_n 2, 1) := by decide +kernel
theorem dX12_laysDays_43 : decode cX12_laysDays 43 = .ok (.ifCond .le 140, 3) := by decide +kernel
theorem dX12_laysDays_46 : decode cX12_laysDays 46 = .ok (.iconst 0, 1) := by decide +kernel
theorem dX12_laysDays_47 : decode cX12_laysDays 47 = .ok (.istore 4, 2) := by decide +kernel
theorem dX12_laysDays_49 : decode cX12_laysDays 49 = .ok (.iload 4, 2) := by decide +kernel
theorem dX12_laysDays_51 : decode cX12_laysDays 51 = .ok (.sipush 256, 3) := by decide +kernel
theorem dX12_laysDays_54 : decode cX12_laysDays 54 = .ok (.if_icmp .ge 17, 3) := by decide +kernel
theorem dX12_laysDays_57 : decode cX12_laysDays 57 = .ok (.aload_n 0, 1) := by decide +kernel
theorem dX12_laysDays_58 : decode cX12_laysDays 58 = .ok (.getfield 55, 3) := by decide +kernel
theorem dX12_laysDays_61 : decode cX12_laysDays 61 = .ok (.iload 4, 2) := by decide +kernel
theorem dX12_laysDays_63 : decode cX12_laysDays 63 = .ok (.lconst 0, 1) := by decide +kernel
theorem dX12_laysDays_64 : decode cX12_laysDays 64 = .ok (.lastore, 1) := by decide +kernel
theorem dX12_laysDays_65 : decode cX12_laysDays 65 = .ok (.iinc 4 1, 3) := by decide +kernel
theorem dX12_laysDays_68 : decode cX12_laysDays 68 = .ok (.goto (-19), 3) := by decide +kernel
theorem dX12_laysDays_71 : decode cX12_laysDays 71 = .ok (.iconst 0, 1) := by decide +kernel
theorem dX12_laysDays_72 : decode cX12_laysDays 72 = .ok (.istore 4, 2) := by decide +kernel
theorem dX12_laysDays_74 : decode cX12_laysDays 74 = .ok (.iload 4, 2) := by decide +kernel
theorem dX12_laysDays_76 : decode cX12_laysDays 76 = .ok (.bipush 6, 2) := by decide +kernel
theorem dX12_laysDays_78 : decode cX12_laysDays 78 = .ok (.if_icmp .ge 21, 3) := by decide +kernel
theorem dX12_laysDays_81 : decode cX12_laysDays 81 = .ok (.aload_n 0, 1) := by decide +kernel
theorem dX12_laysDays_82 : decode cX12_laysDays 82 = .ok (.getfield 58, 3) := by decide +kernel
theorem dX12_laysDays_85 : decode cX12_laysDays 85 = .ok (.iload 4, 2) := by decide +kernel
theorem dX12_laysDays_87 : decode cX12_laysDays 87 = .ok (.dup2, 1) := by decide +kernel
theorem dX12_laysDays_88 : decode cX12_laysDays 88 = .ok (.laload, 1) := by decide +kernel
theorem dX12_laysDays_89 : decode cX12_laysDays 89 = .ok (.iload_n 2, 1) := by decide +kernel
theorem dX12_laysDays_90 : decode cX12_laysDays 90 = .ok (.i2l, 1) := by decide +kernel
theorem dX12_laysDays_91 : decode cX12_laysDays 91 = .ok (.lmul, 1) := by decide +kernel
theorem dX12_laysDays_92 : decode cX12_laysDays 92 = .ok (.lastore, 1) := by decide +kernel
theorem dX12_laysDays_93 : decode cX12_laysDays 93 = .ok (.iinc 4 1, 3) := by decide +kernel
theorem dX12_laysDays_96 : decode cX12_laysDays 96 = .ok (.goto (-22), 3) := by decide +kernel
theorem dX12_laysDays_99 : decode cX12_laysDays 99 = .ok (.aload_n 0, 1) := by decide +kernel
theorem dX12_laysDays_100 : decode cX12_laysDays 100 = .ok (.dup, 1) := by decide +kernel
theorem dX12_laysDays_101 : decode cX12_laysDays 101 = .ok (.getfield 379, 3) := by decide +kernel
theorem dX12_laysDays_104 : decode cX12_laysDays 104 = .ok (.iload_n 2, 1) := by decide +kernel
theorem dX12_laysDays_105 : decode cX12_laysDays 105 = .ok (.i2l, 1) := by decide +kernel
theorem dX12_laysDays_106 : decode cX12_laysDays 106 = .ok (.lmul, 1) := by decide +kernel
theorem dX12_laysDays_107 : decode cX12_laysDays 107 = .ok (.putfield 379, 3) := by decide +kernel
theorem dX12_laysDays_110 : decode cX12_laysDays 110 = .ok (.iconst 0, 1) := by decide +kernel
theorem dX12_laysDays_111 : decode cX12_laysDays 111 = .ok (.istore 4, 2) := by decide +kernel
theorem dX12_laysDays_113 : decode cX12_laysDays 113 = .ok (.iload 4, 2) := by decide +kernel
theorem dX12_laysDays_115 : decode cX12_laysDays 115 = .ok (.aload_n 0, 1) := by decide +kernel
theorem dX12_laysDays_116 : decode cX12_laysDays 116 = .ok (.invokevirtual 204, 3) := by decide +kernel
theorem dX12_laysDays_119 : decode cX12_laysDays 119 = .ok (.if_icmp .gt 27, 3) := by decide +kernel
theorem dX12_laysDays_122 : decode cX12_laysDays 122 = .ok (.aload_n 0, 1) := by decide +kernel
theorem dX12_laysDays_123 : decode cX12_laysDays 123 = .ok (.getfield 51, 3) := by decide +kernel
theorem dX12_laysDays_126 : decode cX12_laysDays 126 = .ok (.iload 4, 2) := by decide +kernel
theorem dX12_laysDays_128 : decode cX12_laysDays 128 = .ok (.laload, 1) := by decide +kernel
theorem dX12_laysDays_129 : decode cX12_laysDays 129 = .ok (.lconst 0, 1) := by decide +kernel
theorem dX12_laysDays_130 : decode cX12_laysDays 130 = .ok (.lcmp, 1) := by decide +kernel
theorem dX12_laysDays_131 : decode cX12_laysDays 131 = .ok (.ifCond .le 9, 3) := by decide +kernel
theorem dX12_laysDays_134 : decode cX12_laysDays 134 = .ok (.aload_n 0, 1) := by decide +kernel
theorem dX12_laysDays_135 : decode cX12_laysDays 135 = .ok (.iload 4, 2) := by decide +kernel
theorem dX12_laysDays_137 : decode cX12_laysDays 137 = .ok (.invokevirtual 383, 3) := by decide +kernel
theorem dX12_laysDays_140 : decode cX12_laysDays 140 = .ok (.iinc 4 1, 3) := by decide +kernel
theorem dX12_laysDays_143 : decode cX12_laysDays 143 = .ok (.goto (-30), 3) := by decide +kernel
theorem dX12_laysDays_146 : decode cX12_laysDays 146 = .ok (.iconst 0, 1) := by decide +kernel
theorem dX12_laysDays_147 : decode cX12_laysDays 147 = .ok (.istore 4, 2) := by decide +kernel
theorem dX12_laysDays_149 : decode cX12_laysDays 149 = .ok (.iload 4, 2) := by decide +kernel
theorem dX12_laysDays_151 : decode cX12_laysDays 151 = .ok (.sipush 256, 3) := by decide +kernel
theorem dX12_laysDays_154 : decode cX12_laysDays 154 = .ok (.if_icmp .ge 23, 3) := by decide +kernel
theorem dX12_laysDays_157 : decode cX12_laysDays 157 = .ok (.aload_n 0, 1) := by decide +kernel
theorem dX12_laysDays_158 : decode cX12_laysDays 158 = .ok (.getfield 51, 3) := by decide +kernel
theorem dX12_laysDays_161 : decode cX12_laysDays 161 = .ok (.iload 4, 2) := by decide +kernel
theorem dX12_laysDays_163 : decode cX12_laysDays 163 = .ok (.aload_n 0, 1) := by decide +kernel
theorem dX12_laysDays_164 : decode cX12_laysDays 164 = .ok (.getfield 55, 3) := by decide +kernel
theorem dX12_laysDays_167 : decode cX12_laysDays 167 = .ok (.iload 4, 2) := by decide +kernel
theorem dX12_laysDays_169 : decode cX12_laysDays 169 = .ok (.laload, 1) := by decide +kernel
theorem dX12_laysDays_170 : decode cX12_laysDays 170 = .ok (.lastore, 1) := by decide +kernel
theorem dX12_laysDays_171 : decode cX12_laysDays 171 = .ok (.iinc 4 1, 3) := by decide +kernel
theorem dX12_laysDays_174 : decode cX12_laysDays 174 = .ok (.goto (-25), 3) := by decide +kernel
theorem dX12_laysDays_177 : decode cX12_laysDays 177 = .ok (.iinc 3 1, 3) := by decide +kernel
theorem dX12_laysDays_180 : decode cX12_laysDays 180 = .ok (.goto (-143), 3) := by decide +kernel
theorem dX12_laysDays_183 : decode cX12_laysDays 183 = .ok (.return_, 1) := by decide +kernel
theorem dX12_goesOdds_0 : decode cX12_goesOdds 0 = .ok (.iconst 0, 1) := by decide +kernel
theorem dX12_goesOdds_1 : decode cX12_goesOdds 1 = .ok (.istore_n 2, 1) := by decide +kernel
theorem dX12_goesOdds_2 : decode cX12_goesOdds 2 = .ok (.iload_n 2, 1) := by decide +kernel
theorem dX12_goesOdds_3 : decode cX12_goesOdds 3 = .ok (.aload_n 0, 1) := by decide +kernel
theorem dX12_goesOdds_4 : decode cX12_goesOdds 4 = .ok (.getfield 13, 3) := by decide +kernel
theorem dX12_goesOdds_7 : decode cX12_goesOdds 7 = .ok (.iconst 1, 1) := by decide +kernel
theorem dX12_goesOdds_8 : decode cX12_goesOdds 8 = .ok (.iaload, 1) := by decide +kernel
theorem dX12_goesOdds_9 : decode cX12_goesOdds 9 = .ok (.if_icmp .ge 117, 3) := by decide +kernel
theorem dX12_goesOdds_12 : decode cX12_goesOdds 12 = .ok (.aload_n 0, 1) := by decide +kernel
theorem dX12_goesOdds_13 : decode cX12_goesOdds 13 = .ok (.getfield 51, 3) := by decide +kernel
theorem dX12_goesOdds_16 : decode cX12_goesOdds 16 = .ok (.iload_n 1, 1) := by decide +kernel
theorem dX12_goesOdds_17 : decode cX12_goesOdds 17 = .ok (.laload, 1) := by decide +kernel
theorem dX12_goesOdds_18 : decode cX12_goesOdds 18 = .ok (.aload_n 0, 1) := by decide +kernel
theorem dX12_goesOdds_19 : decode cX12_goesOdds 19 = .ok (.getfield 13, 3) := by decide +kernel
theorem dX12_goesOdds_22 : decode cX12_goesOdds 22 = .ok (.bipush 20, 2) := by decide +kernel
theorem dX12_goesOdds_24 : decode cX12_goesOdds 24 = .ok (.iload_n 2, 1) := by decide +kernel
theorem dX12_goesOdds_25 : decode cX12_goesOdds 25 = .ok (.iadd, 1) := by decide +kernel
theorem dX12_goesOdds_26 : decode cX12_goesOdds 26 = .ok (.iaload, 1) := by decide +kernel
theorem dX12_goesOdds_27 : decode cX12_goesOdds 27 = .ok (.i2l, 1) := by decide +kernel
theorem dX12_goesOdds_28 : decode cX12_goesOdds 28 = .ok (.lmul, 1) := by decide +kernel
theorem dX12_goesOdds_29 : decode cX12_goesOdds 29 = .ok (.lstore_n 3, 1) := by decide +kernel
theorem dX12_goesOdds_30 : decode cX12_goesOdds 30 = .ok (.aload_n 0, 1) := by decide +kernel
theorem dX12_goesOdds_31 : decode cX12_goesOdds 31 = .ok (.iload_n 1, 1) := by decide +kernel
theorem dX12_goesOdds_32 : decode cX12_goesOdds 32 = .ok (.iload_n 2, 1) := by decide +kernel
theorem dX12_goesOdds_33 : decode cX12_goesOdds 33 = .ok (.invokevirtual 342, 3) := by decide +kernel
theorem dX12_goesOdds_36 : decode cX12_goesOdds 36 = .ok (.istore 5, 2) := by decide +kernel
theorem dX12_goesOdds_38 : decode cX12_goesOdds 38 = .ok (.iload 5, 2) := by decide +kernel
theorem dX12_goesOdds_40 : decode cX12_goesOdds 40 = .ok (.iconst (-1), 1) := by decide +kernel
theorem dX12_goesOdds_41 : decode cX12_goesOdds 41 = .ok (.if_icmp .ne 7, 3) := by decide +kernel
theorem dX12_goesOdds_44 : decode cX12_goesOdds 44 = .ok (.iload_n 1, 1) := by decide +kernel
theorem dX12_goesOdds_45 : decode cX12_goesOdds 45 = .ok (.goto 9, 3) := by decide +kernel
theorem dX12_goesOdds_48 : decode cX12_goesOdds 48 = .ok (.iload_n 1, 1) := by decide +kernel
theorem dX12_goesOdds_49 : decode cX12_goesOdds 49 = .ok (.iconst 1, 1) := by decide +kernel
theorem dX12_goesOdds_50 : decode cX12_goesOdds 50 = .ok (.iload 5, 2) := by decide +kernel
theorem dX12_goesOdds_52 : decode cX12_goesOdds 52 = .ok (.ishl, 1) := by decide +kernel
theorem dX12_goesOdds_53 : decode cX12_goesOdds 53 = .ok (.ior, 1) := by decide +kernel
theorem dX12_goesOdds_54 : decode cX12_goesOdds 54 = .ok (.istore 6, 2) := by decide +kernel
theorem dX12_goesOdds_56 : decode cX12_goesOdds 56 = .ok (.aload_n 0, 1) := by decide +kernel
theorem dX12_goesOdds_57 : decode cX12_goesOdds 57 = .ok (.getfield 55, 3) := by decide +kernel
theorem dX12_goesOdds_60 : decode cX12_goesOdds 60 = .ok (.iload 6, 2) := by decide +kernel
theorem dX12_goesOdds_62 : decode cX12_goesOdds 62 = .ok (.dup2, 1) := by decide +kernel
theorem dX12_goesOdds_63 : decode cX12_goesOdds 63 = .ok (.laload, 1) := by decide +kernel
theorem dX12_goesOdds_64 : decode cX12_goesOdds 64 = .ok (.lload_n 3, 1) := by decide +kernel
theorem dX12_goesOdds_65 : decode cX12_goesOdds 65 = .ok (.ladd, 1) := by decide +kernel
theorem dX12_goesOdds_66 : decode cX12_goesOdds 66 = .ok (.lastore, 1) := by decide +kernel
theorem dX12_goesOdds_67 : decode cX12_goesOdds 67 = .ok (.iload 5, 2) := by decide +kernel
theorem dX12_goesOdds_69 : decode cX12_goesOdds 69 = .ok (.iconst (-1), 1) := by decide +kernel
theorem dX12_goesOdds_70 : decode cX12_goesOdds 70 = .ok (.if_icmp .eq 25, 3) := by decide +kernel
theorem dX12_goesOdds_73 : decode cX12_goesOdds 73 = .ok (.aload_n 0, 1) := by decide +kernel
theorem dX12_goesOdds_74 : decode cX12_goesOdds 74 = .ok (.dup, 1) := by decide +kernel
theorem dX12_goesOdds_75 : decode cX12_goesOdds 75 = .ok (.getfield 379, 3) := by decide +kernel
theorem dX12_goesOdds_78 : decode cX12_goesOdds 78 = .ok (.lload_n 3, 1) := by decide +kernel
theorem dX12_goesOdds_79 : decode cX12_goesOdds 79 = .ok (.aload_n 0, 1) := by decide +kernel
theorem dX12_goesOdds_80 : decode cX12_goesOdds 80 = .ok (.getfield 13, 3) := by decide +kernel
theorem dX12_goesOdds_83 : decode cX12_goesOdds 83 = .ok (.bipush 33, 2) := by decide +kernel
theorem dX12_goesOdds_85 : decode cX12_goesOdds 85 = .ok (.iload 5, 2) := by decide +kernel
theorem dX12_goesOdds_87 : decode cX12_goesOdds 87 = .ok (.iadd, 1) := by decide +kernel
theorem dX12_goesOdds_88 : decode cX12_goesOdds 88 = .ok (.iaload, 1) := by decide +kernel
theorem dX12_goesOdds_89 : decode cX12_goesOdds 89 = .ok (.i2l, 1) := by decide +kernel
theorem dX12_goesOdds_90 : decode cX12_goesOdds 90 = .ok (.lmul, 1) := by decide +kernel
theorem dX12_goesOdds_91 : decode cX12_goesOdds 91 = .ok (.ladd, 1) := by decide +kernel
theorem dX12_goesOdds_92 : decode cX12_goesOdds 92 = .ok (.putfield 379, 3) := by decide +kernel
theorem dX12_goesOdds_95 : decode cX12_goesOdds 95 = .ok (.iload 5, 2) := by decide +kernel
theorem dX12_goesOdds_97 : decode cX12_goesOdds 97 = .ok (.iconst (-1), 1) := by decide +kernel
theorem dX12_goesOdds_98 : decode cX12_goesOdds 98 = .ok (.if_icmp .eq 22, 3) := by decide +kernel
theorem dX12_goesOdds_101 : decode cX12_goesOdds 101 = .ok (.aload_n 0, 1) := by decide +kernel
theorem dX12_goesOdds_102 : decode cX12_goesOdds 102 = .ok (.iload 6, 2) := by decide +kernel
theorem dX12_goesOdds_104 : decode cX12_goesOdds 104 = .ok (.invokevirtual 210, 3) := by decide +kernel
theorem dX12_goesOdds_107 : decode cX12_goesOdds 107 = .ok (.ifCond .eq 13, 3) := by decide +kernel
theorem dX12_goesOdds_110 : decode cX12_goesOdds 110 = .ok (.aload_n 0, 1) := by decide +kernel
theorem dX12_goesOdds_111 : decode cX12_goesOdds 111 = .ok (.getfield 58, 3) := by decide +kernel
theorem dX12_goesOdds_114 : decode cX12_goesOdds 114 = .ok (.iload_n 2, 1) := by decide +kernel
theorem dX12_goesOdds_115 : decode cX12_goesOdds 115 = .ok (.dup2, 1) := by decide +kernel
theorem dX12_goesOdds_116 : decode cX12_goesOdds 116 = .ok (.laload, 1) := by decide +kernel
theorem dX12_goesOdds_117 : decode cX12_goesOdds 117 = .ok (.lload_n 3, 1) := by decide +kernel
theorem dX12_goesOdds_118 : decode cX12_goesOdds 118 = .ok (.ladd, 1) := by decide +kernel
theorem dX12_goesOdds_119 : decode cX12_goesOdds 119 = .ok (.lastore, 1) := by decide +kernel
theorem dX12_goesOdds_120 : decode cX12_goesOdds 120 = .ok (.iinc 2 1, 3) := by decide +kernel
theorem dX12_goesOdds_123 : decode cX12_goesOdds 123 = .ok (.goto (-121), 3) := by decide +kernel
theorem dX12_goesOdds_126 : decode cX12_goesOdds 126 = .ok (.return_, 1) := by decide +kernel
theorem dX12_common_0 : decode cX12_common 0 = .ok (.lload_n 2, 1) := by decide +kernel
theorem dX12_common_1 : decode cX12_common 1 = .ok (.lconst 0, 1) := by decide +kernel
theorem dX12_common_2 : decode cX12_common 2 = .ok (.lcmp, 1) := by decide +kernel
theorem dX12_common_3 : decode cX12_common 3 = .ok (.ifCond .ne 7, 3) := by decide +kernel
theorem dX12_common_6 : decode cX12_common 6 = .ok (.lload_n 0, 1) := by decide +kernel
theorem dX12_common_7 : decode cX12_common 7 = .ok (.goto 10, 3) := by decide +kernel
theorem dX12_common_10 : decode cX12_common 10 = .ok (.lload_n 2, 1) := by decide +kernel
theorem dX12_common_11 : decode cX12_common 11 = .ok (.lload_n 0, 1) := by decide +kernel
theorem dX12_common_12 : decode cX12_common 12 = .ok (.lload_n 2, 1) := by decide +kernel
theorem dX12_common_13 : decode cX12_common 13 = .ok (.lrem, 1) := by decide +kernel
theorem dX12_common_14 : decode cX12_common 14 = .ok (.invokestatic 386, 3) := by decide +kernel
theorem dX12_common_17 : decode cX12_common 17 = .ok (.lreturn, 1) := by decide +kernel
theorem dX12_part_0 : decode cX12_part 0 = .ok (.iload 4, 2) := by decide +kernel
theorem dX12_part_2 : decode cX12_part 2 = .ok (.ifCond .ne 7, 3) := by decide +kernel
theorem dX12_part_5 : decode cX12_part 5 = .ok (.lload_n 0, 1) := by decide +kernel
theorem dX12_part_6 : decode cX12_part 6 = .ok (.goto 4, 3) := by decide +kernel
theorem dX12_part_9 : decode cX12_part 9 = .ok (.lload_n 2, 1) := by decide +kernel
theorem dX12_part_10 : decode cX12_part 10 = .ok (.lload_n 0, 1) := by decide +kernel
theorem dX12_part_11 : decode cX12_part 11 = .ok (.lload_n 2, 1) := by decide +kernel
theorem dX12_part_12 : decode cX12_part 12 = .ok (.invokestatic 386, 3) := by decide +kernel
theorem dX12_part_15 : decode cX12_part 15 = .ok (.ldiv, 1) := by decide +kernel
theorem dX12_part_16 : decode cX12_part 16 = .ok (.lreturn, 1) := by decide +kernel
theorem dX12_isLate_0 : decode cX12_isLate 0 = .ok (.iload_n 0, 1) := by decide +kernel
theorem dX12_isLate_1 : decode cX12_isLate 1 = .ok (.i2l, 1) := by decide +kernel
theorem dX12_isLate_2 : decode cX12_isLate 2 = .ok (.lconst 0, 1) := by decide +kernel
theorem dX12_isLate_3 : decode cX12_isLate 3 = .ok (.ldc2_w 300, 3) := by decide +kernel
theorem dX12_isLate_6 : decode cX12_isLate 6 = .ok (.invokestatic 142, 3) := by decide +kernel
theorem dX12_isLate_9 : decode cX12_isLate 9 = .ok (.ireturn, 1) := by decide +kernel
theorem dX12_isPart_0 : decode cX12_isPart 0 = .ok (.iload_n 0, 1) := by decide +kernel
theorem dX12_isPart_1 : decode cX12_isPart 1 = .ok (.i2l, 1) := by decide +kernel
theorem dX12_isPart_2 : decode cX12_isPart 2 = .ok (.lconst 0, 1) := by decide +kernel
theorem dX12_isPart_3 : decode cX12_isPart 3 = .ok (.lconst 1, 1) := by decide +kernel
theorem dX12_isPart_4 : decode cX12_isPart 4 = .ok (.invokestatic 142, 3) := by decide +kernel
theorem dX12_isPart_7 : decode cX12_isPart 7 = .ok (.ireturn, 1) := by decide +kernel
theorem dX12_open_0 : decode cX12_open 0 = .ok (.aload_n 0, 1) := by decide +kernel
theorem dX12_open_1 : decode cX12_open 1 = .ok (.iconst 0, 1) := by decide +kernel
theorem dX12_open_2 : decode cX12_open 2 = .ok (.putfield 1, 3) := by decide +kernel
theorem dX12_open_5 : decode cX12_open 5 = .ok (.iload_n 2, 1) := by decide +kernel
theorem dX12_open_6 : decode cX12_open 6 = .ok (.invokestatic 390, 3) := by decide +kernel
theorem dX12_open_9 : decode cX12_open 9 = .ok (.ifCond .ne 7, 3) := by decide +kernel
theorem dX12_open_12 : decode cX12_open 12 = .ok (.ldc2_w 393, 3) := by decide +kernel
theorem dX12_open_15 : decode cX12_open 15 = .ok (.lreturn, 1) := by decide +kernel
theorem dX12_open_16 : decode cX12_open 16 = .ok (.iload_n 1, 1) := by decide +kernel
theorem dX12_open_17 : decode cX12_open 17 = .ok (.invokestatic 395, 3) := by decide +kernel
theorem dX12_open_20 : decode cX12_open 20 = .ok (.ifCond .ne 7, 3) := by decide +kernel
theorem dX12_open_23 : decode cX12_open 23 = .ok (.ldc2_w 359, 3) := by decide +kernel
theorem dX12_open_26 : decode cX12_open 26 = .ok (.lreturn, 1) := by decide +kernel
theorem dX12_open_27 : decode cX12_open 27 = .ok (.aload_n 0, 1) := by decide +kernel
theorem dX12_open_28 : decode cX12_open 28 = .ok (.invokevirtual 345, 3) := by decide +kernel
theorem dX12_open_31 : decode cX12_open 31 = .ok (.aload_n 0, 1) := by decide +kernel
theorem dX12_open_32 : decode cX12_open 32 = .ok (.iload_n 1, 1) := by decide +kernel
theorem dX12_open_33 : decode cX12_open 33 = .ok (.invokevirtual 398, 3) := by decide +kernel
theorem dX12_open_36 : decode cX12_open 36 = .ok (.aload_n 0, 1) := by decide +kernel
theorem dX12_open_37 : decode cX12_open 37 = .ok (.invokevirtual 401, 3) := by decide +kernel
theorem dX12_open_40 : decode cX12_open 40 = .ok (.aload_n 0, 1) := by decide +kernel
theorem dX12_open_41 : decode cX12_open 41 = .ok (.invokevirtual 368, 3) := by decide +kernel
theorem dX12_open_44 : decode cX12_open 44 = .ok (.lsub, 1) := by decide +kernel
theorem dX12_open_45 : decode cX12_open 45 = .ok (.aload_n 0, 1) := by decide +kernel
theorem dX12_open_46 : decode cX12_open 46 = .ok (.iload_n 1, 1) := by decide +kernel
theorem dX12_open_47 : decode cX12_open 47 = .ok (.invokevirtual 404, 3) := by decide +kernel
theorem dX12_open_50 : decode cX12_open 50 = .ok (.iload_n 2, 1) := by decide +kernel
theorem dX12_open_51 : decode cX12_open 51 = .ok (.invokestatic 408, 3) := by decide +kernel
theorem dX12_open_54 : decode cX12_open 54 = .ok (.lreturn, 1) := by decide +kernel
theorem dX12_isMuch_0 : decode cX12_isMuch 0 = .ok (.lload_n 0, 1) := by decide +kernel
theorem dX12_isMuch_1 : decode cX12_isMuch 1 = .ok (.iload 4, 2) := by decide +kernel
theorem dX12_isMuch_3 : decode cX12_isMuch 3 = .ok (.i2l, 1) := by decide +kernel
theorem dX12_isMuch_4 : decode cX12_isMuch 4 = .ok (.lload_n 2, 1) := by decide +kernel
theorem dX12_isMuch_5 : decode cX12_isMuch 5 = .ok (.ldc2_w 304, 3) := by decide +kernel
theorem dX12_isMuch_8 : decode cX12_isMuch 8 = .ok (.ldiv, 1) := by decide +kernel
theorem dX12_isMuch_9 : decode cX12_isMuch 9 = .ok (.lmul, 1) := by decide +kernel
theorem dX12_isMuch_10 : decode cX12_isMuch 10 = .ok (.lsub, 1) := by decide +kernel
theorem dX12_isMuch_11 : decode cX12_isMuch 11 = .ok (.lstore 5, 2) := by decide +kernel
theorem dX12_isMuch_13 : decode cX12_isMuch 13 = .ok (.lload 5, 2) := by decide +kernel
theorem dX12_isMuch_15 : decode cX12_isMuch 15 = .ok (.ldc2_w 304, 3) := by decide +kernel
theorem dX12_isMuch_18 : decode cX12_isMuch 18 = .ok (.lcmp, 1) := by decide +kernel
theorem dX12_isMuch_19 : decode cX12_isMuch 19 = .ok (.ifCond .ge 29, 3) := by decide +kernel
theorem dX12_isMuch_22 : decode cX12_isMuch 22 = .ok (.lload 5, 2) := by decide +kernel
theorem dX12_isMuch_24 : decode cX12_isMuch 24 = .ok (.lconst 0, 1) := by decide +kernel
theorem dX12_isMuch_25 : decode cX12_isMuch 25 = .ok (.lcmp, 1) := by decide +kernel
theorem dX12_isMuch_26 : decode cX12_isMuch 26 = .ok (.ifCond .lt 26, 3) := by decide +kernel
theorem dX12_isMuch_29 : decode cX12_isMuch 29 = .ok (.lload 5, 2) := by decide +kernel
theorem dX12_isMuch_31 : decode cX12_isMuch 31 = .ok (.ldc2_w 304, 3) := by decide +kernel
theorem dX12_isMuch_34 : decode cX12_isMuch 34 = .ok (.lmul, 1) := by decide +kernel
theorem dX12_isMuch_35 : decode cX12_isMuch 35 = .ok (.iload 4, 2) := by decide +kernel
theorem dX12_isMuch_37 : decode cX12_isMuch 37 = .ok (.i2l, 1) := by decide +kernel
theorem dX12_isMuch_38 : decode cX12_isMuch 38 = .ok (.lload_n 2, 1) := by decide +kernel
theorem dX12_isMuch_39 : decode cX12_isMuch 39 = .ok (.ldc2_w 304, 3) := by decide +kernel
theorem dX12_isMuch_42 : decode cX12_isMuch 42 = .ok (.lrem, 1) := by decide +kernel
theorem dX12_isMuch_43 : decode cX12_isMuch 43 = .ok (.lmul, 1) := by decide +kernel
theorem dX12_isMuch_44 : decode cX12_isMuch 44 = .ok (.lcmp, 1) := by decide +kernel
theorem dX12_isMuch_45 : decode cX12_isMuch 45 = .ok (.ifCond .lt 7, 3) := by decide +kernel
theorem dX12_isMuch_48 : decode cX12_isMuch 48 = .ok (.iconst 1, 1) := by decide +kernel
theorem dX12_isMuch_49 : decode cX12_isMuch 49 = .ok (.goto 4, 3) := by decide +kernel
theorem dX12_isMuch_52 : decode cX12_isMuch 52 = .ok (.iconst 0, 1) := by decide +kernel
theorem dX12_isMuch_53 : decode cX12_isMuch 53 = .ok (.ireturn, 1) := by decide +kernel
theorem dX12_likely_0 : decode cX12_likely 0 = .ok (.aload_n 0, 1) := by decide +kernel
theorem dX12_likely_1 : decode cX12_likely 1 = .ok (.iconst 0, 1) := by decide +kernel
theorem dX12_likely_2 : decode cX12_likely 2 = .ok (.putfield 1, 3) := by decide +kernel
theorem dX12_likely_5 : decode cX12_likely 5 = .ok (.iload_n 1, 1) := by decide +kernel
theorem dX12_likely_6 : decode cX12_likely 6 = .ok (.i2l, 1) := by decide +kernel
theorem dX12_likely_7 : decode cX12_likely 7 = .ok (.lconst 0, 1) := by decide +kernel
theorem dX12_likely_8 : decode cX12_likely 8 = .ok (.ldc2_w 304, 3) := by decide +kernel
theorem dX12_likely_11 : decode cX12_likely 11 = .ok (.invokestatic 142, 3) := by decide +kernel
theorem dX12_likely_14 : decode cX12_likely 14 = .ok (.ifCond .ne 6, 3) := by decide +kernel
theorem dX12_likely_17 : decode cX12_likely 17 = .ok (.bipush (-3), 2) := by decide +kernel
theorem dX12_likely_19 : decode cX12_likely 19 = .ok (.ireturn, 1) := by decide +kernel
theorem dX12_likely_20 : decode cX12_likely 20 = .ok (.aload_n 0, 1) := by decide +kernel
theorem dX12_likely_21 : decode cX12_likely 21 = .ok (.invokevirtual 345, 3) := by decide +kernel
theorem dX12_likely_24 : decode cX12_likely 24 = .ok (.iconst 0, 1) := by decide +kernel
theorem dX12_likely_25 : decode cX12_likely 25 = .ok (.istore_n 2, 1) := by decide +kernel
theorem dX12_likely_26 : decode cX12_likely 26 = .ok (.iload_n 2, 1) := by decide +kernel
theorem dX12_likely_27 : decode cX12_likely 27 = .ok (.bipush 10, 2) := by decide +kernel
theorem dX12_likely_29 : decode cX12_likely 29 = .ok (.if_icmp .gt 32, 3) := by decide +kernel
theorem dX12_likely_32 : decode cX12_likely 32 = .ok (.aload_n 0, 1) := by decide +kernel
theorem dX12_likely_33 : decode cX12_likely 33 = .ok (.iload_n 2, 1) := by decide +kernel
theorem dX12_likely_34 : decode cX12_likely 34 = .ok (.invokevirtual 398, 3) := by decide +kernel
theorem dX12_likely_37 : decode cX12_likely 37 = .ok (.aload_n 0, 1) := by decide +kernel
theorem dX12_likely_38 : decode cX12_likely 38 = .ok (.invokevirtual 368, 3) := by decide +kernel
theorem dX12_likely_41 : decode cX12_likely 41 = .ok (.aload_n 0, 1) := by decide +kernel
theorem dX12_likely_42 : decode cX12_likely 42 = .ok (.iload_n 2, 1) := by decide +kernel
theorem dX12_likely_43 : decode cX12_likely 43 = .ok (.invokevirtual 404, 3) := by decide +kernel
theorem dX12_likely_46 : decode cX12_likely 46 = .ok (.iload_n 1, 1) := by decide +kernel
theorem dX12_likely_47 : decode cX12_likely 47 = .ok (.invokestatic 412, 3) := by decide +kernel
theorem dX12_likely_50 : decode cX12_likely 50 = .ok (.ifCond .eq 5, 3) := by decide +kernel
theorem dX12_likely_53 : decode cX12_likely 53 = .ok (.iload_n 2, 1) := by decide +kernel
theorem dX12_likely_54 : decode cX12_likely 54 = .ok (.ireturn, 1) := by decide +kernel
theorem dX12_likely_55 : decode cX12_likely 55 = .ok (.iinc 2 1, 3) := by decide +kernel
theorem dX12_likely_58 : decode cX12_likely 58 = .ok (.goto (-32), 3) := by decide +kernel
theorem dX12_likely_61 : decode cX12_likely 61 = .ok (.iconst (-1), 1) := by decide +kernel
theorem dX12_likely_62 : decode cX12_likely 62 = .ok (.ireturn, 1) := by decide +kernel
theorem dX12_shutsBy_0 : decode cX12_shutsBy 0 = .ok (.aload_n 0, 1) := by decide +kernel
theorem dX12_shutsBy_1 : decode cX12_shutsBy 1 = .ok (.iconst 0, 1) := by decide +kernel
theorem dX12_shutsBy_2 : decode cX12_shutsBy 2 = .ok (.putfield 1, 3) := by decide +kernel
theorem dX12_shutsBy_5 : decode cX12_shutsBy 5 = .ok (.aload_n 0, 1) := by decide +kernel
theorem dX12_shutsBy_6 : decode cX12_shutsBy 6 = .ok (.iload_n 1, 1) := by decide +kernel
theorem dX12_shutsBy_7 : decode cX12_shutsBy 7 = .ok (.i2l, 1) := by decide +kernel
theorem dX12_shutsBy_8 : decode cX12_shutsBy 8 = .ok (.invokevirtual 252, 3) := by decide +kernel
theorem dX12_shutsBy_11 : decode cX12_shutsBy 11 = .ok (.ifCond .eq 10, 3) := by decide +kernel
theorem dX12_shutsBy_14 : decode cX12_shutsBy 14 = .ok (.iload_n 3, 1) := by decide +kernel
theorem dX12_shutsBy_15 : decode cX12_shutsBy 15 = .ok (.invokestatic 390, 3) := by decide +kernel
theorem dX12_shutsBy_18 : decode cX12_shutsBy 18 = .ok (.ifCond .ne 7, 3) := by decide +kernel
theorem dX12_shutsBy_21 : decode cX12_shutsBy 21 = .ok (.ldc2_w 393, 3) := by decide +kernel
theorem dX12_shutsBy_24 : decode cX12_shutsBy 24 = .ok (.lreturn, 1) := by decide +kernel
theorem dX12_shutsBy_25 : decode cX12_shutsBy 25 = .ok (.iload_n 2, 1) := by decide +kernel
theorem dX12_shutsBy_26 : decode cX12_shutsBy 26 = .ok (.invokestatic 395, 3) := by decide +kernel
theorem dX12_shutsBy_29 : decode cX12_shutsBy 29 = .ok (.ifCond .ne 7, 3) := by decide +kernel
theorem dX12_shutsBy_32 : decode cX12_shutsBy 32 = .ok (.ldc2_w 359, 3) := by decide +kernel
theorem dX12_shutsBy_35 : decode cX12_shutsBy 35 = .ok (.lreturn, 1) := by decide +kernel
theorem dX12_shutsBy_36 : decode cX12_shutsBy 36 = .ok (.aload_n 0, 1) := by decide +kernel
theorem dX12_shutsBy_37 : decode cX12_shutsBy 37 = .ok (.invokevirtual 345, 3) := by decide +kernel
theorem dX12_shutsBy_40 : decode cX12_shutsBy 40 = .ok (.aload_n 0, 1) := by decide +kernel
theorem dX12_shutsBy_41 : decode cX12_shutsBy 41 = .ok (.iload_n 2, 1) := by decide +kernel
theorem dX12_shutsBy_42 : decode cX12_shutsBy 42 = .ok (.invokevirtual 398, 3) := by decide +kernel
theorem dX12_shutsBy_45 : decode cX12_shutsBy 45 = .ok (.aload_n 0, 1) := by decide +kernel
theorem dX12_shutsBy_46 : decode cX12_shutsBy 46 = .ok (.getfield 58, 3) := by decide +kernel
theorem dX12_shutsBy_49 : decode cX12_shutsBy 49 = .ok (.iload_n 1, 1) := by decide +kernel
theorem dX12_shutsBy_50 : decode cX12_shutsBy 50 = .ok (.laload, 1) := by decide +kernel
theorem dX12_shutsBy_51 : decode cX12_shutsBy 51 = .ok (.aload_n 0, 1) := by decide +kernel
theorem dX12_shutsBy_52 : decode cX12_shutsBy 52 = .ok (.iload_n 2, 1) := by decide +kernel
theorem dX12_shutsBy_53 : decode cX12_shutsBy 53 = .ok (.invokevirtual 404, 3) := by decide +kernel
theorem dX12_shutsBy_56 : decode cX12_shutsBy 56 = .ok (.iload_n 3, 1) := by decide +kernel
theorem dX12_shutsBy_57 : decode cX12_shutsBy 57 = .ok (.invokestatic 408, 3) := by decide +kernel
theorem dX12_shutsBy_60 : decode cX12_shutsBy 60 = .ok (.lreturn, 1) := by decide +kernel
theorem dX12_closer_0 : decode cX12_closer 0 = .ok (.aload_n 0, 1) := by decide +kernel
theorem dX12_closer_1 : decode cX12_closer 1 = .ok (.iconst 0, 1) := by decide +kernel
theorem dX12_closer_2 : decode cX12_closer 2 = .ok (.putfield 1, 3) := by decide +kernel
theorem dX12_closer_5 : decode cX12_closer 5 = .ok (.iload_n 1, 1) := by decide +kernel
theorem dX12_closer_6 : decode cX12_closer 6 = .ok (.invokestatic 395, 3) := by decide +kernel
theorem dX12_closer_9 : decode cX12_closer 9 = .ok (.ifCond .ne 6, 3) := by decide +kernel
theorem dX12_closer_12 : decode cX12_closer 12 = .ok (.bipush (-3), 2) := by decide +kernel
theorem dX12_closer_14 : decode cX12_closer 14 = .ok (.ireturn, 1) := by decide +kernel
theorem dX12_closer_15 : decode cX12_closer 15 = .ok (.aload_n 0, 1) := by decide +kernel
theorem dX12_closer_16 : decode cX12_closer 16 = .ok (.invokevirtual 345, 3) := by decide +kernel
theorem dX12_closer_19 : decode cX12_closer 19 = .ok (.aload_n 0, 1) := by decide +kernel
theorem dX12_closer_20 : decode cX12_closer 20 = .ok (.iload_n 1, 1) := by decide +kernel
theorem dX12_closer_21 : decode cX12_closer 21 = .ok (.invokevirtual 398, 3) := by decide +kernel
theorem dX12_closer_24 : decode cX12_closer 24 = .ok (.iconst (-1), 1) := by decide +kernel
theorem dX12_closer_25 : decode cX12_closer 25 = .ok (.istore_n 2, 1) := by decide +kernel
theorem dX12_closer_26 : decode cX12_closer 26 = .ok (.lconst 0, 1) := by decide +kernel
theorem dX12_closer_27 : decode cX12_closer 27 = .ok (.lstore_n 3, 1) := by decide +kernel
theorem dX12_closer_28 : decode cX12_closer 28 = .ok (.iconst 0, 1) := by decide +kernel
theorem dX12_closer_29 : decode cX12_closer 29 = .ok (.istore 5, 2) := by decide +kernel
theorem dX12_closer_31 : decode cX12_closer 31 = .ok (.iload 5, 2) := by decide +kernel
theorem dX12_closer_33 : decode cX12_closer 33 = .ok (.aload_n 0, 1) := by decide +kernel
theorem dX12_closer_34 : decode cX12_closer 34 = .ok (.getfield 13, 3) := by decide +kernel
theorem dX12_closer_37 : decode cX12_closer 37 = .ok (.iconst 1, 1) := by decide +kernel
theorem dX12_closer_38 : decode cX12_closer 38 = .ok (.iaload, 1) := by decide +kernel
theorem dX12_closer_39 : decode cX12_closer 39 = .ok (.if_icmp .ge 35, 3) := by decide +kernel
theorem dX12_closer_42 : decode cX12_closer 42 = .ok (.aload_n 0, 1) := by decide +kernel
theorem dX12_closer_43 : decode cX12_closer 43 = .ok (.getfield 58, 3) := by decide +kernel
theorem dX12_closer_46 : decode cX12_closer 46 = .ok (.iload 5, 2) := by decide +kernel
theorem dX12_closer_48 : decode cX12_closer 48 = .ok (.laload, 1) := by decide +kernel
theorem dX12_closer_49 : decode cX12_closer 49 = .ok (.lload_n 3, 1) := by decide +kernel
theorem dX12_closer_50 : decode cX12_closer 50 = .ok (.lcmp, 1) := by decide +kernel
theorem dX12_closer_51 : decode cX12_closer 51 = .ok (.ifCond .gt 6, 3) := by decide +kernel
theorem dX12_closer_54 : decode cX12_closer 54 = .ok (.goto 14, 3) := by decide +kernel
theorem dX12_closer_57 : decode cX12_closer 57 = .ok (.iload 5, 2) := by decide +kernel
theorem dX12_closer_59 : decode cX12_closer 59 = .ok (.istore_n 2, 1) := by decide +kernel
theorem dX12_closer_60 : decode cX12_closer 60 = .ok (.aload_n 0, 1) := by decide +kernel
theorem dX12_closer_61 : decode cX12_closer 61 = .ok (.getfield 58, 3) := by decide +kernel
theorem dX12_closer_64 : decode cX12_closer 64 = .ok (.iload 5, 2) := by decide +kernel
theorem dX12_closer_66 : decode cX12_closer 66 = .ok (.laload, 1) := by decide +kernel
theorem dX12_closer_67 : decode cX12_closer 67 = .ok (.lstore_n 3, 1) := by decide +kernel
theorem dX12_closer_68 : decode cX12_closer 68 = .ok (.iinc 5 1, 3) := by decide +kernel
theorem dX12_closer_71 : decode cX12_closer 71 = .ok (.goto (-40), 3) := by decide +kernel
theorem dX12_closer_74 : decode cX12_closer 74 = .ok (.iload_n 2, 1) := by decide +kernel
theorem dX12_closer_75 : decode cX12_closer 75 = .ok (.ireturn, 1) := by decide +kernel
theorem dX12_soldIn_0 : decode cX12_soldIn 0 = .ok (.aload_n 0, 1) := by decide +kernel
theorem dX12_soldIn_1 : decode cX12_soldIn 1 = .ok (.iconst 0, 1) := by decide +kernel
theorem dX12_soldIn_2 : decode cX12_soldIn 2 = .ok (.putfield 1, 3) := by decide +kernel
theorem dX12_soldIn_5 : decode cX12_soldIn 5 = .ok (.aload_n 0, 1) := by decide +kernel
theorem dX12_soldIn_6 : decode cX12_soldIn 6 = .ok (.iload_n 1, 1) := by decide +kernel
theorem dX12_soldIn_7 : decode cX12_soldIn 7 = .ok (.i2l, 1) := by decide +kernel
theorem dX12_soldIn_8 : decode cX12_soldIn 8 = .ok (.invokevirtual 245, 3) := by decide +kernel
theorem dX12_soldIn_11 : decode cX12_soldIn 11 = .ok (.ifCond .eq 10, 3) := by decide +kernel
theorem dX12_soldIn_14 : decode cX12_soldIn 14 = .ok (.iload_n 3, 1) := by decide +kernel
theorem dX12_soldIn_15 : decode cX12_soldIn 15 = .ok (.invokestatic 390, 3) := by decide +kernel
theorem dX12_soldIn_18 : decode cX12_soldIn 18 = .ok (.ifCond .ne 7, 3) := by decide +kernel
theorem dX12_soldIn_21 : decode cX12_soldIn 21 = .ok (.ldc2_w 393, 3) := by decide +kernel
theorem dX12_soldIn_24 : decode cX12_soldIn 24 = .ok (.lreturn, 1) := by decide +kernel
theorem dX12_soldIn_25 : decode cX12_soldIn 25 = .ok (.iload_n 2, 1) := by decide +kernel
theorem dX12_soldIn_26 : decode cX12_soldIn 26 = .ok (.invokestatic 395, 3) := by decide +kernel
theorem dX12_soldIn_29 : decode cX12_soldIn 29 = .ok (.ifCond .ne 7, 3) := by decide +kernel
theorem dX12_soldIn_32 : decode cX12_soldIn 32 = .ok (.ldc2_w 359, 3) := by decide +kernel
theorem dX12_soldIn_35 : decode cX12_soldIn 35 = .ok (.lreturn, 1) := by decide +kernel
theorem dX12_soldIn_36 : decode cX12_soldIn 36 = .ok (.aload_n 0, 1) := by decide +kernel
theorem dX12_soldIn_37 : decode cX12_soldIn 37 = .ok (.invokevirtual 345, 3) := by decide +kernel
theorem dX12_soldIn_40 : decode cX12_soldIn 40 = .ok (.aload_n 0, 1) := by decide +kernel
theorem dX12_soldIn_41 : decode cX12_soldIn 41 = .ok (.iload_n 2, 1) := by decide +kernel
theorem dX12_soldIn_42 : decode cX12_soldIn 42 = .ok (.invokevirtual 398, 3) := by decide +kernel
theorem dX12_soldIn_45 : decode cX12_soldIn 45 = .ok (.lconst 0, 1) := by decide +kernel
theorem dX12_soldIn_46 : decode cX12_soldIn 46 = .ok (.lstore 4, 2) := by decide +kernel
theorem dX12_soldIn_48 : decode cX12_soldIn 48 = .ok (.iconst 0, 1) := by decide +kernel
theorem dX12_soldIn_49 : decode cX12_soldIn 49 = .ok (.istore 6, 2) := by decide +kernel
theorem dX12_soldIn_51 : decode cX12_soldIn 51 = .ok (.iload 6, 2) := by decide +kernel
theorem dX12_soldIn_53 : decode cX12_soldIn 53 = .ok (.sipush 256, 3) := by decide +kernel
theorem dX12_soldIn_56 : decode cX12_soldIn 56 = .ok (.if_icmp .ge 35, 3) := by decide +kernel
theorem dX12_soldIn_59 : decode cX12_soldIn 59 = .ok (.lload 4, 2) := by decide +kernel
theorem dX12_soldIn_61 : decode cX12_soldIn 61 = .ok (.iload 6, 2) := by decide +kernel
theorem dX12_soldIn_63 : decode cX12_soldIn 63 = .ok (.i2l, 1) := by decide +kernel
theorem dX12_soldIn_64 : decode cX12_soldIn 64 = .ok (.iload_n 1, 1) := by decide +kernel
theorem dX12_soldIn_65 : decode cX12_soldIn 65 = .ok (.invokestatic 228, 3) := by decide +kernel
theorem dX12_soldIn_68 : decode cX12_soldIn 68 = .ok (.ifCond .eq 13, 3) := by decide +kernel
theorem dX12_soldIn_71 : decode cX12_soldIn 71 = .ok (.aload_n 0, 1) := by decide +kernel
theorem dX12_soldIn_72 : decode cX12_soldIn 72 = .ok (.getfield 51, 3) := by decide +kernel
theorem dX12_soldIn_75 : decode cX12_soldIn 75 = .ok (.iload 6, 2) := by decide +kernel
theorem dX12_soldIn_77 : decode cX12_soldIn 77 = .ok (.laload, 1) := by decide +kernel
theorem dX12_soldIn_78 : decode cX12_soldIn 78 = .ok (.goto 4, 3) := by decide +kernel
theorem dX12_soldIn_81 : decode cX12_soldIn 81 = .ok (.lconst 0, 1) := by decide +kernel
theorem dX12_soldIn_82 : decode cX12_soldIn 82 = .ok (.ladd, 1) := by decide +kernel
theorem dX12_soldIn_83 : decode cX12_soldIn 83 = .ok (.lstore 4, 2) := by decide +kernel
theorem dX12_soldIn_85 : decode cX12_soldIn 85 = .ok (.iinc 6 1, 3) := by decide +kernel
theorem dX12_soldIn_88 : decode cX12_soldIn 88 = .ok (.goto (-37), 3) := by decide +kernel
theorem dX12_soldIn_91 : decode cX12_soldIn 91 = .ok (.lload 4, 2) := by decide +kernel
theorem dX12_soldIn_93 : decode cX12_soldIn 93 = .ok (.aload_n 0, 1) := by decide +kernel
theorem dX12_soldIn_94 : decode cX12_soldIn 94 = .ok (.iload_n 2, 1) := by decide +kernel
theorem dX12_soldIn_95 : decode cX12_soldIn 95 = .ok (.invokevirtual 404, 3) := by decide +kernel
theorem dX12_soldIn_98 : decode cX12_soldIn 98 = .ok (.iload_n 3, 1) := by decide +kernel
theorem dX12_soldIn_99 : decode cX12_soldIn 99 = .ok (.invokestatic 408, 3) := by decide +kernel
theorem dX12_soldIn_102 : decode cX12_soldIn 102 = .ok (.lreturn, 1) := by decide +kernel
theorem dX12_openBy_0 : decode cX12_openBy 0 = .ok (.aload_n 0, 1) := by decide +kernel
theorem dX12_openBy_1 : decode cX12_openBy 1 = .ok (.getfield 13, 3) := by decide +kernel
theorem dX12_openBy_4 : decode cX12_openBy 4 = .ok (.bipush 28, 2) := by decide +kernel
theorem dX12_openBy_6 : decode cX12_openBy 6 = .ok (.iaload, 1) := by decide +kernel
theorem dX12_openBy_7 : decode cX12_openBy 7 = .ok (.istore_n 3, 1) := by decide +kernel
theorem dX12_openBy_8 : decode cX12_openBy 8 = .ok (.aload_n 0, 1) := by decide +kernel
theorem dX12_openBy_9 : decode cX12_openBy 9 = .ok (.getfield 13, 3) := by decide +kernel
theorem dX12_openBy_12 : decode cX12_openBy 12 = .ok (.bipush 28, 2) := by decide +kernel
theorem dX12_openBy_14 : decode cX12_openBy 14 = .ok (.iload_n 3, 1) := by decide +kernel
theorem dX12_openBy_15 : decode cX12_openBy 15 = .ok (.iload_n 1, 1) := by decide +kernel
theorem dX12_openBy_16 : decode cX12_openBy 16 = .ok (.ior, 1) := by decide +kernel
theorem dX12_openBy_17 : decode cX12_openBy 17 = .ok (.iastore, 1) := by decide +kernel
theorem dX12_openBy_18 : decode cX12_openBy 18 = .ok (.aload_n 0, 1) := by decide +kernel
theorem dX12_openBy_19 : decode cX12_openBy 19 = .ok (.invokevirtual 345, 3) := by decide +kernel
theorem dX12_openBy_22 : decode cX12_openBy 22 = .ok (.aload_n 0, 1) := by decide +kernel
theorem dX12_openBy_23 : decode cX12_openBy 23 = .ok (.iload_n 2, 1) := by decide +kernel
theorem dX12_openBy_24 : decode cX12_openBy 24 = .ok (.invokevirtual 398, 3) := by decide +kernel
theorem dX12_openBy_27 : decode cX12_openBy 27 = .ok (.aload_n 0, 1) := by decide +kernel
theorem dX12_openBy_28 : decode cX12_openBy 28 = .ok (.invokevirtual 401, 3) := by decide +kernel
theorem dX12_openBy_31 : decode cX12_openBy 31 = .ok (.aload_n 0, 1) := by decide +kernel
theorem dX12_openBy_32 : decode cX12_openBy 32 = .ok (.invokevirtual 368, 3) := by decide +kernel
theorem dX12_openBy_35 : decode cX12_openBy 35 = .ok (.lsub, 1) := by decide +kernel
theorem dX12_openBy_36 : decode cX12_openBy 36 = .ok (.lstore 4, 2) := by decide +kernel
theorem dX12_openBy_38 : decode cX12_openBy 38 = .ok (.aload_n 0, 1) := by decide +kernel
theorem dX12_openBy_39 : decode cX12_openBy 39 = .ok (.getfield 13, 3) := by decide +kernel
theorem dX12_openBy_42 : decode cX12_openBy 42 = .ok (.bipush 28, 2) := by decide +kernel
theorem dX12_openBy_44 : decode cX12_openBy 44 = .ok (.iload_n 3, 1) := by decide +kernel
theorem dX12_openBy_45 : decode cX12_openBy 45 = .ok (.iastore, 1) := by decide +kernel
theorem dX12_openBy_46 : decode cX12_openBy 46 = .ok (.lload 4, 2) := by decide +kernel
theorem dX12_openBy_48 : decode cX12_openBy 48 = .ok (.lreturn, 1) := by decide +kernel
theorem dX12_hides_0 : decode cX12_hides 0 = .ok (.aload_n 0, 1) := by decide +kernel
theorem dX12_hides_1 : decode cX12_hides 1 = .ok (.iconst 0, 1) := by decide +kernel
theorem dX12_hides_2 : decode cX12_hides 2 = .ok (.putfield 1, 3) := by decide +kernel
theorem dX12_hides_5 : decode cX12_hides 5 = .ok (.iload_n 3, 1) := by decide +kernel
theorem dX12_hides_6 : decode cX12_hides 6 = .ok (.invokestatic 390, 3) := by decide +kernel
theorem dX12_hides_9 : decode cX12_hides 9 = .ok (.ifCond .ne 6, 3) := by decide +kernel
theorem dX12_hides_12 : decode cX12_hides 12 = .ok (.bipush (-2), 2) := by decide +kernel
theorem dX12_hides_14 : decode cX12_hides 14 = .ok (.ireturn, 1) := by decide +kernel
theorem dX12_hides_15 : decode cX12_hides 15 = .ok (.iload_n 1, 1) := by decide +kernel
theorem dX12_hides_16 : decode cX12_hides 16 = .ok (.i2l, 1) := by decide +kernel
theorem dX12_hides_17 : decode cX12_hides 17 = .ok (.lconst 0, 1) := by decide +kernel
theorem dX12_hides_18 : decode cX12_hides 18 = .ok (.ldc2_w 325, 3) := by decide +kernel
theorem dX12_hides_21 : decode cX12_hides 21 = .ok (.invokestatic 142, 3) := by decide +kernel
theorem dX12_hides_24 : decode cX12_hides 24 = .ok (.ifCond .eq 15, 3) := by decide +kernel
theorem dX12_hides_27 : decode cX12_hides 27 = .ok (.iload_n 2, 1) := by decide +kernel
theorem dX12_hides_28 : decode cX12_hides 28 = .ok (.i2l, 1) := by decide +kernel
theorem dX12_hides_29 : decode cX12_hides 29 = .ok (.lconst 1, 1) := by decide +kernel
theorem dX12_hides_30 : decode cX12_hides 30 = .ok (.ldc2_w 416, 3) := by decide +kernel
theorem dX12_hides_33 : decode cX12_hides 33 = .ok (.invokestatic 142, 3) := by decide +kernel
theorem dX12_hides_36 : decode cX12_hides 36 = .ok (.ifCond .ne 6, 3) := by decide +kernel
theorem dX12_hides_39 : decode cX12_hides 39 = .ok (.bipush (-3), 2) := by decide +kernel
theorem dX12_hides_41 : decode cX12_hides 41 = .ok (.ireturn, 1) := by decide +kernel
theorem dX12_hides_42 : decode cX12_hides 42 = .ok (.aload_n 0, 1) := by decide +kernel
theorem dX12_hides_43 : decode cX12_hides 43 = .ok (.invokevirtual 259, 3) := by decide +kernel
theorem dX12_hides_46 : decode cX12_hides 46 = .ok (.ifCond .eq 6, 3) := by decide +kernel
theorem dX12_hides_49 : decode cX12_hides 49 = .ok (.bipush (-5), 2) := by decide +kernel
theorem dX12_hides_51 : decode cX12_hides 51 = .ok (.ireturn, 1) := by decide +kernel
theorem dX12_hides_52 : decode cX12_hides 52 = .ok (.iconst 0, 1) := by decide +kernel
theorem dX12_hides_53 : decode cX12_hides 53 = .ok (.istore 4, 2) := by decide +kernel
theorem dX12_hides_55 : decode cX12_hides 55 = .ok (.aload_n 0, 1) := by decide +kernel
theorem dX12_hides_56 : decode cX12_hides 56 = .ok (.iconst 0, 1) := by decide +kernel
theorem dX12_hides_57 : decode cX12_hides 57 = .ok (.iload_n 2, 1) := by decide +kernel
theorem dX12_hides_58 : decode cX12_hides 58 = .ok (.invokevirtual 418, 3) := by decide +kernel
theorem dX12_hides_61 : decode cX12_hides 61 = .ok (.lstore 5, 2) := by decide +kernel
theorem dX12_hides_63 : decode cX12_hides 63 = .ok (.iconst 1, 1) := by decide +kernel
theorem dX12_hides_64 : decode cX12_hides 64 = .ok (.istore 7, 2) := by decide +kernel
theorem dX12_hides_66 : decode cX12_hides 66 = .ok (.iload 7, 2) := by decide +kernel
theorem dX12_hides_68 : decode cX12_hides 68 = .ok (.iload_n 1, 1) := by decide +kernel
theorem dX12_hides_69 : decode cX12_hides 69 = .ok (.if_icmp .gt 80, 3) := by decide +kernel
theorem dX12_hides_72 : decode cX12_hides 72 = .ok (.iconst 0, 1) := by decide +kernel
theorem dX12_hides_73 : decode cX12_hides 73 = .ok (.istore 8, 2) := by decide +kernel
theorem dX12_hides_75 : decode cX12_hides 75 = .ok (.iload 8, 2) := by decide +kernel
theorem dX12_hides_77 : decode cX12_hides 77 = .ok (.aload_n 0, 1) := by decide +kernel
theorem dX12_hides_78 : decode cX12_hides 78 = .ok (.invokevirtual 207, 3) := by decide +kernel
theorem dX12_hides_81 : decode cX12_hides 81 = .ok (.if_icmp .gt 62, 3) := by decide +kernel
theorem dX12_hides_84 : decode cX12_hides 84 = .ok (.iload 8, 2) := by decide +kernel
theorem dX12_hides_86 : decode cX12_hides 86 = .ok (.aload_n 0, 1) := by decide +kernel
theorem dX12_hides_87 : decode cX12_hides 87 = .ok (.invokevirtual 207, 3) := by decide +kernel
theorem dX12_hides_90 : decode cX12_hides 90 = .ok (.iconst (-1), 1) := by decide +kernel
theorem dX12_hides_91 : decode cX12_hides 91 = .ok (.ixor, 1) := by decide +kernel
theorem dX12_hides_92 : decode cX12_hides 92 = .ok (.iand, 1) := by decide +kernel
theorem dX12_hides_93 : decode cX12_hides 93 = .ok (.ifCond .ne 44, 3) := by decide +kernel
theorem dX12_hides_96 : decode cX12_hides 96 = .ok (.iload 8, 2) := by decide +kernel
theorem dX12_hides_98 : decode cX12_hides 98 = .ok (.invokestatic 217, 3) := by decide +kernel
theorem dX12_hides_101 : decode cX12_hides 101 = .ok (.iload 7, 2) := by decide +kernel
theorem dX12_hides_103 : decode cX12_hides 103 = .ok (.if_icmp .eq 6, 3) := by decide +kernel
theorem dX12_hides_106 : decode cX12_hides 106 = .ok (.goto 31, 3) := by decide +kernel
theorem dX12_hides_109 : decode cX12_hides 109 = .ok (.aload_n 0, 1) := by decide +kernel
theorem dX12_hides_110 : decode cX12_hides 110 = .ok (.iload 8, 2) := by decide +kernel
theorem dX12_hides_112 : decode cX12_hides 112 = .ok (.iload_n 2, 1) := by decide +kernel
theorem dX12_hides_113 : decode cX12_hides 113 = .ok (.invokevirtual 418, 3) := by decide +kernel
theorem dX12_hides_116 : decode cX12_hides 116 = .ok (.lstore 9, 2) := by decide +kernel
theorem dX12_hides_118 : decode cX12_hides 118 = .ok (.lload 9, 2) := by decide +kernel
theorem dX12_hides_120 : decode cX12_hides 120 = .ok (.lload 5, 2) := by decide +kernel
theorem dX12_hides_122 : decode cX12_hides 122 = .ok (.lcmp, 1) := by decide +kernel
theorem dX12_hides_123 : decode cX12_hides 123 = .ok (.ifCond .gt 6, 3) := by decide +kernel
theorem dX12_hides_126 : decode cX12_hides 126 = .ok (.goto 11, 3) := by decide +kernel
theorem dX12_hides_129 : decode cX12_hides 129 = .ok (.iload 8, 2) := by decide +kernel
theorem dX12_hides_131 : decode cX12_hides 131 = .ok (.istore 4, 2) := by decide +kernel
theorem dX12_hides_133 : decode cX12_hides 133 = .ok (.lload 9, 2) := by decide +kernel
theorem dX12_hides_135 : decode cX12_hides 135 = .ok (.lstore 5, 2) := by decide +kernel
theorem dX12_hides_137 : decode cX12_hides 137 = .ok (.iinc 8 1, 3) := by decide +kernel
theorem dX12_hides_140 : decode cX12_hides 140 = .ok (.goto (-65), 3) := by decide +kernel
theorem dX12_hides_143 : decode cX12_hides 143 = .ok (.iinc 7 1, 3) := by decide +kernel
theorem dX12_hides_146 : decode cX12_hides 146 = .ok (.goto (-80), 3) := by decide +kernel
theorem dX12_hides_149 : decode cX12_hides 149 = .ok (.iload_n 3, 1) := by decide +kernel
theorem dX12_hides_150 : decode cX12_hides 150 = .ok (.ifCond .ne 11, 3) := by decide +kernel
theorem dX12_hides_153 : decode cX12_hides 153 = .ok (.iload 4, 2) := by decide +kernel
theorem dX12_hides_155 : decode cX12_hides 155 = .ok (.invokestatic 217, 3) := by decide +kernel
theorem dX12_hides_158 : decode cX12_hides 158 = .ok (.goto 5, 3) := by decide +kernel
theorem dX12_hides_161 : decode cX12_hides 161 = .ok (.iload 4, 2) := by decide +kernel
theorem dX12_hides_163 : decode cX12_hides 163 = .ok (.ireturn, 1) := by decide +kernel
theorem dX12_buyersNow_0 : decode cX12_buyersNow 0 = .ok (.iconst 0, 1) := by decide +kernel
theorem dX12_buyersNow_1 : decode cX12_buyersNow 1 = .ok (.istore_n 1, 1) := by decide +kernel
theorem dX12_buyersNow_2 : decode cX12_buyersNow 2 = .ok (.iconst 0, 1) := by decide +kernel
theorem dX12_buyersNow_3 : decode cX12_buyersNow 3 = .ok (.istore_n 2, 1) := by decide +kernel
theorem dX12_buyersNow_4 : decode cX12_buyersNow 4 = .ok (.iload_n 2, 1) := by decide +kernel
theorem dX12_buyersNow_5 : decode cX12_buyersNow 5 = .ok (.aload_n 0, 1) := by decide +kernel
theorem dX12_buyersNow_6 : decode cX12_buyersNow 6 = .ok (.getfield 13, 3) := by decide +kernel
theorem dX12_buyersNow_9 : decode cX12_buyersNow 9 = .ok (.iconst 1, 1) := by decide +kernel
theorem dX12_buyersNow_10 : decode cX12_buyersNow 10 = .ok (.iaload, 1) := by decide +kernel
theorem dX12_buyersNow_11 : decode cX12_buyersNow 11 = .ok (.if_icmp .ge 28, 3) := by decide +kernel
theorem dX12_buyersNow_14 : decode cX12_buyersNow 14 = .ok (.iload_n 1, 1) := by decide +kernel
theorem dX12_buyersNow_15 : decode cX12_buyersNow 15 = .ok (.aload_n 0, 1) := by decide +kernel
theorem dX12_buyersNow_16 : decode cX12_buyersNow 16 = .ok (.iload_n 2, 1) := by decide +kernel
theorem dX12_buyersNow_17 : decode cX12_buyersNow 17 = .ok (.invokevirtual 242, 3) := by decide +kernel
theorem dX12_buyersNow_20 : decode cX12_buyersNow 20 = .ok (.iconst (-1), 1) := by decide +kernel
theorem dX12_buyersNow_21 : decode cX12_buyersNow 21 = .ok (.if_icmp .eq 9, 3) := by decide +kernel
theorem dX12_buyersNow_24 : decode cX12_buyersNow 24 = .ok (.iconst 1, 1) := by decide +kernel
theorem dX12_buyersNow_25 : decode cX12_buyersNow 25 = .ok (.iload_n 2, 1) := by decide +kernel
theorem dX12_buyersNow_26 : decode cX12_buyersNow 26 = .ok (.ishl, 1) := by decide +kernel
theorem dX12_buyersNow_27 : decode cX12_buyersNow 27 = .ok (.goto 4, 3) := by decide +kernel
theorem dX12_buyersNow_30 : decode cX12_buyersNow 30 = .ok (.iconst 0, 1) := by decide +kernel
theorem dX12_buyersNow_31 : decode cX12_buyersNow 31 = .ok (.ior, 1) := by decide +kernel
theorem dX12_buyersNow_32 : decode cX12_buyersNow 32 = .ok (.istore_n 1, 1) := by decide +kernel
theorem dX12_buyersNow_33 : decode cX12_buyersNow 33 = .ok (.iinc 2 1, 3) := by decide +kernel
theorem dX12_buyersNow_36 : decode cX12_buyersNow 36 = .ok (.goto (-32), 3) := by decide +kernel
theorem dX12_buyersNow_39 : decode cX12_buyersNow 39 = .ok (.iload_n 1, 1) := by decide +kernel
theorem dX12_buyersNow_40 : decode cX12_buyersNow 40 = .ok (.ireturn, 1) := by decide +kernel
theorem dX12_staysOpen_0 : decode cX12_staysOpen 0 = .ok (.aload_n 0, 1) := by decide +kernel
theorem dX12_staysOpen_1 : decode cX12_staysOpen 1 = .ok (.getfield 13, 3) := by decide +kernel
theorem dX12_staysOpen_4 : decode cX12_staysOpen 4 = .ok (.bipush 28, 2) := by decide +kernel
theorem dX12_staysOpen_6 : decode cX12_staysOpen 6 = .ok (.iaload, 1) := by decide +kernel
theorem dX12_staysOpen_7 : decode cX12_staysOpen 7 = .ok (.istore_n 3, 1) := by decide +kernel
theorem dX12_staysOpen_8 : decode cX12_staysOpen 8 = .ok (.aload_n 0, 1) := by decide +kernel
theorem dX12_staysOpen_9 : decode cX12_staysOpen 9 = .ok (.getfield 13, 3) := by decide +kernel
theorem dX12_staysOpen_12 : decode cX12_staysOpen 12 = .ok (.bipush 28, 2) := by decide +kernel
theorem dX12_staysOpen_14 : decode cX12_staysOpen 14 = .ok (.iload_n 3, 1) := by decide +kernel
theorem dX12_staysOpen_15 : decode cX12_staysOpen 15 = .ok (.iload_n 1, 1) := by decide +kernel
theorem dX12_staysOpen_16 : decode cX12_staysOpen 16 = .ok (.ior, 1) := by decide +kernel
theorem dX12_staysOpen_17 : decode cX12_staysOpen 17 = .ok (.iastore, 1) := by decide +kernel
theorem dX12_staysOpen_18 : decode cX12_staysOpen 18 = .ok (.iload_n 2, 1) := by decide +kernel
theorem dX12_staysOpen_19 : decode cX12_staysOpen 19 = .ok (.aload_n 0, 1) := by decide +kernel
theorem dX12_staysOpen_20 : decode cX12_staysOpen 20 = .ok (.invokevirtual 422, 3) := by decide +kernel
theorem dX12_staysOpen_23 : decode cX12_staysOpen 23 = .ok (.iconst (-1), 1) := by decide +kernel
theorem dX12_staysOpen_24 : decode cX12_staysOpen 24 = .ok (.ixor, 1) := by decide +kernel
theorem dX12_staysOpen_25 : decode cX12_staysOpen 25 = .ok (.iand, 1) := by decide +kernel
theorem dX12_staysOpen_26 : decode cX12_staysOpen 26 = .ok (.ifCond .ne 15, 3) := by decide +kernel
theorem dX12_staysOpen_29 : decode cX12_staysOpen 29 = .ok (.aload_n 0, 1) := by decide +kernel
theorem dX12_staysOpen_30 : decode cX12_staysOpen 30 = .ok (.invokevirtual 351, 3) := by decide +kernel
theorem dX12_staysOpen_33 : decode cX12_staysOpen 33 = .ok (.iconst (-1), 1) := by decide +kernel
theorem dX12_staysOpen_34 : decode cX12_staysOpen 34 = .ok (.if_icmp .ne 7, 3) := by decide +kernel
theorem dX12_staysOpen_37 : decode cX12_staysOpen 37 = .ok (.iconst 1, 1) := by decide +kernel
theorem dX12_staysOpen_38 : decode cX12_staysOpen 38 = .ok (.goto 4, 3) := by decide +kernel
theorem dX12_staysOpen_41 : decode cX12_staysOpen 41 = .ok (.iconst 0, 1) := by decide +kernel
theorem dX12_staysOpen_42 : decode cX12_staysOpen 42 = .ok (.istore 4, 2) := by decide +kernel
theorem dX12_staysOpen_44 : decode cX12_staysOpen 44 = .ok (.aload_n 0, 1) := by decide +kernel
theorem dX12_staysOpen_45 : decode cX12_staysOpen 45 = .ok (.getfield 13, 3) := by decide +kernel
theorem dX12_staysOpen_48 : decode cX12_staysOpen 48 = .ok (.bipush 28, 2) := by decide +kernel
theorem dX12_staysOpen_50 : decode cX12_staysOpen 50 = .ok (.iload_n 3, 1) := by decide +kernel
theorem dX12_staysOpen_51 : decode cX12_staysOpen 51 = .ok (.iastore, 1) := by decide +kernel
theorem dX12_staysOpen_52 : decode cX12_staysOpen 52 = .ok (.iload 4, 2) := by decide +kernel
theorem dX12_staysOpen_54 : decode cX12_staysOpen 54 = .ok (.ireturn, 1) := by decide +kernel
theorem dX12_rota_0 : decode cX12_rota 0 = .ok (.aload_n 0, 1) := by decide +kernel
theorem dX12_rota_1 : decode cX12_rota 1 = .ok (.iconst 0, 1) := by decide +kernel
theorem dX12_rota_2 : decode cX12_rota 2 = .ok (.putfield 1, 3) := by decide +kernel
theorem dX12_rota_5 : decode cX12_rota 5 = .ok (.iload_n 1, 1) := by decide +kernel
theorem dX12_rota_6 : decode cX12_rota 6 = .ok (.invokestatic 390, 3) := by decide +kernel
theorem dX12_rota_9 : decode cX12_rota 9 = .ok (.ifCond .ne 6, 3) := by decide +kernel
theorem dX12_rota_12 : decode cX12_rota 12 = .ok (.bipush (-2), 2) := by decide +kernel
theorem dX12_rota_14 : decode cX12_rota 14 = .ok (.ireturn, 1) := by decide +kernel
theorem dX12_rota_15 : decode cX12_rota 15 = .ok (.aload_n 0, 1) := by decide +kernel
theorem dX12_rota_16 : decode cX12_rota 16 = .ok (.invokevirtual 259, 3) := by decide +kernel
theorem dX12_rota_19 : decode cX12_rota 19 = .ok (.ifCond .eq 6, 3) := by decide +kernel
theorem dX12_rota_22 : decode cX12_rota 22 = .ok (.bipush (-5), 2) := by decide +kernel
theorem dX12_rota_24 : decode cX12_rota 24 = .ok (.ireturn, 1) := by decide +kernel
theorem dX12_rota_25 : decode cX12_rota 25 = .ok (.aload_n 0, 1) := by decide +kernel
theorem dX12_rota_26 : decode cX12_rota 26 = .ok (.invokevirtual 422, 3) := by decide +kernel
theorem dX12_rota_29 : decode cX12_rota 29 = .ok (.istore_n 2, 1) := by decide +kernel
theorem dX12_rota_30 : decode cX12_rota 30 = .ok (.iconst (-1), 1) := by decide +kernel
theorem dX12_rota_31 : decode cX12_rota 31 = .ok (.istore_n 3, 1) := by decide +kernel
theorem dX12_rota_32 : decode cX12_rota 32 = .ok (.iconst 0, 1) := by decide +kernel
theorem dX12_rota_33 : decode cX12_rota 33 = .ok (.istore 4, 2) := by decide +kernel
theorem dX12_rota_35 : decode cX12_rota 35 = .ok (.iload 4, 2) := by decide +kernel
theorem dX12_rota_37 : decode cX12_rota 37 = .ok (.aload_n 0, 1) := by decide +kernel
theorem dX12_rota_38 : decode cX12_rota 38 = .ok (.invokevirtual 207, 3) := by decide +kernel
theorem dX12_rota_41 : decode cX12_rota 41 = .ok (.if_icmp .gt 51, 3) := by decide +kernel
theorem dX12_rota_44 : decode cX12_rota 44 = .ok (.iload 4, 2) := by decide +kernel
theorem dX12_rota_46 : decode cX12_rota 46 = .ok (.aload_n 0, 1) := by decide +kernel
theorem dX12_rota_47 : decode cX12_rota 47 = .ok (.invokevirtual 207, 3) := by decide +kernel
theorem dX12_rota_50 : decode cX12_rota 50 = .ok (.iconst (-1), 1) := by decide +kernel
theorem dX12_rota_51 : decode cX12_rota 51 = .ok (.ixor, 1) := by decide +kernel
theorem dX12_rota_52 : decode cX12_rota 52 = .ok (.iand, 1) := by decide +kernel
theorem dX12_rota_53 : decode cX12_rota 53 = .ok (.ifCond .ne 33, 3) := by decide +kernel
theorem dX12_rota_56 : decode cX12_rota 56 = .ok (.iload_n 3, 1) := by decide +kernel
theorem dX12_rota_57 : decode cX12_rota 57 = .ok (.iconst (-1), 1) := by decide +kernel
theorem dX12_rota_58 : decode cX12_rota 58 = .ok (.if_icmp .eq 15, 3) := by decide +kernel
theorem dX12_rota_61 : decode cX12_rota 61 = .ok (.iload 4, 2) := by decide +kernel
theorem dX12_rota_63 : decode cX12_rota 63 = .ok (.invokestatic 217, 3) := by decide +kernel
theorem dX12_rota_66 : decode cX12_rota 66 = .ok (.iload_n 3, 1) := by decide +kernel
theorem dX12_rota_67 : decode cX12_rota 67 = .ok (.invokestatic 217, 3) := by decide +kernel
theorem dX12_rota_70 : decode cX12_rota 70 = .ok (.if_icmp .ge 16, 3) := by decide +kernel
theorem dX12_rota_73 : decode cX12_rota 73 = .ok (.aload_n 0, 1) := by decide +kernel
theorem dX12_rota_74 : decode cX12_rota 74 = .ok (.iload 4, 2) := by decide +kernel
theorem dX12_rota_76 : decode cX12_rota 76 = .ok (.iload_n 2, 1) := by decide +kernel
theorem dX12_rota_77 : decode cX12_rota 77 = .ok (.invokevirtual 425, 3) := by decide +kernel
theorem dX12_rota_80 : decode cX12_rota 80 = .ok (.ifCond .eq 6, 3) := by decide +kernel
theorem dX12_rota_83 : decode cX12_rota 83 = .ok (.iload 4, 2) := by decide +kernel
theorem dX12_rota_85 : decode cX12_rota 85 = .ok (.istore_n 3, 1) := by decide +kernel
theorem dX12_rota_86 : decode cX12_rota 86 = .ok (.iinc 4 1, 3) := by decide +kernel
theorem dX12_rota_89 : decode cX12_rota 89 = .ok (.goto (-54), 3) := by decide +kernel
theorem dX12_rota_92 : decode cX12_rota 92 = .ok (.iload_n 3, 1) := by decide +kernel
theorem dX12_rota_93 : decode cX12_rota 93 = .ok (.iconst (-1), 1) := by decide +kernel
theorem dX12_rota_94 : decode cX12_rota 94 = .ok (.if_icmp .eq 8, 3) := by decide +kernel
theorem dX12_rota_97 : decode cX12_rota 97 = .ok (.iload_n 1, 1) := by decide +kernel
theorem dX12_rota_98 : decode cX12_rota 98 = .ok (.iconst 1, 1) := by decide +kernel
theorem dX12_rota_99 : decode cX12_rota 99 = .ok (.if_icmp .ne 7, 3) := by decide +kernel
theorem dX12_rota_102 : decode cX12_rota 102 = .ok (.iload_n 3, 1) := by decide +kernel
theorem dX12_rota_103 : decode cX12_rota 103 = .ok (.goto 7, 3) := by decide +kernel
theorem dX12_rota_106 : decode cX12_rota 106 = .ok (.iload_n 3, 1) := by decide +kernel
theorem dX12_rota_107 : decode cX12_rota 107 = .ok (.invokestatic 217, 3) := by decide +kernel
theorem dX12_rota_110 : decode cX12_rota 110 = .ok (.ireturn, 1) := by decide +kernel
theorem dX12_earns_0 : decode cX12_earns 0 = .ok (.aload_n 0, 1) := by decide +kernel
theorem dX12_earns_1 : decode cX12_earns 1 = .ok (.iconst 0, 1) := by decide +kernel
theorem dX12_earns_2 : decode cX12_earns 2 = .ok (.putfield 1, 3) := by decide +kernel
theorem dX12_earns_5 : decode cX12_earns 5 = .ok (.iload_n 2, 1) := by decide +kernel
theorem dX12_earns_6 : decode cX12_earns 6 = .ok (.invokestatic 390, 3) := by decide +kernel
theorem dX12_earns_9 : decode cX12_earns 9 = .ok (.ifCond .ne 7, 3) := by decide +kernel
theorem dX12_earns_12 : decode cX12_earns 12 = .ok (.ldc2_w 393, 3) := by decide +kernel
theorem dX12_earns_15 : decode cX12_earns 15 = .ok (.lreturn, 1) := by decide +kernel
theorem dX12_earns_16 : decode cX12_earns 16 = .ok (.iload_n 1, 1) := by decide +kernel
theorem dX12_earns_17 : decode cX12_earns 17 = .ok (.i2l, 1) := by decide +kernel
theorem dX12_earns_18 : decode cX12_earns 18 = .ok (.lconst 0, 1) := by decide +kernel
theorem dX12_earns_19 : decode cX12_earns 19 = .ok (.ldc2_w 429, 3) := by decide +kernel
theorem dX12_earns_22 : decode cX12_earns 22 = .ok (.invokestatic 142, 3) := by decide +kernel
theorem dX12_earns_25 : decode cX12_earns 25 = .ok (.ifCond .ne 7, 3) := by decide +kernel
theorem dX12_earns_28 : decode cX12_earns 28 = .ok (.ldc2_w 359, 3) := by decide +kernel
theorem dX12_earns_31 : decode cX12_earns 31 = .ok (.lreturn, 1) := by decide +kernel
theorem dX12_earns_32 : decode cX12_earns 32 = .ok (.aload_n 0, 1) := by decide +kernel
theorem dX12_earns_33 : decode cX12_earns 33 = .ok (.invokevirtual 345, 3) := by decide +kernel
theorem dX12_earns_36 : decode cX12_earns 36 = .ok (.aload_n 0, 1) := by decide +kernel
theorem dX12_earns_37 : decode cX12_earns 37 = .ok (.iload_n 1, 1) := by decide +kernel
theorem dX12_earns_38 : decode cX12_earns 38 = .ok (.invokevirtual 398, 3) := by decide +kernel
theorem dX12_earns_41 : decode cX12_earns 41 = .ok (.aload_n 0, 1) := by decide +kernel
theorem dX12_earns_42 : decode cX12_earns 42 = .ok (.getfield 379, 3) := by decide +kernel
theorem dX12_earns_45 : decode cX12_earns 45 = .ok (.aload_n 0, 1) := by decide +kernel
theorem dX12_earns_46 : decode cX12_earns 46 = .ok (.iload_n 1, 1) := by decide +kernel
theorem dX12_earns_47 : decode cX12_earns 47 = .ok (.invokevirtual 404, 3) := by decide +kernel
theorem dX12_earns_50 : decode cX12_earns 50 = .ok (.iload_n 2, 1) := by decide +kernel
theorem dX12_earns_51 : decode cX12_earns 51 = .ok (.invokestatic 408, 3) := by decide +kernel
theorem dX12_earns_54 : decode cX12_earns 54 = .ok (.lreturn, 1) := by decide +kernel
theorem dX12_bestPrice_0 : decode cX12_bestPrice 0 = .ok (.aload_n 0, 1) := by decide +kernel
theorem dX12_bestPrice_1 : decode cX12_bestPrice 1 = .ok (.iconst 0, 1) := by decide +kernel
theorem dX12_bestPrice_2 : decode cX12_bestPrice 2 = .ok (.putfield 1, 3) := by decide +kernel
theorem dX12_bestPrice_5 : decode cX12_bestPrice 5 = .ok (.aload_n 0, 1) := by decide +kernel
theorem dX12_bestPrice_6 : decode cX12_bestPrice 6 = .ok (.iload_n 1, 1) := by decide +kernel
theorem dX12_bestPrice_7 : decode cX12_bestPrice 7 = .ok (.i2l, 1) := by decide +kernel
theorem dX12_bestPrice_8 : decode cX12_bestPrice 8 = .ok (.invokevirtual 245, 3) := by decide +kernel
theorem dX12_bestPrice_11 : decode cX12_bestPrice 11 = .ok (.ifCond .ne 6, 3) := by decide +kernel
theorem dX12_bestPrice_14 : decode cX12_bestPrice 14 = .ok (.bipush (-2), 2) := by decide +kernel
theorem dX12_bestPrice_16 : decode cX12_bestPrice 16 = .ok (.ireturn, 1) := by decide +kernel
theorem dX12_bestPrice_17 : decode cX12_bestPrice 17 = .ok (.iload_n 2, 1) := by decide +kernel
theorem dX12_bestPrice_18 : decode cX12_bestPrice 18 = .ok (.i2l, 1) := by decide +kernel
theorem dX12_bestPrice_19 : decode cX12_bestPrice 19 = .ok (.lconst 1, 1) := by decide +kernel
theorem dX12_bestPrice_20 : decode cX12_bestPrice 20 = .ok (.ldc2_w 431, 3) := by decide +kernel
theorem dX12_bestPrice_23 : decode cX12_bestPrice 23 = .ok (.invokestatic 142, 3) := by decide +kernel
theorem dX12_bestPrice_26 : decode cX12_bestPrice 26 = .ok (.ifCond .ne 6, 3) := by decide +kernel
theorem dX12_bestPrice_29 : decode cX12_bestPrice 29 = .ok (.bipush (-3), 2) := by decide +kernel
theorem dX12_bestPrice_31 : decode cX12_bestPrice 31 = .ok (.ireturn, 1) := by decide +kernel
theorem dX12_bestPrice_32 : decode cX12_bestPrice 32 = .ok (.aload_n 0, 1) := by decide +kernel
theorem dX12_bestPrice_33 : decode cX12_bestPrice 33 = .ok (.invokevirtual 259, 3) := by decide +kernel
theorem dX12_bestPrice_36 : decode cX12_bestPrice 36 = .ok (.ifCond .eq 6, 3) := by decide +kernel
theorem dX12_bestPrice_39 : decode cX12_bestPrice 39 = .ok (.bipush (-5), 2) := by decide +kernel
theorem dX12_bestPrice_41 : decode cX12_bestPrice 41 = .ok (.ireturn, 1) := by decide +kernel
theorem dX12_bestPrice_42 : decode cX12_bestPrice 42 = .ok (.aload_n 0, 1) := by decide +kernel
theorem dX12_bestPrice_43 : decode cX12_bestPrice 43 = .ok (.getfield 13, 3) := by decide +kernel
theorem dX12_bestPrice_46 : decode cX12_bestPrice 46 = .ok (.bipush 33, 2) := by decide +kernel
theorem dX12_bestPrice_48 : decode cX12_bestPrice 48 = .ok (.iload_n 1, 1) := by decide +kernel
theorem dX12_bestPrice_49 : decode cX12_bestPrice 49 = .ok (.iadd, 1) := by decide +kernel
theorem dX12_bestPrice_50 : decode cX12_bestPrice 50 = .ok (.iaload, 1) := by decide +kernel
theorem dX12_bestPrice_51 : decode cX12_bestPrice 51 = .ok (.istore_n 3, 1) := by decide +kernel
theorem dX12_bestPrice_52 : decode cX12_bestPrice 52 = .ok (.iconst (-1), 1) := by decide +kernel
theorem dX12_bestPrice_53 : decode cX12_bestPrice 53 = .ok (.istore 4, 2) := by decide +kernel
theorem dX12_bestPrice_55 : decode cX12_bestPrice 55 = .ok (.ldc2_w 302, 3) := by decide +kernel
theorem dX12_bestPrice_58 : decode cX12_bestPrice 58 = .ok (.lstore 5, 2) := by decide +kernel
theorem dX12_bestPrice_60 : decode cX12_bestPrice 60 = .ok (.iconst 1, 1) := by decide +kernel
theorem dX12_bestPrice_61 : decode cX12_bestPrice 61 = .ok (.istore 7, 2) := by decide +kernel
theorem dX12_bestPrice_63 : decode cX12_bestPrice 63 = .ok (.iload 7, 2) := by decide +kernel
theorem dX12_bestPrice_65 : decode cX12_bestPrice 65 = .ok (.bipush 99, 2) := by decide +kernel
theorem dX12_bestPrice_67 : decode cX12_bestPrice 67 = .ok (.if_icmp .gt 52, 3) := by decide +kernel
theorem dX12_bestPrice_70 : decode cX12_bestPrice 70 = .ok (.aload_n 0, 1) := by decide +kernel
theorem dX12_bestPrice_71 : decode cX12_bestPrice 71 = .ok (.getfield 13, 3) := by decide +kernel
theorem dX12_bestPrice_74 : decode cX12_bestPrice 74 = .ok (.bipush 33, 2) := by decide +kernel
theorem dX12_bestPrice_76 : decode cX12_bestPrice 76 = .ok (.iload_n 1, 1) := by decide +kernel
theorem dX12_bestPrice_77 : decode cX12_bestPrice 77 = .ok (.iadd, 1) := by decide +kernel
theorem dX12_bestPrice_78 : decode cX12_bestPrice 78 = .ok (.iload 7, 2) := by decide +kernel
theorem dX12_bestPrice_80 : decode cX12_bestPrice 80 = .ok (.iastore, 1) := by decide +kernel
theorem dX12_bestPrice_81 : decode cX12_bestPrice 81 = .ok (.aload_n 0, 1) := by decide +kernel
theorem dX12_bestPrice_82 : decode cX12_bestPrice 82 = .ok (.invokevirtual 345, 3) := by decide +kernel
theorem dX12_bestPrice_85 : decode cX12_bestPrice 85 = .ok (.aload_n 0, 1) := by decide +kernel
theorem dX12_bestPrice_86 : decode cX12_bestPrice 86 = .ok (.iload_n 2, 1) := by decide +kernel
theorem dX12_bestPrice_87 : decode cX12_bestPrice 87 = .ok (.invokevirtual 398, 3) := by decide +kernel
theorem dX12_bestPrice_90 : decode cX12_bestPrice 90 = .ok (.aload_n 0, 1) := by decide +kernel
theorem dX12_bestPrice_91 : decode cX12_bestPrice 91 = .ok (.getfield 379, 3) := by decide +kernel
theorem dX12_bestPrice_94 : decode cX12_bestPrice 94 = .ok (.lload 5, 2) := by decide +kernel
theorem dX12_bestPrice_96 : decode cX12_bestPrice 96 = .ok (.lcmp, 1) := by decide +kernel
theorem dX12_bestPrice_97 : decode cX12_bestPrice 97 = .ok (.ifCond .gt 6, 3) := by decide +kernel
theorem dX12_bestPrice_100 : decode cX12_bestPrice 100 = .ok (.goto 13, 3) := by decide +kernel
theorem dX12_bestPrice_103 : decode cX12_bestPrice 103 = .ok (.iload 7, 2) := by decide +kernel
theorem dX12_bestPrice_105 : decode cX12_bestPrice 105 = .ok (.istore 4, 2) := by decide +kernel
theorem dX12_bestPrice_107 : decode cX12_bestPrice 107 = .ok (.aload_n 0, 1) := by decide +kernel
theorem dX12_bestPrice_108 : decode cX12_bestPrice 108 = .ok (.getfield 379, 3) := by decide +kernel
theorem dX12_bestPrice_111 : decode cX12_bestPrice 111 = .ok (.lstore 5, 2) := by decide +kernel
theorem dX12_bestPrice_113 : decode cX12_bestPrice 113 = .ok (.iinc 7 1, 3) := by decide +kernel
theorem dX12_bestPrice_116 : decode cX12_bestPrice 116 = .ok (.goto (-53), 3) := by decide +kernel
theorem dX12_bestPrice_119 : decode cX12_bestPrice 119 = .ok (.aload_n 0, 1) := by decide +kernel
theorem dX12_bestPrice_120 : decode cX12_bestPrice 120 = .ok (.getfield 13, 3) := by decide +kernel
theorem dX12_bestPrice_123 : decode cX12_bestPrice 123 = .ok (.bipush 33, 2) := by decide +kernel
theorem dX12_bestPrice_125 : decode cX12_bestPrice 125 = .ok (.iload_n 1, 1) := by decide +kernel
theorem dX12_bestPrice_126 : decode cX12_bestPrice 126 = .ok (.iadd, 1) := by decide +kernel
theorem dX12_bestPrice_127 : decode cX12_bestPrice 127 = .ok (.iload_n 3, 1) := by decide +kernel
theorem dX12_bestPrice_128 : decode cX12_bestPrice 128 = .ok (.iastore, 1) := by decide +kernel
theorem dX12_bestPrice_129 : decode cX12_bestPrice 129 = .ok (.iload 4, 2) := by decide +kernel
theorem dX12_bestPrice_131 : decode cX12_bestPrice 131 = .ok (.ireturn, 1) := by decide +kernel
theorem dX12_noSeen_0 : decode cX12_noSeen 0 = .ok (.aload_n 0, 1) := by decide +kernel
theorem dX12_noSeen_1 : decode cX12_noSeen 1 = .ok (.iload_n 1, 1) := by decide +kernel
theorem dX12_noSeen_2 : decode cX12_noSeen 2 = .ok (.invokevirtual 327, 3) := by decide +kernel
theorem dX12_noSeen_5 : decode cX12_noSeen 5 = .ok (.istore_n 2, 1) := by decide +kernel
theorem dX12_noSeen_6 : decode cX12_noSeen 6 = .ok (.iload_n 2, 1) := by decide +kernel
theorem dX12_noSeen_7 : decode cX12_noSeen 7 = .ok (.ifCond .eq 5, 3) := by decide +kernel
theorem dX12_noSeen_10 : decode cX12_noSeen 10 = .ok (.iload_n 2, 1) := by decide +kernel
theorem dX12_noSeen_11 : decode cX12_noSeen 11 = .ok (.ireturn, 1) := by decide +kernel
theorem dX12_noSeen_12 : decode cX12_noSeen 12 = .ok (.aload_n 0, 1) := by decide +kernel
theorem dX12_noSeen_13 : decode cX12_noSeen 13 = .ok (.getfield 70, 3) := by decide +kernel
theorem dX12_noSeen_16 : decode cX12_noSeen 16 = .ok (.iload_n 1, 1) := by decide +kernel
theorem dX12_noSeen_17 : decode cX12_noSeen 17 = .ok (.iaload, 1) := by decide +kernel
theorem dX12_noSeen_18 : decode cX12_noSeen 18 = .ok (.i2l, 1) := by decide +kernel
theorem dX12_noSeen_19 : decode cX12_noSeen 19 = .ok (.lconst 1, 1) := by decide +kernel
theorem dX12_noSeen_20 : decode cX12_noSeen 20 = .ok (.ldc2_w 433, 3) := by decide +kernel
theorem dX12_noSeen_23 : decode cX12_noSeen 23 = .ok (.invokestatic 142, 3) := by decide +kernel
theorem dX12_noSeen_26 : decode cX12_noSeen 26 = .ok (.ifCond .ne 6, 3) := by decide +kernel
theorem dX12_noSeen_29 : decode cX12_noSeen 29 = .ok (.bipush (-4), 2) := by decide +kernel
theorem dX12_noSeen_31 : decode cX12_noSeen 31 = .ok (.ireturn, 1) := by decide +kernel
theorem dX12_noSeen_32 : decode cX12_noSeen 32 = .ok (.iconst 0, 1) := by decide +kernel
theorem dX12_noSeen_33 : decode cX12_noSeen 33 = .ok (.istore_n 3, 1) := by decide +kernel
theorem dX12_noSeen_34 : decode cX12_noSeen 34 = .ok (.iload_n 3, 1) := by decide +kernel
theorem dX12_noSeen_35 : decode cX12_noSeen 35 = .ok (.aload_n 0, 1) := by decide +kernel
theorem dX12_noSeen_36 : decode cX12_noSeen 36 = .ok (.getfield 70, 3) := by decide +kernel
theorem dX12_noSeen_39 : decode cX12_noSeen 39 = .ok (.iload_n 1, 1) := by decide +kernel
theorem dX12_noSeen_40 : decode cX12_noSeen 40 = .ok (.iaload, 1) := by decide +kernel
theorem dX12_noSeen_41 : decode cX12_noSeen 41 = .ok (.if_icmp .ge 71, 3) := by decide +kernel
theorem dX12_noSeen_44 : decode cX12_noSeen 44 = .ok (.aload_n 0, 1) := by decide +kernel
theorem dX12_noSeen_45 : decode cX12_noSeen 45 = .ok (.getfield 73, 3) := by decide +kernel
theorem dX12_noSeen_48 : decode cX12_noSeen 48 = .ok (.bipush 40, 2) := by decide +kernel
theorem dX12_noSeen_50 : decode cX12_noSeen 50 = .ok (.iload_n 1, 1) := by decide +kernel
theorem dX12_noSeen_51 : decode cX12_noSeen 51 = .ok (.imul, 1) := by decide +kernel
theorem dX12_noSeen_52 : decode cX12_noSeen 52 = .ok (.iload_n 3, 1) := by decide +kernel
theorem dX12_noSeen_53 : decode cX12_noSeen 53 = .ok (.iadd, 1) := by decide +kernel
theorem dX12_noSeen_54 : decode cX12_noSeen 54 = .ok (.laload, 1) := by decide +kernel
theorem dX12_noSeen_55 : decode cX12_noSeen 55 = .ok (.lstore 4, 2) := by decide +kernel
theorem dX12_noSeen_57 : decode cX12_noSeen 57 = .ok (.lload 4, 2) := by decide +kernel
theorem dX12_noSeen_59 : decode cX12_noSeen 59 = .ok (.lconst 0, 1) := by decide +kernel
theorem dX12_noSeen_60 : decode cX12_noSeen 60 = .ok (.lcmp, 1) := by decide +kernel
theorem dX12_noSeen_61 : decode cX12_noSeen 61 = .ok (.ifCond .lt 42, 3) := by decide +kernel
theorem dX12_noSeen_64 : decode cX12_noSeen 64 = .ok (.aload_n 0, 1) := by decide +kernel
theorem dX12_noSeen_65 : decode cX12_noSeen 65 = .ok (.lload 4, 2) := by decide +kernel
theorem dX12_noSeen_67 : decode cX12_noSeen 67 = .ok (.ldc2_w 300, 3) := by decide +kernel
theorem dX12_noSeen_70 : decode cX12_noSeen 70 = .ok (.ldiv, 1) := by decide +kernel
theorem dX12_noSeen_71 : decode cX12_noSeen 71 = .ok (.invokevirtual 252, 3) := by decide +kernel
theorem dX12_noSeen_74 : decode cX12_noSeen 74 = .ok (.ifCond .eq 29, 3) := by decide +kernel
theorem dX12_noSeen_77 : decode cX12_noSeen 77 = .ok (.lload 4, 2) := by decide +kernel
theorem dX12_noSeen_79 : decode cX12_noSeen 79 = .ok (.ldc2_w 300, 3) := by decide +kernel
theorem dX12_noSeen_82 : decode cX12_noSeen 82 = .ok (.lrem, 1) := by decide +kernel
theorem dX12_noSeen_83 : decode cX12_noSeen 83 = .ok (.ldc2_w 291, 3) := by decide +kernel
theorem dX12_noSeen_86 : decode cX12_noSeen 86 = .ok (.lcmp, 1) := by decide +kernel
theorem dX12_noSeen_87 : decode cX12_noSeen 87 = .ok (.ifCond .eq 19, 3) := by decide +kernel
theorem dX12_noSeen_90 : decode cX12_noSeen 90 = .ok (.aload_n 0, 1) := by decide +kernel
theorem dX12_noSeen_91 : decode cX12_noSeen 91 = .ok (.lload 4, 2) := by decide +kernel
theorem dX12_noSeen_93 : decode cX12_noSeen 93 = .ok (.ldc2_w 300, 3) := by decide +kernel
theorem dX12_noSeen_96 : decode cX12_noSeen 96 = .ok (.lrem, 1) := by decide +kernel
theorem dX12_noSeen_97 : decode cX12_noSeen 97 = .ok (.invokevirtual 245, 3) := by decide +kernel
theorem dX12_noSeen_100 : decode cX12_noSeen 100 = .ok (.ifCond .ne 6, 3) := by decide +kernel
theorem dX12_noSeen_103 : decode cX12_noSeen 103 = .ok (.bipush (-3), 2) := by decide +kernel
theorem dX12_noSeen_105 : decode cX12_noSeen 105 = .ok (.ireturn, 1) := by decide +kernel
theorem dX12_noSeen_106 : decode cX12_noSeen 106 = .ok (.iinc 3 1, 3) := by decide +kernel
theorem dX12_noSeen_109 : decode cX12_noSeen 109 = .ok (.goto (-75), 3) := by decide +kernel
theorem dX12_noSeen_112 : decode cX12_noSeen 112 = .ok (.iconst 0, 1) := by decide +kernel
theorem dX12_noSeen_113 : decode cX12_noSeen 113 = .ok (.ireturn, 1) := by decide +kernel
theorem dX12_laysSeen_0 : decode cX12_laysSeen 0 = .ok (.aload_n 0, 1) := by decide +kernel
theorem dX12_laysSeen_1 : decode cX12_laysSeen 1 = .ok (.invokevirtual 345, 3) := by decide +kernel
theorem dX12_laysSeen_4 : decode cX12_laysSeen 4 = .ok (.iconst 0, 1) := by decide +kernel
theorem dX12_laysSeen_5 : decode cX12_laysSeen 5 = .ok (.istore_n 2, 1) := by decide +kernel
theorem dX12_laysSeen_6 : decode cX12_laysSeen 6 = .ok (.iconst 0, 1) := by decide +kernel
theorem dX12_laysSeen_7 : decode cX12_laysSeen 7 = .ok (.istore_n 3, 1) := by decide +kernel
theorem dX12_laysSeen_8 : decode cX12_laysSeen 8 = .ok (.iload_n 3, 1) := by decide +kernel
theorem dX12_laysSeen_9 : decode cX12_laysSeen 9 = .ok (.aload_n 0, 1) := by decide +kernel
theorem dX12_laysSeen_10 : decode cX12_laysSeen 10 = .ok (.invokevirtual 204, 3) := by decide +kernel
theorem dX12_laysSeen_13 : decode cX12_laysSeen 13 = .ok (.if_icmp .gt 134, 3) := by decide +kernel
theorem dX12_laysSeen_16 : decode cX12_laysSeen 16 = .ok (.iload_n 3, 1) := by decide +kernel
theorem dX12_laysSeen_17 : decode cX12_laysSeen 17 = .ok (.istore 4, 2) := by decide +kernel
theorem dX12_laysSeen_19 : decode cX12_laysSeen 19 = .ok (.iconst 0, 1) := by decide +kernel
theorem dX12_laysSeen_20 : decode cX12_laysSeen 20 = .ok (.istore 5, 2) := by decide +kernel
theorem dX12_laysSeen_22 : decode cX12_laysSeen 22 = .ok (.iload 5, 2) := by decide +kernel
theorem dX12_laysSeen_24 : decode cX12_laysSeen 24 = .ok (.aload_n 0, 1) := by decide +kernel
theorem dX12_laysSeen_25 : decode cX12_laysSeen 25 = .ok (.getfield 70, 3) := by decide +kernel
theorem dX12_laysSeen_28 : decode cX12_laysSeen 28 = .ok (.iload_n 1, 1) := by decide +kernel
theorem dX12_laysSeen_29 : decode cX12_laysSeen 29 = .ok (.iaload, 1) := by decide +kernel
theorem dX12_laysSeen_30 : decode cX12_laysSeen 30 = .ok (.if_icmp .ge 90, 3) := by decide +kernel
theorem dX12_laysSeen_33 : decode cX12_laysSeen 33 = .ok (.iload 4, 2) := by decide +kernel
theorem dX12_laysSeen_35 : decode cX12_laysSeen 35 = .ok (.ifCond .lt 85, 3) := by decide +kernel
theorem dX12_laysSeen_38 : decode cX12_laysSeen 38 = .ok (.aload_n 0, 1) := by decide +kernel
theorem dX12_laysSeen_39 : decode cX12_laysSeen 39 = .ok (.getfield 73, 3) := by decide +kernel
theorem dX12_laysSeen_42 : decode cX12_laysSeen 42 = .ok (.bipush 40, 2) := by decide +kernel
theorem dX12_laysSeen_44 : decode cX12_laysSeen 44 = .ok (.iload_n 1, 1) := by decide +kernel
theorem dX12_laysSeen_45 : decode cX12_laysSeen 45 = .ok (.imul, 1) := by decide +kernel
theorem dX12_laysSeen_46 : decode cX12_laysSeen 46 = .ok (.iload 5, 2) := by decide +kernel
theorem dX12_laysSeen_48 : decode cX12_laysSeen 48 = .ok (.iadd, 1) := by decide +kernel
theorem dX12_laysSeen_49 : decode cX12_laysSeen 49 = .ok (.laload, 1) := by decide +kernel
theorem dX12_laysSeen_50 : decode cX12_laysSeen 50 = .ok (.l2i, 1) := by decide +kernel
theorem dX12_laysSeen_51 : decode cX12_laysSeen 51 = .ok (.istore 6, 2) := by decide +kernel
theorem dX12_laysSeen_53 : decode cX12_laysSeen 53 = .ok (.aload_n 0, 1) := by decide +kernel
theorem dX12_laysSeen_54 : decode cX12_laysSeen 54 = .ok (.iload 4, 2) := by decide +kernel
theorem dX12_laysSeen_56 : decode cX12_laysSeen 56 = .ok (.iload 6, 2) := by decide +kernel
theorem dX12_laysSeen_58 : decode cX12_laysSeen 58 = .ok (.bipush 10, 2) := by decide +kernel
theorem dX12_laysSeen_60 : decode cX12_laysSeen 60 = .ok (.idiv, 1) := by decide +kernel
theorem dX12_laysSeen_61 : decode cX12_laysSeen 61 = .ok (.invokevirtual 342, 3) := by decide +kernel
theorem dX12_laysSeen_64 : decode cX12_laysSeen 64 = .ok (.istore 7, 2) := by decide +kernel
theorem dX12_laysSeen_66 : decode cX12_laysSeen 66 = .ok (.iload 7, 2) := by decide +kernel
theorem dX12_laysSeen_68 : decode cX12_laysSeen 68 = .ok (.iload 6, 2) := by decide +kernel
theorem dX12_laysSeen_70 : decode cX12_laysSeen 70 = .ok (.bipush 10, 2) := by decide +kernel
theorem dX12_laysSeen_72 : decode cX12_laysSeen 72 = .ok (.irem, 1) := by decide +kernel
theorem dX12_laysSeen_73 : decode cX12_laysSeen 73 = .ok (.bipush 9, 2) := by decide +kernel
theorem dX12_laysSeen_75 : decode cX12_laysSeen 75 = .ok (.if_icmp .ne 7, 3) := by decide +kernel
theorem dX12_laysSeen_78 : decode cX12_laysSeen 78 = .ok (.iconst (-1), 1) := by decide +kernel
theorem dX12_laysSeen_79 : decode cX12_laysSeen 79 = .ok (.goto 8, 3) := by decide +kernel
theorem dX12_laysSeen_82 : decode cX12_laysSeen 82 = .ok (.iload 6, 2) := by decide +kernel
theorem dX12_laysSeen_84 : decode cX12_laysSeen 84 = .ok (.bipush 10, 2) := by decide +kernel
theorem dX12_laysSeen_86 : decode cX12_laysSeen 86 = .ok (.irem, 1) := by decide +kernel
theorem dX12_laysSeen_87 : decode cX12_laysSeen 87 = .ok (.if_icmp .eq 7, 3) := by decide +kernel
theorem dX12_laysSeen_90 : decode cX12_laysSeen 90 = .ok (.iconst (-1), 1) := by decide +kernel
theorem dX12_laysSeen_91 : decode cX12_laysSeen 91 = .ok (.goto 21, 3) := by decide +kernel
theorem dX12_laysSeen_94 : decode cX12_laysSeen 94 = .ok (.iload 7, 2) := by decide +kernel
theorem dX12_laysSeen_96 : decode cX12_laysSeen 96 = .ok (.iconst (-1), 1) := by decide +kernel
theorem dX12_laysSeen_97 : decode cX12_laysSeen 97 = .ok (.if_icmp .ne 8, 3) := by decide +kernel
theorem dX12_laysSeen_100 : decode cX12_laysSeen 100 = .ok (.iload 4, 2) := by decide +kernel
theorem dX12_laysSeen_102 : decode cX12_laysSeen 102 = .ok (.goto 10, 3) := by decide +kernel
theorem dX12_laysSeen_105 : decode cX12_laysSeen 105 = .ok (.iload 4, 2) := by decide +kernel
theorem dX12_laysSeen_107 : decode cX12_laysSeen 107 = .ok (.iconst 1, 1) := by decide +kernel
theorem dX12_laysSeen_108 : decode cX12_laysSeen 108 = .ok (.iload 7, 2) := by decide +kernel
theorem dX12_laysSeen_110 : decode cX12_laysSeen 110 = .ok (.ishl, 1) := by decide +kernel
theorem dX12_laysSeen_111 : decode cX12_laysSeen 111 = .ok (.ior, 1) := by decide +kernel
theorem dX12_laysSeen_112 : decode cX12_laysSeen 112 = .ok (.istore 4, 2) := by decide +kernel
theorem dX12_laysSeen_114 : decode cX12_laysSeen 114 = .ok (.iinc 5 1, 3) := by decide +kernel
theorem dX12_laysSeen_117 : decode cX12_laysSeen 117 = .ok (.goto (-95), 3) := by decide +kernel
theorem dX12_laysSeen_120 : decode cX12_laysSeen 120 = .ok (.aload_n 0, 1) := by decide +kernel
theorem dX12_laysSeen_121 : decode cX12_laysSeen 121 = .ok (.getfield 61, 3) := by decide +kernel
theorem dX12_laysSeen_124 : decode cX12_laysSeen 124 = .ok (.iload_n 3, 1) := by decide +kernel
theorem dX12_laysSeen_125 : decode cX12_laysSeen 125 = .ok (.iload 4, 2) := by decide +kernel
theorem dX12_laysSeen_127 : decode cX12_laysSeen 127 = .ok (.iastore, 1) := by decide +kernel
theorem dX12_laysSeen_128 : decode cX12_laysSeen 128 = .ok (.iload_n 2, 1) := by decide +kernel
theorem dX12_laysSeen_129 : decode cX12_laysSeen 129 = .ok (.iload 4, 2) := by decide +kernel
theorem dX12_laysSeen_131 : decode cX12_laysSeen 131 = .ok (.ifCond .lt 7, 3) := by decide +kernel
theorem dX12_laysSeen_134 : decode cX12_laysSeen 134 = .ok (.iconst 1, 1) := by decide +kernel
theorem dX12_laysSeen_135 : decode cX12_laysSeen 135 = .ok (.goto 4, 3) := by decide +kernel
theorem dX12_laysSeen_138 : decode cX12_laysSeen 138 = .ok (.iconst 0, 1) := by decide +kernel
theorem dX12_laysSeen_139 : decode cX12_laysSeen 139 = .ok (.iadd, 1) := by decide +kernel
theorem dX12_laysSeen_140 : decode cX12_laysSeen 140 = .ok (.istore_n 2, 1) := by decide +kernel
theorem dX12_laysSeen_141 : decode cX12_laysSeen 141 = .ok (.iinc 3 1, 3) := by decide +kernel
theorem dX12_laysSeen_144 : decode cX12_laysSeen 144 = .ok (.goto (-136), 3) := by decide +kernel
theorem dX12_laysSeen_147 : decode cX12_laysSeen 147 = .ok (.iload_n 2, 1) := by decide +kernel
theorem dX12_laysSeen_148 : decode cX12_laysSeen 148 = .ok (.ireturn, 1) := by decide +kernel
theorem dX12_seen_0 : decode cX12_seen 0 = .ok (.aload_n 0, 1) := by decide +kernel
theorem dX12_seen_1 : decode cX12_seen 1 = .ok (.iconst 0, 1) := by decide +kernel
theorem dX12_seen_2 : decode cX12_seen 2 = .ok (.putfield 1, 3) := by decide +kernel
theorem dX12_seen_5 : decode cX12_seen 5 = .ok (.aload_n 0, 1) := by decide +kernel
theorem dX12_seen_6 : decode cX12_seen 6 = .ok (.iload_n 1, 1) := by decide +kernel
theorem dX12_seen_7 : decode cX12_seen 7 = .ok (.invokevirtual 435, 3) := by decide +kernel
theorem dX12_seen_10 : decode cX12_seen 10 = .ok (.istore_n 2, 1) := by decide +kernel
theorem dX12_seen_11 : decode cX12_seen 11 = .ok (.iload_n 2, 1) := by decide +kernel
theorem dX12_seen_12 : decode cX12_seen 12 = .ok (.ifCond .eq 7, 3) := by decide +kernel
theorem dX12_seen_15 : decode cX12_seen 15 = .ok (.iload_n 2, 1) := by decide +kernel
theorem dX12_seen_16 : decode cX12_seen 16 = .ok (.goto 8, 3) := by decide +kernel
theorem dX12_seen_19 : decode cX12_seen 19 = .ok (.aload_n 0, 1) := by decide +kernel
theorem dX12_seen_20 : decode cX12_seen 20 = .ok (.iload_n 1, 1) := by decide +kernel
theorem dX12_seen_21 : decode cX12_seen 21 = .ok (.invokevirtual 438, 3) := by decide +kernel
theorem dX12_seen_24 : decode cX12_seen 24 = .ok (.ireturn, 1) := by decide +kernel
theorem dX12_sureGone_0 : decode cX12_sureGone 0 = .ok (.aload_n 0, 1) := by decide +kernel
theorem dX12_sureGone_1 : decode cX12_sureGone 1 = .ok (.iconst 0, 1) := by decide +kernel
theorem dX12_sureGone_2 : decode cX12_sureGone 2 = .ok (.putfield 1, 3) := by decide +kernel
theorem dX12_sureGone_5 : decode cX12_sureGone 5 = .ok (.aload_n 0, 1) := by decide +kernel
theorem dX12_sureGone_6 : decode cX12_sureGone 6 = .ok (.iload_n 1, 1) := by decide +kernel
theorem dX12_sureGone_7 : decode cX12_sureGone 7 = .ok (.invokevirtual 435, 3) := by decide +kernel
theorem dX12_sureGone_10 : decode cX12_sureGone 10 = .ok (.istore_n 2, 1) := by decide +kernel
theorem dX12_sureGone_11 : decode cX12_sureGone 11 = .ok (.iload_n 2, 1) := by decide +kernel
theorem dX12_sureGone_12 : decode cX12_sureGone 12 = .ok (.ifCond .eq 5, 3) := by decide +kernel
theorem dX12_sureGone_15 : decode cX12_sureGone 15 = .ok (.iload_n 2, 1) := by decide +kernel
theorem dX12_sureGone_16 : decode cX12_sureGone 16 = .ok (.ireturn, 1) := by decide +kernel
theorem dX12_sureGone_17 : decode cX12_sureGone 17 = .ok (.aload_n 0, 1) := by decide +kernel
theorem dX12_sureGone_18 : decode cX12_sureGone 18 = .ok (.iload_n 1, 1) := by decide +kernel
theorem dX12_sureGone_19 : decode cX12_sureGone 19 = .ok (.invokevirtual 438, 3) := by decide +kernel
theorem dX12_sureGone_22 : decode cX12_sureGone 22 = .ok (.ifCond .ne 7, 3) := by decide +kernel
theorem dX12_sureGone_25 : decode cX12_sureGone 25 = .ok (.iconst 0, 1) := by decide +kernel
theorem dX12_sureGone_26 : decode cX12_sureGone 26 = .ok (.goto 7, 3) := by decide +kernel
theorem dX12_sureGone_29 : decode cX12_sureGone 29 = .ok (.aload_n 0, 1) := by decide +kernel
theorem dX12_sureGone_30 : decode cX12_sureGone 30 = .ok (.invokevirtual 204, 3) := by decide +kernel
theorem dX12_sureGone_33 : decode cX12_sureGone 33 = .ok (.istore_n 3, 1) := by decide +kernel
theorem dX12_sureGone_34 : decode cX12_sureGone 34 = .ok (.iconst 0, 1) := by decide +kernel
theorem dX12_sureGone_35 : decode cX12_sureGone 35 = .ok (.istore 4, 2) := by decide +kernel
theorem dX12_sureGone_37 : decode cX12_sureGone 37 = .ok (.iload 4, 2) := by decide +kernel
theorem dX12_sureGone_39 : decode cX12_sureGone 39 = .ok (.aload_n 0, 1) := by decide +kernel
theorem dX12_sureGone_40 : decode cX12_sureGone 40 = .ok (.invokevirtual 204, 3) := by decide +kernel
theorem dX12_sureGone_43 : decode cX12_sureGone 43 = .ok (.if_icmp .gt 24, 3) := by decide +kernel
theorem dX12_sureGone_46 : decode cX12_sureGone 46 = .ok (.aload_n 0, 1) := by decide +kernel
theorem dX12_sureGone_47 : decode cX12_sureGone 47 = .ok (.getfield 61, 3) := by decide +kernel
theorem dX12_sureGone_50 : decode cX12_sureGone 50 = .ok (.iload 4, 2) := by decide +kernel
theorem dX12_sureGone_52 : decode cX12_sureGone 52 = .ok (.iaload, 1) := by decide +kernel
theorem dX12_sureGone_53 : decode cX12_sureGone 53 = .ok (.ifCond .lt 8, 3) := by decide +kernel
theorem dX12_sureGone_56 : decode cX12_sureGone 56 = .ok (.iload_n 3, 1) := by decide +kernel
theorem dX12_sureGone_57 : decode cX12_sureGone 57 = .ok (.iload 4, 2) := by decide +kernel
theorem dX12_sureGone_59 : decode cX12_sureGone 59 = .ok (.iand, 1) := by decide +kernel
theorem dX12_sureGone_60 : decode cX12_sureGone 60 = .ok (.istore_n 3, 1) := by decide +kernel
theorem dX12_sureGone_61 : decode cX12_sureGone 61 = .ok (.iinc 4 1, 3) := by decide +kernel
theorem dX12_sureGone_64 : decode cX12_sureGone 64 = .ok (.goto (-27), 3) := by decide +kernel
theorem dX12_sureGone_67 : decode cX12_sureGone 67 = .ok (.iload_n 3, 1) := by decide +kernel
theorem dX12_sureGone_68 : decode cX12_sureGone 68 = .ok (.ireturn, 1) := by decide +kernel
theorem dX12_mostOften_0 : decode cX12_mostOften 0 = .ok (.iconst 0, 1) := by decide +kernel
theorem dX12_mostOften_1 : decode cX12_mostOften 1 = .ok (.istore_n 2, 1) := by decide +kernel
theorem dX12_mostOften_2 : decode cX12_mostOften 2 = .ok (.iload_n 2, 1) := by decide +kernel
theorem dX12_mostOften_3 : decode cX12_mostOften 3 = .ok (.bipush 9, 2) := by decide +kernel
theorem dX12_mostOften_5 : decode cX12_mostOften 5 = .ok (.if_icmp .ge 16, 3) := by decide +kernel
theorem dX12_mostOften_8 : decode cX12_mostOften 8 = .ok (.aload_n 0, 1) := by decide +kernel
theorem dX12_mostOften_9 : decode cX12_mostOften 9 = .ok (.getfield 64, 3) := by decide +kernel
theorem dX12_mostOften_12 : decode cX12_mostOften 12 = .ok (.iload_n 2, 1) := by decide +kernel
theorem dX12_mostOften_13 : decode cX12_mostOften 13 = .ok (.iconst 0, 1) := by decide +kernel
theorem dX12_mostOften_14 : decode cX12_mostOften 14 = .ok (.iastore, 1) := by decide +kernel
theorem dX12_mostOften_15 : decode cX12_mostOften 15 = .ok (.iinc 2 1, 3) := by decide +kernel
theorem dX12_mostOften_18 : decode cX12_mostOften 18 = .ok (.goto (-16), 3) := by decide +kernel
theorem dX12_mostOften_21 : decode cX12_mostOften 21 = .ok (.iconst 0, 1) := by decide +kernel
theorem dX12_mostOften_22 : decode cX12_mostOften 22 = .ok (.istore_n 2, 1) := by decide +kernel
theorem dX12_mostOften_23 : decode cX12_mostOften 23 = .ok (.iconst 0, 1) := by decide +kernel
theorem dX12_mostOften_24 : decode cX12_mostOften 24 = .ok (.istore_n 3, 1) := by decide +kernel
theorem dX12_mostOften_25 : decode cX12_mostOften 25 = .ok (.iload_n 3, 1) := by decide +kernel
theorem dX12_mostOften_26 : decode cX12_mostOften 26 = .ok (.aload_n 0, 1) := by decide +kernel
theorem dX12_mostOften_27 : decode cX12_mostOften 27 = .ok (.invokevirtual 204, 3) := by decide +kernel
theorem dX12_mostOften_30 : decode cX12_mostOften 30 = .ok (.if_icmp .gt 83, 3) := by decide +kernel
theorem dX12_mostOften_33 : decode cX12_mostOften 33 = .ok (.aload_n 0, 1) := by decide +kernel
theorem dX12_mostOften_34 : decode cX12_mostOften 34 = .ok (.getfield 61, 3) := by decide +kernel
theorem dX12_mostOften_37 : decode cX12_mostOften 37 = .ok (.iload_n 3, 1) := by decide +kernel
theorem dX12_mostOften_38 : decode cX12_mostOften 38 = .ok (.iaload, 1) := by decide +kernel
theorem dX12_mostOften_39 : decode cX12_mostOften 39 = .ok (.ifCond .ge 6, 3) := by decide +kernel
theorem dX12_mostOften_42 : decode cX12_mostOften 42 = .ok (.goto 65, 3) := by decide +kernel
theorem dX12_mostOften_45 : decode cX12_mostOften 45 = .ok (.aload_n 0, 1) := by decide +kernel
theorem dX12_mostOften_46 : decode cX12_mostOften 46 = .ok (.aload_n 0, 1) := by decide +kernel
theorem dX12_mostOften_47 : decode cX12_mostOften 47 = .ok (.getfield 61, 3) := by decide +kernel
theorem dX12_mostOften_50 : decode cX12_mostOften 50 = .ok (.iload_n 3, 1) := by decide +kernel
theorem dX12_mostOften_51 : decode cX12_mostOften 51 = .ok (.iaload, 1) := by decide +kernel
theorem dX12_mostOften_52 : decode cX12_mostOften 52 = .ok (.iload_n 1, 1) := by decide +kernel
theorem dX12_mostOften_53 : decode cX12_mostOften 53 = .ok (.invokevirtual 342, 3) := by decide +kernel
theorem dX12_mostOften_56 : decode cX12_mostOften 56 = .ok (.istore 4, 2) := by decide +kernel
theorem dX12_mostOften_58 : decode cX12_mostOften 58 = .ok (.iload 4, 2) := by decide +kernel
theorem dX12_mostOften_60 : decode cX12_mostOften 60 = .ok (.iconst (-1), 1) := by decide +kernel
theorem dX12_mostOften_61 : decode cX12_mostOften 61 = .ok (.if_icmp .ne 8, 3) := by decide +kernel
theorem dX12_mostOften_64 : decode cX12_mostOften 64 = .ok (.bipush 8, 2) := by decide +kernel
theorem dX12_mostOften_66 : decode cX12_mostOften 66 = .ok (.goto 5, 3) := by decide +kernel
theorem dX12_mostOften_69 : decode cX12_mostOften 69 = .ok (.iload 4, 2) := by decide +kernel
theorem dX12_mostOften_71 : decode cX12_mostOften 71 = .ok (.istore 5, 2) := by decide +kernel
theorem dX12_mostOften_73 : decode cX12_mostOften 73 = .ok (.aload_n 0, 1) := by decide +kernel
theorem dX12_mostOften_74 : decode cX12_mostOften 74 = .ok (.getfield 64, 3) := by decide +kernel
theorem dX12_mostOften_77 : decode cX12_mostOften 77 = .ok (.iload 5, 2) := by decide +kernel
theorem dX12_mostOften_79 : decode cX12_mostOften 79 = .ok (.dup2, 1) := by decide +kernel
theorem dX12_mostOften_80 : decode cX12_mostOften 80 = .ok (.iaload, 1) := by decide +kernel
theorem dX12_mostOften_81 : decode cX12_mostOften 81 = .ok (.iconst 1, 1) := by decide +kernel
theorem dX12_mostOften_82 : decode cX12_mostOften 82 = .ok (.iadd, 1) := by decide +kernel
theorem dX12_mostOften_83 : decode cX12_mostOften 83 = .ok (.iastore, 1) := by decide +kernel
theorem dX12_mostOften_84 : decode cX12_mostOften 84 = .ok (.aload_n 0, 1) := by decide +kernel
theorem dX12_mostOften_85 : decode cX12_mostOften 85 = .ok (.getfield 64, 3) := by decide +kernel
theorem dX12_mostOften_88 : decode cX12_mostOften 88 = .ok (.iload 5, 2) := by decide +kernel
theorem dX12_mostOften_90 : decode cX12_mostOften 90 = .ok (.iaload, 1) := by decide +kernel
theorem dX12_mostOften_91 : decode cX12_mostOften 91 = .ok (.iload_n 2, 1) := by decide +kernel
theorem dX12_mostOften_92 : decode cX12_mostOften 92 = .ok (.if_icmp .le 13, 3) := by decide +kernel
theorem dX12_mostOften_95 : decode cX12_mostOften 95 = .ok (.aload_n 0, 1) := by decide +kernel
theorem dX12_mostOften_96 : decode cX12_mostOften 96 = .ok (.getfield 64, 3) := by decide +kernel
theorem dX12_mostOften_99 : decode cX12_mostOften 99 = .ok (.iload 5, 2) := by decide +kernel
theorem dX12_mostOften_101 : decode cX12_mostOften 101 = .ok (.iaload, 1) := by decide +kernel
theorem dX12_mostOften_102 : decode cX12_mostOften 102 = .ok (.goto 4, 3) := by decide +kernel
theorem dX12_mostOften_105 : decode cX12_mostOften 105 = .ok (.iload_n 2, 1) := by decide +kernel
theorem dX12_mostOften_106 : decode cX12_mostOften 106 = .ok (.istore_n 2, 1) := by decide +kernel
theorem dX12_mostOften_107 : decode cX12_mostOften 107 = .ok (.iinc 3 1, 3) := by decide +kernel
theorem dX12_mostOften_110 : decode cX12_mostOften 110 = .ok (.goto (-85), 3) := by decide +kernel
theorem dX12_mostOften_113 : decode cX12_mostOften 113 = .ok (.iload_n 2, 1) := by decide +kernel
theorem dX12_mostOften_114 : decode cX12_mostOften 114 = .ok (.ireturn, 1) := by decide +kernel
theorem dX12_ask_0 : decode cX12_ask 0 = .ok (.aload_n 0, 1) := by decide +kernel
theorem dX12_ask_1 : decode cX12_ask 1 = .ok (.iconst 0, 1) := by decide +kernel
theorem dX12_ask_2 : decode cX12_ask 2 = .ok (.putfield 1, 3) := by decide +kernel
theorem dX12_ask_5 : decode cX12_ask 5 = .ok (.aload_n 0, 1) := by decide +kernel
theorem dX12_ask_6 : decode cX12_ask 6 = .ok (.iload_n 1, 1) := by decide +kernel
theorem dX12_ask_7 : decode cX12_ask 7 = .ok (.invokevirtual 435, 3) := by decide +kernel
theorem dX12_ask_10 : decode cX12_ask 10 = .ok (.istore_n 2, 1) := by decide +kernel
theorem dX12_ask_11 : decode cX12_ask 11 = .ok (.iload_n 2, 1) := by decide +kernel
theorem dX12_ask_12 : decode cX12_ask 12 = .ok (.ifCond .eq 5, 3) := by decide +kernel
theorem dX12_ask_15 : decode cX12_ask 15 = .ok (.iload_n 2, 1) := by decide +kernel
theorem dX12_ask_16 : decode cX12_ask 16 = .ok (.ireturn, 1) := by decide +kernel
theorem dX12_ask_17 : decode cX12_ask 17 = .ok (.iconst (-1), 1) := by decide +kernel
theorem dX12_ask_18 : decode cX12_ask 18 = .ok (.istore_n 3, 1) := by decide +kernel
theorem dX12_ask_19 : decode cX12_ask 19 = .ok (.ldc_w 341, 3) := by decide +kernel
theorem dX12_ask_22 : decode cX12_ask 22 = .ok (.istore 4, 2) := by decide +kernel
theorem dX12_ask_24 : decode cX12_ask 24 = .ok (.aload_n 0, 1) := by decide +kernel
theorem dX12_ask_25 : decode cX12_ask 25 = .ok (.iload_n 1, 1) := by decide +kernel
theorem dX12_ask_26 : decode cX12_ask 26 = .ok (.invokevirtual 438, 3) := by decide +kernel
theorem dX12_ask_29 : decode cX12_ask 29 = .ok (.istore 5, 2) := by decide +kernel
theorem dX12_ask_31 : decode cX12_ask 31 = .ok (.iconst 0, 1) := by decide +kernel
theorem dX12_ask_32 : decode cX12_ask 32 = .ok (.istore 6, 2) := by decide +kernel
theorem dX12_ask_34 : decode cX12_ask 34 = .ok (.iload 6, 2) := by decide +kernel
theorem dX12_ask_36 : decode cX12_ask 36 = .ok (.aload_n 0, 1) := by decide +kernel
theorem dX12_ask_37 : decode cX12_ask 37 = .ok (.getfield 13, 3) := by decide +kernel
theorem dX12_ask_40 : decode cX12_ask 40 = .ok (.iconst 1, 1) := by decide +kernel
theorem dX12_ask_41 : decode cX12_ask 41 = .ok (.iaload, 1) := by decide +kernel
theorem dX12_ask_42 : decode cX12_ask 42 = .ok (.if_icmp .ge 39, 3) := by decide +kernel
theorem dX12_ask_45 : decode cX12_ask 45 = .ok (.iload 5, 2) := by decide +kernel
theorem dX12_ask_47 : decode cX12_ask 47 = .ok (.ifCond .le 34, 3) := by decide +kernel
theorem dX12_ask_50 : decode cX12_ask 50 = .ok (.aload_n 0, 1) := by decide +kernel
theorem dX12_ask_51 : decode cX12_ask 51 = .ok (.iload 6, 2) := by decide +kernel
theorem dX12_ask_53 : decode cX12_ask 53 = .ok (.invokevirtual 441, 3) := by decide +kernel
theorem dX12_ask_56 : decode cX12_ask 56 = .ok (.istore 7, 2) := by decide +kernel
theorem dX12_ask_58 : decode cX12_ask 58 = .ok (.iload 7, 2) := by decide +kernel
theorem dX12_ask_60 : decode cX12_ask 60 = .ok (.iload 4, 2) := by decide +kernel
theorem dX12_ask_62 : decode cX12_ask 62 = .ok (.if_icmp .lt 6, 3) := by decide +kernel
theorem dX12_ask_65 : decode cX12_ask 65 = .ok (.goto 10, 3) := by decide +kernel
theorem dX12_ask_68 : decode cX12_ask 68 = .ok (.iload 6, 2) := by decide +kernel
theorem dX12_ask_70 : decode cX12_ask 70 = .ok (.istore_n 3, 1) := by decide +kernel
theorem dX12_ask_71 : decode cX12_ask 71 = .ok (.iload 7, 2) := by decide +kernel
theorem dX12_ask_73 : decode cX12_ask 73 = .ok (.istore 4, 2) := by decide +kernel
theorem dX12_ask_75 : decode cX12_ask 75 = .ok (.iinc 6 1, 3) := by decide +kernel
theorem dX12_ask_78 : decode cX12_ask 78 = .ok (.goto (-44), 3) := by decide +kernel
theorem dX12_ask_81 : decode cX12_ask 81 = .ok (.iload_n 3, 1) := by decide +kernel
theorem dX12_ask_82 : decode cX12_ask 82 = .ok (.ireturn, 1) := by decide +kernel
theorem dX12_noGone_0 : decode cX12_noGone 0 = .ok (.aload_n 0, 1) := by decide +kernel
theorem dX12_noGone_1 : decode cX12_noGone 1 = .ok (.iload_n 1, 1) := by decide +kernel
theorem dX12_noGone_2 : decode cX12_noGone 2 = .ok (.invokevirtual 327, 3) := by decide +kernel
theorem dX12_noGone_5 : decode cX12_noGone 5 = .ok (.istore_n 2, 1) := by decide +kernel
theorem dX12_noGone_6 : decode cX12_noGone 6 = .ok (.iload_n 2, 1) := by decide +kernel
theorem dX12_noGone_7 : decode cX12_noGone 7 = .ok (.ifCond .eq 5, 3) := by decide +kernel
theorem dX12_noGone_10 : decode cX12_noGone 10 = .ok (.iload_n 2, 1) := by decide +kernel
theorem dX12_noGone_11 : decode cX12_noGone 11 = .ok (.ireturn, 1) := by decide +kernel
theorem dX12_noGone_12 : decode cX12_noGone 12 = .ok (.aload_n 0, 1) := by decide +kernel
theorem dX12_noGone_13 : decode cX12_noGone 13 = .ok (.getfield 70, 3) := by decide +kernel
theorem dX12_noGone_16 : decode cX12_noGone 16 = .ok (.iload_n 1, 1) := by decide +kernel
theorem dX12_noGone_17 : decode cX12_noGone 17 = .ok (.iaload, 1) := by decide +kernel
theorem dX12_noGone_18 : decode cX12_noGone 18 = .ok (.i2l, 1) := by decide +kernel
theorem dX12_noGone_19 : decode cX12_noGone 19 = .ok (.lconst 1, 1) := by decide +kernel
theorem dX12_noGone_20 : decode cX12_noGone 20 = .ok (.ldc2_w 300, 3) := by decide +kernel
theorem dX12_noGone_23 : decode cX12_noGone 23 = .ok (.invokestatic 142, 3) := by decide +kernel
theorem dX12_noGone_26 : decode cX12_noGone 26 = .ok (.ifCond .ne 6, 3) := by decide +kernel
theorem dX12_noGone_29 : decode cX12_noGone 29 = .ok (.bipush (-4), 2) := by decide +kernel
theorem dX12_noGone_31 : decode cX12_noGone 31 = .ok (.ireturn, 1) := by decide +kernel
theorem dX12_noGone_32 : decode cX12_noGone 32 = .ok (.iconst 0, 1) := by decide +kernel
theorem dX12_noGone_33 : decode cX12_noGone 33 = .ok (.istore_n 3, 1) := by decide +kernel
theorem dX12_noGone_34 : decode cX12_noGone 34 = .ok (.iload_n 3, 1) := by decide +kernel
theorem dX12_noGone_35 : decode cX12_noGone 35 = .ok (.aload_n 0, 1) := by decide +kernel
theorem dX12_noGone_36 : decode cX12_noGone 36 = .ok (.getfield 70, 3) := by decide +kernel
theorem dX12_noGone_39 : decode cX12_noGone 39 = .ok (.iload_n 1, 1) := by decide +kernel
theorem dX12_noGone_40 : decode cX12_noGone 40 = .ok (.iaload, 1) := by decide +kernel
theorem dX12_noGone_41 : decode cX12_noGone 41 = .ok (.if_icmp .ge 48, 3) := by decide +kernel
theorem dX12_noGone_44 : decode cX12_noGone 44 = .ok (.aload_n 0, 1) := by decide +kernel
theorem dX12_noGone_45 : decode cX12_noGone 45 = .ok (.getfield 73, 3) := by decide +kernel
theorem dX12_noGone_48 : decode cX12_noGone 48 = .ok (.bipush 40, 2) := by decide +kernel
theorem dX12_noGone_50 : decode cX12_noGone 50 = .ok (.iload_n 1, 1) := by decide +kernel
theorem dX12_noGone_51 : decode cX12_noGone 51 = .ok (.imul, 1) := by decide +kernel
theorem dX12_noGone_52 : decode cX12_noGone 52 = .ok (.iload_n 3, 1) := by decide +kernel
theorem dX12_noGone_53 : decode cX12_noGone 53 = .ok (.iadd, 1) := by decide +kernel
theorem dX12_noGone_54 : decode cX12_noGone 54 = .ok (.laload, 1) := by decide +kernel
theorem dX12_noGone_55 : decode cX12_noGone 55 = .ok (.ldc2_w 302, 3) := by decide +kernel
theorem dX12_noGone_58 : decode cX12_noGone 58 = .ok (.lcmp, 1) := by decide +kernel
theorem dX12_noGone_59 : decode cX12_noGone 59 = .ok (.ifCond .eq 24, 3) := by decide +kernel
theorem dX12_noGone_62 : decode cX12_noGone 62 = .ok (.aload_n 0, 1) := by decide +kernel
theorem dX12_noGone_63 : decode cX12_noGone 63 = .ok (.aload_n 0, 1) := by decide +kernel
theorem dX12_noGone_64 : decode cX12_noGone 64 = .ok (.getfield 73, 3) := by decide +kernel
theorem dX12_noGone_67 : decode cX12_noGone 67 = .ok (.bipush 40, 2) := by decide +kernel
theorem dX12_noGone_69 : decode cX12_noGone 69 = .ok (.iload_n 1, 1) := by decide +kernel
theorem dX12_noGone_70 : decode cX12_noGone 70 = .ok (.imul, 1) := by decide +kernel
theorem dX12_noGone_71 : decode cX12_noGone 71 = .ok (.iload_n 3, 1) := by decide +kernel
theorem dX12_noGone_72 : decode cX12_noGone 72 = .ok (.iadd, 1) := by decide +kernel
theorem dX12_noGone_73 : decode cX12_noGone 73 = .ok (.laload, 1) := by decide +kernel
theorem dX12_noGone_74 : decode cX12_noGone 74 = .ok (.invokevirtual 245, 3) := by decide +kernel
theorem dX12_noGone_77 : decode cX12_noGone 77 = .ok (.ifCond .ne 6, 3) := by decide +kernel
theorem dX12_noGone_80 : decode cX12_noGone 80 = .ok (.bipush (-3), 2) := by decide +kernel
theorem dX12_noGone_82 : decode cX12_noGone 82 = .ok (.ireturn, 1) := by decide +kernel
theorem dX12_noGone_83 : decode cX12_noGone 83 = .ok (.iinc 3 1, 3) := by decide +kernel
theorem dX12_noGone_86 : decode cX12_noGone 86 = .ok (.goto (-52), 3) := by decide +kernel
theorem dX12_noGone_89 : decode cX12_noGone 89 = .ok (.iconst 0, 1) := by decide +kernel
theorem dX12_noGone_90 : decode cX12_noGone 90 = .ok (.ireturn, 1) := by decide +kernel
theorem dX12_cameBy_0 : decode cX12_cameBy 0 = .ok (.aload_n 0, 1) := by decide +kernel
theorem dX12_cameBy_1 : decode cX12_cameBy 1 = .ok (.invokevirtual 345, 3) := by decide +kernel
theorem dX12_cameBy_4 : decode cX12_cameBy 4 = .ok (.aload_n 0, 1) := by decide +kernel
theorem dX12_cameBy_5 : decode cX12_cameBy 5 = .ok (.invokevirtual 361, 3) := by decide +kernel
theorem dX12_cameBy_8 : decode cX12_cameBy 8 = .ok (.iconst 0, 1) := by decide +kernel
theorem dX12_cameBy_9 : decode cX12_cameBy 9 = .ok (.istore 4, 2) := by decide +kernel
theorem dX12_cameBy_11 : decode cX12_cameBy 11 = .ok (.iload 4, 2) := by decide +kernel
theorem dX12_cameBy_13 : decode cX12_cameBy 13 = .ok (.aload_n 0, 1) := by decide +kernel
theorem dX12_cameBy_14 : decode cX12_cameBy 14 = .ok (.getfield 70, 3) := by decide +kernel
theorem dX12_cameBy_17 : decode cX12_cameBy 17 = .ok (.iload_n 1, 1) := by decide +kernel
theorem dX12_cameBy_18 : decode cX12_cameBy 18 = .ok (.iaload, 1) := by decide +kernel
theorem dX12_cameBy_19 : decode cX12_cameBy 19 = .ok (.if_icmp .ge 37, 3) := by decide +kernel
theorem dX12_cameBy_22 : decode cX12_cameBy 22 = .ok (.aload_n 0, 1) := by decide +kernel
theorem dX12_cameBy_23 : decode cX12_cameBy 23 = .ok (.aload_n 0, 1) := by decide +kernel
theorem dX12_cameBy_24 : decode cX12_cameBy 24 = .ok (.getfield 73, 3) := by decide +kernel
theorem dX12_cameBy_27 : decode cX12_cameBy 27 = .ok (.bipush 40, 2) := by decide +kernel
theorem dX12_cameBy_29 : decode cX12_cameBy 29 = .ok (.iload_n 1, 1) := by decide +kernel
theorem dX12_cameBy_30 : decode cX12_cameBy 30 = .ok (.imul, 1) := by decide +kernel
theorem dX12_cameBy_31 : decode cX12_cameBy 31 = .ok (.iload 4, 2) := by decide +kernel
theorem dX12_cameBy_33 : decode cX12_cameBy 33 = .ok (.iadd, 1) := by decide +kernel
theorem dX12_cameBy_34 : decode cX12_cameBy 34 = .ok (.laload, 1) := by decide +kernel
theorem dX12_cameBy_35 : decode cX12_cameBy 35 = .ok (.l2i, 1) := by decide +kernel
theorem dX12_cameBy_36 : decode cX12_cameBy 36 = .ok (.iload 4, 2) := by decide +kernel
theorem dX12_cameBy_38 : decode cX12_cameBy 38 = .ok (.iload_n 2, 1) := by decide +kernel
theorem dX12_cameBy_39 : decode cX12_cameBy 39 = .ok (.if_icmp .ne 7, 3) := by decide +kernel
theorem dX12_cameBy_42 : decode cX12_cameBy 42 = .ok (.iload_n 3, 1) := by decide +kernel
theorem dX12_cameBy_43 : decode cX12_cameBy 43 = .ok (.goto 4, 3) := by decide +kernel
theorem dX12_cameBy_46 : decode cX12_cameBy 46 = .ok (.iconst (-1), 1) := by decide +kernel
theorem dX12_cameBy_47 : decode cX12_cameBy 47 = .ok (.invokevirtual 364, 3) := by decide +kernel
theorem dX12_cameBy_50 : decode cX12_cameBy 50 = .ok (.iinc 4 1, 3) := by decide +kernel
theorem dX12_cameBy_53 : decode cX12_cameBy 53 = .ok (.goto (-42), 3) := by decide +kernel
theorem dX12_cameBy_56 : decode cX12_cameBy 56 = .ok (.aload_n 0, 1) := by decide +kernel
theorem dX12_cameBy_57 : decode cX12_cameBy 57 = .ok (.invokevirtual 401, 3) := by decide +kernel
theorem dX12_cameBy_60 : decode cX12_cameBy 60 = .ok (.lreturn, 1) := by decide +kernel
theorem dX12_came_0 : decode cX12_came 0 = .ok (.aload_n 0, 1) := by decide +kernel
theorem dX12_came_1 : decode cX12_came 1 = .ok (.iconst 0, 1) := by decide +kernel
theorem dX12_came_2 : decode cX12_came 2 = .ok (.putfield 1, 3) := by decide +kernel
theorem dX12_came_5 : decode cX12_came 5 = .ok (.aload_n 0, 1) := by decide +kernel
theorem dX12_came_6 : decode cX12_came 6 = .ok (.iload_n 1, 1) := by decide +kernel
theorem dX12_came_7 : decode cX12_came 7 = .ok (.invokevirtual 444, 3) := by decide +kernel
theorem dX12_came_10 : decode cX12_came 10 = .ok (.istore_n 2, 1) := by decide +kernel
theorem dX12_came_11 : decode cX12_came 11 = .ok (.iload_n 2, 1) := by decide +kernel
theorem dX12_came_12 : decode cX12_came 12 = .ok (.ifCond .eq 8, 3) := by decide +kernel
theorem dX12_came_15 : decode cX12_came 15 = .ok (.iload_n 2, 1) := by decide +kernel
theorem dX12_came_16 : decode cX12_came 16 = .ok (.i2l, 1) := by decide +kernel
theorem dX12_came_17 : decode cX12_came 17 = .ok (.goto 10, 3) := by decide +kernel
theorem dX12_came_20 : decode cX12_came 20 = .ok (.aload_n 0, 1) := by decide +kernel
theorem dX12_came_21 : decode cX12_came 21 = .ok (.iload_n 1, 1) := by decide +kernel
theorem dX12_came_22 : decode cX12_came 22 = .ok (.iconst (-1), 1) := by decide +kernel
theorem dX12_came_23 : decode cX12_came 23 = .ok (.iconst (-1), 1) := by decide +kernel
theorem dX12_came_24 : decode cX12_came 24 = .ok (.invokevirtual 447, 3) := by decide +kernel
theorem dX12_came_27 : decode cX12_came 27 = .ok (.lreturn, 1) := by decide +kernel
theorem dX12_who_0 : decode cX12_who 0 = .ok (.aload_n 0, 1) := by decide +kernel
theorem dX12_who_1 : decode cX12_who 1 = .ok (.iconst 0, 1) := by decide +kernel
theorem dX12_who_2 : decode cX12_who 2 = .ok (.putfield 1, 3) := by decide +kernel
theorem dX12_who_5 : decode cX12_who 5 = .ok (.aload_n 0, 1) := by decide +kernel
theorem dX12_who_6 : decode cX12_who 6 = .ok (.iload_n 1, 1) := by decide +kernel
theorem dX12_who_7 : decode cX12_who 7 = .ok (.invokevirtual 444, 3) := by decide +kernel
theorem dX12_who_10 : decode cX12_who 10 = .ok (.istore_n 3, 1) := by decide +kernel
theorem dX12_who_11 : decode cX12_who 11 = .ok (.iload_n 3, 1) := by decide +kernel
theorem dX12_who_12 : decode cX12_who 12 = .ok (.ifCond .eq 5, 3) := by decide +kernel
theorem dX12_who_15 : decode cX12_who 15 = .ok (.iload_n 3, 1) := by decide +kernel
theorem dX12_who_16 : decode cX12_who 16 = .ok (.ireturn, 1) := by decide +kernel
theorem dX12_who_17 : decode cX12_who 17 = .ok (.iload_n 2, 1) := by decide +kernel
theorem dX12_who_18 : decode cX12_who 18 = .ok (.i2l, 1) := by decide +kernel
theorem dX12_who_19 : decode cX12_who 19 = .ok (.lconst 0, 1) := by decide +kernel
theorem dX12_who_20 : decode cX12_who 20 = .ok (.aload_n 0, 1) := by decide +kernel
theorem dX12_who_21 : decode cX12_who 21 = .ok (.getfield 70, 3) := by decide +kernel
theorem dX12_who_24 : decode cX12_who 24 = .ok (.iload_n 1, 1) := by decide +kernel
theorem dX12_who_25 : decode cX12_who 25 = .ok (.iaload, 1) := by decide +kernel
theorem dX12_who_26 : decode cX12_who 26 = .ok (.iconst 1, 1) := by decide +kernel
theorem dX12_who_27 : decode cX12_who 27 = .ok (.isub, 1) := by decide +kernel
theorem dX12_who_28 : decode cX12_who 28 = .ok (.i2l, 1) := by decide +kernel
theorem dX12_who_29 : decode cX12_who 29 = .ok (.invokestatic 142, 3) := by decide +kernel
theorem dX12_who_32 : decode cX12_who 32 = .ok (.ifCond .ne 6, 3) := by decide +kernel
theorem dX12_who_35 : decode cX12_who 35 = .ok (.bipush (-7), 2) := by decide +kernel
theorem dX12_who_37 : decode cX12_who 37 = .ok (.ireturn, 1) := by decide +kernel
theorem dX12_who_38 : decode cX12_who 38 = .ok (.iconst 0, 1) := by decide +kernel
theorem dX12_who_39 : decode cX12_who 39 = .ok (.istore 4, 2) := by decide +kernel
theorem dX12_who_41 : decode cX12_who 41 = .ok (.iconst 0, 1) := by decide +kernel
theorem dX12_who_42 : decode cX12_who 42 = .ok (.istore 5, 2) := by decide +kernel
theorem dX12_who_44 : decode cX12_who 44 = .ok (.iload 5, 2) := by decide +kernel
theorem dX12_who_46 : decode cX12_who 46 = .ok (.aload_n 0, 1) := by decide +kernel
theorem dX12_who_47 : decode cX12_who 47 = .ok (.getfield 13, 3) := by decide +kernel
theorem dX12_who_50 : decode cX12_who 50 = .ok (.iconst 1, 1) := by decide +kernel
theorem dX12_who_51 : decode cX12_who 51 = .ok (.iaload, 1) := by decide +kernel
theorem dX12_who_52 : decode cX12_who 52 = .ok (.if_icmp .ge 35, 3) := by decide +kernel
theorem dX12_who_55 : decode cX12_who 55 = .ok (.iload 4, 2) := by decide +kernel
theorem dX12_who_57 : decode cX12_who 57 = .ok (.aload_n 0, 1) := by decide +kernel
theorem dX12_who_58 : decode cX12_who 58 = .ok (.iload_n 1, 1) := by decide +kernel
theorem dX12_who_59 : decode cX12_who 59 = .ok (.iload_n 2, 1) := by decide +kernel
theorem dX12_who_60 : decode cX12_who 60 = .ok (.iload 5, 2) := by decide +kernel
theorem dX12_who_62 : decode cX12_who 62 = .ok (.invokevirtual 447, 3) := by decide +kernel
theorem dX12_who_65 : decode cX12_who 65 = .ok (.lconst 0, 1) := by decide +kernel
theorem dX12_who_66 : decode cX12_who 66 = .ok (.lcmp, 1) := by decide +kernel
theorem dX12_who_67 : decode cX12_who 67 = .ok (.ifCond .le 10, 3) := by decide +kernel
theorem dX12_who_70 : decode cX12_who 70 = .ok (.iconst 1, 1) := by decide +kernel
theorem dX12_who_71 : decode cX12_who 71 = .ok (.iload 5, 2) := by decide +kernel
theorem dX12_who_73 : decode cX12_who 73 = .ok (.ishl, 1) := by decide +kernel
theorem dX12_who_74 : decode cX12_who 74 = .ok (.goto 4, 3) := by decide +kernel
theorem dX12_who_77 : decode cX12_who 77 = .ok (.iconst 0, 1) := by decide +kernel
theorem dX12_who_78 : decode cX12_who 78 = .ok (.ior, 1) := by decide +kernel
theorem dX12_who_79 : decode cX12_who 79 = .ok (.istore 4, 2) := by decide +kernel
theorem dX12_who_81 : decode cX12_who 81 = .ok (.iinc 5 1, 3) := by decide +kernel
theorem dX12_who_84 : decode cX12_who 84 = .ok (.goto (-40), 3) := by decide +kernel
theorem dX12_who_87 : decode cX12_who 87 = .ok (.iload 4, 2) := by decide +kernel
theorem dX12_who_89 : decode cX12_who 89 = .ok (.ireturn, 1) := by decide +kernel
theorem dX12_cut_0 : decode cX12_cut 0 = .ok (.iload_n 2, 1) := by decide +kernel
theorem dX12_cut_1 : decode cX12_cut 1 = .ok (.ifCond .ne 10, 3) := by decide +kernel
theorem dX12_cut_4 : decode cX12_cut 4 = .ok (.lload_n 0, 1) := by decide +kernel
theorem dX12_cut_5 : decode cX12_cut 5 = .ok (.l2i, 1) := by decide +kernel
theorem dX12_cut_6 : decode cX12_cut 6 = .ok (.i2b, 1) := by decide +kernel
theorem dX12_cut_7 : decode cX12_cut 7 = .ok (.i2l, 1) := by decide +kernel
theorem dX12_cut_8 : decode cX12_cut 8 = .ok (.goto 27, 3) := by decide +kernel
theorem dX12_cut_11 : decode cX12_cut 11 = .ok (.iload_n 2, 1) := by decide +kernel
theorem dX12_cut_12 : decode cX12_cut 12 = .ok (.iconst 1, 1) := by decide +kernel
theorem dX12_cut_13 : decode cX12_cut 13 = .ok (.if_icmp .ne 10, 3) := by decide +kernel
theorem dX12_cut_16 : decode cX12_cut 16 = .ok (.lload_n 0, 1) := by decide +kernel
theorem dX12_cut_17 : decode cX12_cut 17 = .ok (.l2i, 1) := by decide +kernel
theorem dX12_cut_18 : decode cX12_cut 18 = .ok (.i2s, 1) := by decide +kernel
theorem dX12_cut_19 : decode cX12_cut 19 = .ok (.i2l, 1) := by decide +kernel
theorem dX12_cut_20 : decode cX12_cut 20 = .ok (.goto 15, 3) := by decide +kernel
theorem dX12_cut_23 : decode cX12_cut 23 = .ok (.iload_n 2, 1) := by decide +kernel
theorem dX12_cut_24 : decode cX12_cut 24 = .ok (.iconst 2, 1) := by decide +kernel
theorem dX12_cut_25 : decode cX12_cut 25 = .ok (.if_icmp .ne 9, 3) := by decide +kernel
theorem dX12_cut_28 : decode cX12_cut 28 = .ok (.lload_n 0, 1) := by decide +kernel
theorem dX12_cut_29 : decode cX12_cut 29 = .ok (.l2i, 1) := by decide +kernel
theorem dX12_cut_30 : decode cX12_cut 30 = .ok (.i2l, 1) := by decide +kernel
theorem dX12_cut_31 : decode cX12_cut 31 = .ok (.goto 4, 3) := by decide +kernel
theorem dX12_cut_34 : decode cX12_cut 34 = .ok (.lload_n 0, 1) := by decide +kernel
theorem dX12_cut_35 : decode cX12_cut 35 = .ok (.lreturn, 1) := by decide +kernel
theorem dX12_numbers_0 : decode cX12_numbers 0 = .ok (.aload_n 0, 1) := by decide +kernel
theorem dX12_numbers_1 : decode cX12_numbers 1 = .ok (.iconst 0, 1) := by decide +kernel
theorem dX12_numbers_2 : decode cX12_numbers 2 = .ok (.putfield 1, 3) := by decide +kernel
theorem dX12_numbers_5 : decode cX12_numbers 5 = .ok (.iload_n 1, 1) := by decide +kernel
theorem dX12_numbers_6 : decode cX12_numbers 6 = .ok (.i2l, 1) := by decide +kernel
theorem dX12_numbers_7 : decode cX12_numbers 7 = .ok (.lconst 0, 1) := by decide +kernel
theorem dX12_numbers_8 : decode cX12_numbers 8 = .ok (.ldc2_w 325, 3) := by decide +kernel
theorem dX12_numbers_11 : decode cX12_numbers 11 = .ok (.invokestatic 142, 3) := by decide +kernel
theorem dX12_numbers_14 : decode cX12_numbers 14 = .ok (.ifCond .eq 15, 3) := by decide +kernel
theorem dX12_numbers_17 : decode cX12_numbers 17 = .ok (.iload_n 2, 1) := by decide +kernel
theorem dX12_numbers_18 : decode cX12_numbers 18 = .ok (.i2l, 1) := by decide +kernel
theorem dX12_numbers_19 : decode cX12_numbers 19 = .ok (.lconst 0, 1) := by decide +kernel
theorem dX12_numbers_20 : decode cX12_numbers 20 = .ok (.ldc2_w 325, 3) := by decide +kernel
theorem dX12_numbers_23 : decode cX12_numbers 23 = .ok (.invokestatic 142, 3) := by decide +kernel
theorem dX12_numbers_26 : decode cX12_numbers 26 = .ok (.ifCond .ne 6, 3) := by decide +kernel
theorem dX12_numbers_29 : decode cX12_numbers 29 = .ok (.bipush (-2), 2) := by decide +kernel
theorem dX12_numbers_31 : decode cX12_numbers 31 = .ok (.ireturn, 1) := by decide +kernel
theorem dX12_numbers_32 : decode cX12_numbers 32 = .ok (.iload_n 3, 1) := by decide +kernel
theorem dX12_numbers_33 : decode cX12_numbers 33 = .ok (.i2l, 1) := by decide +kernel
theorem dX12_numbers_34 : decode cX12_numbers 34 = .ok (.lconst 0, 1) := by decide +kernel
theorem dX12_numbers_35 : decode cX12_numbers 35 = .ok (.ldc2_w 336, 3) := by decide +kernel
theorem dX12_numbers_38 : decode cX12_numbers 38 = .ok (.invokestatic 142, 3) := by decide +kernel
theorem dX12_numbers_41 : decode cX12_numbers 41 = .ok (.ifCond .ne 6, 3) := by decide +kernel
theorem dX12_numbers_44 : decode cX12_numbers 44 = .ok (.bipush (-3), 2) := by decide +kernel
theorem dX12_numbers_46 : decode cX12_numbers 46 = .ok (.ireturn, 1) := by decide +kernel
theorem dX12_numbers_47 : decode cX12_numbers 47 = .ok (.aload_n 0, 1) := by decide +kernel
theorem dX12_numbers_48 : decode cX12_numbers 48 = .ok (.getfield 67, 3) := by decide +kernel
theorem dX12_numbers_51 : decode cX12_numbers 51 = .ok (.iload_n 1, 1) := by decide +kernel
theorem dX12_numbers_52 : decode cX12_numbers 52 = .ok (.iload_n 2, 1) := by decide +kernel
theorem dX12_numbers_53 : decode cX12_numbers 53 = .ok (.iastore, 1) := by decide +kernel
theorem dX12_numbers_54 : decode cX12_numbers 54 = .ok (.aload_n 0, 1) := by decide +kernel
theorem dX12_numbers_55 : decode cX12_numbers 55 = .ok (.getfield 70, 3) := by decide +kernel
theorem dX12_numbers_58 : decode cX12_numbers 58 = .ok (.iload_n 1, 1) := by decide +kernel
theorem dX12_numbers_59 : decode cX12_numbers 59 = .ok (.iload_n 3, 1) := by decide +kernel
theorem dX12_numbers_60 : decode cX12_numbers 60 = .ok (.iastore, 1) := by decide +kernel
theorem dX12_numbers_61 : decode cX12_numbers 61 = .ok (.iconst 0, 1) := by decide +kernel
theorem dX12_numbers_62 : decode cX12_numbers 62 = .ok (.istore 4, 2) := by decide +kernel
theorem dX12_numbers_64 : decode cX12_numbers 64 = .ok (.iload 4, 2) := by decide +kernel
theorem dX12_numbers_66 : decode cX12_numbers 66 = .ok (.iload_n 3, 1) := by decide +kernel
theorem dX12_numbers_67 : decode cX12_numbers 67 = .ok (.if_icmp .ge 22, 3) := by decide +kernel
theorem dX12_numbers_70 : decode cX12_numbers 70 = .ok (.aload_n 0, 1) := by decide +kernel
theorem dX12_numbers_71 : decode cX12_numbers 71 = .ok (.getfield 73, 3) := by decide +kernel
theorem dX12_numbers_74 : decode cX12_numbers 74 = .ok (.bipush 40, 2) := by decide +kernel
theorem dX12_numbers_76 : decode cX12_numbers 76 = .ok (.iload_n 1, 1) := by decide +kernel
theorem dX12_numbers_77 : decode cX12_numbers 77 = .ok (.imul, 1) := by decide +kernel
theorem dX12_numbers_78 : decode cX12_numbers 78 = .ok (.iload 4, 2) := by decide +kernel
theorem dX12_numbers_80 : decode cX12_numbers 80 = .ok (.iadd, 1) := by decide +kernel
theorem dX12_numbers_81 : decode cX12_numbers 81 = .ok (.lconst 0, 1) := by decide +kernel
theorem dX12_numbers_82 : decode cX12_numbers 82 = .ok (.lastore, 1) := by decide +kernel
theorem dX12_numbers_83 : decode cX12_numbers 83 = .ok (.iinc 4 1, 3) := by decide +kernel
theorem dX12_numbers_86 : decode cX12_numbers 86 = .ok (.goto (-22), 3) := by decide +kernel
theorem dX12_numbers_89 : decode cX12_numbers 89 = .ok (.iconst 0, 1) := by decide +kernel
theorem dX12_numbers_90 : decode cX12_numbers 90 = .ok (.ireturn, 1) := by decide +kernel
theorem dX12_write_0 : decode cX12_write 0 = .ok (.aload_n 0, 1) := by decide +kernel
theorem dX12_write_1 : decode cX12_write 1 = .ok (.iconst 0, 1) := by decide +kernel
theorem dX12_write_2 : decode cX12_write 2 = .ok (.putfield 1, 3) := by decide +kernel
theorem dX12_write_5 : decode cX12_write 5 = .ok (.aload_n 0, 1) := by decide +kernel
theorem dX12_write_6 : decode cX12_write 6 = .ok (.iload_n 1, 1) := by decide +kernel
theorem dX12_write_7 : decode cX12_write 7 = .ok (.invokevirtual 327, 3) := by decide +kernel
theorem dX12_write_10 : decode cX12_write 10 = .ok (.istore 5, 2) := by decide +kernel
theorem dX12_write_12 : decode cX12_write 12 = .ok (.iload 5, 2) := by decide +kernel
theorem dX12_write_14 : decode cX12_write 14 = .ok (.ifCond .eq 7, 3) := by decide +kernel
theorem dX12_write_17 : decode cX12_write 17 = .ok (.iload 5, 2) := by decide +kernel
theorem dX12_write_19 : decode cX12_write 19 = .ok (.i2l, 1) := by decide +kernel
theorem dX12_write_20 : decode cX12_write 20 = .ok (.lreturn, 1) := by decide +kernel
theorem dX12_write_21 : decode cX12_write 21 = .ok (.iload_n 2, 1) := by decide +kernel
theorem dX12_write_22 : decode cX12_write 22 = .ok (.i2l, 1) := by decide +kernel
theorem dX12_write_23 : decode cX12_write 23 = .ok (.lconst 0, 1) := by decide +kernel
theorem dX12_write_24 : decode cX12_write 24 = .ok (.aload_n 0, 1) := by decide +kernel
theorem dX12_write_25 : decode cX12_write 25 = .ok (.getfield 70, 3) := by decide +kernel
theorem dX12_write_28 : decode cX12_write 28 = .ok (.iload_n 1, 1) := by decide +kernel
theorem dX12_write_29 : decode cX12_write 29 = .ok (.iaload, 1) := by decide +kernel
theorem dX12_write_30 : decode cX12_write 30 = .ok (.iconst 1, 1) := by decide +kernel
theorem dX12_write_31 : decode cX12_write 31 = .ok (.isub, 1) := by decide +kernel
theorem dX12_write_32 : decode cX12_write 32 = .ok (.i2l, 1) := by decide +kernel
theorem dX12_write_33 : decode cX12_write 33 = .ok (.invokestatic 142, 3) := by decide +kernel
theorem dX12_write_36 : decode cX12_write 36 = .ok (.ifCond .ne 7, 3) := by decide +kernel
theorem dX12_write_39 : decode cX12_write 39 = .ok (.ldc2_w 451, 3) := by decide +kernel
theorem dX12_write_42 : decode cX12_write 42 = .ok (.lreturn, 1) := by decide +kernel
theorem dX12_write_43 : decode cX12_write 43 = .ok (.aload_n 0, 1) := by decide +kernel
theorem dX12_write_44 : decode cX12_write 44 = .ok (.getfield 73, 3) := by decide +kernel
theorem dX12_write_47 : decode cX12_write 47 = .ok (.bipush 40, 2) := by decide +kernel
theorem dX12_write_49 : decode cX12_write 49 = .ok (.iload_n 1, 1) := by decide +kernel
theorem dX12_write_50 : decode cX12_write 50 = .ok (.imul, 1) := by decide +kernel
theorem dX12_write_51 : decode cX12_write 51 = .ok (.iload_n 2, 1) := by decide +kernel
theorem dX12_write_52 : decode cX12_write 52 = .ok (.iadd, 1) := by decide +kernel
theorem dX12_write_53 : decode cX12_write 53 = .ok (.lload_n 3, 1) := by decide +kernel
theorem dX12_write_54 : decode cX12_write 54 = .ok (.aload_n 0, 1) := by decide +kernel
theorem dX12_write_55 : decode cX12_write 55 = .ok (.getfield 67, 3) := by decide +kernel
theorem dX12_write_58 : decode cX12_write 58 = .ok (.iload_n 1, 1) := by decide +kernel
theorem dX12_write_59 : decode cX12_write 59 = .ok (.iaload, 1) := by decide +kernel
theorem dX12_write_60 : decode cX12_write 60 = .ok (.invokestatic 453, 3) := by decide +kernel
theorem dX12_write_63 : decode cX12_write 63 = .ok (.lastore, 1) := by decide +kernel
theorem dX12_write_64 : decode cX12_write 64 = .ok (.aload_n 0, 1) := by decide +kernel
theorem dX12_write_65 : decode cX12_write 65 = .ok (.getfield 73, 3) := by decide +kernel
theorem dX12_write_68 : decode cX12_write 68 = .ok (.bipush 40, 2) := by decide +kernel
theorem dX12_write_70 : decode cX12_write 70 = .ok (.iload_n 1, 1) := by decide +kernel
theorem dX12_write_71 : decode cX12_write 71 = .ok (.imul, 1) := by decide +kernel
theorem dX12_write_72 : decode cX12_write 72 = .ok (.iload_n 2, 1) := by decide +kernel
theorem dX12_write_73 : decode cX12_write 73 = .ok (.iadd, 1) := by decide +kernel
theorem dX12_write_74 : decode cX12_write 74 = .ok (.laload, 1) := by decide +kernel
theorem dX12_write_75 : decode cX12_write 75 = .ok (.lreturn, 1) := by decide +kernel
theorem dX12_lists_0 : decode cX12_lists 0 = .ok (.aload_n 0, 1) := by decide +kernel
theorem dX12_lists_1 : decode cX12_lists 1 = .ok (.iconst 0, 1) := by decide +kernel
theorem dX12_lists_2 : decode cX12_lists 2 = .ok (.putfield 1, 3) := by decide +kernel
theorem dX12_lists_5 : decode cX12_lists 5 = .ok (.aload_n 0, 1) := by decide +kernel
theorem dX12_lists_6 : decode cX12_lists 6 = .ok (.iload_n 1, 1) := by decide +kernel
theorem dX12_lists_7 : decode cX12_lists 7 = .ok (.invokevirtual 327, 3) := by decide +kernel
theorem dX12_lists_10 : decode cX12_lists 10 = .ok (.istore_n 2, 1) := by decide +kernel
theorem dX12_lists_11 : decode cX12_lists 11 = .ok (.iload_n 2, 1) := by decide +kernel
theorem dX12_lists_12 : decode cX12_lists 12 = .ok (.ifCond .eq 5, 3) := by decide +kernel
theorem dX12_lists_15 : decode cX12_lists 15 = .ok (.iload_n 2, 1) := by decide +kernel
theorem dX12_lists_16 : decode cX12_lists 16 = .ok (.ireturn, 1) := by decide +kernel
theorem dX12_lists_17 : decode cX12_lists 17 = .ok (.aload_n 0, 1) := by decide +kernel
theorem dX12_lists_18 : decode cX12_lists 18 = .ok (.invokevirtual 354, 3) := by decide +kernel
theorem dX12_lists_21 : decode cX12_lists 21 = .ok (.istore_n 3, 1) := by decide +kernel
theorem dX12_lists_22 : decode cX12_lists 22 = .ok (.iload_n 3, 1) := by decide +kernel
theorem dX12_lists_23 : decode cX12_lists 23 = .ok (.iconst (-1), 1) := by decide +kernel
theorem dX12_lists_24 : decode cX12_lists 24 = .ok (.if_icmp .ne 6, 3) := by decide +kernel
theorem dX12_lists_27 : decode cX12_lists 27 = .ok (.bipush (-5), 2) := by decide +kernel
theorem dX12_lists_29 : decode cX12_lists 29 = .ok (.ireturn, 1) := by decide +kernel
theorem dX12_lists_30 : decode cX12_lists 30 = .ok (.iload_n 3, 1) := by decide +kernel
theorem dX12_lists_31 : decode cX12_lists 31 = .ok (.aload_n 0, 1) := by decide +kernel
theorem dX12_lists_32 : decode cX12_lists 32 = .ok (.getfield 70, 3) := by decide +kernel
theorem dX12_lists_35 : decode cX12_lists 35 = .ok (.iload_n 1, 1) := by decide +kernel
theorem dX12_lists_36 : decode cX12_lists 36 = .ok (.iaload, 1) := by decide +kernel
theorem dX12_lists_37 : decode cX12_lists 37 = .ok (.if_icmp .ge 7, 3) := by decide +kernel
theorem dX12_lists_40 : decode cX12_lists 40 = .ok (.iload_n 3, 1) := by decide +kernel
theorem dX12_lists_41 : decode cX12_lists 41 = .ok (.goto 9, 3) := by decide +kernel
theorem dX12_lists_44 : decode cX12_lists 44 = .ok (.aload_n 0, 1) := by decide +kernel
theorem dX12_lists_45 : decode cX12_lists 45 = .ok (.getfield 70, 3) := by decide +kernel
theorem dX12_lists_48 : decode cX12_lists 48 = .ok (.iload_n 1, 1) := by decide +kernel
theorem dX12_lists_49 : decode cX12_lists 49 = .ok (.iaload, 1) := by decide +kernel
theorem dX12_lists_50 : decode cX12_lists 50 = .ok (.istore 4, 2) := by decide +kernel
theorem dX12_lists_52 : decode cX12_lists 52 = .ok (.iconst 0, 1) := by decide +kernel
theorem dX12_lists_53 : decode cX12_lists 53 = .ok (.istore 5, 2) := by decide +kernel
theorem dX12_lists_55 : decode cX12_lists 55 = .ok (.iload 5, 2) := by decide +kernel
theorem dX12_lists_57 : decode cX12_lists 57 = .ok (.iload 4, 2) := by decide +kernel
theorem dX12_lists_59 : decode cX12_lists 59 = .ok (.if_icmp .ge 29, 3) := by decide +kernel
theorem dX12_lists_62 : decode cX12_lists 62 = .ok (.aload_n 0, 1) := by decide +kernel
theorem dX12_lists_63 : decode cX12_lists 63 = .ok (.getfield 73, 3) := by decide +kernel
theorem dX12_lists_66 : decode cX12_lists 66 = .ok (.bipush 40, 2) := by decide +kernel
theorem dX12_lists_68 : decode cX12_lists 68 = .ok (.iload_n 1, 1) := by decide +kernel
theorem dX12_lists_69 : decode cX12_lists 69 = .ok (.imul, 1) := by decide +kernel
theorem dX12_lists_70 : decode cX12_lists 70 = .ok (.iload 5, 2) := by decide +kernel
theorem dX12_lists_72 : decode cX12_lists 72 = .ok (.iadd, 1) := by decide +kernel
theorem dX12_lists_73 : decode cX12_lists 73 = .ok (.aload_n 0, 1) := by decide +kernel
theorem dX12_lists_74 : decode cX12_lists 74 = .ok (.getfield 45, 3) := by decide +kernel
theorem dX12_lists_77 : decode cX12_lists 77 = .ok (.iload 5, 2) := by decide +kernel
theorem dX12_lists_79 : decode cX12_lists 79 = .ok (.iaload, 1) := by decide +kernel
theorem dX12_lists_80 : decode cX12_lists 80 = .ok (.i2l, 1) := by decide +kernel
theorem dX12_lists_81 : decode cX12_lists 81 = .ok (.lastore, 1) := by decide +kernel
theorem dX12_lists_82 : decode cX12_lists 82 = .ok (.iinc 5 1, 3) := by decide +kernel
theorem dX12_lists_85 : decode cX12_lists 85 = .ok (.goto (-30), 3) := by decide +kernel
theorem dX12_lists_88 : decode cX12_lists 88 = .ok (.iload 4, 2) := by decide +kernel
theorem dX12_lists_90 : decode cX12_lists 90 = .ok (.ireturn, 1) := by decide +kernel
theorem dX12_image_0 : decode cX12_image 0 = .ok (.aload_n 0, 1) := by decide +kernel
theorem dX12_image_1 : decode cX12_image 1 = .ok (.iconst 0, 1) := by decide +kernel
theorem dX12_image_2 : decode cX12_image 2 = .ok (.putfield 1, 3) := by decide +kernel
theorem dX12_image_5 : decode cX12_image 5 = .ok (.iload_n 1, 1) := by decide +kernel
theorem dX12_image_6 : decode cX12_image 6 = .ok (.i2l, 1) := by decide +kernel
theorem dX12_image_7 : decode cX12_image 7 = .ok (.lconst 0, 1) := by decide +kernel
theorem dX12_image_8 : decode cX12_image 8 = .ok (.lconst 1, 1) := by decide +kernel
theorem dX12_image_9 : decode cX12_image 9 = .ok (.invokestatic 142, 3) := by decide +kernel
theorem dX12_image_12 : decode cX12_image 12 = .ok (.ifCond .ne 6, 3) := by decide +kernel
theorem dX12_image_15 : decode cX12_image 15 = .ok (.bipush (-2), 2) := by decide +kernel
theorem dX12_image_17 : decode cX12_image 17 = .ok (.ireturn, 1) := by decide +kernel
theorem dX12_image_18 : decode cX12_image 18 = .ok (.iconst 0, 1) := by decide +kernel
theorem dX12_image_19 : decode cX12_image 19 = .ok (.istore_n 2, 1) := by decide +kernel
theorem dX12_image_20 : decode cX12_image 20 = .ok (.iload_n 2, 1) := by decide +kernel
theorem dX12_image_21 : decode cX12_image 21 = .ok (.sipush 1181, 3) := by decide +kernel
theorem dX12_image_24 : decode cX12_image 24 = .ok (.if_icmp .ge 29, 3) := by decide +kernel
theorem dX12_image_27 : decode cX12_image 27 = .ok (.aload_n 0, 1) := by decide +kernel
theorem dX12_image_28 : decode cX12_image 28 = .ok (.getfield 13, 3) := by decide +kernel
theorem dX12_image_31 : decode cX12_image 31 = .ok (.sipush 1181, 3) := by decide +kernel
theorem dX12_image_34 : decode cX12_image 34 = .ok (.iload_n 1, 1) := by decide +kernel
theorem dX12_image_35 : decode cX12_image 35 = .ok (.iconst 1, 1) := by decide +kernel
theorem dX12_image_36 : decode cX12_image 36 = .ok (.iadd, 1) := by decide +kernel
theorem dX12_image_37 : decode cX12_image 37 = .ok (.imul, 1) := by decide +kernel
theorem dX12_image_38 : decode cX12_image 38 = .ok (.iload_n 2, 1) := by decide +kernel
theorem dX12_image_39 : decode cX12_image 39 = .ok (.iadd, 1) := by decide +kernel
theorem dX12_image_40 : decode cX12_image 40 = .ok (.aload_n 0, 1) := by decide +kernel
theorem dX12_image_41 : decode cX12_image 41 = .ok (.getfield 13, 3) := by decide +kernel
theorem dX12_image_44 : decode cX12_image 44 = .ok (.iload_n 2, 1) := by decide +kernel
theorem dX12_image_45 : decode cX12_image 45 = .ok (.iaload, 1) := by decide +kernel
theorem dX12_image_46 : decode cX12_image 46 = .ok (.iastore, 1) := by decide +kernel
theorem dX12_image_47 : decode cX12_image 47 = .ok (.iinc 2 1, 3) := by decide +kernel
theorem dX12_image_50 : decode cX12_image 50 = .ok (.goto (-30), 3) := by decide +kernel
theorem dX12_image_53 : decode cX12_image 53 = .ok (.aload_n 0, 1) := by decide +kernel
theorem dX12_image_54 : decode cX12_image 54 = .ok (.getfield 17, 3) := by decide +kernel
theorem dX12_image_57 : decode cX12_image 57 = .ok (.iload_n 1, 1) := by decide +kernel
theorem dX12_image_58 : decode cX12_image 58 = .ok (.iconst 1, 1) := by decide +kernel
theorem dX12_image_59 : decode cX12_image 59 = .ok (.bastore, 1) := by decide +kernel
theorem dX12_image_60 : decode cX12_image 60 = .ok (.iconst 0, 1) := by decide +kernel
theorem dX12_image_61 : decode cX12_image 61 = .ok (.ireturn, 1) := by decide +kernel
theorem dX12_restore_0 : decode cX12_restore 0 = .ok (.aload_n 0, 1) := by decide +kernel
theorem dX12_restore_1 : decode cX12_restore 1 = .ok (.iconst 0, 1) := by decide +kernel
theorem dX12_restore_2 : decode cX12_restore 2 = .ok (.putfield 1, 3) := by decide +kernel
theorem dX12_restore_5 : decode cX12_restore 5 = .ok (.iload_n 1, 1) := by decide +kernel
theorem dX12_restore_6 : decode cX12_restore 6 = .ok (.i2l, 1) := by decide +kernel
theorem dX12_restore_7 : decode cX12_restore 7 = .ok (.lconst 0, 1) := by decide +kernel
theorem dX12_restore_8 : decode cX12_restore 8 = .ok (.lconst 1, 1) := by decide +kernel
theorem dX12_restore_9 : decode cX12_restore 9 = .ok (.invokestatic 142, 3) := by decide +kernel
theorem dX12_restore_12 : decode cX12_restore 12 = .ok (.ifCond .ne 6, 3) := by decide +kernel
theorem dX12_restore_15 : decode cX12_restore 15 = .ok (.bipush (-2), 2) := by decide +kernel
theorem dX12_restore_17 : decode cX12_restore 17 = .ok (.ireturn, 1) := by decide +kernel
theorem dX12_restore_18 : decode cX12_restore 18 = .ok (.aload_n 0, 1) := by decide +kernel
theorem dX12_restore_19 : decode cX12_restore 19 = .ok (.getfield 17, 3) := by decide +kernel
theorem dX12_restore_22 : decode cX12_restore 22 = .ok (.iload_n 1, 1) := by decide +kernel
theorem dX12_restore_23 : decode cX12_restore 23 = .ok (.baload, 1) := by decide +kernel
theorem dX12_restore_24 : decode cX12_restore 24 = .ok (.ifCond .ne 6, 3) := by decide +kernel
theorem dX12_restore_27 : decode cX12_restore 27 = .ok (.bipush (-5), 2) := by decide +kernel
theorem dX12_restore_29 : decode cX12_restore 29 = .ok (.ireturn, 1) := by decide +kernel
theorem dX12_restore_30 : decode cX12_restore 30 = .ok (.iconst 0, 1) := by decide +kernel
theorem dX12_restore_31 : decode cX12_restore 31 = .ok (.istore_n 2, 1) := by decide +kernel
theorem dX12_restore_32 : decode cX12_restore 32 = .ok (.iload_n 2, 1) := by decide +kernel
theorem dX12_restore_33 : decode cX12_restore 33 = .ok (.sipush 1181, 3) := by decide +kernel
theorem dX12_restore_36 : decode cX12_restore 36 = .ok (.if_icmp .ge 29, 3) := by decide +kernel
theorem dX12_restore_39 : decode cX12_restore 39 = .ok (.aload_n 0, 1) := by decide +kernel
theorem dX12_restore_40 : decode cX12_restore 40 = .ok (.getfield 13, 3) := by decide +kernel
theorem dX12_restore_43 : decode cX12_restore 43 = .ok (.iload_n 2, 1) := by decide +kernel
theorem dX12_restore_44 : decode cX12_restore 44 = .ok (.aload_n 0, 1) := by decide +kernel
theorem dX12_restore_45 : decode cX12_restore 45 = .ok (.getfield 13, 3) := by decide +kernel
theorem dX12_restore_48 : decode cX12_restore 48 = .ok (.sipush 1181, 3) := by decide +kernel
theorem dX12_restore_51 : decode cX12_restore 51 = .ok (.iload_n 1, 1) := by decide +kernel
theorem dX12_restore_52 : decode cX12_restore 52 = .ok (.iconst 1, 1) := by decide +kernel
theorem dX12_restore_53 : decode cX12_restore 53 = .ok (.iadd, 1) := by decide +kernel
theorem dX12_restore_54 : decode cX12_restore 54 = .ok (.imul, 1) := by decide +kernel
theorem dX12_restore_55 : decode cX12_restore 55 = .ok (.iload_n 2, 1) := by decide +kernel
theorem dX12_restore_56 : decode cX12_restore 56 = .ok (.iadd, 1) := by decide +kernel
theorem dX12_restore_57 : decode cX12_restore 57 = .ok (.iaload, 1) := by decide +kernel
theorem dX12_restore_58 : decode cX12_restore 58 = .ok (.iastore, 1) := by decide +kernel
theorem dX12_restore_59 : decode cX12_restore 59 = .ok (.iinc 2 1, 3) := by decide +kernel
theorem dX12_restore_62 : decode cX12_restore 62 = .ok (.goto (-30), 3) := by decide +kernel
theorem dX12_restore_65 : decode cX12_restore 65 = .ok (.aload_n 0, 1) := by decide +kernel
theorem dX12_restore_66 : decode cX12_restore 66 = .ok (.getfield 13, 3) := by decide +kernel
theorem dX12_restore_69 : decode cX12_restore 69 = .ok (.bipush 49, 2) := by decide +kernel
theorem dX12_restore_71 : decode cX12_restore 71 = .ok (.iconst 0, 1) := by decide +kernel
theorem dX12_restore_72 : decode cX12_restore 72 = .ok (.iastore, 1) := by decide +kernel
theorem dX12_restore_73 : decode cX12_restore 73 = .ok (.iconst 0, 1) := by decide +kernel
theorem dX12_restore_74 : decode cX12_restore 74 = .ok (.ireturn, 1) := by decide +kernel
theorem dX12_count_0 : decode cX12_count 0 = .ok (.aload_n 0, 1) := by decide +kernel
theorem dX12_count_1 : decode cX12_count 1 = .ok (.iconst 0, 1) := by decide +kernel
theorem dX12_count_2 : decode cX12_count 2 = .ok (.putfield 1, 3) := by decide +kernel
theorem dX12_count_5 : decode cX12_count 5 = .ok (.iload_n 1, 1) := by decide +kernel
theorem dX12_count_6 : decode cX12_count 6 = .ok (.tableswitch 155 0 11 #[62, 70, 77, 85, 93, 106, 114, 122, 130, 135, 143, 148], 62) := by decide +kernel
theorem dX12_count_68 : decode cX12_count 68 = .ok (.aload_n 0, 1) := by decide +kernel
theorem dX12_count_69 : decode cX12_count 69 = .ok (.getfield 13, 3) := by decide +kernel
theorem dX12_count_72 : decode cX12_count 72 = .ok (.bipush 26, 2) := by decide +kernel
theorem dX12_count_74 : decode cX12_count 74 = .ok (.iaload, 1) := by decide +kernel
theorem dX12_count_75 : decode cX12_count 75 = .ok (.ireturn, 1) := by decide +kernel
theorem dX12_count_76 : decode cX12_count 76 = .ok (.aload_n 0, 1) := by decide +kernel
theorem dX12_count_77 : decode cX12_count 77 = .ok (.getfield 13, 3) := by decide +kernel
theorem dX12_count_80 : decode cX12_count 80 = .ok (.iconst 1, 1) := by decide +kernel
theorem dX12_count_81 : decode cX12_count 81 = .ok (.iaload, 1) := by decide +kernel
theorem dX12_count_82 : decode cX12_count 82 = .ok (.ireturn, 1) := by decide +kernel
theorem dX12_count_83 : decode cX12_count 83 = .ok (.aload_n 0, 1) := by decide +kernel
theorem dX12_count_84 : decode cX12_count 84 = .ok (.getfield 13, 3) := by decide +kernel
theorem dX12_count_87 : decode cX12_count 87 = .ok (.bipush 27, 2) := by decide +kernel
theorem dX12_count_89 : decode cX12_count 89 = .ok (.iaload, 1) := by decide +kernel
theorem dX12_count_90 : decode cX12_count 90 = .ok (.ireturn, 1) := by decide +kernel
theorem dX12_count_91 : decode cX12_count 91 = .ok (.aload_n 0, 1) := by decide +kernel
theorem dX12_count_92 : decode cX12_count 92 = .ok (.getfield 13, 3) := by decide +kernel
theorem dX12_count_95 : decode cX12_count 95 = .ok (.bipush 28, 2) := by decide +kernel
theorem dX12_count_97 : decode cX12_count 97 = .ok (.iaload, 1) := by decide +kernel
theorem dX12_count_98 : decode cX12_count 98 = .ok (.ireturn, 1) := by decide +kernel
theorem dX12_count_99 : decode cX12_count 99 = .ok (.aload_n 0, 1) := by decide +kernel
theorem dX12_count_100 : decode cX12_count 100 = .ok (.invokevirtual 259, 3) := by decide +kernel
theorem dX12_count_103 : decode cX12_count 103 = .ok (.ifCond .eq 7, 3) := by decide +kernel
theorem dX12_count_106 : decode cX12_count 106 = .ok (.iconst 1, 1) := by decide +kernel
theorem dX12_count_107 : decode cX12_count 107 = .ok (.goto 4, 3) := by decide +kernel
theorem dX12_count_110 : decode cX12_count 110 = .ok (.iconst 0, 1) := by decide +kernel
theorem dX12_count_111 : decode cX12_count 111 = .ok (.ireturn, 1) := by decide +kernel
theorem dX12_count_112 : decode cX12_count 112 = .ok (.aload_n 0, 1) := by decide +kernel
theorem dX12_count_113 : decode cX12_count 113 = .ok (.getfield 13, 3) := by decide +kernel
theorem dX12_count_116 : decode cX12_count 116 = .ok (.bipush 29, 2) := by decide +kernel
theorem dX12_count_118 : decode cX12_count 118 = .ok (.iaload, 1) := by decide +kernel
theorem dX12_count_119 : decode cX12_count 119 = .ok (.ireturn, 1) := by decide +kernel
theorem dX12_count_120 : decode cX12_count 120 = .ok (.aload_n 0, 1) := by decide +kernel
theorem dX12_count_121 : decode cX12_count 121 = .ok (.getfield 13, 3) := by decide +kernel
theorem dX12_count_124 : decode cX12_count 124 = .ok (.bipush 30, 2) := by decide +kernel
theorem dX12_count_126 : decode cX12_count 126 = .ok (.iaload, 1) := by decide +kernel
theorem dX12_count_127 : decode cX12_count 127 = .ok (.ireturn, 1) := by decide +kernel
theorem dX12_count_128 : decode cX12_count 128 = .ok (.aload_n 0, 1) := by decide +kernel
theorem dX12_count_129 : decode cX12_count 129 = .ok (.getfield 13, 3) := by decide +kernel
theorem dX12_count_132 : decode cX12_count 132 = .ok (.bipush 31, 2) := by decide +kernel
theorem dX12_count_134 : decode cX12_count 134 = .ok (.iaload, 1) := by decide +kernel
theorem dX12_count_135 : decode cX12_count 135 = .ok (.ireturn, 1) := by decide +kernel
theorem dX12_count_136 : decode cX12_count 136 = .ok (.aload_n 0, 1) := by decide +kernel
theorem dX12_count_137 : decode cX12_count 137 = .ok (.invokevirtual 269, 3) := by decide +kernel
theorem dX12_count_140 : decode cX12_count 140 = .ok (.ireturn, 1) := by decide +kernel
theorem dX12_count_141 : decode cX12_count 141 = .ok (.aload_n 0, 1) := by decide +kernel
theorem dX12_count_142 : decode cX12_count 142 = .ok (.getfield 13, 3) := by decide +kernel
theorem dX12_count_145 : decode cX12_count 145 = .ok (.bipush 49, 2) := by decide +kernel
theorem dX12_count_147 : decode cX12_count 147 = .ok (.iaload, 1) := by decide +kernel
theorem dX12_count_148 : decode cX12_count 148 = .ok (.ireturn, 1) := by decide +kernel
theorem dX12_count_149 : decode cX12_count 149 = .ok (.aload_n 0, 1) := by decide +kernel
theorem dX12_count_150 : decode cX12_count 150 = .ok (.getfield 80, 3) := by decide +kernel
theorem dX12_count_153 : decode cX12_count 153 = .ok (.ireturn, 1) := by decide +kernel
theorem dX12_count_154 : decode cX12_count 154 = .ok (.aload_n 0, 1) := by decide +kernel
theorem dX12_count_155 : decode cX12_count 155 = .ok (.getfield 13, 3) := by decide +kernel
theorem dX12_count_158 : decode cX12_count 158 = .ok (.iconst 0, 1) := by decide +kernel
theorem dX12_count_159 : decode cX12_count 159 = .ok (.iaload, 1) := by decide +kernel
theorem dX12_count_160 : decode cX12_count 160 = .ok (.ireturn, 1) := by decide +kernel
theorem dX12_count_161 : decode cX12_count 161 = .ok (.iconst (-1), 1) := by decide +kernel
theorem dX12_count_162 : decode cX12_count 162 = .ok (.ireturn, 1) := by decide +kernel
theorem dJ11_isValidCodePoint_9a6ad_0 : decode cJ11_isValidCodePoint_9a6ad 0 = .ok (.iload_n 0, 1) := by decide +kernel
theorem dJ11_isValidCodePoint_9a6ad_1 : decode cJ11_isValidCodePoint_9a6ad 1 = .ok (.bipush 16, 2) := by decide +kernel
theorem dJ11_isValidCodePoint_9a6ad_3 : decode cJ11_isValidCodePoint_9a6ad 3 = .ok (.iushr, 1) := by decide +kernel
theorem dJ11_isValidCodePoint_9a6ad_4 : decode cJ11_isValidCodePoint_9a6ad 4 = .ok (.istore_n 1, 1) := by decide +kernel
theorem dJ11_isValidCodePoint_9a6ad_5 : decode cJ11_isValidCodePoint_9a6ad 5 = .ok (.iload_n 1, 1) := by decide +kernel
theorem dJ11_isValidCodePoint_9a6ad_6 : decode cJ11_isValidCodePoint_9a6ad 6 = .ok (.bipush 17, 2) := by decide +kernel
theorem dJ11_isValidCodePoint_9a6ad_8 : decode cJ11_isValidCodePoint_9a6ad 8 = .ok (.if_icmp .ge 7, 3) := by decide +kernel
theorem dJ11_isValidCodePoint_9a6ad_11 : decode cJ11_isValidCodePoint_9a6ad 11 = .ok (.iconst 1, 1) := by decide +kernel
theorem dJ11_isValidCodePoint_9a6ad_12 : decode cJ11_isValidCodePoint_9a6ad 12 = .ok (.goto 4, 3) := by decide +kernel
theorem dJ11_isValidCodePoint_9a6ad_15 : decode cJ11_isValidCodePoint_9a6ad 15 = .ok (.iconst 0, 1) := by decide +kernel
theorem dJ11_isValidCodePoint_9a6ad_16 : decode cJ11_isValidCodePoint_9a6ad 16 = .ok (.ireturn, 1) := by decide +kernel
theorem dJ11_highSurrogate_5068e_0 : decode cJ11_highSurrogate_5068e 0 = .ok (.iload_n 0, 1) := by decide +kernel
theorem dJ11_highSurrogate_5068e_1 : decode cJ11_highSurrogate_5068e 1 = .ok (.bipush 10, 2) := by decide +kernel
theorem dJ11_highSurrogate_5068e_3 : decode cJ11_highSurrogate_5068e 3 = .ok (.iushr, 1) := by decide +kernel
theorem dJ11_highSurrogate_5068e_4 : decode cJ11_highSurrogate_5068e 4 = .ok (.ldc 110, 2) := by decide +kernel
theorem dJ11_highSurrogate_5068e_6 : decode cJ11_highSurrogate_5068e 6 = .ok (.iadd, 1) := by decide +kernel
theorem dJ11_highSurrogate_5068e_7 : decode cJ11_highSurrogate_5068e 7 = .ok (.i2c, 1) := by decide +kernel
theorem dJ11_highSurrogate_5068e_8 : decode cJ11_highSurrogate_5068e 8 = .ok (.ireturn, 1) := by decide +kernel
theorem dJ11_lowSurrogate_5068e_0 : decode cJ11_lowSurrogate_5068e 0 = .ok (.iload_n 0, 1) := by decide +kernel
theorem dJ11_lowSurrogate_5068e_1 : decode cJ11_lowSurrogate_5068e 1 = .ok (.sipush 1023, 3) := by decide +kernel
theorem dJ11_lowSurrogate_5068e_4 : decode cJ11_lowSurrogate_5068e 4 = .ok (.iand, 1) := by decide +kernel
theorem dJ11_lowSurrogate_5068e_5 : decode cJ11_lowSurrogate_5068e 5 = .ok (.ldc 76, 2) := by decide +kernel
theorem dJ11_lowSurrogate_5068e_7 : decode cJ11_lowSurrogate_5068e 7 = .ok (.iadd, 1) := by decide +kernel
theorem dJ11_lowSurrogate_5068e_8 : decode cJ11_lowSurrogate_5068e 8 = .ok (.i2c, 1) := by decide +kernel
theorem dJ11_lowSurrogate_5068e_9 : decode cJ11_lowSurrogate_5068e 9 = .ok (.ireturn, 1) := by decide +kernel
theorem dJ6_bitCount_0f7a4_0 : decode cJ6_bitCount_0f7a4 0 = .ok (.iload_n 0, 1) := by decide +kernel
theorem dJ6_bitCount_0f7a4_1 : decode cJ6_bitCount_0f7a4 1 = .ok (.iload_n 0, 1) := by decide +kernel
theorem dJ6_bitCount_0f7a4_2 : decode cJ6_bitCount_0f7a4 2 = .ok (.iconst 1, 1) := by decide +kernel
theorem dJ6_bitCount_0f7a4_3 : decode cJ6_bitCount_0f7a4 3 = .ok (.iushr, 1) := by decide +kernel
theorem dJ6_bitCount_0f7a4_4 : decode cJ6_bitCount_0f7a4 4 = .ok (.ldc_w 265, 3) := by decide +kernel
theorem dJ6_bitCount_0f7a4_7 : decode cJ6_bitCount_0f7a4 7 = .ok (.iand, 1) := by decide +kernel
theorem dJ6_bitCount_0f7a4_8 : decode cJ6_bitCount_0f7a4 8 = .ok (.isub, 1) := by decide +kernel
theorem dJ6_bitCount_0f7a4_9 : decode cJ6_bitCount_0f7a4 9 = .ok (.istore_n 0, 1) := by decide +kernel
theorem dJ6_bitCount_0f7a4_10 : decode cJ6_bitCount_0f7a4 10 = .ok (.iload_n 0, 1) := by decide +kernel
theorem dJ6_bitCount_0f7a4_11 : decode cJ6_bitCount_0f7a4 11 = .ok (.ldc_w 266, 3) := by decide +kernel
theorem dJ6_bitCount_0f7a4_14 : decode cJ6_bitCount_0f7a4 14 = .ok (.iand, 1) := by decide +kernel
theorem dJ6_bitCount_0f7a4_15 : decode cJ6_bitCount_0f7a4 15 = .ok (.iload_n 0, 1) := by decide +kernel
theorem dJ6_bitCount_0f7a4_16 : decode cJ6_bitCount_0f7a4 16 = .ok (.iconst 2, 1) := by decide +kernel
theorem dJ6_bitCount_0f7a4_17 : decode cJ6_bitCount_0f7a4 17 = .ok (.iushr, 1) := by decide +kernel
theorem dJ6_bitCount_0f7a4_18 : decode cJ6_bitCount_0f7a4 18 = .ok (.ldc_w 266, 3) := by decide +kernel
theorem dJ6_bitCount_0f7a4_21 : decode cJ6_bitCount_0f7a4 21 = .ok (.iand, 1) := by decide +kernel
theorem dJ6_bitCount_0f7a4_22 : decode cJ6_bitCount_0f7a4 22 = .ok (.iadd, 1) := by decide +kernel
theorem dJ6_bitCount_0f7a4_23 : decode cJ6_bitCount_0f7a4 23 = .ok (.istore_n 0, 1) := by decide +kernel
theorem dJ6_bitCount_0f7a4_24 : decode cJ6_bitCount_0f7a4 24 = .ok (.iload_n 0, 1) := by decide +kernel
theorem dJ6_bitCount_0f7a4_25 : decode cJ6_bitCount_0f7a4 25 = .ok (.iload_n 0, 1) := by decide +kernel
theorem dJ6_bitCount_0f7a4_26 : decode cJ6_bitCount_0f7a4 26 = .ok (.iconst 4, 1) := by decide +kernel
theorem dJ6_bitCount_0f7a4_27 : decode cJ6_bitCount_0f7a4 27 = .ok (.iushr, 1) := by decide +kernel
theorem dJ6_bitCount_0f7a4_28 : decode cJ6_bitCount_0f7a4 28 = .ok (.iadd, 1) := by decide +kernel
theorem dJ6_bitCount_0f7a4_29 : decode cJ6_bitCount_0f7a4 29 = .ok (.ldc_w 267, 3) := by decide +kernel
theorem dJ6_bitCount_0f7a4_32 : decode cJ6_bitCount_0f7a4 32 = .ok (.iand, 1) := by decide +kernel
theorem dJ6_bitCount_0f7a4_33 : decode cJ6_bitCount_0f7a4 33 = .ok (.istore_n 0, 1) := by decide +kernel
theorem dJ6_bitCount_0f7a4_34 : decode cJ6_bitCount_0f7a4 34 = .ok (.iload_n 0, 1) := by decide +kernel
theorem dJ6_bitCount_0f7a4_35 : decode cJ6_bitCount_0f7a4 35 = .ok (.iload_n 0, 1) := by decide +kernel
theorem dJ6_bitCount_0f7a4_36 : decode cJ6_bitCount_0f7a4 36 = .ok (.bipush 8, 2) := by decide +kernel
theorem dJ6_bitCount_0f7a4_38 : decode cJ6_bitCount_0f7a4 38 = .ok (.iushr, 1) := by decide +kernel
theorem dJ6_bitCount_0f7a4_39 : decode cJ6_bitCount_0f7a4 39 = .ok (.iadd, 1) := by decide +kernel
theorem dJ6_bitCount_0f7a4_40 : decode cJ6_bitCount_0f7a4 40 = .ok (.istore_n 0, 1) := by decide +kernel
theorem dJ6_bitCount_0f7a4_41 : decode cJ6_bitCount_0f7a4 41 = .ok (.iload_n 0, 1) := by decide +kernel
theorem dJ6_bitCount_0f7a4_42 : decode cJ6_bitCount_0f7a4 42 = .ok (.iload_n 0, 1) := by decide +kernel
theorem dJ6_bitCount_0f7a4_43 : decode cJ6_bitCount_0f7a4 43 = .ok (.bipush 16, 2) := by decide +kernel
theorem dJ6_bitCount_0f7a4_45 : decode cJ6_bitCount_0f7a4 45 = .ok (.iushr, 1) := by decide +kernel
theorem dJ6_bitCount_0f7a4_46 : decode cJ6_bitCount_0f7a4 46 = .ok (.iadd, 1) := by decide +kernel
theorem dJ6_bitCount_0f7a4_47 : decode cJ6_bitCount_0f7a4 47 = .ok (.istore_n 0, 1) := by decide +kernel
theorem dJ6_bitCount_0f7a4_48 : decode cJ6_bitCount_0f7a4 48 = .ok (.iload_n 0, 1) := by decide +kernel
theorem dJ6_bitCount_0f7a4_49 : decode cJ6_bitCount_0f7a4 49 = .ok (.bipush 63, 2) := by decide +kernel
theorem dJ6_bitCount_0f7a4_51 : decode cJ6_bitCount_0f7a4 51 = .ok (.iand, 1) := by decide +kernel
theorem dJ6_bitCount_0f7a4_52 : decode cJ6_bitCount_0f7a4 52 = .ok (.ireturn, 1) := by decide +kernel
theorem dJ9_floorMod_7cf53_0 : decode cJ9_floorMod_7cf53 0 = .ok (.iload_n 0, 1) := by decide +kernel
theorem dJ9_floorMod_7cf53_1 : decode cJ9_floorMod_7cf53 1 = .ok (.iload_n 1, 1) := by decide +kernel
theorem dJ9_floorMod_7cf53_2 : decode cJ9_floorMod_7cf53 2 = .ok (.irem, 1) := by decide +kernel
theorem dJ9_floorMod_7cf53_3 : decode cJ9_floorMod_7cf53 3 = .ok (.istore_n 2, 1) := by decide +kernel
theorem dJ9_floorMod_7cf53_4 : decode cJ9_floorMod_7cf53 4 = .ok (.iload_n 0, 1) := by decide +kernel
theorem dJ9_floorMod_7cf53_5 : decode cJ9_floorMod_7cf53 5 = .ok (.iload_n 1, 1) := by decide +kernel
theorem dJ9_floorMod_7cf53_6 : decode cJ9_floorMod_7cf53 6 = .ok (.ixor, 1) := by decide +kernel
theorem dJ9_floorMod_7cf53_7 : decode cJ9_floorMod_7cf53 7 = .ok (.ifCond .ge 11, 3) := by decide +kernel
theorem dJ9_floorMod_7cf53_10 : decode cJ9_floorMod_7cf53 10 = .ok (.iload_n 2, 1) := by decide +kernel
theorem dJ9_floorMod_7cf53_11 : decode cJ9_floorMod_7cf53 11 = .ok (.ifCond .eq 7, 3) := by decide +kernel
theorem dJ9_floorMod_7cf53_14 : decode cJ9_floorMod_7cf53 14 = .ok (.iload_n 2, 1) := by decide +kernel
theorem dJ9_floorMod_7cf53_15 : decode cJ9_floorMod_7cf53 15 = .ok (.iload_n 1, 1) := by decide +kernel
theorem dJ9_floorMod_7cf53_16 : decode cJ9_floorMod_7cf53 16 = .ok (.iadd, 1) := by decide +kernel
theorem dJ9_floorMod_7cf53_17 : decode cJ9_floorMod_7cf53 17 = .ok (.ireturn, 1) := by decide +kernel
theorem dJ9_floorMod_7cf53_18 : decode cJ9_floorMod_7cf53 18 = .ok (.iload_n 2, 1) := by decide +kernel
theorem dJ9_floorMod_7cf53_19 : decode cJ9_floorMod_7cf53 19 = .ok (.ireturn, 1) := by decide +kernel
theorem dJ9_max_7cf53_0 : decode cJ9_max_7cf53 0 = .ok (.iload_n 0, 1) := by decide +kernel
theorem dJ9_max_7cf53_1 : decode cJ9_max_7cf53 1 = .ok (.iload_n 1, 1) := by decide +kernel
theorem dJ9_max_7cf53_2 : decode cJ9_max_7cf53 2 = .ok (.if_icmp .lt 7, 3) := by decide +kernel
theorem dJ9_max_7cf53_5 : decode cJ9_max_7cf53 5 = .ok (.iload_n 0, 1) := by decide +kernel
theorem dJ9_max_7cf53_6 : decode cJ9_max_7cf53 6 = .ok (.goto 4, 3) := by decide +kernel
theorem dJ9_max_7cf53_9 : decode cJ9_max_7cf53 9 = .ok (.iload_n 1, 1) := by decide +kernel
theorem dJ9_max_7cf53_10 : decode cJ9_max_7cf53 10 = .ok (.ireturn, 1) := by decide +kernel
theorem dJ9_max_f86c9_0 : decode cJ9_max_f86c9 0 = .ok (.lload_n 0, 1) := by decide +kernel
theorem dJ9_max_f86c9_1 : decode cJ9_max_f86c9 1 = .ok (.lload_n 2, 1) := by decide +kernel
theorem dJ9_max_f86c9_2 : decode cJ9_max_f86c9 2 = .ok (.lcmp, 1) := by decide +kernel
theorem dJ9_max_f86c9_3 : decode cJ9_max_f86c9 3 = .ok (.ifCond .lt 7, 3) := by decide +kernel
theorem dJ9_max_f86c9_6 : decode cJ9_max_f86c9 6 = .ok (.lload_n 0, 1) := by decide +kernel
theorem dJ9_max_f86c9_7 : decode cJ9_max_f86c9 7 = .ok (.goto 4, 3) := by decide +kernel
theorem dJ9_max_f86c9_10 : decode cJ9_max_f86c9 10 = .ok (.lload_n 2, 1) := by decide +kernel
theorem dJ9_max_f86c9_11 : decode cJ9_max_f86c9 11 = .ok (.lreturn, 1) := by decide +kernel
theorem dJ9_min_7cf53_0 : decode cJ9_min_7cf53 0 = .ok (.iload_n 0, 1) := by decide +kernel
theorem dJ9_min_7cf53_1 : decode cJ9_min_7cf53 1 = .ok (.iload_n 1, 1) := by decide +kernel
theorem dJ9_min_7cf53_2 : decode cJ9_min_7cf53 2 = .ok (.if_icmp .gt 7, 3) := by decide +kernel
theorem dJ9_min_7cf53_5 : decode cJ9_min_7cf53 5 = .ok (.iload_n 0, 1) := by decide +kernel
theorem dJ9_min_7cf53_6 : decode cJ9_min_7cf53 6 = .ok (.goto 4, 3) := by decide +kernel
theorem dJ9_min_7cf53_9 : decode cJ9_min_7cf53 9 = .ok (.iload_n 1, 1) := by decide +kernel
theorem dJ9_min_7cf53_10 : decode cJ9_min_7cf53 10 = .ok (.ireturn, 1) := by decide +kernel
theorem dJ0_length_8abf5_0 : decode cJ0_length_8abf5 0 = .ok (.aload_n 0, 1) := by decide +kernel
theorem dJ0_length_8abf5_1 : decode cJ0_length_8abf5 1 = .ok (.getfield 9, 3) := by decide +kernel
theorem dJ0_length_8abf5_4 : decode cJ0_length_8abf5 4 = .ok (.arraylength, 1) := by decide +kernel
theorem dJ0_length_8abf5_5 : decode cJ0_length_8abf5 5 = .ok (.aload_n 0, 1) := by decide +kernel
theorem dJ0_length_8abf5_6 : decode cJ0_length_8abf5 6 = .ok (.invokevirtual 335, 3) := by decide +kernel
theorem dJ0_length_8abf5_9 : decode cJ0_length_8abf5 9 = .ok (.ishr, 1) := by decide +kernel
theorem dJ0_length_8abf5_10 : decode cJ0_length_8abf5 10 = .ok (.ireturn, 1) := by decide +kernel
theorem dJ0_charAt_5068e_0 : decode cJ0_charAt_5068e 0 = .ok (.aload_n 0, 1) := by decide +kernel
theorem dJ0_charAt_5068e_1 : decode cJ0_charAt_5068e 1 = .ok (.invokevirtual 492, 3) := by decide +kernel
theorem dJ0_charAt_5068e_4 : decode cJ0_charAt_5068e 4 = .ok (.ifCond .eq 12, 3) := by decide +kernel
theorem dJ0_charAt_5068e_7 : decode cJ0_charAt_5068e 7 = .ok (.aload_n 0, 1) := by decide +kernel
theorem dJ0_charAt_5068e_8 : decode cJ0_charAt_5068e 8 = .ok (.getfield 9, 3) := by decide +kernel
theorem dJ0_charAt_5068e_11 : decode cJ0_charAt_5068e 11 = .ok (.iload_n 1, 1) := by decide +kernel
theorem dJ0_charAt_5068e_12 : decode cJ0_charAt_5068e 12 = .ok (.invokestatic 495, 3) := by decide +kernel
theorem dJ0_charAt_5068e_15 : decode cJ0_charAt_5068e 15 = .ok (.ireturn, 1) := by decide +kernel
theorem dJ0_charAt_5068e_16 : decode cJ0_charAt_5068e 16 = .ok (.aload_n 0, 1) := by decide +kernel
theorem dJ0_charAt_5068e_17 : decode cJ0_charAt_5068e 17 = .ok (.getfield 9, 3) := by decide +kernel
theorem dJ0_charAt_5068e_20 : decode cJ0_charAt_5068e 20 = .ok (.iload_n 1, 1) := by decide +kernel
theorem dJ0_charAt_5068e_21 : decode cJ0_charAt_5068e 21 = .ok (.invokestatic 498, 3) := by decide +kernel
theorem dJ0_charAt_5068e_24 : decode cJ0_charAt_5068e 24 = .ok (.ireturn, 1) := by decide +kernel
theorem dJ0_indexOf_0f7a4_0 : decode cJ0_indexOf_0f7a4 0 = .ok (.aload_n 0, 1) := by decide +kernel
theorem dJ0_indexOf_0f7a4_1 : decode cJ0_indexOf_0f7a4 1 = .ok (.iload_n 1, 1) := by decide +kernel
theorem dJ0_indexOf_0f7a4_2 : decode cJ0_indexOf_0f7a4 2 = .ok (.iconst 0, 1) := by decide +kernel
theorem dJ0_indexOf_0f7a4_3 : decode cJ0_indexOf_0f7a4 3 = .ok (.invokevirtual 633, 3) := by decide +kernel
theorem dJ0_indexOf_0f7a4_6 : decode cJ0_indexOf_0f7a4 6 = .ok (.ireturn, 1) := by decide +kernel
theorem dJ0_indexOf_7cf53_0 : decode cJ0_indexOf_7cf53 0 = .ok (.aload_n 0, 1) := by decide +kernel
theorem dJ0_indexOf_7cf53_1 : decode cJ0_indexOf_7cf53 1 = .ok (.invokevirtual 492, 3) := by decide +kernel
theorem dJ0_indexOf_7cf53_4 : decode cJ0_indexOf_7cf53 4 = .ok (.ifCond .eq 19, 3) := by decide +kernel
theorem dJ0_indexOf_7cf53_7 : decode cJ0_indexOf_7cf53 7 = .ok (.aload_n 0, 1) := by decide +kernel
theorem dJ0_indexOf_7cf53_8 : decode cJ0_indexOf_7cf53 8 = .ok (.getfield 9, 3) := by decide +kernel
theorem dJ0_indexOf_7cf53_11 : decode cJ0_indexOf_7cf53 11 = .ok (.iload_n 1, 1) := by decide +kernel
theorem dJ0_indexOf_7cf53_12 : decode cJ0_indexOf_7cf53 12 = .ok (.iload_n 2, 1) := by decide +kernel
theorem dJ0_indexOf_7cf53_13 : decode cJ0_indexOf_7cf53 13 = .ok (.aload_n 0, 1) := by decide +kernel
theorem dJ0_indexOf_7cf53_14 : decode cJ0_indexOf_7cf53 14 = .ok (.invokevirtual 505, 3) := by decide +kernel
theorem dJ0_indexOf_7cf53_17 : decode cJ0_indexOf_7cf53 17 = .ok (.invokestatic 637, 3) := by decide +kernel
theorem dJ0_indexOf_7cf53_20 : decode cJ0_indexOf_7cf53 20 = .ok (.goto 16, 3) := by decide +kernel
theorem dJ0_indexOf_7cf53_23 : decode cJ0_indexOf_7cf53 23 = .ok (.aload_n 0, 1) := by decide +kernel
theorem dJ0_indexOf_7cf53_24 : decode cJ0_indexOf_7cf53 24 = .ok (.getfield 9, 3) := by decide +kernel
theorem dJ0_indexOf_7cf53_27 : decode cJ0_indexOf_7cf53 27 = .ok (.iload_n 1, 1) := by decide +kernel
theorem dJ0_indexOf_7cf53_28 : decode cJ0_indexOf_7cf53 28 = .ok (.iload_n 2, 1) := by decide +kernel
theorem dJ0_indexOf_7cf53_29 : decode cJ0_indexOf_7cf53 29 = .ok (.aload_n 0, 1) := by decide +kernel
theorem dJ0_indexOf_7cf53_30 : decode cJ0_indexOf_7cf53 30 = .ok (.invokevirtual 505, 3) := by decide +kernel
theorem dJ0_indexOf_7cf53_33 : decode cJ0_indexOf_7cf53 33 = .ok (.invokestatic 640, 3) := by decide +kernel
theorem dJ0_indexOf_7cf53_36 : decode cJ0_indexOf_7cf53 36 = .ok (.ireturn, 1) := by decide +kernel
theorem dJ0_coder_7d493_0 : decode cJ0_coder_7d493 0 = .ok (.getstatic 38, 3) := by decide +kernel
theorem dJ0_coder_7d493_3 : decode cJ0_coder_7d493 3 = .ok (.ifCond .eq 10, 3) := by decide +kernel
theorem dJ0_coder_7d493_6 : decode cJ0_coder_7d493 6 = .ok (.aload_n 0, 1) := by decide +kernel
theorem dJ0_coder_7d493_7 : decode cJ0_coder_7d493 7 = .ok (.getfield 15, 3) := by decide +kernel
theorem dJ0_coder_7d493_10 : decode cJ0_coder_7d493 10 = .ok (.goto 4, 3) := by decide +kernel
theorem dJ0_coder_7d493_13 : decode cJ0_coder_7d493 13 = .ok (.iconst 1, 1) := by decide +kernel
theorem dJ0_coder_7d493_14 : decode cJ0_coder_7d493 14 = .ok (.ireturn, 1) := by decide +kernel
theorem dJ0_isLatin1_aae02_0 : decode cJ0_isLatin1_aae02 0 = .ok (.getstatic 38, 3) := by decide +kernel
theorem dJ0_isLatin1_aae02_3 : decode cJ0_isLatin1_aae02 3 = .ok (.ifCond .eq 14, 3) := by decide +kernel
theorem dJ0_isLatin1_aae02_6 : decode cJ0_isLatin1_aae02 6 = .ok (.aload_n 0, 1) := by decide +kernel
theorem dJ0_isLatin1_aae02_7 : decode cJ0_isLatin1_aae02 7 = .ok (.getfield 15, 3) := by decide +kernel
theorem dJ0_isLatin1_aae02_10 : decode cJ0_isLatin1_aae02 10 = .ok (.ifCond .ne 7, 3) := by decide +kernel
theorem dJ0_isLatin1_aae02_13 : decode cJ0_isLatin1_aae02 13 = .ok (.iconst 1, 1) := by decide +kernel
theorem dJ0_isLatin1_aae02_14 : decode cJ0_isLatin1_aae02 14 = .ok (.goto 4, 3) := by decide +kernel
theorem dJ0_isLatin1_aae02_17 : decode cJ0_isLatin1_aae02 17 = .ok (.iconst 0, 1) := by decide +kernel
theorem dJ0_isLatin1_aae02_18 : decode cJ0_isLatin1_aae02 18 = .ok (.ireturn, 1) := by decide +kernel
theorem dJ0_checkIndex_df160_0 : decode cJ0_checkIndex_df160 0 = .ok (.iload_n 0, 1) := by decide +kernel
theorem dJ0_checkIndex_df160_1 : decode cJ0_checkIndex_df160 1 = .ok (.iload_n 1, 1) := by decide +kernel
theorem dJ0_checkIndex_df160_2 : decode cJ0_checkIndex_df160 2 = .ok (.getstatic 1053, 3) := by decide +kernel
theorem dJ0_checkIndex_df160_5 : decode cJ0_checkIndex_df160 5 = .ok (.invokestatic 1059, 3) := by decide +kernel
theorem dJ0_checkIndex_df160_8 : decode cJ0_checkIndex_df160 8 = .ok (.pop, 1) := by decide +kernel
theorem dJ0_checkIndex_df160_9 : decode cJ0_checkIndex_df160 9 = .ok (.return_, 1) := by decide +kernel
theorem dJ0_checkBoundsBeginEnd_23922_0 : decode cJ0_checkBoundsBeginEnd_23922 0 = .ok (.iload_n 0, 1) := by decide +kernel
theorem dJ0_checkBoundsBeginEnd_23922_1 : decode cJ0_checkBoundsBeginEnd_23922 1 = .ok (.iload_n 1, 1) := by decide +kernel
theorem dJ0_checkBoundsBeginEnd_23922_2 : decode cJ0_checkBoundsBeginEnd_23922 2 = .ok (.iload_n 2, 1) := by decide +kernel
theorem dJ0_checkBoundsBeginEnd_23922_3 : decode cJ0_checkBoundsBeginEnd_23922 3 = .ok (.getstatic 1053, 3) := by decide +kernel
theorem dJ0_checkBoundsBeginEnd_23922_6 : decode cJ0_checkBoundsBeginEnd_23922 6 = .ok (.invokestatic 1062, 3) := by decide +kernel
theorem dJ0_checkBoundsBeginEnd_23922_9 : decode cJ0_checkBoundsBeginEnd_23922 9 = .ok (.pop, 1) := by decide +kernel
theorem dJ0_checkBoundsBeginEnd_23922_10 : decode cJ0_checkBoundsBeginEnd_23922 10 = .ok (.return_, 1) := by decide +kernel
theorem dJ1_charAt_3b067_0 : decode cJ1_charAt_3b067 0 = .ok (.iload_n 1, 1) := by decide +kernel
theorem dJ1_charAt_3b067_1 : decode cJ1_charAt_3b067 1 = .ok (.aload_n 0, 1) := by decide +kernel
theorem dJ1_charAt_3b067_2 : decode cJ1_charAt_3b067 2 = .ok (.arraylength, 1) := by decide +kernel
theorem dJ1_charAt_3b067_3 : decode cJ1_charAt_3b067 3 = .ok (.invokestatic 9, 3) := by decide +kernel
theorem dJ1_charAt_3b067_6 : decode cJ1_charAt_3b067 6 = .ok (.aload_n 0, 1) := by decide +kernel
theorem dJ1_charAt_3b067_7 : decode cJ1_charAt_3b067 7 = .ok (.iload_n 1, 1) := by decide +kernel
theorem dJ1_charAt_3b067_8 : decode cJ1_charAt_3b067 8 = .ok (.baload, 1) := by decide +kernel
theorem dJ1_charAt_3b067_9 : decode cJ1_charAt_3b067 9 = .ok (.sipush 255, 3) := by decide +kernel
theorem dJ1_charAt_3b067_12 : decode cJ1_charAt_3b067 12 = .ok (.iand, 1) := by decide +kernel
theorem dJ1_charAt_3b067_13 : decode cJ1_charAt_3b067 13 = .ok (.i2c, 1) := by decide +kernel
theorem dJ1_charAt_3b067_14 : decode cJ1_charAt_3b067 14 = .ok (.ireturn, 1) := by decide +kernel
theorem dJ1_canEncode_9a6ad_0 : decode cJ1_canEncode_9a6ad 0 = .ok (.iload_n 0, 1) := by decide +kernel
theorem dJ1_canEncode_9a6ad_1 : decode cJ1_canEncode_9a6ad 1 = .ok (.ifCond .lt 14, 3) := by decide +kernel
theorem dJ1_canEncode_9a6ad_4 : decode cJ1_canEncode_9a6ad 4 = .ok (.iload_n 0, 1) := by decide +kernel
theorem dJ1_canEncode_9a6ad_5 : decode cJ1_canEncode_9a6ad 5 = .ok (.sipush 255, 3) := by decide +kernel
theorem dJ1_canEncode_9a6ad_8 : decode cJ1_canEncode_9a6ad 8 = .ok (.if_icmp .gt 7, 3) := by decide +kernel
theorem dJ1_canEncode_9a6ad_11 : decode cJ1_canEncode_9a6ad 11 = .ok (.iconst 1, 1) := by decide +kernel
theorem dJ1_canEncode_9a6ad_12 : decode cJ1_canEncode_9a6ad 12 = .ok (.goto 4, 3) := by decide +kernel
theorem dJ1_canEncode_9a6ad_15 : decode cJ1_canEncode_9a6ad 15 = .ok (.iconst 0, 1) := by decide +kernel
theorem dJ1_canEncode_9a6ad_16 : decode cJ1_canEncode_9a6ad 16 = .ok (.ireturn, 1) := by decide +kernel
theorem dJ1_indexOf_4cfef_0 : decode cJ1_indexOf_4cfef 0 = .ok (.iload_n 1, 1) := by decide +kernel
theorem dJ1_indexOf_4cfef_1 : decode cJ1_indexOf_4cfef 1 = .ok (.invokestatic 88, 3) := by decide +kernel
theorem dJ1_indexOf_4cfef_4 : decode cJ1_indexOf_4cfef 4 = .ok (.ifCond .ne 5, 3) := by decide +kernel
theorem dJ1_indexOf_4cfef_7 : decode cJ1_indexOf_4cfef 7 = .ok (.iconst (-1), 1) := by decide +kernel
theorem dJ1_indexOf_4cfef_8 : decode cJ1_indexOf_4cfef 8 = .ok (.ireturn, 1) := by decide +kernel
theorem dJ1_indexOf_4cfef_9 : decode cJ1_indexOf_4cfef 9 = .ok (.iload_n 2, 1) := by decide +kernel
theorem dJ1_indexOf_4cfef_10 : decode cJ1_indexOf_4cfef 10 = .ok (.iconst 0, 1) := by decide +kernel
theorem dJ1_indexOf_4cfef_11 : decode cJ1_indexOf_4cfef 11 = .ok (.invokestatic 92, 3) := by decide +kernel
theorem dJ1_indexOf_4cfef_14 : decode cJ1_indexOf_4cfef 14 = .ok (.istore_n 2, 1) := by decide +kernel
theorem dJ1_indexOf_4cfef_15 : decode cJ1_indexOf_4cfef 15 = .ok (.iload_n 3, 1) := by decide +kernel
theorem dJ1_indexOf_4cfef_16 : decode cJ1_indexOf_4cfef 16 = .ok (.aload_n 0, 1) := by decide +kernel
theorem dJ1_indexOf_4cfef_17 : decode cJ1_indexOf_4cfef 17 = .ok (.arraylength, 1) := by decide +kernel
theorem dJ1_indexOf_4cfef_18 : decode cJ1_indexOf_4cfef 18 = .ok (.invokestatic 38, 3) := by decide +kernel
theorem dJ1_indexOf_4cfef_21 : decode cJ1_indexOf_4cfef 21 = .ok (.istore_n 3, 1) := by decide +kernel
theorem dJ1_indexOf_4cfef_22 : decode cJ1_indexOf_4cfef 22 = .ok (.iload_n 2, 1) := by decide +kernel
theorem dJ1_indexOf_4cfef_23 : decode cJ1_indexOf_4cfef 23 = .ok (.iload_n 3, 1) := by decide +kernel
theorem dJ1_indexOf_4cfef_24 : decode cJ1_indexOf_4cfef 24 = .ok (.if_icmp .lt 5, 3) := by decide +kernel
theorem dJ1_indexOf_4cfef_27 : decode cJ1_indexOf_4cfef 27 = .ok (.iconst (-1), 1) := by decide +kernel
theorem dJ1_indexOf_4cfef_28 : decode cJ1_indexOf_4cfef 28 = .ok (.ireturn, 1) := by decide +kernel
theorem dJ1_indexOf_4cfef_29 : decode cJ1_indexOf_4cfef 29 = .ok (.aload_n 0, 1) := by decide +kernel
theorem dJ1_indexOf_4cfef_30 : decode cJ1_indexOf_4cfef 30 = .ok (.iload_n 1, 1) := by decide +kernel
theorem dJ1_indexOf_4cfef_31 : decode cJ1_indexOf_4cfef 31 = .ok (.iload_n 2, 1) := by decide +kernel
theorem dJ1_indexOf_4cfef_32 : decode cJ1_indexOf_4cfef 32 = .ok (.iload_n 3, 1) := by decide +kernel
theorem dJ1_indexOf_4cfef_33 : decode cJ1_indexOf_4cfef 33 = .ok (.invokestatic 95, 3) := by decide +kernel
theorem dJ1_indexOf_4cfef_36 : decode cJ1_indexOf_4cfef 36 = .ok (.ireturn, 1) := by decide +kernel
theorem dJ1_indexOfChar_4cfef_0 : decode cJ1_indexOfChar_4cfef 0 = .ok (.iload_n 1, 1) := by decide +kernel
theorem dJ1_indexOfChar_4cfef_1 : decode cJ1_indexOfChar_4cfef 1 = .ok (.i2b, 1) := by decide +kernel
theorem dJ1_indexOfChar_4cfef_2 : decode cJ1_indexOfChar_4cfef 2 = .ok (.istore 4, 2) := by decide +kernel
theorem dJ1_indexOfChar_4cfef_4 : decode cJ1_indexOfChar_4cfef 4 = .ok (.iload_n 2, 1) := by decide +kernel
theorem dJ1_indexOfChar_4cfef_5 : decode cJ1_indexOfChar_4cfef 5 = .ok (.istore 5, 2) := by decide +kernel
theorem dJ1_indexOfChar_4cfef_7 : decode cJ1_indexOfChar_4cfef 7 = .ok (.iload 5, 2) := by decide +kernel
theorem dJ1_indexOfChar_4cfef_9 : decode cJ1_indexOfChar_4cfef 9 = .ok (.iload_n 3, 1) := by decide +kernel
theorem dJ1_indexOfChar_4cfef_10 : decode cJ1_indexOfChar_4cfef 10 = .ok (.if_icmp .ge 21, 3) := by decide +kernel
theorem dJ1_indexOfChar_4cfef_13 : decode cJ1_indexOfChar_4cfef 13 = .ok (.aload_n 0, 1) := by decide +kernel
theorem dJ1_indexOfChar_4cfef_14 : decode cJ1_indexOfChar_4cfef 14 = .ok (.iload 5, 2) := by decide +kernel
theorem dJ1_indexOfChar_4cfef_16 : decode cJ1_indexOfChar_4cfef 16 = .ok (.baload, 1) := by decide +kernel
theorem dJ1_indexOfChar_4cfef_17 : decode cJ1_indexOfChar_4cfef 17 = .ok (.iload 4, 2) := by decide +kernel
theorem dJ1_indexOfChar_4cfef_19 : decode cJ1_indexOfChar_4cfef 19 = .ok (.if_icmp .ne 6, 3) := by decide +kernel
theorem dJ1_indexOfChar_4cfef_22 : decode cJ1_indexOfChar_4cfef 22 = .ok (.iload 5, 2) := by decide +kernel
theorem dJ1_indexOfChar_4cfef_24 : decode cJ1_indexOfChar_4cfef 24 = .ok (.ireturn, 1) := by decide +kernel
theorem dJ1_indexOfChar_4cfef_25 : decode cJ1_indexOfChar_4cfef 25 = .ok (.iinc 5 1, 3) := by decide +kernel
theorem dJ1_indexOfChar_4cfef_28 : decode cJ1_indexOfChar_4cfef 28 = .ok (.goto (-21), 3) := by decide +kernel
theorem dJ1_indexOfChar_4cfef_31 : decode cJ1_indexOfChar_4cfef 31 = .ok (.iconst (-1), 1) := by decide +kernel
theorem dJ1_indexOfChar_4cfef_32 : decode cJ1_indexOfChar_4cfef 32 = .ok (.ireturn, 1) := by decide +kernel
theorem dJ2_getChar_3b067_0 : decode cJ2_getChar_3b067 0 = .ok (.getstatic 44, 3) := by decide +kernel
theorem dJ2_getChar_3b067_3 : decode cJ2_getChar_3b067 3 = .ok (.ifCond .ne 25, 3) := by decide +kernel
theorem dJ2_getChar_3b067_6 : decode cJ2_getChar_3b067 6 = .ok (.iload_n 1, 1) := by decide +kernel
theorem dJ2_getChar_3b067_7 : decode cJ2_getChar_3b067 7 = .ok (.ifCond .lt 11, 3) := by decide +kernel
theorem dJ2_getChar_3b067_10 : decode cJ2_getChar_3b067 10 = .ok (.iload_n 1, 1) := by decide +kernel
theorem dJ2_getChar_3b067_11 : decode cJ2_getChar_3b067 11 = .ok (.aload_n 0, 1) := by decide +kernel
theorem dJ2_getChar_3b067_12 : decode cJ2_getChar_3b067 12 = .ok (.invokestatic 48, 3) := by decide +kernel
theorem dJ2_getChar_3b067_15 : decode cJ2_getChar_3b067 15 = .ok (.if_icmp .lt 13, 3) := by decide +kernel
theorem dJ2_getChar_3b067_18 : decode cJ2_getChar_3b067 18 = .ok (.new 52, 3) := by decide +kernel
theorem dJ2_getChar_3b067_21 : decode cJ2_getChar_3b067 21 = .ok (.dup, 1) := by decide +kernel
theorem dJ2_getChar_3b067_22 : decode cJ2_getChar_3b067 22 = .ok (.ldc 54, 2) := by decide +kernel
theorem dJ2_getChar_3b067_24 : decode cJ2_getChar_3b067 24 = .ok (.invokespecial 56, 3) := by decide +kernel
theorem dJ2_getChar_3b067_27 : decode cJ2_getChar_3b067 27 = .ok (.athrow, 1) := by decide +kernel
theorem dJ2_getChar_3b067_28 : decode cJ2_getChar_3b067 28 = .ok (.iload_n 1, 1) := by decide +kernel
theorem dJ2_getChar_3b067_29 : decode cJ2_getChar_3b067 29 = .ok (.iconst 1, 1) := by decide +kernel
theorem dJ2_getChar_3b067_30 : decode cJ2_getChar_3b067 30 = .ok (.ishl, 1) := by decide +kernel
theorem dJ2_getChar_3b067_31 : decode cJ2_getChar_3b067 31 = .ok (.istore_n 1, 1) := by decide +kernel
theorem dJ2_getChar_3b067_32 : decode cJ2_getChar_3b067 32 = .ok (.aload_n 0, 1) := by decide +kernel
theorem dJ2_getChar_3b067_33 : decode cJ2_getChar_3b067 33 = .ok (.iload_n 1, 1) := by decide +kernel
theorem dJ2_getChar_3b067_34 : decode cJ2_getChar_3b067 34 = .ok (.iinc 1 1, 3) := by decide +kernel
theorem dJ2_getChar_3b067_37 : decode cJ2_getChar_3b067 37 = .ok (.baload, 1) := by decide +kernel
theorem dJ2_getChar_3b067_38 : decode cJ2_getChar_3b067 38 = .ok (.sipush 255, 3) := by decide +kernel
theorem dJ2_getChar_3b067_41 : decode cJ2_getChar_3b067 41 = .ok (.iand, 1) := by decide +kernel
theorem dJ2_getChar_3b067_42 : decode cJ2_getChar_3b067 42 = .ok (.getstatic 59, 3) := by decide +kernel
theorem dJ2_getChar_3b067_45 : decode cJ2_getChar_3b067 45 = .ok (.ishl, 1) := by decide +kernel
theorem dJ2_getChar_3b067_46 : decode cJ2_getChar_3b067 46 = .ok (.aload_n 0, 1) := by decide +kernel
theorem dJ2_getChar_3b067_47 : decode cJ2_getChar_3b067 47 = .ok (.iload_n 1, 1) := by decide +kernel
theorem dJ2_getChar_3b067_48 : decode cJ2_getChar_3b067 48 = .ok (.baload, 1) := by decide +kernel
theorem dJ2_getChar_3b067_49 : decode cJ2_getChar_3b067 49 = .ok (.sipush 255, 3) := by decide +kernel
theorem dJ2_getChar_3b067_52 : decode cJ2_getChar_3b067 52 = .ok (.iand, 1) := by decide +kernel
theorem dJ2_getChar_3b067_53 : decode cJ2_getChar_3b067 53 = .ok (.getstatic 63, 3) := by decide +kernel
theorem dJ2_getChar_3b067_56 : decode cJ2_getChar_3b067 56 = .ok (.ishl, 1) := by decide +kernel
theorem dJ2_getChar_3b067_57 : decode cJ2_getChar_3b067 57 = .ok (.ior, 1) := by decide +kernel
theorem dJ2_getChar_3b067_58 : decode cJ2_getChar_3b067 58 = .ok (.i2c, 1) := by decide +kernel
theorem dJ2_getChar_3b067_59 : decode cJ2_getChar_3b067 59 = .ok (.ireturn, 1) := by decide +kernel
theorem dJ2_length_9d52b_0 : decode cJ2_length_9d52b 0 = .ok (.aload_n 0, 1) := by decide +kernel
theorem dJ2_length_9d52b_1 : decode cJ2_length_9d52b 1 = .ok (.arraylength, 1) := by decide +kernel
theorem dJ2_length_9d52b_2 : decode cJ2_length_9d52b 2 = .ok (.iconst 1, 1) := by decide +kernel
theorem dJ2_length_9d52b_3 : decode cJ2_length_9d52b 3 = .ok (.ishr, 1) := by decide +kernel
theorem dJ2_length_9d52b_4 : decode cJ2_length_9d52b 4 = .ok (.ireturn, 1) := by decide +kernel
theorem dJ2_indexOf_4cfef_0 : decode cJ2_indexOf_4cfef 0 = .ok (.iload_n 2, 1) := by decide +kernel
theorem dJ2_indexOf_4cfef_1 : decode cJ2_indexOf_4cfef 1 = .ok (.iconst 0, 1) := by decide +kernel
theorem dJ2_indexOf_4cfef_2 : decode cJ2_indexOf_4cfef 2 = .ok (.invokestatic 224, 3) := by decide +kernel
theorem dJ2_indexOf_4cfef_5 : decode cJ2_indexOf_4cfef 5 = .ok (.istore_n 2, 1) := by decide +kernel
theorem dJ2_indexOf_4cfef_6 : decode cJ2_indexOf_4cfef 6 = .ok (.iload_n 3, 1) := by decide +kernel
theorem dJ2_indexOf_4cfef_7 : decode cJ2_indexOf_4cfef 7 = .ok (.aload_n 0, 1) := by decide +kernel
theorem dJ2_indexOf_4cfef_8 : decode cJ2_indexOf_4cfef 8 = .ok (.arraylength, 1) := by decide +kernel
theorem dJ2_indexOf_4cfef_9 : decode cJ2_indexOf_4cfef 9 = .ok (.iconst 1, 1) := by decide +kernel
theorem dJ2_indexOf_4cfef_10 : decode cJ2_indexOf_4cfef 10 = .ok (.ishr, 1) := by decide +kernel
theorem dJ2_indexOf_4cfef_11 : decode cJ2_indexOf_4cfef 11 = .ok (.invokestatic 183, 3) := by decide +kernel
theorem dJ2_indexOf_4cfef_14 : decode cJ2_indexOf_4cfef 14 = .ok (.istore_n 3, 1) := by decide +kernel
theorem dJ2_indexOf_4cfef_15 : decode cJ2_indexOf_4cfef 15 = .ok (.iload_n 2, 1) := by decide +kernel
theorem dJ2_indexOf_4cfef_16 : decode cJ2_indexOf_4cfef 16 = .ok (.iload_n 3, 1) := by decide +kernel
theorem dJ2_indexOf_4cfef_17 : decode cJ2_indexOf_4cfef 17 = .ok (.if_icmp .lt 5, 3) := by decide +kernel
theorem dJ2_indexOf_4cfef_20 : decode cJ2_indexOf_4cfef 20 = .ok (.iconst (-1), 1) := by decide +kernel
theorem dJ2_indexOf_4cfef_21 : decode cJ2_indexOf_4cfef 21 = .ok (.ireturn, 1) := by decide +kernel
theorem dJ2_indexOf_4cfef_22 : decode cJ2_indexOf_4cfef 22 = .ok (.iload_n 1, 1) := by decide +kernel
theorem dJ2_indexOf_4cfef_23 : decode cJ2_indexOf_4cfef 23 = .ok (.ldc 227, 2) := by decide +kernel
theorem dJ2_indexOf_4cfef_25 : decode cJ2_indexOf_4cfef 25 = .ok (.if_icmp .ge 11, 3) := by decide +kernel
theorem dJ2_indexOf_4cfef_28 : decode cJ2_indexOf_4cfef 28 = .ok (.aload_n 0, 1) := by decide +kernel
theorem dJ2_indexOf_4cfef_29 : decode cJ2_indexOf_4cfef 29 = .ok (.iload_n 1, 1) := by decide +kernel
theorem dJ2_indexOf_4cfef_30 : decode cJ2_indexOf_4cfef 30 = .ok (.iload_n 2, 1) := by decide +kernel
theorem dJ2_indexOf_4cfef_31 : decode cJ2_indexOf_4cfef 31 = .ok (.iload_n 3, 1) := by decide +kernel
theorem dJ2_indexOf_4cfef_32 : decode cJ2_indexOf_4cfef 32 = .ok (.invokestatic 228, 3) := by decide +kernel
theorem dJ2_indexOf_4cfef_35 : decode cJ2_indexOf_4cfef 35 = .ok (.ireturn, 1) := by decide +kernel
theorem dJ2_indexOf_4cfef_36 : decode cJ2_indexOf_4cfef 36 = .ok (.aload_n 0, 1) := by decide +kernel
theorem dJ2_indexOf_4cfef_37 : decode cJ2_indexOf_4cfef 37 = .ok (.iload_n 1, 1) := by decide +kernel
theorem dJ2_indexOf_4cfef_38 : decode cJ2_indexOf_4cfef 38 = .ok (.iload_n 2, 1) := by decide +kernel
theorem dJ2_indexOf_4cfef_39 : decode cJ2_indexOf_4cfef 39 = .ok (.iload_n 3, 1) := by decide +kernel
theorem dJ2_indexOf_4cfef_40 : decode cJ2_indexOf_4cfef 40 = .ok (.invokestatic 232, 3) := by decide +kernel
theorem dJ2_indexOf_4cfef_43 : decode cJ2_indexOf_4cfef 43 = .ok (.ireturn, 1) := by decide +kernel
theorem dJ2_indexOfChar_4cfef_0 : decode cJ2_indexOfChar_4cfef 0 = .ok (.iload_n 2, 1) := by decide +kernel
theorem dJ2_indexOfChar_4cfef_1 : decode cJ2_indexOfChar_4cfef 1 = .ok (.iload_n 3, 1) := by decide +kernel
theorem dJ2_indexOfChar_4cfef_2 : decode cJ2_indexOfChar_4cfef 2 = .ok (.aload_n 0, 1) := by decide +kernel
theorem dJ2_indexOfChar_4cfef_3 : decode cJ2_indexOfChar_4cfef 3 = .ok (.invokestatic 96, 3) := by decide +kernel
theorem dJ2_indexOfChar_4cfef_6 : decode cJ2_indexOfChar_4cfef 6 = .ok (.aload_n 0, 1) := by decide +kernel
theorem dJ2_indexOfChar_4cfef_7 : decode cJ2_indexOfChar_4cfef 7 = .ok (.iload_n 1, 1) := by decide +kernel
theorem dJ2_indexOfChar_4cfef_8 : decode cJ2_indexOfChar_4cfef 8 = .ok (.iload_n 2, 1) := by decide +kernel
theorem dJ2_indexOfChar_4cfef_9 : decode cJ2_indexOfChar_4cfef 9 = .ok (.iload_n 3, 1) := by decide +kernel
theorem dJ2_indexOfChar_4cfef_10 : decode cJ2_indexOfChar_4cfef 10 = .ok (.invokestatic 244, 3) := by decide +kernel
theorem dJ2_indexOfChar_4cfef_13 : decode cJ2_indexOfChar_4cfef 13 = .ok (.ireturn, 1) := by decide +kernel
theorem dJ2_indexOfCharUnsafe_4cfef_0 : decode cJ2_indexOfCharUnsafe_4cfef 0 = .ok (.iload_n 2, 1) := by decide +kernel
theorem dJ2_indexOfCharUnsafe_4cfef_1 : decode cJ2_indexOfCharUnsafe_4cfef 1 = .ok (.istore 4, 2) := by decide +kernel
theorem dJ2_indexOfCharUnsafe_4cfef_3 : decode cJ2_indexOfCharUnsafe_4cfef 3 = .ok (.iload 4, 2) := by decide +kernel
theorem dJ2_indexOfCharUnsafe_4cfef_5 : decode cJ2_indexOfCharUnsafe_4cfef 5 = .ok (.iload_n 3, 1) := by decide +kernel
theorem dJ2_indexOfCharUnsafe_4cfef_6 : decode cJ2_indexOfCharUnsafe_4cfef 6 = .ok (.if_icmp .ge 22, 3) := by decide +kernel
theorem dJ2_indexOfCharUnsafe_4cfef_9 : decode cJ2_indexOfCharUnsafe_4cfef 9 = .ok (.aload_n 0, 1) := by decide +kernel
theorem dJ2_indexOfCharUnsafe_4cfef_10 : decode cJ2_indexOfCharUnsafe_4cfef 10 = .ok (.iload 4, 2) := by decide +kernel
theorem dJ2_indexOfCharUnsafe_4cfef_12 : decode cJ2_indexOfCharUnsafe_4cfef 12 = .ok (.invokestatic 71, 3) := by decide +kernel
theorem dJ2_indexOfCharUnsafe_4cfef_15 : decode cJ2_indexOfCharUnsafe_4cfef 15 = .ok (.iload_n 1, 1) := by decide +kernel
theorem dJ2_indexOfCharUnsafe_4cfef_16 : decode cJ2_indexOfCharUnsafe_4cfef 16 = .ok (.if_icmp .ne 6, 3) := by decide +kernel
theorem dJ2_indexOfCharUnsafe_4cfef_19 : decode cJ2_indexOfCharUnsafe_4cfef 19 = .ok (.iload 4, 2) := by decide +kernel
theorem dJ2_indexOfCharUnsafe_4cfef_21 : decode cJ2_indexOfCharUnsafe_4cfef 21 = .ok (.ireturn, 1) := by decide +kernel
theorem dJ2_indexOfCharUnsafe_4cfef_22 : decode cJ2_indexOfCharUnsafe_4cfef 22 = .ok (.iinc 4 1, 3) := by decide +kernel
theorem dJ2_indexOfCharUnsafe_4cfef_25 : decode cJ2_indexOfCharUnsafe_4cfef 25 = .ok (.goto (-22), 3) := by decide +kernel
theorem dJ2_indexOfCharUnsafe_4cfef_28 : decode cJ2_indexOfCharUnsafe_4cfef 28 = .ok (.iconst (-1), 1) := by decide +kernel
theorem dJ2_indexOfCharUnsafe_4cfef_29 : decode cJ2_indexOfCharUnsafe_4cfef 29 = .ok (.ireturn, 1) := by decide +kernel
theorem dJ2_indexOfSupplementary_4cfef_0 : decode cJ2_indexOfSupplementary_4cfef 0 = .ok (.iload_n 1, 1) := by decide +kernel
theorem dJ2_indexOfSupplementary_4cfef_1 : decode cJ2_indexOfSupplementary_4cfef 1 = .ok (.invokestatic 164, 3) := by decide +kernel
theorem dJ2_indexOfSupplementary_4cfef_4 : decode cJ2_indexOfSupplementary_4cfef 4 = .ok (.ifCond .eq 65, 3) := by decide +kernel
theorem dJ2_indexOfSupplementary_4cfef_7 : decode cJ2_indexOfSupplementary_4cfef 7 = .ok (.iload_n 1, 1) := by decide +kernel
theorem dJ2_indexOfSupplementary_4cfef_8 : decode cJ2_indexOfSupplementary_4cfef 8 = .ok (.invokestatic 157, 3) := by decide +kernel
theorem dJ2_indexOfSupplementary_4cfef_11 : decode cJ2_indexOfSupplementary_4cfef 11 = .ok (.istore 4, 2) := by decide +kernel
theorem dJ2_indexOfSupplementary_4cfef_13 : decode cJ2_indexOfSupplementary_4cfef 13 = .ok (.iload_n 1, 1) := by decide +kernel
theorem dJ2_indexOfSupplementary_4cfef_14 : decode cJ2_indexOfSupplementary_4cfef 14 = .ok (.invokestatic 161, 3) := by decide +kernel
theorem dJ2_indexOfSupplementary_4cfef_17 : decode cJ2_indexOfSupplementary_4cfef 17 = .ok (.istore 5, 2) := by decide +kernel
theorem dJ2_indexOfSupplementary_4cfef_19 : decode cJ2_indexOfSupplementary_4cfef 19 = .ok (.iload_n 2, 1) := by decide +kernel
theorem dJ2_indexOfSupplementary_4cfef_20 : decode cJ2_indexOfSupplementary_4cfef 20 = .ok (.iload_n 3, 1) := by decide +kernel
theorem dJ2_indexOfSupplementary_4cfef_21 : decode cJ2_indexOfSupplementary_4cfef 21 = .ok (.aload_n 0, 1) := by decide +kernel
theorem dJ2_indexOfSupplementary_4cfef_22 : decode cJ2_indexOfSupplementary_4cfef 22 = .ok (.invokestatic 96, 3) := by decide +kernel
theorem dJ2_indexOfSupplementary_4cfef_25 : decode cJ2_indexOfSupplementary_4cfef 25 = .ok (.iload_n 2, 1) := by decide +kernel
theorem dJ2_indexOfSupplementary_4cfef_26 : decode cJ2_indexOfSupplementary_4cfef 26 = .ok (.istore 6, 2) := by decide +kernel
theorem dJ2_indexOfSupplementary_4cfef_28 : decode cJ2_indexOfSupplementary_4cfef 28 = .ok (.iload 6, 2) := by decide +kernel
theorem dJ2_indexOfSupplementary_4cfef_30 : decode cJ2_indexOfSupplementary_4cfef 30 = .ok (.iload_n 3, 1) := by decide +kernel
theorem dJ2_indexOfSupplementary_4cfef_31 : decode cJ2_indexOfSupplementary_4cfef 31 = .ok (.iconst 1, 1) := by decide +kernel
theorem dJ2_indexOfSupplementary_4cfef_32 : decode cJ2_indexOfSupplementary_4cfef 32 = .ok (.isub, 1) := by decide +kernel
theorem dJ2_indexOfSupplementary_4cfef_33 : decode cJ2_indexOfSupplementary_4cfef 33 = .ok (.if_icmp .ge 36, 3) := by decide +kernel
theorem dJ2_indexOfSupplementary_4cfef_36 : decode cJ2_indexOfSupplementary_4cfef 36 = .ok (.aload_n 0, 1) := by decide +kernel
theorem dJ2_indexOfSupplementary_4cfef_37 : decode cJ2_indexOfSupplementary_4cfef 37 = .ok (.iload 6, 2) := by decide +kernel
theorem dJ2_indexOfSupplementary_4cfef_39 : decode cJ2_indexOfSupplementary_4cfef 39 = .ok (.invokestatic 71, 3) := by decide +kernel
theorem dJ2_indexOfSupplementary_4cfef_42 : decode cJ2_indexOfSupplementary_4cfef 42 = .ok (.iload 4, 2) := by decide +kernel
theorem dJ2_indexOfSupplementary_4cfef_44 : decode cJ2_indexOfSupplementary_4cfef 44 = .ok (.if_icmp .ne 19, 3) := by decide +kernel
theorem dJ2_indexOfSupplementary_4cfef_47 : decode cJ2_indexOfSupplementary_4cfef 47 = .ok (.aload_n 0, 1) := by decide +kernel
theorem dJ2_indexOfSupplementary_4cfef_48 : decode cJ2_indexOfSupplementary_4cfef 48 = .ok (.iload 6, 2) := by decide +kernel
theorem dJ2_indexOfSupplementary_4cfef_50 : decode cJ2_indexOfSupplementary_4cfef 50 = .ok (.iconst 1, 1) := by decide +kernel
theorem dJ2_indexOfSupplementary_4cfef_51 : decode cJ2_indexOfSupplementary_4cfef 51 = .ok (.iadd, 1) := by decide +kernel
theorem dJ2_indexOfSupplementary_4cfef_52 : decode cJ2_indexOfSupplementary_4cfef 52 = .ok (.invokestatic 71, 3) := by decide +kernel
theorem dJ2_indexOfSupplementary_4cfef_55 : decode cJ2_indexOfSupplementary_4cfef 55 = .ok (.iload 5, 2) := by decide +kernel
theorem dJ2_indexOfSupplementary_4cfef_57 : decode cJ2_indexOfSupplementary_4cfef 57 = .ok (.if_icmp .ne 6, 3) := by decide +kernel
theorem dJ2_indexOfSupplementary_4cfef_60 : decode cJ2_indexOfSupplementary_4cfef 60 = .ok (.iload 6, 2) := by decide +kernel
theorem dJ2_indexOfSupplementary_4cfef_62 : decode cJ2_indexOfSupplementary_4cfef 62 = .ok (.ireturn, 1) := by decide +kernel
theorem dJ2_indexOfSupplementary_4cfef_63 : decode cJ2_indexOfSupplementary_4cfef 63 = .ok (.iinc 6 1, 3) := by decide +kernel
theorem dJ2_indexOfSupplementary_4cfef_66 : decode cJ2_indexOfSupplementary_4cfef 66 = .ok (.goto (-38), 3) := by decide +kernel
theorem dJ2_indexOfSupplementary_4cfef_69 : decode cJ2_indexOfSupplementary_4cfef 69 = .ok (.iconst (-1), 1) := by decide +kernel
theorem dJ2_indexOfSupplementary_4cfef_70 : decode cJ2_indexOfSupplementary_4cfef 70 = .ok (.ireturn, 1) := by decide +kernel
theorem dJ2_charAt_3b067_0 : decode cJ2_charAt_3b067 0 = .ok (.iload_n 1, 1) := by decide +kernel
theorem dJ2_charAt_3b067_1 : decode cJ2_charAt_3b067 1 = .ok (.aload_n 0, 1) := by decide +kernel
theorem dJ2_charAt_3b067_2 : decode cJ2_charAt_3b067 2 = .ok (.invokestatic 67, 3) := by decide +kernel
theorem dJ2_charAt_3b067_5 : decode cJ2_charAt_3b067 5 = .ok (.aload_n 0, 1) := by decide +kernel
theorem dJ2_charAt_3b067_6 : decode cJ2_charAt_3b067 6 = .ok (.iload_n 1, 1) := by decide +kernel
theorem dJ2_charAt_3b067_7 : decode cJ2_charAt_3b067 7 = .ok (.invokestatic 71, 3) := by decide +kernel
theorem dJ2_charAt_3b067_10 : decode cJ2_charAt_3b067 10 = .ok (.ireturn, 1) := by decide +kernel
theorem dJ2_checkIndex_2214a_0 : decode cJ2_checkIndex_2214a 0 = .ok (.iload_n 0, 1) := by decide +kernel
theorem dJ2_checkIndex_2214a_1 : decode cJ2_checkIndex_2214a 1 = .ok (.aload_n 1, 1) := by decide +kernel
theorem dJ2_checkIndex_2214a_2 : decode cJ2_checkIndex_2214a 2 = .ok (.invokestatic 48, 3) := by decide +kernel
theorem dJ2_checkIndex_2214a_5 : decode cJ2_checkIndex_2214a 5 = .ok (.invokestatic 414, 3) := by decide +kernel
theorem dJ2_checkIndex_2214a_8 : decode cJ2_checkIndex_2214a 8 = .ok (.return_, 1) := by decide +kernel
theorem dJ2_checkBoundsBeginEnd_d044e_0 : decode cJ2_checkBoundsBeginEnd_d044e 0 = .ok (.iload_n 0, 1) := by decide +kernel
theorem dJ2_checkBoundsBeginEnd_d044e_1 : decode cJ2_checkBoundsBeginEnd_d044e 1 = .ok (.iload_n 1, 1) := by decide +kernel
theorem dJ2_checkBoundsBeginEnd_d044e_2 : decode cJ2_checkBoundsBeginEnd_d044e 2 = .ok (.aload_n 2, 1) := by decide +kernel
theorem dJ2_checkBoundsBeginEnd_d044e_3 : decode cJ2_checkBoundsBeginEnd_d044e 3 = .ok (.invokestatic 48, 3) := by decide +kernel
theorem dJ2_checkBoundsBeginEnd_d044e_6 : decode cJ2_checkBoundsBeginEnd_d044e 6 = .ok (.invokestatic 241, 3) := by decide +kernel
theorem dJ2_checkBoundsBeginEnd_d044e_9 : decode cJ2_checkBoundsBeginEnd_d044e 9 = .ok (.return_, 1) := by decide +kernel
theorem dJ7_fill_d0a16_0 : decode cJ7_fill_d0a16 0 = .ok (.iconst 0, 1) := by decide +kernel
theorem dJ7_fill_d0a16_1 : decode cJ7_fill_d0a16 1 = .ok (.istore_n 3, 1) := by decide +kernel
theorem dJ7_fill_d0a16_2 : decode cJ7_fill_d0a16 2 = .ok (.aload_n 0, 1) := by decide +kernel
theorem dJ7_fill_d0a16_3 : decode cJ7_fill_d0a16 3 = .ok (.arraylength, 1) := by decide +kernel
theorem dJ7_fill_d0a16_4 : decode cJ7_fill_d0a16 4 = .ok (.istore 4, 2) := by decide +kernel
theorem dJ7_fill_d0a16_6 : decode cJ7_fill_d0a16 6 = .ok (.iload_n 3, 1) := by decide +kernel
theorem dJ7_fill_d0a16_7 : decode cJ7_fill_d0a16 7 = .ok (.iload 4, 2) := by decide +kernel
theorem dJ7_fill_d0a16_9 : decode cJ7_fill_d0a16 9 = .ok (.if_icmp .ge 13, 3) := by decide +kernel
theorem dJ7_fill_d0a16_12 : decode cJ7_fill_d0a16 12 = .ok (.aload_n 0, 1) := by decide +kernel
theorem dJ7_fill_d0a16_13 : decode cJ7_fill_d0a16 13 = .ok (.iload_n 3, 1) := by decide +kernel
theorem dJ7_fill_d0a16_14 : decode cJ7_fill_d0a16 14 = .ok (.lload_n 1, 1) := by decide +kernel
theorem dJ7_fill_d0a16_15 : decode cJ7_fill_d0a16 15 = .ok (.lastore, 1) := by decide +kernel
theorem dJ7_fill_d0a16_16 : decode cJ7_fill_d0a16 16 = .ok (.iinc 3 1, 3) := by decide +kernel
theorem dJ7_fill_d0a16_19 : decode cJ7_fill_d0a16 19 = .ok (.goto (-13), 3) := by decide +kernel
theorem dJ7_fill_d0a16_22 : decode cJ7_fill_d0a16 22 = .ok (.return_, 1) := by decide +kernel
theorem dJ7_fill_53178_0 : decode cJ7_fill_53178 0 = .ok (.iconst 0, 1) := by decide +kernel
theorem dJ7_fill_53178_1 : decode cJ7_fill_53178 1 = .ok (.istore_n 2, 1) := by decide +kernel
theorem dJ7_fill_53178_2 : decode cJ7_fill_53178 2 = .ok (.aload_n 0, 1) := by decide +kernel
theorem dJ7_fill_53178_3 : decode cJ7_fill_53178 3 = .ok (.arraylength, 1) := by decide +kernel
theorem dJ7_fill_53178_4 : decode cJ7_fill_53178 4 = .ok (.istore_n 3, 1) := by decide +kernel
theorem dJ7_fill_53178_5 : decode cJ7_fill_53178 5 = .ok (.iload_n 2, 1) := by decide +kernel
theorem dJ7_fill_53178_6 : decode cJ7_fill_53178 6 = .ok (.iload_n 3, 1) := by decide +kernel
theorem dJ7_fill_53178_7 : decode cJ7_fill_53178 7 = .ok (.if_icmp .ge 13, 3) := by decide +kernel
theorem dJ7_fill_53178_10 : decode cJ7_fill_53178 10 = .ok (.aload_n 0, 1) := by decide +kernel
theorem dJ7_fill_53178_11 : decode cJ7_fill_53178 11 = .ok (.iload_n 2, 1) := by decide +kernel
theorem dJ7_fill_53178_12 : decode cJ7_fill_53178 12 = .ok (.iload_n 1, 1) := by decide +kernel
theorem dJ7_fill_53178_13 : decode cJ7_fill_53178 13 = .ok (.iastore, 1) := by decide +kernel
theorem dJ7_fill_53178_14 : decode cJ7_fill_53178 14 = .ok (.iinc 2 1, 3) := by decide +kernel
theorem dJ7_fill_53178_17 : decode cJ7_fill_53178 17 = .ok (.goto (-12), 3) := by decide +kernel
theorem dJ7_fill_53178_20 : decode cJ7_fill_53178 20 = .ok (.return_, 1) := by decide +kernel
theorem dJ3_checkIndex_8e157_0 : decode cJ3_checkIndex_8e157 0 = .ok (.iload_n 0, 1) := by decide +kernel
theorem dJ3_checkIndex_8e157_1 : decode cJ3_checkIndex_8e157 1 = .ok (.ifCond .lt 8, 3) := by decide +kernel
theorem dJ3_checkIndex_8e157_4 : decode cJ3_checkIndex_8e157 4 = .ok (.iload_n 0, 1) := by decide +kernel
theorem dJ3_checkIndex_8e157_5 : decode cJ3_checkIndex_8e157 5 = .ok (.iload_n 1, 1) := by decide +kernel
theorem dJ3_checkIndex_8e157_6 : decode cJ3_checkIndex_8e157 6 = .ok (.if_icmp .lt 10, 3) := by decide +kernel
theorem dJ3_checkIndex_8e157_9 : decode cJ3_checkIndex_8e157 9 = .ok (.aload_n 2, 1) := by decide +kernel
theorem dJ3_checkIndex_8e157_10 : decode cJ3_checkIndex_8e157 10 = .ok (.iload_n 0, 1) := by decide +kernel
theorem dJ3_checkIndex_8e157_11 : decode cJ3_checkIndex_8e157 11 = .ok (.iload_n 1, 1) := by decide +kernel
theorem dJ3_checkIndex_8e157_12 : decode cJ3_checkIndex_8e157 12 = .ok (.invokestatic 95, 3) := by decide +kernel
theorem dJ3_checkIndex_8e157_15 : decode cJ3_checkIndex_8e157 15 = .ok (.athrow, 1) := by decide +kernel
theorem dJ3_checkIndex_8e157_16 : decode cJ3_checkIndex_8e157 16 = .ok (.iload_n 0, 1) := by decide +kernel
theorem dJ3_checkIndex_8e157_17 : decode cJ3_checkIndex_8e157 17 = .ok (.ireturn, 1) := by decide +kernel
theorem dJ3_checkFromToIndex_8c36e_0 : decode cJ3_checkFromToIndex_8c36e 0 = .ok (.iload_n 0, 1) := by decide +kernel
theorem dJ3_checkFromToIndex_8c36e_1 : decode cJ3_checkFromToIndex_8c36e 1 = .ok (.ifCond .lt 13, 3) := by decide +kernel
theorem dJ3_checkFromToIndex_8c36e_4 : decode cJ3_checkFromToIndex_8c36e 4 = .ok (.iload_n 0, 1) := by decide +kernel
theorem dJ3_checkFromToIndex_8c36e_5 : decode cJ3_checkFromToIndex_8c36e 5 = .ok (.iload_n 1, 1) := by decide +kernel
theorem dJ3_checkFromToIndex_8c36e_6 : decode cJ3_checkFromToIndex_8c36e 6 = .ok (.if_icmp .gt 8, 3) := by decide +kernel
theorem dJ3_checkFromToIndex_8c36e_9 : decode cJ3_checkFromToIndex_8c36e 9 = .ok (.iload_n 1, 1) := by decide +kernel
theorem dJ3_checkFromToIndex_8c36e_10 : decode cJ3_checkFromToIndex_8c36e 10 = .ok (.iload_n 2, 1) := by decide +kernel
theorem dJ3_checkFromToIndex_8c36e_11 : decode cJ3_checkFromToIndex_8c36e 11 = .ok (.if_icmp .le 11, 3) := by decide +kernel
theorem dJ3_checkFromToIndex_8c36e_14 : decode cJ3_checkFromToIndex_8c36e 14 = .ok (.aload_n 3, 1) := by decide +kernel
theorem dJ3_checkFromToIndex_8c36e_15 : decode cJ3_checkFromToIndex_8c36e 15 = .ok (.iload_n 0, 1) := by decide +kernel
theorem dJ3_checkFromToIndex_8c36e_16 : decode cJ3_checkFromToIndex_8c36e 16 = .ok (.iload_n 1, 1) := by decide +kernel
theorem dJ3_checkFromToIndex_8c36e_17 : decode cJ3_checkFromToIndex_8c36e 17 = .ok (.iload_n 2, 1) := by decide +kernel
theorem dJ3_checkFromToIndex_8c36e_18 : decode cJ3_checkFromToIndex_8c36e 18 = .ok (.invokestatic 99, 3) := by decide +kernel
theorem dJ3_checkFromToIndex_8c36e_21 : decode cJ3_checkFromToIndex_8c36e 21 = .ok (.athrow, 1) := by decide +kernel
theorem dJ3_checkFromToIndex_8c36e_22 : decode cJ3_checkFromToIndex_8c36e 22 = .ok (.iload_n 0, 1) := by decide +kernel
theorem dJ3_checkFromToIndex_8c36e_23 : decode cJ3_checkFromToIndex_8c36e 23 = .ok (.ireturn, 1) := by decide +kernel
