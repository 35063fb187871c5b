theorem dX11_init_186 : decode cX11_init 186 = .ok (.iconst 0, 1) := by decide +kernel
theorem dX11_init_187 : decode cX11_init 187 = .ok (.istore_n 1, 1) := by decide +kernel
theorem dX11_init_188 : decode cX11_init 188 = .ok (.iload_n 1, 1) := by decide +kernel
theorem dX11_init_189 : decode cX11_init 189 = .ok (.aload_n 0, 1) := by decide +kernel
theorem dX11_init_190 : decode cX11_init 190 = .ok (.getfield 52, 3) := by decide +kernel
theorem dX11_init_193 : decode cX11_init 193 = .ok (.arraylength, 1) := by decide +kernel
theorem dX11_init_194 : decode cX11_init 194 = .ok (.if_icmp .ge 22, 3) := by decide +kernel
theorem dX11_init_197 : decode cX11_init 197 = .ok (.aload_n 0, 1) := by decide +kernel
theorem dX11_init_198 : decode cX11_init 198 = .ok (.getfield 52, 3) := by decide +kernel
theorem dX11_init_201 : decode cX11_init 201 = .ok (.iload_n 1, 1) := by decide +kernel
theorem dX11_init_202 : decode cX11_init 202 = .ok (.new 50, 3) := by decide +kernel
theorem dX11_init_205 : decode cX11_init 205 = .ok (.dup, 1) := by decide +kernel
theorem dX11_init_206 : decode cX11_init 206 = .ok (.invokespecial 107, 3) := by decide +kernel
theorem dX11_init_209 : decode cX11_init 209 = .ok (.aastore, 1) := by decide +kernel
theorem dX11_init_210 : decode cX11_init 210 = .ok (.iinc 1 1, 3) := by decide +kernel
theorem dX11_init_213 : decode cX11_init 213 = .ok (.goto (-25), 3) := by decide +kernel
theorem dX11_init_216 : decode cX11_init 216 = .ok (.iconst 0, 1) := by decide +kernel
theorem dX11_init_217 : decode cX11_init 217 = .ok (.istore_n 1, 1) := by decide +kernel
theorem dX11_init_218 : decode cX11_init 218 = .ok (.iload_n 1, 1) := by decide +kernel
theorem dX11_init_219 : decode cX11_init 219 = .ok (.aload_n 0, 1) := by decide +kernel
theorem dX11_init_220 : decode cX11_init 220 = .ok (.getfield 58, 3) := by decide +kernel
theorem dX11_init_223 : decode cX11_init 223 = .ok (.arraylength, 1) := by decide +kernel
theorem dX11_init_224 : decode cX11_init 224 = .ok (.if_icmp .ge 22, 3) := by decide +kernel
theorem dX11_init_227 : decode cX11_init 227 = .ok (.aload_n 0, 1) := by decide +kernel
theorem dX11_init_228 : decode cX11_init 228 = .ok (.getfield 58, 3) := by decide +kernel
theorem dX11_init_231 : decode cX11_init 231 = .ok (.iload_n 1, 1) := by decide +kernel
theorem dX11_init_232 : decode cX11_init 232 = .ok (.new 56, 3) := by decide +kernel
theorem dX11_init_235 : decode cX11_init 235 = .ok (.dup, 1) := by decide +kernel
theorem dX11_init_236 : decode cX11_init 236 = .ok (.invokespecial 108, 3) := by decide +kernel
theorem dX11_init_239 : decode cX11_init 239 = .ok (.aastore, 1) := by decide +kernel
theorem dX11_init_240 : decode cX11_init 240 = .ok (.iinc 1 1, 3) := by decide +kernel
theorem dX11_init_243 : decode cX11_init 243 = .ok (.goto (-25), 3) := by decide +kernel
theorem dX11_init_246 : decode cX11_init 246 = .ok (.return_, 1) := by decide +kernel
theorem dX11_feed_0 : decode cX11_feed 0 = .ok (.aload_n 0, 1) := by decide +kernel
theorem dX11_feed_1 : decode cX11_feed 1 = .ok (.getfield 13, 3) := by decide +kernel
theorem dX11_feed_4 : decode cX11_feed 4 = .ok (.bipush 20, 2) := by decide +kernel
theorem dX11_feed_6 : decode cX11_feed 6 = .ok (.iadd, 1) := by decide +kernel
theorem dX11_feed_7 : decode cX11_feed 7 = .ok (.sipush 900, 3) := by decide +kernel
theorem dX11_feed_10 : decode cX11_feed 10 = .ok (.if_icmp .le 6, 3) := by decide +kernel
theorem dX11_feed_13 : decode cX11_feed 13 = .ok (.bipush (-5), 2) := by decide +kernel
theorem dX11_feed_15 : decode cX11_feed 15 = .ok (.ireturn, 1) := by decide +kernel
theorem dX11_feed_16 : decode cX11_feed 16 = .ok (.aload_n 0, 1) := by decide +kernel
theorem dX11_feed_17 : decode cX11_feed 17 = .ok (.iload_n 1, 1) := by decide +kernel
theorem dX11_feed_18 : decode cX11_feed 18 = .ok (.invokevirtual 109, 3) := by decide +kernel
theorem dX11_feed_21 : decode cX11_feed 21 = .ok (.aload_n 0, 1) := by decide +kernel
theorem dX11_feed_22 : decode cX11_feed 22 = .ok (.iload_n 2, 1) := by decide +kernel
theorem dX11_feed_23 : decode cX11_feed 23 = .ok (.invokevirtual 109, 3) := by decide +kernel
theorem dX11_feed_26 : decode cX11_feed 26 = .ok (.aload_n 0, 1) := by decide +kernel
theorem dX11_feed_27 : decode cX11_feed 27 = .ok (.iload_n 3, 1) := by decide +kernel
theorem dX11_feed_28 : decode cX11_feed 28 = .ok (.invokevirtual 109, 3) := by decide +kernel
theorem dX11_feed_31 : decode cX11_feed 31 = .ok (.aload_n 0, 1) := by decide +kernel
theorem dX11_feed_32 : decode cX11_feed 32 = .ok (.iload 4, 2) := by decide +kernel
theorem dX11_feed_34 : decode cX11_feed 34 = .ok (.invokevirtual 109, 3) := by decide +kernel
theorem dX11_feed_37 : decode cX11_feed 37 = .ok (.aload_n 0, 1) := by decide +kernel
theorem dX11_feed_38 : decode cX11_feed 38 = .ok (.iload 5, 2) := by decide +kernel
theorem dX11_feed_40 : decode cX11_feed 40 = .ok (.invokevirtual 109, 3) := by decide +kernel
theorem dX11_feed_43 : decode cX11_feed 43 = .ok (.aload_n 0, 1) := by decide +kernel
theorem dX11_feed_44 : decode cX11_feed 44 = .ok (.getfield 13, 3) := by decide +kernel
theorem dX11_feed_47 : decode cX11_feed 47 = .ok (.ireturn, 1) := by decide +kernel
theorem dX11_putBytes_0 : decode cX11_putBytes 0 = .ok (.bipush 24, 2) := by decide +kernel
theorem dX11_putBytes_2 : decode cX11_putBytes 2 = .ok (.istore_n 2, 1) := by decide +kernel
theorem dX11_putBytes_3 : decode cX11_putBytes 3 = .ok (.iload_n 2, 1) := by decide +kernel
theorem dX11_putBytes_4 : decode cX11_putBytes 4 = .ok (.ifCond .lt 47, 3) := by decide +kernel
theorem dX11_putBytes_7 : decode cX11_putBytes 7 = .ok (.aload_n 0, 1) := by decide +kernel
theorem dX11_putBytes_8 : decode cX11_putBytes 8 = .ok (.getfield 13, 3) := by decide +kernel
theorem dX11_putBytes_11 : decode cX11_putBytes 11 = .ok (.aload_n 0, 1) := by decide +kernel
theorem dX11_putBytes_12 : decode cX11_putBytes 12 = .ok (.getfield 9, 3) := by decide +kernel
theorem dX11_putBytes_15 : decode cX11_putBytes 15 = .ok (.arraylength, 1) := by decide +kernel
theorem dX11_putBytes_16 : decode cX11_putBytes 16 = .ok (.if_icmp .ge 35, 3) := by decide +kernel
theorem dX11_putBytes_19 : decode cX11_putBytes 19 = .ok (.aload_n 0, 1) := by decide +kernel
theorem dX11_putBytes_20 : decode cX11_putBytes 20 = .ok (.getfield 9, 3) := by decide +kernel
theorem dX11_putBytes_23 : decode cX11_putBytes 23 = .ok (.aload_n 0, 1) := by decide +kernel
theorem dX11_putBytes_24 : decode cX11_putBytes 24 = .ok (.getfield 13, 3) := by decide +kernel
theorem dX11_putBytes_27 : decode cX11_putBytes 27 = .ok (.iload_n 1, 1) := by decide +kernel
theorem dX11_putBytes_28 : decode cX11_putBytes 28 = .ok (.iload_n 2, 1) := by decide +kernel
theorem dX11_putBytes_29 : decode cX11_putBytes 29 = .ok (.iushr, 1) := by decide +kernel
theorem dX11_putBytes_30 : decode cX11_putBytes 30 = .ok (.sipush 255, 3) := by decide +kernel
theorem dX11_putBytes_33 : decode cX11_putBytes 33 = .ok (.iand, 1) := by decide +kernel
theorem dX11_putBytes_34 : decode cX11_putBytes 34 = .ok (.iastore, 1) := by decide +kernel
theorem dX11_putBytes_35 : decode cX11_putBytes 35 = .ok (.aload_n 0, 1) := by decide +kernel
theorem dX11_putBytes_36 : decode cX11_putBytes 36 = .ok (.dup, 1) := by decide +kernel
theorem dX11_putBytes_37 : decode cX11_putBytes 37 = .ok (.getfield 13, 3) := by decide +kernel
theorem dX11_putBytes_40 : decode cX11_putBytes 40 = .ok (.iconst 1, 1) := by decide +kernel
theorem dX11_putBytes_41 : decode cX11_putBytes 41 = .ok (.iadd, 1) := by decide +kernel
theorem dX11_putBytes_42 : decode cX11_putBytes 42 = .ok (.putfield 13, 3) := by decide +kernel
theorem dX11_putBytes_45 : decode cX11_putBytes 45 = .ok (.iinc 2 (-8), 3) := by decide +kernel
theorem dX11_putBytes_48 : decode cX11_putBytes 48 = .ok (.goto (-45), 3) := by decide +kernel
theorem dX11_putBytes_51 : decode cX11_putBytes 51 = .ok (.return_, 1) := by decide +kernel
theorem dX11_shop_0 : decode cX11_shop 0 = .ok (.iload_n 1, 1) := by decide +kernel
theorem dX11_shop_1 : decode cX11_shop 1 = .ok (.ifCond .lt 11, 3) := by decide +kernel
theorem dX11_shop_4 : decode cX11_shop 4 = .ok (.iload_n 1, 1) := by decide +kernel
theorem dX11_shop_5 : decode cX11_shop 5 = .ok (.aload_n 0, 1) := by decide +kernel
theorem dX11_shop_6 : decode cX11_shop 6 = .ok (.getfield 13, 3) := by decide +kernel
theorem dX11_shop_9 : decode cX11_shop 9 = .ok (.if_icmp .le 6, 3) := by decide +kernel
theorem dX11_shop_12 : decode cX11_shop 12 = .ok (.bipush (-3), 2) := by decide +kernel
theorem dX11_shop_14 : decode cX11_shop 14 = .ok (.ireturn, 1) := by decide +kernel
theorem dX11_shop_15 : decode cX11_shop 15 = .ok (.aload_n 0, 1) := by decide +kernel
theorem dX11_shop_16 : decode cX11_shop 16 = .ok (.getfield 67, 3) := by decide +kernel
theorem dX11_shop_19 : decode cX11_shop 19 = .ok (.aload_n 0, 1) := by decide +kernel
theorem dX11_shop_20 : decode cX11_shop 20 = .ok (.getfield 9, 3) := by decide +kernel
theorem dX11_shop_23 : decode cX11_shop 23 = .ok (.iload_n 1, 1) := by decide +kernel
theorem dX11_shop_24 : decode cX11_shop 24 = .ok (.aload_n 0, 1) := by decide +kernel
theorem dX11_shop_25 : decode cX11_shop 25 = .ok (.getfield 30, 3) := by decide +kernel
theorem dX11_shop_28 : decode cX11_shop 28 = .ok (.aload_n 0, 1) := by decide +kernel
theorem dX11_shop_29 : decode cX11_shop 29 = .ok (.getfield 40, 3) := by decide +kernel
theorem dX11_shop_32 : decode cX11_shop 32 = .ok (.invokevirtual 113, 3) := by decide +kernel
theorem dX11_shop_35 : decode cX11_shop 35 = .ok (.aload_n 0, 1) := by decide +kernel
theorem dX11_shop_36 : decode cX11_shop 36 = .ok (.iconst 0, 1) := by decide +kernel
theorem dX11_shop_37 : decode cX11_shop 37 = .ok (.putfield 13, 3) := by decide +kernel
theorem dX11_shop_40 : decode cX11_shop 40 = .ok (.aload_n 0, 1) := by decide +kernel
theorem dX11_shop_41 : decode cX11_shop 41 = .ok (.aload_n 0, 1) := by decide +kernel
theorem dX11_shop_42 : decode cX11_shop 42 = .ok (.getfield 67, 3) := by decide +kernel
theorem dX11_shop_45 : decode cX11_shop 45 = .ok (.getfield 117, 3) := by decide +kernel
theorem dX11_shop_48 : decode cX11_shop 48 = .ok (.putfield 17, 3) := by decide +kernel
theorem dX11_shop_51 : decode cX11_shop 51 = .ok (.aload_n 0, 1) := by decide +kernel
theorem dX11_shop_52 : decode cX11_shop 52 = .ok (.aload_n 0, 1) := by decide +kernel
theorem dX11_shop_53 : decode cX11_shop 53 = .ok (.getfield 67, 3) := by decide +kernel
theorem dX11_shop_56 : decode cX11_shop 56 = .ok (.getfield 120, 3) := by decide +kernel
theorem dX11_shop_59 : decode cX11_shop 59 = .ok (.putfield 20, 3) := by decide +kernel
theorem dX11_shop_62 : decode cX11_shop 62 = .ok (.aload_n 0, 1) := by decide +kernel
theorem dX11_shop_63 : decode cX11_shop 63 = .ok (.getfield 17, 3) := by decide +kernel
theorem dX11_shop_66 : decode cX11_shop 66 = .ok (.ifCond .eq 11, 3) := by decide +kernel
theorem dX11_shop_69 : decode cX11_shop 69 = .ok (.bipush (-30), 2) := by decide +kernel
theorem dX11_shop_71 : decode cX11_shop 71 = .ok (.aload_n 0, 1) := by decide +kernel
theorem dX11_shop_72 : decode cX11_shop 72 = .ok (.getfield 17, 3) := by decide +kernel
theorem dX11_shop_75 : decode cX11_shop 75 = .ok (.isub, 1) := by decide +kernel
theorem dX11_shop_76 : decode cX11_shop 76 = .ok (.ireturn, 1) := by decide +kernel
theorem dX11_shop_77 : decode cX11_shop 77 = .ok (.aload_n 0, 1) := by decide +kernel
theorem dX11_shop_78 : decode cX11_shop 78 = .ok (.getfield 26, 3) := by decide +kernel
theorem dX11_shop_81 : decode cX11_shop 81 = .ok (.astore_n 2, 1) := by decide +kernel
theorem dX11_shop_82 : decode cX11_shop 82 = .ok (.aload_n 0, 1) := by decide +kernel
theorem dX11_shop_83 : decode cX11_shop 83 = .ok (.aload_n 0, 1) := by decide +kernel
theorem dX11_shop_84 : decode cX11_shop 84 = .ok (.getfield 30, 3) := by decide +kernel
theorem dX11_shop_87 : decode cX11_shop 87 = .ok (.putfield 26, 3) := by decide +kernel
theorem dX11_shop_90 : decode cX11_shop 90 = .ok (.aload_n 0, 1) := by decide +kernel
theorem dX11_shop_91 : decode cX11_shop 91 = .ok (.aload_n 2, 1) := by decide +kernel
theorem dX11_shop_92 : decode cX11_shop 92 = .ok (.putfield 30, 3) := by decide +kernel
theorem dX11_shop_95 : decode cX11_shop 95 = .ok (.aload_n 0, 1) := by decide +kernel
theorem dX11_shop_96 : decode cX11_shop 96 = .ok (.getfield 40, 3) := by decide +kernel
theorem dX11_shop_99 : decode cX11_shop 99 = .ok (.aload_n 0, 1) := by decide +kernel
theorem dX11_shop_100 : decode cX11_shop 100 = .ok (.getfield 36, 3) := by decide +kernel
theorem dX11_shop_103 : decode cX11_shop 103 = .ok (.getfield 121, 3) := by decide +kernel
theorem dX11_shop_106 : decode cX11_shop 106 = .ok (.putfield 121, 3) := by decide +kernel
theorem dX11_shop_109 : decode cX11_shop 109 = .ok (.aload_n 0, 1) := by decide +kernel
theorem dX11_shop_110 : decode cX11_shop 110 = .ok (.getfield 36, 3) := by decide +kernel
theorem dX11_shop_113 : decode cX11_shop 113 = .ok (.aload_n 0, 1) := by decide +kernel
theorem dX11_shop_114 : decode cX11_shop 114 = .ok (.getfield 40, 3) := by decide +kernel
theorem dX11_shop_117 : decode cX11_shop 117 = .ok (.invokevirtual 124, 3) := by decide +kernel
theorem dX11_shop_120 : decode cX11_shop 120 = .ok (.aload_n 0, 1) := by decide +kernel
theorem dX11_shop_121 : decode cX11_shop 121 = .ok (.invokevirtual 128, 3) := by decide +kernel
theorem dX11_shop_124 : decode cX11_shop 124 = .ok (.aload_n 0, 1) := by decide +kernel
theorem dX11_shop_125 : decode cX11_shop 125 = .ok (.getfield 26, 3) := by decide +kernel
theorem dX11_shop_128 : decode cX11_shop 128 = .ok (.getfield 131, 3) := by decide +kernel
theorem dX11_shop_131 : decode cX11_shop 131 = .ok (.ireturn, 1) := by decide +kernel
theorem dX11_beginAnew_0 : decode cX11_beginAnew 0 = .ok (.aload_n 0, 1) := by decide +kernel
theorem dX11_beginAnew_1 : decode cX11_beginAnew 1 = .ok (.getfield 46, 3) := by decide +kernel
theorem dX11_beginAnew_4 : decode cX11_beginAnew 4 = .ok (.invokevirtual 134, 3) := by decide +kernel
theorem dX11_beginAnew_7 : decode cX11_beginAnew 7 = .ok (.aload_n 0, 1) := by decide +kernel
theorem dX11_beginAnew_8 : decode cX11_beginAnew 8 = .ok (.getfield 76, 3) := by decide +kernel
theorem dX11_beginAnew_11 : decode cX11_beginAnew 11 = .ok (.invokevirtual 137, 3) := by decide +kernel
theorem dX11_beginAnew_14 : decode cX11_beginAnew 14 = .ok (.return_, 1) := by decide +kernel
theorem dX11_fault_0 : decode cX11_fault 0 = .ok (.iload_n 1, 1) := by decide +kernel
theorem dX11_fault_1 : decode cX11_fault 1 = .ok (.ifCond .ne 8, 3) := by decide +kernel
theorem dX11_fault_4 : decode cX11_fault 4 = .ok (.aload_n 0, 1) := by decide +kernel
theorem dX11_fault_5 : decode cX11_fault 5 = .ok (.getfield 17, 3) := by decide +kernel
theorem dX11_fault_8 : decode cX11_fault 8 = .ok (.ireturn, 1) := by decide +kernel
theorem dX11_fault_9 : decode cX11_fault 9 = .ok (.iload_n 1, 1) := by decide +kernel
theorem dX11_fault_10 : decode cX11_fault 10 = .ok (.iconst 1, 1) := by decide +kernel
theorem dX11_fault_11 : decode cX11_fault 11 = .ok (.if_icmp .ne 10, 3) := by decide +kernel
theorem dX11_fault_14 : decode cX11_fault 14 = .ok (.aload_n 0, 1) := by decide +kernel
theorem dX11_fault_15 : decode cX11_fault 15 = .ok (.getfield 20, 3) := by decide +kernel
theorem dX11_fault_18 : decode cX11_fault 18 = .ok (.goto 4, 3) := by decide +kernel
theorem dX11_fault_21 : decode cX11_fault 21 = .ok (.iconst (-1), 1) := by decide +kernel
theorem dX11_fault_22 : decode cX11_fault 22 = .ok (.ireturn, 1) := by decide +kernel
theorem dX11_kind_0 : decode cX11_kind 0 = .ok (.aload_n 0, 1) := by decide +kernel
theorem dX11_kind_1 : decode cX11_kind 1 = .ok (.iload_n 1, 1) := by decide +kernel
theorem dX11_kind_2 : decode cX11_kind 2 = .ok (.invokevirtual 140, 3) := by decide +kernel
theorem dX11_kind_5 : decode cX11_kind 5 = .ok (.ifCond .ne 6, 3) := by decide +kernel
theorem dX11_kind_8 : decode cX11_kind 8 = .ok (.bipush (-2), 2) := by decide +kernel
theorem dX11_kind_10 : decode cX11_kind 10 = .ok (.ireturn, 1) := by decide +kernel
theorem dX11_kind_11 : decode cX11_kind 11 = .ok (.iload_n 2, 1) := by decide +kernel
theorem dX11_kind_12 : decode cX11_kind 12 = .ok (.tableswitch 86 0 4 #[36, 46, 56, 68, 80], 36) := by decide +kernel
theorem dX11_kind_48 : decode cX11_kind 48 = .ok (.aload_n 0, 1) := by decide +kernel
theorem dX11_kind_49 : decode cX11_kind 49 = .ok (.getfield 36, 3) := by decide +kernel
theorem dX11_kind_52 : decode cX11_kind 52 = .ok (.getfield 144, 3) := by decide +kernel
theorem dX11_kind_55 : decode cX11_kind 55 = .ok (.iload_n 1, 1) := by decide +kernel
theorem dX11_kind_56 : decode cX11_kind 56 = .ok (.iaload, 1) := by decide +kernel
theorem dX11_kind_57 : decode cX11_kind 57 = .ok (.ireturn, 1) := by decide +kernel
theorem dX11_kind_58 : decode cX11_kind 58 = .ok (.aload_n 0, 1) := by decide +kernel
theorem dX11_kind_59 : decode cX11_kind 59 = .ok (.getfield 36, 3) := by decide +kernel
theorem dX11_kind_62 : decode cX11_kind 62 = .ok (.getfield 147, 3) := by decide +kernel
theorem dX11_kind_65 : decode cX11_kind 65 = .ok (.iload_n 1, 1) := by decide +kernel
theorem dX11_kind_66 : decode cX11_kind 66 = .ok (.iaload, 1) := by decide +kernel
theorem dX11_kind_67 : decode cX11_kind 67 = .ok (.ireturn, 1) := by decide +kernel
theorem dX11_kind_68 : decode cX11_kind 68 = .ok (.aload_n 0, 1) := by decide +kernel
theorem dX11_kind_69 : decode cX11_kind 69 = .ok (.getfield 36, 3) := by decide +kernel
theorem dX11_kind_72 : decode cX11_kind 72 = .ok (.getfield 150, 3) := by decide +kernel
theorem dX11_kind_75 : decode cX11_kind 75 = .ok (.iload_n 1, 1) := by decide +kernel
theorem dX11_kind_76 : decode cX11_kind 76 = .ok (.ishr, 1) := by decide +kernel
theorem dX11_kind_77 : decode cX11_kind 77 = .ok (.iconst 1, 1) := by decide +kernel
theorem dX11_kind_78 : decode cX11_kind 78 = .ok (.iand, 1) := by decide +kernel
theorem dX11_kind_79 : decode cX11_kind 79 = .ok (.ireturn, 1) := by decide +kernel
theorem dX11_kind_80 : decode cX11_kind 80 = .ok (.aload_n 0, 1) := by decide +kernel
theorem dX11_kind_81 : decode cX11_kind 81 = .ok (.getfield 36, 3) := by decide +kernel
theorem dX11_kind_84 : decode cX11_kind 84 = .ok (.getfield 153, 3) := by decide +kernel
theorem dX11_kind_87 : decode cX11_kind 87 = .ok (.iload_n 1, 1) := by decide +kernel
theorem dX11_kind_88 : decode cX11_kind 88 = .ok (.ishr, 1) := by decide +kernel
theorem dX11_kind_89 : decode cX11_kind 89 = .ok (.iconst 1, 1) := by decide +kernel
theorem dX11_kind_90 : decode cX11_kind 90 = .ok (.iand, 1) := by decide +kernel
theorem dX11_kind_91 : decode cX11_kind 91 = .ok (.ireturn, 1) := by decide +kernel
theorem dX11_kind_92 : decode cX11_kind 92 = .ok (.aload_n 0, 1) := by decide +kernel
theorem dX11_kind_93 : decode cX11_kind 93 = .ok (.iload_n 1, 1) := by decide +kernel
theorem dX11_kind_94 : decode cX11_kind 94 = .ok (.invokevirtual 156, 3) := by decide +kernel
theorem dX11_kind_97 : decode cX11_kind 97 = .ok (.ireturn, 1) := by decide +kernel
theorem dX11_kind_98 : decode cX11_kind 98 = .ok (.bipush (-2), 2) := by decide +kernel
theorem dX11_kind_100 : decode cX11_kind 100 = .ok (.ireturn, 1) := by decide +kernel
theorem dX11_isKind_0 : decode cX11_isKind 0 = .ok (.iload_n 1, 1) := by decide +kernel
theorem dX11_isKind_1 : decode cX11_isKind 1 = .ok (.ifCond .lt 18, 3) := by decide +kernel
theorem dX11_isKind_4 : decode cX11_isKind 4 = .ok (.iload_n 1, 1) := by decide +kernel
theorem dX11_isKind_5 : decode cX11_isKind 5 = .ok (.aload_n 0, 1) := by decide +kernel
theorem dX11_isKind_6 : decode cX11_isKind 6 = .ok (.getfield 36, 3) := by decide +kernel
theorem dX11_isKind_9 : decode cX11_isKind 9 = .ok (.getfield 160, 3) := by decide +kernel
theorem dX11_isKind_12 : decode cX11_isKind 12 = .ok (.if_icmp .ge 7, 3) := by decide +kernel
theorem dX11_isKind_15 : decode cX11_isKind 15 = .ok (.iconst 1, 1) := by decide +kernel
theorem dX11_isKind_16 : decode cX11_isKind 16 = .ok (.goto 4, 3) := by decide +kernel
theorem dX11_isKind_19 : decode cX11_isKind 19 = .ok (.iconst 0, 1) := by decide +kernel
theorem dX11_isKind_20 : decode cX11_isKind 20 = .ok (.ireturn, 1) := by decide +kernel
theorem dX11_isBuyer_0 : decode cX11_isBuyer 0 = .ok (.iload_n 1, 1) := by decide +kernel
theorem dX11_isBuyer_1 : decode cX11_isBuyer 1 = .ok (.ifCond .lt 18, 3) := by decide +kernel
theorem dX11_isBuyer_4 : decode cX11_isBuyer 4 = .ok (.iload_n 1, 1) := by decide +kernel
theorem dX11_isBuyer_5 : decode cX11_isBuyer 5 = .ok (.aload_n 0, 1) := by decide +kernel
theorem dX11_isBuyer_6 : decode cX11_isBuyer 6 = .ok (.getfield 26, 3) := by decide +kernel
theorem dX11_isBuyer_9 : decode cX11_isBuyer 9 = .ok (.getfield 163, 3) := by decide +kernel
theorem dX11_isBuyer_12 : decode cX11_isBuyer 12 = .ok (.if_icmp .ge 7, 3) := by decide +kernel
theorem dX11_isBuyer_15 : decode cX11_isBuyer 15 = .ok (.iconst 1, 1) := by decide +kernel
theorem dX11_isBuyer_16 : decode cX11_isBuyer 16 = .ok (.goto 4, 3) := by decide +kernel
theorem dX11_isBuyer_19 : decode cX11_isBuyer 19 = .ok (.iconst 0, 1) := by decide +kernel
theorem dX11_isBuyer_20 : decode cX11_isBuyer 20 = .ok (.ireturn, 1) := by decide +kernel
theorem dX11_takersOf_0 : decode cX11_takersOf 0 = .ok (.aload_n 0, 1) := by decide +kernel
theorem dX11_takersOf_1 : decode cX11_takersOf 1 = .ok (.getfield 76, 3) := by decide +kernel
theorem dX11_takersOf_4 : decode cX11_takersOf 4 = .ok (.aload_n 0, 1) := by decide +kernel
theorem dX11_takersOf_5 : decode cX11_takersOf 5 = .ok (.getfield 26, 3) := by decide +kernel
theorem dX11_takersOf_8 : decode cX11_takersOf 8 = .ok (.aload_n 0, 1) := by decide +kernel
theorem dX11_takersOf_9 : decode cX11_takersOf 9 = .ok (.getfield 36, 3) := by decide +kernel
theorem dX11_takersOf_12 : decode cX11_takersOf 12 = .ok (.invokevirtual 166, 3) := by decide +kernel
theorem dX11_takersOf_15 : decode cX11_takersOf 15 = .ok (.iconst 0, 1) := by decide +kernel
theorem dX11_takersOf_16 : decode cX11_takersOf 16 = .ok (.istore_n 2, 1) := by decide +kernel
theorem dX11_takersOf_17 : decode cX11_takersOf 17 = .ok (.iconst 0, 1) := by decide +kernel
theorem dX11_takersOf_18 : decode cX11_takersOf 18 = .ok (.istore_n 3, 1) := by decide +kernel
theorem dX11_takersOf_19 : decode cX11_takersOf 19 = .ok (.iload_n 3, 1) := by decide +kernel
theorem dX11_takersOf_20 : decode cX11_takersOf 20 = .ok (.aload_n 0, 1) := by decide +kernel
theorem dX11_takersOf_21 : decode cX11_takersOf 21 = .ok (.getfield 26, 3) := by decide +kernel
theorem dX11_takersOf_24 : decode cX11_takersOf 24 = .ok (.getfield 163, 3) := by decide +kernel
theorem dX11_takersOf_27 : decode cX11_takersOf 27 = .ok (.if_icmp .ge 41, 3) := by decide +kernel
theorem dX11_takersOf_30 : decode cX11_takersOf 30 = .ok (.aload_n 0, 1) := by decide +kernel
theorem dX11_takersOf_31 : decode cX11_takersOf 31 = .ok (.getfield 76, 3) := by decide +kernel
theorem dX11_takersOf_34 : decode cX11_takersOf 34 = .ok (.iload_n 3, 1) := by decide +kernel
theorem dX11_takersOf_35 : decode cX11_takersOf 35 = .ok (.aload_n 0, 1) := by decide +kernel
theorem dX11_takersOf_36 : decode cX11_takersOf 36 = .ok (.getfield 36, 3) := by decide +kernel
theorem dX11_takersOf_39 : decode cX11_takersOf 39 = .ok (.getfield 150, 3) := by decide +kernel
theorem dX11_takersOf_42 : decode cX11_takersOf 42 = .ok (.aload_n 0, 1) := by decide +kernel
theorem dX11_takersOf_43 : decode cX11_takersOf 43 = .ok (.getfield 36, 3) := by decide +kernel
theorem dX11_takersOf_46 : decode cX11_takersOf 46 = .ok (.getfield 153, 3) := by decide +kernel
theorem dX11_takersOf_49 : decode cX11_takersOf 49 = .ok (.invokevirtual 169, 3) := by decide +kernel
theorem dX11_takersOf_52 : decode cX11_takersOf 52 = .ok (.iload_n 1, 1) := by decide +kernel
theorem dX11_takersOf_53 : decode cX11_takersOf 53 = .ok (.if_icmp .ne 9, 3) := by decide +kernel
theorem dX11_takersOf_56 : decode cX11_takersOf 56 = .ok (.iload_n 2, 1) := by decide +kernel
theorem dX11_takersOf_57 : decode cX11_takersOf 57 = .ok (.iconst 1, 1) := by decide +kernel
theorem dX11_takersOf_58 : decode cX11_takersOf 58 = .ok (.iload_n 3, 1) := by decide +kernel
theorem dX11_takersOf_59 : decode cX11_takersOf 59 = .ok (.ishl, 1) := by decide +kernel
theorem dX11_takersOf_60 : decode cX11_takersOf 60 = .ok (.ior, 1) := by decide +kernel
theorem dX11_takersOf_61 : decode cX11_takersOf 61 = .ok (.istore_n 2, 1) := by decide +kernel
theorem dX11_takersOf_62 : decode cX11_takersOf 62 = .ok (.iinc 3 1, 3) := by decide +kernel
theorem dX11_takersOf_65 : decode cX11_takersOf 65 = .ok (.goto (-46), 3) := by decide +kernel
theorem dX11_takersOf_68 : decode cX11_takersOf 68 = .ok (.iload_n 2, 1) := by decide +kernel
theorem dX11_takersOf_69 : decode cX11_takersOf 69 = .ok (.ireturn, 1) := by decide +kernel
theorem dX11_buyer_0 : decode cX11_buyer 0 = .ok (.aload_n 0, 1) := by decide +kernel
theorem dX11_buyer_1 : decode cX11_buyer 1 = .ok (.iload_n 1, 1) := by decide +kernel
theorem dX11_buyer_2 : decode cX11_buyer 2 = .ok (.invokevirtual 173, 3) := by decide +kernel
theorem dX11_buyer_5 : decode cX11_buyer 5 = .ok (.ifCond .ne 6, 3) := by decide +kernel
theorem dX11_buyer_8 : decode cX11_buyer 8 = .ok (.bipush (-2), 2) := by decide +kernel
theorem dX11_buyer_10 : decode cX11_buyer 10 = .ok (.ireturn, 1) := by decide +kernel
theorem dX11_buyer_11 : decode cX11_buyer 11 = .ok (.aload_n 0, 1) := by decide +kernel
theorem dX11_buyer_12 : decode cX11_buyer 12 = .ok (.getfield 76, 3) := by decide +kernel
theorem dX11_buyer_15 : decode cX11_buyer 15 = .ok (.aload_n 0, 1) := by decide +kernel
theorem dX11_buyer_16 : decode cX11_buyer 16 = .ok (.getfield 26, 3) := by decide +kernel
theorem dX11_buyer_19 : decode cX11_buyer 19 = .ok (.aload_n 0, 1) := by decide +kernel
theorem dX11_buyer_20 : decode cX11_buyer 20 = .ok (.getfield 36, 3) := by decide +kernel
theorem dX11_buyer_23 : decode cX11_buyer 23 = .ok (.invokevirtual 166, 3) := by decide +kernel
theorem dX11_buyer_26 : decode cX11_buyer 26 = .ok (.iload_n 2, 1) := by decide +kernel
theorem dX11_buyer_27 : decode cX11_buyer 27 = .ok (.tableswitch 109 0 4 #[33, 43, 53, 63, 86], 33) := by decide +kernel
theorem dX11_buyer_60 : decode cX11_buyer 60 = .ok (.aload_n 0, 1) := by decide +kernel
theorem dX11_buyer_61 : decode cX11_buyer 61 = .ok (.getfield 26, 3) := by decide +kernel
theorem dX11_buyer_64 : decode cX11_buyer 64 = .ok (.getfield 176, 3) := by decide +kernel
theorem dX11_buyer_67 : decode cX11_buyer 67 = .ok (.iload_n 1, 1) := by decide +kernel
theorem dX11_buyer_68 : decode cX11_buyer 68 = .ok (.iaload, 1) := by decide +kernel
theorem dX11_buyer_69 : decode cX11_buyer 69 = .ok (.ireturn, 1) := by decide +kernel
theorem dX11_buyer_70 : decode cX11_buyer 70 = .ok (.aload_n 0, 1) := by decide +kernel
theorem dX11_buyer_71 : decode cX11_buyer 71 = .ok (.getfield 26, 3) := by decide +kernel
theorem dX11_buyer_74 : decode cX11_buyer 74 = .ok (.getfield 179, 3) := by decide +kernel
theorem dX11_buyer_77 : decode cX11_buyer 77 = .ok (.iload_n 1, 1) := by decide +kernel
theorem dX11_buyer_78 : decode cX11_buyer 78 = .ok (.iaload, 1) := by decide +kernel
theorem dX11_buyer_79 : decode cX11_buyer 79 = .ok (.ireturn, 1) := by decide +kernel
theorem dX11_buyer_80 : decode cX11_buyer 80 = .ok (.aload_n 0, 1) := by decide +kernel
theorem dX11_buyer_81 : decode cX11_buyer 81 = .ok (.getfield 26, 3) := by decide +kernel
theorem dX11_buyer_84 : decode cX11_buyer 84 = .ok (.getfield 182, 3) := by decide +kernel
theorem dX11_buyer_87 : decode cX11_buyer 87 = .ok (.iload_n 1, 1) := by decide +kernel
theorem dX11_buyer_88 : decode cX11_buyer 88 = .ok (.iaload, 1) := by decide +kernel
theorem dX11_buyer_89 : decode cX11_buyer 89 = .ok (.ireturn, 1) := by decide +kernel
theorem dX11_buyer_90 : decode cX11_buyer 90 = .ok (.aload_n 0, 1) := by decide +kernel
theorem dX11_buyer_91 : decode cX11_buyer 91 = .ok (.getfield 76, 3) := by decide +kernel
theorem dX11_buyer_94 : decode cX11_buyer 94 = .ok (.iload_n 1, 1) := by decide +kernel
theorem dX11_buyer_95 : decode cX11_buyer 95 = .ok (.aload_n 0, 1) := by decide +kernel
theorem dX11_buyer_96 : decode cX11_buyer 96 = .ok (.getfield 36, 3) := by decide +kernel
theorem dX11_buyer_99 : decode cX11_buyer 99 = .ok (.getfield 150, 3) := by decide +kernel
theorem dX11_buyer_102 : decode cX11_buyer 102 = .ok (.aload_n 0, 1) := by decide +kernel
theorem dX11_buyer_103 : decode cX11_buyer 103 = .ok (.getfield 36, 3) := by decide +kernel
theorem dX11_buyer_106 : decode cX11_buyer 106 = .ok (.getfield 153, 3) := by decide +kernel
theorem dX11_buyer_109 : decode cX11_buyer 109 = .ok (.invokevirtual 185, 3) := by decide +kernel
theorem dX11_buyer_112 : decode cX11_buyer 112 = .ok (.ireturn, 1) := by decide +kernel
theorem dX11_buyer_113 : decode cX11_buyer 113 = .ok (.aload_n 0, 1) := by decide +kernel
theorem dX11_buyer_114 : decode cX11_buyer 114 = .ok (.getfield 76, 3) := by decide +kernel
theorem dX11_buyer_117 : decode cX11_buyer 117 = .ok (.iload_n 1, 1) := by decide +kernel
theorem dX11_buyer_118 : decode cX11_buyer 118 = .ok (.aload_n 0, 1) := by decide +kernel
theorem dX11_buyer_119 : decode cX11_buyer 119 = .ok (.getfield 36, 3) := by decide +kernel
theorem dX11_buyer_122 : decode cX11_buyer 122 = .ok (.getfield 150, 3) := by decide +kernel
theorem dX11_buyer_125 : decode cX11_buyer 125 = .ok (.aload_n 0, 1) := by decide +kernel
theorem dX11_buyer_126 : decode cX11_buyer 126 = .ok (.getfield 36, 3) := by decide +kernel
theorem dX11_buyer_129 : decode cX11_buyer 129 = .ok (.getfield 153, 3) := by decide +kernel
theorem dX11_buyer_132 : decode cX11_buyer 132 = .ok (.invokevirtual 169, 3) := by decide +kernel
theorem dX11_buyer_135 : decode cX11_buyer 135 = .ok (.ireturn, 1) := by decide +kernel
theorem dX11_buyer_136 : decode cX11_buyer 136 = .ok (.bipush (-2), 2) := by decide +kernel
theorem dX11_buyer_138 : decode cX11_buyer 138 = .ok (.ireturn, 1) := by decide +kernel
theorem dX11_wants_0 : decode cX11_wants 0 = .ok (.aload_n 0, 1) := by decide +kernel
theorem dX11_wants_1 : decode cX11_wants 1 = .ok (.iload_n 1, 1) := by decide +kernel
theorem dX11_wants_2 : decode cX11_wants 2 = .ok (.invokevirtual 173, 3) := by decide +kernel
theorem dX11_wants_5 : decode cX11_wants 5 = .ok (.ifCond .eq 11, 3) := by decide +kernel
theorem dX11_wants_8 : decode cX11_wants 8 = .ok (.aload_n 0, 1) := by decide +kernel
theorem dX11_wants_9 : decode cX11_wants 9 = .ok (.iload_n 2, 1) := by decide +kernel
theorem dX11_wants_10 : decode cX11_wants 10 = .ok (.invokevirtual 140, 3) := by decide +kernel
theorem dX11_wants_13 : decode cX11_wants 13 = .ok (.ifCond .ne 6, 3) := by decide +kernel
theorem dX11_wants_16 : decode cX11_wants 16 = .ok (.ldc 188, 2) := by decide +kernel
theorem dX11_wants_18 : decode cX11_wants 18 = .ok (.ireturn, 1) := by decide +kernel
theorem dX11_wants_19 : decode cX11_wants 19 = .ok (.aload_n 0, 1) := by decide +kernel
theorem dX11_wants_20 : decode cX11_wants 20 = .ok (.getfield 76, 3) := by decide +kernel
theorem dX11_wants_23 : decode cX11_wants 23 = .ok (.aload_n 0, 1) := by decide +kernel
theorem dX11_wants_24 : decode cX11_wants 24 = .ok (.getfield 26, 3) := by decide +kernel
theorem dX11_wants_27 : decode cX11_wants 27 = .ok (.aload_n 0, 1) := by decide +kernel
theorem dX11_wants_28 : decode cX11_wants 28 = .ok (.getfield 36, 3) := by decide +kernel
theorem dX11_wants_31 : decode cX11_wants 31 = .ok (.invokevirtual 166, 3) := by decide +kernel
theorem dX11_wants_34 : decode cX11_wants 34 = .ok (.aload_n 0, 1) := by decide +kernel
theorem dX11_wants_35 : decode cX11_wants 35 = .ok (.getfield 76, 3) := by decide +kernel
theorem dX11_wants_38 : decode cX11_wants 38 = .ok (.iload_n 1, 1) := by decide +kernel
theorem dX11_wants_39 : decode cX11_wants 39 = .ok (.iload_n 2, 1) := by decide +kernel
theorem dX11_wants_40 : decode cX11_wants 40 = .ok (.aload_n 0, 1) := by decide +kernel
theorem dX11_wants_41 : decode cX11_wants 41 = .ok (.getfield 36, 3) := by decide +kernel
theorem dX11_wants_44 : decode cX11_wants 44 = .ok (.getfield 150, 3) := by decide +kernel
theorem dX11_wants_47 : decode cX11_wants 47 = .ok (.invokevirtual 189, 3) := by decide +kernel
theorem dX11_wants_50 : decode cX11_wants 50 = .ok (.ireturn, 1) := by decide +kernel
theorem dX11_seed_0 : decode cX11_seed 0 = .ok (.aload_n 0, 1) := by decide +kernel
theorem dX11_seed_1 : decode cX11_seed 1 = .ok (.getfield 46, 3) := by decide +kernel
theorem dX11_seed_4 : decode cX11_seed 4 = .ok (.aload_n 0, 1) := by decide +kernel
theorem dX11_seed_5 : decode cX11_seed 5 = .ok (.getfield 36, 3) := by decide +kernel
theorem dX11_seed_8 : decode cX11_seed 8 = .ok (.invokevirtual 192, 3) := by decide +kernel
theorem dX11_seed_11 : decode cX11_seed 11 = .ok (.aload_n 0, 1) := by decide +kernel
theorem dX11_seed_12 : decode cX11_seed 12 = .ok (.getfield 36, 3) := by decide +kernel
theorem dX11_seed_15 : decode cX11_seed 15 = .ok (.getfield 195, 3) := by decide +kernel
theorem dX11_seed_18 : decode cX11_seed 18 = .ok (.istore_n 2, 1) := by decide +kernel
theorem dX11_seed_19 : decode cX11_seed 19 = .ok (.aload_n 0, 1) := by decide +kernel
theorem dX11_seed_20 : decode cX11_seed 20 = .ok (.getfield 36, 3) := by decide +kernel
theorem dX11_seed_23 : decode cX11_seed 23 = .ok (.iload_n 1, 1) := by decide +kernel
theorem dX11_seed_24 : decode cX11_seed 24 = .ok (.putfield 195, 3) := by decide +kernel
theorem dX11_seed_27 : decode cX11_seed 27 = .ok (.iload_n 2, 1) := by decide +kernel
theorem dX11_seed_28 : decode cX11_seed 28 = .ok (.ireturn, 1) := by decide +kernel
theorem dX11_visit_0 : decode cX11_visit 0 = .ok (.aload_n 0, 1) := by decide +kernel
theorem dX11_visit_1 : decode cX11_visit 1 = .ok (.getfield 40, 3) := by decide +kernel
theorem dX11_visit_4 : decode cX11_visit 4 = .ok (.aload_n 0, 1) := by decide +kernel
theorem dX11_visit_5 : decode cX11_visit 5 = .ok (.getfield 36, 3) := by decide +kernel
theorem dX11_visit_8 : decode cX11_visit 8 = .ok (.invokevirtual 124, 3) := by decide +kernel
theorem dX11_visit_11 : decode cX11_visit 11 = .ok (.aload_n 0, 1) := by decide +kernel
theorem dX11_visit_12 : decode cX11_visit 12 = .ok (.aload_n 0, 1) := by decide +kernel
theorem dX11_visit_13 : decode cX11_visit 13 = .ok (.getfield 85, 3) := by decide +kernel
theorem dX11_visit_16 : decode cX11_visit 16 = .ok (.aload_n 0, 1) := by decide +kernel
theorem dX11_visit_17 : decode cX11_visit 17 = .ok (.getfield 26, 3) := by decide +kernel
theorem dX11_visit_20 : decode cX11_visit 20 = .ok (.aload_n 0, 1) := by decide +kernel
theorem dX11_visit_21 : decode cX11_visit 21 = .ok (.getfield 36, 3) := by decide +kernel
theorem dX11_visit_24 : decode cX11_visit 24 = .ok (.iload_n 1, 1) := by decide +kernel
theorem dX11_visit_25 : decode cX11_visit 25 = .ok (.invokevirtual 198, 3) := by decide +kernel
theorem dX11_visit_28 : decode cX11_visit 28 = .ok (.invokevirtual 202, 3) := by decide +kernel
theorem dX11_visit_31 : decode cX11_visit 31 = .ok (.ireturn, 1) := by decide +kernel
theorem dX11_gift_0 : decode cX11_gift 0 = .ok (.aload_n 0, 1) := by decide +kernel
theorem dX11_gift_1 : decode cX11_gift 1 = .ok (.getfield 40, 3) := by decide +kernel
theorem dX11_gift_4 : decode cX11_gift 4 = .ok (.aload_n 0, 1) := by decide +kernel
theorem dX11_gift_5 : decode cX11_gift 5 = .ok (.getfield 36, 3) := by decide +kernel
theorem dX11_gift_8 : decode cX11_gift 8 = .ok (.invokevirtual 124, 3) := by decide +kernel
theorem dX11_gift_11 : decode cX11_gift 11 = .ok (.aload_n 0, 1) := by decide +kernel
theorem dX11_gift_12 : decode cX11_gift 12 = .ok (.aload_n 0, 1) := by decide +kernel
theorem dX11_gift_13 : decode cX11_gift 13 = .ok (.getfield 85, 3) := by decide +kernel
theorem dX11_gift_16 : decode cX11_gift 16 = .ok (.aload_n 0, 1) := by decide +kernel
theorem dX11_gift_17 : decode cX11_gift 17 = .ok (.getfield 36, 3) := by decide +kernel
theorem dX11_gift_20 : decode cX11_gift 20 = .ok (.iload_n 1, 1) := by decide +kernel
theorem dX11_gift_21 : decode cX11_gift 21 = .ok (.invokevirtual 205, 3) := by decide +kernel
theorem dX11_gift_24 : decode cX11_gift 24 = .ok (.invokevirtual 202, 3) := by decide +kernel
theorem dX11_gift_27 : decode cX11_gift 27 = .ok (.ireturn, 1) := by decide +kernel
theorem dX11_hide_0 : decode cX11_hide 0 = .ok (.aload_n 0, 1) := by decide +kernel
theorem dX11_hide_1 : decode cX11_hide 1 = .ok (.getfield 40, 3) := by decide +kernel
theorem dX11_hide_4 : decode cX11_hide 4 = .ok (.aload_n 0, 1) := by decide +kernel
theorem dX11_hide_5 : decode cX11_hide 5 = .ok (.getfield 36, 3) := by decide +kernel
theorem dX11_hide_8 : decode cX11_hide 8 = .ok (.invokevirtual 124, 3) := by decide +kernel
theorem dX11_hide_11 : decode cX11_hide 11 = .ok (.aload_n 0, 1) := by decide +kernel
theorem dX11_hide_12 : decode cX11_hide 12 = .ok (.aload_n 0, 1) := by decide +kernel
theorem dX11_hide_13 : decode cX11_hide 13 = .ok (.getfield 85, 3) := by decide +kernel
theorem dX11_hide_16 : decode cX11_hide 16 = .ok (.aload_n 0, 1) := by decide +kernel
theorem dX11_hide_17 : decode cX11_hide 17 = .ok (.getfield 36, 3) := by decide +kernel
theorem dX11_hide_20 : decode cX11_hide 20 = .ok (.iload_n 1, 1) := by decide +kernel
theorem dX11_hide_21 : decode cX11_hide 21 = .ok (.invokevirtual 209, 3) := by decide +kernel
theorem dX11_hide_24 : decode cX11_hide 24 = .ok (.invokevirtual 202, 3) := by decide +kernel
theorem dX11_hide_27 : decode cX11_hide 27 = .ok (.ireturn, 1) := by decide +kernel
theorem dX11_add_0 : decode cX11_add 0 = .ok (.aload_n 0, 1) := by decide +kernel
theorem dX11_add_1 : decode cX11_add 1 = .ok (.getfield 40, 3) := by decide +kernel
theorem dX11_add_4 : decode cX11_add 4 = .ok (.aload_n 0, 1) := by decide +kernel
theorem dX11_add_5 : decode cX11_add 5 = .ok (.getfield 36, 3) := by decide +kernel
theorem dX11_add_8 : decode cX11_add 8 = .ok (.invokevirtual 124, 3) := by decide +kernel
theorem dX11_add_11 : decode cX11_add 11 = .ok (.aload_n 0, 1) := by decide +kernel
theorem dX11_add_12 : decode cX11_add 12 = .ok (.aload_n 0, 1) := by decide +kernel
theorem dX11_add_13 : decode cX11_add 13 = .ok (.getfield 85, 3) := by decide +kernel
theorem dX11_add_16 : decode cX11_add 16 = .ok (.aload_n 0, 1) := by decide +kernel
theorem dX11_add_17 : decode cX11_add 17 = .ok (.getfield 36, 3) := by decide +kernel
theorem dX11_add_20 : decode cX11_add 20 = .ok (.iload_n 1, 1) := by decide +kernel
theorem dX11_add_21 : decode cX11_add 21 = .ok (.iload_n 2, 1) := by decide +kernel
theorem dX11_add_22 : decode cX11_add 22 = .ok (.invokevirtual 212, 3) := by decide +kernel
theorem dX11_add_25 : decode cX11_add 25 = .ok (.invokevirtual 202, 3) := by decide +kernel
theorem dX11_add_28 : decode cX11_add 28 = .ok (.ireturn, 1) := by decide +kernel
theorem dX11_price_0 : decode cX11_price 0 = .ok (.aload_n 0, 1) := by decide +kernel
theorem dX11_price_1 : decode cX11_price 1 = .ok (.getfield 40, 3) := by decide +kernel
theorem dX11_price_4 : decode cX11_price 4 = .ok (.aload_n 0, 1) := by decide +kernel
theorem dX11_price_5 : decode cX11_price 5 = .ok (.getfield 36, 3) := by decide +kernel
theorem dX11_price_8 : decode cX11_price 8 = .ok (.invokevirtual 124, 3) := by decide +kernel
theorem dX11_price_11 : decode cX11_price 11 = .ok (.aload_n 0, 1) := by decide +kernel
theorem dX11_price_12 : decode cX11_price 12 = .ok (.aload_n 0, 1) := by decide +kernel
theorem dX11_price_13 : decode cX11_price 13 = .ok (.getfield 85, 3) := by decide +kernel
theorem dX11_price_16 : decode cX11_price 16 = .ok (.aload_n 0, 1) := by decide +kernel
theorem dX11_price_17 : decode cX11_price 17 = .ok (.getfield 36, 3) := by decide +kernel
theorem dX11_price_20 : decode cX11_price 20 = .ok (.iload_n 1, 1) := by decide +kernel
theorem dX11_price_21 : decode cX11_price 21 = .ok (.iload_n 2, 1) := by decide +kernel
theorem dX11_price_22 : decode cX11_price 22 = .ok (.invokevirtual 216, 3) := by decide +kernel
theorem dX11_price_25 : decode cX11_price 25 = .ok (.invokevirtual 202, 3) := by decide +kernel
theorem dX11_price_28 : decode cX11_price 28 = .ok (.ireturn, 1) := by decide +kernel
theorem dX11_settle_0 : decode cX11_settle 0 = .ok (.iload_n 1, 1) := by decide +kernel
theorem dX11_settle_1 : decode cX11_settle 1 = .ok (.ifCond .lt 14, 3) := by decide +kernel
theorem dX11_settle_4 : decode cX11_settle 4 = .ok (.aload_n 0, 1) := by decide +kernel
theorem dX11_settle_5 : decode cX11_settle 5 = .ok (.getfield 46, 3) := by decide +kernel
theorem dX11_settle_8 : decode cX11_settle 8 = .ok (.aload_n 0, 1) := by decide +kernel
theorem dX11_settle_9 : decode cX11_settle 9 = .ok (.getfield 40, 3) := by decide +kernel
theorem dX11_settle_12 : decode cX11_settle 12 = .ok (.invokevirtual 192, 3) := by decide +kernel
theorem dX11_settle_15 : decode cX11_settle 15 = .ok (.iload_n 1, 1) := by decide +kernel
theorem dX11_settle_16 : decode cX11_settle 16 = .ok (.ireturn, 1) := by decide +kernel
theorem dX11_days_0 : decode cX11_days 0 = .ok (.iload_n 1, 1) := by decide +kernel
theorem dX11_days_1 : decode cX11_days 1 = .ok (.iconst 1, 1) := by decide +kernel
theorem dX11_days_2 : decode cX11_days 2 = .ok (.if_icmp .lt 9, 3) := by decide +kernel
theorem dX11_days_5 : decode cX11_days 5 = .ok (.iload_n 1, 1) := by decide +kernel
theorem dX11_days_6 : decode cX11_days 6 = .ok (.bipush 99, 2) := by decide +kernel
theorem dX11_days_8 : decode cX11_days 8 = .ok (.if_icmp .le 6, 3) := by decide +kernel
theorem dX11_days_11 : decode cX11_days 11 = .ok (.bipush (-3), 2) := by decide +kernel
theorem dX11_days_13 : decode cX11_days 13 = .ok (.ireturn, 1) := by decide +kernel
theorem dX11_days_14 : decode cX11_days 14 = .ok (.aload_n 0, 1) := by decide +kernel
theorem dX11_days_15 : decode cX11_days 15 = .ok (.getfield 40, 3) := by decide +kernel
theorem dX11_days_18 : decode cX11_days 18 = .ok (.aload_n 0, 1) := by decide +kernel
theorem dX11_days_19 : decode cX11_days 19 = .ok (.getfield 36, 3) := by decide +kernel
theorem dX11_days_22 : decode cX11_days 22 = .ok (.invokevirtual 124, 3) := by decide +kernel
theorem dX11_days_25 : decode cX11_days 25 = .ok (.iconst 0, 1) := by decide +kernel
theorem dX11_days_26 : decode cX11_days 26 = .ok (.istore_n 2, 1) := by decide +kernel
theorem dX11_days_27 : decode cX11_days 27 = .ok (.iconst 0, 1) := by decide +kernel
theorem dX11_days_28 : decode cX11_days 28 = .ok (.istore_n 3, 1) := by decide +kernel
theorem dX11_days_29 : decode cX11_days 29 = .ok (.iload_n 3, 1) := by decide +kernel
theorem dX11_days_30 : decode cX11_days 30 = .ok (.iload_n 1, 1) := by decide +kernel
theorem dX11_days_31 : decode cX11_days 31 = .ok (.if_icmp .ge 30, 3) := by decide +kernel
theorem dX11_days_34 : decode cX11_days 34 = .ok (.iload_n 2, 1) := by decide +kernel
theorem dX11_days_35 : decode cX11_days 35 = .ok (.aload_n 0, 1) := by decide +kernel
theorem dX11_days_36 : decode cX11_days 36 = .ok (.getfield 85, 3) := by decide +kernel
theorem dX11_days_39 : decode cX11_days 39 = .ok (.aload_n 0, 1) := by decide +kernel
theorem dX11_days_40 : decode cX11_days 40 = .ok (.getfield 26, 3) := by decide +kernel
theorem dX11_days_43 : decode cX11_days 43 = .ok (.aload_n 0, 1) := by decide +kernel
theorem dX11_days_44 : decode cX11_days 44 = .ok (.getfield 36, 3) := by decide +kernel
theorem dX11_days_47 : decode cX11_days 47 = .ok (.ldc2_w 219, 3) := by decide +kernel
theorem dX11_days_50 : decode cX11_days 50 = .ok (.invokevirtual 221, 3) := by decide +kernel
theorem dX11_days_53 : decode cX11_days 53 = .ok (.iadd, 1) := by decide +kernel
theorem dX11_days_54 : decode cX11_days 54 = .ok (.istore_n 2, 1) := by decide +kernel
theorem dX11_days_55 : decode cX11_days 55 = .ok (.iinc 3 1, 3) := by decide +kernel
theorem dX11_days_58 : decode cX11_days 58 = .ok (.goto (-29), 3) := by decide +kernel
theorem dX11_days_61 : decode cX11_days 61 = .ok (.aload_n 0, 1) := by decide +kernel
theorem dX11_days_62 : decode cX11_days 62 = .ok (.getfield 46, 3) := by decide +kernel
theorem dX11_days_65 : decode cX11_days 65 = .ok (.aload_n 0, 1) := by decide +kernel
theorem dX11_days_66 : decode cX11_days 66 = .ok (.getfield 40, 3) := by decide +kernel
theorem dX11_days_69 : decode cX11_days 69 = .ok (.invokevirtual 192, 3) := by decide +kernel
theorem dX11_days_72 : decode cX11_days 72 = .ok (.iload_n 2, 1) := by decide +kernel
theorem dX11_days_73 : decode cX11_days 73 = .ok (.ireturn, 1) := by decide +kernel
theorem dX11_undo_0 : decode cX11_undo 0 = .ok (.iload_n 1, 1) := by decide +kernel
theorem dX11_undo_1 : decode cX11_undo 1 = .ok (.iconst 1, 1) := by decide +kernel
theorem dX11_undo_2 : decode cX11_undo 2 = .ok (.if_icmp .lt 14, 3) := by decide +kernel
theorem dX11_undo_5 : decode cX11_undo 5 = .ok (.iload_n 1, 1) := by decide +kernel
theorem dX11_undo_6 : decode cX11_undo 6 = .ok (.aload_n 0, 1) := by decide +kernel
theorem dX11_undo_7 : decode cX11_undo 7 = .ok (.getfield 46, 3) := by decide +kernel
theorem dX11_undo_10 : decode cX11_undo 10 = .ok (.getfield 225, 3) := by decide +kernel
theorem dX11_undo_13 : decode cX11_undo 13 = .ok (.if_icmp .le 6, 3) := by decide +kernel
theorem dX11_undo_16 : decode cX11_undo 16 = .ok (.bipush (-3), 2) := by decide +kernel
theorem dX11_undo_18 : decode cX11_undo 18 = .ok (.ireturn, 1) := by decide +kernel
theorem dX11_undo_19 : decode cX11_undo 19 = .ok (.aload_n 0, 1) := by decide +kernel
theorem dX11_undo_20 : decode cX11_undo 20 = .ok (.getfield 46, 3) := by decide +kernel
theorem dX11_undo_23 : decode cX11_undo 23 = .ok (.iload_n 1, 1) := by decide +kernel
theorem dX11_undo_24 : decode cX11_undo 24 = .ok (.aload_n 0, 1) := by decide +kernel
theorem dX11_undo_25 : decode cX11_undo 25 = .ok (.getfield 36, 3) := by decide +kernel
theorem dX11_undo_28 : decode cX11_undo 28 = .ok (.invokevirtual 228, 3) := by decide +kernel
theorem dX11_undo_31 : decode cX11_undo 31 = .ok (.aload_n 0, 1) := by decide +kernel
theorem dX11_undo_32 : decode cX11_undo 32 = .ok (.getfield 46, 3) := by decide +kernel
theorem dX11_undo_35 : decode cX11_undo 35 = .ok (.getfield 225, 3) := by decide +kernel
theorem dX11_undo_38 : decode cX11_undo 38 = .ok (.ireturn, 1) := by decide +kernel
theorem dX11_judge_0 : decode cX11_judge 0 = .ok (.iload_n 1, 1) := by decide +kernel
theorem dX11_judge_1 : decode cX11_judge 1 = .ok (.invokestatic 232, 3) := by decide +kernel
theorem dX11_judge_4 : decode cX11_judge 4 = .ok (.ifCond .eq 12, 3) := by decide +kernel
theorem dX11_judge_7 : decode cX11_judge 7 = .ok (.iload_n 2, 1) := by decide +kernel
theorem dX11_judge_8 : decode cX11_judge 8 = .ok (.ifCond .lt 8, 3) := by decide +kernel
theorem dX11_judge_11 : decode cX11_judge 11 = .ok (.iload_n 2, 1) := by decide +kernel
theorem dX11_judge_12 : decode cX11_judge 12 = .ok (.iconst 3, 1) := by decide +kernel
theorem dX11_judge_13 : decode cX11_judge 13 = .ok (.if_icmp .le 6, 3) := by decide +kernel
theorem dX11_judge_16 : decode cX11_judge 16 = .ok (.bipush (-2), 2) := by decide +kernel
theorem dX11_judge_18 : decode cX11_judge 18 = .ok (.ireturn, 1) := by decide +kernel
theorem dX11_judge_19 : decode cX11_judge 19 = .ok (.aload_n 0, 1) := by decide +kernel
theorem dX11_judge_20 : decode cX11_judge 20 = .ok (.getfield 52, 3) := by decide +kernel
theorem dX11_judge_23 : decode cX11_judge 23 = .ok (.iload_n 1, 1) := by decide +kernel
theorem dX11_judge_24 : decode cX11_judge 24 = .ok (.aaload, 1) := by decide +kernel
theorem dX11_judge_25 : decode cX11_judge 25 = .ok (.astore_n 3, 1) := by decide +kernel
theorem dX11_judge_26 : decode cX11_judge 26 = .ok (.aload_n 3, 1) := by decide +kernel
theorem dX11_judge_27 : decode cX11_judge 27 = .ok (.invokevirtual 235, 3) := by decide +kernel
theorem dX11_judge_30 : decode cX11_judge 30 = .ok (.ifCond .eq 6, 3) := by decide +kernel
theorem dX11_judge_33 : decode cX11_judge 33 = .ok (.bipush (-6), 2) := by decide +kernel
theorem dX11_judge_35 : decode cX11_judge 35 = .ok (.ireturn, 1) := by decide +kernel
theorem dX11_judge_36 : decode cX11_judge 36 = .ok (.aload_n 0, 1) := by decide +kernel
theorem dX11_judge_37 : decode cX11_judge 37 = .ok (.getfield 40, 3) := by decide +kernel
theorem dX11_judge_40 : decode cX11_judge 40 = .ok (.aload_n 0, 1) := by decide +kernel
theorem dX11_judge_41 : decode cX11_judge 41 = .ok (.getfield 36, 3) := by decide +kernel
theorem dX11_judge_44 : decode cX11_judge 44 = .ok (.invokevirtual 124, 3) := by decide +kernel
theorem dX11_judge_47 : decode cX11_judge 47 = .ok (.iconst 0, 1) := by decide +kernel
theorem dX11_judge_48 : decode cX11_judge 48 = .ok (.istore 4, 2) := by decide +kernel
theorem dX11_judge_50 : decode cX11_judge 50 = .ok (.iconst 0, 1) := by decide +kernel
theorem dX11_judge_51 : decode cX11_judge 51 = .ok (.istore 5, 2) := by decide +kernel
theorem dX11_judge_53 : decode cX11_judge 53 = .ok (.iconst 0, 1) := by decide +kernel
theorem dX11_judge_54 : decode cX11_judge 54 = .ok (.istore 6, 2) := by decide +kernel
theorem dX11_judge_56 : decode cX11_judge 56 = .ok (.iload 6, 2) := by decide +kernel
theorem dX11_judge_58 : decode cX11_judge 58 = .ok (.aload_n 3, 1) := by decide +kernel
theorem dX11_judge_59 : decode cX11_judge 59 = .ok (.invokevirtual 239, 3) := by decide +kernel
theorem dX11_judge_62 : decode cX11_judge 62 = .ok (.if_icmp .ge 45, 3) := by decide +kernel
theorem dX11_judge_65 : decode cX11_judge 65 = .ok (.iload 4, 2) := by decide +kernel
theorem dX11_judge_67 : decode cX11_judge 67 = .ok (.ifCond .ne 40, 3) := by decide +kernel
theorem dX11_judge_70 : decode cX11_judge 70 = .ok (.iconst 0, 1) := by decide +kernel
theorem dX11_judge_71 : decode cX11_judge 71 = .ok (.aload_n 0, 1) := by decide +kernel
theorem dX11_judge_72 : decode cX11_judge 72 = .ok (.getfield 85, 3) := by decide +kernel
theorem dX11_judge_75 : decode cX11_judge 75 = .ok (.aload_n 0, 1) := by decide +kernel
theorem dX11_judge_76 : decode cX11_judge 76 = .ok (.getfield 26, 3) := by decide +kernel
theorem dX11_judge_79 : decode cX11_judge 79 = .ok (.aload_n 0, 1) := by decide +kernel
theorem dX11_judge_80 : decode cX11_judge 80 = .ok (.getfield 40, 3) := by decide +kernel
theorem dX11_judge_83 : decode cX11_judge 83 = .ok (.aload_n 3, 1) := by decide +kernel
theorem dX11_judge_84 : decode cX11_judge 84 = .ok (.iload 6, 2) := by decide +kernel
theorem dX11_judge_86 : decode cX11_judge 86 = .ok (.invokevirtual 242, 3) := by decide +kernel
theorem dX11_judge_89 : decode cX11_judge 89 = .ok (.invokevirtual 221, 3) := by decide +kernel
theorem dX11_judge_92 : decode cX11_judge 92 = .ok (.invokestatic 246, 3) := by decide +kernel
theorem dX11_judge_95 : decode cX11_judge 95 = .ok (.istore 4, 2) := by decide +kernel
theorem dX11_judge_97 : decode cX11_judge 97 = .ok (.iload 6, 2) := by decide +kernel
theorem dX11_judge_99 : decode cX11_judge 99 = .ok (.istore 5, 2) := by decide +kernel
theorem dX11_judge_101 : decode cX11_judge 101 = .ok (.iinc 6 1, 3) := by decide +kernel
theorem dX11_judge_104 : decode cX11_judge 104 = .ok (.goto (-48), 3) := by decide +kernel
theorem dX11_judge_107 : decode cX11_judge 107 = .ok (.iload_n 2, 1) := by decide +kernel
theorem dX11_judge_108 : decode cX11_judge 108 = .ok (.ifCond .ne 15, 3) := by decide +kernel
theorem dX11_judge_111 : decode cX11_judge 111 = .ok (.iload 4, 2) := by decide +kernel
theorem dX11_judge_113 : decode cX11_judge 113 = .ok (.ifCond .ne 7, 3) := by decide +kernel
theorem dX11_judge_116 : decode cX11_judge 116 = .ok (.iconst (-1), 1) := by decide +kernel
theorem dX11_judge_117 : decode cX11_judge 117 = .ok (.goto 5, 3) := by decide +kernel
theorem dX11_judge_120 : decode cX11_judge 120 = .ok (.iload 5, 2) := by decide +kernel
theorem dX11_judge_122 : decode cX11_judge 122 = .ok (.ireturn, 1) := by decide +kernel
theorem dX11_judge_123 : decode cX11_judge 123 = .ok (.iload_n 2, 1) := by decide +kernel
theorem dX11_judge_124 : decode cX11_judge 124 = .ok (.iconst 1, 1) := by decide +kernel
theorem dX11_judge_125 : decode cX11_judge 125 = .ok (.if_icmp .ne 18, 3) := by decide +kernel
theorem dX11_judge_128 : decode cX11_judge 128 = .ok (.iload 4, 2) := by decide +kernel
theorem dX11_judge_130 : decode cX11_judge 130 = .ok (.ifCond .ne 7, 3) := by decide +kernel
theorem dX11_judge_133 : decode cX11_judge 133 = .ok (.iconst 0, 1) := by decide +kernel
theorem dX11_judge_134 : decode cX11_judge 134 = .ok (.goto 8, 3) := by decide +kernel
theorem dX11_judge_137 : decode cX11_judge 137 = .ok (.bipush (-10), 2) := by decide +kernel
theorem dX11_judge_139 : decode cX11_judge 139 = .ok (.iload 4, 2) := by decide +kernel
theorem dX11_judge_141 : decode cX11_judge 141 = .ok (.isub, 1) := by decide +kernel
theorem dX11_judge_142 : decode cX11_judge 142 = .ok (.ireturn, 1) := by decide +kernel
theorem dX11_judge_143 : decode cX11_judge 143 = .ok (.iload_n 2, 1) := by decide +kernel
theorem dX11_judge_144 : decode cX11_judge 144 = .ok (.iconst 2, 1) := by decide +kernel
theorem dX11_judge_145 : decode cX11_judge 145 = .ok (.if_icmp .ne 13, 3) := by decide +kernel
theorem dX11_judge_148 : decode cX11_judge 148 = .ok (.aload_n 0, 1) := by decide +kernel
theorem dX11_judge_149 : decode cX11_judge 149 = .ok (.getfield 40, 3) := by decide +kernel
theorem dX11_judge_152 : decode cX11_judge 152 = .ok (.getfield 150, 3) := by decide +kernel
theorem dX11_judge_155 : decode cX11_judge 155 = .ok (.goto 10, 3) := by decide +kernel
theorem dX11_judge_158 : decode cX11_judge 158 = .ok (.aload_n 0, 1) := by decide +kernel
theorem dX11_judge_159 : decode cX11_judge 159 = .ok (.getfield 40, 3) := by decide +kernel
theorem dX11_judge_162 : decode cX11_judge 162 = .ok (.getfield 252, 3) := by decide +kernel
theorem dX11_judge_165 : decode cX11_judge 165 = .ok (.ireturn, 1) := by decide +kernel
theorem dX11_perform_0 : decode cX11_perform 0 = .ok (.aload_n 0, 1) := by decide +kernel
theorem dX11_perform_1 : decode cX11_perform 1 = .ok (.iload_n 1, 1) := by decide +kernel
theorem dX11_perform_2 : decode cX11_perform 2 = .ok (.invokevirtual 255, 3) := by decide +kernel
theorem dX11_perform_5 : decode cX11_perform 5 = .ok (.istore_n 2, 1) := by decide +kernel
theorem dX11_perform_6 : decode cX11_perform 6 = .ok (.iload_n 2, 1) := by decide +kernel
theorem dX11_perform_7 : decode cX11_perform 7 = .ok (.ifCond .eq 5, 3) := by decide +kernel
theorem dX11_perform_10 : decode cX11_perform 10 = .ok (.iload_n 2, 1) := by decide +kernel
theorem dX11_perform_11 : decode cX11_perform 11 = .ok (.ireturn, 1) := by decide +kernel
theorem dX11_perform_12 : decode cX11_perform 12 = .ok (.aload_n 0, 1) := by decide +kernel
theorem dX11_perform_13 : decode cX11_perform 13 = .ok (.getfield 52, 3) := by decide +kernel
theorem dX11_perform_16 : decode cX11_perform 16 = .ok (.iload_n 1, 1) := by decide +kernel
theorem dX11_perform_17 : decode cX11_perform 17 = .ok (.aaload, 1) := by decide +kernel
theorem dX11_perform_18 : decode cX11_perform 18 = .ok (.astore_n 3, 1) := by decide +kernel
theorem dX11_perform_19 : decode cX11_perform 19 = .ok (.aload_n 0, 1) := by decide +kernel
theorem dX11_perform_20 : decode cX11_perform 20 = .ok (.getfield 40, 3) := by decide +kernel
theorem dX11_perform_23 : decode cX11_perform 23 = .ok (.aload_n 0, 1) := by decide +kernel
theorem dX11_perform_24 : decode cX11_perform 24 = .ok (.getfield 36, 3) := by decide +kernel
theorem dX11_perform_27 : decode cX11_perform 27 = .ok (.invokevirtual 124, 3) := by decide +kernel
theorem dX11_perform_30 : decode cX11_perform 30 = .ok (.iconst 0, 1) := by decide +kernel
theorem dX11_perform_31 : decode cX11_perform 31 = .ok (.istore 4, 2) := by decide +kernel
theorem dX11_perform_33 : decode cX11_perform 33 = .ok (.iconst 0, 1) := by decide +kernel
theorem dX11_perform_34 : decode cX11_perform 34 = .ok (.istore 5, 2) := by decide +kernel
theorem dX11_perform_36 : decode cX11_perform 36 = .ok (.iload 5, 2) := by decide +kernel
theorem dX11_perform_38 : decode cX11_perform 38 = .ok (.aload_n 3, 1) := by decide +kernel
theorem dX11_perform_39 : decode cX11_perform 39 = .ok (.invokevirtual 239, 3) := by decide +kernel
theorem dX11_perform_42 : decode cX11_perform 42 = .ok (.if_icmp .ge 43, 3) := by decide +kernel
theorem dX11_perform_45 : decode cX11_perform 45 = .ok (.iload 4, 2) := by decide +kernel
theorem dX11_perform_47 : decode cX11_perform 47 = .ok (.iload 5, 2) := by decide +kernel
theorem dX11_perform_49 : decode cX11_perform 49 = .ok (.if_icmp .ne 36, 3) := by decide +kernel
theorem dX11_perform_52 : decode cX11_perform 52 = .ok (.aload_n 0, 1) := by decide +kernel
theorem dX11_perform_53 : decode cX11_perform 53 = .ok (.getfield 85, 3) := by decide +kernel
theorem dX11_perform_56 : decode cX11_perform 56 = .ok (.aload_n 0, 1) := by decide +kernel
theorem dX11_perform_57 : decode cX11_perform 57 = .ok (.getfield 26, 3) := by decide +kernel
theorem dX11_perform_60 : decode cX11_perform 60 = .ok (.aload_n 0, 1) := by decide +kernel
theorem dX11_perform_61 : decode cX11_perform 61 = .ok (.getfield 36, 3) := by decide +kernel
theorem dX11_perform_64 : decode cX11_perform 64 = .ok (.aload_n 3, 1) := by decide +kernel
theorem dX11_perform_65 : decode cX11_perform 65 = .ok (.iload 5, 2) := by decide +kernel
theorem dX11_perform_67 : decode cX11_perform 67 = .ok (.invokevirtual 242, 3) := by decide +kernel
theorem dX11_perform_70 : decode cX11_perform 70 = .ok (.invokevirtual 221, 3) := by decide +kernel
theorem dX11_perform_73 : decode cX11_perform 73 = .ok (.ifCond .lt 6, 3) := by decide +kernel
theorem dX11_perform_76 : decode cX11_perform 76 = .ok (.iinc 4 1, 3) := by decide +kernel
theorem dX11_perform_79 : decode cX11_perform 79 = .ok (.iinc 5 1, 3) := by decide +kernel
theorem dX11_perform_82 : decode cX11_perform 82 = .ok (.goto (-46), 3) := by decide +kernel
theorem dX11_perform_85 : decode cX11_perform 85 = .ok (.iload 4, 2) := by decide +kernel
theorem dX11_perform_87 : decode cX11_perform 87 = .ok (.ifCond .le 14, 3) := by decide +kernel
theorem dX11_perform_90 : decode cX11_perform 90 = .ok (.aload_n 0, 1) := by decide +kernel
theorem dX11_perform_91 : decode cX11_perform 91 = .ok (.getfield 46, 3) := by decide +kernel
theorem dX11_perform_94 : decode cX11_perform 94 = .ok (.aload_n 0, 1) := by decide +kernel
theorem dX11_perform_95 : decode cX11_perform 95 = .ok (.getfield 40, 3) := by decide +kernel
theorem dX11_perform_98 : decode cX11_perform 98 = .ok (.invokevirtual 192, 3) := by decide +kernel
theorem dX11_perform_101 : decode cX11_perform 101 = .ok (.iload 4, 2) := by decide +kernel
theorem dX11_perform_103 : decode cX11_perform 103 = .ok (.ireturn, 1) := by decide +kernel
theorem dX11_season_0 : decode cX11_season 0 = .ok (.iload_n 2, 1) := by decide +kernel
theorem dX11_season_1 : decode cX11_season 1 = .ok (.iconst 1, 1) := by decide +kernel
theorem dX11_season_2 : decode cX11_season 2 = .ok (.if_icmp .lt 9, 3) := by decide +kernel
theorem dX11_season_5 : decode cX11_season 5 = .ok (.iload_n 2, 1) := by decide +kernel
theorem dX11_season_6 : decode cX11_season 6 = .ok (.bipush 40, 2) := by decide +kernel
theorem dX11_season_8 : decode cX11_season 8 = .ok (.if_icmp .le 6, 3) := by decide +kernel
theorem dX11_season_11 : decode cX11_season 11 = .ok (.bipush (-3), 2) := by decide +kernel
theorem dX11_season_13 : decode cX11_season 13 = .ok (.ireturn, 1) := by decide +kernel
theorem dX11_season_14 : decode cX11_season 14 = .ok (.aload_n 0, 1) := by decide +kernel
theorem dX11_season_15 : decode cX11_season 15 = .ok (.getfield 40, 3) := by decide +kernel
theorem dX11_season_18 : decode cX11_season 18 = .ok (.aload_n 0, 1) := by decide +kernel
theorem dX11_season_19 : decode cX11_season 19 = .ok (.getfield 36, 3) := by decide +kernel
theorem dX11_season_22 : decode cX11_season 22 = .ok (.invokevirtual 124, 3) := by decide +kernel
theorem dX11_season_25 : decode cX11_season 25 = .ok (.aload_n 0, 1) := by decide +kernel
theorem dX11_season_26 : decode cX11_season 26 = .ok (.getfield 36, 3) := by decide +kernel
theorem dX11_season_29 : decode cX11_season 29 = .ok (.iload_n 1, 1) := by decide +kernel
theorem dX11_season_30 : decode cX11_season 30 = .ok (.putfield 195, 3) := by decide +kernel
theorem dX11_season_33 : decode cX11_season 33 = .ok (.iconst 0, 1) := by decide +kernel
theorem dX11_season_34 : decode cX11_season 34 = .ok (.istore_n 3, 1) := by decide +kernel
theorem dX11_season_35 : decode cX11_season 35 = .ok (.iconst 0, 1) := by decide +kernel
theorem dX11_season_36 : decode cX11_season 36 = .ok (.istore 4, 2) := by decide +kernel
theorem dX11_season_38 : decode cX11_season 38 = .ok (.iload 4, 2) := by decide +kernel
theorem dX11_season_40 : decode cX11_season 40 = .ok (.iload_n 2, 1) := by decide +kernel
theorem dX11_season_41 : decode cX11_season 41 = .ok (.if_icmp .ge 42, 3) := by decide +kernel
theorem dX11_season_44 : decode cX11_season 44 = .ok (.aload_n 0, 1) := by decide +kernel
theorem dX11_season_45 : decode cX11_season 45 = .ok (.getfield 85, 3) := by decide +kernel
theorem dX11_season_48 : decode cX11_season 48 = .ok (.aload_n 0, 1) := by decide +kernel
theorem dX11_season_49 : decode cX11_season 49 = .ok (.getfield 26, 3) := by decide +kernel
theorem dX11_season_52 : decode cX11_season 52 = .ok (.aload_n 0, 1) := by decide +kernel
theorem dX11_season_53 : decode cX11_season 53 = .ok (.getfield 36, 3) := by decide +kernel
theorem dX11_season_56 : decode cX11_season 56 = .ok (.aload_n 0, 1) := by decide +kernel
theorem dX11_season_57 : decode cX11_season 57 = .ok (.getfield 85, 3) := by decide +kernel
theorem dX11_season_60 : decode cX11_season 60 = .ok (.aload_n 0, 1) := by decide +kernel
theorem dX11_season_61 : decode cX11_season 61 = .ok (.getfield 36, 3) := by decide +kernel
theorem dX11_season_64 : decode cX11_season 64 = .ok (.invokevirtual 258, 3) := by decide +kernel
theorem dX11_season_67 : decode cX11_season 67 = .ok (.i2l, 1) := by decide +kernel
theorem dX11_season_68 : decode cX11_season 68 = .ok (.invokevirtual 221, 3) := by decide +kernel
theorem dX11_season_71 : decode cX11_season 71 = .ok (.ifCond .lt 6, 3) := by decide +kernel
theorem dX11_season_74 : decode cX11_season 74 = .ok (.iinc 3 1, 3) := by decide +kernel
theorem dX11_season_77 : decode cX11_season 77 = .ok (.iinc 4 1, 3) := by decide +kernel
theorem dX11_season_80 : decode cX11_season 80 = .ok (.goto (-42), 3) := by decide +kernel
theorem dX11_season_83 : decode cX11_season 83 = .ok (.iload_n 3, 1) := by decide +kernel
theorem dX11_season_84 : decode cX11_season 84 = .ok (.ifCond .ne 17, 3) := by decide +kernel
theorem dX11_season_87 : decode cX11_season 87 = .ok (.aload_n 0, 1) := by decide +kernel
theorem dX11_season_88 : decode cX11_season 88 = .ok (.getfield 36, 3) := by decide +kernel
theorem dX11_season_91 : decode cX11_season 91 = .ok (.aload_n 0, 1) := by decide +kernel
theorem dX11_season_92 : decode cX11_season 92 = .ok (.getfield 40, 3) := by decide +kernel
theorem dX11_season_95 : decode cX11_season 95 = .ok (.invokevirtual 124, 3) := by decide +kernel
theorem dX11_season_98 : decode cX11_season 98 = .ok (.goto 14, 3) := by decide +kernel
theorem dX11_season_101 : decode cX11_season 101 = .ok (.aload_n 0, 1) := by decide +kernel
theorem dX11_season_102 : decode cX11_season 102 = .ok (.getfield 46, 3) := by decide +kernel
theorem dX11_season_105 : decode cX11_season 105 = .ok (.aload_n 0, 1) := by decide +kernel
theorem dX11_season_106 : decode cX11_season 106 = .ok (.getfield 40, 3) := by decide +kernel
theorem dX11_season_109 : decode cX11_season 109 = .ok (.invokevirtual 192, 3) := by decide +kernel
theorem dX11_season_112 : decode cX11_season 112 = .ok (.iload_n 3, 1) := by decide +kernel
theorem dX11_season_113 : decode cX11_season 113 = .ok (.ireturn, 1) := by decide +kernel
theorem dX11_ending_0 : decode cX11_ending 0 = .ok (.aload_n 0, 1) := by decide +kernel
theorem dX11_ending_1 : decode cX11_ending 1 = .ok (.getfield 94, 3) := by decide +kernel
theorem dX11_ending_4 : decode cX11_ending 4 = .ok (.aload_n 0, 1) := by decide +kernel
theorem dX11_ending_5 : decode cX11_ending 5 = .ok (.getfield 26, 3) := by decide +kernel
theorem dX11_ending_8 : decode cX11_ending 8 = .ok (.aload_n 0, 1) := by decide +kernel
theorem dX11_ending_9 : decode cX11_ending 9 = .ok (.getfield 36, 3) := by decide +kernel
theorem dX11_ending_12 : decode cX11_ending 12 = .ok (.aload_n 0, 1) := by decide +kernel
theorem dX11_ending_13 : decode cX11_ending 13 = .ok (.getfield 36, 3) := by decide +kernel
theorem dX11_ending_16 : decode cX11_ending 16 = .ok (.getfield 153, 3) := by decide +kernel
theorem dX11_ending_19 : decode cX11_ending 19 = .ok (.invokevirtual 262, 3) := by decide +kernel
theorem dX11_ending_22 : decode cX11_ending 22 = .ok (.aload_n 0, 1) := by decide +kernel
theorem dX11_ending_23 : decode cX11_ending 23 = .ok (.getfield 94, 3) := by decide +kernel
theorem dX11_ending_26 : decode cX11_ending 26 = .ok (.invokevirtual 266, 3) := by decide +kernel
theorem dX11_ending_29 : decode cX11_ending 29 = .ok (.ireturn, 1) := by decide +kernel
theorem dX11_endingBy_0 : decode cX11_endingBy 0 = .ok (.iload_n 1, 1) := by decide +kernel
theorem dX11_endingBy_1 : decode cX11_endingBy 1 = .ok (.ifCond .ge 6, 3) := by decide +kernel
theorem dX11_endingBy_4 : decode cX11_endingBy 4 = .ok (.bipush (-3), 2) := by decide +kernel
theorem dX11_endingBy_6 : decode cX11_endingBy 6 = .ok (.ireturn, 1) := by decide +kernel
theorem dX11_endingBy_7 : decode cX11_endingBy 7 = .ok (.aload_n 0, 1) := by decide +kernel
theorem dX11_endingBy_8 : decode cX11_endingBy 8 = .ok (.getfield 94, 3) := by decide +kernel
theorem dX11_endingBy_11 : decode cX11_endingBy 11 = .ok (.aload_n 0, 1) := by decide +kernel
theorem dX11_endingBy_12 : decode cX11_endingBy 12 = .ok (.getfield 26, 3) := by decide +kernel
theorem dX11_endingBy_15 : decode cX11_endingBy 15 = .ok (.aload_n 0, 1) := by decide +kernel
theorem dX11_endingBy_16 : decode cX11_endingBy 16 = .ok (.getfield 36, 3) := by decide +kernel
theorem dX11_endingBy_19 : decode cX11_endingBy 19 = .ok (.aload_n 0, 1) := by decide +kernel
theorem dX11_endingBy_20 : decode cX11_endingBy 20 = .ok (.getfield 36, 3) := by decide +kernel
theorem dX11_endingBy_23 : decode cX11_endingBy 23 = .ok (.getfield 153, 3) := by decide +kernel
theorem dX11_endingBy_26 : decode cX11_endingBy 26 = .ok (.invokevirtual 262, 3) := by decide +kernel
theorem dX11_endingBy_29 : decode cX11_endingBy 29 = .ok (.iload_n 1, 1) := by decide +kernel
theorem dX11_endingBy_30 : decode cX11_endingBy 30 = .ok (.aload_n 0, 1) := by decide +kernel
theorem dX11_endingBy_31 : decode cX11_endingBy 31 = .ok (.getfield 94, 3) := by decide +kernel
theorem dX11_endingBy_34 : decode cX11_endingBy 34 = .ok (.invokevirtual 266, 3) := by decide +kernel
theorem dX11_endingBy_37 : decode cX11_endingBy 37 = .ok (.if_icmp .ge 14, 3) := by decide +kernel
theorem dX11_endingBy_40 : decode cX11_endingBy 40 = .ok (.aload_n 0, 1) := by decide +kernel
theorem dX11_endingBy_41 : decode cX11_endingBy 41 = .ok (.getfield 94, 3) := by decide +kernel
theorem dX11_endingBy_44 : decode cX11_endingBy 44 = .ok (.iload_n 1, 1) := by decide +kernel
theorem dX11_endingBy_45 : decode cX11_endingBy 45 = .ok (.invokevirtual 269, 3) := by decide +kernel
theorem dX11_endingBy_48 : decode cX11_endingBy 48 = .ok (.goto 4, 3) := by decide +kernel
theorem dX11_endingBy_51 : decode cX11_endingBy 51 = .ok (.iconst (-1), 1) := by decide +kernel
theorem dX11_endingBy_52 : decode cX11_endingBy 52 = .ok (.ireturn, 1) := by decide +kernel
theorem dX11_endings_0 : decode cX11_endings 0 = .ok (.iload_n 1, 1) := by decide +kernel
theorem dX11_endings_1 : decode cX11_endings 1 = .ok (.ifCond .lt 9, 3) := by decide +kernel
theorem dX11_endings_4 : decode cX11_endings 4 = .ok (.iload_n 1, 1) := by decide +kernel
theorem dX11_endings_5 : decode cX11_endings 5 = .ok (.bipush 15, 2) := by decide +kernel
theorem dX11_endings_7 : decode cX11_endings 7 = .ok (.if_icmp .le 7, 3) := by decide +kernel
theorem dX11_endings_10 : decode cX11_endings 10 = .ok (.ldc2_w 272, 3) := by decide +kernel
theorem dX11_endings_13 : decode cX11_endings 13 = .ok (.lreturn, 1) := by decide +kernel
theorem dX11_endings_14 : decode cX11_endings 14 = .ok (.aload_n 0, 1) := by decide +kernel
theorem dX11_endings_15 : decode cX11_endings 15 = .ok (.getfield 94, 3) := by decide +kernel
theorem dX11_endings_18 : decode cX11_endings 18 = .ok (.aload_n 0, 1) := by decide +kernel
theorem dX11_endings_19 : decode cX11_endings 19 = .ok (.getfield 26, 3) := by decide +kernel
theorem dX11_endings_22 : decode cX11_endings 22 = .ok (.aload_n 0, 1) := by decide +kernel
theorem dX11_endings_23 : decode cX11_endings 23 = .ok (.getfield 36, 3) := by decide +kernel
theorem dX11_endings_26 : decode cX11_endings 26 = .ok (.aload_n 0, 1) := by decide +kernel
theorem dX11_endings_27 : decode cX11_endings 27 = .ok (.getfield 36, 3) := by decide +kernel
theorem dX11_endings_30 : decode cX11_endings 30 = .ok (.getfield 153, 3) := by decide +kernel
theorem dX11_endings_33 : decode cX11_endings 33 = .ok (.invokevirtual 262, 3) := by decide +kernel
theorem dX11_endings_36 : decode cX11_endings 36 = .ok (.aload_n 0, 1) := by decide +kernel
theorem dX11_endings_37 : decode cX11_endings 37 = .ok (.getfield 94, 3) := by decide +kernel
theorem dX11_endings_40 : decode cX11_endings 40 = .ok (.iload_n 1, 1) := by decide +kernel
theorem dX11_endings_41 : decode cX11_endings 41 = .ok (.invokevirtual 274, 3) := by decide +kernel
theorem dX11_endings_44 : decode cX11_endings 44 = .ok (.lreturn, 1) := by decide +kernel
theorem dX11_needed_0 : decode cX11_needed 0 = .ok (.aload_n 0, 1) := by decide +kernel
theorem dX11_needed_1 : decode cX11_needed 1 = .ok (.getfield 94, 3) := by decide +kernel
theorem dX11_needed_4 : decode cX11_needed 4 = .ok (.aload_n 0, 1) := by decide +kernel
theorem dX11_needed_5 : decode cX11_needed 5 = .ok (.getfield 26, 3) := by decide +kernel
theorem dX11_needed_8 : decode cX11_needed 8 = .ok (.aload_n 0, 1) := by decide +kernel
theorem dX11_needed_9 : decode cX11_needed 9 = .ok (.getfield 36, 3) := by decide +kernel
theorem dX11_needed_12 : decode cX11_needed 12 = .ok (.aload_n 0, 1) := by decide +kernel
theorem dX11_needed_13 : decode cX11_needed 13 = .ok (.getfield 36, 3) := by decide +kernel
theorem dX11_needed_16 : decode cX11_needed 16 = .ok (.getfield 153, 3) := by decide +kernel
theorem dX11_needed_19 : decode cX11_needed 19 = .ok (.invokevirtual 262, 3) := by decide +kernel
theorem dX11_needed_22 : decode cX11_needed 22 = .ok (.aload_n 0, 1) := by decide +kernel
theorem dX11_needed_23 : decode cX11_needed 23 = .ok (.getfield 94, 3) := by decide +kernel
theorem dX11_needed_26 : decode cX11_needed 26 = .ok (.invokevirtual 277, 3) := by decide +kernel
theorem dX11_needed_29 : decode cX11_needed 29 = .ok (.ireturn, 1) := by decide +kernel
theorem dX11_sellable_0 : decode cX11_sellable 0 = .ok (.aload_n 0, 1) := by decide +kernel
theorem dX11_sellable_1 : decode cX11_sellable 1 = .ok (.getfield 94, 3) := by decide +kernel
theorem dX11_sellable_4 : decode cX11_sellable 4 = .ok (.aload_n 0, 1) := by decide +kernel
theorem dX11_sellable_5 : decode cX11_sellable 5 = .ok (.getfield 26, 3) := by decide +kernel
theorem dX11_sellable_8 : decode cX11_sellable 8 = .ok (.aload_n 0, 1) := by decide +kernel
theorem dX11_sellable_9 : decode cX11_sellable 9 = .ok (.getfield 36, 3) := by decide +kernel
theorem dX11_sellable_12 : decode cX11_sellable 12 = .ok (.aload_n 0, 1) := by decide +kernel
theorem dX11_sellable_13 : decode cX11_sellable 13 = .ok (.getfield 36, 3) := by decide +kernel
theorem dX11_sellable_16 : decode cX11_sellable 16 = .ok (.getfield 153, 3) := by decide +kernel
theorem dX11_sellable_19 : decode cX11_sellable 19 = .ok (.invokevirtual 262, 3) := by decide +kernel
theorem dX11_sellable_22 : decode cX11_sellable 22 = .ok (.aload_n 0, 1) := by decide +kernel
theorem dX11_sellable_23 : decode cX11_sellable 23 = .ok (.getfield 94, 3) := by decide +kernel
theorem dX11_sellable_26 : decode cX11_sellable 26 = .ok (.invokevirtual 280, 3) := by decide +kernel
theorem dX11_sellable_29 : decode cX11_sellable 29 = .ok (.ireturn, 1) := by decide +kernel
theorem dX11_guards_0 : decode cX11_guards 0 = .ok (.iconst 0, 1) := by decide +kernel
theorem dX11_guards_1 : decode cX11_guards 1 = .ok (.istore_n 1, 1) := by decide +kernel
theorem dX11_guards_2 : decode cX11_guards 2 = .ok (.aload_n 0, 1) := by decide +kernel
theorem dX11_guards_3 : decode cX11_guards 3 = .ok (.getfield 94, 3) := by decide +kernel
theorem dX11_guards_6 : decode cX11_guards 6 = .ok (.aload_n 0, 1) := by decide +kernel
theorem dX11_guards_7 : decode cX11_guards 7 = .ok (.getfield 26, 3) := by decide +kernel
theorem dX11_guards_10 : decode cX11_guards 10 = .ok (.aload_n 0, 1) := by decide +kernel
theorem dX11_guards_11 : decode cX11_guards 11 = .ok (.getfield 36, 3) := by decide +kernel
theorem dX11_guards_14 : decode cX11_guards 14 = .ok (.aload_n 0, 1) := by decide +kernel
theorem dX11_guards_15 : decode cX11_guards 15 = .ok (.getfield 36, 3) := by decide +kernel
theorem dX11_guards_18 : decode cX11_guards 18 = .ok (.getfield 153, 3) := by decide +kernel
theorem dX11_guards_21 : decode cX11_guards 21 = .ok (.invokevirtual 262, 3) := by decide +kernel
theorem dX11_guards_24 : decode cX11_guards 24 = .ok (.aload_n 0, 1) := by decide +kernel
theorem dX11_guards_25 : decode cX11_guards 25 = .ok (.getfield 94, 3) := by decide +kernel
theorem dX11_guards_28 : decode cX11_guards 28 = .ok (.invokevirtual 266, 3) := by decide +kernel
theorem dX11_guards_31 : decode cX11_guards 31 = .ok (.iconst (-1), 1) := by decide +kernel
theorem dX11_guards_32 : decode cX11_guards 32 = .ok (.if_icmp .ne 5, 3) := by decide +kernel
theorem dX11_guards_35 : decode cX11_guards 35 = .ok (.iload_n 1, 1) := by decide +kernel
theorem dX11_guards_36 : decode cX11_guards 36 = .ok (.ireturn, 1) := by decide +kernel
theorem dX11_guards_37 : decode cX11_guards 37 = .ok (.iconst 0, 1) := by decide +kernel
theorem dX11_guards_38 : decode cX11_guards 38 = .ok (.istore_n 2, 1) := by decide +kernel
theorem dX11_guards_39 : decode cX11_guards 39 = .ok (.iload_n 2, 1) := by decide +kernel
theorem dX11_guards_40 : decode cX11_guards 40 = .ok (.aload_n 0, 1) := by decide +kernel
theorem dX11_guards_41 : decode cX11_guards 41 = .ok (.getfield 36, 3) := by decide +kernel
theorem dX11_guards_44 : decode cX11_guards 44 = .ok (.getfield 160, 3) := by decide +kernel
theorem dX11_guards_47 : decode cX11_guards 47 = .ok (.if_icmp .ge 70, 3) := by decide +kernel
theorem dX11_guards_50 : decode cX11_guards 50 = .ok (.aload_n 0, 1) := by decide +kernel
theorem dX11_guards_51 : decode cX11_guards 51 = .ok (.getfield 36, 3) := by decide +kernel
theorem dX11_guards_54 : decode cX11_guards 54 = .ok (.getfield 153, 3) := by decide +kernel
theorem dX11_guards_57 : decode cX11_guards 57 = .ok (.iload_n 2, 1) := by decide +kernel
theorem dX11_guards_58 : decode cX11_guards 58 = .ok (.ishr, 1) := by decide +kernel
theorem dX11_guards_59 : decode cX11_guards 59 = .ok (.iconst 1, 1) := by decide +kernel
theorem dX11_guards_60 : decode cX11_guards 60 = .ok (.iand, 1) := by decide +kernel
theorem dX11_guards_61 : decode cX11_guards 61 = .ok (.ifCond .ne 50, 3) := by decide +kernel
theorem dX11_guards_64 : decode cX11_guards 64 = .ok (.aload_n 0, 1) := by decide +kernel
theorem dX11_guards_65 : decode cX11_guards 65 = .ok (.getfield 94, 3) := by decide +kernel
theorem dX11_guards_68 : decode cX11_guards 68 = .ok (.aload_n 0, 1) := by decide +kernel
theorem dX11_guards_69 : decode cX11_guards 69 = .ok (.getfield 26, 3) := by decide +kernel
theorem dX11_guards_72 : decode cX11_guards 72 = .ok (.aload_n 0, 1) := by decide +kernel
theorem dX11_guards_73 : decode cX11_guards 73 = .ok (.getfield 36, 3) := by decide +kernel
theorem dX11_guards_76 : decode cX11_guards 76 = .ok (.aload_n 0, 1) := by decide +kernel
theorem dX11_guards_77 : decode cX11_guards 77 = .ok (.getfield 36, 3) := by decide +kernel
theorem dX11_guards_80 : decode cX11_guards 80 = .ok (.getfield 153, 3) := by decide +kernel
theorem dX11_guards_83 : decode cX11_guards 83 = .ok (.iconst 1, 1) := by decide +kernel
theorem dX11_guards_84 : decode cX11_guards 84 = .ok (.iload_n 2, 1) := by decide +kernel
theorem dX11_guards_85 : decode cX11_guards 85 = .ok (.ishl, 1) := by decide +kernel
theorem dX11_guards_86 : decode cX11_guards 86 = .ok (.ior, 1) := by decide +kernel
theorem dX11_guards_87 : decode cX11_guards 87 = .ok (.invokevirtual 262, 3) := by decide +kernel
theorem dX11_guards_90 : decode cX11_guards 90 = .ok (.iload_n 1, 1) := by decide +kernel
theorem dX11_guards_91 : decode cX11_guards 91 = .ok (.aload_n 0, 1) := by decide +kernel
theorem dX11_guards_92 : decode cX11_guards 92 = .ok (.getfield 94, 3) := by decide +kernel
theorem dX11_guards_95 : decode cX11_guards 95 = .ok (.invokevirtual 266, 3) := by decide +kernel
theorem dX11_guards_98 : decode cX11_guards 98 = .ok (.iconst (-1), 1) := by decide +kernel
theorem dX11_guards_99 : decode cX11_guards 99 = .ok (.if_icmp .ne 9, 3) := by decide +kernel
theorem dX11_guards_102 : decode cX11_guards 102 = .ok (.iconst 1, 1) := by decide +kernel
theorem dX11_guards_103 : decode cX11_guards 103 = .ok (.iload_n 2, 1) := by decide +kernel
theorem dX11_guards_104 : decode cX11_guards 104 = .ok (.ishl, 1) := by decide +kernel
theorem dX11_guards_105 : decode cX11_guards 105 = .ok (.goto 4, 3) := by decide +kernel
theorem dX11_guards_108 : decode cX11_guards 108 = .ok (.iconst 0, 1) := by decide +kernel
theorem dX11_guards_109 : decode cX11_guards 109 = .ok (.ior, 1) := by decide +kernel
theorem dX11_guards_110 : decode cX11_guards 110 = .ok (.istore_n 1, 1) := by decide +kernel
theorem dX11_guards_111 : decode cX11_guards 111 = .ok (.iinc 2 1, 3) := by decide +kernel
theorem dX11_guards_114 : decode cX11_guards 114 = .ok (.goto (-75), 3) := by decide +kernel
theorem dX11_guards_117 : decode cX11_guards 117 = .ok (.iload_n 1, 1) := by decide +kernel
theorem dX11_guards_118 : decode cX11_guards 118 = .ok (.ireturn, 1) := by decide +kernel
theorem dX11_last_0 : decode cX11_last 0 = .ok (.aload_n 0, 1) := by decide +kernel
theorem dX11_last_1 : decode cX11_last 1 = .ok (.getfield 94, 3) := by decide +kernel
theorem dX11_last_4 : decode cX11_last 4 = .ok (.aload_n 0, 1) := by decide +kernel
theorem dX11_last_5 : decode cX11_last 5 = .ok (.getfield 26, 3) := by decide +kernel
theorem dX11_last_8 : decode cX11_last 8 = .ok (.aload_n 0, 1) := by decide +kernel
theorem dX11_last_9 : decode cX11_last 9 = .ok (.getfield 36, 3) := by decide +kernel
theorem dX11_last_12 : decode cX11_last 12 = .ok (.aload_n 0, 1) := by decide +kernel
theorem dX11_last_13 : decode cX11_last 13 = .ok (.getfield 36, 3) := by decide +kernel
theorem dX11_last_16 : decode cX11_last 16 = .ok (.getfield 153, 3) := by decide +kernel
theorem dX11_last_19 : decode cX11_last 19 = .ok (.invokevirtual 262, 3) := by decide +kernel
theorem dX11_last_22 : decode cX11_last 22 = .ok (.aload_n 0, 1) := by decide +kernel
theorem dX11_last_23 : decode cX11_last 23 = .ok (.getfield 94, 3) := by decide +kernel
theorem dX11_last_26 : decode cX11_last 26 = .ok (.invokevirtual 283, 3) := by decide +kernel
theorem dX11_last_29 : decode cX11_last 29 = .ok (.ireturn, 1) := by decide +kernel
theorem dX11_open_0 : decode cX11_open 0 = .ok (.iload_n 2, 1) := by decide +kernel
theorem dX11_open_1 : decode cX11_open 1 = .ok (.iload_n 1, 1) := by decide +kernel
theorem dX11_open_2 : decode cX11_open 2 = .ok (.bipush 10, 2) := by decide +kernel
theorem dX11_open_4 : decode cX11_open 4 = .ok (.invokestatic 286, 3) := by decide +kernel
theorem dX11_open_7 : decode cX11_open 7 = .ok (.istore_n 3, 1) := by decide +kernel
theorem dX11_open_8 : decode cX11_open 8 = .ok (.iload_n 3, 1) := by decide +kernel
theorem dX11_open_9 : decode cX11_open 9 = .ok (.ifCond .eq 6, 3) := by decide +kernel
theorem dX11_open_12 : decode cX11_open 12 = .ok (.iload_n 3, 1) := by decide +kernel
theorem dX11_open_13 : decode cX11_open 13 = .ok (.i2l, 1) := by decide +kernel
theorem dX11_open_14 : decode cX11_open 14 = .ok (.lreturn, 1) := by decide +kernel
theorem dX11_open_15 : decode cX11_open 15 = .ok (.aload_n 0, 1) := by decide +kernel
theorem dX11_open_16 : decode cX11_open 16 = .ok (.getfield 94, 3) := by decide +kernel
theorem dX11_open_19 : decode cX11_open 19 = .ok (.aload_n 0, 1) := by decide +kernel
theorem dX11_open_20 : decode cX11_open 20 = .ok (.getfield 26, 3) := by decide +kernel
theorem dX11_open_23 : decode cX11_open 23 = .ok (.aload_n 0, 1) := by decide +kernel
theorem dX11_open_24 : decode cX11_open 24 = .ok (.getfield 36, 3) := by decide +kernel
theorem dX11_open_27 : decode cX11_open 27 = .ok (.aload_n 0, 1) := by decide +kernel
theorem dX11_open_28 : decode cX11_open 28 = .ok (.getfield 36, 3) := by decide +kernel
theorem dX11_open_31 : decode cX11_open 31 = .ok (.getfield 153, 3) := by decide +kernel
theorem dX11_open_34 : decode cX11_open 34 = .ok (.invokevirtual 262, 3) := by decide +kernel
theorem dX11_open_37 : decode cX11_open 37 = .ok (.aload_n 0, 1) := by decide +kernel
theorem dX11_open_38 : decode cX11_open 38 = .ok (.getfield 94, 3) := by decide +kernel
theorem dX11_open_41 : decode cX11_open 41 = .ok (.iload_n 1, 1) := by decide +kernel
theorem dX11_open_42 : decode cX11_open 42 = .ok (.invokevirtual 289, 3) := by decide +kernel
theorem dX11_open_45 : decode cX11_open 45 = .ok (.aload_n 0, 1) := by decide +kernel
theorem dX11_open_46 : decode cX11_open 46 = .ok (.getfield 94, 3) := by decide +kernel
theorem dX11_open_49 : decode cX11_open 49 = .ok (.invokevirtual 292, 3) := by decide +kernel
theorem dX11_open_52 : decode cX11_open 52 = .ok (.aload_n 0, 1) := by decide +kernel
theorem dX11_open_53 : decode cX11_open 53 = .ok (.getfield 94, 3) := by decide +kernel
theorem dX11_open_56 : decode cX11_open 56 = .ok (.getfield 296, 3) := by decide +kernel
theorem dX11_open_59 : decode cX11_open 59 = .ok (.iload_n 2, 1) := by decide +kernel
theorem dX11_open_60 : decode cX11_open 60 = .ok (.invokestatic 300, 3) := by decide +kernel
theorem dX11_open_63 : decode cX11_open 63 = .ok (.lreturn, 1) := by decide +kernel
theorem dX11_likely_0 : decode cX11_likely 0 = .ok (.iload_n 1, 1) := by decide +kernel
theorem dX11_likely_1 : decode cX11_likely 1 = .ok (.ifCond .lt 9, 3) := by decide +kernel
theorem dX11_likely_4 : decode cX11_likely 4 = .ok (.iload_n 1, 1) := by decide +kernel
theorem dX11_likely_5 : decode cX11_likely 5 = .ok (.bipush 100, 2) := by decide +kernel
theorem dX11_likely_7 : decode cX11_likely 7 = .ok (.if_icmp .le 6, 3) := by decide +kernel
theorem dX11_likely_10 : decode cX11_likely 10 = .ok (.bipush (-3), 2) := by decide +kernel
theorem dX11_likely_12 : decode cX11_likely 12 = .ok (.ireturn, 1) := by decide +kernel
theorem dX11_likely_13 : decode cX11_likely 13 = .ok (.aload_n 0, 1) := by decide +kernel
theorem dX11_likely_14 : decode cX11_likely 14 = .ok (.getfield 94, 3) := by decide +kernel
theorem dX11_likely_17 : decode cX11_likely 17 = .ok (.aload_n 0, 1) := by decide +kernel
theorem dX11_likely_18 : decode cX11_likely 18 = .ok (.getfield 26, 3) := by decide +kernel
theorem dX11_likely_21 : decode cX11_likely 21 = .ok (.aload_n 0, 1) := by decide +kernel
theorem dX11_likely_22 : decode cX11_likely 22 = .ok (.getfield 36, 3) := by decide +kernel
theorem dX11_likely_25 : decode cX11_likely 25 = .ok (.aload_n 0, 1) := by decide +kernel
theorem dX11_likely_26 : decode cX11_likely 26 = .ok (.getfield 36, 3) := by decide +kernel
theorem dX11_likely_29 : decode cX11_likely 29 = .ok (.getfield 153, 3) := by decide +kernel
theorem dX11_likely_32 : decode cX11_likely 32 = .ok (.invokevirtual 262, 3) := by decide +kernel
theorem dX11_likely_35 : decode cX11_likely 35 = .ok (.iconst 0, 1) := by decide +kernel
theorem dX11_likely_36 : decode cX11_likely 36 = .ok (.istore_n 2, 1) := by decide +kernel
theorem dX11_likely_37 : decode cX11_likely 37 = .ok (.iload_n 2, 1) := by decide +kernel
theorem dX11_likely_38 : decode cX11_likely 38 = .ok (.bipush 10, 2) := by decide +kernel
theorem dX11_likely_40 : decode cX11_likely 40 = .ok (.if_icmp .gt 50, 3) := by decide +kernel
theorem dX11_likely_43 : decode cX11_likely 43 = .ok (.aload_n 0, 1) := by decide +kernel
theorem dX11_likely_44 : decode cX11_likely 44 = .ok (.getfield 94, 3) := by decide +kernel
theorem dX11_likely_47 : decode cX11_likely 47 = .ok (.iload_n 2, 1) := by decide +kernel
theorem dX11_likely_48 : decode cX11_likely 48 = .ok (.invokevirtual 289, 3) := by decide +kernel
theorem dX11_likely_51 : decode cX11_likely 51 = .ok (.aload_n 0, 1) := by decide +kernel
theorem dX11_likely_52 : decode cX11_likely 52 = .ok (.getfield 94, 3) := by decide +kernel
theorem dX11_likely_55 : decode cX11_likely 55 = .ok (.getfield 296, 3) := by decide +kernel
theorem dX11_likely_58 : decode cX11_likely 58 = .ok (.aload_n 0, 1) := by decide +kernel
theorem dX11_likely_59 : decode cX11_likely 59 = .ok (.getfield 94, 3) := by decide +kernel
theorem dX11_likely_62 : decode cX11_likely 62 = .ok (.invokevirtual 292, 3) := by decide +kernel
theorem dX11_likely_65 : decode cX11_likely 65 = .ok (.lsub, 1) := by decide +kernel
theorem dX11_likely_66 : decode cX11_likely 66 = .ok (.aload_n 0, 1) := by decide +kernel
theorem dX11_likely_67 : decode cX11_likely 67 = .ok (.getfield 94, 3) := by decide +kernel
theorem dX11_likely_70 : decode cX11_likely 70 = .ok (.getfield 296, 3) := by decide +kernel
theorem dX11_likely_73 : decode cX11_likely 73 = .ok (.invokestatic 304, 3) := by decide +kernel
theorem dX11_likely_76 : decode cX11_likely 76 = .ok (.iload_n 1, 1) := by decide +kernel
theorem dX11_likely_77 : decode cX11_likely 77 = .ok (.i2l, 1) := by decide +kernel
theorem dX11_likely_78 : decode cX11_likely 78 = .ok (.lcmp, 1) := by decide +kernel
theorem dX11_likely_79 : decode cX11_likely 79 = .ok (.ifCond .lt 5, 3) := by decide +kernel
theorem dX11_likely_82 : decode cX11_likely 82 = .ok (.iload_n 2, 1) := by decide +kernel
theorem dX11_likely_83 : decode cX11_likely 83 = .ok (.ireturn, 1) := by decide +kernel
theorem dX11_likely_84 : decode cX11_likely 84 = .ok (.iinc 2 1, 3) := by decide +kernel
theorem dX11_likely_87 : decode cX11_likely 87 = .ok (.goto (-50), 3) := by decide +kernel
theorem dX11_likely_90 : decode cX11_likely 90 = .ok (.iconst (-1), 1) := by decide +kernel
theorem dX11_likely_91 : decode cX11_likely 91 = .ok (.ireturn, 1) := by decide +kernel
theorem dX11_shutsBy_0 : decode cX11_shutsBy 0 = .ok (.aload_n 0, 1) := by decide +kernel
theorem dX11_shutsBy_1 : decode cX11_shutsBy 1 = .ok (.iload_n 1, 1) := by decide +kernel
theorem dX11_shutsBy_2 : decode cX11_shutsBy 2 = .ok (.invokevirtual 173, 3) := by decide +kernel
theorem dX11_shutsBy_5 : decode cX11_shutsBy 5 = .ok (.ifCond .eq 13, 3) := by decide +kernel
theorem dX11_shutsBy_8 : decode cX11_shutsBy 8 = .ok (.iload_n 3, 1) := by decide +kernel
theorem dX11_shutsBy_9 : decode cX11_shutsBy 9 = .ok (.iload_n 2, 1) := by decide +kernel
theorem dX11_shutsBy_10 : decode cX11_shutsBy 10 = .ok (.bipush 10, 2) := by decide +kernel
theorem dX11_shutsBy_12 : decode cX11_shutsBy 12 = .ok (.invokestatic 286, 3) := by decide +kernel
theorem dX11_shutsBy_15 : decode cX11_shutsBy 15 = .ok (.goto 5, 3) := by decide +kernel
theorem dX11_shutsBy_18 : decode cX11_shutsBy 18 = .ok (.bipush (-2), 2) := by decide +kernel
theorem dX11_shutsBy_20 : decode cX11_shutsBy 20 = .ok (.istore 4, 2) := by decide +kernel
theorem dX11_shutsBy_22 : decode cX11_shutsBy 22 = .ok (.iload 4, 2) := by decide +kernel
theorem dX11_shutsBy_24 : decode cX11_shutsBy 24 = .ok (.ifCond .eq 7, 3) := by decide +kernel
theorem dX11_shutsBy_27 : decode cX11_shutsBy 27 = .ok (.iload 4, 2) := by decide +kernel
theorem dX11_shutsBy_29 : decode cX11_shutsBy 29 = .ok (.i2l, 1) := by decide +kernel
theorem dX11_shutsBy_30 : decode cX11_shutsBy 30 = .ok (.lreturn, 1) := by decide +kernel
theorem dX11_shutsBy_31 : decode cX11_shutsBy 31 = .ok (.aload_n 0, 1) := by decide +kernel
theorem dX11_shutsBy_32 : decode cX11_shutsBy 32 = .ok (.getfield 94, 3) := by decide +kernel
theorem dX11_shutsBy_35 : decode cX11_shutsBy 35 = .ok (.aload_n 0, 1) := by decide +kernel
theorem dX11_shutsBy_36 : decode cX11_shutsBy 36 = .ok (.getfield 26, 3) := by decide +kernel
theorem dX11_shutsBy_39 : decode cX11_shutsBy 39 = .ok (.aload_n 0, 1) := by decide +kernel
theorem dX11_shutsBy_40 : decode cX11_shutsBy 40 = .ok (.getfield 36, 3) := by decide +kernel
theorem dX11_shutsBy_43 : decode cX11_shutsBy 43 = .ok (.aload_n 0, 1) := by decide +kernel
theorem dX11_shutsBy_44 : decode cX11_shutsBy 44 = .ok (.getfield 36, 3) := by decide +kernel
theorem dX11_shutsBy_47 : decode cX11_shutsBy 47 = .ok (.getfield 153, 3) := by decide +kernel
theorem dX11_shutsBy_50 : decode cX11_shutsBy 50 = .ok (.invokevirtual 262, 3) := by decide +kernel
theorem dX11_shutsBy_53 : decode cX11_shutsBy 53 = .ok (.aload_n 0, 1) := by decide +kernel
theorem dX11_shutsBy_54 : decode cX11_shutsBy 54 = .ok (.getfield 94, 3) := by decide +kernel
theorem dX11_shutsBy_57 : decode cX11_shutsBy 57 = .ok (.iload_n 2, 1) := by decide +kernel
theorem dX11_shutsBy_58 : decode cX11_shutsBy 58 = .ok (.invokevirtual 289, 3) := by decide +kernel
theorem dX11_shutsBy_61 : decode cX11_shutsBy 61 = .ok (.aload_n 0, 1) := by decide +kernel
theorem dX11_shutsBy_62 : decode cX11_shutsBy 62 = .ok (.getfield 94, 3) := by decide +kernel
theorem dX11_shutsBy_65 : decode cX11_shutsBy 65 = .ok (.getfield 308, 3) := by decide +kernel
theorem dX11_shutsBy_68 : decode cX11_shutsBy 68 = .ok (.iload_n 1, 1) := by decide +kernel
theorem dX11_shutsBy_69 : decode cX11_shutsBy 69 = .ok (.laload, 1) := by decide +kernel
theorem dX11_shutsBy_70 : decode cX11_shutsBy 70 = .ok (.aload_n 0, 1) := by decide +kernel
theorem dX11_shutsBy_71 : decode cX11_shutsBy 71 = .ok (.getfield 94, 3) := by decide +kernel
theorem dX11_shutsBy_74 : decode cX11_shutsBy 74 = .ok (.getfield 296, 3) := by decide +kernel
theorem dX11_shutsBy_77 : decode cX11_shutsBy 77 = .ok (.iload_n 3, 1) := by decide +kernel
theorem dX11_shutsBy_78 : decode cX11_shutsBy 78 = .ok (.invokestatic 300, 3) := by decide +kernel
theorem dX11_shutsBy_81 : decode cX11_shutsBy 81 = .ok (.lreturn, 1) := by decide +kernel
theorem dX11_closer_0 : decode cX11_closer 0 = .ok (.iload_n 1, 1) := by decide +kernel
theorem dX11_closer_1 : decode cX11_closer 1 = .ok (.ifCond .lt 9, 3) := by decide +kernel
theorem dX11_closer_4 : decode cX11_closer 4 = .ok (.iload_n 1, 1) := by decide +kernel
theorem dX11_closer_5 : decode cX11_closer 5 = .ok (.bipush 10, 2) := by decide +kernel
theorem dX11_closer_7 : decode cX11_closer 7 = .ok (.if_icmp .le 6, 3) := by decide +kernel
theorem dX11_closer_10 : decode cX11_closer 10 = .ok (.bipush (-3), 2) := by decide +kernel
theorem dX11_closer_12 : decode cX11_closer 12 = .ok (.ireturn, 1) := by decide +kernel
theorem dX11_closer_13 : decode cX11_closer 13 = .ok (.aload_n 0, 1) := by decide +kernel
theorem dX11_closer_14 : decode cX11_closer 14 = .ok (.getfield 94, 3) := by decide +kernel
theorem dX11_closer_17 : decode cX11_closer 17 = .ok (.aload_n 0, 1) := by decide +kernel
theorem dX11_closer_18 : decode cX11_closer 18 = .ok (.getfield 26, 3) := by decide +kernel
theorem dX11_closer_21 : decode cX11_closer 21 = .ok (.aload_n 0, 1) := by decide +kernel
theorem dX11_closer_22 : decode cX11_closer 22 = .ok (.getfield 36, 3) := by decide +kernel
theorem dX11_closer_25 : decode cX11_closer 25 = .ok (.aload_n 0, 1) := by decide +kernel
theorem dX11_closer_26 : decode cX11_closer 26 = .ok (.getfield 36, 3) := by decide +kernel
theorem dX11_closer_29 : decode cX11_closer 29 = .ok (.getfield 153, 3) := by decide +kernel
theorem dX11_closer_32 : decode cX11_closer 32 = .ok (.invokevirtual 262, 3) := by decide +kernel
theorem dX11_closer_35 : decode cX11_closer 35 = .ok (.aload_n 0, 1) := by decide +kernel
theorem dX11_closer_36 : decode cX11_closer 36 = .ok (.getfield 94, 3) := by decide +kernel
theorem dX11_closer_39 : decode cX11_closer 39 = .ok (.iload_n 1, 1) := by decide +kernel
theorem dX11_closer_40 : decode cX11_closer 40 = .ok (.invokevirtual 289, 3) := by decide +kernel
theorem dX11_closer_43 : decode cX11_closer 43 = .ok (.iconst (-1), 1) := by decide +kernel
theorem dX11_closer_44 : decode cX11_closer 44 = .ok (.istore_n 2, 1) := by decide +kernel
theorem dX11_closer_45 : decode cX11_closer 45 = .ok (.lconst 0, 1) := by decide +kernel
theorem dX11_closer_46 : decode cX11_closer 46 = .ok (.lstore_n 3, 1) := by decide +kernel
theorem dX11_closer_47 : decode cX11_closer 47 = .ok (.iconst 0, 1) := by decide +kernel
theorem dX11_closer_48 : decode cX11_closer 48 = .ok (.istore 5, 2) := by decide +kernel
theorem dX11_closer_50 : decode cX11_closer 50 = .ok (.iload 5, 2) := by decide +kernel
theorem dX11_closer_52 : decode cX11_closer 52 = .ok (.aload_n 0, 1) := by decide +kernel
theorem dX11_closer_53 : decode cX11_closer 53 = .ok (.getfield 26, 3) := by decide +kernel
theorem dX11_closer_56 : decode cX11_closer 56 = .ok (.getfield 163, 3) := by decide +kernel
theorem dX11_closer_59 : decode cX11_closer 59 = .ok (.if_icmp .ge 38, 3) := by decide +kernel
theorem dX11_closer_62 : decode cX11_closer 62 = .ok (.aload_n 0, 1) := by decide +kernel
theorem dX11_closer_63 : decode cX11_closer 63 = .ok (.getfield 94, 3) := by decide +kernel
theorem dX11_closer_66 : decode cX11_closer 66 = .ok (.getfield 308, 3) := by decide +kernel
theorem dX11_closer_69 : decode cX11_closer 69 = .ok (.iload 5, 2) := by decide +kernel
theorem dX11_closer_71 : decode cX11_closer 71 = .ok (.laload, 1) := by decide +kernel
theorem dX11_closer_72 : decode cX11_closer 72 = .ok (.lload_n 3, 1) := by decide +kernel
theorem dX11_closer_73 : decode cX11_closer 73 = .ok (.lcmp, 1) := by decide +kernel
theorem dX11_closer_74 : decode cX11_closer 74 = .ok (.ifCond .le 17, 3) := by decide +kernel
theorem dX11_closer_77 : decode cX11_closer 77 = .ok (.aload_n 0, 1) := by decide +kernel
theorem dX11_closer_78 : decode cX11_closer 78 = .ok (.getfield 94, 3) := by decide +kernel
theorem dX11_closer_81 : decode cX11_closer 81 = .ok (.getfield 308, 3) := by decide +kernel
theorem dX11_closer_84 : decode cX11_closer 84 = .ok (.iload 5, 2) := by decide +kernel
theorem dX11_closer_86 : decode cX11_closer 86 = .ok (.laload, 1) := by decide +kernel
theorem dX11_closer_87 : decode cX11_closer 87 = .ok (.lstore_n 3, 1) := by decide +kernel
theorem dX11_closer_88 : decode cX11_closer 88 = .ok (.iload 5, 2) := by decide +kernel
theorem dX11_closer_90 : decode cX11_closer 90 = .ok (.istore_n 2, 1) := by decide +kernel
theorem dX11_closer_91 : decode cX11_closer 91 = .ok (.iinc 5 1, 3) := by decide +kernel
theorem dX11_closer_94 : decode cX11_closer 94 = .ok (.goto (-44), 3) := by decide +kernel
theorem dX11_closer_97 : decode cX11_closer 97 = .ok (.iload_n 2, 1) := by decide +kernel
theorem dX11_closer_98 : decode cX11_closer 98 = .ok (.ireturn, 1) := by decide +kernel
theorem dX11_soldIn_0 : decode cX11_soldIn 0 = .ok (.aload_n 0, 1) := by decide +kernel
theorem dX11_soldIn_1 : decode cX11_soldIn 1 = .ok (.iload_n 1, 1) := by decide +kernel
theorem dX11_soldIn_2 : decode cX11_soldIn 2 = .ok (.invokevirtual 140, 3) := by decide +kernel
theorem dX11_soldIn_5 : decode cX11_soldIn 5 = .ok (.ifCond .eq 13, 3) := by decide +kernel
theorem dX11_soldIn_8 : decode cX11_soldIn 8 = .ok (.iload_n 3, 1) := by decide +kernel
theorem dX11_soldIn_9 : decode cX11_soldIn 9 = .ok (.iload_n 2, 1) := by decide +kernel
theorem dX11_soldIn_10 : decode cX11_soldIn 10 = .ok (.bipush 10, 2) := by decide +kernel
theorem dX11_soldIn_12 : decode cX11_soldIn 12 = .ok (.invokestatic 286, 3) := by decide +kernel
theorem dX11_soldIn_15 : decode cX11_soldIn 15 = .ok (.goto 5, 3) := by decide +kernel
theorem dX11_soldIn_18 : decode cX11_soldIn 18 = .ok (.bipush (-2), 2) := by decide +kernel
theorem dX11_soldIn_20 : decode cX11_soldIn 20 = .ok (.istore 4, 2) := by decide +kernel
theorem dX11_soldIn_22 : decode cX11_soldIn 22 = .ok (.iload 4, 2) := by decide +kernel
theorem dX11_soldIn_24 : decode cX11_soldIn 24 = .ok (.ifCond .eq 7, 3) := by decide +kernel
theorem dX11_soldIn_27 : decode cX11_soldIn 27 = .ok (.iload 4, 2) := by decide +kernel
theorem dX11_soldIn_29 : decode cX11_soldIn 29 = .ok (.i2l, 1) := by decide +kernel
theorem dX11_soldIn_30 : decode cX11_soldIn 30 = .ok (.lreturn, 1) := by decide +kernel
theorem dX11_soldIn_31 : decode cX11_soldIn 31 = .ok (.aload_n 0, 1) := by decide +kernel
theorem dX11_soldIn_32 : decode cX11_soldIn 32 = .ok (.getfield 94, 3) := by decide +kernel
theorem dX11_soldIn_35 : decode cX11_soldIn 35 = .ok (.aload_n 0, 1) := by decide +kernel
theorem dX11_soldIn_36 : decode cX11_soldIn 36 = .ok (.getfield 26, 3) := by decide +kernel
theorem dX11_soldIn_39 : decode cX11_soldIn 39 = .ok (.aload_n 0, 1) := by decide +kernel
theorem dX11_soldIn_40 : decode cX11_soldIn 40 = .ok (.getfield 36, 3) := by decide +kernel
theorem dX11_soldIn_43 : decode cX11_soldIn 43 = .ok (.aload_n 0, 1) := by decide +kernel
theorem dX11_soldIn_44 : decode cX11_soldIn 44 = .ok (.getfield 36, 3) := by decide +kernel
theorem dX11_soldIn_47 : decode cX11_soldIn 47 = .ok (.getfield 153, 3) := by decide +kernel
theorem dX11_soldIn_50 : decode cX11_soldIn 50 = .ok (.invokevirtual 262, 3) := by decide +kernel
theorem dX11_soldIn_53 : decode cX11_soldIn 53 = .ok (.aload_n 0, 1) := by decide +kernel
theorem dX11_soldIn_54 : decode cX11_soldIn 54 = .ok (.getfield 94, 3) := by decide +kernel
theorem dX11_soldIn_57 : decode cX11_soldIn 57 = .ok (.iload_n 2, 1) := by decide +kernel
theorem dX11_soldIn_58 : decode cX11_soldIn 58 = .ok (.invokevirtual 289, 3) := by decide +kernel
theorem dX11_soldIn_61 : decode cX11_soldIn 61 = .ok (.aload_n 0, 1) := by decide +kernel
theorem dX11_soldIn_62 : decode cX11_soldIn 62 = .ok (.getfield 94, 3) := by decide +kernel
theorem dX11_soldIn_65 : decode cX11_soldIn 65 = .ok (.iload_n 1, 1) := by decide +kernel
theorem dX11_soldIn_66 : decode cX11_soldIn 66 = .ok (.invokevirtual 312, 3) := by decide +kernel
theorem dX11_soldIn_69 : decode cX11_soldIn 69 = .ok (.aload_n 0, 1) := by decide +kernel
theorem dX11_soldIn_70 : decode cX11_soldIn 70 = .ok (.getfield 94, 3) := by decide +kernel
theorem dX11_soldIn_73 : decode cX11_soldIn 73 = .ok (.getfield 296, 3) := by decide +kernel
theorem dX11_soldIn_76 : decode cX11_soldIn 76 = .ok (.iload_n 3, 1) := by decide +kernel
theorem dX11_soldIn_77 : decode cX11_soldIn 77 = .ok (.invokestatic 300, 3) := by decide +kernel
theorem dX11_soldIn_80 : decode cX11_soldIn 80 = .ok (.lreturn, 1) := by decide +kernel
theorem dX11_chanceRefusal_0 : decode cX11_chanceRefusal 0 = .ok (.iload_n 0, 1) := by decide +kernel
theorem dX11_chanceRefusal_1 : decode cX11_chanceRefusal 1 = .ok (.ifCond .lt 8, 3) := by decide +kernel
theorem dX11_chanceRefusal_4 : decode cX11_chanceRefusal 4 = .ok (.iload_n 0, 1) := by decide +kernel
theorem dX11_chanceRefusal_5 : decode cX11_chanceRefusal 5 = .ok (.iconst 1, 1) := by decide +kernel
theorem dX11_chanceRefusal_6 : decode cX11_chanceRefusal 6 = .ok (.if_icmp .le 6, 3) := by decide +kernel
theorem dX11_chanceRefusal_9 : decode cX11_chanceRefusal 9 = .ok (.bipush (-2), 2) := by decide +kernel
theorem dX11_chanceRefusal_11 : decode cX11_chanceRefusal 11 = .ok (.ireturn, 1) := by decide +kernel
theorem dX11_chanceRefusal_12 : decode cX11_chanceRefusal 12 = .ok (.iload_n 1, 1) := by decide +kernel
theorem dX11_chanceRefusal_13 : decode cX11_chanceRefusal 13 = .ok (.ifCond .lt 8, 3) := by decide +kernel
theorem dX11_chanceRefusal_16 : decode cX11_chanceRefusal 16 = .ok (.iload_n 1, 1) := by decide +kernel
theorem dX11_chanceRefusal_17 : decode cX11_chanceRefusal 17 = .ok (.iload_n 2, 1) := by decide +kernel
theorem dX11_chanceRefusal_18 : decode cX11_chanceRefusal 18 = .ok (.if_icmp .le 8, 3) := by decide +kernel
theorem dX11_chanceRefusal_21 : decode cX11_chanceRefusal 21 = .ok (.bipush (-3), 2) := by decide +kernel
theorem dX11_chanceRefusal_23 : decode cX11_chanceRefusal 23 = .ok (.goto 4, 3) := by decide +kernel
theorem dX11_chanceRefusal_26 : decode cX11_chanceRefusal 26 = .ok (.iconst 0, 1) := by decide +kernel
theorem dX11_chanceRefusal_27 : decode cX11_chanceRefusal 27 = .ok (.ireturn, 1) := by decide +kernel
theorem dX11_inLowestTerms_0 : decode cX11_inLowestTerms 0 = .ok (.lload_n 0, 1) := by decide +kernel
theorem dX11_inLowestTerms_1 : decode cX11_inLowestTerms 1 = .ok (.lload_n 2, 1) := by decide +kernel
theorem dX11_inLowestTerms_2 : decode cX11_inLowestTerms 2 = .ok (.invokestatic 315, 3) := by decide +kernel
theorem dX11_inLowestTerms_5 : decode cX11_inLowestTerms 5 = .ok (.lstore 5, 2) := by decide +kernel
theorem dX11_inLowestTerms_7 : decode cX11_inLowestTerms 7 = .ok (.iload 4, 2) := by decide +kernel
theorem dX11_inLowestTerms_9 : decode cX11_inLowestTerms 9 = .ok (.ifCond .ne 7, 3) := by decide +kernel
theorem dX11_inLowestTerms_12 : decode cX11_inLowestTerms 12 = .ok (.lload_n 0, 1) := by decide +kernel
theorem dX11_inLowestTerms_13 : decode cX11_inLowestTerms 13 = .ok (.goto 4, 3) := by decide +kernel
theorem dX11_inLowestTerms_16 : decode cX11_inLowestTerms 16 = .ok (.lload_n 2, 1) := by decide +kernel
theorem dX11_inLowestTerms_17 : decode cX11_inLowestTerms 17 = .ok (.lstore 7, 2) := by decide +kernel
theorem dX11_inLowestTerms_19 : decode cX11_inLowestTerms 19 = .ok (.lload 5, 2) := by decide +kernel
theorem dX11_inLowestTerms_21 : decode cX11_inLowestTerms 21 = .ok (.lconst 0, 1) := by decide +kernel
theorem dX11_inLowestTerms_22 : decode cX11_inLowestTerms 22 = .ok (.lcmp, 1) := by decide +kernel
theorem dX11_inLowestTerms_23 : decode cX11_inLowestTerms 23 = .ok (.ifCond .le 11, 3) := by decide +kernel
theorem dX11_inLowestTerms_26 : decode cX11_inLowestTerms 26 = .ok (.lload 7, 2) := by decide +kernel
theorem dX11_inLowestTerms_28 : decode cX11_inLowestTerms 28 = .ok (.lload 5, 2) := by decide +kernel
theorem dX11_inLowestTerms_30 : decode cX11_inLowestTerms 30 = .ok (.ldiv, 1) := by decide +kernel
theorem dX11_inLowestTerms_31 : decode cX11_inLowestTerms 31 = .ok (.goto 5, 3) := by decide +kernel
theorem dX11_inLowestTerms_34 : decode cX11_inLowestTerms 34 = .ok (.lload 7, 2) := by decide +kernel
theorem dX11_inLowestTerms_36 : decode cX11_inLowestTerms 36 = .ok (.lreturn, 1) := by decide +kernel
theorem dX11_commonDivisor_0 : decode cX11_commonDivisor 0 = .ok (.lload_n 0, 1) := by decide +kernel
theorem dX11_commonDivisor_1 : decode cX11_commonDivisor 1 = .ok (.lstore 4, 2) := by decide +kernel
theorem dX11_commonDivisor_3 : decode cX11_commonDivisor 3 = .ok (.lload_n 2, 1) := by decide +kernel
theorem dX11_commonDivisor_4 : decode cX11_commonDivisor 4 = .ok (.lstore 6, 2) := by decide +kernel
theorem dX11_commonDivisor_6 : decode cX11_commonDivisor 6 = .ok (.iconst 0, 1) := by decide +kernel
theorem dX11_commonDivisor_7 : decode cX11_commonDivisor 7 = .ok (.istore 8, 2) := by decide +kernel
theorem dX11_commonDivisor_9 : decode cX11_commonDivisor 9 = .ok (.iload 8, 2) := by decide +kernel
theorem dX11_commonDivisor_11 : decode cX11_commonDivisor 11 = .ok (.sipush 200, 3) := by decide +kernel
theorem dX11_commonDivisor_14 : decode cX11_commonDivisor 14 = .ok (.if_icmp .ge 31, 3) := by decide +kernel
theorem dX11_commonDivisor_17 : decode cX11_commonDivisor 17 = .ok (.lload 6, 2) := by decide +kernel
theorem dX11_commonDivisor_19 : decode cX11_commonDivisor 19 = .ok (.lconst 0, 1) := by decide +kernel
theorem dX11_commonDivisor_20 : decode cX11_commonDivisor 20 = .ok (.lcmp, 1) := by decide +kernel
theorem dX11_commonDivisor_21 : decode cX11_commonDivisor 21 = .ok (.ifCond .eq 24, 3) := by decide +kernel
theorem dX11_commonDivisor_24 : decode cX11_commonDivisor 24 = .ok (.lload 4, 2) := by decide +kernel
theorem dX11_commonDivisor_26 : decode cX11_commonDivisor 26 = .ok (.lload 6, 2) := by decide +kernel
theorem dX11_commonDivisor_28 : decode cX11_commonDivisor 28 = .ok (.lrem, 1) := by decide +kernel
theorem dX11_commonDivisor_29 : decode cX11_commonDivisor 29 = .ok (.lstore 9, 2) := by decide +kernel
theorem dX11_commonDivisor_31 : decode cX11_commonDivisor 31 = .ok (.lload 6, 2) := by decide +kernel
theorem dX11_commonDivisor_33 : decode cX11_commonDivisor 33 = .ok (.lstore 4, 2) := by decide +kernel
theorem dX11_commonDivisor_35 : decode cX11_commonDivisor 35 = .ok (.lload 9, 2) := by decide +kernel
theorem dX11_commonDivisor_37 : decode cX11_commonDivisor 37 = .ok (.lstore 6, 2) := by decide +kernel
theorem dX11_commonDivisor_39 : decode cX11_commonDivisor 39 = .ok (.iinc 8 1, 3) := by decide +kernel
theorem dX11_commonDivisor_42 : decode cX11_commonDivisor 42 = .ok (.goto (-33), 3) := by decide +kernel
theorem dX11_commonDivisor_45 : decode cX11_commonDivisor 45 = .ok (.lload 4, 2) := by decide +kernel
theorem dX11_commonDivisor_47 : decode cX11_commonDivisor 47 = .ok (.lreturn, 1) := by decide +kernel
theorem dX11_hundredths_0 : decode cX11_hundredths 0 = .ok (.lload_n 2, 1) := by decide +kernel
theorem dX11_hundredths_1 : decode cX11_hundredths 1 = .ok (.lconst 0, 1) := by decide +kernel
theorem dX11_hundredths_2 : decode cX11_hundredths 2 = .ok (.lcmp, 1) := by decide +kernel
theorem dX11_hundredths_3 : decode cX11_hundredths 3 = .ok (.ifCond .gt 5, 3) := by decide +kernel
theorem dX11_hundredths_6 : decode cX11_hundredths 6 = .ok (.lconst 0, 1) := by decide +kernel
theorem dX11_hundredths_7 : decode cX11_hundredths 7 = .ok (.lreturn, 1) := by decide +kernel
theorem dX11_hundredths_8 : decode cX11_hundredths 8 = .ok (.lload_n 0, 1) := by decide +kernel
theorem dX11_hundredths_9 : decode cX11_hundredths 9 = .ok (.ldc2_w 318, 3) := by decide +kernel
theorem dX11_hundredths_12 : decode cX11_hundredths 12 = .ok (.lmul, 1) := by decide +kernel
theorem dX11_hundredths_13 : decode cX11_hundredths 13 = .ok (.lload_n 2, 1) := by decide +kernel
theorem dX11_hundredths_14 : decode cX11_hundredths 14 = .ok (.ldiv, 1) := by decide +kernel
theorem dX11_hundredths_15 : decode cX11_hundredths 15 = .ok (.lstore 4, 2) := by decide +kernel
theorem dX11_hundredths_17 : decode cX11_hundredths 17 = .ok (.lload_n 0, 1) := by decide +kernel
theorem dX11_hundredths_18 : decode cX11_hundredths 18 = .ok (.ldc2_w 318, 3) := by decide +kernel
theorem dX11_hundredths_21 : decode cX11_hundredths 21 = .ok (.lmul, 1) := by decide +kernel
theorem dX11_hundredths_22 : decode cX11_hundredths 22 = .ok (.lload_n 2, 1) := by decide +kernel
theorem dX11_hundredths_23 : decode cX11_hundredths 23 = .ok (.lrem, 1) := by decide +kernel
theorem dX11_hundredths_24 : decode cX11_hundredths 24 = .ok (.lstore 6, 2) := by decide +kernel
theorem dX11_hundredths_26 : decode cX11_hundredths 26 = .ok (.lload 4, 2) := by decide +kernel
theorem dX11_hundredths_28 : decode cX11_hundredths 28 = .ok (.ldc2_w 318, 3) := by decide +kernel
theorem dX11_hundredths_31 : decode cX11_hundredths 31 = .ok (.lmul, 1) := by decide +kernel
theorem dX11_hundredths_32 : decode cX11_hundredths 32 = .ok (.lload 6, 2) := by decide +kernel
theorem dX11_hundredths_34 : decode cX11_hundredths 34 = .ok (.ldc2_w 318, 3) := by decide +kernel
theorem dX11_hundredths_37 : decode cX11_hundredths 37 = .ok (.lmul, 1) := by decide +kernel
theorem dX11_hundredths_38 : decode cX11_hundredths 38 = .ok (.lload_n 2, 1) := by decide +kernel
theorem dX11_hundredths_39 : decode cX11_hundredths 39 = .ok (.ldiv, 1) := by decide +kernel
theorem dX11_hundredths_40 : decode cX11_hundredths 40 = .ok (.ladd, 1) := by decide +kernel
theorem dX11_hundredths_41 : decode cX11_hundredths 41 = .ok (.lreturn, 1) := by decide +kernel
theorem dX11_hides_0 : decode cX11_hides 0 = .ok (.iload_n 3, 1) := by decide +kernel
theorem dX11_hides_1 : decode cX11_hides 1 = .ok (.ifCond .lt 8, 3) := by decide +kernel
theorem dX11_hides_4 : decode cX11_hides 4 = .ok (.iload_n 3, 1) := by decide +kernel
theorem dX11_hides_5 : decode cX11_hides 5 = .ok (.iconst 1, 1) := by decide +kernel
theorem dX11_hides_6 : decode cX11_hides 6 = .ok (.if_icmp .le 6, 3) := by decide +kernel
theorem dX11_hides_9 : decode cX11_hides 9 = .ok (.bipush (-2), 2) := by decide +kernel
theorem dX11_hides_11 : decode cX11_hides 11 = .ok (.ireturn, 1) := by decide +kernel
theorem dX11_hides_12 : decode cX11_hides 12 = .ok (.iload_n 1, 1) := by decide +kernel
theorem dX11_hides_13 : decode cX11_hides 13 = .ok (.ifCond .lt 19, 3) := by decide +kernel
theorem dX11_hides_16 : decode cX11_hides 16 = .ok (.iload_n 1, 1) := by decide +kernel
theorem dX11_hides_17 : decode cX11_hides 17 = .ok (.iconst 3, 1) := by decide +kernel
theorem dX11_hides_18 : decode cX11_hides 18 = .ok (.if_icmp .gt 14, 3) := by decide +kernel
theorem dX11_hides_21 : decode cX11_hides 21 = .ok (.iload_n 2, 1) := by decide +kernel
theorem dX11_hides_22 : decode cX11_hides 22 = .ok (.iconst 1, 1) := by decide +kernel
theorem dX11_hides_23 : decode cX11_hides 23 = .ok (.if_icmp .lt 9, 3) := by decide +kernel
theorem dX11_hides_26 : decode cX11_hides 26 = .ok (.iload_n 2, 1) := by decide +kernel
theorem dX11_hides_27 : decode cX11_hides 27 = .ok (.bipush 6, 2) := by decide +kernel
theorem dX11_hides_29 : decode cX11_hides 29 = .ok (.if_icmp .le 6, 3) := by decide +kernel
theorem dX11_hides_32 : decode cX11_hides 32 = .ok (.bipush (-3), 2) := by decide +kernel
theorem dX11_hides_34 : decode cX11_hides 34 = .ok (.ireturn, 1) := by decide +kernel
theorem dX11_hides_35 : decode cX11_hides 35 = .ok (.aload_n 0, 1) := by decide +kernel
theorem dX11_hides_36 : decode cX11_hides 36 = .ok (.getfield 36, 3) := by decide +kernel
theorem dX11_hides_39 : decode cX11_hides 39 = .ok (.invokevirtual 320, 3) := by decide +kernel
theorem dX11_hides_42 : decode cX11_hides 42 = .ok (.ifCond .eq 6, 3) := by decide +kernel
theorem dX11_hides_45 : decode cX11_hides 45 = .ok (.bipush (-5), 2) := by decide +kernel
theorem dX11_hides_47 : decode cX11_hides 47 = .ok (.ireturn, 1) := by decide +kernel
theorem dX11_hides_48 : decode cX11_hides 48 = .ok (.iconst 0, 1) := by decide +kernel
theorem dX11_hides_49 : decode cX11_hides 49 = .ok (.istore 4, 2) := by decide +kernel
theorem dX11_hides_51 : decode cX11_hides 51 = .ok (.ldc2_w 219, 3) := by decide +kernel
theorem dX11_hides_54 : decode cX11_hides 54 = .ok (.lstore 5, 2) := by decide +kernel
theorem dX11_hides_56 : decode cX11_hides 56 = .ok (.iconst 0, 1) := by decide +kernel
theorem dX11_hides_57 : decode cX11_hides 57 = .ok (.istore 7, 2) := by decide +kernel
theorem dX11_hides_59 : decode cX11_hides 59 = .ok (.iload 7, 2) := by decide +kernel
theorem dX11_hides_61 : decode cX11_hides 61 = .ok (.iload_n 1, 1) := by decide +kernel
theorem dX11_hides_62 : decode cX11_hides 62 = .ok (.if_icmp .gt 109, 3) := by decide +kernel
theorem dX11_hides_65 : decode cX11_hides 65 = .ok (.iconst 0, 1) := by decide +kernel
theorem dX11_hides_66 : decode cX11_hides 66 = .ok (.istore 8, 2) := by decide +kernel
theorem dX11_hides_68 : decode cX11_hides 68 = .ok (.iload 8, 2) := by decide +kernel
theorem dX11_hides_70 : decode cX11_hides 70 = .ok (.aload_n 0, 1) := by decide +kernel
theorem dX11_hides_71 : decode cX11_hides 71 = .ok (.getfield 36, 3) := by decide +kernel
theorem dX11_hides_74 : decode cX11_hides 74 = .ok (.invokevirtual 323, 3) := by decide +kernel
theorem dX11_hides_77 : decode cX11_hides 77 = .ok (.if_icmp .gt 88, 3) := by decide +kernel
theorem dX11_hides_80 : decode cX11_hides 80 = .ok (.aload_n 0, 1) := by decide +kernel
theorem dX11_hides_81 : decode cX11_hides 81 = .ok (.iload 8, 2) := by decide +kernel
theorem dX11_hides_83 : decode cX11_hides 83 = .ok (.iload 7, 2) := by decide +kernel
theorem dX11_hides_85 : decode cX11_hides 85 = .ok (.invokevirtual 326, 3) := by decide +kernel
theorem dX11_hides_88 : decode cX11_hides 88 = .ok (.ifCond .eq 71, 3) := by decide +kernel
theorem dX11_hides_91 : decode cX11_hides 91 = .ok (.aload_n 0, 1) := by decide +kernel
theorem dX11_hides_92 : decode cX11_hides 92 = .ok (.getfield 94, 3) := by decide +kernel
theorem dX11_hides_95 : decode cX11_hides 95 = .ok (.aload_n 0, 1) := by decide +kernel
theorem dX11_hides_96 : decode cX11_hides 96 = .ok (.getfield 26, 3) := by decide +kernel
theorem dX11_hides_99 : decode cX11_hides 99 = .ok (.aload_n 0, 1) := by decide +kernel
theorem dX11_hides_100 : decode cX11_hides 100 = .ok (.getfield 36, 3) := by decide +kernel
theorem dX11_hides_103 : decode cX11_hides 103 = .ok (.aload_n 0, 1) := by decide +kernel
theorem dX11_hides_104 : decode cX11_hides 104 = .ok (.getfield 36, 3) := by decide +kernel
theorem dX11_hides_107 : decode cX11_hides 107 = .ok (.getfield 153, 3) := by decide +kernel
theorem dX11_hides_110 : decode cX11_hides 110 = .ok (.iload 8, 2) := by decide +kernel
theorem dX11_hides_112 : decode cX11_hides 112 = .ok (.ior, 1) := by decide +kernel
theorem dX11_hides_113 : decode cX11_hides 113 = .ok (.invokevirtual 262, 3) := by decide +kernel
theorem dX11_hides_116 : decode cX11_hides 116 = .ok (.aload_n 0, 1) := by decide +kernel
theorem dX11_hides_117 : decode cX11_hides 117 = .ok (.getfield 94, 3) := by decide +kernel
theorem dX11_hides_120 : decode cX11_hides 120 = .ok (.iload_n 2, 1) := by decide +kernel
theorem dX11_hides_121 : decode cX11_hides 121 = .ok (.invokevirtual 289, 3) := by decide +kernel
theorem dX11_hides_124 : decode cX11_hides 124 = .ok (.aload_n 0, 1) := by decide +kernel
theorem dX11_hides_125 : decode cX11_hides 125 = .ok (.getfield 94, 3) := by decide +kernel
theorem dX11_hides_128 : decode cX11_hides 128 = .ok (.invokevirtual 292, 3) := by decide +kernel
theorem dX11_hides_131 : decode cX11_hides 131 = .ok (.lstore 9, 2) := by decide +kernel
theorem dX11_hides_133 : decode cX11_hides 133 = .ok (.lload 9, 2) := by decide +kernel
theorem dX11_hides_135 : decode cX11_hides 135 = .ok (.lload 5, 2) := by decide +kernel
theorem dX11_hides_137 : decode cX11_hides 137 = .ok (.lcmp, 1) := by decide +kernel
theorem dX11_hides_138 : decode cX11_hides 138 = .ok (.ifCond .le 8, 3) := by decide +kernel
theorem dX11_hides_141 : decode cX11_hides 141 = .ok (.iload 8, 2) := by decide +kernel
theorem dX11_hides_143 : decode cX11_hides 143 = .ok (.goto 5, 3) := by decide +kernel
theorem dX11_hides_146 : decode cX11_hides 146 = .ok (.iload 4, 2) := by decide +kernel
theorem dX11_hides_148 : decode cX11_hides 148 = .ok (.istore 4, 2) := by decide +kernel
theorem dX11_hides_150 : decode cX11_hides 150 = .ok (.lload 5, 2) := by decide +kernel
theorem dX11_hides_152 : decode cX11_hides 152 = .ok (.lload 9, 2) := by decide +kernel
theorem dX11_hides_154 : decode cX11_hides 154 = .ok (.invokestatic 330, 3) := by decide +kernel
theorem dX11_hides_157 : decode cX11_hides 157 = .ok (.lstore 5, 2) := by decide +kernel
theorem dX11_hides_159 : decode cX11_hides 159 = .ok (.iinc 8 1, 3) := by decide +kernel
theorem dX11_hides_162 : decode cX11_hides 162 = .ok (.goto (-94), 3) := by decide +kernel
theorem dX11_hides_165 : decode cX11_hides 165 = .ok (.iinc 7 1, 3) := by decide +kernel
theorem dX11_hides_168 : decode cX11_hides 168 = .ok (.goto (-109), 3) := by decide +kernel
theorem dX11_hides_171 : decode cX11_hides 171 = .ok (.iload_n 3, 1) := by decide +kernel
theorem dX11_hides_172 : decode cX11_hides 172 = .ok (.ifCond .ne 11, 3) := by decide +kernel
theorem dX11_hides_175 : decode cX11_hides 175 = .ok (.iload 4, 2) := by decide +kernel
theorem dX11_hides_177 : decode cX11_hides 177 = .ok (.invokestatic 333, 3) := by decide +kernel
theorem dX11_hides_180 : decode cX11_hides 180 = .ok (.goto 5, 3) := by decide +kernel
theorem dX11_hides_183 : decode cX11_hides 183 = .ok (.iload 4, 2) := by decide +kernel
theorem dX11_hides_185 : decode cX11_hides 185 = .ok (.ireturn, 1) := by decide +kernel
theorem dX11_isHideable_0 : decode cX11_isHideable 0 = .ok (.iload_n 1, 1) := by decide +kernel
theorem dX11_isHideable_1 : decode cX11_isHideable 1 = .ok (.invokestatic 333, 3) := by decide +kernel
theorem dX11_isHideable_4 : decode cX11_isHideable 4 = .ok (.iload_n 2, 1) := by decide +kernel
theorem dX11_isHideable_5 : decode cX11_isHideable 5 = .ok (.if_icmp .ne 19, 3) := by decide +kernel
theorem dX11_isHideable_8 : decode cX11_isHideable 8 = .ok (.iload_n 1, 1) := by decide +kernel
theorem dX11_isHideable_9 : decode cX11_isHideable 9 = .ok (.aload_n 0, 1) := by decide +kernel
theorem dX11_isHideable_10 : decode cX11_isHideable 10 = .ok (.getfield 36, 3) := by decide +kernel
theorem dX11_isHideable_13 : decode cX11_isHideable 13 = .ok (.getfield 153, 3) := by decide +kernel
theorem dX11_isHideable_16 : decode cX11_isHideable 16 = .ok (.iand, 1) := by decide +kernel
theorem dX11_isHideable_17 : decode cX11_isHideable 17 = .ok (.ifCond .ne 7, 3) := by decide +kernel
theorem dX11_isHideable_20 : decode cX11_isHideable 20 = .ok (.iconst 1, 1) := by decide +kernel
theorem dX11_isHideable_21 : decode cX11_isHideable 21 = .ok (.goto 4, 3) := by decide +kernel
theorem dX11_isHideable_24 : decode cX11_isHideable 24 = .ok (.iconst 0, 1) := by decide +kernel
theorem dX11_isHideable_25 : decode cX11_isHideable 25 = .ok (.ireturn, 1) := by decide +kernel
theorem dX11_rota_0 : decode cX11_rota 0 = .ok (.iload_n 1, 1) := by decide +kernel
theorem dX11_rota_1 : decode cX11_rota 1 = .ok (.ifCond .lt 8, 3) := by decide +kernel
theorem dX11_rota_4 : decode cX11_rota 4 = .ok (.iload_n 1, 1) := by decide +kernel
theorem dX11_rota_5 : decode cX11_rota 5 = .ok (.iconst 1, 1) := by decide +kernel
theorem dX11_rota_6 : decode cX11_rota 6 = .ok (.if_icmp .le 6, 3) := by decide +kernel
theorem dX11_rota_9 : decode cX11_rota 9 = .ok (.bipush (-2), 2) := by decide +kernel
theorem dX11_rota_11 : decode cX11_rota 11 = .ok (.ireturn, 1) := by decide +kernel
theorem dX11_rota_12 : decode cX11_rota 12 = .ok (.aload_n 0, 1) := by decide +kernel
theorem dX11_rota_13 : decode cX11_rota 13 = .ok (.getfield 36, 3) := by decide +kernel
theorem dX11_rota_16 : decode cX11_rota 16 = .ok (.invokevirtual 320, 3) := by decide +kernel
theorem dX11_rota_19 : decode cX11_rota 19 = .ok (.ifCond .eq 6, 3) := by decide +kernel
theorem dX11_rota_22 : decode cX11_rota 22 = .ok (.bipush (-5), 2) := by decide +kernel
theorem dX11_rota_24 : decode cX11_rota 24 = .ok (.ireturn, 1) := by decide +kernel
theorem dX11_rota_25 : decode cX11_rota 25 = .ok (.aload_n 0, 1) := by decide +kernel
theorem dX11_rota_26 : decode cX11_rota 26 = .ok (.getfield 94, 3) := by decide +kernel
theorem dX11_rota_29 : decode cX11_rota 29 = .ok (.aload_n 0, 1) := by decide +kernel
theorem dX11_rota_30 : decode cX11_rota 30 = .ok (.getfield 26, 3) := by decide +kernel
theorem dX11_rota_33 : decode cX11_rota 33 = .ok (.aload_n 0, 1) := by decide +kernel
theorem dX11_rota_34 : decode cX11_rota 34 = .ok (.getfield 36, 3) := by decide +kernel
theorem dX11_rota_37 : decode cX11_rota 37 = .ok (.aload_n 0, 1) := by decide +kernel
theorem dX11_rota_38 : decode cX11_rota 38 = .ok (.getfield 36, 3) := by decide +kernel
theorem dX11_rota_41 : decode cX11_rota 41 = .ok (.getfield 153, 3) := by decide +kernel
theorem dX11_rota_44 : decode cX11_rota 44 = .ok (.invokevirtual 262, 3) := by decide +kernel
theorem dX11_rota_47 : decode cX11_rota 47 = .ok (.aload_n 0, 1) := by decide +kernel
theorem dX11_rota_48 : decode cX11_rota 48 = .ok (.getfield 94, 3) := by decide +kernel
theorem dX11_rota_51 : decode cX11_rota 51 = .ok (.invokevirtual 338, 3) := by decide +kernel
theorem dX11_rota_54 : decode cX11_rota 54 = .ok (.istore_n 2, 1) := by decide +kernel
theorem dX11_rota_55 : decode cX11_rota 55 = .ok (.iconst 0, 1) := by decide +kernel
theorem dX11_rota_56 : decode cX11_rota 56 = .ok (.istore_n 3, 1) := by decide +kernel
theorem dX11_rota_57 : decode cX11_rota 57 = .ok (.iload_n 3, 1) := by decide +kernel
theorem dX11_rota_58 : decode cX11_rota 58 = .ok (.aload_n 0, 1) := by decide +kernel
theorem dX11_rota_59 : decode cX11_rota 59 = .ok (.getfield 36, 3) := by decide +kernel
theorem dX11_rota_62 : decode cX11_rota 62 = .ok (.getfield 160, 3) := by decide +kernel
theorem dX11_rota_65 : decode cX11_rota 65 = .ok (.if_icmp .gt 101, 3) := by decide +kernel
theorem dX11_rota_68 : decode cX11_rota 68 = .ok (.iconst 0, 1) := by decide +kernel
theorem dX11_rota_69 : decode cX11_rota 69 = .ok (.istore 4, 2) := by decide +kernel
theorem dX11_rota_71 : decode cX11_rota 71 = .ok (.iload 4, 2) := by decide +kernel
theorem dX11_rota_73 : decode cX11_rota 73 = .ok (.aload_n 0, 1) := by decide +kernel
theorem dX11_rota_74 : decode cX11_rota 74 = .ok (.getfield 36, 3) := by decide +kernel
theorem dX11_rota_77 : decode cX11_rota 77 = .ok (.invokevirtual 323, 3) := by decide +kernel
theorem dX11_rota_80 : decode cX11_rota 80 = .ok (.if_icmp .gt 80, 3) := by decide +kernel
theorem dX11_rota_83 : decode cX11_rota 83 = .ok (.aload_n 0, 1) := by decide +kernel
theorem dX11_rota_84 : decode cX11_rota 84 = .ok (.iload 4, 2) := by decide +kernel
theorem dX11_rota_86 : decode cX11_rota 86 = .ok (.iload_n 3, 1) := by decide +kernel
theorem dX11_rota_87 : decode cX11_rota 87 = .ok (.invokevirtual 326, 3) := by decide +kernel
theorem dX11_rota_90 : decode cX11_rota 90 = .ok (.ifCond .eq 64, 3) := by decide +kernel
theorem dX11_rota_93 : decode cX11_rota 93 = .ok (.aload_n 0, 1) := by decide +kernel
theorem dX11_rota_94 : decode cX11_rota 94 = .ok (.getfield 94, 3) := by decide +kernel
theorem dX11_rota_97 : decode cX11_rota 97 = .ok (.aload_n 0, 1) := by decide +kernel
theorem dX11_rota_98 : decode cX11_rota 98 = .ok (.getfield 26, 3) := by decide +kernel
theorem dX11_rota_101 : decode cX11_rota 101 = .ok (.aload_n 0, 1) := by decide +kernel
theorem dX11_rota_102 : decode cX11_rota 102 = .ok (.getfield 36, 3) := by decide +kernel
theorem dX11_rota_105 : decode cX11_rota 105 = .ok (.aload_n 0, 1) := by decide +kernel
theorem dX11_rota_106 : decode cX11_rota 106 = .ok (.getfield 36, 3) := by decide +kernel
theorem dX11_rota_109 : decode cX11_rota 109 = .ok (.getfield 153, 3) := by decide +kernel
theorem dX11_rota_112 : decode cX11_rota 112 = .ok (.iload 4, 2) := by decide +kernel
theorem dX11_rota_114 : decode cX11_rota 114 = .ok (.ior, 1) := by decide +kernel
theorem dX11_rota_115 : decode cX11_rota 115 = .ok (.invokevirtual 262, 3) := by decide +kernel
theorem dX11_rota_118 : decode cX11_rota 118 = .ok (.iload_n 2, 1) := by decide +kernel
theorem dX11_rota_119 : decode cX11_rota 119 = .ok (.aload_n 0, 1) := by decide +kernel
theorem dX11_rota_120 : decode cX11_rota 120 = .ok (.getfield 94, 3) := by decide +kernel
theorem dX11_rota_123 : decode cX11_rota 123 = .ok (.invokevirtual 338, 3) := by decide +kernel
theorem dX11_rota_126 : decode cX11_rota 126 = .ok (.iconst (-1), 1) := by decide +kernel
theorem dX11_rota_127 : decode cX11_rota 127 = .ok (.ixor, 1) := by decide +kernel
theorem dX11_rota_128 : decode cX11_rota 128 = .ok (.iand, 1) := by decide +kernel
theorem dX11_rota_129 : decode cX11_rota 129 = .ok (.ifCond .ne 25, 3) := by decide +kernel
theorem dX11_rota_132 : decode cX11_rota 132 = .ok (.aload_n 0, 1) := by decide +kernel
theorem dX11_rota_133 : decode cX11_rota 133 = .ok (.getfield 94, 3) := by decide +kernel
theorem dX11_rota_136 : decode cX11_rota 136 = .ok (.invokevirtual 266, 3) := by decide +kernel
theorem dX11_rota_139 : decode cX11_rota 139 = .ok (.iconst (-1), 1) := by decide +kernel
theorem dX11_rota_140 : decode cX11_rota 140 = .ok (.if_icmp .ne 14, 3) := by decide +kernel
theorem dX11_rota_143 : decode cX11_rota 143 = .ok (.iload_n 1, 1) := by decide +kernel
theorem dX11_rota_144 : decode cX11_rota 144 = .ok (.ifCond .ne 7, 3) := by decide +kernel
theorem dX11_rota_147 : decode cX11_rota 147 = .ok (.iload_n 3, 1) := by decide +kernel
theorem dX11_rota_148 : decode cX11_rota 148 = .ok (.goto 5, 3) := by decide +kernel
theorem dX11_rota_151 : decode cX11_rota 151 = .ok (.iload 4, 2) := by decide +kernel
theorem dX11_rota_153 : decode cX11_rota 153 = .ok (.ireturn, 1) := by decide +kernel
theorem dX11_rota_154 : decode cX11_rota 154 = .ok (.iinc 4 1, 3) := by decide +kernel
theorem dX11_rota_157 : decode cX11_rota 157 = .ok (.goto (-86), 3) := by decide +kernel
theorem dX11_rota_160 : decode cX11_rota 160 = .ok (.iinc 3 1, 3) := by decide +kernel
theorem dX11_rota_163 : decode cX11_rota 163 = .ok (.goto (-106), 3) := by decide +kernel
theorem dX11_rota_166 : decode cX11_rota 166 = .ok (.iconst (-1), 1) := by decide +kernel
theorem dX11_rota_167 : decode cX11_rota 167 = .ok (.ireturn, 1) := by decide +kernel
theorem dX11_earns_0 : decode cX11_earns 0 = .ok (.iload_n 2, 1) := by decide +kernel
theorem dX11_earns_1 : decode cX11_earns 1 = .ok (.iload_n 1, 1) := by decide +kernel
theorem dX11_earns_2 : decode cX11_earns 2 = .ok (.bipush 8, 2) := by decide +kernel
theorem dX11_earns_4 : decode cX11_earns 4 = .ok (.invokestatic 286, 3) := by decide +kernel
theorem dX11_earns_7 : decode cX11_earns 7 = .ok (.istore_n 3, 1) := by decide +kernel
theorem dX11_earns_8 : decode cX11_earns 8 = .ok (.iload_n 3, 1) := by decide +kernel
theorem dX11_earns_9 : decode cX11_earns 9 = .ok (.ifCond .eq 6, 3) := by decide +kernel
theorem dX11_earns_12 : decode cX11_earns 12 = .ok (.iload_n 3, 1) := by decide +kernel
theorem dX11_earns_13 : decode cX11_earns 13 = .ok (.i2l, 1) := by decide +kernel
theorem dX11_earns_14 : decode cX11_earns 14 = .ok (.lreturn, 1) := by decide +kernel
theorem dX11_earns_15 : decode cX11_earns 15 = .ok (.aload_n 0, 1) := by decide +kernel
theorem dX11_earns_16 : decode cX11_earns 16 = .ok (.getfield 94, 3) := by decide +kernel
theorem dX11_earns_19 : decode cX11_earns 19 = .ok (.aload_n 0, 1) := by decide +kernel
theorem dX11_earns_20 : decode cX11_earns 20 = .ok (.getfield 26, 3) := by decide +kernel
theorem dX11_earns_23 : decode cX11_earns 23 = .ok (.aload_n 0, 1) := by decide +kernel
theorem dX11_earns_24 : decode cX11_earns 24 = .ok (.getfield 36, 3) := by decide +kernel
theorem dX11_earns_27 : decode cX11_earns 27 = .ok (.aload_n 0, 1) := by decide +kernel
theorem dX11_earns_28 : decode cX11_earns 28 = .ok (.getfield 36, 3) := by decide +kernel
theorem dX11_earns_31 : decode cX11_earns 31 = .ok (.getfield 153, 3) := by decide +kernel
theorem dX11_earns_34 : decode cX11_earns 34 = .ok (.invokevirtual 262, 3) := by decide +kernel
theorem dX11_earns_37 : decode cX11_earns 37 = .ok (.aload_n 0, 1) := by decide +kernel
theorem dX11_earns_38 : decode cX11_earns 38 = .ok (.getfield 94, 3) := by decide +kernel
theorem dX11_earns_41 : decode cX11_earns 41 = .ok (.iload_n 1, 1) := by decide +kernel
theorem dX11_earns_42 : decode cX11_earns 42 = .ok (.invokevirtual 289, 3) := by decide +kernel
theorem dX11_earns_45 : decode cX11_earns 45 = .ok (.aload_n 0, 1) := by decide +kernel
theorem dX11_earns_46 : decode cX11_earns 46 = .ok (.getfield 94, 3) := by decide +kernel
theorem dX11_earns_49 : decode cX11_earns 49 = .ok (.getfield 341, 3) := by decide +kernel
theorem dX11_earns_52 : decode cX11_earns 52 = .ok (.aload_n 0, 1) := by decide +kernel
theorem dX11_earns_53 : decode cX11_earns 53 = .ok (.getfield 94, 3) := by decide +kernel
theorem dX11_earns_56 : decode cX11_earns 56 = .ok (.getfield 296, 3) := by decide +kernel
theorem dX11_earns_59 : decode cX11_earns 59 = .ok (.iload_n 2, 1) := by decide +kernel
theorem dX11_earns_60 : decode cX11_earns 60 = .ok (.invokestatic 300, 3) := by decide +kernel
theorem dX11_earns_63 : decode cX11_earns 63 = .ok (.lreturn, 1) := by decide +kernel
theorem dX11_bestPrice_0 : decode cX11_bestPrice 0 = .ok (.aload_n 0, 1) := by decide +kernel
theorem dX11_bestPrice_1 : decode cX11_bestPrice 1 = .ok (.iload_n 1, 1) := by decide +kernel
theorem dX11_bestPrice_2 : decode cX11_bestPrice 2 = .ok (.invokevirtual 140, 3) := by decide +kernel
theorem dX11_bestPrice_5 : decode cX11_bestPrice 5 = .ok (.ifCond .ne 6, 3) := by decide +kernel
theorem dX11_bestPrice_8 : decode cX11_bestPrice 8 = .ok (.bipush (-2), 2) := by decide +kernel
theorem dX11_bestPrice_10 : decode cX11_bestPrice 10 = .ok (.ireturn, 1) := by decide +kernel
theorem dX11_bestPrice_11 : decode cX11_bestPrice 11 = .ok (.iload_n 2, 1) := by decide +kernel
theorem dX11_bestPrice_12 : decode cX11_bestPrice 12 = .ok (.iconst 1, 1) := by decide +kernel
theorem dX11_bestPrice_13 : decode cX11_bestPrice 13 = .ok (.if_icmp .lt 8, 3) := by decide +kernel
theorem dX11_bestPrice_16 : decode cX11_bestPrice 16 = .ok (.iload_n 2, 1) := by decide +kernel
theorem dX11_bestPrice_17 : decode cX11_bestPrice 17 = .ok (.iconst 4, 1) := by decide +kernel
theorem dX11_bestPrice_18 : decode cX11_bestPrice 18 = .ok (.if_icmp .le 6, 3) := by decide +kernel
theorem dX11_bestPrice_21 : decode cX11_bestPrice 21 = .ok (.bipush (-3), 2) := by decide +kernel
theorem dX11_bestPrice_23 : decode cX11_bestPrice 23 = .ok (.ireturn, 1) := by decide +kernel
theorem dX11_bestPrice_24 : decode cX11_bestPrice 24 = .ok (.aload_n 0, 1) := by decide +kernel
theorem dX11_bestPrice_25 : decode cX11_bestPrice 25 = .ok (.getfield 36, 3) := by decide +kernel
theorem dX11_bestPrice_28 : decode cX11_bestPrice 28 = .ok (.invokevirtual 320, 3) := by decide +kernel
theorem dX11_bestPrice_31 : decode cX11_bestPrice 31 = .ok (.ifCond .eq 6, 3) := by decide +kernel
theorem dX11_bestPrice_34 : decode cX11_bestPrice 34 = .ok (.bipush (-5), 2) := by decide +kernel
theorem dX11_bestPrice_36 : decode cX11_bestPrice 36 = .ok (.ireturn, 1) := by decide +kernel
theorem dX11_bestPrice_37 : decode cX11_bestPrice 37 = .ok (.aload_n 0, 1) := by decide +kernel
theorem dX11_bestPrice_38 : decode cX11_bestPrice 38 = .ok (.getfield 40, 3) := by decide +kernel
theorem dX11_bestPrice_41 : decode cX11_bestPrice 41 = .ok (.aload_n 0, 1) := by decide +kernel
theorem dX11_bestPrice_42 : decode cX11_bestPrice 42 = .ok (.getfield 36, 3) := by decide +kernel
theorem dX11_bestPrice_45 : decode cX11_bestPrice 45 = .ok (.invokevirtual 124, 3) := by decide +kernel
theorem dX11_bestPrice_48 : decode cX11_bestPrice 48 = .ok (.iconst 1, 1) := by decide +kernel
theorem dX11_bestPrice_49 : decode cX11_bestPrice 49 = .ok (.istore_n 3, 1) := by decide +kernel
theorem dX11_bestPrice_50 : decode cX11_bestPrice 50 = .ok (.ldc2_w 219, 3) := by decide +kernel
theorem dX11_bestPrice_53 : decode cX11_bestPrice 53 = .ok (.lstore 4, 2) := by decide +kernel
theorem dX11_bestPrice_55 : decode cX11_bestPrice 55 = .ok (.iconst 1, 1) := by decide +kernel
theorem dX11_bestPrice_56 : decode cX11_bestPrice 56 = .ok (.istore 6, 2) := by decide +kernel
theorem dX11_bestPrice_58 : decode cX11_bestPrice 58 = .ok (.iload 6, 2) := by decide +kernel
theorem dX11_bestPrice_60 : decode cX11_bestPrice 60 = .ok (.bipush 99, 2) := by decide +kernel
theorem dX11_bestPrice_62 : decode cX11_bestPrice 62 = .ok (.if_icmp .gt 84, 3) := by decide +kernel
theorem dX11_bestPrice_65 : decode cX11_bestPrice 65 = .ok (.aload_n 0, 1) := by decide +kernel
theorem dX11_bestPrice_66 : decode cX11_bestPrice 66 = .ok (.getfield 40, 3) := by decide +kernel
theorem dX11_bestPrice_69 : decode cX11_bestPrice 69 = .ok (.getfield 144, 3) := by decide +kernel
theorem dX11_bestPrice_72 : decode cX11_bestPrice 72 = .ok (.iload_n 1, 1) := by decide +kernel
theorem dX11_bestPrice_73 : decode cX11_bestPrice 73 = .ok (.iload 6, 2) := by decide +kernel
theorem dX11_bestPrice_75 : decode cX11_bestPrice 75 = .ok (.iastore, 1) := by decide +kernel
theorem dX11_bestPrice_76 : decode cX11_bestPrice 76 = .ok (.aload_n 0, 1) := by decide +kernel
theorem dX11_bestPrice_77 : decode cX11_bestPrice 77 = .ok (.getfield 94, 3) := by decide +kernel
theorem dX11_bestPrice_80 : decode cX11_bestPrice 80 = .ok (.aload_n 0, 1) := by decide +kernel
theorem dX11_bestPrice_81 : decode cX11_bestPrice 81 = .ok (.getfield 26, 3) := by decide +kernel
theorem dX11_bestPrice_84 : decode cX11_bestPrice 84 = .ok (.aload_n 0, 1) := by decide +kernel
theorem dX11_bestPrice_85 : decode cX11_bestPrice 85 = .ok (.getfield 40, 3) := by decide +kernel
theorem dX11_bestPrice_88 : decode cX11_bestPrice 88 = .ok (.aload_n 0, 1) := by decide +kernel
theorem dX11_bestPrice_89 : decode cX11_bestPrice 89 = .ok (.getfield 40, 3) := by decide +kernel
theorem dX11_bestPrice_92 : decode cX11_bestPrice 92 = .ok (.getfield 153, 3) := by decide +kernel
theorem dX11_bestPrice_95 : decode cX11_bestPrice 95 = .ok (.invokevirtual 262, 3) := by decide +kernel
theorem dX11_bestPrice_98 : decode cX11_bestPrice 98 = .ok (.aload_n 0, 1) := by decide +kernel
theorem dX11_bestPrice_99 : decode cX11_bestPrice 99 = .ok (.getfield 94, 3) := by decide +kernel
theorem dX11_bestPrice_102 : decode cX11_bestPrice 102 = .ok (.iload_n 2, 1) := by decide +kernel
theorem dX11_bestPrice_103 : decode cX11_bestPrice 103 = .ok (.invokevirtual 289, 3) := by decide +kernel
theorem dX11_bestPrice_106 : decode cX11_bestPrice 106 = .ok (.aload_n 0, 1) := by decide +kernel
theorem dX11_bestPrice_107 : decode cX11_bestPrice 107 = .ok (.getfield 94, 3) := by decide +kernel
theorem dX11_bestPrice_110 : decode cX11_bestPrice 110 = .ok (.getfield 341, 3) := by decide +kernel
theorem dX11_bestPrice_113 : decode cX11_bestPrice 113 = .ok (.lload 4, 2) := by decide +kernel
theorem dX11_bestPrice_115 : decode cX11_bestPrice 115 = .ok (.lcmp, 1) := by decide +kernel
theorem dX11_bestPrice_116 : decode cX11_bestPrice 116 = .ok (.ifCond .le 8, 3) := by decide +kernel
theorem dX11_bestPrice_119 : decode cX11_bestPrice 119 = .ok (.iload 6, 2) := by decide +kernel
theorem dX11_bestPrice_121 : decode cX11_bestPrice 121 = .ok (.goto 4, 3) := by decide +kernel
theorem dX11_bestPrice_124 : decode cX11_bestPrice 124 = .ok (.iload_n 3, 1) := by decide +kernel
theorem dX11_bestPrice_125 : decode cX11_bestPrice 125 = .ok (.istore_n 3, 1) := by decide +kernel
theorem dX11_bestPrice_126 : decode cX11_bestPrice 126 = .ok (.lload 4, 2) := by decide +kernel
theorem dX11_bestPrice_128 : decode cX11_bestPrice 128 = .ok (.aload_n 0, 1) := by decide +kernel
theorem dX11_bestPrice_129 : decode cX11_bestPrice 129 = .ok (.getfield 94, 3) := by decide +kernel
theorem dX11_bestPrice_132 : decode cX11_bestPrice 132 = .ok (.getfield 341, 3) := by decide +kernel
theorem dX11_bestPrice_135 : decode cX11_bestPrice 135 = .ok (.invokestatic 330, 3) := by decide +kernel
theorem dX11_bestPrice_138 : decode cX11_bestPrice 138 = .ok (.lstore 4, 2) := by decide +kernel
theorem dX11_bestPrice_140 : decode cX11_bestPrice 140 = .ok (.iinc 6 1, 3) := by decide +kernel
theorem dX11_bestPrice_143 : decode cX11_bestPrice 143 = .ok (.goto (-85), 3) := by decide +kernel
theorem dX11_bestPrice_146 : decode cX11_bestPrice 146 = .ok (.iload_n 3, 1) := by decide +kernel
theorem dX11_bestPrice_147 : decode cX11_bestPrice 147 = .ok (.ireturn, 1) := by decide +kernel
theorem dX11_seen_0 : decode cX11_seen 0 = .ok (.aload_n 0, 1) := by decide +kernel
theorem dX11_seen_1 : decode cX11_seen 1 = .ok (.iload_n 1, 1) := by decide +kernel
theorem dX11_seen_2 : decode cX11_seen 2 = .ok (.invokevirtual 344, 3) := by decide +kernel
theorem dX11_seen_5 : decode cX11_seen 5 = .ok (.istore_n 2, 1) := by decide +kernel
theorem dX11_seen_6 : decode cX11_seen 6 = .ok (.iload_n 2, 1) := by decide +kernel
theorem dX11_seen_7 : decode cX11_seen 7 = .ok (.ifCond .eq 5, 3) := by decide +kernel
theorem dX11_seen_10 : decode cX11_seen 10 = .ok (.iload_n 2, 1) := by decide +kernel
theorem dX11_seen_11 : decode cX11_seen 11 = .ok (.ireturn, 1) := by decide +kernel
theorem dX11_seen_12 : decode cX11_seen 12 = .ok (.aload_n 0, 1) := by decide +kernel
theorem dX11_seen_13 : decode cX11_seen 13 = .ok (.getfield 94, 3) := by decide +kernel
theorem dX11_seen_16 : decode cX11_seen 16 = .ok (.aload_n 0, 1) := by decide +kernel
theorem dX11_seen_17 : decode cX11_seen 17 = .ok (.getfield 26, 3) := by decide +kernel
theorem dX11_seen_20 : decode cX11_seen 20 = .ok (.aload_n 0, 1) := by decide +kernel
theorem dX11_seen_21 : decode cX11_seen 21 = .ok (.getfield 36, 3) := by decide +kernel
theorem dX11_seen_24 : decode cX11_seen 24 = .ok (.invokevirtual 347, 3) := by decide +kernel
theorem dX11_seen_27 : decode cX11_seen 27 = .ok (.aload_n 0, 1) := by decide +kernel
theorem dX11_seen_28 : decode cX11_seen 28 = .ok (.getfield 103, 3) := by decide +kernel
theorem dX11_seen_31 : decode cX11_seen 31 = .ok (.aload_n 0, 1) := by decide +kernel
theorem dX11_seen_32 : decode cX11_seen 32 = .ok (.getfield 52, 3) := by decide +kernel
theorem dX11_seen_35 : decode cX11_seen 35 = .ok (.iload_n 1, 1) := by decide +kernel
theorem dX11_seen_36 : decode cX11_seen 36 = .ok (.aaload, 1) := by decide +kernel
theorem dX11_seen_37 : decode cX11_seen 37 = .ok (.invokevirtual 350, 3) := by decide +kernel
theorem dX11_seen_40 : decode cX11_seen 40 = .ok (.aload_n 0, 1) := by decide +kernel
theorem dX11_seen_41 : decode cX11_seen 41 = .ok (.getfield 103, 3) := by decide +kernel
theorem dX11_seen_44 : decode cX11_seen 44 = .ok (.getfield 354, 3) := by decide +kernel
theorem dX11_seen_47 : decode cX11_seen 47 = .ok (.ireturn, 1) := by decide +kernel
theorem dX11_sureGone_0 : decode cX11_sureGone 0 = .ok (.aload_n 0, 1) := by decide +kernel
theorem dX11_sureGone_1 : decode cX11_sureGone 1 = .ok (.iload_n 1, 1) := by decide +kernel
theorem dX11_sureGone_2 : decode cX11_sureGone 2 = .ok (.invokevirtual 344, 3) := by decide +kernel
theorem dX11_sureGone_5 : decode cX11_sureGone 5 = .ok (.istore_n 2, 1) := by decide +kernel
theorem dX11_sureGone_6 : decode cX11_sureGone 6 = .ok (.iload_n 2, 1) := by decide +kernel
theorem dX11_sureGone_7 : decode cX11_sureGone 7 = .ok (.ifCond .eq 5, 3) := by decide +kernel
theorem dX11_sureGone_10 : decode cX11_sureGone 10 = .ok (.iload_n 2, 1) := by decide +kernel
theorem dX11_sureGone_11 : decode cX11_sureGone 11 = .ok (.ireturn, 1) := by decide +kernel
theorem dX11_sureGone_12 : decode cX11_sureGone 12 = .ok (.aload_n 0, 1) := by decide +kernel
theorem dX11_sureGone_13 : decode cX11_sureGone 13 = .ok (.getfield 94, 3) := by decide +kernel
theorem dX11_sureGone_16 : decode cX11_sureGone 16 = .ok (.aload_n 0, 1) := by decide +kernel
theorem dX11_sureGone_17 : decode cX11_sureGone 17 = .ok (.getfield 26, 3) := by decide +kernel
theorem dX11_sureGone_20 : decode cX11_sureGone 20 = .ok (.aload_n 0, 1) := by decide +kernel
theorem dX11_sureGone_21 : decode cX11_sureGone 21 = .ok (.getfield 36, 3) := by decide +kernel
theorem dX11_sureGone_24 : decode cX11_sureGone 24 = .ok (.invokevirtual 347, 3) := by decide +kernel
theorem dX11_sureGone_27 : decode cX11_sureGone 27 = .ok (.aload_n 0, 1) := by decide +kernel
theorem dX11_sureGone_28 : decode cX11_sureGone 28 = .ok (.getfield 103, 3) := by decide +kernel
theorem dX11_sureGone_31 : decode cX11_sureGone 31 = .ok (.aload_n 0, 1) := by decide +kernel
theorem dX11_sureGone_32 : decode cX11_sureGone 32 = .ok (.getfield 52, 3) := by decide +kernel
theorem dX11_sureGone_35 : decode cX11_sureGone 35 = .ok (.iload_n 1, 1) := by decide +kernel
theorem dX11_sureGone_36 : decode cX11_sureGone 36 = .ok (.aaload, 1) := by decide +kernel
theorem dX11_sureGone_37 : decode cX11_sureGone 37 = .ok (.invokevirtual 350, 3) := by decide +kernel
theorem dX11_sureGone_40 : decode cX11_sureGone 40 = .ok (.aload_n 0, 1) := by decide +kernel
theorem dX11_sureGone_41 : decode cX11_sureGone 41 = .ok (.getfield 103, 3) := by decide +kernel
theorem dX11_sureGone_44 : decode cX11_sureGone 44 = .ok (.getfield 354, 3) := by decide +kernel
theorem dX11_sureGone_47 : decode cX11_sureGone 47 = .ok (.ifCond .ne 7, 3) := by decide +kernel
theorem dX11_sureGone_50 : decode cX11_sureGone 50 = .ok (.iconst 0, 1) := by decide +kernel
theorem dX11_sureGone_51 : decode cX11_sureGone 51 = .ok (.goto 10, 3) := by decide +kernel
theorem dX11_sureGone_54 : decode cX11_sureGone 54 = .ok (.aload_n 0, 1) := by decide +kernel
theorem dX11_sureGone_55 : decode cX11_sureGone 55 = .ok (.getfield 103, 3) := by decide +kernel
theorem dX11_sureGone_58 : decode cX11_sureGone 58 = .ok (.getfield 357, 3) := by decide +kernel
theorem dX11_sureGone_61 : decode cX11_sureGone 61 = .ok (.ireturn, 1) := by decide +kernel
theorem dX11_ask_0 : decode cX11_ask 0 = .ok (.aload_n 0, 1) := by decide +kernel
theorem dX11_ask_1 : decode cX11_ask 1 = .ok (.iload_n 1, 1) := by decide +kernel
theorem dX11_ask_2 : decode cX11_ask 2 = .ok (.invokevirtual 344, 3) := by decide +kernel
theorem dX11_ask_5 : decode cX11_ask 5 = .ok (.istore_n 2, 1) := by decide +kernel
theorem dX11_ask_6 : decode cX11_ask 6 = .ok (.iload_n 2, 1) := by decide +kernel
theorem dX11_ask_7 : decode cX11_ask 7 = .ok (.ifCond .eq 5, 3) := by decide +kernel
theorem dX11_ask_10 : decode cX11_ask 10 = .ok (.iload_n 2, 1) := by decide +kernel
theorem dX11_ask_11 : decode cX11_ask 11 = .ok (.ireturn, 1) := by decide +kernel
theorem dX11_ask_12 : decode cX11_ask 12 = .ok (.aload_n 0, 1) := by decide +kernel
theorem dX11_ask_13 : decode cX11_ask 13 = .ok (.getfield 94, 3) := by decide +kernel
theorem dX11_ask_16 : decode cX11_ask 16 = .ok (.aload_n 0, 1) := by decide +kernel
theorem dX11_ask_17 : decode cX11_ask 17 = .ok (.getfield 26, 3) := by decide +kernel
theorem dX11_ask_20 : decode cX11_ask 20 = .ok (.aload_n 0, 1) := by decide +kernel
theorem dX11_ask_21 : decode cX11_ask 21 = .ok (.getfield 36, 3) := by decide +kernel
theorem dX11_ask_24 : decode cX11_ask 24 = .ok (.invokevirtual 347, 3) := by decide +kernel
theorem dX11_ask_27 : decode cX11_ask 27 = .ok (.aload_n 0, 1) := by decide +kernel
theorem dX11_ask_28 : decode cX11_ask 28 = .ok (.getfield 103, 3) := by decide +kernel
theorem dX11_ask_31 : decode cX11_ask 31 = .ok (.aload_n 0, 1) := by decide +kernel
theorem dX11_ask_32 : decode cX11_ask 32 = .ok (.getfield 52, 3) := by decide +kernel
theorem dX11_ask_35 : decode cX11_ask 35 = .ok (.iload_n 1, 1) := by decide +kernel
theorem dX11_ask_36 : decode cX11_ask 36 = .ok (.aaload, 1) := by decide +kernel
theorem dX11_ask_37 : decode cX11_ask 37 = .ok (.invokevirtual 350, 3) := by decide +kernel
theorem dX11_ask_40 : decode cX11_ask 40 = .ok (.aload_n 0, 1) := by decide +kernel
theorem dX11_ask_41 : decode cX11_ask 41 = .ok (.getfield 103, 3) := by decide +kernel
theorem dX11_ask_44 : decode cX11_ask 44 = .ok (.getfield 354, 3) := by decide +kernel
theorem dX11_ask_47 : decode cX11_ask 47 = .ok (.ifCond .ne 7, 3) := by decide +kernel
theorem dX11_ask_50 : decode cX11_ask 50 = .ok (.iconst (-1), 1) := by decide +kernel
theorem dX11_ask_51 : decode cX11_ask 51 = .ok (.goto 10, 3) := by decide +kernel
theorem dX11_ask_54 : decode cX11_ask 54 = .ok (.aload_n 0, 1) := by decide +kernel
theorem dX11_ask_55 : decode cX11_ask 55 = .ok (.getfield 103, 3) := by decide +kernel
theorem dX11_ask_58 : decode cX11_ask 58 = .ok (.invokevirtual 360, 3) := by decide +kernel
theorem dX11_ask_61 : decode cX11_ask 61 = .ok (.ireturn, 1) := by decide +kernel
theorem dX11_seenRefusal_0 : decode cX11_seenRefusal 0 = .ok (.aload_n 0, 1) := by decide +kernel
theorem dX11_seenRefusal_1 : decode cX11_seenRefusal 1 = .ok (.iload_n 1, 1) := by decide +kernel
theorem dX11_seenRefusal_2 : decode cX11_seenRefusal 2 = .ok (.invokevirtual 255, 3) := by decide +kernel
theorem dX11_seenRefusal_5 : decode cX11_seenRefusal 5 = .ok (.istore_n 2, 1) := by decide +kernel
theorem dX11_seenRefusal_6 : decode cX11_seenRefusal 6 = .ok (.iload_n 2, 1) := by decide +kernel
theorem dX11_seenRefusal_7 : decode cX11_seenRefusal 7 = .ok (.ifCond .eq 5, 3) := by decide +kernel
theorem dX11_seenRefusal_10 : decode cX11_seenRefusal 10 = .ok (.iload_n 2, 1) := by decide +kernel
theorem dX11_seenRefusal_11 : decode cX11_seenRefusal 11 = .ok (.ireturn, 1) := by decide +kernel
theorem dX11_seenRefusal_12 : decode cX11_seenRefusal 12 = .ok (.aload_n 0, 1) := by decide +kernel
theorem dX11_seenRefusal_13 : decode cX11_seenRefusal 13 = .ok (.getfield 52, 3) := by decide +kernel
theorem dX11_seenRefusal_16 : decode cX11_seenRefusal 16 = .ok (.iload_n 1, 1) := by decide +kernel
theorem dX11_seenRefusal_17 : decode cX11_seenRefusal 17 = .ok (.aaload, 1) := by decide +kernel
theorem dX11_seenRefusal_18 : decode cX11_seenRefusal 18 = .ok (.astore_n 3, 1) := by decide +kernel
theorem dX11_seenRefusal_19 : decode cX11_seenRefusal 19 = .ok (.aload_n 3, 1) := by decide +kernel
theorem dX11_seenRefusal_20 : decode cX11_seenRefusal 20 = .ok (.invokevirtual 239, 3) := by decide +kernel
theorem dX11_seenRefusal_23 : decode cX11_seenRefusal 23 = .ok (.iconst 1, 1) := by decide +kernel
theorem dX11_seenRefusal_24 : decode cX11_seenRefusal 24 = .ok (.if_icmp .lt 12, 3) := by decide +kernel
theorem dX11_seenRefusal_27 : decode cX11_seenRefusal 27 = .ok (.aload_n 3, 1) := by decide +kernel
theorem dX11_seenRefusal_28 : decode cX11_seenRefusal 28 = .ok (.invokevirtual 239, 3) := by decide +kernel
theorem dX11_seenRefusal_31 : decode cX11_seenRefusal 31 = .ok (.bipush 12, 2) := by decide +kernel
theorem dX11_seenRefusal_33 : decode cX11_seenRefusal 33 = .ok (.if_icmp .le 6, 3) := by decide +kernel
theorem dX11_seenRefusal_36 : decode cX11_seenRefusal 36 = .ok (.bipush (-4), 2) := by decide +kernel
theorem dX11_seenRefusal_38 : decode cX11_seenRefusal 38 = .ok (.ireturn, 1) := by decide +kernel
theorem dX11_seenRefusal_39 : decode cX11_seenRefusal 39 = .ok (.iconst 0, 1) := by decide +kernel
theorem dX11_seenRefusal_40 : decode cX11_seenRefusal 40 = .ok (.istore 4, 2) := by decide +kernel
theorem dX11_seenRefusal_42 : decode cX11_seenRefusal 42 = .ok (.iload 4, 2) := by decide +kernel
theorem dX11_seenRefusal_44 : decode cX11_seenRefusal 44 = .ok (.aload_n 3, 1) := by decide +kernel
theorem dX11_seenRefusal_45 : decode cX11_seenRefusal 45 = .ok (.invokevirtual 239, 3) := by decide +kernel
theorem dX11_seenRefusal_48 : decode cX11_seenRefusal 48 = .ok (.if_icmp .ge 25, 3) := by decide +kernel
theorem dX11_seenRefusal_51 : decode cX11_seenRefusal 51 = .ok (.aload_n 0, 1) := by decide +kernel
theorem dX11_seenRefusal_52 : decode cX11_seenRefusal 52 = .ok (.aload_n 3, 1) := by decide +kernel
theorem dX11_seenRefusal_53 : decode cX11_seenRefusal 53 = .ok (.iload 4, 2) := by decide +kernel
theorem dX11_seenRefusal_55 : decode cX11_seenRefusal 55 = .ok (.invokevirtual 242, 3) := by decide +kernel
theorem dX11_seenRefusal_58 : decode cX11_seenRefusal 58 = .ok (.invokevirtual 363, 3) := by decide +kernel
theorem dX11_seenRefusal_61 : decode cX11_seenRefusal 61 = .ok (.ifCond .ne 6, 3) := by decide +kernel
theorem dX11_seenRefusal_64 : decode cX11_seenRefusal 64 = .ok (.bipush (-3), 2) := by decide +kernel
theorem dX11_seenRefusal_66 : decode cX11_seenRefusal 66 = .ok (.ireturn, 1) := by decide +kernel
theorem dX11_seenRefusal_67 : decode cX11_seenRefusal 67 = .ok (.iinc 4 1, 3) := by decide +kernel
theorem dX11_seenRefusal_70 : decode cX11_seenRefusal 70 = .ok (.goto (-28), 3) := by decide +kernel
theorem dX11_seenRefusal_73 : decode cX11_seenRefusal 73 = .ok (.iconst 0, 1) := by decide +kernel
theorem dX11_seenRefusal_74 : decode cX11_seenRefusal 74 = .ok (.ireturn, 1) := by decide +kernel
theorem dX11_isSight_0 : decode cX11_isSight 0 = .ok (.lload_n 1, 1) := by decide +kernel
theorem dX11_isSight_1 : decode cX11_isSight 1 = .ok (.ldc2_w 318, 3) := by decide +kernel
theorem dX11_isSight_4 : decode cX11_isSight 4 = .ok (.lrem, 1) := by decide +kernel
theorem dX11_isSight_5 : decode cX11_isSight 5 = .ok (.lstore_n 3, 1) := by decide +kernel
theorem dX11_isSight_6 : decode cX11_isSight 6 = .ok (.lload_n 1, 1) := by decide +kernel
theorem dX11_isSight_7 : decode cX11_isSight 7 = .ok (.lconst 0, 1) := by decide +kernel
theorem dX11_isSight_8 : decode cX11_isSight 8 = .ok (.lcmp, 1) := by decide +kernel
theorem dX11_isSight_9 : decode cX11_isSight 9 = .ok (.ifCond .lt 45, 3) := by decide +kernel
theorem dX11_isSight_12 : decode cX11_isSight 12 = .ok (.lload_n 1, 1) := by decide +kernel
theorem dX11_isSight_13 : decode cX11_isSight 13 = .ok (.ldc2_w 318, 3) := by decide +kernel
theorem dX11_isSight_16 : decode cX11_isSight 16 = .ok (.ldiv, 1) := by decide +kernel
theorem dX11_isSight_17 : decode cX11_isSight 17 = .ok (.aload_n 0, 1) := by decide +kernel
theorem dX11_isSight_18 : decode cX11_isSight 18 = .ok (.getfield 26, 3) := by decide +kernel
theorem dX11_isSight_21 : decode cX11_isSight 21 = .ok (.getfield 163, 3) := by decide +kernel
theorem dX11_isSight_24 : decode cX11_isSight 24 = .ok (.i2l, 1) := by decide +kernel
theorem dX11_isSight_25 : decode cX11_isSight 25 = .ok (.lcmp, 1) := by decide +kernel
theorem dX11_isSight_26 : decode cX11_isSight 26 = .ok (.ifCond .ge 28, 3) := by decide +kernel
theorem dX11_isSight_29 : decode cX11_isSight 29 = .ok (.lload_n 3, 1) := by decide +kernel
theorem dX11_isSight_30 : decode cX11_isSight 30 = .ok (.ldc2_w 367, 3) := by decide +kernel
theorem dX11_isSight_33 : decode cX11_isSight 33 = .ok (.lcmp, 1) := by decide +kernel
theorem dX11_isSight_34 : decode cX11_isSight 34 = .ok (.ifCond .eq 16, 3) := by decide +kernel
theorem dX11_isSight_37 : decode cX11_isSight 37 = .ok (.lload_n 3, 1) := by decide +kernel
theorem dX11_isSight_38 : decode cX11_isSight 38 = .ok (.aload_n 0, 1) := by decide +kernel
theorem dX11_isSight_39 : decode cX11_isSight 39 = .ok (.getfield 36, 3) := by decide +kernel
theorem dX11_isSight_42 : decode cX11_isSight 42 = .ok (.getfield 160, 3) := by decide +kernel
theorem dX11_isSight_45 : decode cX11_isSight 45 = .ok (.i2l, 1) := by decide +kernel
theorem dX11_isSight_46 : decode cX11_isSight 46 = .ok (.lcmp, 1) := by decide +kernel
theorem dX11_isSight_47 : decode cX11_isSight 47 = .ok (.ifCond .ge 7, 3) := by decide +kernel
theorem dX11_isSight_50 : decode cX11_isSight 50 = .ok (.iconst 1, 1) := by decide +kernel
theorem dX11_isSight_51 : decode cX11_isSight 51 = .ok (.goto 4, 3) := by decide +kernel
theorem dX11_isSight_54 : decode cX11_isSight 54 = .ok (.iconst 0, 1) := by decide +kernel
theorem dX11_isSight_55 : decode cX11_isSight 55 = .ok (.ireturn, 1) := by decide +kernel
theorem dX11_came_0 : decode cX11_came 0 = .ok (.aload_n 0, 1) := by decide +kernel
theorem dX11_came_1 : decode cX11_came 1 = .ok (.iload_n 1, 1) := by decide +kernel
theorem dX11_came_2 : decode cX11_came 2 = .ok (.invokevirtual 369, 3) := by decide +kernel
theorem dX11_came_5 : decode cX11_came 5 = .ok (.istore_n 2, 1) := by decide +kernel
theorem dX11_came_6 : decode cX11_came 6 = .ok (.iload_n 2, 1) := by decide +kernel
theorem dX11_came_7 : decode cX11_came 7 = .ok (.ifCond .eq 6, 3) := by decide +kernel
theorem dX11_came_10 : decode cX11_came 10 = .ok (.iload_n 2, 1) := by decide +kernel
theorem dX11_came_11 : decode cX11_came 11 = .ok (.i2l, 1) := by decide +kernel
theorem dX11_came_12 : decode cX11_came 12 = .ok (.lreturn, 1) := by decide +kernel
theorem dX11_came_13 : decode cX11_came 13 = .ok (.aload_n 0, 1) := by decide +kernel
theorem dX11_came_14 : decode cX11_came 14 = .ok (.getfield 94, 3) := by decide +kernel
theorem dX11_came_17 : decode cX11_came 17 = .ok (.aload_n 0, 1) := by decide +kernel
theorem dX11_came_18 : decode cX11_came 18 = .ok (.getfield 26, 3) := by decide +kernel
theorem dX11_came_21 : decode cX11_came 21 = .ok (.aload_n 0, 1) := by decide +kernel
theorem dX11_came_22 : decode cX11_came 22 = .ok (.getfield 36, 3) := by decide +kernel
theorem dX11_came_25 : decode cX11_came 25 = .ok (.aload_n 0, 1) := by decide +kernel
theorem dX11_came_26 : decode cX11_came 26 = .ok (.getfield 36, 3) := by decide +kernel
theorem dX11_came_29 : decode cX11_came 29 = .ok (.getfield 153, 3) := by decide +kernel
theorem dX11_came_32 : decode cX11_came 32 = .ok (.invokevirtual 262, 3) := by decide +kernel
theorem dX11_came_35 : decode cX11_came 35 = .ok (.aload_n 0, 1) := by decide +kernel
theorem dX11_came_36 : decode cX11_came 36 = .ok (.getfield 103, 3) := by decide +kernel
theorem dX11_came_39 : decode cX11_came 39 = .ok (.aload_n 0, 1) := by decide +kernel
theorem dX11_came_40 : decode cX11_came 40 = .ok (.getfield 52, 3) := by decide +kernel
theorem dX11_came_43 : decode cX11_came 43 = .ok (.iload_n 1, 1) := by decide +kernel
theorem dX11_came_44 : decode cX11_came 44 = .ok (.aaload, 1) := by decide +kernel
theorem dX11_came_45 : decode cX11_came 45 = .ok (.invokevirtual 372, 3) := by decide +kernel
theorem dX11_came_48 : decode cX11_came 48 = .ok (.lreturn, 1) := by decide +kernel
theorem dX11_who_0 : decode cX11_who 0 = .ok (.aload_n 0, 1) := by decide +kernel
theorem dX11_who_1 : decode cX11_who 1 = .ok (.iload_n 1, 1) := by decide +kernel
theorem dX11_who_2 : decode cX11_who 2 = .ok (.invokevirtual 369, 3) := by decide +kernel
theorem dX11_who_5 : decode cX11_who 5 = .ok (.istore_n 3, 1) := by decide +kernel
theorem dX11_who_6 : decode cX11_who 6 = .ok (.iload_n 3, 1) := by decide +kernel
theorem dX11_who_7 : decode cX11_who 7 = .ok (.ifCond .eq 5, 3) := by decide +kernel
theorem dX11_who_10 : decode cX11_who 10 = .ok (.iload_n 3, 1) := by decide +kernel
theorem dX11_who_11 : decode cX11_who 11 = .ok (.ireturn, 1) := by decide +kernel
theorem dX11_who_12 : decode cX11_who 12 = .ok (.aload_n 0, 1) := by decide +kernel
theorem dX11_who_13 : decode cX11_who 13 = .ok (.getfield 52, 3) := by decide +kernel
theorem dX11_who_16 : decode cX11_who 16 = .ok (.iload_n 1, 1) := by decide +kernel
theorem dX11_who_17 : decode cX11_who 17 = .ok (.aaload, 1) := by decide +kernel
theorem dX11_who_18 : decode cX11_who 18 = .ok (.iload_n 2, 1) := by decide +kernel
theorem dX11_who_19 : decode cX11_who 19 = .ok (.invokevirtual 376, 3) := by decide +kernel
theorem dX11_who_22 : decode cX11_who 22 = .ok (.ifCond .ne 6, 3) := by decide +kernel
theorem dX11_who_25 : decode cX11_who 25 = .ok (.bipush (-7), 2) := by decide +kernel
theorem dX11_who_27 : decode cX11_who 27 = .ok (.ireturn, 1) := by decide +kernel
theorem dX11_who_28 : decode cX11_who 28 = .ok (.aload_n 0, 1) := by decide +kernel
theorem dX11_who_29 : decode cX11_who 29 = .ok (.getfield 94, 3) := by decide +kernel
theorem dX11_who_32 : decode cX11_who 32 = .ok (.aload_n 0, 1) := by decide +kernel
theorem dX11_who_33 : decode cX11_who 33 = .ok (.getfield 26, 3) := by decide +kernel
theorem dX11_who_36 : decode cX11_who 36 = .ok (.aload_n 0, 1) := by decide +kernel
theorem dX11_who_37 : decode cX11_who 37 = .ok (.getfield 36, 3) := by decide +kernel
theorem dX11_who_40 : decode cX11_who 40 = .ok (.aload_n 0, 1) := by decide +kernel
theorem dX11_who_41 : decode cX11_who 41 = .ok (.getfield 36, 3) := by decide +kernel
theorem dX11_who_44 : decode cX11_who 44 = .ok (.getfield 153, 3) := by decide +kernel
theorem dX11_who_47 : decode cX11_who 47 = .ok (.invokevirtual 262, 3) := by decide +kernel
theorem dX11_who_50 : decode cX11_who 50 = .ok (.aload_n 0, 1) := by decide +kernel
theorem dX11_who_51 : decode cX11_who 51 = .ok (.getfield 103, 3) := by decide +kernel
theorem dX11_who_54 : decode cX11_who 54 = .ok (.aload_n 0, 1) := by decide +kernel
theorem dX11_who_55 : decode cX11_who 55 = .ok (.getfield 52, 3) := by decide +kernel
theorem dX11_who_58 : decode cX11_who 58 = .ok (.iload_n 1, 1) := by decide +kernel
theorem dX11_who_59 : decode cX11_who 59 = .ok (.aaload, 1) := by decide +kernel
theorem dX11_who_60 : decode cX11_who 60 = .ok (.iload_n 2, 1) := by decide +kernel
theorem dX11_who_61 : decode cX11_who 61 = .ok (.invokevirtual 379, 3) := by decide +kernel
theorem dX11_who_64 : decode cX11_who 64 = .ok (.ireturn, 1) := by decide +kernel
theorem dX11_cameRefusal_0 : decode cX11_cameRefusal 0 = .ok (.aload_n 0, 1) := by decide +kernel
theorem dX11_cameRefusal_1 : decode cX11_cameRefusal 1 = .ok (.iload_n 1, 1) := by decide +kernel
theorem dX11_cameRefusal_2 : decode cX11_cameRefusal 2 = .ok (.invokevirtual 255, 3) := by decide +kernel
theorem dX11_cameRefusal_5 : decode cX11_cameRefusal 5 = .ok (.istore_n 2, 1) := by decide +kernel
theorem dX11_cameRefusal_6 : decode cX11_cameRefusal 6 = .ok (.iload_n 2, 1) := by decide +kernel
theorem dX11_cameRefusal_7 : decode cX11_cameRefusal 7 = .ok (.ifCond .eq 5, 3) := by decide +kernel
theorem dX11_cameRefusal_10 : decode cX11_cameRefusal 10 = .ok (.iload_n 2, 1) := by decide +kernel
theorem dX11_cameRefusal_11 : decode cX11_cameRefusal 11 = .ok (.ireturn, 1) := by decide +kernel
theorem dX11_cameRefusal_12 : decode cX11_cameRefusal 12 = .ok (.aload_n 0, 1) := by decide +kernel
theorem dX11_cameRefusal_13 : decode cX11_cameRefusal 13 = .ok (.getfield 52, 3) := by decide +kernel
theorem dX11_cameRefusal_16 : decode cX11_cameRefusal 16 = .ok (.iload_n 1, 1) := by decide +kernel
theorem dX11_cameRefusal_17 : decode cX11_cameRefusal 17 = .ok (.aaload, 1) := by decide +kernel
theorem dX11_cameRefusal_18 : decode cX11_cameRefusal 18 = .ok (.astore_n 3, 1) := by decide +kernel
theorem dX11_cameRefusal_19 : decode cX11_cameRefusal 19 = .ok (.aload_n 3, 1) := by decide +kernel
theorem dX11_cameRefusal_20 : decode cX11_cameRefusal 20 = .ok (.invokevirtual 239, 3) := by decide +kernel
theorem dX11_cameRefusal_23 : decode cX11_cameRefusal 23 = .ok (.iconst 1, 1) := by decide +kernel
theorem dX11_cameRefusal_24 : decode cX11_cameRefusal 24 = .ok (.if_icmp .lt 12, 3) := by decide +kernel
theorem dX11_cameRefusal_27 : decode cX11_cameRefusal 27 = .ok (.aload_n 3, 1) := by decide +kernel
theorem dX11_cameRefusal_28 : decode cX11_cameRefusal 28 = .ok (.invokevirtual 239, 3) := by decide +kernel
theorem dX11_cameRefusal_31 : decode cX11_cameRefusal 31 = .ok (.bipush 10, 2) := by decide +kernel
theorem dX11_cameRefusal_33 : decode cX11_cameRefusal 33 = .ok (.if_icmp .le 6, 3) := by decide +kernel
theorem dX11_cameRefusal_36 : decode cX11_cameRefusal 36 = .ok (.bipush (-4), 2) := by decide +kernel
theorem dX11_cameRefusal_38 : decode cX11_cameRefusal 38 = .ok (.ireturn, 1) := by decide +kernel
theorem dX11_cameRefusal_39 : decode cX11_cameRefusal 39 = .ok (.iconst 0, 1) := by decide +kernel
theorem dX11_cameRefusal_40 : decode cX11_cameRefusal 40 = .ok (.istore 4, 2) := by decide +kernel
theorem dX11_cameRefusal_42 : decode cX11_cameRefusal 42 = .ok (.iload 4, 2) := by decide +kernel
theorem dX11_cameRefusal_44 : decode cX11_cameRefusal 44 = .ok (.aload_n 3, 1) := by decide +kernel
theorem dX11_cameRefusal_45 : decode cX11_cameRefusal 45 = .ok (.invokevirtual 239, 3) := by decide +kernel
theorem dX11_cameRefusal_48 : decode cX11_cameRefusal 48 = .ok (.if_icmp .ge 43, 3) := by decide +kernel
theorem dX11_cameRefusal_51 : decode cX11_cameRefusal 51 = .ok (.aload_n 3, 1) := by decide +kernel
theorem dX11_cameRefusal_52 : decode cX11_cameRefusal 52 = .ok (.iload 4, 2) := by decide +kernel
theorem dX11_cameRefusal_54 : decode cX11_cameRefusal 54 = .ok (.invokevirtual 242, 3) := by decide +kernel
theorem dX11_cameRefusal_57 : decode cX11_cameRefusal 57 = .ok (.ldc2_w 219, 3) := by decide +kernel
theorem dX11_cameRefusal_60 : decode cX11_cameRefusal 60 = .ok (.lcmp, 1) := by decide +kernel
theorem dX11_cameRefusal_61 : decode cX11_cameRefusal 61 = .ok (.ifCond .lt 21, 3) := by decide +kernel
theorem dX11_cameRefusal_64 : decode cX11_cameRefusal 64 = .ok (.aload_n 3, 1) := by decide +kernel
theorem dX11_cameRefusal_65 : decode cX11_cameRefusal 65 = .ok (.iload 4, 2) := by decide +kernel
theorem dX11_cameRefusal_67 : decode cX11_cameRefusal 67 = .ok (.invokevirtual 242, 3) := by decide +kernel
theorem dX11_cameRefusal_70 : decode cX11_cameRefusal 70 = .ok (.aload_n 0, 1) := by decide +kernel
theorem dX11_cameRefusal_71 : decode cX11_cameRefusal 71 = .ok (.getfield 36, 3) := by decide +kernel
theorem dX11_cameRefusal_74 : decode cX11_cameRefusal 74 = .ok (.getfield 160, 3) := by decide +kernel
theorem dX11_cameRefusal_77 : decode cX11_cameRefusal 77 = .ok (.i2l, 1) := by decide +kernel
theorem dX11_cameRefusal_78 : decode cX11_cameRefusal 78 = .ok (.lcmp, 1) := by decide +kernel
theorem dX11_cameRefusal_79 : decode cX11_cameRefusal 79 = .ok (.ifCond .lt 6, 3) := by decide +kernel
theorem dX11_cameRefusal_82 : decode cX11_cameRefusal 82 = .ok (.bipush (-3), 2) := by decide +kernel
theorem dX11_cameRefusal_84 : decode cX11_cameRefusal 84 = .ok (.ireturn, 1) := by decide +kernel
theorem dX11_cameRefusal_85 : decode cX11_cameRefusal 85 = .ok (.iinc 4 1, 3) := by decide +kernel
theorem dX11_cameRefusal_88 : decode cX11_cameRefusal 88 = .ok (.goto (-46), 3) := by decide +kernel
theorem dX11_cameRefusal_91 : decode cX11_cameRefusal 91 = .ok (.iconst 0, 1) := by decide +kernel
theorem dX11_cameRefusal_92 : decode cX11_cameRefusal 92 = .ok (.ireturn, 1) := by decide +kernel
theorem dX11_isTray_0 : decode cX11_isTray 0 = .ok (.iload_n 0, 1) := by decide +kernel
theorem dX11_isTray_1 : decode cX11_isTray 1 = .ok (.ifCond .lt 12, 3) := by decide +kernel
theorem dX11_isTray_4 : decode cX11_isTray 4 = .ok (.iload_n 0, 1) := by decide +kernel
theorem dX11_isTray_5 : decode cX11_isTray 5 = .ok (.iconst 4, 1) := by decide +kernel
theorem dX11_isTray_6 : decode cX11_isTray 6 = .ok (.if_icmp .ge 7, 3) := by decide +kernel
theorem dX11_isTray_9 : decode cX11_isTray 9 = .ok (.iconst 1, 1) := by decide +kernel
theorem dX11_isTray_10 : decode cX11_isTray 10 = .ok (.goto 4, 3) := by decide +kernel
theorem dX11_isTray_13 : decode cX11_isTray 13 = .ok (.iconst 0, 1) := by decide +kernel
theorem dX11_isTray_14 : decode cX11_isTray 14 = .ok (.ireturn, 1) := by decide +kernel
theorem dX11_trayRefusal_0 : decode cX11_trayRefusal 0 = .ok (.iload_n 1, 1) := by decide +kernel
theorem dX11_trayRefusal_1 : decode cX11_trayRefusal 1 = .ok (.invokestatic 232, 3) := by decide +kernel
theorem dX11_trayRefusal_4 : decode cX11_trayRefusal 4 = .ok (.ifCond .ne 6, 3) := by decide +kernel
theorem dX11_trayRefusal_7 : decode cX11_trayRefusal 7 = .ok (.bipush (-2), 2) := by decide +kernel
theorem dX11_trayRefusal_9 : decode cX11_trayRefusal 9 = .ok (.ireturn, 1) := by decide +kernel
theorem dX11_trayRefusal_10 : decode cX11_trayRefusal 10 = .ok (.aload_n 0, 1) := by decide +kernel
theorem dX11_trayRefusal_11 : decode cX11_trayRefusal 11 = .ok (.getfield 52, 3) := by decide +kernel
theorem dX11_trayRefusal_14 : decode cX11_trayRefusal 14 = .ok (.iload_n 1, 1) := by decide +kernel
theorem dX11_trayRefusal_15 : decode cX11_trayRefusal 15 = .ok (.aaload, 1) := by decide +kernel
theorem dX11_trayRefusal_16 : decode cX11_trayRefusal 16 = .ok (.invokevirtual 235, 3) := by decide +kernel
theorem dX11_trayRefusal_19 : decode cX11_trayRefusal 19 = .ok (.ifCond .eq 8, 3) := by decide +kernel
theorem dX11_trayRefusal_22 : decode cX11_trayRefusal 22 = .ok (.bipush (-6), 2) := by decide +kernel
theorem dX11_trayRefusal_24 : decode cX11_trayRefusal 24 = .ok (.goto 4, 3) := by decide +kernel
theorem dX11_trayRefusal_27 : decode cX11_trayRefusal 27 = .ok (.iconst 0, 1) := by decide +kernel
theorem dX11_trayRefusal_28 : decode cX11_trayRefusal 28 = .ok (.ireturn, 1) := by decide +kernel
theorem dX11_numbers_0 : decode cX11_numbers 0 = .ok (.iload_n 1, 1) := by decide +kernel
theorem dX11_numbers_1 : decode cX11_numbers 1 = .ok (.invokestatic 232, 3) := by decide +kernel
theorem dX11_numbers_4 : decode cX11_numbers 4 = .ok (.ifCond .eq 12, 3) := by decide +kernel
theorem dX11_numbers_7 : decode cX11_numbers 7 = .ok (.iload_n 2, 1) := by decide +kernel
theorem dX11_numbers_8 : decode cX11_numbers 8 = .ok (.ifCond .lt 8, 3) := by decide +kernel
theorem dX11_numbers_11 : decode cX11_numbers 11 = .ok (.iload_n 2, 1) := by decide +kernel
theorem dX11_numbers_12 : decode cX11_numbers 12 = .ok (.iconst 3, 1) := by decide +kernel
theorem dX11_numbers_13 : decode cX11_numbers 13 = .ok (.if_icmp .le 6, 3) := by decide +kernel
theorem dX11_numbers_16 : decode cX11_numbers 16 = .ok (.bipush (-2), 2) := by decide +kernel
theorem dX11_numbers_18 : decode cX11_numbers 18 = .ok (.ireturn, 1) := by decide +kernel
theorem dX11_numbers_19 : decode cX11_numbers 19 = .ok (.iload_n 3, 1) := by decide +kernel
theorem dX11_numbers_20 : decode cX11_numbers 20 = .ok (.ifCond .lt 9, 3) := by decide +kernel
theorem dX11_numbers_23 : decode cX11_numbers 23 = .ok (.iload_n 3, 1) := by decide +kernel
theorem dX11_numbers_24 : decode cX11_numbers 24 = .ok (.bipush 40, 2) := by decide +kernel
theorem dX11_numbers_26 : decode cX11_numbers 26 = .ok (.if_icmp .le 6, 3) := by decide +kernel
theorem dX11_numbers_29 : decode cX11_numbers 29 = .ok (.bipush (-3), 2) := by decide +kernel
theorem dX11_numbers_31 : decode cX11_numbers 31 = .ok (.ireturn, 1) := by decide +kernel
theorem dX11_numbers_32 : decode cX11_numbers 32 = .ok (.aload_n 0, 1) := by decide +kernel
theorem dX11_numbers_33 : decode cX11_numbers 33 = .ok (.getfield 52, 3) := by decide +kernel
theorem dX11_numbers_36 : decode cX11_numbers 36 = .ok (.iload_n 1, 1) := by decide +kernel
theorem dX11_numbers_37 : decode cX11_numbers 37 = .ok (.aaload, 1) := by decide +kernel
theorem dX11_numbers_38 : decode cX11_numbers 38 = .ok (.iload_n 2, 1) := by decide +kernel
theorem dX11_numbers_39 : decode cX11_numbers 39 = .ok (.iload_n 3, 1) := by decide +kernel
theorem dX11_numbers_40 : decode cX11_numbers 40 = .ok (.invokevirtual 383, 3) := by decide +kernel
theorem dX11_numbers_43 : decode cX11_numbers 43 = .ok (.iconst 0, 1) := by decide +kernel
theorem dX11_numbers_44 : decode cX11_numbers 44 = .ok (.ireturn, 1) := by decide +kernel
theorem dX11_write_0 : decode cX11_write 0 = .ok (.aload_n 0, 1) := by decide +kernel
theorem dX11_write_1 : decode cX11_write 1 = .ok (.iload_n 1, 1) := by decide +kernel
theorem dX11_write_2 : decode cX11_write 2 = .ok (.invokevirtual 255, 3) := by decide +kernel
theorem dX11_write_5 : decode cX11_write 5 = .ok (.istore 5, 2) := by decide +kernel
theorem dX11_write_7 : decode cX11_write 7 = .ok (.iload 5, 2) := by decide +kernel
theorem dX11_write_9 : decode cX11_write 9 = .ok (.ifCond .eq 7, 3) := by decide +kernel
theorem dX11_write_12 : decode cX11_write 12 = .ok (.iload 5, 2) := by decide +kernel
theorem dX11_write_14 : decode cX11_write 14 = .ok (.i2l, 1) := by decide +kernel
theorem dX11_write_15 : decode cX11_write 15 = .ok (.lreturn, 1) := by decide +kernel
theorem dX11_write_16 : decode cX11_write 16 = .ok (.aload_n 0, 1) := by decide +kernel
theorem dX11_write_17 : decode cX11_write 17 = .ok (.getfield 52, 3) := by decide +kernel
theorem dX11_write_20 : decode cX11_write 20 = .ok (.iload_n 1, 1) := by decide +kernel
theorem dX11_write_21 : decode cX11_write 21 = .ok (.aaload, 1) := by decide +kernel
theorem dX11_write_22 : decode cX11_write 22 = .ok (.iload_n 2, 1) := by decide +kernel
theorem dX11_write_23 : decode cX11_write 23 = .ok (.invokevirtual 376, 3) := by decide +kernel
theorem dX11_write_26 : decode cX11_write 26 = .ok (.ifCond .ne 7, 3) := by decide +kernel
theorem dX11_write_29 : decode cX11_write 29 = .ok (.ldc2_w 387, 3) := by decide +kernel
theorem dX11_write_32 : decode cX11_write 32 = .ok (.lreturn, 1) := by decide +kernel
theorem dX11_write_33 : decode cX11_write 33 = .ok (.aload_n 0, 1) := by decide +kernel
theorem dX11_write_34 : decode cX11_write 34 = .ok (.getfield 52, 3) := by decide +kernel
theorem dX11_write_37 : decode cX11_write 37 = .ok (.iload_n 1, 1) := by decide +kernel
theorem dX11_write_38 : decode cX11_write 38 = .ok (.aaload, 1) := by decide +kernel
theorem dX11_write_39 : decode cX11_write 39 = .ok (.iload_n 2, 1) := by decide +kernel
theorem dX11_write_40 : decode cX11_write 40 = .ok (.lload_n 3, 1) := by decide +kernel
theorem dX11_write_41 : decode cX11_write 41 = .ok (.invokevirtual 389, 3) := by decide +kernel
theorem dX11_write_44 : decode cX11_write 44 = .ok (.aload_n 0, 1) := by decide +kernel
theorem dX11_write_45 : decode cX11_write 45 = .ok (.getfield 52, 3) := by decide +kernel
theorem dX11_write_48 : decode cX11_write 48 = .ok (.iload_n 1, 1) := by decide +kernel
theorem dX11_write_49 : decode cX11_write 49 = .ok (.aaload, 1) := by decide +kernel
theorem dX11_write_50 : decode cX11_write 50 = .ok (.iload_n 2, 1) := by decide +kernel
theorem dX11_write_51 : decode cX11_write 51 = .ok (.invokevirtual 242, 3) := by decide +kernel
theorem dX11_write_54 : decode cX11_write 54 = .ok (.lreturn, 1) := by decide +kernel
theorem dX11_lists_0 : decode cX11_lists 0 = .ok (.aload_n 0, 1) := by decide +kernel
theorem dX11_lists_1 : decode cX11_lists 1 = .ok (.iload_n 1, 1) := by decide +kernel
theorem dX11_lists_2 : decode cX11_lists 2 = .ok (.invokevirtual 255, 3) := by decide +kernel
theorem dX11_lists_5 : decode cX11_lists 5 = .ok (.istore_n 2, 1) := by decide +kernel
theorem dX11_lists_6 : decode cX11_lists 6 = .ok (.iload_n 2, 1) := by decide +kernel
theorem dX11_lists_7 : decode cX11_lists 7 = .ok (.ifCond .eq 5, 3) := by decide +kernel
theorem dX11_lists_10 : decode cX11_lists 10 = .ok (.iload_n 2, 1) := by decide +kernel
theorem dX11_lists_11 : decode cX11_lists 11 = .ok (.ireturn, 1) := by decide +kernel
theorem dX11_lists_12 : decode cX11_lists 12 = .ok (.aload_n 0, 1) := by decide +kernel
theorem dX11_lists_13 : decode cX11_lists 13 = .ok (.getfield 94, 3) := by decide +kernel
theorem dX11_lists_16 : decode cX11_lists 16 = .ok (.aload_n 0, 1) := by decide +kernel
theorem dX11_lists_17 : decode cX11_lists 17 = .ok (.getfield 26, 3) := by decide +kernel
theorem dX11_lists_20 : decode cX11_lists 20 = .ok (.aload_n 0, 1) := by decide +kernel
theorem dX11_lists_21 : decode cX11_lists 21 = .ok (.getfield 36, 3) := by decide +kernel
theorem dX11_lists_24 : decode cX11_lists 24 = .ok (.aload_n 0, 1) := by decide +kernel
theorem dX11_lists_25 : decode cX11_lists 25 = .ok (.getfield 36, 3) := by decide +kernel
theorem dX11_lists_28 : decode cX11_lists 28 = .ok (.getfield 153, 3) := by decide +kernel
theorem dX11_lists_31 : decode cX11_lists 31 = .ok (.invokevirtual 262, 3) := by decide +kernel
theorem dX11_lists_34 : decode cX11_lists 34 = .ok (.aload_n 0, 1) := by decide +kernel
theorem dX11_lists_35 : decode cX11_lists 35 = .ok (.getfield 94, 3) := by decide +kernel
theorem dX11_lists_38 : decode cX11_lists 38 = .ok (.invokevirtual 266, 3) := by decide +kernel
theorem dX11_lists_41 : decode cX11_lists 41 = .ok (.istore_n 3, 1) := by decide +kernel
theorem dX11_lists_42 : decode cX11_lists 42 = .ok (.iload_n 3, 1) := by decide +kernel
theorem dX11_lists_43 : decode cX11_lists 43 = .ok (.iconst (-1), 1) := by decide +kernel
theorem dX11_lists_44 : decode cX11_lists 44 = .ok (.if_icmp .ne 6, 3) := by decide +kernel
theorem dX11_lists_47 : decode cX11_lists 47 = .ok (.bipush (-5), 2) := by decide +kernel
theorem dX11_lists_49 : decode cX11_lists 49 = .ok (.ireturn, 1) := by decide +kernel
theorem dX11_lists_50 : decode cX11_lists 50 = .ok (.iload_n 3, 1) := by decide +kernel
theorem dX11_lists_51 : decode cX11_lists 51 = .ok (.aload_n 0, 1) := by decide +kernel
theorem dX11_lists_52 : decode cX11_lists 52 = .ok (.getfield 52, 3) := by decide +kernel
theorem dX11_lists_55 : decode cX11_lists 55 = .ok (.iload_n 1, 1) := by decide +kernel
theorem dX11_lists_56 : decode cX11_lists 56 = .ok (.aaload, 1) := by decide +kernel
theorem dX11_lists_57 : decode cX11_lists 57 = .ok (.invokevirtual 239, 3) := by decide +kernel
theorem dX11_lists_60 : decode cX11_lists 60 = .ok (.invokestatic 246, 3) := by decide +kernel
theorem dX11_lists_63 : decode cX11_lists 63 = .ok (.istore 4, 2) := by decide +kernel
theorem dX11_lists_65 : decode cX11_lists 65 = .ok (.iconst 0, 1) := by decide +kernel
theorem dX11_lists_66 : decode cX11_lists 66 = .ok (.istore 5, 2) := by decide +kernel
theorem dX11_lists_68 : decode cX11_lists 68 = .ok (.iload 5, 2) := by decide +kernel
theorem dX11_lists_70 : decode cX11_lists 70 = .ok (.iload 4, 2) := by decide +kernel
theorem dX11_lists_72 : decode cX11_lists 72 = .ok (.if_icmp .ge 30, 3) := by decide +kernel
theorem dX11_lists_75 : decode cX11_lists 75 = .ok (.aload_n 0, 1) := by decide +kernel
theorem dX11_lists_76 : decode cX11_lists 76 = .ok (.getfield 52, 3) := by decide +kernel
theorem dX11_lists_79 : decode cX11_lists 79 = .ok (.iload_n 1, 1) := by decide +kernel
theorem dX11_lists_80 : decode cX11_lists 80 = .ok (.aaload, 1) := by decide +kernel
theorem dX11_lists_81 : decode cX11_lists 81 = .ok (.iload 5, 2) := by decide +kernel
theorem dX11_lists_83 : decode cX11_lists 83 = .ok (.aload_n 0, 1) := by decide +kernel
theorem dX11_lists_84 : decode cX11_lists 84 = .ok (.getfield 94, 3) := by decide +kernel
theorem dX11_lists_87 : decode cX11_lists 87 = .ok (.iload 5, 2) := by decide +kernel
theorem dX11_lists_89 : decode cX11_lists 89 = .ok (.invokevirtual 269, 3) := by decide +kernel
theorem dX11_lists_92 : decode cX11_lists 92 = .ok (.i2l, 1) := by decide +kernel
theorem dX11_lists_93 : decode cX11_lists 93 = .ok (.invokevirtual 389, 3) := by decide +kernel
theorem dX11_lists_96 : decode cX11_lists 96 = .ok (.iinc 5 1, 3) := by decide +kernel
theorem dX11_lists_99 : decode cX11_lists 99 = .ok (.goto (-31), 3) := by decide +kernel
theorem dX11_lists_102 : decode cX11_lists 102 = .ok (.iload 4, 2) := by decide +kernel
theorem dX11_lists_104 : decode cX11_lists 104 = .ok (.ireturn, 1) := by decide +kernel
theorem dX11_image_0 : decode cX11_image 0 = .ok (.iload_n 1, 1) := by decide +kernel
theorem dX11_image_1 : decode cX11_image 1 = .ok (.ifCond .lt 12, 3) := by decide +kernel
theorem dX11_image_4 : decode cX11_image 4 = .ok (.iload_n 1, 1) := by decide +kernel
theorem dX11_image_5 : decode cX11_image 5 = .ok (.aload_n 0, 1) := by decide +kernel
theorem dX11_image_6 : decode cX11_image 6 = .ok (.getfield 58, 3) := by decide +kernel
theorem dX11_image_9 : decode cX11_image 9 = .ok (.arraylength, 1) := by decide +kernel
theorem dX11_image_10 : decode cX11_image 10 = .ok (.if_icmp .lt 6, 3) := by decide +kernel
theorem dX11_image_13 : decode cX11_image 13 = .ok (.bipush (-2), 2) := by decide +kernel
theorem dX11_image_15 : decode cX11_image 15 = .ok (.ireturn, 1) := by decide +kernel
theorem dX11_image_16 : decode cX11_image 16 = .ok (.aload_n 0, 1) := by decide +kernel
theorem dX11_image_17 : decode cX11_image 17 = .ok (.getfield 58, 3) := by decide +kernel
theorem dX11_image_20 : decode cX11_image 20 = .ok (.iload_n 1, 1) := by decide +kernel
theorem dX11_image_21 : decode cX11_image 21 = .ok (.aaload, 1) := by decide +kernel
theorem dX11_image_22 : decode cX11_image 22 = .ok (.iconst 1, 1) := by decide +kernel
theorem dX11_image_23 : decode cX11_image 23 = .ok (.putfield 393, 3) := by decide +kernel
theorem dX11_image_26 : decode cX11_image 26 = .ok (.aload_n 0, 1) := by decide +kernel
theorem dX11_image_27 : decode cX11_image 27 = .ok (.getfield 58, 3) := by decide +kernel
theorem dX11_image_30 : decode cX11_image 30 = .ok (.iload_n 1, 1) := by decide +kernel
theorem dX11_image_31 : decode cX11_image 31 = .ok (.aaload, 1) := by decide +kernel
theorem dX11_image_32 : decode cX11_image 32 = .ok (.getfield 397, 3) := by decide +kernel
theorem dX11_image_35 : decode cX11_image 35 = .ok (.aload_n 0, 1) := by decide +kernel
theorem dX11_image_36 : decode cX11_image 36 = .ok (.getfield 26, 3) := by decide +kernel
theorem dX11_image_39 : decode cX11_image 39 = .ok (.invokevirtual 398, 3) := by decide +kernel
theorem dX11_image_42 : decode cX11_image 42 = .ok (.aload_n 0, 1) := by decide +kernel
theorem dX11_image_43 : decode cX11_image 43 = .ok (.getfield 58, 3) := by decide +kernel
theorem dX11_image_46 : decode cX11_image 46 = .ok (.iload_n 1, 1) := by decide +kernel
theorem dX11_image_47 : decode cX11_image 47 = .ok (.aaload, 1) := by decide +kernel
theorem dX11_image_48 : decode cX11_image 48 = .ok (.getfield 400, 3) := by decide +kernel
theorem dX11_image_51 : decode cX11_image 51 = .ok (.aload_n 0, 1) := by decide +kernel
theorem dX11_image_52 : decode cX11_image 52 = .ok (.getfield 36, 3) := by decide +kernel
theorem dX11_image_55 : decode cX11_image 55 = .ok (.invokevirtual 124, 3) := by decide +kernel
theorem dX11_image_58 : decode cX11_image 58 = .ok (.iconst 0, 1) := by decide +kernel
theorem dX11_image_59 : decode cX11_image 59 = .ok (.ireturn, 1) := by decide +kernel
theorem dX11_restore_0 : decode cX11_restore 0 = .ok (.iload_n 1, 1) := by decide +kernel
theorem dX11_restore_1 : decode cX11_restore 1 = .ok (.ifCond .lt 12, 3) := by decide +kernel
theorem dX11_restore_4 : decode cX11_restore 4 = .ok (.iload_n 1, 1) := by decide +kernel
theorem dX11_restore_5 : decode cX11_restore 5 = .ok (.aload_n 0, 1) := by decide +kernel
theorem dX11_restore_6 : decode cX11_restore 6 = .ok (.getfield 58, 3) := by decide +kernel
theorem dX11_restore_9 : decode cX11_restore 9 = .ok (.arraylength, 1) := by decide +kernel
theorem dX11_restore_10 : decode cX11_restore 10 = .ok (.if_icmp .lt 6, 3) := by decide +kernel
theorem dX11_restore_13 : decode cX11_restore 13 = .ok (.bipush (-2), 2) := by decide +kernel
theorem dX11_restore_15 : decode cX11_restore 15 = .ok (.ireturn, 1) := by decide +kernel
theorem dX11_restore_16 : decode cX11_restore 16 = .ok (.aload_n 0, 1) := by decide +kernel
theorem dX11_restore_17 : decode cX11_restore 17 = .ok (.getfield 58, 3) := by decide +kernel
theorem dX11_restore_20 : decode cX11_restore 20 = .ok (.iload_n 1, 1) := by decide +kernel
theorem dX11_restore_21 : decode cX11_restore 21 = .ok (.aaload, 1) := by decide +kernel
theorem dX11_restore_22 : decode cX11_restore 22 = .ok (.getfield 393, 3) := by decide +kernel
theorem dX11_restore_25 : decode cX11_restore 25 = .ok (.ifCond .ne 6, 3) := by decide +kernel
theorem dX11_restore_28 : decode cX11_restore 28 = .ok (.bipush (-5), 2) := by decide +kernel
theorem dX11_restore_30 : decode cX11_restore 30 = .ok (.ireturn, 1) := by decide +kernel
theorem dX11_restore_31 : decode cX11_restore 31 = .ok (.aload_n 0, 1) := by decide +kernel
theorem dX11_restore_32 : decode cX11_restore 32 = .ok (.getfield 26, 3) := by decide +kernel
theorem dX11_restore_35 : decode cX11_restore 35 = .ok (.aload_n 0, 1) := by decide +kernel
theorem dX11_restore_36 : decode cX11_restore 36 = .ok (.getfield 58, 3) := by decide +kernel
theorem dX11_restore_39 : decode cX11_restore 39 = .ok (.iload_n 1, 1) := by decide +kernel
theorem dX11_restore_40 : decode cX11_restore 40 = .ok (.aaload, 1) := by decide +kernel
theorem dX11_restore_41 : decode cX11_restore 41 = .ok (.getfield 397, 3) := by decide +kernel
theorem dX11_restore_44 : decode cX11_restore 44 = .ok (.invokevirtual 398, 3) := by decide +kernel
theorem dX11_restore_47 : decode cX11_restore 47 = .ok (.aload_n 0, 1) := by decide +kernel
theorem dX11_restore_48 : decode cX11_restore 48 = .ok (.getfield 36, 3) := by decide +kernel
theorem dX11_restore_51 : decode cX11_restore 51 = .ok (.aload_n 0, 1) := by decide +kernel
theorem dX11_restore_52 : decode cX11_restore 52 = .ok (.getfield 58, 3) := by decide +kernel
theorem dX11_restore_55 : decode cX11_restore 55 = .ok (.iload_n 1, 1) := by decide +kernel
theorem dX11_restore_56 : decode cX11_restore 56 = .ok (.aaload, 1) := by decide +kernel
theorem dX11_restore_57 : decode cX11_restore 57 = .ok (.getfield 400, 3) := by decide +kernel
theorem dX11_restore_60 : decode cX11_restore 60 = .ok (.invokevirtual 124, 3) := by decide +kernel
theorem dX11_restore_63 : decode cX11_restore 63 = .ok (.aload_n 0, 1) := by decide +kernel
theorem dX11_restore_64 : decode cX11_restore 64 = .ok (.invokevirtual 128, 3) := by decide +kernel
theorem dX11_restore_67 : decode cX11_restore 67 = .ok (.iconst 0, 1) := by decide +kernel
theorem dX11_restore_68 : decode cX11_restore 68 = .ok (.ireturn, 1) := by decide +kernel
theorem dX11_count_0 : decode cX11_count 0 = .ok (.iload_n 1, 1) := by decide +kernel
theorem dX11_count_1 : decode cX11_count 1 = .ok (.tableswitch 164 0 11 #[63, 71, 79, 87, 95, 111, 119, 127, 135, 143, 151, 156], 63) := by decide +kernel
theorem dX11_count_64 : decode cX11_count 64 = .ok (.aload_n 0, 1) := by decide +kernel
theorem dX11_count_65 : decode cX11_count 65 = .ok (.getfield 36, 3) := by decide +kernel
theorem dX11_count_68 : decode cX11_count 68 = .ok (.getfield 160, 3) := by decide +kernel
theorem dX11_count_71 : decode cX11_count 71 = .ok (.ireturn, 1) := by decide +kernel
theorem dX11_count_72 : decode cX11_count 72 = .ok (.aload_n 0, 1) := by decide +kernel
theorem dX11_count_73 : decode cX11_count 73 = .ok (.getfield 26, 3) := by decide +kernel
theorem dX11_count_76 : decode cX11_count 76 = .ok (.getfield 163, 3) := by decide +kernel
theorem dX11_count_79 : decode cX11_count 79 = .ok (.ireturn, 1) := by decide +kernel
theorem dX11_count_80 : decode cX11_count 80 = .ok (.aload_n 0, 1) := by decide +kernel
theorem dX11_count_81 : decode cX11_count 81 = .ok (.getfield 36, 3) := by decide +kernel
theorem dX11_count_84 : decode cX11_count 84 = .ok (.getfield 150, 3) := by decide +kernel
theorem dX11_count_87 : decode cX11_count 87 = .ok (.ireturn, 1) := by decide +kernel
theorem dX11_count_88 : decode cX11_count 88 = .ok (.aload_n 0, 1) := by decide +kernel
theorem dX11_count_89 : decode cX11_count 89 = .ok (.getfield 36, 3) := by decide +kernel
theorem dX11_count_92 : decode cX11_count 92 = .ok (.getfield 153, 3) := by decide +kernel
theorem dX11_count_95 : decode cX11_count 95 = .ok (.ireturn, 1) := by decide +kernel
theorem dX11_count_96 : decode cX11_count 96 = .ok (.aload_n 0, 1) := by decide +kernel
theorem dX11_count_97 : decode cX11_count 97 = .ok (.getfield 36, 3) := by decide +kernel
theorem dX11_count_100 : decode cX11_count 100 = .ok (.invokevirtual 320, 3) := by decide +kernel
theorem dX11_count_103 : decode cX11_count 103 = .ok (.ifCond .eq 7, 3) := by decide +kernel
theorem dX11_count_106 : decode cX11_count 106 = .ok (.iconst 1, 1) := by decide +kernel
theorem dX11_count_107 : decode cX11_count 107 = .ok (.goto 4, 3) := by decide +kernel
theorem dX11_count_110 : decode cX11_count 110 = .ok (.iconst 0, 1) := by decide +kernel
theorem dX11_count_111 : decode cX11_count 111 = .ok (.ireturn, 1) := by decide +kernel
theorem dX11_count_112 : decode cX11_count 112 = .ok (.aload_n 0, 1) := by decide +kernel
theorem dX11_count_113 : decode cX11_count 113 = .ok (.getfield 36, 3) := by decide +kernel
theorem dX11_count_116 : decode cX11_count 116 = .ok (.getfield 252, 3) := by decide +kernel
theorem dX11_count_119 : decode cX11_count 119 = .ok (.ireturn, 1) := by decide +kernel
theorem dX11_count_120 : decode cX11_count 120 = .ok (.aload_n 0, 1) := by decide +kernel
theorem dX11_count_121 : decode cX11_count 121 = .ok (.getfield 36, 3) := by decide +kernel
theorem dX11_count_124 : decode cX11_count 124 = .ok (.getfield 401, 3) := by decide +kernel
theorem dX11_count_127 : decode cX11_count 127 = .ok (.ireturn, 1) := by decide +kernel
theorem dX11_count_128 : decode cX11_count 128 = .ok (.aload_n 0, 1) := by decide +kernel
theorem dX11_count_129 : decode cX11_count 129 = .ok (.getfield 36, 3) := by decide +kernel
theorem dX11_count_132 : decode cX11_count 132 = .ok (.getfield 121, 3) := by decide +kernel
theorem dX11_count_135 : decode cX11_count 135 = .ok (.ireturn, 1) := by decide +kernel
theorem dX11_count_136 : decode cX11_count 136 = .ok (.aload_n 0, 1) := by decide +kernel
theorem dX11_count_137 : decode cX11_count 137 = .ok (.getfield 26, 3) := by decide +kernel
theorem dX11_count_140 : decode cX11_count 140 = .ok (.invokevirtual 404, 3) := by decide +kernel
theorem dX11_count_143 : decode cX11_count 143 = .ok (.ireturn, 1) := by decide +kernel
theorem dX11_count_144 : decode cX11_count 144 = .ok (.aload_n 0, 1) := by decide +kernel
theorem dX11_count_145 : decode cX11_count 145 = .ok (.getfield 46, 3) := by decide +kernel
theorem dX11_count_148 : decode cX11_count 148 = .ok (.getfield 225, 3) := by decide +kernel
theorem dX11_count_151 : decode cX11_count 151 = .ok (.ireturn, 1) := by decide +kernel
theorem dX11_count_152 : decode cX11_count 152 = .ok (.aload_n 0, 1) := by decide +kernel
theorem dX11_count_153 : decode cX11_count 153 = .ok (.getfield 13, 3) := by decide +kernel
theorem dX11_count_156 : decode cX11_count 156 = .ok (.ireturn, 1) := by decide +kernel
theorem dX11_count_157 : decode cX11_count 157 = .ok (.aload_n 0, 1) := by decide +kernel
theorem dX11_count_158 : decode cX11_count 158 = .ok (.getfield 26, 3) := by decide +kernel
theorem dX11_count_161 : decode cX11_count 161 = .ok (.getfield 131, 3) := by decide +kernel
theorem dX11_count_164 : decode cX11_count 164 = .ok (.ireturn, 1) := by decide +kernel
theorem dX11_count_165 : decode cX11_count 165 = .ok (.iconst (-1), 1) := by decide +kernel
theorem dX11_count_166 : decode cX11_count 166 = .ok (.ireturn, 1) := by decide +kernel
theorem dX12_within_0 : decode cX12_within 0 = .ok (.lload_n 0, 1) := by decide +kernel
theorem dX12_within_1 : decode cX12_within 1 = .ok (.lload_n 2, 1) := by decide +kernel
theorem dX12_within_2 : decode cX12_within 2 = .ok (.lcmp, 1) := by decide +kernel
theorem dX12_within_3 : decode cX12_within 3 = .ok (.ifCond .lt 14, 3) := by decide +kernel
theorem dX12_within_6 : decode cX12_within 6 = .ok (.lload_n 0, 1) := by decide +kernel
theorem dX12_within_7 : decode cX12_within 7 = .ok (.lload 4, 2) := by decide +kernel
theorem dX12_within_9 : decode cX12_within 9 = .ok (.lcmp, 1) := by decide +kernel
theorem dX12_within_10 : decode cX12_within 10 = .ok (.ifCond .gt 7, 3) := by decide +kernel
theorem dX12_within_13 : decode cX12_within 13 = .ok (.iconst 1, 1) := by decide +kernel
theorem dX12_within_14 : decode cX12_within 14 = .ok (.goto 4, 3) := by decide +kernel
theorem dX12_within_17 : decode cX12_within 17 = .ok (.iconst 0, 1) := by decide +kernel
theorem dX12_within_18 : decode cX12_within 18 = .ok (.ireturn, 1) := by decide +kernel
theorem dX12_init_0 : decode cX12_init 0 = .ok (.aload_n 0, 1) := by decide +kernel
theorem dX12_init_1 : decode cX12_init 1 = .ok (.invokespecial 7, 3) := by decide +kernel
theorem dX12_init_4 : decode cX12_init 4 = .ok (.aload_n 0, 1) := by decide +kernel
theorem dX12_init_5 : decode cX12_init 5 = .ok (.sipush 3543, 3) := by decide +kernel
theorem dX12_init_8 : decode cX12_init 8 = .ok (.newarray .int, 2) := by decide +kernel
theorem dX12_init_10 : decode cX12_init 10 = .ok (.putfield 13, 3) := by decide +kernel
theorem dX12_init_13 : decode cX12_init 13 = .ok (.aload_n 0, 1) := by decide +kernel
theorem dX12_init_14 : decode cX12_init 14 = .ok (.iconst 2, 1) := by decide +kernel
theorem dX12_init_15 : decode cX12_init 15 = .ok (.newarray .boolean, 2) := by decide +kernel
theorem dX12_init_17 : decode cX12_init 17 = .ok (.putfield 17, 3) := by decide +kernel
theorem dX12_init_20 : decode cX12_init 20 = .ok (.aload_n 0, 1) := by decide +kernel
theorem dX12_init_21 : decode cX12_init 21 = .ok (.sipush 900, 3) := by decide +kernel
theorem dX12_init_24 : decode cX12_init 24 = .ok (.newarray .int, 2) := by decide +kernel
theorem dX12_init_26 : decode cX12_init 26 = .ok (.putfield 21, 3) := by decide +kernel
theorem dX12_init_29 : decode cX12_init 29 = .ok (.aload_n 0, 1) := by decide +kernel
theorem dX12_init_30 : decode cX12_init 30 = .ok (.sipush 1181, 3) := by decide +kernel
theorem dX12_init_33 : decode cX12_init 33 = .ok (.newarray .int, 2) := by decide +kernel
theorem dX12_init_35 : decode cX12_init 35 = .ok (.putfield 24, 3) := by decide +kernel
theorem dX12_init_38 : decode cX12_init 38 = .ok (.aload_n 0, 1) := by decide +kernel
theorem dX12_init_39 : decode cX12_init 39 = .ok (.iconst (-1), 1) := by decide +kernel
theorem dX12_init_40 : decode cX12_init 40 = .ok (.putfield 27, 3) := by decide +kernel
theorem dX12_init_43 : decode cX12_init 43 = .ok (.aload_n 0, 1) := by decide +kernel
theorem dX12_init_44 : decode cX12_init 44 = .ok (.sipush 900, 3) := by decide +kernel
theorem dX12_init_47 : decode cX12_init 47 = .ok (.newarray .int, 2) := by decide +kernel
theorem dX12_init_49 : decode cX12_init 49 = .ok (.putfield 30, 3) := by decide +kernel
theorem dX12_init_52 : decode cX12_init 52 = .ok (.aload_n 0, 1) := by decide +kernel
theorem dX12_init_53 : decode cX12_init 53 = .ok (.bipush 8, 2) := by decide +kernel
theorem dX12_init_55 : decode cX12_init 55 = .ok (.newarray .int, 2) := by decide +kernel
theorem dX12_init_57 : decode cX12_init 57 = .ok (.putfield 33, 3) := by decide +kernel
theorem dX12_init_60 : decode cX12_init 60 = .ok (.aload_n 0, 1) := by decide +kernel
theorem dX12_init_61 : decode cX12_init 61 = .ok (.bipush 23, 2) := by decide +kernel
theorem dX12_init_63 : decode cX12_init 63 = .ok (.newarray .int, 2) := by decide +kernel
theorem dX12_init_65 : decode cX12_init 65 = .ok (.putfield 36, 3) := by decide +kernel
theorem dX12_init_68 : decode cX12_init 68 = .ok (.aload_n 0, 1) := by decide +kernel
theorem dX12_init_69 : decode cX12_init 69 = .ok (.sipush 1536, 3) := by decide +kernel
theorem dX12_init_72 : decode cX12_init 72 = .ok (.newarray .int, 2) := by decide +kernel
theorem dX12_init_74 : decode cX12_init 74 = .ok (.putfield 39, 3) := by decide +kernel
theorem dX12_init_77 : decode cX12_init 77 = .ok (.aload_n 0, 1) := by decide +kernel
theorem dX12_init_78 : decode cX12_init 78 = .ok (.sipush 256, 3) := by decide +kernel
theorem dX12_init_81 : decode cX12_init 81 = .ok (.newarray .int, 2) := by decide +kernel
theorem dX12_init_83 : decode cX12_init 83 = .ok (.putfield 42, 3) := by decide +kernel
theorem dX12_init_86 : decode cX12_init 86 = .ok (.aload_n 0, 1) := by decide +kernel
theorem dX12_init_87 : decode cX12_init 87 = .ok (.sipush 256, 3) := by decide +kernel
theorem dX12_init_90 : decode cX12_init 90 = .ok (.newarray .int, 2) := by decide +kernel
theorem dX12_init_92 : decode cX12_init 92 = .ok (.putfield 45, 3) := by decide +kernel
theorem dX12_init_95 : decode cX12_init 95 = .ok (.aload_n 0, 1) := by decide +kernel
theorem dX12_init_96 : decode cX12_init 96 = .ok (.sipush 256, 3) := by decide +kernel
theorem dX12_init_99 : decode cX12_init 99 = .ok (.newarray .boolean, 2) := by decide +kernel
theorem dX12_init_101 : decode cX12_init 101 = .ok (.putfield 48, 3) := by decide +kernel
theorem dX12_init_104 : decode cX12_init 104 = .ok (.aload_n 0, 1) := by decide +kernel
theorem dX12_init_105 : decode cX12_init 105 = .ok (.sipush 256, 3) := by decide +kernel
theorem dX12_init_108 : decode cX12_init 108 = .ok (.newarray .long, 2) := by decide +kernel
theorem dX12_init_110 : decode cX12_init 110 = .ok (.putfield 51, 3) := by decide +kernel
theorem dX12_init_113 : decode cX12_init 113 = .ok (.aload_n 0, 1) := by decide +kernel
theorem dX12_init_114 : decode cX12_init 114 = .ok (.sipush 256, 3) := by decide +kernel
theorem dX12_init_117 : decode cX12_init 117 = .ok (.newarray .long, 2) := by decide +kernel
theorem dX12_init_119 : decode cX12_init 119 = .ok (.putfield 55, 3) := by decide +kernel
theorem dX12_init_122 : decode cX12_init 122 = .ok (.aload_n 0, 1) := by decide +kernel
theorem dX12_init_123 : decode cX12_init 123 = .ok (.bipush 6, 2) := by decide +kernel
theorem dX12_init_125 : decode cX12_init 125 = .ok (.newarray .long, 2) := by decide +kernel
theorem dX12_init_127 : decode cX12_init 127 = .ok (.putfield 58, 3) := by decide +kernel
theorem dX12_init_130 : decode cX12_init 130 = .ok (.aload_n 0, 1) := by decide +kernel
theorem dX12_init_131 : decode cX12_init 131 = .ok (.sipush 256, 3) := by decide +kernel
theorem dX12_init_134 : decode cX12_init 134 = .ok (.newarray .int, 2) := by decide +kernel
theorem dX12_init_136 : decode cX12_init 136 = .ok (.putfield 61, 3) := by decide +kernel
theorem dX12_init_139 : decode cX12_init 139 = .ok (.aload_n 0, 1) := by decide +kernel
theorem dX12_init_140 : decode cX12_init 140 = .ok (.bipush 9, 2) := by decide +kernel
theorem dX12_init_142 : decode cX12_init 142 = .ok (.newarray .int, 2) := by decide +kernel
theorem dX12_init_144 : decode cX12_init 144 = .ok (.putfield 64, 3) := by decide +kernel
theorem dX12_init_147 : decode cX12_init 147 = .ok (.aload_n 0, 1) := by decide +kernel
theorem dX12_init_148 : decode cX12_init 148 = .ok (.iconst 4, 1) := by decide +kernel
theorem dX12_init_149 : decode cX12_init 149 = .ok (.newarray .int, 2) := by decide +kernel
theorem dX12_init_151 : decode cX12_init 151 = .ok (.dup, 1) := by decide +kernel
theorem dX12_init_152 : decode cX12_init 152 = .ok (.iconst 0, 1) := by decide +kernel
theorem dX12_init_153 : decode cX12_init 153 = .ok (.iconst (-1), 1) := by decide +kernel
theorem dX12_init_154 : decode cX12_init 154 = .ok (.iastore, 1) := by decide +kernel
theorem dX12_init_155 : decode cX12_init 155 = .ok (.dup, 1) := by decide +kernel
theorem dX12_init_156 : decode cX12_init 156 = .ok (.iconst 1, 1) := by decide +kernel
theorem dX12_init_157 : decode cX12_init 157 = .ok (.iconst (-1), 1) := by decide +kernel
theorem dX12_init_158 : decode cX12_init 158 = .ok (.iastore, 1) := by decide +kernel
theorem dX12_init_159 : decode cX12_init 159 = .ok (.dup, 1) := by decide +kernel
theorem dX12_init_160 : decode cX12_init 160 = .ok (.iconst 2, 1) := by decide +kernel
theorem dX12_init_161 : decode cX12_init 161 = .ok (.iconst (-1), 1) := by decide +kernel
theorem dX12_init_162 : decode cX12_init 162 = .ok (.iastore, 1) := by decide +kernel
theorem dX12_init_163 : decode cX12_init 163 = .ok (.dup, 1) := by decide +kernel
theorem dX12_init_164 : decode cX12_init 164 = .ok (.iconst 3, 1) := by decide +kernel
theorem dX12_init_165 : decode cX12_init 165 = .ok (.iconst (-1), 1) := by decide +kernel
theorem dX12_init_166 : decode cX12_init 166 = .ok (.iastore, 1) := by decide +kernel
theorem dX12_init_167 : decode cX12_init 167 = .ok (.putfield 67, 3) := by decide +kernel
theorem dX12_init_170 : decode cX12_init 170 = .ok (.aload_n 0, 1) := by decide +kernel
theorem dX12_init_171 : decode cX12_init 171 = .ok (.iconst 4, 1) := by decide +kernel
theorem dX12_init_172 : decode cX12_init 172 = .ok (.newarray .int, 2) := by decide +kernel
theorem dX12_init_174 : decode cX12_init 174 = .ok (.putfield 70, 3) := by decide +kernel
theorem dX12_init_177 : decode cX12_init 177 = .ok (.aload_n 0, 1) := by decide +kernel
theorem dX12_init_178 : decode cX12_init 178 = .ok (.sipush 160, 3) := by decide +kernel
theorem dX12_init_181 : decode cX12_init 181 = .ok (.newarray .long, 2) := by decide +kernel
theorem dX12_init_183 : decode cX12_init 183 = .ok (.putfield 73, 3) := by decide +kernel
theorem dX12_init_186 : decode cX12_init 186 = .ok (.aload_n 0, 1) := by decide +kernel
theorem dX12_init_187 : decode cX12_init 187 = .ok (.getfield 13, 3) := by decide +kernel
theorem dX12_init_190 : decode cX12_init 190 = .ok (.invokestatic 76, 3) := by decide +kernel
theorem dX12_init_193 : decode cX12_init 193 = .ok (.return_, 1) := by decide +kernel
theorem dX12_plain_0 : decode cX12_plain 0 = .ok (.iconst 0, 1) := by decide +kernel
theorem dX12_plain_1 : decode cX12_plain 1 = .ok (.istore_n 1, 1) := by decide +kernel
theorem dX12_plain_2 : decode cX12_plain 2 = .ok (.iload_n 1, 1) := by decide +kernel
theorem dX12_plain_3 : decode cX12_plain 3 = .ok (.sipush 1181, 3) := by decide +kernel
theorem dX12_plain_6 : decode cX12_plain 6 = .ok (.if_icmp .ge 13, 3) := by decide +kernel
theorem dX12_plain_9 : decode cX12_plain 9 = .ok (.aload_n 0, 1) := by decide +kernel
theorem dX12_plain_10 : decode cX12_plain 10 = .ok (.iload_n 1, 1) := by decide +kernel
theorem dX12_plain_11 : decode cX12_plain 11 = .ok (.iconst 0, 1) := by decide +kernel
theorem dX12_plain_12 : decode cX12_plain 12 = .ok (.iastore, 1) := by decide +kernel
theorem dX12_plain_13 : decode cX12_plain 13 = .ok (.iinc 1 1, 3) := by decide +kernel
theorem dX12_plain_16 : decode cX12_plain 16 = .ok (.goto (-14), 3) := by decide +kernel
theorem dX12_plain_19 : decode cX12_plain 19 = .ok (.return_, 1) := by decide +kernel
theorem dX12_feed_0 : decode cX12_feed 0 = .ok (.aload_n 0, 1) := by decide +kernel
theorem dX12_feed_1 : decode cX12_feed 1 = .ok (.iconst 0, 1) := by decide +kernel
theorem dX12_feed_2 : decode cX12_feed 2 = .ok (.putfield 1, 3) := by decide +kernel
theorem dX12_feed_5 : decode cX12_feed 5 = .ok (.aload_n 0, 1) := by decide +kernel
theorem dX12_feed_6 : decode cX12_feed 6 = .ok (.getfield 80, 3) := by decide +kernel
theorem dX12_feed_9 : decode cX12_feed 9 = .ok (.bipush 20, 2) := by decide +kernel
theorem dX12_feed_11 : decode cX12_feed 11 = .ok (.iadd, 1) := by decide +kernel
theorem dX12_feed_12 : decode cX12_feed 12 = .ok (.sipush 900, 3) := by decide +kernel
theorem dX12_feed_15 : decode cX12_feed 15 = .ok (.if_icmp .le 6, 3) := by decide +kernel
theorem dX12_feed_18 : decode cX12_feed 18 = .ok (.bipush (-5), 2) := by decide +kernel
theorem dX12_feed_20 : decode cX12_feed 20 = .ok (.ireturn, 1) := by decide +kernel
theorem dX12_feed_21 : decode cX12_feed 21 = .ok (.iconst 0, 1) := by decide +kernel
theorem dX12_feed_22 : decode cX12_feed 22 = .ok (.istore 6, 2) := by decide +kernel
theorem dX12_feed_24 : decode cX12_feed 24 = .ok (.iload 6, 2) := by decide +kernel
theorem dX12_feed_26 : decode cX12_feed 26 = .ok (.bipush 20, 2) := by decide +kernel
theorem dX12_feed_28 : decode cX12_feed 28 = .ok (.if_icmp .ge 93, 3) := by decide +kernel
theorem dX12_feed_31 : decode cX12_feed 31 = .ok (.iload 6, 2) := by decide +kernel
theorem dX12_feed_33 : decode cX12_feed 33 = .ok (.iconst 4, 1) := by decide +kernel
theorem dX12_feed_34 : decode cX12_feed 34 = .ok (.if_icmp .ge 7, 3) := by decide +kernel
theorem dX12_feed_37 : decode cX12_feed 37 = .ok (.iload_n 1, 1) := by decide +kernel
theorem dX12_feed_38 : decode cX12_feed 38 = .ok (.goto 39, 3) := by decide +kernel
theorem dX12_feed_41 : decode cX12_feed 41 = .ok (.iload 6, 2) := by decide +kernel
theorem dX12_feed_43 : decode cX12_feed 43 = .ok (.bipush 8, 2) := by decide +kernel
theorem dX12_feed_45 : decode cX12_feed 45 = .ok (.if_icmp .ge 7, 3) := by decide +kernel
theorem dX12_feed_48 : decode cX12_feed 48 = .ok (.iload_n 2, 1) := by decide +kernel
theorem dX12_feed_49 : decode cX12_feed 49 = .ok (.goto 28, 3) := by decide +kernel
theorem dX12_feed_52 : decode cX12_feed 52 = .ok (.iload 6, 2) := by decide +kernel
theorem dX12_feed_54 : decode cX12_feed 54 = .ok (.bipush 12, 2) := by decide +kernel
theorem dX12_feed_56 : decode cX12_feed 56 = .ok (.if_icmp .ge 7, 3) := by decide +kernel
theorem dX12_feed_59 : decode cX12_feed 59 = .ok (.iload_n 3, 1) := by decide +kernel
theorem dX12_feed_60 : decode cX12_feed 60 = .ok (.goto 17, 3) := by decide +kernel
theorem dX12_feed_63 : decode cX12_feed 63 = .ok (.iload 6, 2) := by decide +kernel
theorem dX12_feed_65 : decode cX12_feed 65 = .ok (.bipush 16, 2) := by decide +kernel
theorem dX12_feed_67 : decode cX12_feed 67 = .ok (.if_icmp .ge 8, 3) := by decide +kernel
theorem dX12_feed_70 : decode cX12_feed 70 = .ok (.iload 4, 2) := by decide +kernel
theorem dX12_feed_72 : decode cX12_feed 72 = .ok (.goto 5, 3) := by decide +kernel
theorem dX12_feed_75 : decode cX12_feed 75 = .ok (.iload 5, 2) := by decide +kernel
theorem dX12_feed_77 : decode cX12_feed 77 = .ok (.istore 7, 2) := by decide +kernel
theorem dX12_feed_79 : decode cX12_feed 79 = .ok (.aload_n 0, 1) := by decide +kernel
theorem dX12_feed_80 : decode cX12_feed 80 = .ok (.getfield 21, 3) := by decide +kernel
theorem dX12_feed_83 : decode cX12_feed 83 = .ok (.aload_n 0, 1) := by decide +kernel
theorem dX12_feed_84 : decode cX12_feed 84 = .ok (.getfield 80, 3) := by decide +kernel
theorem dX12_feed_87 : decode cX12_feed 87 = .ok (.iload 7, 2) := by decide +kernel
theorem dX12_feed_89 : decode cX12_feed 89 = .ok (.bipush 24, 2) := by decide +kernel
theorem dX12_feed_91 : decode cX12_feed 91 = .ok (.bipush 8, 2) := by decide +kernel
theorem dX12_feed_93 : decode cX12_feed 93 = .ok (.iload 6, 2) := by decide +kernel
theorem dX12_feed_95 : decode cX12_feed 95 = .ok (.iconst 4, 1) := by decide +kernel
theorem dX12_feed_96 : decode cX12_feed 96 = .ok (.irem, 1) := by decide +kernel
theorem dX12_feed_97 : decode cX12_feed 97 = .ok (.imul, 1) := by decide +kernel
theorem dX12_feed_98 : decode cX12_feed 98 = .ok (.isub, 1) := by decide +kernel
theorem dX12_feed_99 : decode cX12_feed 99 = .ok (.ishr, 1) := by decide +kernel
theorem dX12_feed_100 : decode cX12_feed 100 = .ok (.sipush 255, 3) := by decide +kernel
theorem dX12_feed_103 : decode cX12_feed 103 = .ok (.iand, 1) := by decide +kernel
theorem dX12_feed_104 : decode cX12_feed 104 = .ok (.iastore, 1) := by decide +kernel
theorem dX12_feed_105 : decode cX12_feed 105 = .ok (.aload_n 0, 1) := by decide +kernel
theorem dX12_feed_106 : decode cX12_feed 106 = .ok (.dup, 1) := by decide +kernel
theorem dX12_feed_107 : decode cX12_feed 107 = .ok (.getfield 80, 3) := by decide +kernel
theorem dX12_feed_110 : decode cX12_feed 110 = .ok (.iconst 1, 1) := by decide +kernel
theorem dX12_feed_111 : decode cX12_feed 111 = .ok (.iadd, 1) := by decide +kernel
theorem dX12_feed_112 : decode cX12_feed 112 = .ok (.putfield 80, 3) := by decide +kernel
theorem dX12_feed_115 : decode cX12_feed 115 = .ok (.iinc 6 1, 3) := by decide +kernel
theorem dX12_feed_118 : decode cX12_feed 118 = .ok (.goto (-94), 3) := by decide +kernel
theorem dX12_feed_121 : decode cX12_feed 121 = .ok (.aload_n 0, 1) := by decide +kernel
theorem dX12_feed_122 : decode cX12_feed 122 = .ok (.getfield 80, 3) := by decide +kernel
theorem dX12_feed_125 : decode cX12_feed 125 = .ok (.ireturn, 1) := by decide +kernel
theorem dX12_see_0 : decode cX12_see 0 = .ok (.iload_n 1, 1) := by decide +kernel
theorem dX12_see_1 : decode cX12_see 1 = .ok (.aload_n 0, 1) := by decide +kernel
theorem dX12_see_2 : decode cX12_see 2 = .ok (.getfield 83, 3) := by decide +kernel
theorem dX12_see_5 : decode cX12_see 5 = .ok (.if_icmp .ge 12, 3) := by decide +kernel
theorem dX12_see_8 : decode cX12_see 8 = .ok (.aload_n 0, 1) := by decide +kernel
theorem dX12_see_9 : decode cX12_see 9 = .ok (.getfield 21, 3) := by decide +kernel
theorem dX12_see_12 : decode cX12_see 12 = .ok (.iload_n 1, 1) := by decide +kernel
theorem dX12_see_13 : decode cX12_see 13 = .ok (.iaload, 1) := by decide +kernel
theorem dX12_see_14 : decode cX12_see 14 = .ok (.goto 4, 3) := by decide +kernel
theorem dX12_see_17 : decode cX12_see 17 = .ok (.iconst (-1), 1) := by decide +kernel
theorem dX12_see_18 : decode cX12_see 18 = .ok (.ireturn, 1) := by decide +kernel
theorem dX12_isSmall_0 : decode cX12_isSmall 0 = .ok (.iload_n 0, 1) := by decide +kernel
theorem dX12_isSmall_1 : decode cX12_isSmall 1 = .ok (.bipush 97, 2) := by decide +kernel
theorem dX12_isSmall_3 : decode cX12_isSmall 3 = .ok (.if_icmp .lt 13, 3) := by decide +kernel
theorem dX12_isSmall_6 : decode cX12_isSmall 6 = .ok (.iload_n 0, 1) := by decide +kernel
theorem dX12_isSmall_7 : decode cX12_isSmall 7 = .ok (.bipush 122, 2) := by decide +kernel
theorem dX12_isSmall_9 : decode cX12_isSmall 9 = .ok (.if_icmp .gt 7, 3) := by decide +kernel
theorem dX12_isSmall_12 : decode cX12_isSmall 12 = .ok (.iconst 1, 1) := by decide +kernel
theorem dX12_isSmall_13 : decode cX12_isSmall 13 = .ok (.goto 4, 3) := by decide +kernel
theorem dX12_isSmall_16 : decode cX12_isSmall 16 = .ok (.iconst 0, 1) := by decide +kernel
theorem dX12_isSmall_17 : decode cX12_isSmall 17 = .ok (.ireturn, 1) := by decide +kernel
theorem dX12_isDigit_0 : decode cX12_isDigit 0 = .ok (.iload_n 0, 1) := by decide +kernel
theorem dX12_isDigit_1 : decode cX12_isDigit 1 = .ok (.bipush 48, 2) := by decide +kernel
theorem dX12_isDigit_3 : decode cX12_isDigit 3 = .ok (.if_icmp .lt 13, 3) := by decide +kernel
theorem dX12_isDigit_6 : decode cX12_isDigit 6 = .ok (.iload_n 0, 1) := by decide +kernel
theorem dX12_isDigit_7 : decode cX12_isDigit 7 = .ok (.bipush 57, 2) := by decide +kernel
theorem dX12_isDigit_9 : decode cX12_isDigit 9 = .ok (.if_icmp .gt 7, 3) := by decide +kernel
theorem dX12_isDigit_12 : decode cX12_isDigit 12 = .ok (.iconst 1, 1) := by decide +kernel
theorem dX12_isDigit_13 : decode cX12_isDigit 13 = .ok (.goto 4, 3) := by decide +kernel
theorem dX12_isDigit_16 : decode cX12_isDigit 16 = .ok (.iconst 0, 1) := by decide +kernel
theorem dX12_isDigit_17 : decode cX12_isDigit 17 = .ok (.ireturn, 1) := by decide +kernel
theorem dX12_keyAt_0 : decode cX12_keyAt 0 = .ok (.iconst 0, 1) := by decide +kernel
theorem dX12_keyAt_1 : decode cX12_keyAt 1 = .ok (.istore_n 1, 1) := by decide +kernel
theorem dX12_keyAt_2 : decode cX12_keyAt 2 = .ok (.iconst 1, 1) := by decide +kernel
theorem dX12_keyAt_3 : decode cX12_keyAt 3 = .ok (.istore_n 2, 1) := by decide +kernel
theorem dX12_keyAt_4 : decode cX12_keyAt 4 = .ok (.iload_n 2, 1) := by decide +kernel
theorem dX12_keyAt_5 : decode cX12_keyAt 5 = .ok (.ldc 86, 2) := by decide +kernel
theorem dX12_keyAt_7 : decode cX12_keyAt 7 = .ok (.invokevirtual 88, 3) := by decide +kernel
theorem dX12_keyAt_10 : decode cX12_keyAt 10 = .ok (.if_icmp .ge 113, 3) := by decide +kernel
theorem dX12_keyAt_13 : decode cX12_keyAt 13 = .ok (.iconst 0, 1) := by decide +kernel
theorem dX12_keyAt_14 : decode cX12_keyAt 14 = .ok (.istore_n 3, 1) := by decide +kernel
theorem dX12_keyAt_15 : decode cX12_keyAt 15 = .ok (.ldc 86, 2) := by decide +kernel
theorem dX12_keyAt_17 : decode cX12_keyAt 17 = .ok (.iload_n 2, 1) := by decide +kernel
theorem dX12_keyAt_18 : decode cX12_keyAt 18 = .ok (.iload_n 3, 1) := by decide +kernel
theorem dX12_keyAt_19 : decode cX12_keyAt 19 = .ok (.iadd, 1) := by decide +kernel
theorem dX12_keyAt_20 : decode cX12_keyAt 20 = .ok (.invokevirtual 94, 3) := by decide +kernel
theorem dX12_keyAt_23 : decode cX12_keyAt 23 = .ok (.bipush 32, 2) := by decide +kernel
theorem dX12_keyAt_25 : decode cX12_keyAt 25 = .ok (.if_icmp .eq 44, 3) := by decide +kernel
theorem dX12_keyAt_28 : decode cX12_keyAt 28 = .ok (.aload_n 0, 1) := by decide +kernel
theorem dX12_keyAt_29 : decode cX12_keyAt 29 = .ok (.getfield 98, 3) := by decide +kernel
theorem dX12_keyAt_32 : decode cX12_keyAt 32 = .ok (.iload_n 3, 1) := by decide +kernel
theorem dX12_keyAt_33 : decode cX12_keyAt 33 = .ok (.iadd, 1) := by decide +kernel
theorem dX12_keyAt_34 : decode cX12_keyAt 34 = .ok (.aload_n 0, 1) := by decide +kernel
theorem dX12_keyAt_35 : decode cX12_keyAt 35 = .ok (.getfield 101, 3) := by decide +kernel
theorem dX12_keyAt_38 : decode cX12_keyAt 38 = .ok (.if_icmp .ge 31, 3) := by decide +kernel
theorem dX12_keyAt_41 : decode cX12_keyAt 41 = .ok (.aload_n 0, 1) := by decide +kernel
theorem dX12_keyAt_42 : decode cX12_keyAt 42 = .ok (.getfield 21, 3) := by decide +kernel
theorem dX12_keyAt_45 : decode cX12_keyAt 45 = .ok (.aload_n 0, 1) := by decide +kernel
theorem dX12_keyAt_46 : decode cX12_keyAt 46 = .ok (.getfield 98, 3) := by decide +kernel
theorem dX12_keyAt_49 : decode cX12_keyAt 49 = .ok (.iload_n 3, 1) := by decide +kernel
theorem dX12_keyAt_50 : decode cX12_keyAt 50 = .ok (.iadd, 1) := by decide +kernel
theorem dX12_keyAt_51 : decode cX12_keyAt 51 = .ok (.iaload, 1) := by decide +kernel
theorem dX12_keyAt_52 : decode cX12_keyAt 52 = .ok (.ldc 86, 2) := by decide +kernel
theorem dX12_keyAt_54 : decode cX12_keyAt 54 = .ok (.iload_n 2, 1) := by decide +kernel
theorem dX12_keyAt_55 : decode cX12_keyAt 55 = .ok (.iload_n 3, 1) := by decide +kernel
theorem dX12_keyAt_56 : decode cX12_keyAt 56 = .ok (.iadd, 1) := by decide +kernel
theorem dX12_keyAt_57 : decode cX12_keyAt 57 = .ok (.invokevirtual 94, 3) := by decide +kernel
theorem dX12_keyAt_60 : decode cX12_keyAt 60 = .ok (.if_icmp .ne 9, 3) := by decide +kernel
theorem dX12_keyAt_63 : decode cX12_keyAt 63 = .ok (.iinc 3 1, 3) := by decide +kernel
theorem dX12_keyAt_66 : decode cX12_keyAt 66 = .ok (.goto (-51), 3) := by decide +kernel
theorem dX12_keyAt_69 : decode cX12_keyAt 69 = .ok (.ldc 86, 2) := by decide +kernel
theorem dX12_keyAt_71 : decode cX12_keyAt 71 = .ok (.iload_n 2, 1) := by decide +kernel
theorem dX12_keyAt_72 : decode cX12_keyAt 72 = .ok (.iload_n 3, 1) := by decide +kernel
theorem dX12_keyAt_73 : decode cX12_keyAt 73 = .ok (.iadd, 1) := by decide +kernel
theorem dX12_keyAt_74 : decode cX12_keyAt 74 = .ok (.invokevirtual 94, 3) := by decide +kernel
theorem dX12_keyAt_77 : decode cX12_keyAt 77 = .ok (.bipush 32, 2) := by decide +kernel
theorem dX12_keyAt_79 : decode cX12_keyAt 79 = .ok (.if_icmp .ne 18, 3) := by decide +kernel
theorem dX12_keyAt_82 : decode cX12_keyAt 82 = .ok (.aload_n 0, 1) := by decide +kernel
theorem dX12_keyAt_83 : decode cX12_keyAt 83 = .ok (.getfield 98, 3) := by decide +kernel
theorem dX12_keyAt_86 : decode cX12_keyAt 86 = .ok (.iload_n 3, 1) := by decide +kernel
theorem dX12_keyAt_87 : decode cX12_keyAt 87 = .ok (.iadd, 1) := by decide +kernel
theorem dX12_keyAt_88 : decode cX12_keyAt 88 = .ok (.aload_n 0, 1) := by decide +kernel
theorem dX12_keyAt_89 : decode cX12_keyAt 89 = .ok (.getfield 101, 3) := by decide +kernel
theorem dX12_keyAt_92 : decode cX12_keyAt 92 = .ok (.if_icmp .ne 5, 3) := by decide +kernel
theorem dX12_keyAt_95 : decode cX12_keyAt 95 = .ok (.iload_n 1, 1) := by decide +kernel
theorem dX12_keyAt_96 : decode cX12_keyAt 96 = .ok (.ireturn, 1) := by decide +kernel
theorem dX12_keyAt_97 : decode cX12_keyAt 97 = .ok (.ldc 86, 2) := by decide +kernel
theorem dX12_keyAt_99 : decode cX12_keyAt 99 = .ok (.iload_n 2, 1) := by decide +kernel
theorem dX12_keyAt_100 : decode cX12_keyAt 100 = .ok (.invokevirtual 94, 3) := by decide +kernel
theorem dX12_keyAt_103 : decode cX12_keyAt 103 = .ok (.bipush 32, 2) := by decide +kernel
theorem dX12_keyAt_105 : decode cX12_keyAt 105 = .ok (.if_icmp .eq 9, 3) := by decide +kernel
theorem dX12_keyAt_108 : decode cX12_keyAt 108 = .ok (.iinc 2 1, 3) := by decide +kernel
theorem dX12_keyAt_111 : decode cX12_keyAt 111 = .ok (.goto (-14), 3) := by decide +kernel
theorem dX12_keyAt_114 : decode cX12_keyAt 114 = .ok (.iinc 2 1, 3) := by decide +kernel
theorem dX12_keyAt_117 : decode cX12_keyAt 117 = .ok (.iinc 1 1, 3) := by decide +kernel
theorem dX12_keyAt_120 : decode cX12_keyAt 120 = .ok (.goto (-116), 3) := by decide +kernel
theorem dX12_keyAt_123 : decode cX12_keyAt 123 = .ok (.bipush 22, 2) := by decide +kernel
theorem dX12_keyAt_125 : decode cX12_keyAt 125 = .ok (.ireturn, 1) := by decide +kernel
theorem dX12_next_0 : decode cX12_next 0 = .ok (.aload_n 0, 1) := by decide +kernel
theorem dX12_next_1 : decode cX12_next 1 = .ok (.aload_n 0, 1) := by decide +kernel
theorem dX12_next_2 : decode cX12_next 2 = .ok (.getfield 101, 3) := by decide +kernel
theorem dX12_next_5 : decode cX12_next 5 = .ok (.putfield 98, 3) := by decide +kernel
theorem dX12_next_8 : decode cX12_next 8 = .ok (.aload_n 0, 1) := by decide +kernel
theorem dX12_next_9 : decode cX12_next 9 = .ok (.aload_n 0, 1) := by decide +kernel
theorem dX12_next_10 : decode cX12_next 10 = .ok (.getfield 98, 3) := by decide +kernel
theorem dX12_next_13 : decode cX12_next 13 = .ok (.invokevirtual 104, 3) := by decide +kernel
theorem dX12_next_16 : decode cX12_next 16 = .ok (.bipush 10, 2) := by decide +kernel
theorem dX12_next_18 : decode cX12_next 18 = .ok (.if_icmp .eq 16, 3) := by decide +kernel
theorem dX12_next_21 : decode cX12_next 21 = .ok (.aload_n 0, 1) := by decide +kernel
theorem dX12_next_22 : decode cX12_next 22 = .ok (.aload_n 0, 1) := by decide +kernel
theorem dX12_next_23 : decode cX12_next 23 = .ok (.getfield 98, 3) := by decide +kernel
theorem dX12_next_26 : decode cX12_next 26 = .ok (.invokevirtual 104, 3) := by decide +kernel
theorem dX12_next_29 : decode cX12_next 29 = .ok (.bipush 32, 2) := by decide +kernel
theorem dX12_next_31 : decode cX12_next 31 = .ok (.if_icmp .ne 16, 3) := by decide +kernel
theorem dX12_next_34 : decode cX12_next 34 = .ok (.aload_n 0, 1) := by decide +kernel
theorem dX12_next_35 : decode cX12_next 35 = .ok (.dup, 1) := by decide +kernel
theorem dX12_next_36 : decode cX12_next 36 = .ok (.getfield 98, 3) := by decide +kernel
theorem dX12_next_39 : decode cX12_next 39 = .ok (.iconst 1, 1) := by decide +kernel
theorem dX12_next_40 : decode cX12_next 40 = .ok (.iadd, 1) := by decide +kernel
theorem dX12_next_41 : decode cX12_next 41 = .ok (.putfield 98, 3) := by decide +kernel
theorem dX12_next_44 : decode cX12_next 44 = .ok (.goto (-36), 3) := by decide +kernel
theorem dX12_next_47 : decode cX12_next 47 = .ok (.aload_n 0, 1) := by decide +kernel
theorem dX12_next_48 : decode cX12_next 48 = .ok (.aload_n 0, 1) := by decide +kernel
theorem dX12_next_49 : decode cX12_next 49 = .ok (.getfield 98, 3) := by decide +kernel
theorem dX12_next_52 : decode cX12_next 52 = .ok (.putfield 101, 3) := by decide +kernel
theorem dX12_next_55 : decode cX12_next 55 = .ok (.aload_n 0, 1) := by decide +kernel
theorem dX12_next_56 : decode cX12_next 56 = .ok (.getfield 98, 3) := by decide +kernel
theorem dX12_next_59 : decode cX12_next 59 = .ok (.aload_n 0, 1) := by decide +kernel
theorem dX12_next_60 : decode cX12_next 60 = .ok (.getfield 83, 3) := by decide +kernel
theorem dX12_next_63 : decode cX12_next 63 = .ok (.if_icmp .lt 12, 3) := by decide +kernel
theorem dX12_next_66 : decode cX12_next 66 = .ok (.aload_n 0, 1) := by decide +kernel
theorem dX12_next_67 : decode cX12_next 67 = .ok (.bipush 24, 2) := by decide +kernel
theorem dX12_next_69 : decode cX12_next 69 = .ok (.putfield 108, 3) := by decide +kernel
theorem dX12_next_72 : decode cX12_next 72 = .ok (.goto 222, 3) := by decide +kernel
theorem dX12_next_75 : decode cX12_next 75 = .ok (.aload_n 0, 1) := by decide +kernel
theorem dX12_next_76 : decode cX12_next 76 = .ok (.aload_n 0, 1) := by decide +kernel
theorem dX12_next_77 : decode cX12_next 77 = .ok (.getfield 98, 3) := by decide +kernel
theorem dX12_next_80 : decode cX12_next 80 = .ok (.invokevirtual 104, 3) := by decide +kernel
theorem dX12_next_83 : decode cX12_next 83 = .ok (.invokestatic 111, 3) := by decide +kernel
theorem dX12_next_86 : decode cX12_next 86 = .ok (.ifCond .eq 41, 3) := by decide +kernel
theorem dX12_next_89 : decode cX12_next 89 = .ok (.aload_n 0, 1) := by decide +kernel
theorem dX12_next_90 : decode cX12_next 90 = .ok (.aload_n 0, 1) := by decide +kernel
theorem dX12_next_91 : decode cX12_next 91 = .ok (.getfield 101, 3) := by decide +kernel
theorem dX12_next_94 : decode cX12_next 94 = .ok (.invokevirtual 104, 3) := by decide +kernel
theorem dX12_next_97 : decode cX12_next 97 = .ok (.invokestatic 111, 3) := by decide +kernel
theorem dX12_next_100 : decode cX12_next 100 = .ok (.ifCond .eq 16, 3) := by decide +kernel
theorem dX12_next_103 : decode cX12_next 103 = .ok (.aload_n 0, 1) := by decide +kernel
theorem dX12_next_104 : decode cX12_next 104 = .ok (.dup, 1) := by decide +kernel
theorem dX12_next_105 : decode cX12_next 105 = .ok (.getfield 101, 3) := by decide +kernel
theorem dX12_next_108 : decode cX12_next 108 = .ok (.iconst 1, 1) := by decide +kernel
theorem dX12_next_109 : decode cX12_next 109 = .ok (.iadd, 1) := by decide +kernel
theorem dX12_next_110 : decode cX12_next 110 = .ok (.putfield 101, 3) := by decide +kernel
theorem dX12_next_113 : decode cX12_next 113 = .ok (.goto (-24), 3) := by decide +kernel
theorem dX12_next_116 : decode cX12_next 116 = .ok (.aload_n 0, 1) := by decide +kernel
theorem dX12_next_117 : decode cX12_next 117 = .ok (.aload_n 0, 1) := by decide +kernel
theorem dX12_next_118 : decode cX12_next 118 = .ok (.invokevirtual 115, 3) := by decide +kernel
theorem dX12_next_121 : decode cX12_next 121 = .ok (.putfield 108, 3) := by decide +kernel
theorem dX12_next_124 : decode cX12_next 124 = .ok (.goto 170, 3) := by decide +kernel
theorem dX12_next_127 : decode cX12_next 127 = .ok (.aload_n 0, 1) := by decide +kernel
theorem dX12_next_128 : decode cX12_next 128 = .ok (.aload_n 0, 1) := by decide +kernel
theorem dX12_next_129 : decode cX12_next 129 = .ok (.getfield 98, 3) := by decide +kernel
theorem dX12_next_132 : decode cX12_next 132 = .ok (.invokevirtual 104, 3) := by decide +kernel
theorem dX12_next_135 : decode cX12_next 135 = .ok (.invokestatic 118, 3) := by decide +kernel
theorem dX12_next_138 : decode cX12_next 138 = .ok (.ifCond .eq 98, 3) := by decide +kernel
theorem dX12_next_141 : decode cX12_next 141 = .ok (.aload_n 0, 1) := by decide +kernel
theorem dX12_next_142 : decode cX12_next 142 = .ok (.iconst 0, 1) := by decide +kernel
theorem dX12_next_143 : decode cX12_next 143 = .ok (.putfield 121, 3) := by decide +kernel
theorem dX12_next_146 : decode cX12_next 146 = .ok (.aload_n 0, 1) := by decide +kernel
theorem dX12_next_147 : decode cX12_next 147 = .ok (.aload_n 0, 1) := by decide +kernel
theorem dX12_next_148 : decode cX12_next 148 = .ok (.getfield 101, 3) := by decide +kernel
theorem dX12_next_151 : decode cX12_next 151 = .ok (.invokevirtual 104, 3) := by decide +kernel
theorem dX12_next_154 : decode cX12_next 154 = .ok (.invokestatic 118, 3) := by decide +kernel
theorem dX12_next_157 : decode cX12_next 157 = .ok (.ifCond .eq 52, 3) := by decide +kernel
theorem dX12_next_160 : decode cX12_next 160 = .ok (.aload_n 0, 1) := by decide +kernel
theorem dX12_next_161 : decode cX12_next 161 = .ok (.getfield 101, 3) := by decide +kernel
theorem dX12_next_164 : decode cX12_next 164 = .ok (.aload_n 0, 1) := by decide +kernel
theorem dX12_next_165 : decode cX12_next 165 = .ok (.getfield 98, 3) := by decide +kernel
theorem dX12_next_168 : decode cX12_next 168 = .ok (.isub, 1) := by decide +kernel
theorem dX12_next_169 : decode cX12_next 169 = .ok (.iconst 3, 1) := by decide +kernel
theorem dX12_next_170 : decode cX12_next 170 = .ok (.if_icmp .ge 26, 3) := by decide +kernel
theorem dX12_next_173 : decode cX12_next 173 = .ok (.aload_n 0, 1) := by decide +kernel
theorem dX12_next_174 : decode cX12_next 174 = .ok (.bipush 10, 2) := by decide +kernel
theorem dX12_next_176 : decode cX12_next 176 = .ok (.aload_n 0, 1) := by decide +kernel
theorem dX12_next_177 : decode cX12_next 177 = .ok (.getfield 121, 3) := by decide +kernel
theorem dX12_next_180 : decode cX12_next 180 = .ok (.imul, 1) := by decide +kernel
theorem dX12_next_181 : decode cX12_next 181 = .ok (.aload_n 0, 1) := by decide +kernel
theorem dX12_next_182 : decode cX12_next 182 = .ok (.aload_n 0, 1) := by decide +kernel
theorem dX12_next_183 : decode cX12_next 183 = .ok (.getfield 101, 3) := by decide +kernel
theorem dX12_next_186 : decode cX12_next 186 = .ok (.invokevirtual 104, 3) := by decide +kernel
theorem dX12_next_189 : decode cX12_next 189 = .ok (.iadd, 1) := by decide +kernel
theorem dX12_next_190 : decode cX12_next 190 = .ok (.bipush 48, 2) := by decide +kernel
theorem dX12_next_192 : decode cX12_next 192 = .ok (.isub, 1) := by decide +kernel
theorem dX12_next_193 : decode cX12_next 193 = .ok (.putfield 121, 3) := by decide +kernel
theorem dX12_next_196 : decode cX12_next 196 = .ok (.aload_n 0, 1) := by decide +kernel
theorem dX12_next_197 : decode cX12_next 197 = .ok (.dup, 1) := by decide +kernel
theorem dX12_next_198 : decode cX12_next 198 = .ok (.getfield 101, 3) := by decide +kernel
theorem dX12_next_201 : decode cX12_next 201 = .ok (.iconst 1, 1) := by decide +kernel
theorem dX12_next_202 : decode cX12_next 202 = .ok (.iadd, 1) := by decide +kernel
theorem dX12_next_203 : decode cX12_next 203 = .ok (.putfield 101, 3) := by decide +kernel
theorem dX12_next_206 : decode cX12_next 206 = .ok (.goto (-60), 3) := by decide +kernel
theorem dX12_next_209 : decode cX12_next 209 = .ok (.aload_n 0, 1) := by decide +kernel
theorem dX12_next_210 : decode cX12_next 210 = .ok (.aload_n 0, 1) := by decide +kernel
theorem dX12_next_211 : decode cX12_next 211 = .ok (.getfield 101, 3) := by decide +kernel
theorem dX12_next_214 : decode cX12_next 214 = .ok (.aload_n 0, 1) := by decide +kernel
theorem dX12_next_215 : decode cX12_next 215 = .ok (.getfield 98, 3) := by decide +kernel
theorem dX12_next_218 : decode cX12_next 218 = .ok (.isub, 1) := by decide +kernel
theorem dX12_next_219 : decode cX12_next 219 = .ok (.iconst 3, 1) := by decide +kernel
theorem dX12_next_220 : decode cX12_next 220 = .ok (.if_icmp .le 8, 3) := by decide +kernel
theorem dX12_next_223 : decode cX12_next 223 = .ok (.bipush 25, 2) := by decide +kernel
theorem dX12_next_225 : decode cX12_next 225 = .ok (.goto 5, 3) := by decide +kernel
theorem dX12_next_228 : decode cX12_next 228 = .ok (.bipush 23, 2) := by decide +kernel
theorem dX12_next_230 : decode cX12_next 230 = .ok (.putfield 108, 3) := by decide +kernel
theorem dX12_next_233 : decode cX12_next 233 = .ok (.goto 61, 3) := by decide +kernel
theorem dX12_next_236 : decode cX12_next 236 = .ok (.aload_n 0, 1) := by decide +kernel
theorem dX12_next_237 : decode cX12_next 237 = .ok (.dup, 1) := by decide +kernel
theorem dX12_next_238 : decode cX12_next 238 = .ok (.getfield 101, 3) := by decide +kernel
theorem dX12_next_241 : decode cX12_next 241 = .ok (.iconst 1, 1) := by decide +kernel
theorem dX12_next_242 : decode cX12_next 242 = .ok (.iadd, 1) := by decide +kernel
theorem dX12_next_243 : decode cX12_next 243 = .ok (.putfield 101, 3) := by decide +kernel
theorem dX12_next_246 : decode cX12_next 246 = .ok (.aload_n 0, 1) := by decide +kernel
theorem dX12_next_247 : decode cX12_next 247 = .ok (.bipush 25, 2) := by decide +kernel
theorem dX12_next_249 : decode cX12_next 249 = .ok (.putfield 108, 3) := by decide +kernel
theorem dX12_next_252 : decode cX12_next 252 = .ok (.iconst 0, 1) := by decide +kernel
theorem dX12_next_253 : decode cX12_next 253 = .ok (.istore_n 1, 1) := by decide +kernel
theorem dX12_next_254 : decode cX12_next 254 = .ok (.iload_n 1, 1) := by decide +kernel
theorem dX12_next_255 : decode cX12_next 255 = .ok (.ldc 124, 2) := by decide +kernel
theorem dX12_next_257 : decode cX12_next 257 = .ok (.invokevirtual 88, 3) := by decide +kernel
theorem dX12_next_260 : decode cX12_next 260 = .ok (.if_icmp .ge 34, 3) := by decide +kernel
theorem dX12_next_263 : decode cX12_next 263 = .ok (.aload_n 0, 1) := by decide +kernel
theorem dX12_next_264 : decode cX12_next 264 = .ok (.aload_n 0, 1) := by decide +kernel
theorem dX12_next_265 : decode cX12_next 265 = .ok (.getfield 98, 3) := by decide +kernel
theorem dX12_next_268 : decode cX12_next 268 = .ok (.invokevirtual 104, 3) := by decide +kernel
theorem dX12_next_271 : decode cX12_next 271 = .ok (.ldc 124, 2) := by decide +kernel
theorem dX12_next_273 : decode cX12_next 273 = .ok (.iload_n 1, 1) := by decide +kernel
theorem dX12_next_274 : decode cX12_next 274 = .ok (.invokevirtual 94, 3) := by decide +kernel
theorem dX12_next_277 : decode cX12_next 277 = .ok (.if_icmp .ne 11, 3) := by decide +kernel
theorem dX12_next_280 : decode cX12_next 280 = .ok (.aload_n 0, 1) := by decide +kernel
theorem dX12_next_281 : decode cX12_next 281 = .ok (.bipush 30, 2) := by decide +kernel
theorem dX12_next_283 : decode cX12_next 283 = .ok (.iload_n 1, 1) := by decide +kernel
theorem dX12_next_284 : decode cX12_next 284 = .ok (.iadd, 1) := by decide +kernel
theorem dX12_next_285 : decode cX12_next 285 = .ok (.putfield 108, 3) := by decide +kernel
theorem dX12_next_288 : decode cX12_next 288 = .ok (.iinc 1 1, 3) := by decide +kernel
theorem dX12_next_291 : decode cX12_next 291 = .ok (.goto (-37), 3) := by decide +kernel
theorem dX12_next_294 : decode cX12_next 294 = .ok (.return_, 1) := by decide +kernel
theorem dX12_fails_0 : decode cX12_fails 0 = .ok (.aload_n 0, 1) := by decide +kernel
theorem dX12_fails_1 : decode cX12_fails 1 = .ok (.getfield 126, 3) := by decide +kernel
theorem dX12_fails_4 : decode cX12_fails 4 = .ok (.ifCond .eq 4, 3) := by decide +kernel
theorem dX12_fails_7 : decode cX12_fails 7 = .ok (.return_, 1) := by decide +kernel
theorem dX12_fails_8 : decode cX12_fails 8 = .ok (.aload_n 0, 1) := by decide +kernel
theorem dX12_fails_9 : decode cX12_fails 9 = .ok (.aload_n 0, 1) := by decide +kernel
theorem dX12_fails_10 : decode cX12_fails 10 = .ok (.getfield 108, 3) := by decide +kernel
theorem dX12_fails_13 : decode cX12_fails 13 = .ok (.bipush 25, 2) := by decide +kernel
theorem dX12_fails_15 : decode cX12_fails 15 = .ok (.if_icmp .ne 7, 3) := by decide +kernel
theorem dX12_fails_18 : decode cX12_fails 18 = .ok (.iconst 1, 1) := by decide +kernel
theorem dX12_fails_19 : decode cX12_fails 19 = .ok (.goto 4, 3) := by decide +kernel
theorem dX12_fails_22 : decode cX12_fails 22 = .ok (.iload_n 1, 1) := by decide +kernel
theorem dX12_fails_23 : decode cX12_fails 23 = .ok (.putfield 126, 3) := by decide +kernel
theorem dX12_fails_26 : decode cX12_fails 26 = .ok (.aload_n 0, 1) := by decide +kernel
theorem dX12_fails_27 : decode cX12_fails 27 = .ok (.aload_n 0, 1) := by decide +kernel
theorem dX12_fails_28 : decode cX12_fails 28 = .ok (.getfield 98, 3) := by decide +kernel
theorem dX12_fails_31 : decode cX12_fails 31 = .ok (.putfield 129, 3) := by decide +kernel
theorem dX12_fails_34 : decode cX12_fails 34 = .ok (.return_, 1) := by decide +kernel
theorem dX12_is_0 : decode cX12_is 0 = .ok (.aload_n 0, 1) := by decide +kernel
theorem dX12_is_1 : decode cX12_is 1 = .ok (.getfield 126, 3) := by decide +kernel
theorem dX12_is_4 : decode cX12_is 4 = .ok (.ifCond .ne 15, 3) := by decide +kernel
theorem dX12_is_7 : decode cX12_is 7 = .ok (.aload_n 0, 1) := by decide +kernel
theorem dX12_is_8 : decode cX12_is 8 = .ok (.getfield 108, 3) := by decide +kernel
theorem dX12_is_11 : decode cX12_is 11 = .ok (.iload_n 1, 1) := by decide +kernel
theorem dX12_is_12 : decode cX12_is 12 = .ok (.if_icmp .ne 7, 3) := by decide +kernel
theorem dX12_is_15 : decode cX12_is 15 = .ok (.iconst 1, 1) := by decide +kernel
theorem dX12_is_16 : decode cX12_is 16 = .ok (.goto 4, 3) := by decide +kernel
theorem dX12_is_19 : decode cX12_is 19 = .ok (.iconst 0, 1) := by decide +kernel
theorem dX12_is_20 : decode cX12_is 20 = .ok (.ireturn, 1) := by decide +kernel
theorem dX12_eats_0 : decode cX12_eats 0 = .ok (.aload_n 0, 1) := by decide +kernel
theorem dX12_eats_1 : decode cX12_eats 1 = .ok (.iload_n 1, 1) := by decide +kernel
theorem dX12_eats_2 : decode cX12_eats 2 = .ok (.invokevirtual 132, 3) := by decide +kernel
theorem dX12_eats_5 : decode cX12_eats 5 = .ok (.ifCond .ne 5, 3) := by decide +kernel
theorem dX12_eats_8 : decode cX12_eats 8 = .ok (.iconst 0, 1) := by decide +kernel
theorem dX12_eats_9 : decode cX12_eats 9 = .ok (.ireturn, 1) := by decide +kernel
theorem dX12_eats_10 : decode cX12_eats 10 = .ok (.aload_n 0, 1) := by decide +kernel
theorem dX12_eats_11 : decode cX12_eats 11 = .ok (.invokevirtual 135, 3) := by decide +kernel
theorem dX12_eats_14 : decode cX12_eats 14 = .ok (.iconst 1, 1) := by decide +kernel
theorem dX12_eats_15 : decode cX12_eats 15 = .ok (.ireturn, 1) := by decide +kernel
theorem dX12_takes_0 : decode cX12_takes 0 = .ok (.aload_n 0, 1) := by decide +kernel
theorem dX12_takes_1 : decode cX12_takes 1 = .ok (.bipush 23, 2) := by decide +kernel
theorem dX12_takes_3 : decode cX12_takes 3 = .ok (.invokevirtual 132, 3) := by decide +kernel
theorem dX12_takes_6 : decode cX12_takes 6 = .ok (.ifCond .ne 11, 3) := by decide +kernel
theorem dX12_takes_9 : decode cX12_takes 9 = .ok (.aload_n 0, 1) := by decide +kernel
theorem dX12_takes_10 : decode cX12_takes 10 = .ok (.iconst 2, 1) := by decide +kernel
theorem dX12_takes_11 : decode cX12_takes 11 = .ok (.invokevirtual 138, 3) := by decide +kernel
theorem dX12_takes_14 : decode cX12_takes 14 = .ok (.goto 23, 3) := by decide +kernel
theorem dX12_takes_17 : decode cX12_takes 17 = .ok (.aload_n 0, 1) := by decide +kernel
theorem dX12_takes_18 : decode cX12_takes 18 = .ok (.getfield 121, 3) := by decide +kernel
theorem dX12_takes_21 : decode cX12_takes 21 = .ok (.i2l, 1) := by decide +kernel
theorem dX12_takes_22 : decode cX12_takes 22 = .ok (.iload_n 1, 1) := by decide +kernel
theorem dX12_takes_23 : decode cX12_takes 23 = .ok (.i2l, 1) := by decide +kernel
theorem dX12_takes_24 : decode cX12_takes 24 = .ok (.iload_n 2, 1) := by decide +kernel
theorem dX12_takes_25 : decode cX12_takes 25 = .ok (.i2l, 1) := by decide +kernel
theorem dX12_takes_26 : decode cX12_takes 26 = .ok (.invokestatic 142, 3) := by decide +kernel
theorem dX12_takes_29 : decode cX12_takes 29 = .ok (.ifCond .ne 8, 3) := by decide +kernel
theorem dX12_takes_32 : decode cX12_takes 32 = .ok (.aload_n 0, 1) := by decide +kernel
theorem dX12_takes_33 : decode cX12_takes 33 = .ok (.iconst 3, 1) := by decide +kernel
theorem dX12_takes_34 : decode cX12_takes 34 = .ok (.invokevirtual 138, 3) := by decide +kernel
theorem dX12_takes_37 : decode cX12_takes 37 = .ok (.aload_n 0, 1) := by decide +kernel
theorem dX12_takes_38 : decode cX12_takes 38 = .ok (.getfield 121, 3) := by decide +kernel
theorem dX12_takes_41 : decode cX12_takes 41 = .ok (.istore_n 3, 1) := by decide +kernel
theorem dX12_takes_42 : decode cX12_takes 42 = .ok (.aload_n 0, 1) := by decide +kernel
theorem dX12_takes_43 : decode cX12_takes 43 = .ok (.getfield 126, 3) := by decide +kernel
theorem dX12_takes_46 : decode cX12_takes 46 = .ok (.ifCond .ne 7, 3) := by decide +kernel
theorem dX12_takes_49 : decode cX12_takes 49 = .ok (.aload_n 0, 1) := by decide +kernel
theorem dX12_takes_50 : decode cX12_takes 50 = .ok (.invokevirtual 135, 3) := by decide +kernel
theorem dX12_takes_53 : decode cX12_takes 53 = .ok (.iload_n 3, 1) := by decide +kernel
theorem dX12_takes_54 : decode cX12_takes 54 = .ok (.ireturn, 1) := by decide +kernel
theorem dX12_isIn_0 : decode cX12_isIn 0 = .ok (.lload_n 0, 1) := by decide +kernel
theorem dX12_isIn_1 : decode cX12_isIn 1 = .ok (.iload_n 2, 1) := by decide +kernel
theorem dX12_isIn_2 : decode cX12_isIn 2 = .ok (.lshr, 1) := by decide +kernel
theorem dX12_isIn_3 : decode cX12_isIn 3 = .ok (.lconst 1, 1) := by decide +kernel
theorem dX12_isIn_4 : decode cX12_isIn 4 = .ok (.land, 1) := by decide +kernel
theorem dX12_isIn_5 : decode cX12_isIn 5 = .ok (.lconst 1, 1) := by decide +kernel
theorem dX12_isIn_6 : decode cX12_isIn 6 = .ok (.lcmp, 1) := by decide +kernel
theorem dX12_isIn_7 : decode cX12_isIn 7 = .ok (.ifCond .ne 7, 3) := by decide +kernel
theorem dX12_isIn_10 : decode cX12_isIn 10 = .ok (.iconst 1, 1) := by decide +kernel
theorem dX12_isIn_11 : decode cX12_isIn 11 = .ok (.goto 4, 3) := by decide +kernel
theorem dX12_isIn_14 : decode cX12_isIn 14 = .ok (.iconst 0, 1) := by decide +kernel
theorem dX12_isIn_15 : decode cX12_isIn 15 = .ok (.ireturn, 1) := by decide +kernel
theorem dX12_wordOf_0 : decode cX12_wordOf 0 = .ok (.iload_n 1, 1) := by decide +kernel
theorem dX12_wordOf_1 : decode cX12_wordOf 1 = .ok (.tableswitch 85 1 13 #[73, 75, 77, 82, 85, 85, 69, 71, 85, 85, 85, 67, 79], 67) := by decide +kernel
theorem dX12_wordOf_68 : decode cX12_wordOf 68 = .ok (.iconst 0, 1) := by decide +kernel
theorem dX12_wordOf_69 : decode cX12_wordOf 69 = .ok (.ireturn, 1) := by decide +kernel
theorem dX12_wordOf_70 : decode cX12_wordOf 70 = .ok (.iconst 1, 1) := by decide +kernel
theorem dX12_wordOf_71 : decode cX12_wordOf 71 = .ok (.ireturn, 1) := by decide +kernel
theorem dX12_wordOf_72 : decode cX12_wordOf 72 = .ok (.iconst 2, 1) := by decide +kernel
theorem dX12_wordOf_73 : decode cX12_wordOf 73 = .ok (.ireturn, 1) := by decide +kernel
theorem dX12_wordOf_74 : decode cX12_wordOf 74 = .ok (.iconst 3, 1) := by decide +kernel
theorem dX12_wordOf_75 : decode cX12_wordOf 75 = .ok (.ireturn, 1) := by decide +kernel
theorem dX12_wordOf_76 : decode cX12_wordOf 76 = .ok (.iconst 4, 1) := by decide +kernel
theorem dX12_wordOf_77 : decode cX12_wordOf 77 = .ok (.ireturn, 1) := by decide +kernel
theorem dX12_wordOf_78 : decode cX12_wordOf 78 = .ok (.iconst 5, 1) := by decide +kernel
theorem dX12_wordOf_79 : decode cX12_wordOf 79 = .ok (.ireturn, 1) := by decide +kernel
theorem dX12_wordOf_80 : decode cX12_wordOf 80 = .ok (.bipush 6, 2) := by decide +kernel
theorem dX12_wordOf_82 : decode cX12_wordOf 82 = .ok (.ireturn, 1) := by decide +kernel
theorem dX12_wordOf_83 : decode cX12_wordOf 83 = .ok (.bipush 7, 2) := by decide +kernel
theorem dX12_wordOf_85 : decode cX12_wordOf 85 = .ok (.ireturn, 1) := by decide +kernel
theorem dX12_wordOf_86 : decode cX12_wordOf 86 = .ok (.iconst (-1), 1) := by decide +kernel
theorem dX12_wordOf_87 : decode cX12_wordOf 87 = .ok (.ireturn, 1) := by decide +kernel
theorem dX12_codes_0 : decode cX12_codes 0 = .ok (.aload_n 0, 1) := by decide +kernel
theorem dX12_codes_1 : decode cX12_codes 1 = .ok (.getfield 126, 3) := by decide +kernel
theorem dX12_codes_4 : decode cX12_codes 4 = .ok (.ifCond .eq 4, 3) := by decide +kernel
theorem dX12_codes_7 : decode cX12_codes 7 = .ok (.return_, 1) := by decide +kernel
theorem dX12_codes_8 : decode cX12_codes 8 = .ok (.aload_n 0, 1) := by decide +kernel
theorem dX12_codes_9 : decode cX12_codes 9 = .ok (.getfield 24, 3) := by decide +kernel
theorem dX12_codes_12 : decode cX12_codes 12 = .ok (.sipush 281, 3) := by decide +kernel
theorem dX12_codes_15 : decode cX12_codes 15 = .ok (.aload_n 0, 1) := by decide +kernel
theorem dX12_codes_16 : decode cX12_codes 16 = .ok (.getfield 24, 3) := by decide +kernel
theorem dX12_codes_19 : decode cX12_codes 19 = .ok (.sipush 280, 3) := by decide +kernel
theorem dX12_codes_22 : decode cX12_codes 22 = .ok (.iaload, 1) := by decide +kernel
theorem dX12_codes_23 : decode cX12_codes 23 = .ok (.iadd, 1) := by decide +kernel
theorem dX12_codes_24 : decode cX12_codes 24 = .ok (.iload_n 1, 1) := by decide +kernel
theorem dX12_codes_25 : decode cX12_codes 25 = .ok (.iastore, 1) := by decide +kernel
theorem dX12_codes_26 : decode cX12_codes 26 = .ok (.aload_n 0, 1) := by decide +kernel
theorem dX12_codes_27 : decode cX12_codes 27 = .ok (.getfield 24, 3) := by decide +kernel
theorem dX12_codes_30 : decode cX12_codes 30 = .ok (.sipush 280, 3) := by decide +kernel
theorem dX12_codes_33 : decode cX12_codes 33 = .ok (.dup2, 1) := by decide +kernel
theorem dX12_codes_34 : decode cX12_codes 34 = .ok (.iaload, 1) := by decide +kernel
theorem dX12_codes_35 : decode cX12_codes 35 = .ok (.iconst 1, 1) := by decide +kernel
theorem dX12_codes_36 : decode cX12_codes 36 = .ok (.iadd, 1) := by decide +kernel
theorem dX12_codes_37 : decode cX12_codes 37 = .ok (.iastore, 1) := by decide +kernel
theorem dX12_codes_38 : decode cX12_codes 38 = .ok (.return_, 1) := by decide +kernel
theorem dX12_goesIn_0 : decode cX12_goesIn 0 = .ok (.iload_n 1, 1) := by decide +kernel
theorem dX12_goesIn_1 : decode cX12_goesIn 1 = .ok (.bipush 6, 2) := by decide +kernel
theorem dX12_goesIn_3 : decode cX12_goesIn 3 = .ok (.if_icmp .ne 8, 3) := by decide +kernel
theorem dX12_goesIn_6 : decode cX12_goesIn 6 = .ok (.aload_n 0, 1) := by decide +kernel
theorem dX12_goesIn_7 : decode cX12_goesIn 7 = .ok (.iconst 4, 1) := by decide +kernel
theorem dX12_goesIn_8 : decode cX12_goesIn 8 = .ok (.invokevirtual 138, 3) := by decide +kernel
theorem dX12_goesIn_11 : decode cX12_goesIn 11 = .ok (.aload_n 0, 1) := by decide +kernel
theorem dX12_goesIn_12 : decode cX12_goesIn 12 = .ok (.getfield 126, 3) := by decide +kernel
theorem dX12_goesIn_15 : decode cX12_goesIn 15 = .ok (.ifCond .ne 7, 3) := by decide +kernel
theorem dX12_goesIn_18 : decode cX12_goesIn 18 = .ok (.aload_n 0, 1) := by decide +kernel
theorem dX12_goesIn_19 : decode cX12_goesIn 19 = .ok (.invokevirtual 135, 3) := by decide +kernel
theorem dX12_goesIn_22 : decode cX12_goesIn 22 = .ok (.aload_n 0, 1) := by decide +kernel
theorem dX12_goesIn_23 : decode cX12_goesIn 23 = .ok (.getfield 126, 3) := by decide +kernel
theorem dX12_goesIn_26 : decode cX12_goesIn 26 = .ok (.ifCond .ne 7, 3) := by decide +kernel
theorem dX12_goesIn_29 : decode cX12_goesIn 29 = .ok (.iconst 1, 1) := by decide +kernel
theorem dX12_goesIn_30 : decode cX12_goesIn 30 = .ok (.goto 4, 3) := by decide +kernel
theorem dX12_goesIn_33 : decode cX12_goesIn 33 = .ok (.iconst 0, 1) := by decide +kernel
theorem dX12_goesIn_34 : decode cX12_goesIn 34 = .ok (.ireturn, 1) := by decide +kernel
theorem dX12_readAtom_0 : decode cX12_readAtom 0 = .ok (.aload_n 0, 1) := by decide +kernel
theorem dX12_readAtom_1 : decode cX12_readAtom 1 = .ok (.bipush 23, 2) := by decide +kernel
theorem dX12_readAtom_3 : decode cX12_readAtom 3 = .ok (.invokevirtual 132, 3) := by decide +kernel
theorem dX12_readAtom_6 : decode cX12_readAtom 6 = .ok (.ifCond .eq 18, 3) := by decide +kernel
theorem dX12_readAtom_9 : decode cX12_readAtom 9 = .ok (.aload_n 0, 1) := by decide +kernel
theorem dX12_readAtom_10 : decode cX12_readAtom 10 = .ok (.aload_n 0, 1) := by decide +kernel
theorem dX12_readAtom_11 : decode cX12_readAtom 11 = .ok (.getfield 121, 3) := by decide +kernel
theorem dX12_readAtom_14 : decode cX12_readAtom 14 = .ok (.invokevirtual 146, 3) := by decide +kernel
theorem dX12_readAtom_17 : decode cX12_readAtom 17 = .ok (.aload_n 0, 1) := by decide +kernel
theorem dX12_readAtom_18 : decode cX12_readAtom 18 = .ok (.invokevirtual 135, 3) := by decide +kernel
theorem dX12_readAtom_21 : decode cX12_readAtom 21 = .ok (.goto 92, 3) := by decide +kernel
theorem dX12_readAtom_24 : decode cX12_readAtom 24 = .ok (.aload_n 0, 1) := by decide +kernel
theorem dX12_readAtom_25 : decode cX12_readAtom 25 = .ok (.getfield 126, 3) := by decide +kernel
theorem dX12_readAtom_28 : decode cX12_readAtom 28 = .ok (.ifCond .ne 38, 3) := by decide +kernel
theorem dX12_readAtom_31 : decode cX12_readAtom 31 = .ok (.aload_n 0, 1) := by decide +kernel
theorem dX12_readAtom_32 : decode cX12_readAtom 32 = .ok (.aload_n 0, 1) := by decide +kernel
theorem dX12_readAtom_33 : decode cX12_readAtom 33 = .ok (.getfield 108, 3) := by decide +kernel
theorem dX12_readAtom_36 : decode cX12_readAtom 36 = .ok (.invokevirtual 149, 3) := by decide +kernel
theorem dX12_readAtom_39 : decode cX12_readAtom 39 = .ok (.iconst (-1), 1) := by decide +kernel
theorem dX12_readAtom_40 : decode cX12_readAtom 40 = .ok (.if_icmp .eq 26, 3) := by decide +kernel
theorem dX12_readAtom_43 : decode cX12_readAtom 43 = .ok (.aload_n 0, 1) := by decide +kernel
theorem dX12_readAtom_44 : decode cX12_readAtom 44 = .ok (.sipush 1000, 3) := by decide +kernel
theorem dX12_readAtom_47 : decode cX12_readAtom 47 = .ok (.aload_n 0, 1) := by decide +kernel
theorem dX12_readAtom_48 : decode cX12_readAtom 48 = .ok (.aload_n 0, 1) := by decide +kernel
theorem dX12_readAtom_49 : decode cX12_readAtom 49 = .ok (.getfield 108, 3) := by decide +kernel
theorem dX12_readAtom_52 : decode cX12_readAtom 52 = .ok (.invokevirtual 149, 3) := by decide +kernel
theorem dX12_readAtom_55 : decode cX12_readAtom 55 = .ok (.iadd, 1) := by decide +kernel
theorem dX12_readAtom_56 : decode cX12_readAtom 56 = .ok (.invokevirtual 146, 3) := by decide +kernel
theorem dX12_readAtom_59 : decode cX12_readAtom 59 = .ok (.aload_n 0, 1) := by decide +kernel
theorem dX12_readAtom_60 : decode cX12_readAtom 60 = .ok (.invokevirtual 135, 3) := by decide +kernel
theorem dX12_readAtom_63 : decode cX12_readAtom 63 = .ok (.goto 50, 3) := by decide +kernel
theorem dX12_readAtom_66 : decode cX12_readAtom 66 = .ok (.aload_n 0, 1) := by decide +kernel
theorem dX12_readAtom_67 : decode cX12_readAtom 67 = .ok (.bipush 35, 2) := by decide +kernel
theorem dX12_readAtom_69 : decode cX12_readAtom 69 = .ok (.invokevirtual 132, 3) := by decide +kernel
theorem dX12_readAtom_72 : decode cX12_readAtom 72 = .ok (.ifCond .eq 36, 3) := by decide +kernel
theorem dX12_readAtom_75 : decode cX12_readAtom 75 = .ok (.aload_n 0, 1) := by decide +kernel
theorem dX12_readAtom_76 : decode cX12_readAtom 76 = .ok (.iload_n 1, 1) := by decide +kernel
theorem dX12_readAtom_77 : decode cX12_readAtom 77 = .ok (.invokevirtual 152, 3) := by decide +kernel
theorem dX12_readAtom_80 : decode cX12_readAtom 80 = .ok (.ifCond .ne 4, 3) := by decide +kernel
theorem dX12_readAtom_83 : decode cX12_readAtom 83 = .ok (.return_, 1) := by decide +kernel
theorem dX12_readAtom_84 : decode cX12_readAtom 84 = .ok (.aload_n 0, 1) := by decide +kernel
theorem dX12_readAtom_85 : decode cX12_readAtom 85 = .ok (.iload_n 1, 1) := by decide +kernel
theorem dX12_readAtom_86 : decode cX12_readAtom 86 = .ok (.iconst 1, 1) := by decide +kernel
theorem dX12_readAtom_87 : decode cX12_readAtom 87 = .ok (.iadd, 1) := by decide +kernel
theorem dX12_readAtom_88 : decode cX12_readAtom 88 = .ok (.invokevirtual 155, 3) := by decide +kernel
theorem dX12_readAtom_91 : decode cX12_readAtom 91 = .ok (.aload_n 0, 1) := by decide +kernel
theorem dX12_readAtom_92 : decode cX12_readAtom 92 = .ok (.bipush 36, 2) := by decide +kernel
theorem dX12_readAtom_94 : decode cX12_readAtom 94 = .ok (.invokevirtual 158, 3) := by decide +kernel
theorem dX12_readAtom_97 : decode cX12_readAtom 97 = .ok (.ifCond .ne 16, 3) := by decide +kernel
theorem dX12_readAtom_100 : decode cX12_readAtom 100 = .ok (.aload_n 0, 1) := by decide +kernel
theorem dX12_readAtom_101 : decode cX12_readAtom 101 = .ok (.iconst 2, 1) := by decide +kernel
theorem dX12_readAtom_102 : decode cX12_readAtom 102 = .ok (.invokevirtual 138, 3) := by decide +kernel
theorem dX12_readAtom_105 : decode cX12_readAtom 105 = .ok (.goto 8, 3) := by decide +kernel
theorem dX12_readAtom_108 : decode cX12_readAtom 108 = .ok (.aload_n 0, 1) := by decide +kernel
theorem dX12_readAtom_109 : decode cX12_readAtom 109 = .ok (.iconst 2, 1) := by decide +kernel
theorem dX12_readAtom_110 : decode cX12_readAtom 110 = .ok (.invokevirtual 138, 3) := by decide +kernel
theorem dX12_readAtom_113 : decode cX12_readAtom 113 = .ok (.return_, 1) := by decide +kernel
theorem dX12_readTerm_0 : decode cX12_readTerm 0 = .ok (.aload_n 0, 1) := by decide +kernel
theorem dX12_readTerm_1 : decode cX12_readTerm 1 = .ok (.iload_n 1, 1) := by decide +kernel
theorem dX12_readTerm_2 : decode cX12_readTerm 2 = .ok (.invokevirtual 161, 3) := by decide +kernel
theorem dX12_readTerm_5 : decode cX12_readTerm 5 = .ok (.aload_n 0, 1) := by decide +kernel
theorem dX12_readTerm_6 : decode cX12_readTerm 6 = .ok (.bipush 34, 2) := by decide +kernel
theorem dX12_readTerm_8 : decode cX12_readTerm 8 = .ok (.invokevirtual 158, 3) := by decide +kernel
theorem dX12_readTerm_11 : decode cX12_readTerm 11 = .ok (.ifCond .eq 18, 3) := by decide +kernel
theorem dX12_readTerm_14 : decode cX12_readTerm 14 = .ok (.aload_n 0, 1) := by decide +kernel
theorem dX12_readTerm_15 : decode cX12_readTerm 15 = .ok (.iload_n 1, 1) := by decide +kernel
theorem dX12_readTerm_16 : decode cX12_readTerm 16 = .ok (.invokevirtual 161, 3) := by decide +kernel
theorem dX12_readTerm_19 : decode cX12_readTerm 19 = .ok (.aload_n 0, 1) := by decide +kernel
theorem dX12_readTerm_20 : decode cX12_readTerm 20 = .ok (.sipush 3002, 3) := by decide +kernel
theorem dX12_readTerm_23 : decode cX12_readTerm 23 = .ok (.invokevirtual 146, 3) := by decide +kernel
theorem dX12_readTerm_26 : decode cX12_readTerm 26 = .ok (.goto (-21), 3) := by decide +kernel
theorem dX12_readTerm_29 : decode cX12_readTerm 29 = .ok (.return_, 1) := by decide +kernel
theorem dX12_readSum_0 : decode cX12_readSum 0 = .ok (.aload_n 0, 1) := by decide +kernel
theorem dX12_readSum_1 : decode cX12_readSum 1 = .ok (.iload_n 1, 1) := by decide +kernel
theorem dX12_readSum_2 : decode cX12_readSum 2 = .ok (.invokevirtual 164, 3) := by decide +kernel
theorem dX12_readSum_5 : decode cX12_readSum 5 = .ok (.aload_n 0, 1) := by decide +kernel
theorem dX12_readSum_6 : decode cX12_readSum 6 = .ok (.bipush 32, 2) := by decide +kernel
theorem dX12_readSum_8 : decode cX12_readSum 8 = .ok (.invokevirtual 132, 3) := by decide +kernel
theorem dX12_readSum_11 : decode cX12_readSum 11 = .ok (.ifCond .ne 12, 3) := by decide +kernel
theorem dX12_readSum_14 : decode cX12_readSum 14 = .ok (.aload_n 0, 1) := by decide +kernel
theorem dX12_readSum_15 : decode cX12_readSum 15 = .ok (.bipush 33, 2) := by decide +kernel
theorem dX12_readSum_17 : decode cX12_readSum 17 = .ok (.invokevirtual 132, 3) := by decide +kernel
theorem dX12_readSum_20 : decode cX12_readSum 20 = .ok (.ifCond .eq 39, 3) := by decide +kernel
theorem dX12_readSum_23 : decode cX12_readSum 23 = .ok (.aload_n 0, 1) := by decide +kernel
theorem dX12_readSum_24 : decode cX12_readSum 24 = .ok (.getfield 108, 3) := by decide +kernel
theorem dX12_readSum_27 : decode cX12_readSum 27 = .ok (.bipush 32, 2) := by decide +kernel
theorem dX12_readSum_29 : decode cX12_readSum 29 = .ok (.if_icmp .ne 9, 3) := by decide +kernel
theorem dX12_readSum_32 : decode cX12_readSum 32 = .ok (.sipush 3000, 3) := by decide +kernel
theorem dX12_readSum_35 : decode cX12_readSum 35 = .ok (.goto 6, 3) := by decide +kernel
theorem dX12_readSum_38 : decode cX12_readSum 38 = .ok (.sipush 3001, 3) := by decide +kernel
theorem dX12_readSum_41 : decode cX12_readSum 41 = .ok (.istore_n 2, 1) := by decide +kernel
theorem dX12_readSum_42 : decode cX12_readSum 42 = .ok (.aload_n 0, 1) := by decide +kernel
theorem dX12_readSum_43 : decode cX12_readSum 43 = .ok (.invokevirtual 135, 3) := by decide +kernel
theorem dX12_readSum_46 : decode cX12_readSum 46 = .ok (.aload_n 0, 1) := by decide +kernel
theorem dX12_readSum_47 : decode cX12_readSum 47 = .ok (.iload_n 1, 1) := by decide +kernel
theorem dX12_readSum_48 : decode cX12_readSum 48 = .ok (.invokevirtual 164, 3) := by decide +kernel
theorem dX12_readSum_51 : decode cX12_readSum 51 = .ok (.aload_n 0, 1) := by decide +kernel
theorem dX12_readSum_52 : decode cX12_readSum 52 = .ok (.iload_n 2, 1) := by decide +kernel
theorem dX12_readSum_53 : decode cX12_readSum 53 = .ok (.invokevirtual 146, 3) := by decide +kernel
theorem dX12_readSum_56 : decode cX12_readSum 56 = .ok (.goto (-51), 3) := by decide +kernel
theorem dX12_readSum_59 : decode cX12_readSum 59 = .ok (.return_, 1) := by decide +kernel
theorem dX12_readUnit_0 : decode cX12_readUnit 0 = .ok (.aload_n 0, 1) := by decide +kernel
theorem dX12_readUnit_1 : decode cX12_readUnit 1 = .ok (.bipush 16, 2) := by decide +kernel
theorem dX12_readUnit_3 : decode cX12_readUnit 3 = .ok (.invokevirtual 132, 3) := by decide +kernel
theorem dX12_readUnit_6 : decode cX12_readUnit 6 = .ok (.ifCond .eq 27, 3) := by decide +kernel
theorem dX12_readUnit_9 : decode cX12_readUnit 9 = .ok (.aload_n 0, 1) := by decide +kernel
theorem dX12_readUnit_10 : decode cX12_readUnit 10 = .ok (.iload_n 1, 1) := by decide +kernel
theorem dX12_readUnit_11 : decode cX12_readUnit 11 = .ok (.invokevirtual 152, 3) := by decide +kernel
theorem dX12_readUnit_14 : decode cX12_readUnit 14 = .ok (.ifCond .ne 4, 3) := by decide +kernel
theorem dX12_readUnit_17 : decode cX12_readUnit 17 = .ok (.return_, 1) := by decide +kernel
theorem dX12_readUnit_18 : decode cX12_readUnit 18 = .ok (.aload_n 0, 1) := by decide +kernel
theorem dX12_readUnit_19 : decode cX12_readUnit 19 = .ok (.iload_n 1, 1) := by decide +kernel
theorem dX12_readUnit_20 : decode cX12_readUnit 20 = .ok (.iconst 1, 1) := by decide +kernel
theorem dX12_readUnit_21 : decode cX12_readUnit 21 = .ok (.iadd, 1) := by decide +kernel
theorem dX12_readUnit_22 : decode cX12_readUnit 22 = .ok (.invokevirtual 167, 3) := by decide +kernel
theorem dX12_readUnit_25 : decode cX12_readUnit 25 = .ok (.aload_n 0, 1) := by decide +kernel
theorem dX12_readUnit_26 : decode cX12_readUnit 26 = .ok (.sipush 3006, 3) := by decide +kernel
theorem dX12_readUnit_29 : decode cX12_readUnit 29 = .ok (.invokevirtual 146, 3) := by decide +kernel
theorem dX12_readUnit_32 : decode cX12_readUnit 32 = .ok (.return_, 1) := by decide +kernel
theorem dX12_readUnit_33 : decode cX12_readUnit 33 = .ok (.aload_n 0, 1) := by decide +kernel
theorem dX12_readUnit_34 : decode cX12_readUnit 34 = .ok (.bipush 37, 2) := by decide +kernel
theorem dX12_readUnit_36 : decode cX12_readUnit 36 = .ok (.invokevirtual 132, 3) := by decide +kernel
theorem dX12_readUnit_39 : decode cX12_readUnit 39 = .ok (.ifCond .eq 34, 3) := by decide +kernel
theorem dX12_readUnit_42 : decode cX12_readUnit 42 = .ok (.aload_n 0, 1) := by decide +kernel
theorem dX12_readUnit_43 : decode cX12_readUnit 43 = .ok (.iload_n 1, 1) := by decide +kernel
theorem dX12_readUnit_44 : decode cX12_readUnit 44 = .ok (.invokevirtual 152, 3) := by decide +kernel
theorem dX12_readUnit_47 : decode cX12_readUnit 47 = .ok (.ifCond .ne 4, 3) := by decide +kernel
theorem dX12_readUnit_50 : decode cX12_readUnit 50 = .ok (.return_, 1) := by decide +kernel
theorem dX12_readUnit_51 : decode cX12_readUnit 51 = .ok (.aload_n 0, 1) := by decide +kernel
theorem dX12_readUnit_52 : decode cX12_readUnit 52 = .ok (.iload_n 1, 1) := by decide +kernel
theorem dX12_readUnit_53 : decode cX12_readUnit 53 = .ok (.iconst 1, 1) := by decide +kernel
theorem dX12_readUnit_54 : decode cX12_readUnit 54 = .ok (.iadd, 1) := by decide +kernel
theorem dX12_readUnit_55 : decode cX12_readUnit 55 = .ok (.invokevirtual 170, 3) := by decide +kernel
theorem dX12_readUnit_58 : decode cX12_readUnit 58 = .ok (.aload_n 0, 1) := by decide +kernel
theorem dX12_readUnit_59 : decode cX12_readUnit 59 = .ok (.bipush 38, 2) := by decide +kernel
theorem dX12_readUnit_61 : decode cX12_readUnit 61 = .ok (.invokevirtual 158, 3) := by decide +kernel
theorem dX12_readUnit_64 : decode cX12_readUnit 64 = .ok (.ifCond .ne 8, 3) := by decide +kernel
theorem dX12_readUnit_67 : decode cX12_readUnit 67 = .ok (.aload_n 0, 1) := by decide +kernel
theorem dX12_readUnit_68 : decode cX12_readUnit 68 = .ok (.iconst 2, 1) := by decide +kernel
theorem dX12_readUnit_69 : decode cX12_readUnit 69 = .ok (.invokevirtual 138, 3) := by decide +kernel
theorem dX12_readUnit_72 : decode cX12_readUnit 72 = .ok (.return_, 1) := by decide +kernel
theorem dX12_readUnit_73 : decode cX12_readUnit 73 = .ok (.aload_n 0, 1) := by decide +kernel
theorem dX12_readUnit_74 : decode cX12_readUnit 74 = .ok (.iload_n 1, 1) := by decide +kernel
theorem dX12_readUnit_75 : decode cX12_readUnit 75 = .ok (.invokevirtual 155, 3) := by decide +kernel
theorem dX12_readUnit_78 : decode cX12_readUnit 78 = .ok (.aload_n 0, 1) := by decide +kernel
theorem dX12_readUnit_79 : decode cX12_readUnit 79 = .ok (.bipush 39, 2) := by decide +kernel
theorem dX12_readUnit_81 : decode cX12_readUnit 81 = .ok (.invokevirtual 132, 3) := by decide +kernel
theorem dX12_readUnit_84 : decode cX12_readUnit 84 = .ok (.ifCond .eq 9, 3) := by decide +kernel
theorem dX12_readUnit_87 : decode cX12_readUnit 87 = .ok (.sipush 3003, 3) := by decide +kernel
theorem dX12_readUnit_90 : decode cX12_readUnit 90 = .ok (.goto 21, 3) := by decide +kernel
theorem dX12_readUnit_93 : decode cX12_readUnit 93 = .ok (.aload_n 0, 1) := by decide +kernel
theorem dX12_readUnit_94 : decode cX12_readUnit 94 = .ok (.bipush 40, 2) := by decide +kernel
theorem dX12_readUnit_96 : decode cX12_readUnit 96 = .ok (.invokevirtual 132, 3) := by decide +kernel
theorem dX12_readUnit_99 : decode cX12_readUnit 99 = .ok (.ifCond .eq 9, 3) := by decide +kernel
theorem dX12_readUnit_102 : decode cX12_readUnit 102 = .ok (.sipush 3004, 3) := by decide +kernel
theorem dX12_readUnit_105 : decode cX12_readUnit 105 = .ok (.goto 6, 3) := by decide +kernel
theorem dX12_readUnit_108 : decode cX12_readUnit 108 = .ok (.sipush 3005, 3) := by decide +kernel
theorem dX12_readUnit_111 : decode cX12_readUnit 111 = .ok (.istore_n 2, 1) := by decide +kernel
theorem dX12_readUnit_112 : decode cX12_readUnit 112 = .ok (.aload_n 0, 1) := by decide +kernel
theorem dX12_readUnit_113 : decode cX12_readUnit 113 = .ok (.bipush 39, 2) := by decide +kernel
theorem dX12_readUnit_115 : decode cX12_readUnit 115 = .ok (.invokevirtual 132, 3) := by decide +kernel
theorem dX12_readUnit_118 : decode cX12_readUnit 118 = .ok (.ifCond .ne 21, 3) := by decide +kernel
theorem dX12_readUnit_121 : decode cX12_readUnit 121 = .ok (.aload_n 0, 1) := by decide +kernel
theorem dX12_readUnit_122 : decode cX12_readUnit 122 = .ok (.bipush 40, 2) := by decide +kernel
theorem dX12_readUnit_124 : decode cX12_readUnit 124 = .ok (.invokevirtual 132, 3) := by decide +kernel
theorem dX12_readUnit_127 : decode cX12_readUnit 127 = .ok (.ifCond .ne 12, 3) := by decide +kernel
theorem dX12_readUnit_130 : decode cX12_readUnit 130 = .ok (.aload_n 0, 1) := by decide +kernel
theorem dX12_readUnit_131 : decode cX12_readUnit 131 = .ok (.bipush 41, 2) := by decide +kernel
theorem dX12_readUnit_133 : decode cX12_readUnit 133 = .ok (.invokevirtual 132, 3) := by decide +kernel
theorem dX12_readUnit_136 : decode cX12_readUnit 136 = .ok (.ifCond .eq 10, 3) := by decide +kernel
theorem dX12_readUnit_139 : decode cX12_readUnit 139 = .ok (.aload_n 0, 1) := by decide +kernel
theorem dX12_readUnit_140 : decode cX12_readUnit 140 = .ok (.invokevirtual 135, 3) := by decide +kernel
theorem dX12_readUnit_143 : decode cX12_readUnit 143 = .ok (.goto 8, 3) := by decide +kernel
theorem dX12_readUnit_146 : decode cX12_readUnit 146 = .ok (.aload_n 0, 1) := by decide +kernel
theorem dX12_readUnit_147 : decode cX12_readUnit 147 = .ok (.iconst 2, 1) := by decide +kernel
theorem dX12_readUnit_148 : decode cX12_readUnit 148 = .ok (.invokevirtual 138, 3) := by decide +kernel
theorem dX12_readUnit_151 : decode cX12_readUnit 151 = .ok (.aload_n 0, 1) := by decide +kernel
theorem dX12_readUnit_152 : decode cX12_readUnit 152 = .ok (.iload_n 1, 1) := by decide +kernel
theorem dX12_readUnit_153 : decode cX12_readUnit 153 = .ok (.invokevirtual 155, 3) := by decide +kernel
theorem dX12_readUnit_156 : decode cX12_readUnit 156 = .ok (.aload_n 0, 1) := by decide +kernel
theorem dX12_readUnit_157 : decode cX12_readUnit 157 = .ok (.iload_n 2, 1) := by decide +kernel
theorem dX12_readUnit_158 : decode cX12_readUnit 158 = .ok (.invokevirtual 146, 3) := by decide +kernel
theorem dX12_readUnit_161 : decode cX12_readUnit 161 = .ok (.return_, 1) := by decide +kernel
theorem dX12_readBoth_0 : decode cX12_readBoth 0 = .ok (.aload_n 0, 1) := by decide +kernel
theorem dX12_readBoth_1 : decode cX12_readBoth 1 = .ok (.iload_n 1, 1) := by decide +kernel
theorem dX12_readBoth_2 : decode cX12_readBoth 2 = .ok (.invokevirtual 167, 3) := by decide +kernel
theorem dX12_readBoth_5 : decode cX12_readBoth 5 = .ok (.aload_n 0, 1) := by decide +kernel
theorem dX12_readBoth_6 : decode cX12_readBoth 6 = .ok (.bipush 14, 2) := by decide +kernel
theorem dX12_readBoth_8 : decode cX12_readBoth 8 = .ok (.invokevirtual 158, 3) := by decide +kernel
theorem dX12_readBoth_11 : decode cX12_readBoth 11 = .ok (.ifCond .eq 18, 3) := by decide +kernel
theorem dX12_readBoth_14 : decode cX12_readBoth 14 = .ok (.aload_n 0, 1) := by decide +kernel
theorem dX12_readBoth_15 : decode cX12_readBoth 15 = .ok (.iload_n 1, 1) := by decide +kernel
theorem dX12_readBoth_16 : decode cX12_readBoth 16 = .ok (.invokevirtual 167, 3) := by decide +kernel
theorem dX12_readBoth_19 : decode cX12_readBoth 19 = .ok (.aload_n 0, 1) := by decide +kernel
theorem dX12_readBoth_20 : decode cX12_readBoth 20 = .ok (.sipush 3007, 3) := by decide +kernel
theorem dX12_readBoth_23 : decode cX12_readBoth 23 = .ok (.invokevirtual 146, 3) := by decide +kernel
theorem dX12_readBoth_26 : decode cX12_readBoth 26 = .ok (.goto (-21), 3) := by decide +kernel
theorem dX12_readBoth_29 : decode cX12_readBoth 29 = .ok (.return_, 1) := by decide +kernel
theorem dX12_readTruth_0 : decode cX12_readTruth 0 = .ok (.aload_n 0, 1) := by decide +kernel
theorem dX12_readTruth_1 : decode cX12_readTruth 1 = .ok (.iload_n 1, 1) := by decide +kernel
theorem dX12_readTruth_2 : decode cX12_readTruth 2 = .ok (.invokevirtual 173, 3) := by decide +kernel
theorem dX12_readTruth_5 : decode cX12_readTruth 5 = .ok (.aload_n 0, 1) := by decide +kernel
theorem dX12_readTruth_6 : decode cX12_readTruth 6 = .ok (.bipush 15, 2) := by decide +kernel
theorem dX12_readTruth_8 : decode cX12_readTruth 8 = .ok (.invokevirtual 158, 3) := by decide +kernel
theorem dX12_readTruth_11 : decode cX12_readTruth 11 = .ok (.ifCond .eq 18, 3) := by decide +kernel
theorem dX12_readTruth_14 : decode cX12_readTruth 14 = .ok (.aload_n 0, 1) := by decide +kernel
theorem dX12_readTruth_15 : decode cX12_readTruth 15 = .ok (.iload_n 1, 1) := by decide +kernel
theorem dX12_readTruth_16 : decode cX12_readTruth 16 = .ok (.invokevirtual 173, 3) := by decide +kernel
theorem dX12_readTruth_19 : decode cX12_readTruth 19 = .ok (.aload_n 0, 1) := by decide +kernel
theorem dX12_readTruth_20 : decode cX12_readTruth 20 = .ok (.sipush 3008, 3) := by decide +kernel
theorem dX12_readTruth_23 : decode cX12_readTruth 23 = .ok (.invokevirtual 146, 3) := by decide +kernel
theorem dX12_readTruth_26 : decode cX12_readTruth 26 = .ok (.goto (-21), 3) := by decide +kernel
theorem dX12_readTruth_29 : decode cX12_readTruth 29 = .ok (.return_, 1) := by decide +kernel
theorem dX12_readFlag_0 : decode cX12_readFlag 0 = .ok (.aload_n 0, 1) := by decide +kernel
theorem dX12_readFlag_1 : decode cX12_readFlag 1 = .ok (.iconst 3, 1) := by decide +kernel
theorem dX12_readFlag_2 : decode cX12_readFlag 2 = .ok (.invokevirtual 158, 3) := by decide +kernel
theorem dX12_readFlag_5 : decode cX12_readFlag 5 = .ok (.ifCond .eq 22, 3) := by decide +kernel
theorem dX12_readFlag_8 : decode cX12_readFlag 8 = .ok (.aload_n 0, 1) := by decide +kernel
theorem dX12_readFlag_9 : decode cX12_readFlag 9 = .ok (.getfield 24, 3) := by decide +kernel
theorem dX12_readFlag_12 : decode cX12_readFlag 12 = .ok (.bipush 41, 2) := by decide +kernel
theorem dX12_readFlag_14 : decode cX12_readFlag 14 = .ok (.iload_n 1, 1) := by decide +kernel
theorem dX12_readFlag_15 : decode cX12_readFlag 15 = .ok (.iadd, 1) := by decide +kernel
theorem dX12_readFlag_16 : decode cX12_readFlag 16 = .ok (.aload_n 0, 1) := by decide +kernel
theorem dX12_readFlag_17 : decode cX12_readFlag 17 = .ok (.iconst 0, 1) := by decide +kernel
theorem dX12_readFlag_18 : decode cX12_readFlag 18 = .ok (.bipush 9, 2) := by decide +kernel
theorem dX12_readFlag_20 : decode cX12_readFlag 20 = .ok (.invokevirtual 176, 3) := by decide +kernel
theorem dX12_readFlag_23 : decode cX12_readFlag 23 = .ok (.iastore, 1) := by decide +kernel
theorem dX12_readFlag_24 : decode cX12_readFlag 24 = .ok (.goto 53, 3) := by decide +kernel
theorem dX12_readFlag_27 : decode cX12_readFlag 27 = .ok (.aload_n 0, 1) := by decide +kernel
theorem dX12_readFlag_28 : decode cX12_readFlag 28 = .ok (.iconst 4, 1) := by decide +kernel
theorem dX12_readFlag_29 : decode cX12_readFlag 29 = .ok (.invokevirtual 158, 3) := by decide +kernel
theorem dX12_readFlag_32 : decode cX12_readFlag 32 = .ok (.ifCond .eq 19, 3) := by decide +kernel
theorem dX12_readFlag_35 : decode cX12_readFlag 35 = .ok (.aload_n 0, 1) := by decide +kernel
theorem dX12_readFlag_36 : decode cX12_readFlag 36 = .ok (.getfield 24, 3) := by decide +kernel
theorem dX12_readFlag_39 : decode cX12_readFlag 39 = .ok (.bipush 27, 2) := by decide +kernel
theorem dX12_readFlag_41 : decode cX12_readFlag 41 = .ok (.dup2, 1) := by decide +kernel
theorem dX12_readFlag_42 : decode cX12_readFlag 42 = .ok (.iaload, 1) := by decide +kernel
theorem dX12_readFlag_43 : decode cX12_readFlag 43 = .ok (.iconst 1, 1) := by decide +kernel
theorem dX12_readFlag_44 : decode cX12_readFlag 44 = .ok (.iload_n 1, 1) := by decide +kernel
theorem dX12_readFlag_45 : decode cX12_readFlag 45 = .ok (.ishl, 1) := by decide +kernel
theorem dX12_readFlag_46 : decode cX12_readFlag 46 = .ok (.ior, 1) := by decide +kernel
theorem dX12_readFlag_47 : decode cX12_readFlag 47 = .ok (.iastore, 1) := by decide +kernel
theorem dX12_readFlag_48 : decode cX12_readFlag 48 = .ok (.goto 29, 3) := by decide +kernel
theorem dX12_readFlag_51 : decode cX12_readFlag 51 = .ok (.aload_n 0, 1) := by decide +kernel
theorem dX12_readFlag_52 : decode cX12_readFlag 52 = .ok (.iconst 5, 1) := by decide +kernel
theorem dX12_readFlag_53 : decode cX12_readFlag 53 = .ok (.invokevirtual 158, 3) := by decide +kernel
theorem dX12_readFlag_56 : decode cX12_readFlag 56 = .ok (.ifCond .eq 19, 3) := by decide +kernel
theorem dX12_readFlag_59 : decode cX12_readFlag 59 = .ok (.aload_n 0, 1) := by decide +kernel
theorem dX12_readFlag_60 : decode cX12_readFlag 60 = .ok (.getfield 24, 3) := by decide +kernel
theorem dX12_readFlag_63 : decode cX12_readFlag 63 = .ok (.bipush 28, 2) := by decide +kernel
theorem dX12_readFlag_65 : decode cX12_readFlag 65 = .ok (.dup2, 1) := by decide +kernel
theorem dX12_readFlag_66 : decode cX12_readFlag 66 = .ok (.iaload, 1) := by decide +kernel
theorem dX12_readFlag_67 : decode cX12_readFlag 67 = .ok (.iconst 1, 1) := by decide +kernel
theorem dX12_readFlag_68 : decode cX12_readFlag 68 = .ok (.iload_n 1, 1) := by decide +kernel
theorem dX12_readFlag_69 : decode cX12_readFlag 69 = .ok (.ishl, 1) := by decide +kernel
theorem dX12_readFlag_70 : decode cX12_readFlag 70 = .ok (.ior, 1) := by decide +kernel
theorem dX12_readFlag_71 : decode cX12_readFlag 71 = .ok (.iastore, 1) := by decide +kernel
theorem dX12_readFlag_72 : decode cX12_readFlag 72 = .ok (.goto 5, 3) := by decide +kernel
theorem dX12_readFlag_75 : decode cX12_readFlag 75 = .ok (.iconst 0, 1) := by decide +kernel
theorem dX12_readFlag_76 : decode cX12_readFlag 76 = .ok (.ireturn, 1) := by decide +kernel
theorem dX12_readFlag_77 : decode cX12_readFlag 77 = .ok (.aload_n 0, 1) := by decide +kernel
theorem dX12_readFlag_78 : decode cX12_readFlag 78 = .ok (.getfield 126, 3) := by decide +kernel
theorem dX12_readFlag_81 : decode cX12_readFlag 81 = .ok (.ifCond .ne 7, 3) := by decide +kernel
theorem dX12_readFlag_84 : decode cX12_readFlag 84 = .ok (.iconst 1, 1) := by decide +kernel
theorem dX12_readFlag_85 : decode cX12_readFlag 85 = .ok (.goto 4, 3) := by decide +kernel
theorem dX12_readFlag_88 : decode cX12_readFlag 88 = .ok (.iconst 0, 1) := by decide +kernel
theorem dX12_readFlag_89 : decode cX12_readFlag 89 = .ok (.ireturn, 1) := by decide +kernel
theorem dX12_readKind_0 : decode cX12_readKind 0 = .ok (.aload_n 0, 1) := by decide +kernel
theorem dX12_readKind_1 : decode cX12_readKind 1 = .ok (.getfield 24, 3) := by decide +kernel
theorem dX12_readKind_4 : decode cX12_readKind 4 = .ok (.bipush 26, 2) := by decide +kernel
theorem dX12_readKind_6 : decode cX12_readKind 6 = .ok (.iaload, 1) := by decide +kernel
theorem dX12_readKind_7 : decode cX12_readKind 7 = .ok (.istore_n 1, 1) := by decide +kernel
theorem dX12_readKind_8 : decode cX12_readKind 8 = .ok (.iload_n 1, 1) := by decide +kernel
theorem dX12_readKind_9 : decode cX12_readKind 9 = .ok (.bipush 8, 2) := by decide +kernel
theorem dX12_readKind_11 : decode cX12_readKind 11 = .ok (.if_icmp .ne 8, 3) := by decide +kernel
theorem dX12_readKind_14 : decode cX12_readKind 14 = .ok (.aload_n 0, 1) := by decide +kernel
theorem dX12_readKind_15 : decode cX12_readKind 15 = .ok (.iconst 4, 1) := by decide +kernel
theorem dX12_readKind_16 : decode cX12_readKind 16 = .ok (.invokevirtual 138, 3) := by decide +kernel
theorem dX12_readKind_19 : decode cX12_readKind 19 = .ok (.aload_n 0, 1) := by decide +kernel
theorem dX12_readKind_20 : decode cX12_readKind 20 = .ok (.getfield 126, 3) := by decide +kernel
theorem dX12_readKind_23 : decode cX12_readKind 23 = .ok (.ifCond .eq 4, 3) := by decide +kernel
theorem dX12_readKind_26 : decode cX12_readKind 26 = .ok (.return_, 1) := by decide +kernel
theorem dX12_readKind_27 : decode cX12_readKind 27 = .ok (.aload_n 0, 1) := by decide +kernel
theorem dX12_readKind_28 : decode cX12_readKind 28 = .ok (.invokevirtual 135, 3) := by decide +kernel
theorem dX12_readKind_31 : decode cX12_readKind 31 = .ok (.aload_n 0, 1) := by decide +kernel
theorem dX12_readKind_32 : decode cX12_readKind 32 = .ok (.iconst 2, 1) := by decide +kernel
theorem dX12_readKind_33 : decode cX12_readKind 33 = .ok (.invokevirtual 158, 3) := by decide +kernel
theorem dX12_readKind_36 : decode cX12_readKind 36 = .ok (.ifCond .ne 8, 3) := by decide +kernel
theorem dX12_readKind_39 : decode cX12_readKind 39 = .ok (.aload_n 0, 1) := by decide +kernel
theorem dX12_readKind_40 : decode cX12_readKind 40 = .ok (.iconst 2, 1) := by decide +kernel
theorem dX12_readKind_41 : decode cX12_readKind 41 = .ok (.invokevirtual 138, 3) := by decide +kernel
theorem dX12_readKind_44 : decode cX12_readKind 44 = .ok (.aload_n 0, 1) := by decide +kernel
theorem dX12_readKind_45 : decode cX12_readKind 45 = .ok (.getfield 24, 3) := by decide +kernel
theorem dX12_readKind_48 : decode cX12_readKind 48 = .ok (.bipush 33, 2) := by decide +kernel
theorem dX12_readKind_50 : decode cX12_readKind 50 = .ok (.iload_n 1, 1) := by decide +kernel
theorem dX12_readKind_51 : decode cX12_readKind 51 = .ok (.iadd, 1) := by decide +kernel
theorem dX12_readKind_52 : decode cX12_readKind 52 = .ok (.aload_n 0, 1) := by decide +kernel
theorem dX12_readKind_53 : decode cX12_readKind 53 = .ok (.iconst 1, 1) := by decide +kernel
theorem dX12_readKind_54 : decode cX12_readKind 54 = .ok (.bipush 99, 2) := by decide +kernel
theorem dX12_readKind_56 : decode cX12_readKind 56 = .ok (.invokevirtual 176, 3) := by decide +kernel
theorem dX12_readKind_59 : decode cX12_readKind 59 = .ok (.iastore, 1) := by decide +kernel
theorem dX12_readKind_60 : decode cX12_readKind 60 = .ok (.aload_n 0, 1) := by decide +kernel
theorem dX12_readKind_61 : decode cX12_readKind 61 = .ok (.getfield 126, 3) := by decide +kernel
theorem dX12_readKind_64 : decode cX12_readKind 64 = .ok (.ifCond .ne 14, 3) := by decide +kernel
theorem dX12_readKind_67 : decode cX12_readKind 67 = .ok (.aload_n 0, 1) := by decide +kernel
theorem dX12_readKind_68 : decode cX12_readKind 68 = .ok (.iload_n 1, 1) := by decide +kernel
theorem dX12_readKind_69 : decode cX12_readKind 69 = .ok (.invokevirtual 180, 3) := by decide +kernel
theorem dX12_readKind_72 : decode cX12_readKind 72 = .ok (.ifCond .eq 6, 3) := by decide +kernel
theorem dX12_readKind_75 : decode cX12_readKind 75 = .ok (.goto (-15), 3) := by decide +kernel
theorem dX12_readKind_78 : decode cX12_readKind 78 = .ok (.aload_n 0, 1) := by decide +kernel
theorem dX12_readKind_79 : decode cX12_readKind 79 = .ok (.getfield 126, 3) := by decide +kernel
theorem dX12_readKind_82 : decode cX12_readKind 82 = .ok (.ifCond .ne 14, 3) := by decide +kernel
theorem dX12_readKind_85 : decode cX12_readKind 85 = .ok (.aload_n 0, 1) := by decide +kernel
theorem dX12_readKind_86 : decode cX12_readKind 86 = .ok (.getfield 24, 3) := by decide +kernel
theorem dX12_readKind_89 : decode cX12_readKind 89 = .ok (.bipush 26, 2) := by decide +kernel
theorem dX12_readKind_91 : decode cX12_readKind 91 = .ok (.dup2, 1) := by decide +kernel
theorem dX12_readKind_92 : decode cX12_readKind 92 = .ok (.iaload, 1) := by decide +kernel
theorem dX12_readKind_93 : decode cX12_readKind 93 = .ok (.iconst 1, 1) := by decide +kernel
theorem dX12_readKind_94 : decode cX12_readKind 94 = .ok (.iadd, 1) := by decide +kernel
theorem dX12_readKind_95 : decode cX12_readKind 95 = .ok (.iastore, 1) := by decide +kernel
theorem dX12_readKind_96 : decode cX12_readKind 96 = .ok (.return_, 1) := by decide +kernel
theorem dX12_readMark_0 : decode cX12_readMark 0 = .ok (.aload_n 0, 1) := by decide +kernel
theorem dX12_readMark_1 : decode cX12_readMark 1 = .ok (.bipush 8, 2) := by decide +kernel
theorem dX12_readMark_3 : decode cX12_readMark 3 = .ok (.invokevirtual 158, 3) := by decide +kernel
theorem dX12_readMark_6 : decode cX12_readMark 6 = .ok (.ifCond .eq 22, 3) := by decide +kernel
theorem dX12_readMark_9 : decode cX12_readMark 9 = .ok (.aload_n 0, 1) := by decide +kernel
theorem dX12_readMark_10 : decode cX12_readMark 10 = .ok (.getfield 24, 3) := by decide +kernel
theorem dX12_readMark_13 : decode cX12_readMark 13 = .ok (.bipush 14, 2) := by decide +kernel
theorem dX12_readMark_15 : decode cX12_readMark 15 = .ok (.iload_n 1, 1) := by decide +kernel
theorem dX12_readMark_16 : decode cX12_readMark 16 = .ok (.iadd, 1) := by decide +kernel
theorem dX12_readMark_17 : decode cX12_readMark 17 = .ok (.aload_n 0, 1) := by decide +kernel
theorem dX12_readMark_18 : decode cX12_readMark 18 = .ok (.iconst 0, 1) := by decide +kernel
theorem dX12_readMark_19 : decode cX12_readMark 19 = .ok (.bipush 9, 2) := by decide +kernel
theorem dX12_readMark_21 : decode cX12_readMark 21 = .ok (.invokevirtual 176, 3) := by decide +kernel
theorem dX12_readMark_24 : decode cX12_readMark 24 = .ok (.iastore, 1) := by decide +kernel
theorem dX12_readMark_25 : decode cX12_readMark 25 = .ok (.goto 33, 3) := by decide +kernel
theorem dX12_readMark_28 : decode cX12_readMark 28 = .ok (.aload_n 0, 1) := by decide +kernel
theorem dX12_readMark_29 : decode cX12_readMark 29 = .ok (.bipush 9, 2) := by decide +kernel
theorem dX12_readMark_31 : decode cX12_readMark 31 = .ok (.invokevirtual 158, 3) := by decide +kernel
theorem dX12_readMark_34 : decode cX12_readMark 34 = .ok (.ifCond .eq 22, 3) := by decide +kernel
theorem dX12_readMark_37 : decode cX12_readMark 37 = .ok (.aload_n 0, 1) := by decide +kernel
theorem dX12_readMark_38 : decode cX12_readMark 38 = .ok (.getfield 24, 3) := by decide +kernel
theorem dX12_readMark_41 : decode cX12_readMark 41 = .ok (.bipush 20, 2) := by decide +kernel
theorem dX12_readMark_43 : decode cX12_readMark 43 = .ok (.iload_n 1, 1) := by decide +kernel
theorem dX12_readMark_44 : decode cX12_readMark 44 = .ok (.iadd, 1) := by decide +kernel
theorem dX12_readMark_45 : decode cX12_readMark 45 = .ok (.aload_n 0, 1) := by decide +kernel
theorem dX12_readMark_46 : decode cX12_readMark 46 = .ok (.iconst 0, 1) := by decide +kernel
theorem dX12_readMark_47 : decode cX12_readMark 47 = .ok (.bipush 9, 2) := by decide +kernel
theorem dX12_readMark_49 : decode cX12_readMark 49 = .ok (.invokevirtual 176, 3) := by decide +kernel
theorem dX12_readMark_52 : decode cX12_readMark 52 = .ok (.iastore, 1) := by decide +kernel
theorem dX12_readMark_53 : decode cX12_readMark 53 = .ok (.goto 5, 3) := by decide +kernel
theorem dX12_readMark_56 : decode cX12_readMark 56 = .ok (.iconst 0, 1) := by decide +kernel
theorem dX12_readMark_57 : decode cX12_readMark 57 = .ok (.ireturn, 1) := by decide +kernel
theorem dX12_readMark_58 : decode cX12_readMark 58 = .ok (.aload_n 0, 1) := by decide +kernel
theorem dX12_readMark_59 : decode cX12_readMark 59 = .ok (.getfield 126, 3) := by decide +kernel
theorem dX12_readMark_62 : decode cX12_readMark 62 = .ok (.ifCond .ne 7, 3) := by decide +kernel
theorem dX12_readMark_65 : decode cX12_readMark 65 = .ok (.iconst 1, 1) := by decide +kernel
theorem dX12_readMark_66 : decode cX12_readMark 66 = .ok (.goto 4, 3) := by decide +kernel
theorem dX12_readMark_69 : decode cX12_readMark 69 = .ok (.iconst 0, 1) := by decide +kernel
theorem dX12_readMark_70 : decode cX12_readMark 70 = .ok (.ireturn, 1) := by decide +kernel
theorem dX12_readBuyer_0 : decode cX12_readBuyer 0 = .ok (.aload_n 0, 1) := by decide +kernel
theorem dX12_readBuyer_1 : decode cX12_readBuyer 1 = .ok (.getfield 24, 3) := by decide +kernel
theorem dX12_readBuyer_4 : decode cX12_readBuyer 4 = .ok (.iconst 1, 1) := by decide +kernel
theorem dX12_readBuyer_5 : decode cX12_readBuyer 5 = .ok (.iaload, 1) := by decide +kernel
theorem dX12_readBuyer_6 : decode cX12_readBuyer 6 = .ok (.istore_n 1, 1) := by decide +kernel
theorem dX12_readBuyer_7 : decode cX12_readBuyer 7 = .ok (.iload_n 1, 1) := by decide +kernel
theorem dX12_readBuyer_8 : decode cX12_readBuyer 8 = .ok (.bipush 6, 2) := by decide +kernel
theorem dX12_readBuyer_10 : decode cX12_readBuyer 10 = .ok (.if_icmp .ne 8, 3) := by decide +kernel
theorem dX12_readBuyer_13 : decode cX12_readBuyer 13 = .ok (.aload_n 0, 1) := by decide +kernel
theorem dX12_readBuyer_14 : decode cX12_readBuyer 14 = .ok (.iconst 4, 1) := by decide +kernel
theorem dX12_readBuyer_15 : decode cX12_readBuyer 15 = .ok (.invokevirtual 138, 3) := by decide +kernel
theorem dX12_readBuyer_18 : decode cX12_readBuyer 18 = .ok (.aload_n 0, 1) := by decide +kernel
theorem dX12_readBuyer_19 : decode cX12_readBuyer 19 = .ok (.getfield 126, 3) := by decide +kernel
theorem dX12_readBuyer_22 : decode cX12_readBuyer 22 = .ok (.ifCond .eq 4, 3) := by decide +kernel
theorem dX12_readBuyer_25 : decode cX12_readBuyer 25 = .ok (.return_, 1) := by decide +kernel
theorem dX12_readBuyer_26 : decode cX12_readBuyer 26 = .ok (.aload_n 0, 1) := by decide +kernel
theorem dX12_readBuyer_27 : decode cX12_readBuyer 27 = .ok (.invokevirtual 135, 3) := by decide +kernel
theorem dX12_readBuyer_30 : decode cX12_readBuyer 30 = .ok (.aload_n 0, 1) := by decide +kernel
theorem dX12_readBuyer_31 : decode cX12_readBuyer 31 = .ok (.bipush 7, 2) := by decide +kernel
theorem dX12_readBuyer_33 : decode cX12_readBuyer 33 = .ok (.invokevirtual 158, 3) := by decide +kernel
theorem dX12_readBuyer_36 : decode cX12_readBuyer 36 = .ok (.ifCond .ne 8, 3) := by decide +kernel
theorem dX12_readBuyer_39 : decode cX12_readBuyer 39 = .ok (.aload_n 0, 1) := by decide +kernel
theorem dX12_readBuyer_40 : decode cX12_readBuyer 40 = .ok (.iconst 2, 1) := by decide +kernel
theorem dX12_readBuyer_41 : decode cX12_readBuyer 41 = .ok (.invokevirtual 138, 3) := by decide +kernel
theorem dX12_readBuyer_44 : decode cX12_readBuyer 44 = .ok (.aload_n 0, 1) := by decide +kernel
theorem dX12_readBuyer_45 : decode cX12_readBuyer 45 = .ok (.getfield 24, 3) := by decide +kernel
theorem dX12_readBuyer_48 : decode cX12_readBuyer 48 = .ok (.bipush 8, 2) := by decide +kernel
theorem dX12_readBuyer_50 : decode cX12_readBuyer 50 = .ok (.iload_n 1, 1) := by decide +kernel
theorem dX12_readBuyer_51 : decode cX12_readBuyer 51 = .ok (.iadd, 1) := by decide +kernel
theorem dX12_readBuyer_52 : decode cX12_readBuyer 52 = .ok (.aload_n 0, 1) := by decide +kernel
theorem dX12_readBuyer_53 : decode cX12_readBuyer 53 = .ok (.iconst 0, 1) := by decide +kernel
theorem dX12_readBuyer_54 : decode cX12_readBuyer 54 = .ok (.sipush 999, 3) := by decide +kernel
theorem dX12_readBuyer_57 : decode cX12_readBuyer 57 = .ok (.invokevirtual 176, 3) := by decide +kernel
theorem dX12_readBuyer_60 : decode cX12_readBuyer 60 = .ok (.iastore, 1) := by decide +kernel
theorem dX12_readBuyer_61 : decode cX12_readBuyer 61 = .ok (.aload_n 0, 1) := by decide +kernel
theorem dX12_readBuyer_62 : decode cX12_readBuyer 62 = .ok (.getfield 24, 3) := by decide +kernel
theorem dX12_readBuyer_65 : decode cX12_readBuyer 65 = .ok (.bipush 20, 2) := by decide +kernel
theorem dX12_readBuyer_67 : decode cX12_readBuyer 67 = .ok (.iload_n 1, 1) := by decide +kernel
theorem dX12_readBuyer_68 : decode cX12_readBuyer 68 = .ok (.iadd, 1) := by decide +kernel
theorem dX12_readBuyer_69 : decode cX12_readBuyer 69 = .ok (.iconst 1, 1) := by decide +kernel
theorem dX12_readBuyer_70 : decode cX12_readBuyer 70 = .ok (.iastore, 1) := by decide +kernel
theorem dX12_readBuyer_71 : decode cX12_readBuyer 71 = .ok (.aload_n 0, 1) := by decide +kernel
theorem dX12_readBuyer_72 : decode cX12_readBuyer 72 = .ok (.getfield 126, 3) := by decide +kernel
theorem dX12_readBuyer_75 : decode cX12_readBuyer 75 = .ok (.ifCond .ne 14, 3) := by decide +kernel
theorem dX12_readBuyer_78 : decode cX12_readBuyer 78 = .ok (.aload_n 0, 1) := by decide +kernel
theorem dX12_readBuyer_79 : decode cX12_readBuyer 79 = .ok (.iload_n 1, 1) := by decide +kernel
theorem dX12_readBuyer_80 : decode cX12_readBuyer 80 = .ok (.invokevirtual 183, 3) := by decide +kernel
theorem dX12_readBuyer_83 : decode cX12_readBuyer 83 = .ok (.ifCond .eq 6, 3) := by decide +kernel
theorem dX12_readBuyer_86 : decode cX12_readBuyer 86 = .ok (.goto (-15), 3) := by decide +kernel
theorem dX12_readBuyer_89 : decode cX12_readBuyer 89 = .ok (.aload_n 0, 1) := by decide +kernel
theorem dX12_readBuyer_90 : decode cX12_readBuyer 90 = .ok (.getfield 126, 3) := by decide +kernel
theorem dX12_readBuyer_93 : decode cX12_readBuyer 93 = .ok (.ifCond .ne 13, 3) := by decide +kernel
theorem dX12_readBuyer_96 : decode cX12_readBuyer 96 = .ok (.aload_n 0, 1) := by decide +kernel
theorem dX12_readBuyer_97 : decode cX12_readBuyer 97 = .ok (.getfield 24, 3) := by decide +kernel
theorem dX12_readBuyer_100 : decode cX12_readBuyer 100 = .ok (.iconst 1, 1) := by decide +kernel
theorem dX12_readBuyer_101 : decode cX12_readBuyer 101 = .ok (.dup2, 1) := by decide +kernel
theorem dX12_readBuyer_102 : decode cX12_readBuyer 102 = .ok (.iaload, 1) := by decide +kernel
theorem dX12_readBuyer_103 : decode cX12_readBuyer 103 = .ok (.iconst 1, 1) := by decide +kernel
theorem dX12_readBuyer_104 : decode cX12_readBuyer 104 = .ok (.iadd, 1) := by decide +kernel
theorem dX12_readBuyer_105 : decode cX12_readBuyer 105 = .ok (.iastore, 1) := by decide +kernel
theorem dX12_readBuyer_106 : decode cX12_readBuyer 106 = .ok (.return_, 1) := by decide +kernel
theorem dX12_readLaw_0 : decode cX12_readLaw 0 = .ok (.aload_n 0, 1) := by decide +kernel
theorem dX12_readLaw_1 : decode cX12_readLaw 1 = .ok (.invokevirtual 135, 3) := by decide +kernel
theorem dX12_readLaw_4 : decode cX12_readLaw 4 = .ok (.aload_n 0, 1) := by decide +kernel
theorem dX12_readLaw_5 : decode cX12_readLaw 5 = .ok (.bipush 31, 2) := by decide +kernel
theorem dX12_readLaw_7 : decode cX12_readLaw 7 = .ok (.invokevirtual 158, 3) := by decide +kernel
theorem dX12_readLaw_10 : decode cX12_readLaw 10 = .ok (.ifCond .ne 8, 3) := by decide +kernel
theorem dX12_readLaw_13 : decode cX12_readLaw 13 = .ok (.aload_n 0, 1) := by decide +kernel
theorem dX12_readLaw_14 : decode cX12_readLaw 14 = .ok (.iconst 2, 1) := by decide +kernel
theorem dX12_readLaw_15 : decode cX12_readLaw 15 = .ok (.invokevirtual 138, 3) := by decide +kernel
theorem dX12_readLaw_18 : decode cX12_readLaw 18 = .ok (.aload_n 0, 1) := by decide +kernel
theorem dX12_readLaw_19 : decode cX12_readLaw 19 = .ok (.getfield 24, 3) := by decide +kernel
theorem dX12_readLaw_22 : decode cX12_readLaw 22 = .ok (.sipush 280, 3) := by decide +kernel
theorem dX12_readLaw_25 : decode cX12_readLaw 25 = .ok (.iaload, 1) := by decide +kernel
theorem dX12_readLaw_26 : decode cX12_readLaw 26 = .ok (.istore_n 2, 1) := by decide +kernel
theorem dX12_readLaw_27 : decode cX12_readLaw 27 = .ok (.iload_n 1, 1) := by decide +kernel
theorem dX12_readLaw_28 : decode cX12_readLaw 28 = .ok (.ifCond .ne 11, 3) := by decide +kernel
theorem dX12_readLaw_31 : decode cX12_readLaw 31 = .ok (.aload_n 0, 1) := by decide +kernel
theorem dX12_readLaw_32 : decode cX12_readLaw 32 = .ok (.iconst 0, 1) := by decide +kernel
theorem dX12_readLaw_33 : decode cX12_readLaw 33 = .ok (.invokevirtual 155, 3) := by decide +kernel
theorem dX12_readLaw_36 : decode cX12_readLaw 36 = .ok (.goto 8, 3) := by decide +kernel
theorem dX12_readLaw_39 : decode cX12_readLaw 39 = .ok (.aload_n 0, 1) := by decide +kernel
theorem dX12_readLaw_40 : decode cX12_readLaw 40 = .ok (.iconst 0, 1) := by decide +kernel
theorem dX12_readLaw_41 : decode cX12_readLaw 41 = .ok (.invokevirtual 170, 3) := by decide +kernel
theorem dX12_readLaw_44 : decode cX12_readLaw 44 = .ok (.aload_n 0, 1) := by decide +kernel
theorem dX12_readLaw_45 : decode cX12_readLaw 45 = .ok (.getfield 126, 3) := by decide +kernel
theorem dX12_readLaw_48 : decode cX12_readLaw 48 = .ok (.ifCond .eq 4, 3) := by decide +kernel
theorem dX12_readLaw_51 : decode cX12_readLaw 51 = .ok (.return_, 1) := by decide +kernel
theorem dX12_readLaw_52 : decode cX12_readLaw 52 = .ok (.aload_n 0, 1) := by decide +kernel
theorem dX12_readLaw_53 : decode cX12_readLaw 53 = .ok (.getfield 24, 3) := by decide +kernel
theorem dX12_readLaw_56 : decode cX12_readLaw 56 = .ok (.iconst 2, 1) := by decide +kernel
theorem dX12_readLaw_57 : decode cX12_readLaw 57 = .ok (.iload_n 1, 1) := by decide +kernel
theorem dX12_readLaw_58 : decode cX12_readLaw 58 = .ok (.iadd, 1) := by decide +kernel
theorem dX12_readLaw_59 : decode cX12_readLaw 59 = .ok (.iconst 1, 1) := by decide +kernel
theorem dX12_readLaw_60 : decode cX12_readLaw 60 = .ok (.iastore, 1) := by decide +kernel
theorem dX12_readLaw_61 : decode cX12_readLaw 61 = .ok (.aload_n 0, 1) := by decide +kernel
theorem dX12_readLaw_62 : decode cX12_readLaw 62 = .ok (.getfield 24, 3) := by decide +kernel
theorem dX12_readLaw_65 : decode cX12_readLaw 65 = .ok (.iconst 4, 1) := by decide +kernel
theorem dX12_readLaw_66 : decode cX12_readLaw 66 = .ok (.iload_n 1, 1) := by decide +kernel
theorem dX12_readLaw_67 : decode cX12_readLaw 67 = .ok (.iadd, 1) := by decide +kernel
theorem dX12_readLaw_68 : decode cX12_readLaw 68 = .ok (.iload_n 2, 1) := by decide +kernel
theorem dX12_readLaw_69 : decode cX12_readLaw 69 = .ok (.iastore, 1) := by decide +kernel
theorem dX12_readLaw_70 : decode cX12_readLaw 70 = .ok (.aload_n 0, 1) := by decide +kernel
theorem dX12_readLaw_71 : decode cX12_readLaw 71 = .ok (.getfield 24, 3) := by decide +kernel
theorem dX12_readLaw_74 : decode cX12_readLaw 74 = .ok (.bipush 6, 2) := by decide +kernel
theorem dX12_readLaw_76 : decode cX12_readLaw 76 = .ok (.iload_n 1, 1) := by decide +kernel
theorem dX12_readLaw_77 : decode cX12_readLaw 77 = .ok (.iadd, 1) := by decide +kernel
theorem dX12_readLaw_78 : decode cX12_readLaw 78 = .ok (.aload_n 0, 1) := by decide +kernel
theorem dX12_readLaw_79 : decode cX12_readLaw 79 = .ok (.getfield 24, 3) := by decide +kernel
theorem dX12_readLaw_82 : decode cX12_readLaw 82 = .ok (.sipush 280, 3) := by decide +kernel
theorem dX12_readLaw_85 : decode cX12_readLaw 85 = .ok (.iaload, 1) := by decide +kernel
theorem dX12_readLaw_86 : decode cX12_readLaw 86 = .ok (.iload_n 2, 1) := by decide +kernel
theorem dX12_readLaw_87 : decode cX12_readLaw 87 = .ok (.isub, 1) := by decide +kernel
theorem dX12_readLaw_88 : decode cX12_readLaw 88 = .ok (.iastore, 1) := by decide +kernel
theorem dX12_readLaw_89 : decode cX12_readLaw 89 = .ok (.return_, 1) := by decide +kernel
theorem dX12_readLine_0 : decode cX12_readLine 0 = .ok (.aload_n 0, 1) := by decide +kernel
theorem dX12_readLine_1 : decode cX12_readLine 1 = .ok (.getfield 126, 3) := by decide +kernel
theorem dX12_readLine_4 : decode cX12_readLine 4 = .ok (.ifCond .eq 4, 3) := by decide +kernel
theorem dX12_readLine_7 : decode cX12_readLine 7 = .ok (.return_, 1) := by decide +kernel
theorem dX12_readLine_8 : decode cX12_readLine 8 = .ok (.aload_n 0, 1) := by decide +kernel
theorem dX12_readLine_9 : decode cX12_readLine 9 = .ok (.iconst 1, 1) := by decide +kernel
theorem dX12_readLine_10 : decode cX12_readLine 10 = .ok (.invokevirtual 132, 3) := by decide +kernel
theorem dX12_readLine_13 : decode cX12_readLine 13 = .ok (.ifCond .eq 10, 3) := by decide +kernel
theorem dX12_readLine_16 : decode cX12_readLine 16 = .ok (.aload_n 0, 1) := by decide +kernel
theorem dX12_readLine_17 : decode cX12_readLine 17 = .ok (.invokevirtual 186, 3) := by decide +kernel
theorem dX12_readLine_20 : decode cX12_readLine 20 = .ok (.goto 56, 3) := by decide +kernel
theorem dX12_readLine_23 : decode cX12_readLine 23 = .ok (.aload_n 0, 1) := by decide +kernel
theorem dX12_readLine_24 : decode cX12_readLine 24 = .ok (.bipush 6, 2) := by decide +kernel
theorem dX12_readLine_26 : decode cX12_readLine 26 = .ok (.invokevirtual 132, 3) := by decide +kernel
theorem dX12_readLine_29 : decode cX12_readLine 29 = .ok (.ifCond .eq 10, 3) := by decide +kernel
theorem dX12_readLine_32 : decode cX12_readLine 32 = .ok (.aload_n 0, 1) := by decide +kernel
theorem dX12_readLine_33 : decode cX12_readLine 33 = .ok (.invokevirtual 189, 3) := by decide +kernel
theorem dX12_readLine_36 : decode cX12_readLine 36 = .ok (.goto 40, 3) := by decide +kernel
theorem dX12_readLine_39 : decode cX12_readLine 39 = .ok (.aload_n 0, 1) := by decide +kernel
theorem dX12_readLine_40 : decode cX12_readLine 40 = .ok (.bipush 10, 2) := by decide +kernel
theorem dX12_readLine_42 : decode cX12_readLine 42 = .ok (.invokevirtual 132, 3) := by decide +kernel
theorem dX12_readLine_45 : decode cX12_readLine 45 = .ok (.ifCond .ne 12, 3) := by decide +kernel
theorem dX12_readLine_48 : decode cX12_readLine 48 = .ok (.aload_n 0, 1) := by decide +kernel
theorem dX12_readLine_49 : decode cX12_readLine 49 = .ok (.bipush 11, 2) := by decide +kernel
theorem dX12_readLine_51 : decode cX12_readLine 51 = .ok (.invokevirtual 132, 3) := by decide +kernel
theorem dX12_readLine_54 : decode cX12_readLine 54 = .ok (.ifCond .eq 17, 3) := by decide +kernel
theorem dX12_readLine_57 : decode cX12_readLine 57 = .ok (.aload_n 0, 1) := by decide +kernel
theorem dX12_readLine_58 : decode cX12_readLine 58 = .ok (.aload_n 0, 1) := by decide +kernel
theorem dX12_readLine_59 : decode cX12_readLine 59 = .ok (.getfield 108, 3) := by decide +kernel
theorem dX12_readLine_62 : decode cX12_readLine 62 = .ok (.bipush 10, 2) := by decide +kernel
theorem dX12_readLine_64 : decode cX12_readLine 64 = .ok (.isub, 1) := by decide +kernel
theorem dX12_readLine_65 : decode cX12_readLine 65 = .ok (.invokevirtual 192, 3) := by decide +kernel
theorem dX12_readLine_68 : decode cX12_readLine 68 = .ok (.goto 8, 3) := by decide +kernel
theorem dX12_readLine_71 : decode cX12_readLine 71 = .ok (.aload_n 0, 1) := by decide +kernel
theorem dX12_readLine_72 : decode cX12_readLine 72 = .ok (.iconst 2, 1) := by decide +kernel
theorem dX12_readLine_73 : decode cX12_readLine 73 = .ok (.invokevirtual 138, 3) := by decide +kernel
theorem dX12_readLine_76 : decode cX12_readLine 76 = .ok (.return_, 1) := by decide +kernel
theorem dX12_ends_0 : decode cX12_ends 0 = .ok (.aload_n 0, 1) := by decide +kernel
theorem dX12_ends_1 : decode cX12_ends 1 = .ok (.bipush 30, 2) := by decide +kernel
theorem dX12_ends_3 : decode cX12_ends 3 = .ok (.invokevirtual 158, 3) := by decide +kernel
theorem dX12_ends_6 : decode cX12_ends 6 = .ok (.ifCond .ne 8, 3) := by decide +kernel
theorem dX12_ends_9 : decode cX12_ends 9 = .ok (.aload_n 0, 1) := by decide +kernel
theorem dX12_ends_10 : decode cX12_ends 10 = .ok (.iconst 2, 1) := by decide +kernel
theorem dX12_ends_11 : decode cX12_ends 11 = .ok (.invokevirtual 138, 3) := by decide +kernel
theorem dX12_ends_14 : decode cX12_ends 14 = .ok (.aload_n 0, 1) := by decide +kernel
theorem dX12_ends_15 : decode cX12_ends 15 = .ok (.getfield 24, 3) := by decide +kernel
theorem dX12_ends_18 : decode cX12_ends 18 = .ok (.iconst 0, 1) := by decide +kernel
theorem dX12_ends_19 : decode cX12_ends 19 = .ok (.dup2, 1) := by decide +kernel
theorem dX12_ends_20 : decode cX12_ends 20 = .ok (.iaload, 1) := by decide +kernel
theorem dX12_ends_21 : decode cX12_ends 21 = .ok (.iconst 1, 1) := by decide +kernel
theorem dX12_ends_22 : decode cX12_ends 22 = .ok (.iadd, 1) := by decide +kernel
theorem dX12_ends_23 : decode cX12_ends 23 = .ok (.iastore, 1) := by decide +kernel
theorem dX12_ends_24 : decode cX12_ends 24 = .ok (.return_, 1) := by decide +kernel
theorem dX12_shop_0 : decode cX12_shop 0 = .ok (.aload_n 0, 1) := by decide +kernel
theorem dX12_shop_1 : decode cX12_shop 1 = .ok (.iconst 0, 1) := by decide +kernel
theorem dX12_shop_2 : decode cX12_shop 2 = .ok (.putfield 1, 3) := by decide +kernel
theorem dX12_shop_5 : decode cX12_shop 5 = .ok (.iload_n 1, 1) := by decide +kernel
theorem dX12_shop_6 : decode cX12_shop 6 = .ok (.i2l, 1) := by decide +kernel
theorem dX12_shop_7 : decode cX12_shop 7 = .ok (.lconst 0, 1) := by decide +kernel
theorem dX12_shop_8 : decode cX12_shop 8 = .ok (.aload_n 0, 1) := by decide +kernel
theorem dX12_shop_9 : decode cX12_shop 9 = .ok (.getfield 80, 3) := by decide +kernel
theorem dX12_shop_12 : decode cX12_shop 12 = .ok (.i2l, 1) := by decide +kernel
theorem dX12_shop_13 : decode cX12_shop 13 = .ok (.invokestatic 142, 3) := by decide +kernel
theorem dX12_shop_16 : decode cX12_shop 16 = .ok (.ifCond .ne 6, 3) := by decide +kernel
theorem dX12_shop_19 : decode cX12_shop 19 = .ok (.bipush (-3), 2) := by decide +kernel
theorem dX12_shop_21 : decode cX12_shop 21 = .ok (.ireturn, 1) := by decide +kernel
theorem dX12_shop_22 : decode cX12_shop 22 = .ok (.aload_n 0, 1) := by decide +kernel
theorem dX12_shop_23 : decode cX12_shop 23 = .ok (.iload_n 1, 1) := by decide +kernel
theorem dX12_shop_24 : decode cX12_shop 24 = .ok (.putfield 83, 3) := by decide +kernel
theorem dX12_shop_27 : decode cX12_shop 27 = .ok (.aload_n 0, 1) := by decide +kernel
theorem dX12_shop_28 : decode cX12_shop 28 = .ok (.iconst 0, 1) := by decide +kernel
theorem dX12_shop_29 : decode cX12_shop 29 = .ok (.putfield 80, 3) := by decide +kernel
theorem dX12_shop_32 : decode cX12_shop 32 = .ok (.aload_n 0, 1) := by decide +kernel
theorem dX12_shop_33 : decode cX12_shop 33 = .ok (.iconst 0, 1) := by decide +kernel
theorem dX12_shop_34 : decode cX12_shop 34 = .ok (.putfield 101, 3) := by decide +kernel
theorem dX12_shop_37 : decode cX12_shop 37 = .ok (.aload_n 0, 1) := by decide +kernel
theorem dX12_shop_38 : decode cX12_shop 38 = .ok (.iconst 0, 1) := by decide +kernel
theorem dX12_shop_39 : decode cX12_shop 39 = .ok (.putfield 126, 3) := by decide +kernel
theorem dX12_shop_42 : decode cX12_shop 42 = .ok (.aload_n 0, 1) := by decide +kernel
theorem dX12_shop_43 : decode cX12_shop 43 = .ok (.getfield 24, 3) := by decide +kernel
theorem dX12_shop_46 : decode cX12_shop 46 = .ok (.invokestatic 76, 3) := by decide +kernel
theorem dX12_shop_49 : decode cX12_shop 49 = .ok (.aload_n 0, 1) := by decide +kernel
theorem dX12_shop_50 : decode cX12_shop 50 = .ok (.invokevirtual 135, 3) := by decide +kernel
theorem dX12_shop_53 : decode cX12_shop 53 = .ok (.aload_n 0, 1) := by decide +kernel
theorem dX12_shop_54 : decode cX12_shop 54 = .ok (.iconst 0, 1) := by decide +kernel
theorem dX12_shop_55 : decode cX12_shop 55 = .ok (.invokevirtual 158, 3) := by decide +kernel
theorem dX12_shop_58 : decode cX12_shop 58 = .ok (.ifCond .ne 8, 3) := by decide +kernel
theorem dX12_shop_61 : decode cX12_shop 61 = .ok (.aload_n 0, 1) := by decide +kernel
theorem dX12_shop_62 : decode cX12_shop 62 = .ok (.iconst 2, 1) := by decide +kernel
theorem dX12_shop_63 : decode cX12_shop 63 = .ok (.invokevirtual 138, 3) := by decide +kernel
theorem dX12_shop_66 : decode cX12_shop 66 = .ok (.aload_n 0, 1) := by decide +kernel
theorem dX12_shop_67 : decode cX12_shop 67 = .ok (.invokevirtual 195, 3) := by decide +kernel
theorem dX12_shop_70 : decode cX12_shop 70 = .ok (.aload_n 0, 1) := by decide +kernel
theorem dX12_shop_71 : decode cX12_shop 71 = .ok (.getfield 126, 3) := by decide +kernel
theorem dX12_shop_74 : decode cX12_shop 74 = .ok (.ifCond .ne 23, 3) := by decide +kernel
theorem dX12_shop_77 : decode cX12_shop 77 = .ok (.aload_n 0, 1) := by decide +kernel
theorem dX12_shop_78 : decode cX12_shop 78 = .ok (.getfield 108, 3) := by decide +kernel
theorem dX12_shop_81 : decode cX12_shop 81 = .ok (.bipush 24, 2) := by decide +kernel
theorem dX12_shop_83 : decode cX12_shop 83 = .ok (.if_icmp .eq 14, 3) := by decide +kernel
theorem dX12_shop_86 : decode cX12_shop 86 = .ok (.aload_n 0, 1) := by decide +kernel
theorem dX12_shop_87 : decode cX12_shop 87 = .ok (.invokevirtual 198, 3) := by decide +kernel
theorem dX12_shop_90 : decode cX12_shop 90 = .ok (.aload_n 0, 1) := by decide +kernel
theorem dX12_shop_91 : decode cX12_shop 91 = .ok (.invokevirtual 195, 3) := by decide +kernel
theorem dX12_shop_94 : decode cX12_shop 94 = .ok (.goto (-24), 3) := by decide +kernel
theorem dX12_shop_97 : decode cX12_shop 97 = .ok (.aload_n 0, 1) := by decide +kernel
theorem dX12_shop_98 : decode cX12_shop 98 = .ok (.aload_n 0, 1) := by decide +kernel
theorem dX12_shop_99 : decode cX12_shop 99 = .ok (.getfield 126, 3) := by decide +kernel
theorem dX12_shop_102 : decode cX12_shop 102 = .ok (.putfield 201, 3) := by decide +kernel
theorem dX12_shop_105 : decode cX12_shop 105 = .ok (.aload_n 0, 1) := by decide +kernel
theorem dX12_shop_106 : decode cX12_shop 106 = .ok (.aload_n 0, 1) := by decide +kernel
theorem dX12_shop_107 : decode cX12_shop 107 = .ok (.getfield 126, 3) := by decide +kernel
theorem dX12_shop_110 : decode cX12_shop 110 = .ok (.ifCond .ne 7, 3) := by decide +kernel
theorem dX12_shop_113 : decode cX12_shop 113 = .ok (.iconst (-1), 1) := by decide +kernel
theorem dX12_shop_114 : decode cX12_shop 114 = .ok (.goto 7, 3) := by decide +kernel
theorem dX12_shop_117 : decode cX12_shop 117 = .ok (.aload_n 0, 1) := by decide +kernel
theorem dX12_shop_118 : decode cX12_shop 118 = .ok (.getfield 129, 3) := by decide +kernel
theorem dX12_shop_121 : decode cX12_shop 121 = .ok (.putfield 27, 3) := by decide +kernel
theorem dX12_shop_124 : decode cX12_shop 124 = .ok (.aload_n 0, 1) := by decide +kernel
theorem dX12_shop_125 : decode cX12_shop 125 = .ok (.getfield 126, 3) := by decide +kernel
theorem dX12_shop_128 : decode cX12_shop 128 = .ok (.ifCond .eq 11, 3) := by decide +kernel
theorem dX12_shop_131 : decode cX12_shop 131 = .ok (.bipush (-30), 2) := by decide +kernel
theorem dX12_shop_133 : decode cX12_shop 133 = .ok (.aload_n 0, 1) := by decide +kernel
theorem dX12_shop_134 : decode cX12_shop 134 = .ok (.getfield 126, 3) := by decide +kernel
theorem dX12_shop_137 : decode cX12_shop 137 = .ok (.isub, 1) := by decide +kernel
theorem dX12_shop_138 : decode cX12_shop 138 = .ok (.ireturn, 1) := by decide +kernel
theorem dX12_shop_139 : decode cX12_shop 139 = .ok (.iconst 0, 1) := by decide +kernel
theorem dX12_shop_140 : decode cX12_shop 140 = .ok (.istore_n 2, 1) := by decide +kernel
theorem dX12_shop_141 : decode cX12_shop 141 = .ok (.iload_n 2, 1) := by decide +kernel
theorem dX12_shop_142 : decode cX12_shop 142 = .ok (.sipush 1181, 3) := by decide +kernel
theorem dX12_shop_145 : decode cX12_shop 145 = .ok (.if_icmp .ge 21, 3) := by decide +kernel
theorem dX12_shop_148 : decode cX12_shop 148 = .ok (.aload_n 0, 1) := by decide +kernel
theorem dX12_shop_149 : decode cX12_shop 149 = .ok (.getfield 13, 3) := by decide +kernel
theorem dX12_shop_152 : decode cX12_shop 152 = .ok (.iload_n 2, 1) := by decide +kernel
theorem dX12_shop_153 : decode cX12_shop 153 = .ok (.aload_n 0, 1) := by decide +kernel
theorem dX12_shop_154 : decode cX12_shop 154 = .ok (.getfield 24, 3) := by decide +kernel
theorem dX12_shop_157 : decode cX12_shop 157 = .ok (.iload_n 2, 1) := by decide +kernel
theorem dX12_shop_158 : decode cX12_shop 158 = .ok (.iaload, 1) := by decide +kernel
theorem dX12_shop_159 : decode cX12_shop 159 = .ok (.iastore, 1) := by decide +kernel
theorem dX12_shop_160 : decode cX12_shop 160 = .ok (.iinc 2 1, 3) := by decide +kernel
theorem dX12_shop_163 : decode cX12_shop 163 = .ok (.goto (-22), 3) := by decide +kernel
theorem dX12_shop_166 : decode cX12_shop 166 = .ok (.aload_n 0, 1) := by decide +kernel
theorem dX12_shop_167 : decode cX12_shop 167 = .ok (.getfield 13, 3) := by decide +kernel
theorem dX12_shop_170 : decode cX12_shop 170 = .ok (.iconst 0, 1) := by decide +kernel
theorem dX12_shop_171 : decode cX12_shop 171 = .ok (.iaload, 1) := by decide +kernel
theorem dX12_shop_172 : decode cX12_shop 172 = .ok (.ireturn, 1) := by decide +kernel
theorem dX12_fault_0 : decode cX12_fault 0 = .ok (.aload_n 0, 1) := by decide +kernel
theorem dX12_fault_1 : decode cX12_fault 1 = .ok (.iconst 0, 1) := by decide +kernel
theorem dX12_fault_2 : decode cX12_fault 2 = .ok (.putfield 1, 3) := by decide +kernel
theorem dX12_fault_5 : decode cX12_fault 5 = .ok (.iload_n 1, 1) := by decide +kernel
theorem dX12_fault_6 : decode cX12_fault 6 = .ok (.ifCond .ne 10, 3) := by decide +kernel
theorem dX12_fault_9 : decode cX12_fault 9 = .ok (.aload_n 0, 1) := by decide +kernel
theorem dX12_fault_10 : decode cX12_fault 10 = .ok (.getfield 201, 3) := by decide +kernel
theorem dX12_fault_13 : decode cX12_fault 13 = .ok (.goto 16, 3) := by decide +kernel
theorem dX12_fault_16 : decode cX12_fault 16 = .ok (.iload_n 1, 1) := by decide +kernel
theorem dX12_fault_17 : decode cX12_fault 17 = .ok (.iconst 1, 1) := by decide +kernel
theorem dX12_fault_18 : decode cX12_fault 18 = .ok (.if_icmp .ne 10, 3) := by decide +kernel
theorem dX12_fault_21 : decode cX12_fault 21 = .ok (.aload_n 0, 1) := by decide +kernel
theorem dX12_fault_22 : decode cX12_fault 22 = .ok (.getfield 27, 3) := by decide +kernel
theorem dX12_fault_25 : decode cX12_fault 25 = .ok (.goto 4, 3) := by decide +kernel
theorem dX12_fault_28 : decode cX12_fault 28 = .ok (.iconst (-1), 1) := by decide +kernel
theorem dX12_fault_29 : decode cX12_fault 29 = .ok (.ireturn, 1) := by decide +kernel
theorem dX12_isKind_0 : decode cX12_isKind 0 = .ok (.lload_n 1, 1) := by decide +kernel
theorem dX12_isKind_1 : decode cX12_isKind 1 = .ok (.lconst 0, 1) := by decide +kernel
theorem dX12_isKind_2 : decode cX12_isKind 2 = .ok (.aload_n 0, 1) := by decide +kernel
theorem dX12_isKind_3 : decode cX12_isKind 3 = .ok (.getfield 13, 3) := by decide +kernel
theorem dX12_isKind_6 : decode cX12_isKind 6 = .ok (.bipush 26, 2) := by decide +kernel
theorem dX12_isKind_8 : decode cX12_isKind 8 = .ok (.iaload, 1) := by decide +kernel
theorem dX12_isKind_9 : decode cX12_isKind 9 = .ok (.iconst 1, 1) := by decide +kernel
theorem dX12_isKind_10 : decode cX12_isKind 10 = .ok (.isub, 1) := by decide +kernel
theorem dX12_isKind_11 : decode cX12_isKind 11 = .ok (.i2l, 1) := by decide +kernel
theorem dX12_isKind_12 : decode cX12_isKind 12 = .ok (.invokestatic 142, 3) := by decide +kernel
theorem dX12_isKind_15 : decode cX12_isKind 15 = .ok (.ireturn, 1) := by decide +kernel
theorem dX12_isBuyer_0 : decode cX12_isBuyer 0 = .ok (.lload_n 1, 1) := by decide +kernel
theorem dX12_isBuyer_1 : decode cX12_isBuyer 1 = .ok (.lconst 0, 1) := by decide +kernel
theorem dX12_isBuyer_2 : decode cX12_isBuyer 2 = .ok (.aload_n 0, 1) := by decide +kernel
theorem dX12_isBuyer_3 : decode cX12_isBuyer 3 = .ok (.getfield 13, 3) := by decide +kernel
theorem dX12_isBuyer_6 : decode cX12_isBuyer 6 = .ok (.iconst 1, 1) := by decide +kernel
theorem dX12_isBuyer_7 : decode cX12_isBuyer 7 = .ok (.iaload, 1) := by decide +kernel
theorem dX12_isBuyer_8 : decode cX12_isBuyer 8 = .ok (.iconst 1, 1) := by decide +kernel
theorem dX12_isBuyer_9 : decode cX12_isBuyer 9 = .ok (.isub, 1) := by decide +kernel
theorem dX12_isBuyer_10 : decode cX12_isBuyer 10 = .ok (.i2l, 1) := by decide +kernel
theorem dX12_isBuyer_11 : decode cX12_isBuyer 11 = .ok (.invokestatic 142, 3) := by decide +kernel
theorem dX12_isBuyer_14 : decode cX12_isBuyer 14 = .ok (.ireturn, 1) := by decide +kernel
theorem dX12_bitsOf_0 : decode cX12_bitsOf 0 = .ok (.iconst 0, 1) := by decide +kernel
theorem dX12_bitsOf_1 : decode cX12_bitsOf 1 = .ok (.istore_n 1, 1) := by decide +kernel
theorem dX12_bitsOf_2 : decode cX12_bitsOf 2 = .ok (.iconst 0, 1) := by decide +kernel
theorem dX12_bitsOf_3 : decode cX12_bitsOf 3 = .ok (.istore_n 2, 1) := by decide +kernel
theorem dX12_bitsOf_4 : decode cX12_bitsOf 4 = .ok (.iload_n 2, 1) := by decide +kernel
theorem dX12_bitsOf_5 : decode cX12_bitsOf 5 = .ok (.bipush 8, 2) := by decide +kernel
theorem dX12_bitsOf_7 : decode cX12_bitsOf 7 = .ok (.if_icmp .ge 17, 3) := by decide +kernel
theorem dX12_bitsOf_10 : decode cX12_bitsOf 10 = .ok (.iload_n 1, 1) := by decide +kernel
theorem dX12_bitsOf_11 : decode cX12_bitsOf 11 = .ok (.iload_n 0, 1) := by decide +kernel
theorem dX12_bitsOf_12 : decode cX12_bitsOf 12 = .ok (.iload_n 2, 1) := by decide +kernel
theorem dX12_bitsOf_13 : decode cX12_bitsOf 13 = .ok (.ishr, 1) := by decide +kernel
theorem dX12_bitsOf_14 : decode cX12_bitsOf 14 = .ok (.iconst 1, 1) := by decide +kernel
theorem dX12_bitsOf_15 : decode cX12_bitsOf 15 = .ok (.iand, 1) := by decide +kernel
theorem dX12_bitsOf_16 : decode cX12_bitsOf 16 = .ok (.iadd, 1) := by decide +kernel
theorem dX12_bitsOf_17 : decode cX12_bitsOf 17 = .ok (.istore_n 1, 1) := by decide +kernel
theorem dX12_bitsOf_18 : decode cX12_bitsOf 18 = .ok (.iinc 2 1, 3) := by decide +kernel
theorem dX12_bitsOf_21 : decode cX12_bitsOf 21 = .ok (.goto (-17), 3) := by decide +kernel
theorem dX12_bitsOf_24 : decode cX12_bitsOf 24 = .ok (.iload_n 1, 1) := by decide +kernel
theorem dX12_bitsOf_25 : decode cX12_bitsOf 25 = .ok (.ireturn, 1) := by decide +kernel
theorem dX12_everyKind_0 : decode cX12_everyKind 0 = .ok (.iconst 1, 1) := by decide +kernel
theorem dX12_everyKind_1 : decode cX12_everyKind 1 = .ok (.aload_n 0, 1) := by decide +kernel
theorem dX12_everyKind_2 : decode cX12_everyKind 2 = .ok (.getfield 13, 3) := by decide +kernel
theorem dX12_everyKind_5 : decode cX12_everyKind 5 = .ok (.bipush 26, 2) := by decide +kernel
theorem dX12_everyKind_7 : decode cX12_everyKind 7 = .ok (.iaload, 1) := by decide +kernel
theorem dX12_everyKind_8 : decode cX12_everyKind 8 = .ok (.ishl, 1) := by decide +kernel
theorem dX12_everyKind_9 : decode cX12_everyKind 9 = .ok (.iconst 1, 1) := by decide +kernel
theorem dX12_everyKind_10 : decode cX12_everyKind 10 = .ok (.isub, 1) := by decide +kernel
theorem dX12_everyKind_11 : decode cX12_everyKind 11 = .ok (.ireturn, 1) := by decide +kernel
theorem dX12_shown_0 : decode cX12_shown 0 = .ok (.aload_n 0, 1) := by decide +kernel
theorem dX12_shown_1 : decode cX12_shown 1 = .ok (.invokevirtual 204, 3) := by decide +kernel
theorem dX12_shown_4 : decode cX12_shown 4 = .ok (.aload_n 0, 1) := by decide +kernel
theorem dX12_shown_5 : decode cX12_shown 5 = .ok (.getfield 13, 3) := by decide +kernel
theorem dX12_shown_8 : decode cX12_shown 8 = .ok (.bipush 28, 2) := by decide +kernel
theorem dX12_shown_10 : decode cX12_shown 10 = .ok (.iaload, 1) := by decide +kernel
theorem dX12_shown_11 : decode cX12_shown 11 = .ok (.iconst (-1), 1) := by decide +kernel
theorem dX12_shown_12 : decode cX12_shown 12 = .ok (.ixor, 1) := by decide +kernel
theorem dX12_shown_13 : decode cX12_shown 13 = .ok (.iand, 1) := by decide +kernel
theorem dX12_shown_14 : decode cX12_shown 14 = .ok (.ireturn, 1) := by decide +kernel
theorem dX12_isShutBy_0 : decode cX12_isShutBy 0 = .ok (.aload_n 0, 1) := by decide +kernel
theorem dX12_isShutBy_1 : decode cX12_isShutBy 1 = .ok (.invokevirtual 207, 3) := by decide +kernel
theorem dX12_isShutBy_4 : decode cX12_isShutBy 4 = .ok (.iload_n 1, 1) := by decide +kernel
theorem dX12_isShutBy_5 : decode cX12_isShutBy 5 = .ok (.iconst (-1), 1) := by decide +kernel
theorem dX12_isShutBy_6 : decode cX12_isShutBy 6 = .ok (.ixor, 1) := by decide +kernel
theorem dX12_isShutBy_7 : decode cX12_isShutBy 7 = .ok (.iand, 1) := by decide +kernel
theorem dX12_isShutBy_8 : decode cX12_isShutBy 8 = .ok (.ifCond .ne 7, 3) := by decide +kernel
theorem dX12_isShutBy_11 : decode cX12_isShutBy 11 = .ok (.iconst 1, 1) := by decide +kernel
theorem dX12_isShutBy_12 : decode cX12_isShutBy 12 = .ok (.goto 4, 3) := by decide +kernel
theorem dX12_isShutBy_15 : decode cX12_isShutBy 15 = .ok (.iconst 0, 1) := by decide +kernel
theorem dX12_isShutBy_16 : decode cX12_isShutBy 16 = .ok (.ireturn, 1) := by decide +kernel
theorem dX12_isShut_0 : decode cX12_isShut 0 = .ok (.aload_n 0, 1) := by decide +kernel
theorem dX12_isShut_1 : decode cX12_isShut 1 = .ok (.aload_n 0, 1) := by decide +kernel
theorem dX12_isShut_2 : decode cX12_isShut 2 = .ok (.getfield 13, 3) := by decide +kernel
theorem dX12_isShut_5 : decode cX12_isShut 5 = .ok (.bipush 27, 2) := by decide +kernel
theorem dX12_isShut_7 : decode cX12_isShut 7 = .ok (.iaload, 1) := by decide +kernel
theorem dX12_isShut_8 : decode cX12_isShut 8 = .ok (.invokevirtual 210, 3) := by decide +kernel
theorem dX12_isShut_11 : decode cX12_isShut 11 = .ok (.ireturn, 1) := by decide +kernel
theorem dX12_between_0 : decode cX12_between 0 = .ok (.iload_n 0, 1) := by decide +kernel
theorem dX12_between_1 : decode cX12_between 1 = .ok (.tableswitch 80 3003 3008 #[39, 50, 61, 80, 72, 76], 39) := by decide +kernel
theorem dX12_between_40 : decode cX12_between 40 = .ok (.iload_n 1, 1) := by decide +kernel
theorem dX12_between_41 : decode cX12_between 41 = .ok (.iload_n 2, 1) := by decide +kernel
theorem dX12_between_42 : decode cX12_between 42 = .ok (.if_icmp .ne 7, 3) := by decide +kernel
theorem dX12_between_45 : decode cX12_between 45 = .ok (.iconst 1, 1) := by decide +kernel
theorem dX12_between_46 : decode cX12_between 46 = .ok (.goto 4, 3) := by decide +kernel
theorem dX12_between_49 : decode cX12_between 49 = .ok (.iconst 0, 1) := by decide +kernel
theorem dX12_between_50 : decode cX12_between 50 = .ok (.ireturn, 1) := by decide +kernel
theorem dX12_between_51 : decode cX12_between 51 = .ok (.iload_n 1, 1) := by decide +kernel
theorem dX12_between_52 : decode cX12_between 52 = .ok (.iload_n 2, 1) := by decide +kernel
theorem dX12_between_53 : decode cX12_between 53 = .ok (.if_icmp .ge 7, 3) := by decide +kernel
theorem dX12_between_56 : decode cX12_between 56 = .ok (.iconst 1, 1) := by decide +kernel
theorem dX12_between_57 : decode cX12_between 57 = .ok (.goto 4, 3) := by decide +kernel
theorem dX12_between_60 : decode cX12_between 60 = .ok (.iconst 0, 1) := by decide +kernel
theorem dX12_between_61 : decode cX12_between 61 = .ok (.ireturn, 1) := by decide +kernel
theorem dX12_between_62 : decode cX12_between 62 = .ok (.iload_n 1, 1) := by decide +kernel
theorem dX12_between_63 : decode cX12_between 63 = .ok (.iload_n 2, 1) := by decide +kernel
theorem dX12_between_64 : decode cX12_between 64 = .ok (.if_icmp .le 7, 3) := by decide +kernel
theorem dX12_between_67 : decode cX12_between 67 = .ok (.iconst 1, 1) := by decide +kernel
theorem dX12_between_68 : decode cX12_between 68 = .ok (.goto 4, 3) := by decide +kernel
theorem dX12_between_71 : decode cX12_between 71 = .ok (.iconst 0, 1) := by decide +kernel
theorem dX12_between_72 : decode cX12_between 72 = .ok (.ireturn, 1) := by decide +kernel
theorem dX12_between_73 : decode cX12_between 73 = .ok (.iload_n 1, 1) := by decide +kernel
theorem dX12_between_74 : decode cX12_between 74 = .ok (.iload_n 2, 1) := by decide +kernel
theorem dX12_between_75 : decode cX12_between 75 = .ok (.iand, 1) := by decide +kernel
theorem dX12_between_76 : decode cX12_between 76 = .ok (.ireturn, 1) := by decide +kernel
theorem dX12_between_77 : decode cX12_between 77 = .ok (.iload_n 1, 1) := by decide +kernel
theorem dX12_between_78 : decode cX12_between 78 = .ok (.iload_n 2, 1) := by decide +kernel
theorem dX12_between_79 : decode cX12_between 79 = .ok (.ior, 1) := by decide +kernel
theorem dX12_between_80 : decode cX12_between 80 = .ok (.ireturn, 1) := by decide +kernel
theorem dX12_between_81 : decode cX12_between 81 = .ok (.iload_n 0, 1) := by decide +kernel
theorem dX12_between_82 : decode cX12_between 82 = .ok (.sipush 3000, 3) := by decide +kernel
theorem dX12_between_85 : decode cX12_between 85 = .ok (.if_icmp .ne 11, 3) := by decide +kernel
theorem dX12_between_88 : decode cX12_between 88 = .ok (.iload_n 1, 1) := by decide +kernel
theorem dX12_between_89 : decode cX12_between 89 = .ok (.i2l, 1) := by decide +kernel
theorem dX12_between_90 : decode cX12_between 90 = .ok (.iload_n 2, 1) := by decide +kernel
theorem dX12_between_91 : decode cX12_between 91 = .ok (.i2l, 1) := by decide +kernel
theorem dX12_between_92 : decode cX12_between 92 = .ok (.ladd, 1) := by decide +kernel
theorem dX12_between_93 : decode cX12_between 93 = .ok (.goto 23, 3) := by decide +kernel
theorem dX12_between_96 : decode cX12_between 96 = .ok (.iload_n 0, 1) := by decide +kernel
theorem dX12_between_97 : decode cX12_between 97 = .ok (.sipush 3001, 3) := by decide +kernel
theorem dX12_between_100 : decode cX12_between 100 = .ok (.if_icmp .ne 11, 3) := by decide +kernel
theorem dX12_between_103 : decode cX12_between 103 = .ok (.iload_n 1, 1) := by decide +kernel
theorem dX12_between_104 : decode cX12_between 104 = .ok (.i2l, 1) := by decide +kernel
theorem dX12_between_105 : decode cX12_between 105 = .ok (.iload_n 2, 1) := by decide +kernel
theorem dX12_between_106 : decode cX12_between 106 = .ok (.i2l, 1) := by decide +kernel
theorem dX12_between_107 : decode cX12_between 107 = .ok (.lsub, 1) := by decide +kernel
theorem dX12_between_108 : decode cX12_between 108 = .ok (.goto 8, 3) := by decide +kernel
theorem dX12_between_111 : decode cX12_between 111 = .ok (.iload_n 1, 1) := by decide +kernel
theorem dX12_between_112 : decode cX12_between 112 = .ok (.i2l, 1) := by decide +kernel
theorem dX12_between_113 : decode cX12_between 113 = .ok (.iload_n 2, 1) := by decide +kernel
theorem dX12_between_114 : decode cX12_between 114 = .ok (.i2l, 1) := by decide +kernel
theorem dX12_between_115 : decode cX12_between 115 = .ok (.lmul, 1) := by decide +kernel
theorem dX12_between_116 : decode cX12_between 116 = .ok (.lstore_n 3, 1) := by decide +kernel
theorem dX12_between_117 : decode cX12_between 117 = .ok (.lload_n 3, 1) := by decide +kernel
theorem dX12_between_118 : decode cX12_between 118 = .ok (.ldc2_w 213, 3) := by decide +kernel
theorem dX12_between_121 : decode cX12_between 121 = .ok (.lcmp, 1) := by decide +kernel
theorem dX12_between_122 : decode cX12_between 122 = .ok (.ifCond .le 9, 3) := by decide +kernel
theorem dX12_between_125 : decode cX12_between 125 = .ok (.ldc2_w 213, 3) := by decide +kernel
theorem dX12_between_128 : decode cX12_between 128 = .ok (.goto 18, 3) := by decide +kernel
theorem dX12_between_131 : decode cX12_between 131 = .ok (.lload_n 3, 1) := by decide +kernel
theorem dX12_between_132 : decode cX12_between 132 = .ok (.ldc2_w 215, 3) := by decide +kernel
theorem dX12_between_135 : decode cX12_between 135 = .ok (.lcmp, 1) := by decide +kernel
theorem dX12_between_136 : decode cX12_between 136 = .ok (.ifCond .ge 9, 3) := by decide +kernel
theorem dX12_between_139 : decode cX12_between 139 = .ok (.ldc2_w 215, 3) := by decide +kernel
theorem dX12_between_142 : decode cX12_between 142 = .ok (.goto 4, 3) := by decide +kernel
theorem dX12_between_145 : decode cX12_between 145 = .ok (.lload_n 3, 1) := by decide +kernel
theorem dX12_between_146 : decode cX12_between 146 = .ok (.l2i, 1) := by decide +kernel
theorem dX12_between_147 : decode cX12_between 147 = .ok (.ireturn, 1) := by decide +kernel
theorem dX12_reckons_0 : decode cX12_reckons 0 = .ok (.aload_n 0, 1) := by decide +kernel
theorem dX12_reckons_1 : decode cX12_reckons 1 = .ok (.getfield 33, 3) := by decide +kernel
theorem dX12_reckons_4 : decode cX12_reckons 4 = .ok (.iconst 0, 1) := by decide +kernel
theorem dX12_reckons_5 : decode cX12_reckons 5 = .ok (.iload_n 2, 1) := by decide +kernel
theorem dX12_reckons_6 : decode cX12_reckons 6 = .ok (.iastore, 1) := by decide +kernel
theorem dX12_reckons_7 : decode cX12_reckons 7 = .ok (.aload_n 0, 1) := by decide +kernel
theorem dX12_reckons_8 : decode cX12_reckons 8 = .ok (.getfield 33, 3) := by decide +kernel
theorem dX12_reckons_11 : decode cX12_reckons 11 = .ok (.iconst 1, 1) := by decide +kernel
theorem dX12_reckons_12 : decode cX12_reckons 12 = .ok (.aload_n 0, 1) := by decide +kernel
theorem dX12_reckons_13 : decode cX12_reckons 13 = .ok (.getfield 13, 3) := by decide +kernel
theorem dX12_reckons_16 : decode cX12_reckons 16 = .ok (.bipush 8, 2) := by decide +kernel
theorem dX12_reckons_18 : decode cX12_reckons 18 = .ok (.iload_n 2, 1) := by decide +kernel
theorem dX12_reckons_19 : decode cX12_reckons 19 = .ok (.iadd, 1) := by decide +kernel
theorem dX12_reckons_20 : decode cX12_reckons 20 = .ok (.iaload, 1) := by decide +kernel
theorem dX12_reckons_21 : decode cX12_reckons 21 = .ok (.iastore, 1) := by decide +kernel
theorem dX12_reckons_22 : decode cX12_reckons 22 = .ok (.aload_n 0, 1) := by decide +kernel
theorem dX12_reckons_23 : decode cX12_reckons 23 = .ok (.getfield 33, 3) := by decide +kernel
theorem dX12_reckons_26 : decode cX12_reckons 26 = .ok (.iconst 2, 1) := by decide +kernel
theorem dX12_reckons_27 : decode cX12_reckons 27 = .ok (.aload_n 0, 1) := by decide +kernel
theorem dX12_reckons_28 : decode cX12_reckons 28 = .ok (.getfield 13, 3) := by decide +kernel
theorem dX12_reckons_31 : decode cX12_reckons 31 = .ok (.bipush 14, 2) := by decide +kernel
theorem dX12_reckons_33 : decode cX12_reckons 33 = .ok (.iload_n 2, 1) := by decide +kernel
theorem dX12_reckons_34 : decode cX12_reckons 34 = .ok (.iadd, 1) := by decide +kernel
theorem dX12_reckons_35 : decode cX12_reckons 35 = .ok (.iaload, 1) := by decide +kernel
theorem dX12_reckons_36 : decode cX12_reckons 36 = .ok (.iastore, 1) := by decide +kernel
theorem dX12_reckons_37 : decode cX12_reckons 37 = .ok (.aload_n 0, 1) := by decide +kernel
theorem dX12_reckons_38 : decode cX12_reckons 38 = .ok (.getfield 33, 3) := by decide +kernel
theorem dX12_reckons_41 : decode cX12_reckons 41 = .ok (.iconst 3, 1) := by decide +kernel
theorem dX12_reckons_42 : decode cX12_reckons 42 = .ok (.iload_n 3, 1) := by decide +kernel
theorem dX12_reckons_43 : decode cX12_reckons 43 = .ok (.iastore, 1) := by decide +kernel
theorem dX12_reckons_44 : decode cX12_reckons 44 = .ok (.aload_n 0, 1) := by decide +kernel
theorem dX12_reckons_45 : decode cX12_reckons 45 = .ok (.getfield 33, 3) := by decide +kernel
theorem dX12_reckons_48 : decode cX12_reckons 48 = .ok (.iconst 4, 1) := by decide +kernel
theorem dX12_reckons_49 : decode cX12_reckons 49 = .ok (.aload_n 0, 1) := by decide +kernel
theorem dX12_reckons_50 : decode cX12_reckons 50 = .ok (.getfield 13, 3) := by decide +kernel
theorem dX12_reckons_53 : decode cX12_reckons 53 = .ok (.bipush 33, 2) := by decide +kernel
theorem dX12_reckons_55 : decode cX12_reckons 55 = .ok (.iload_n 3, 1) := by decide +kernel
theorem dX12_reckons_56 : decode cX12_reckons 56 = .ok (.iadd, 1) := by decide +kernel
theorem dX12_reckons_57 : decode cX12_reckons 57 = .ok (.iaload, 1) := by decide +kernel
theorem dX12_reckons_58 : decode cX12_reckons 58 = .ok (.iastore, 1) := by decide +kernel
theorem dX12_reckons_59 : decode cX12_reckons 59 = .ok (.aload_n 0, 1) := by decide +kernel
theorem dX12_reckons_60 : decode cX12_reckons 60 = .ok (.getfield 33, 3) := by decide +kernel
theorem dX12_reckons_63 : decode cX12_reckons 63 = .ok (.iconst 5, 1) := by decide +kernel
theorem dX12_reckons_64 : decode cX12_reckons 64 = .ok (.aload_n 0, 1) := by decide +kernel
theorem dX12_reckons_65 : decode cX12_reckons 65 = .ok (.getfield 13, 3) := by decide +kernel
theorem dX12_reckons_68 : decode cX12_reckons 68 = .ok (.bipush 41, 2) := by decide +kernel
theorem dX12_reckons_70 : decode cX12_reckons 70 = .ok (.iload_n 3, 1) := by decide +kernel
theorem dX12_reckons_71 : decode cX12_reckons 71 = .ok (.iadd, 1) := by decide +kernel
theorem dX12_reckons_72 : decode cX12_reckons 72 = .ok (.iaload, 1) := by decide +kernel
theorem dX12_reckons_73 : decode cX12_reckons 73 = .ok (.iastore, 1) := by decide +kernel
theorem dX12_reckons_74 : decode cX12_reckons 74 = .ok (.aload_n 0, 1) := by decide +kernel
theorem dX12_reckons_75 : decode cX12_reckons 75 = .ok (.getfield 33, 3) := by decide +kernel
theorem dX12_reckons_78 : decode cX12_reckons 78 = .ok (.bipush 6, 2) := by decide +kernel
theorem dX12_reckons_80 : decode cX12_reckons 80 = .ok (.iload 4, 2) := by decide +kernel
theorem dX12_reckons_82 : decode cX12_reckons 82 = .ok (.invokestatic 217, 3) := by decide +kernel
theorem dX12_reckons_85 : decode cX12_reckons 85 = .ok (.iastore, 1) := by decide +kernel
theorem dX12_reckons_86 : decode cX12_reckons 86 = .ok (.aload_n 0, 1) := by decide +kernel
theorem dX12_reckons_87 : decode cX12_reckons 87 = .ok (.getfield 33, 3) := by decide +kernel
theorem dX12_reckons_90 : decode cX12_reckons 90 = .ok (.bipush 7, 2) := by decide +kernel
theorem dX12_reckons_92 : decode cX12_reckons 92 = .ok (.iload 4, 2) := by decide +kernel
theorem dX12_reckons_94 : decode cX12_reckons 94 = .ok (.iload_n 3, 1) := by decide +kernel
theorem dX12_reckons_95 : decode cX12_reckons 95 = .ok (.ishr, 1) := by decide +kernel
theorem dX12_reckons_96 : decode cX12_reckons 96 = .ok (.iconst 1, 1) := by decide +kernel
theorem dX12_reckons_97 : decode cX12_reckons 97 = .ok (.iand, 1) := by decide +kernel
theorem dX12_reckons_98 : decode cX12_reckons 98 = .ok (.iastore, 1) := by decide +kernel
theorem dX12_reckons_99 : decode cX12_reckons 99 = .ok (.iconst 0, 1) := by decide +kernel
theorem dX12_reckons_100 : decode cX12_reckons 100 = .ok (.istore 5, 2) := by decide +kernel
theorem dX12_reckons_102 : decode cX12_reckons 102 = .ok (.iconst 0, 1) := by decide +kernel
theorem dX12_reckons_103 : decode cX12_reckons 103 = .ok (.istore 6, 2) := by decide +kernel
theorem dX12_reckons_105 : decode cX12_reckons 105 = .ok (.iload 6, 2) := by decide +kernel
theorem dX12_reckons_107 : decode cX12_reckons 107 = .ok (.aload_n 0, 1) := by decide +kernel
theorem dX12_reckons_108 : decode cX12_reckons 108 = .ok (.getfield 13, 3) := by decide +kernel
theorem dX12_reckons_111 : decode cX12_reckons 111 = .ok (.bipush 6, 2) := by decide +kernel
theorem dX12_reckons_113 : decode cX12_reckons 113 = .ok (.iload_n 1, 1) := by decide +kernel
theorem dX12_reckons_114 : decode cX12_reckons 114 = .ok (.iadd, 1) := by decide +kernel
theorem dX12_reckons_115 : decode cX12_reckons 115 = .ok (.iaload, 1) := by decide +kernel
theorem dX12_reckons_116 : decode cX12_reckons 116 = .ok (.if_icmp .ge 140, 3) := by decide +kernel
theorem dX12_reckons_119 : decode cX12_reckons 119 = .ok (.aload_n 0, 1) := by decide +kernel
theorem dX12_reckons_120 : decode cX12_reckons 120 = .ok (.getfield 13, 3) := by decide +kernel
theorem dX12_reckons_123 : decode cX12_reckons 123 = .ok (.sipush 281, 3) := by decide +kernel
theorem dX12_reckons_126 : decode cX12_reckons 126 = .ok (.aload_n 0, 1) := by decide +kernel
theorem dX12_reckons_127 : decode cX12_reckons 127 = .ok (.getfield 13, 3) := by decide +kernel
theorem dX12_reckons_130 : decode cX12_reckons 130 = .ok (.iconst 4, 1) := by decide +kernel
theorem dX12_reckons_131 : decode cX12_reckons 131 = .ok (.iload_n 1, 1) := by decide +kernel
theorem dX12_reckons_132 : decode cX12_reckons 132 = .ok (.iadd, 1) := by decide +kernel
theorem dX12_reckons_133 : decode cX12_reckons 133 = .ok (.iaload, 1) := by decide +kernel
theorem dX12_reckons_134 : decode cX12_reckons 134 = .ok (.iadd, 1) := by decide +kernel
theorem dX12_reckons_135 : decode cX12_reckons 135 = .ok (.iload 6, 2) := by decide +kernel
theorem dX12_reckons_137 : decode cX12_reckons 137 = .ok (.iadd, 1) := by decide +kernel
theorem dX12_reckons_138 : decode cX12_reckons 138 = .ok (.iaload, 1) := by decide +kernel
theorem dX12_reckons_139 : decode cX12_reckons 139 = .ok (.istore 7, 2) := by decide +kernel
theorem dX12_reckons_141 : decode cX12_reckons 141 = .ok (.iload 7, 2) := by decide +kernel
theorem dX12_reckons_143 : decode cX12_reckons 143 = .ok (.sipush 3000, 3) := by decide +kernel
theorem dX12_reckons_146 : decode cX12_reckons 146 = .ok (.if_icmp .ge 40, 3) := by decide +kernel
theorem dX12_reckons_149 : decode cX12_reckons 149 = .ok (.aload_n 0, 1) := by decide +kernel
theorem dX12_reckons_150 : decode cX12_reckons 150 = .ok (.getfield 30, 3) := by decide +kernel
theorem dX12_reckons_153 : decode cX12_reckons 153 = .ok (.iload 5, 2) := by decide +kernel
theorem dX12_reckons_155 : decode cX12_reckons 155 = .ok (.iload 7, 2) := by decide +kernel
theorem dX12_reckons_157 : decode cX12_reckons 157 = .ok (.sipush 1000, 3) := by decide +kernel
theorem dX12_reckons_160 : decode cX12_reckons 160 = .ok (.if_icmp .ge 8, 3) := by decide +kernel
theorem dX12_reckons_163 : decode cX12_reckons 163 = .ok (.iload 7, 2) := by decide +kernel
theorem dX12_reckons_165 : decode cX12_reckons 165 = .ok (.goto 14, 3) := by decide +kernel
theorem dX12_reckons_168 : decode cX12_reckons 168 = .ok (.aload_n 0, 1) := by decide +kernel
theorem dX12_reckons_169 : decode cX12_reckons 169 = .ok (.getfield 33, 3) := by decide +kernel
theorem dX12_reckons_172 : decode cX12_reckons 172 = .ok (.iload 7, 2) := by decide +kernel
theorem dX12_reckons_174 : decode cX12_reckons 174 = .ok (.sipush 1000, 3) := by decide +kernel
theorem dX12_reckons_177 : decode cX12_reckons 177 = .ok (.isub, 1) := by decide +kernel
theorem dX12_reckons_178 : decode cX12_reckons 178 = .ok (.iaload, 1) := by decide +kernel
theorem dX12_reckons_179 : decode cX12_reckons 179 = .ok (.iastore, 1) := by decide +kernel
theorem dX12_reckons_180 : decode cX12_reckons 180 = .ok (.iinc 5 1, 3) := by decide +kernel
theorem dX12_reckons_183 : decode cX12_reckons 183 = .ok (.goto 67, 3) := by decide +kernel
theorem dX12_reckons_186 : decode cX12_reckons 186 = .ok (.iload 7, 2) := by decide +kernel
theorem dX12_reckons_188 : decode cX12_reckons 188 = .ok (.sipush 3006, 3) := by decide +kernel
theorem dX12_reckons_191 : decode cX12_reckons 191 = .ok (.if_icmp .ne 26, 3) := by decide +kernel
theorem dX12_reckons_194 : decode cX12_reckons 194 = .ok (.aload_n 0, 1) := by decide +kernel
theorem dX12_reckons_195 : decode cX12_reckons 195 = .ok (.getfield 30, 3) := by decide +kernel
theorem dX12_reckons_198 : decode cX12_reckons 198 = .ok (.iload 5, 2) := by decide +kernel
theorem dX12_reckons_200 : decode cX12_reckons 200 = .ok (.iconst 1, 1) := by decide +kernel
theorem dX12_reckons_201 : decode cX12_reckons 201 = .ok (.isub, 1) := by decide +kernel
theorem dX12_reckons_202 : decode cX12_reckons 202 = .ok (.iconst 1, 1) := by decide +kernel
theorem dX12_reckons_203 : decode cX12_reckons 203 = .ok (.aload_n 0, 1) := by decide +kernel
theorem dX12_reckons_204 : decode cX12_reckons 204 = .ok (.getfield 30, 3) := by decide +kernel
theorem dX12_reckons_207 : decode cX12_reckons 207 = .ok (.iload 5, 2) := by decide +kernel
theorem dX12_reckons_209 : decode cX12_reckons 209 = .ok (.iconst 1, 1) := by decide +kernel
theorem dX12_reckons_210 : decode cX12_reckons 210 = .ok (.isub, 1) := by decide +kernel
theorem dX12_reckons_211 : decode cX12_reckons 211 = .ok (.iaload, 1) := by decide +kernel
theorem dX12_reckons_212 : decode cX12_reckons 212 = .ok (.isub, 1) := by decide +kernel
theorem dX12_reckons_213 : decode cX12_reckons 213 = .ok (.iastore, 1) := by decide +kernel
theorem dX12_reckons_214 : decode cX12_reckons 214 = .ok (.goto 36, 3) := by decide +kernel
theorem dX12_reckons_217 : decode cX12_reckons 217 = .ok (.iinc 5 (-1), 3) := by decide +kernel
theorem dX12_reckons_220 : decode cX12_reckons 220 = .ok (.aload_n 0, 1) := by decide +kernel
theorem dX12_reckons_221 : decode cX12_reckons 221 = .ok (.getfield 30, 3) := by decide +kernel
theorem dX12_reckons_224 : decode cX12_reckons 224 = .ok (.iload 5, 2) := by decide +kernel
theorem dX12_reckons_226 : decode cX12_reckons 226 = .ok (.iconst 1, 1) := by decide +kernel
theorem dX12_reckons_227 : decode cX12_reckons 227 = .ok (.isub, 1) := by decide +kernel
theorem dX12_reckons_228 : decode cX12_reckons 228 = .ok (.iload 7, 2) := by decide +kernel
theorem dX12_reckons_230 : decode cX12_reckons 230 = .ok (.aload_n 0, 1) := by decide +kernel
theorem dX12_reckons_231 : decode cX12_reckons 231 = .ok (.getfield 30, 3) := by decide +kernel
theorem dX12_reckons_234 : decode cX12_reckons 234 = .ok (.iload 5, 2) := by decide +kernel
theorem dX12_reckons_236 : decode cX12_reckons 236 = .ok (.iconst 1, 1) := by decide +kernel
theorem dX12_reckons_237 : decode cX12_reckons 237 = .ok (.isub, 1) := by decide +kernel
theorem dX12_reckons_238 : decode cX12_reckons 238 = .ok (.iaload, 1) := by decide +kernel
theorem dX12_reckons_239 : decode cX12_reckons 239 = .ok (.aload_n 0, 1) := by decide +kernel
theorem dX12_reckons_240 : decode cX12_reckons 240 = .ok (.getfield 30, 3) := by decide +kernel
theorem dX12_reckons_243 : decode cX12_reckons 243 = .ok (.iload 5, 2) := by decide +kernel
theorem dX12_reckons_245 : decode cX12_reckons 245 = .ok (.iaload, 1) := by decide +kernel
theorem dX12_reckons_246 : decode cX12_reckons 246 = .ok (.invokestatic 220, 3) := by decide +kernel
theorem dX12_reckons_249 : decode cX12_reckons 249 = .ok (.iastore, 1) := by decide +kernel
theorem dX12_reckons_250 : decode cX12_reckons 250 = .ok (.iinc 6 1, 3) := by decide +kernel
theorem dX12_reckons_253 : decode cX12_reckons 253 = .ok (.goto (-148), 3) := by decide +kernel
theorem dX12_reckons_256 : decode cX12_reckons 256 = .ok (.aload_n 0, 1) := by decide +kernel
theorem dX12_reckons_257 : decode cX12_reckons 257 = .ok (.getfield 30, 3) := by decide +kernel
theorem dX12_reckons_260 : decode cX12_reckons 260 = .ok (.iconst 0, 1) := by decide +kernel
theorem dX12_reckons_261 : decode cX12_reckons 261 = .ok (.iaload, 1) := by decide +kernel
theorem dX12_reckons_262 : decode cX12_reckons 262 = .ok (.ireturn, 1) := by decide +kernel
theorem dX12_wantsOf_0 : decode cX12_wantsOf 0 = .ok (.aload_n 0, 1) := by decide +kernel
theorem dX12_wantsOf_1 : decode cX12_wantsOf 1 = .ok (.getfield 13, 3) := by decide +kernel
theorem dX12_wantsOf_4 : decode cX12_wantsOf 4 = .ok (.iconst 2, 1) := by decide +kernel
theorem dX12_wantsOf_5 : decode cX12_wantsOf 5 = .ok (.iaload, 1) := by decide +kernel
theorem dX12_wantsOf_6 : decode cX12_wantsOf 6 = .ok (.ifCond .ne 25, 3) := by decide +kernel
theorem dX12_wantsOf_9 : decode cX12_wantsOf 9 = .ok (.aload_n 0, 1) := by decide +kernel
theorem dX12_wantsOf_10 : decode cX12_wantsOf 10 = .ok (.getfield 13, 3) := by decide +kernel
theorem dX12_wantsOf_13 : decode cX12_wantsOf 13 = .ok (.bipush 8, 2) := by decide +kernel
theorem dX12_wantsOf_15 : decode cX12_wantsOf 15 = .ok (.iload_n 1, 1) := by decide +kernel
theorem dX12_wantsOf_16 : decode cX12_wantsOf 16 = .ok (.iadd, 1) := by decide +kernel
theorem dX12_wantsOf_17 : decode cX12_wantsOf 17 = .ok (.iaload, 1) := by decide +kernel
theorem dX12_wantsOf_18 : decode cX12_wantsOf 18 = .ok (.aload_n 0, 1) := by decide +kernel
theorem dX12_wantsOf_19 : decode cX12_wantsOf 19 = .ok (.getfield 13, 3) := by decide +kernel
theorem dX12_wantsOf_22 : decode cX12_wantsOf 22 = .ok (.bipush 33, 2) := by decide +kernel
theorem dX12_wantsOf_24 : decode cX12_wantsOf 24 = .ok (.iload_n 2, 1) := by decide +kernel
theorem dX12_wantsOf_25 : decode cX12_wantsOf 25 = .ok (.iadd, 1) := by decide +kernel
theorem dX12_wantsOf_26 : decode cX12_wantsOf 26 = .ok (.iaload, 1) := by decide +kernel
theorem dX12_wantsOf_27 : decode cX12_wantsOf 27 = .ok (.isub, 1) := by decide +kernel
theorem dX12_wantsOf_28 : decode cX12_wantsOf 28 = .ok (.goto 11, 3) := by decide +kernel
theorem dX12_wantsOf_31 : decode cX12_wantsOf 31 = .ok (.aload_n 0, 1) := by decide +kernel
theorem dX12_wantsOf_32 : decode cX12_wantsOf 32 = .ok (.iconst 0, 1) := by decide +kernel
theorem dX12_wantsOf_33 : decode cX12_wantsOf 33 = .ok (.iload_n 1, 1) := by decide +kernel
theorem dX12_wantsOf_34 : decode cX12_wantsOf 34 = .ok (.iload_n 2, 1) := by decide +kernel
theorem dX12_wantsOf_35 : decode cX12_wantsOf 35 = .ok (.iload_n 3, 1) := by decide +kernel
theorem dX12_wantsOf_36 : decode cX12_wantsOf 36 = .ok (.invokevirtual 224, 3) := by decide +kernel
theorem dX12_wantsOf_39 : decode cX12_wantsOf 39 = .ok (.ireturn, 1) := by decide +kernel
theorem dX12_mayBuy_0 : decode cX12_mayBuy 0 = .ok (.aload_n 0, 1) := by decide +kernel
theorem dX12_mayBuy_1 : decode cX12_mayBuy 1 = .ok (.getfield 13, 3) := by decide +kernel
theorem dX12_mayBuy_4 : decode cX12_mayBuy 4 = .ok (.bipush 28, 2) := by decide +kernel
theorem dX12_mayBuy_6 : decode cX12_mayBuy 6 = .ok (.iaload, 1) := by decide +kernel
theorem dX12_mayBuy_7 : decode cX12_mayBuy 7 = .ok (.i2l, 1) := by decide +kernel
theorem dX12_mayBuy_8 : decode cX12_mayBuy 8 = .ok (.iload_n 2, 1) := by decide +kernel
theorem dX12_mayBuy_9 : decode cX12_mayBuy 9 = .ok (.invokestatic 228, 3) := by decide +kernel
theorem dX12_mayBuy_12 : decode cX12_mayBuy 12 = .ok (.ifCond .ne 24, 3) := by decide +kernel
theorem dX12_mayBuy_15 : decode cX12_mayBuy 15 = .ok (.aload_n 0, 1) := by decide +kernel
theorem dX12_mayBuy_16 : decode cX12_mayBuy 16 = .ok (.getfield 13, 3) := by decide +kernel
theorem dX12_mayBuy_19 : decode cX12_mayBuy 19 = .ok (.bipush 33, 2) := by decide +kernel
theorem dX12_mayBuy_21 : decode cX12_mayBuy 21 = .ok (.iload_n 2, 1) := by decide +kernel
theorem dX12_mayBuy_22 : decode cX12_mayBuy 22 = .ok (.iadd, 1) := by decide +kernel
theorem dX12_mayBuy_23 : decode cX12_mayBuy 23 = .ok (.iaload, 1) := by decide +kernel
theorem dX12_mayBuy_24 : decode cX12_mayBuy 24 = .ok (.aload_n 0, 1) := by decide +kernel
theorem dX12_mayBuy_25 : decode cX12_mayBuy 25 = .ok (.getfield 13, 3) := by decide +kernel
theorem dX12_mayBuy_28 : decode cX12_mayBuy 28 = .ok (.bipush 8, 2) := by decide +kernel
theorem dX12_mayBuy_30 : decode cX12_mayBuy 30 = .ok (.iload_n 1, 1) := by decide +kernel
theorem dX12_mayBuy_31 : decode cX12_mayBuy 31 = .ok (.iadd, 1) := by decide +kernel
theorem dX12_mayBuy_32 : decode cX12_mayBuy 32 = .ok (.iaload, 1) := by decide +kernel
theorem dX12_mayBuy_33 : decode cX12_mayBuy 33 = .ok (.if_icmp .le 5, 3) := by decide +kernel
theorem dX12_mayBuy_36 : decode cX12_mayBuy 36 = .ok (.iconst 0, 1) := by decide +kernel
theorem dX12_mayBuy_37 : decode cX12_mayBuy 37 = .ok (.ireturn, 1) := by decide +kernel
theorem dX12_mayBuy_38 : decode cX12_mayBuy 38 = .ok (.aload_n 0, 1) := by decide +kernel
theorem dX12_mayBuy_39 : decode cX12_mayBuy 39 = .ok (.getfield 13, 3) := by decide +kernel
theorem dX12_mayBuy_42 : decode cX12_mayBuy 42 = .ok (.iconst 3, 1) := by decide +kernel
theorem dX12_mayBuy_43 : decode cX12_mayBuy 43 = .ok (.iaload, 1) := by decide +kernel
theorem dX12_mayBuy_44 : decode cX12_mayBuy 44 = .ok (.ifCond .eq 15, 3) := by decide +kernel
theorem dX12_mayBuy_47 : decode cX12_mayBuy 47 = .ok (.aload_n 0, 1) := by decide +kernel
theorem dX12_mayBuy_48 : decode cX12_mayBuy 48 = .ok (.iconst 1, 1) := by decide +kernel
theorem dX12_mayBuy_49 : decode cX12_mayBuy 49 = .ok (.iload_n 1, 1) := by decide +kernel
theorem dX12_mayBuy_50 : decode cX12_mayBuy 50 = .ok (.iload_n 2, 1) := by decide +kernel
theorem dX12_mayBuy_51 : decode cX12_mayBuy 51 = .ok (.iload_n 3, 1) := by decide +kernel
theorem dX12_mayBuy_52 : decode cX12_mayBuy 52 = .ok (.invokevirtual 224, 3) := by decide +kernel
theorem dX12_mayBuy_55 : decode cX12_mayBuy 55 = .ok (.iconst 1, 1) := by decide +kernel
theorem dX12_mayBuy_56 : decode cX12_mayBuy 56 = .ok (.if_icmp .ne 7, 3) := by decide +kernel
theorem dX12_mayBuy_59 : decode cX12_mayBuy 59 = .ok (.iconst 1, 1) := by decide +kernel
theorem dX12_mayBuy_60 : decode cX12_mayBuy 60 = .ok (.goto 4, 3) := by decide +kernel
theorem dX12_mayBuy_63 : decode cX12_mayBuy 63 = .ok (.iconst 0, 1) := by decide +kernel
theorem dX12_mayBuy_64 : decode cX12_mayBuy 64 = .ok (.ireturn, 1) := by decide +kernel
theorem dX12_buysOf_0 : decode cX12_buysOf 0 = .ok (.iconst (-1), 1) := by decide +kernel
theorem dX12_buysOf_1 : decode cX12_buysOf 1 = .ok (.istore_n 3, 1) := by decide +kernel
theorem dX12_buysOf_2 : decode cX12_buysOf 2 = .ok (.iconst 0, 1) := by decide +kernel
theorem dX12_buysOf_3 : decode cX12_buysOf 3 = .ok (.istore 4, 2) := by decide +kernel
theorem dX12_buysOf_5 : decode cX12_buysOf 5 = .ok (.iconst 0, 1) := by decide +kernel
theorem dX12_buysOf_6 : decode cX12_buysOf 6 = .ok (.istore 5, 2) := by decide +kernel
theorem dX12_buysOf_8 : decode cX12_buysOf 8 = .ok (.iload 5, 2) := by decide +kernel
theorem dX12_buysOf_10 : decode cX12_buysOf 10 = .ok (.aload_n 0, 1) := by decide +kernel
theorem dX12_buysOf_11 : decode cX12_buysOf 11 = .ok (.getfield 13, 3) := by decide +kernel
theorem dX12_buysOf_14 : decode cX12_buysOf 14 = .ok (.bipush 26, 2) := by decide +kernel
theorem dX12_buysOf_16 : decode cX12_buysOf 16 = .ok (.iaload, 1) := by decide +kernel
theorem dX12_buysOf_17 : decode cX12_buysOf 17 = .ok (.if_icmp .ge 59, 3) := by decide +kernel
theorem dX12_buysOf_20 : decode cX12_buysOf 20 = .ok (.aload_n 0, 1) := by decide +kernel
theorem dX12_buysOf_21 : decode cX12_buysOf 21 = .ok (.iload_n 2, 1) := by decide +kernel
theorem dX12_buysOf_22 : decode cX12_buysOf 22 = .ok (.invokevirtual 210, 3) := by decide +kernel
theorem dX12_buysOf_25 : decode cX12_buysOf 25 = .ok (.ifCond .ne 51, 3) := by decide +kernel
theorem dX12_buysOf_28 : decode cX12_buysOf 28 = .ok (.aload_n 0, 1) := by decide +kernel
theorem dX12_buysOf_29 : decode cX12_buysOf 29 = .ok (.iload_n 1, 1) := by decide +kernel
theorem dX12_buysOf_30 : decode cX12_buysOf 30 = .ok (.iload 5, 2) := by decide +kernel
theorem dX12_buysOf_32 : decode cX12_buysOf 32 = .ok (.iload_n 2, 1) := by decide +kernel
theorem dX12_buysOf_33 : decode cX12_buysOf 33 = .ok (.invokevirtual 232, 3) := by decide +kernel
theorem dX12_buysOf_36 : decode cX12_buysOf 36 = .ok (.ifCond .eq 14, 3) := by decide +kernel
theorem dX12_buysOf_39 : decode cX12_buysOf 39 = .ok (.aload_n 0, 1) := by decide +kernel
theorem dX12_buysOf_40 : decode cX12_buysOf 40 = .ok (.iload_n 1, 1) := by decide +kernel
theorem dX12_buysOf_41 : decode cX12_buysOf 41 = .ok (.iload 5, 2) := by decide +kernel
theorem dX12_buysOf_43 : decode cX12_buysOf 43 = .ok (.iload_n 2, 1) := by decide +kernel
theorem dX12_buysOf_44 : decode cX12_buysOf 44 = .ok (.invokevirtual 236, 3) := by decide +kernel
theorem dX12_buysOf_47 : decode cX12_buysOf 47 = .ok (.goto 4, 3) := by decide +kernel
theorem dX12_buysOf_50 : decode cX12_buysOf 50 = .ok (.iconst 0, 1) := by decide +kernel
theorem dX12_buysOf_51 : decode cX12_buysOf 51 = .ok (.istore 6, 2) := by decide +kernel
theorem dX12_buysOf_53 : decode cX12_buysOf 53 = .ok (.iload 6, 2) := by decide +kernel
theorem dX12_buysOf_55 : decode cX12_buysOf 55 = .ok (.iload 4, 2) := by decide +kernel
theorem dX12_buysOf_57 : decode cX12_buysOf 57 = .ok (.if_icmp .gt 6, 3) := by decide +kernel
theorem dX12_buysOf_60 : decode cX12_buysOf 60 = .ok (.goto 10, 3) := by decide +kernel
theorem dX12_buysOf_63 : decode cX12_buysOf 63 = .ok (.iload 5, 2) := by decide +kernel
theorem dX12_buysOf_65 : decode cX12_buysOf 65 = .ok (.istore_n 3, 1) := by decide +kernel
theorem dX12_buysOf_66 : decode cX12_buysOf 66 = .ok (.iload 6, 2) := by decide +kernel
theorem dX12_buysOf_68 : decode cX12_buysOf 68 = .ok (.istore 4, 2) := by decide +kernel
theorem dX12_buysOf_70 : decode cX12_buysOf 70 = .ok (.iinc 5 1, 3) := by decide +kernel
theorem dX12_buysOf_73 : decode cX12_buysOf 73 = .ok (.goto (-65), 3) := by decide +kernel
theorem dX12_buysOf_76 : decode cX12_buysOf 76 = .ok (.iload_n 3, 1) := by decide +kernel
theorem dX12_buysOf_77 : decode cX12_buysOf 77 = .ok (.ireturn, 1) := by decide +kernel
theorem dX12_buysNow_0 : decode cX12_buysNow 0 = .ok (.aload_n 0, 1) := by decide +kernel
theorem dX12_buysNow_1 : decode cX12_buysNow 1 = .ok (.iload_n 1, 1) := by decide +kernel
theorem dX12_buysNow_2 : decode cX12_buysNow 2 = .ok (.aload_n 0, 1) := by decide +kernel
theorem dX12_buysNow_3 : decode cX12_buysNow 3 = .ok (.getfield 13, 3) := by decide +kernel
theorem dX12_buysNow_6 : decode cX12_buysNow 6 = .ok (.bipush 27, 2) := by decide +kernel
theorem dX12_buysNow_8 : decode cX12_buysNow 8 = .ok (.iaload, 1) := by decide +kernel
theorem dX12_buysNow_9 : decode cX12_buysNow 9 = .ok (.invokevirtual 239, 3) := by decide +kernel
theorem dX12_buysNow_12 : decode cX12_buysNow 12 = .ok (.ireturn, 1) := by decide +kernel
theorem dX12_mayNow_0 : decode cX12_mayNow 0 = .ok (.iconst 0, 1) := by decide +kernel
theorem dX12_mayNow_1 : decode cX12_mayNow 1 = .ok (.istore_n 2, 1) := by decide +kernel
theorem dX12_mayNow_2 : decode cX12_mayNow 2 = .ok (.iconst 0, 1) := by decide +kernel
theorem dX12_mayNow_3 : decode cX12_mayNow 3 = .ok (.istore_n 3, 1) := by decide +kernel
theorem dX12_mayNow_4 : decode cX12_mayNow 4 = .ok (.iload_n 3, 1) := by decide +kernel
theorem dX12_mayNow_5 : decode cX12_mayNow 5 = .ok (.aload_n 0, 1) := by decide +kernel
theorem dX12_mayNow_6 : decode cX12_mayNow 6 = .ok (.getfield 13, 3) := by decide +kernel
theorem dX12_mayNow_9 : decode cX12_mayNow 9 = .ok (.bipush 26, 2) := by decide +kernel
theorem dX12_mayNow_11 : decode cX12_mayNow 11 = .ok (.iaload, 1) := by decide +kernel
theorem dX12_mayNow_12 : decode cX12_mayNow 12 = .ok (.if_icmp .ge 35, 3) := by decide +kernel
theorem dX12_mayNow_15 : decode cX12_mayNow 15 = .ok (.iload_n 2, 1) := by decide +kernel
theorem dX12_mayNow_16 : decode cX12_mayNow 16 = .ok (.aload_n 0, 1) := by decide +kernel
theorem dX12_mayNow_17 : decode cX12_mayNow 17 = .ok (.iload_n 1, 1) := by decide +kernel
theorem dX12_mayNow_18 : decode cX12_mayNow 18 = .ok (.iload_n 3, 1) := by decide +kernel
theorem dX12_mayNow_19 : decode cX12_mayNow 19 = .ok (.aload_n 0, 1) := by decide +kernel
theorem dX12_mayNow_20 : decode cX12_mayNow 20 = .ok (.getfield 13, 3) := by decide +kernel
theorem dX12_mayNow_23 : decode cX12_mayNow 23 = .ok (.bipush 27, 2) := by decide +kernel
theorem dX12_mayNow_25 : decode cX12_mayNow 25 = .ok (.iaload, 1) := by decide +kernel
theorem dX12_mayNow_26 : decode cX12_mayNow 26 = .ok (.invokevirtual 232, 3) := by decide +kernel
theorem dX12_mayNow_29 : decode cX12_mayNow 29 = .ok (.ifCond .eq 9, 3) := by decide +kernel
theorem dX12_mayNow_32 : decode cX12_mayNow 32 = .ok (.iconst 1, 1) := by decide +kernel
theorem dX12_mayNow_33 : decode cX12_mayNow 33 = .ok (.iload_n 3, 1) := by decide +kernel
theorem dX12_mayNow_34 : decode cX12_mayNow 34 = .ok (.ishl, 1) := by decide +kernel
theorem dX12_mayNow_35 : decode cX12_mayNow 35 = .ok (.goto 4, 3) := by decide +kernel
theorem dX12_mayNow_38 : decode cX12_mayNow 38 = .ok (.iconst 0, 1) := by decide +kernel
theorem dX12_mayNow_39 : decode cX12_mayNow 39 = .ok (.ior, 1) := by decide +kernel
theorem dX12_mayNow_40 : decode cX12_mayNow 40 = .ok (.istore_n 2, 1) := by decide +kernel
theorem dX12_mayNow_41 : decode cX12_mayNow 41 = .ok (.iinc 3 1, 3) := by decide +kernel
theorem dX12_mayNow_44 : decode cX12_mayNow 44 = .ok (.goto (-40), 3) := by decide +kernel
theorem dX12_mayNow_47 : decode cX12_mayNow 47 = .ok (.iload_n 2, 1) := by decide +kernel
theorem dX12_mayNow_48 : decode cX12_mayNow 48 = .ok (.ireturn, 1) := by decide +kernel
theorem dX12_whoBuys_0 : decode cX12_whoBuys 0 = .ok (.iconst 0, 1) := by decide +kernel
theorem dX12_whoBuys_1 : decode cX12_whoBuys 1 = .ok (.istore_n 2, 1) := by decide +kernel
theorem dX12_whoBuys_2 : decode cX12_whoBuys 2 = .ok (.iconst 0, 1) := by decide +kernel
theorem dX12_whoBuys_3 : decode cX12_whoBuys 3 = .ok (.istore_n 3, 1) := by decide +kernel
theorem dX12_whoBuys_4 : decode cX12_whoBuys 4 = .ok (.iload_n 3, 1) := by decide +kernel
theorem dX12_whoBuys_5 : decode cX12_whoBuys 5 = .ok (.aload_n 0, 1) := by decide +kernel
theorem dX12_whoBuys_6 : decode cX12_whoBuys 6 = .ok (.getfield 13, 3) := by decide +kernel
theorem dX12_whoBuys_9 : decode cX12_whoBuys 9 = .ok (.iconst 1, 1) := by decide +kernel
theorem dX12_whoBuys_10 : decode cX12_whoBuys 10 = .ok (.iaload, 1) := by decide +kernel
theorem dX12_whoBuys_11 : decode cX12_whoBuys 11 = .ok (.if_icmp .ge 28, 3) := by decide +kernel
theorem dX12_whoBuys_14 : decode cX12_whoBuys 14 = .ok (.iload_n 2, 1) := by decide +kernel
theorem dX12_whoBuys_15 : decode cX12_whoBuys 15 = .ok (.aload_n 0, 1) := by decide +kernel
theorem dX12_whoBuys_16 : decode cX12_whoBuys 16 = .ok (.iload_n 3, 1) := by decide +kernel
theorem dX12_whoBuys_17 : decode cX12_whoBuys 17 = .ok (.invokevirtual 242, 3) := by decide +kernel
theorem dX12_whoBuys_20 : decode cX12_whoBuys 20 = .ok (.iload_n 1, 1) := by decide +kernel
theorem dX12_whoBuys_21 : decode cX12_whoBuys 21 = .ok (.if_icmp .ne 9, 3) := by decide +kernel
theorem dX12_whoBuys_24 : decode cX12_whoBuys 24 = .ok (.iconst 1, 1) := by decide +kernel
theorem dX12_whoBuys_25 : decode cX12_whoBuys 25 = .ok (.iload_n 3, 1) := by decide +kernel
theorem dX12_whoBuys_26 : decode cX12_whoBuys 26 = .ok (.ishl, 1) := by decide +kernel
theorem dX12_whoBuys_27 : decode cX12_whoBuys 27 = .ok (.goto 4, 3) := by decide +kernel
theorem dX12_whoBuys_30 : decode cX12_whoBuys 30 = .ok (.iconst 0, 1) := by decide +kernel
theorem dX12_whoBuys_31 : decode cX12_whoBuys 31 = .ok (.ior, 1) := by decide +kernel
theorem dX12_whoBuys_32 : decode cX12_whoBuys 32 = .ok (.istore_n 2, 1) := by decide +kernel
theorem dX12_whoBuys_33 : decode cX12_whoBuys 33 = .ok (.iinc 3 1, 3) := by decide +kernel
theorem dX12_whoBuys_36 : decode cX12_whoBuys 36 = .ok (.goto (-32), 3) := by decide +kernel
theorem dX12_whoBuys_39 : decode cX12_whoBuys 39 = .ok (.iload_n 2, 1) := by decide +kernel
theorem dX12_whoBuys_40 : decode cX12_whoBuys 40 = .ok (.ireturn, 1) := by decide +kernel
theorem dX12_kind_0 : decode cX12_kind 0 = .ok (.aload_n 0, 1) := by decide +kernel
theorem dX12_kind_1 : decode cX12_kind 1 = .ok (.iconst 0, 1) := by decide +kernel
theorem dX12_kind_2 : decode cX12_kind 2 = .ok (.putfield 1, 3) := by decide +kernel
