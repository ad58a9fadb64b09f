theorem dX10_about_45 : decode cX10_about 45 = .ok (.goto (-25), 3) := by decide +kernel
theorem dX10_about_48 : decode cX10_about 48 = .ok (.iload_n 2, 1) := by decide +kernel
theorem dX10_about_49 : decode cX10_about 49 = .ok (.tableswitch 54 0 3 #[31, 38, 45, 52], 31) := by decide +kernel
theorem dX10_about_80 : decode cX10_about 80 = .ok (.aload_n 0, 1) := by decide +kernel
theorem dX10_about_81 : decode cX10_about 81 = .ok (.getfield 28, 3) := by decide +kernel
theorem dX10_about_84 : decode cX10_about 84 = .ok (.iload_n 1, 1) := by decide +kernel
theorem dX10_about_85 : decode cX10_about 85 = .ok (.iaload, 1) := by decide +kernel
theorem dX10_about_86 : decode cX10_about 86 = .ok (.ireturn, 1) := by decide +kernel
theorem dX10_about_87 : decode cX10_about 87 = .ok (.aload_n 0, 1) := by decide +kernel
theorem dX10_about_88 : decode cX10_about 88 = .ok (.getfield 31, 3) := by decide +kernel
theorem dX10_about_91 : decode cX10_about 91 = .ok (.iload_n 1, 1) := by decide +kernel
theorem dX10_about_92 : decode cX10_about 92 = .ok (.iaload, 1) := by decide +kernel
theorem dX10_about_93 : decode cX10_about 93 = .ok (.ireturn, 1) := by decide +kernel
theorem dX10_about_94 : decode cX10_about 94 = .ok (.aload_n 0, 1) := by decide +kernel
theorem dX10_about_95 : decode cX10_about 95 = .ok (.getfield 34, 3) := by decide +kernel
theorem dX10_about_98 : decode cX10_about 98 = .ok (.iload_n 1, 1) := by decide +kernel
theorem dX10_about_99 : decode cX10_about 99 = .ok (.iaload, 1) := by decide +kernel
theorem dX10_about_100 : decode cX10_about 100 = .ok (.ireturn, 1) := by decide +kernel
theorem dX10_about_101 : decode cX10_about 101 = .ok (.iload_n 3, 1) := by decide +kernel
theorem dX10_about_102 : decode cX10_about 102 = .ok (.ireturn, 1) := by decide +kernel
theorem dX10_about_103 : decode cX10_about 103 = .ok (.iconst (-1), 1) := by decide +kernel
theorem dX10_about_104 : decode cX10_about 104 = .ok (.ireturn, 1) := by decide +kernel
theorem dX10_price_0 : decode cX10_price 0 = .ok (.aload_n 0, 1) := by decide +kernel
theorem dX10_price_1 : decode cX10_price 1 = .ok (.iconst 0, 1) := by decide +kernel
theorem dX10_price_2 : decode cX10_price 2 = .ok (.putfield 73, 3) := by decide +kernel
theorem dX10_price_5 : decode cX10_price 5 = .ok (.aload_n 0, 1) := by decide +kernel
theorem dX10_price_6 : decode cX10_price 6 = .ok (.iload_n 1, 1) := by decide +kernel
theorem dX10_price_7 : decode cX10_price 7 = .ok (.invokevirtual 185, 3) := by decide +kernel
theorem dX10_price_10 : decode cX10_price 10 = .ok (.ifCond .eq 35, 3) := by decide +kernel
theorem dX10_price_13 : decode cX10_price 13 = .ok (.iload_n 2, 1) := by decide +kernel
theorem dX10_price_14 : decode cX10_price 14 = .ok (.aload_n 0, 1) := by decide +kernel
theorem dX10_price_15 : decode cX10_price 15 = .ok (.getfield 40, 3) := by decide +kernel
theorem dX10_price_18 : decode cX10_price 18 = .ok (.iload_n 1, 1) := by decide +kernel
theorem dX10_price_19 : decode cX10_price 19 = .ok (.iaload, 1) := by decide +kernel
theorem dX10_price_20 : decode cX10_price 20 = .ok (.if_icmp .lt 25, 3) := by decide +kernel
theorem dX10_price_23 : decode cX10_price 23 = .ok (.iload_n 2, 1) := by decide +kernel
theorem dX10_price_24 : decode cX10_price 24 = .ok (.aload_n 0, 1) := by decide +kernel
theorem dX10_price_25 : decode cX10_price 25 = .ok (.getfield 182, 3) := by decide +kernel
theorem dX10_price_28 : decode cX10_price 28 = .ok (.if_icmp .gt 17, 3) := by decide +kernel
theorem dX10_price_31 : decode cX10_price 31 = .ok (.aload_n 0, 1) := by decide +kernel
theorem dX10_price_32 : decode cX10_price 32 = .ok (.getfield 37, 3) := by decide +kernel
theorem dX10_price_35 : decode cX10_price 35 = .ok (.bipush 50, 2) := by decide +kernel
theorem dX10_price_37 : decode cX10_price 37 = .ok (.iload_n 1, 1) := by decide +kernel
theorem dX10_price_38 : decode cX10_price 38 = .ok (.imul, 1) := by decide +kernel
theorem dX10_price_39 : decode cX10_price 39 = .ok (.iload_n 2, 1) := by decide +kernel
theorem dX10_price_40 : decode cX10_price 40 = .ok (.iadd, 1) := by decide +kernel
theorem dX10_price_41 : decode cX10_price 41 = .ok (.iaload, 1) := by decide +kernel
theorem dX10_price_42 : decode cX10_price 42 = .ok (.goto 4, 3) := by decide +kernel
theorem dX10_price_45 : decode cX10_price 45 = .ok (.iconst (-1), 1) := by decide +kernel
theorem dX10_price_46 : decode cX10_price 46 = .ok (.ireturn, 1) := by decide +kernel
theorem dX10_isKept_0 : decode cX10_isKept 0 = .ok (.aload_n 0, 1) := by decide +kernel
theorem dX10_isKept_1 : decode cX10_isKept 1 = .ok (.getfield 43, 3) := by decide +kernel
theorem dX10_isKept_4 : decode cX10_isKept 4 = .ok (.iload_n 1, 1) := by decide +kernel
theorem dX10_isKept_5 : decode cX10_isKept 5 = .ok (.iaload, 1) := by decide +kernel
theorem dX10_isKept_6 : decode cX10_isKept 6 = .ok (.i2l, 1) := by decide +kernel
theorem dX10_isKept_7 : decode cX10_isKept 7 = .ok (.lstore_n 2, 1) := by decide +kernel
theorem dX10_isKept_8 : decode cX10_isKept 8 = .ok (.iconst 0, 1) := by decide +kernel
theorem dX10_isKept_9 : decode cX10_isKept 9 = .ok (.istore 4, 2) := by decide +kernel
theorem dX10_isKept_11 : decode cX10_isKept 11 = .ok (.iload 4, 2) := by decide +kernel
theorem dX10_isKept_13 : decode cX10_isKept 13 = .ok (.aload_n 0, 1) := by decide +kernel
theorem dX10_isKept_14 : decode cX10_isKept 14 = .ok (.getfield 163, 3) := by decide +kernel
theorem dX10_isKept_17 : decode cX10_isKept 17 = .ok (.if_icmp .ge 34, 3) := by decide +kernel
theorem dX10_isKept_20 : decode cX10_isKept 20 = .ok (.lload_n 2, 1) := by decide +kernel
theorem dX10_isKept_21 : decode cX10_isKept 21 = .ok (.aload_n 0, 1) := by decide +kernel
theorem dX10_isKept_22 : decode cX10_isKept 22 = .ok (.getfield 61, 3) := by decide +kernel
theorem dX10_isKept_25 : decode cX10_isKept 25 = .ok (.bipush 10, 2) := by decide +kernel
theorem dX10_isKept_27 : decode cX10_isKept 27 = .ok (.iload_n 1, 1) := by decide +kernel
theorem dX10_isKept_28 : decode cX10_isKept 28 = .ok (.imul, 1) := by decide +kernel
theorem dX10_isKept_29 : decode cX10_isKept 29 = .ok (.iload 4, 2) := by decide +kernel
theorem dX10_isKept_31 : decode cX10_isKept 31 = .ok (.iadd, 1) := by decide +kernel
theorem dX10_isKept_32 : decode cX10_isKept 32 = .ok (.iaload, 1) := by decide +kernel
theorem dX10_isKept_33 : decode cX10_isKept 33 = .ok (.i2l, 1) := by decide +kernel
theorem dX10_isKept_34 : decode cX10_isKept 34 = .ok (.aload_n 0, 1) := by decide +kernel
theorem dX10_isKept_35 : decode cX10_isKept 35 = .ok (.getfield 34, 3) := by decide +kernel
theorem dX10_isKept_38 : decode cX10_isKept 38 = .ok (.iload 4, 2) := by decide +kernel
theorem dX10_isKept_40 : decode cX10_isKept 40 = .ok (.iaload, 1) := by decide +kernel
theorem dX10_isKept_41 : decode cX10_isKept 41 = .ok (.i2l, 1) := by decide +kernel
theorem dX10_isKept_42 : decode cX10_isKept 42 = .ok (.lmul, 1) := by decide +kernel
theorem dX10_isKept_43 : decode cX10_isKept 43 = .ok (.ladd, 1) := by decide +kernel
theorem dX10_isKept_44 : decode cX10_isKept 44 = .ok (.lstore_n 2, 1) := by decide +kernel
theorem dX10_isKept_45 : decode cX10_isKept 45 = .ok (.iinc 4 1, 3) := by decide +kernel
theorem dX10_isKept_48 : decode cX10_isKept 48 = .ok (.goto (-37), 3) := by decide +kernel
theorem dX10_isKept_51 : decode cX10_isKept 51 = .ok (.ldc2_w 207, 3) := by decide +kernel
theorem dX10_isKept_54 : decode cX10_isKept 54 = .ok (.lload_n 2, 1) := by decide +kernel
theorem dX10_isKept_55 : decode cX10_isKept 55 = .ok (.lmul, 1) := by decide +kernel
theorem dX10_isKept_56 : decode cX10_isKept 56 = .ok (.aload_n 0, 1) := by decide +kernel
theorem dX10_isKept_57 : decode cX10_isKept 57 = .ok (.getfield 49, 3) := by decide +kernel
theorem dX10_isKept_60 : decode cX10_isKept 60 = .ok (.iload_n 1, 1) := by decide +kernel
theorem dX10_isKept_61 : decode cX10_isKept 61 = .ok (.bipush 24, 2) := by decide +kernel
theorem dX10_isKept_63 : decode cX10_isKept 63 = .ok (.isub, 1) := by decide +kernel
theorem dX10_isKept_64 : decode cX10_isKept 64 = .ok (.iaload, 1) := by decide +kernel
theorem dX10_isKept_65 : decode cX10_isKept 65 = .ok (.i2l, 1) := by decide +kernel
theorem dX10_isKept_66 : decode cX10_isKept 66 = .ok (.aload_n 0, 1) := by decide +kernel
theorem dX10_isKept_67 : decode cX10_isKept 67 = .ok (.getfield 52, 3) := by decide +kernel
theorem dX10_isKept_70 : decode cX10_isKept 70 = .ok (.iload_n 1, 1) := by decide +kernel
theorem dX10_isKept_71 : decode cX10_isKept 71 = .ok (.bipush 24, 2) := by decide +kernel
theorem dX10_isKept_73 : decode cX10_isKept 73 = .ok (.isub, 1) := by decide +kernel
theorem dX10_isKept_74 : decode cX10_isKept 74 = .ok (.iaload, 1) := by decide +kernel
theorem dX10_isKept_75 : decode cX10_isKept 75 = .ok (.i2l, 1) := by decide +kernel
theorem dX10_isKept_76 : decode cX10_isKept 76 = .ok (.lmul, 1) := by decide +kernel
theorem dX10_isKept_77 : decode cX10_isKept 77 = .ok (.lcmp, 1) := by decide +kernel
theorem dX10_isKept_78 : decode cX10_isKept 78 = .ok (.ifCond .lt 7, 3) := by decide +kernel
theorem dX10_isKept_81 : decode cX10_isKept 81 = .ok (.iconst 1, 1) := by decide +kernel
theorem dX10_isKept_82 : decode cX10_isKept 82 = .ok (.goto 4, 3) := by decide +kernel
theorem dX10_isKept_85 : decode cX10_isKept 85 = .ok (.iconst 0, 1) := by decide +kernel
theorem dX10_isKept_86 : decode cX10_isKept 86 = .ok (.ireturn, 1) := by decide +kernel
theorem dX10_purse_0 : decode cX10_purse 0 = .ok (.aload_n 0, 1) := by decide +kernel
theorem dX10_purse_1 : decode cX10_purse 1 = .ok (.iload_n 1, 1) := by decide +kernel
theorem dX10_purse_2 : decode cX10_purse 2 = .ok (.invokevirtual 191, 3) := by decide +kernel
theorem dX10_purse_5 : decode cX10_purse 5 = .ok (.ifCond .eq 12, 3) := by decide +kernel
theorem dX10_purse_8 : decode cX10_purse 8 = .ok (.iload_n 2, 1) := by decide +kernel
theorem dX10_purse_9 : decode cX10_purse 9 = .ok (.ifCond .lt 8, 3) := by decide +kernel
theorem dX10_purse_12 : decode cX10_purse 12 = .ok (.iload_n 2, 1) := by decide +kernel
theorem dX10_purse_13 : decode cX10_purse 13 = .ok (.iconst 4, 1) := by decide +kernel
theorem dX10_purse_14 : decode cX10_purse 14 = .ok (.if_icmp .le 8, 3) := by decide +kernel
theorem dX10_purse_17 : decode cX10_purse 17 = .ok (.aload_n 0, 1) := by decide +kernel
theorem dX10_purse_18 : decode cX10_purse 18 = .ok (.invokevirtual 209, 3) := by decide +kernel
theorem dX10_purse_21 : decode cX10_purse 21 = .ok (.ireturn, 1) := by decide +kernel
theorem dX10_purse_22 : decode cX10_purse 22 = .ok (.aload_n 0, 1) := by decide +kernel
theorem dX10_purse_23 : decode cX10_purse 23 = .ok (.iconst 0, 1) := by decide +kernel
theorem dX10_purse_24 : decode cX10_purse 24 = .ok (.putfield 73, 3) := by decide +kernel
theorem dX10_purse_27 : decode cX10_purse 27 = .ok (.iconst 0, 1) := by decide +kernel
theorem dX10_purse_28 : decode cX10_purse 28 = .ok (.istore_n 3, 1) := by decide +kernel
theorem dX10_purse_29 : decode cX10_purse 29 = .ok (.iconst 0, 1) := by decide +kernel
theorem dX10_purse_30 : decode cX10_purse 30 = .ok (.istore 4, 2) := by decide +kernel
theorem dX10_purse_32 : decode cX10_purse 32 = .ok (.iload 4, 2) := by decide +kernel
theorem dX10_purse_34 : decode cX10_purse 34 = .ok (.aload_n 0, 1) := by decide +kernel
theorem dX10_purse_35 : decode cX10_purse 35 = .ok (.getfield 163, 3) := by decide +kernel
theorem dX10_purse_38 : decode cX10_purse 38 = .ok (.if_icmp .ge 24, 3) := by decide +kernel
theorem dX10_purse_41 : decode cX10_purse 41 = .ok (.iload_n 3, 1) := by decide +kernel
theorem dX10_purse_42 : decode cX10_purse 42 = .ok (.aload_n 0, 1) := by decide +kernel
theorem dX10_purse_43 : decode cX10_purse 43 = .ok (.getfield 61, 3) := by decide +kernel
theorem dX10_purse_46 : decode cX10_purse 46 = .ok (.bipush 10, 2) := by decide +kernel
theorem dX10_purse_48 : decode cX10_purse 48 = .ok (.iload_n 1, 1) := by decide +kernel
theorem dX10_purse_49 : decode cX10_purse 49 = .ok (.imul, 1) := by decide +kernel
theorem dX10_purse_50 : decode cX10_purse 50 = .ok (.iload 4, 2) := by decide +kernel
theorem dX10_purse_52 : decode cX10_purse 52 = .ok (.iadd, 1) := by decide +kernel
theorem dX10_purse_53 : decode cX10_purse 53 = .ok (.iaload, 1) := by decide +kernel
theorem dX10_purse_54 : decode cX10_purse 54 = .ok (.iadd, 1) := by decide +kernel
theorem dX10_purse_55 : decode cX10_purse 55 = .ok (.istore_n 3, 1) := by decide +kernel
theorem dX10_purse_56 : decode cX10_purse 56 = .ok (.iinc 4 1, 3) := by decide +kernel
theorem dX10_purse_59 : decode cX10_purse 59 = .ok (.goto (-27), 3) := by decide +kernel
theorem dX10_purse_62 : decode cX10_purse 62 = .ok (.iload_n 2, 1) := by decide +kernel
theorem dX10_purse_63 : decode cX10_purse 63 = .ok (.tableswitch 90 0 3 #[29, 36, 42, 64], 29) := by decide +kernel
theorem dX10_purse_92 : decode cX10_purse 92 = .ok (.aload_n 0, 1) := by decide +kernel
theorem dX10_purse_93 : decode cX10_purse 93 = .ok (.getfield 43, 3) := by decide +kernel
theorem dX10_purse_96 : decode cX10_purse 96 = .ok (.iload_n 1, 1) := by decide +kernel
theorem dX10_purse_97 : decode cX10_purse 97 = .ok (.iaload, 1) := by decide +kernel
theorem dX10_purse_98 : decode cX10_purse 98 = .ok (.ireturn, 1) := by decide +kernel
theorem dX10_purse_99 : decode cX10_purse 99 = .ok (.aload_n 0, 1) := by decide +kernel
theorem dX10_purse_100 : decode cX10_purse 100 = .ok (.iload_n 1, 1) := by decide +kernel
theorem dX10_purse_101 : decode cX10_purse 101 = .ok (.invokevirtual 188, 3) := by decide +kernel
theorem dX10_purse_104 : decode cX10_purse 104 = .ok (.ireturn, 1) := by decide +kernel
theorem dX10_purse_105 : decode cX10_purse 105 = .ok (.aload_n 0, 1) := by decide +kernel
theorem dX10_purse_106 : decode cX10_purse 106 = .ok (.iload_n 1, 1) := by decide +kernel
theorem dX10_purse_107 : decode cX10_purse 107 = .ok (.invokevirtual 175, 3) := by decide +kernel
theorem dX10_purse_110 : decode cX10_purse 110 = .ok (.ifCond .eq 15, 3) := by decide +kernel
theorem dX10_purse_113 : decode cX10_purse 113 = .ok (.aload_n 0, 1) := by decide +kernel
theorem dX10_purse_114 : decode cX10_purse 114 = .ok (.getfield 52, 3) := by decide +kernel
theorem dX10_purse_117 : decode cX10_purse 117 = .ok (.iload_n 1, 1) := by decide +kernel
theorem dX10_purse_118 : decode cX10_purse 118 = .ok (.bipush 24, 2) := by decide +kernel
theorem dX10_purse_120 : decode cX10_purse 120 = .ok (.isub, 1) := by decide +kernel
theorem dX10_purse_121 : decode cX10_purse 121 = .ok (.iaload, 1) := by decide +kernel
theorem dX10_purse_122 : decode cX10_purse 122 = .ok (.goto 4, 3) := by decide +kernel
theorem dX10_purse_125 : decode cX10_purse 125 = .ok (.iconst (-1), 1) := by decide +kernel
theorem dX10_purse_126 : decode cX10_purse 126 = .ok (.ireturn, 1) := by decide +kernel
theorem dX10_purse_127 : decode cX10_purse 127 = .ok (.aload_n 0, 1) := by decide +kernel
theorem dX10_purse_128 : decode cX10_purse 128 = .ok (.iload_n 1, 1) := by decide +kernel
theorem dX10_purse_129 : decode cX10_purse 129 = .ok (.invokevirtual 175, 3) := by decide +kernel
theorem dX10_purse_132 : decode cX10_purse 132 = .ok (.ifCond .ne 7, 3) := by decide +kernel
theorem dX10_purse_135 : decode cX10_purse 135 = .ok (.iconst (-1), 1) := by decide +kernel
theorem dX10_purse_136 : decode cX10_purse 136 = .ok (.goto 16, 3) := by decide +kernel
theorem dX10_purse_139 : decode cX10_purse 139 = .ok (.aload_n 0, 1) := by decide +kernel
theorem dX10_purse_140 : decode cX10_purse 140 = .ok (.iload_n 1, 1) := by decide +kernel
theorem dX10_purse_141 : decode cX10_purse 141 = .ok (.invokevirtual 212, 3) := by decide +kernel
theorem dX10_purse_144 : decode cX10_purse 144 = .ok (.ifCond .eq 7, 3) := by decide +kernel
theorem dX10_purse_147 : decode cX10_purse 147 = .ok (.iconst 1, 1) := by decide +kernel
theorem dX10_purse_148 : decode cX10_purse 148 = .ok (.goto 4, 3) := by decide +kernel
theorem dX10_purse_151 : decode cX10_purse 151 = .ok (.iconst 0, 1) := by decide +kernel
theorem dX10_purse_152 : decode cX10_purse 152 = .ok (.ireturn, 1) := by decide +kernel
theorem dX10_purse_153 : decode cX10_purse 153 = .ok (.iload_n 3, 1) := by decide +kernel
theorem dX10_purse_154 : decode cX10_purse 154 = .ok (.ireturn, 1) := by decide +kernel
theorem dX10_heldAsOf_0 : decode cX10_heldAsOf 0 = .ok (.iload_n 3, 1) := by decide +kernel
theorem dX10_heldAsOf_1 : decode cX10_heldAsOf 1 = .ok (.aload_n 0, 1) := by decide +kernel
theorem dX10_heldAsOf_2 : decode cX10_heldAsOf 2 = .ok (.getfield 182, 3) := by decide +kernel
theorem dX10_heldAsOf_5 : decode cX10_heldAsOf 5 = .ok (.if_icmp .ne 17, 3) := by decide +kernel
theorem dX10_heldAsOf_8 : decode cX10_heldAsOf 8 = .ok (.aload_n 0, 1) := by decide +kernel
theorem dX10_heldAsOf_9 : decode cX10_heldAsOf 9 = .ok (.getfield 61, 3) := by decide +kernel
theorem dX10_heldAsOf_12 : decode cX10_heldAsOf 12 = .ok (.bipush 10, 2) := by decide +kernel
theorem dX10_heldAsOf_14 : decode cX10_heldAsOf 14 = .ok (.iload_n 1, 1) := by decide +kernel
theorem dX10_heldAsOf_15 : decode cX10_heldAsOf 15 = .ok (.imul, 1) := by decide +kernel
theorem dX10_heldAsOf_16 : decode cX10_heldAsOf 16 = .ok (.iload_n 2, 1) := by decide +kernel
theorem dX10_heldAsOf_17 : decode cX10_heldAsOf 17 = .ok (.iadd, 1) := by decide +kernel
theorem dX10_heldAsOf_18 : decode cX10_heldAsOf 18 = .ok (.iaload, 1) := by decide +kernel
theorem dX10_heldAsOf_19 : decode cX10_heldAsOf 19 = .ok (.goto 20, 3) := by decide +kernel
theorem dX10_heldAsOf_22 : decode cX10_heldAsOf 22 = .ok (.aload_n 0, 1) := by decide +kernel
theorem dX10_heldAsOf_23 : decode cX10_heldAsOf 23 = .ok (.getfield 64, 3) := by decide +kernel
theorem dX10_heldAsOf_26 : decode cX10_heldAsOf 26 = .ok (.sipush 280, 3) := by decide +kernel
theorem dX10_heldAsOf_29 : decode cX10_heldAsOf 29 = .ok (.iload_n 3, 1) := by decide +kernel
theorem dX10_heldAsOf_30 : decode cX10_heldAsOf 30 = .ok (.imul, 1) := by decide +kernel
theorem dX10_heldAsOf_31 : decode cX10_heldAsOf 31 = .ok (.bipush 10, 2) := by decide +kernel
theorem dX10_heldAsOf_33 : decode cX10_heldAsOf 33 = .ok (.iload_n 1, 1) := by decide +kernel
theorem dX10_heldAsOf_34 : decode cX10_heldAsOf 34 = .ok (.imul, 1) := by decide +kernel
theorem dX10_heldAsOf_35 : decode cX10_heldAsOf 35 = .ok (.iadd, 1) := by decide +kernel
theorem dX10_heldAsOf_36 : decode cX10_heldAsOf 36 = .ok (.iload_n 2, 1) := by decide +kernel
theorem dX10_heldAsOf_37 : decode cX10_heldAsOf 37 = .ok (.iadd, 1) := by decide +kernel
theorem dX10_heldAsOf_38 : decode cX10_heldAsOf 38 = .ok (.iaload, 1) := by decide +kernel
theorem dX10_heldAsOf_39 : decode cX10_heldAsOf 39 = .ok (.ireturn, 1) := by decide +kernel
theorem dX10_isRound_0 : decode cX10_isRound 0 = .ok (.iload_n 1, 1) := by decide +kernel
theorem dX10_isRound_1 : decode cX10_isRound 1 = .ok (.ifCond .lt 15, 3) := by decide +kernel
theorem dX10_isRound_4 : decode cX10_isRound 4 = .ok (.iload_n 1, 1) := by decide +kernel
theorem dX10_isRound_5 : decode cX10_isRound 5 = .ok (.aload_n 0, 1) := by decide +kernel
theorem dX10_isRound_6 : decode cX10_isRound 6 = .ok (.getfield 182, 3) := by decide +kernel
theorem dX10_isRound_9 : decode cX10_isRound 9 = .ok (.if_icmp .gt 7, 3) := by decide +kernel
theorem dX10_isRound_12 : decode cX10_isRound 12 = .ok (.iconst 1, 1) := by decide +kernel
theorem dX10_isRound_13 : decode cX10_isRound 13 = .ok (.goto 4, 3) := by decide +kernel
theorem dX10_isRound_16 : decode cX10_isRound 16 = .ok (.iconst 0, 1) := by decide +kernel
theorem dX10_isRound_17 : decode cX10_isRound 17 = .ok (.ireturn, 1) := by decide +kernel
theorem dX10_holds_0 : decode cX10_holds 0 = .ok (.aload_n 0, 1) := by decide +kernel
theorem dX10_holds_1 : decode cX10_holds 1 = .ok (.iconst 0, 1) := by decide +kernel
theorem dX10_holds_2 : decode cX10_holds 2 = .ok (.putfield 73, 3) := by decide +kernel
theorem dX10_holds_5 : decode cX10_holds 5 = .ok (.aload_n 0, 1) := by decide +kernel
theorem dX10_holds_6 : decode cX10_holds 6 = .ok (.iload_n 1, 1) := by decide +kernel
theorem dX10_holds_7 : decode cX10_holds 7 = .ok (.invokevirtual 191, 3) := by decide +kernel
theorem dX10_holds_10 : decode cX10_holds 10 = .ok (.ifCond .eq 29, 3) := by decide +kernel
theorem dX10_holds_13 : decode cX10_holds 13 = .ok (.aload_n 0, 1) := by decide +kernel
theorem dX10_holds_14 : decode cX10_holds 14 = .ok (.iload_n 2, 1) := by decide +kernel
theorem dX10_holds_15 : decode cX10_holds 15 = .ok (.invokevirtual 185, 3) := by decide +kernel
theorem dX10_holds_18 : decode cX10_holds 18 = .ok (.ifCond .eq 21, 3) := by decide +kernel
theorem dX10_holds_21 : decode cX10_holds 21 = .ok (.aload_n 0, 1) := by decide +kernel
theorem dX10_holds_22 : decode cX10_holds 22 = .ok (.iload_n 3, 1) := by decide +kernel
theorem dX10_holds_23 : decode cX10_holds 23 = .ok (.invokevirtual 215, 3) := by decide +kernel
theorem dX10_holds_26 : decode cX10_holds 26 = .ok (.ifCond .eq 13, 3) := by decide +kernel
theorem dX10_holds_29 : decode cX10_holds 29 = .ok (.aload_n 0, 1) := by decide +kernel
theorem dX10_holds_30 : decode cX10_holds 30 = .ok (.iload_n 1, 1) := by decide +kernel
theorem dX10_holds_31 : decode cX10_holds 31 = .ok (.iload_n 2, 1) := by decide +kernel
theorem dX10_holds_32 : decode cX10_holds 32 = .ok (.iload_n 3, 1) := by decide +kernel
theorem dX10_holds_33 : decode cX10_holds 33 = .ok (.invokevirtual 218, 3) := by decide +kernel
theorem dX10_holds_36 : decode cX10_holds 36 = .ok (.goto 4, 3) := by decide +kernel
theorem dX10_holds_39 : decode cX10_holds 39 = .ok (.iconst (-1), 1) := by decide +kernel
theorem dX10_holds_40 : decode cX10_holds 40 = .ok (.ireturn, 1) := by decide +kernel
theorem dX10_asks_0 : decode cX10_asks 0 = .ok (.aload_n 0, 1) := by decide +kernel
theorem dX10_asks_1 : decode cX10_asks 1 = .ok (.iconst 0, 1) := by decide +kernel
theorem dX10_asks_2 : decode cX10_asks 2 = .ok (.putfield 73, 3) := by decide +kernel
theorem dX10_asks_5 : decode cX10_asks 5 = .ok (.aload_n 0, 1) := by decide +kernel
theorem dX10_asks_6 : decode cX10_asks 6 = .ok (.iload_n 1, 1) := by decide +kernel
theorem dX10_asks_7 : decode cX10_asks 7 = .ok (.invokevirtual 191, 3) := by decide +kernel
theorem dX10_asks_10 : decode cX10_asks 10 = .ok (.ifCond .eq 25, 3) := by decide +kernel
theorem dX10_asks_13 : decode cX10_asks 13 = .ok (.aload_n 0, 1) := by decide +kernel
theorem dX10_asks_14 : decode cX10_asks 14 = .ok (.iload_n 2, 1) := by decide +kernel
theorem dX10_asks_15 : decode cX10_asks 15 = .ok (.invokevirtual 185, 3) := by decide +kernel
theorem dX10_asks_18 : decode cX10_asks 18 = .ok (.ifCond .eq 17, 3) := by decide +kernel
theorem dX10_asks_21 : decode cX10_asks 21 = .ok (.aload_n 0, 1) := by decide +kernel
theorem dX10_asks_22 : decode cX10_asks 22 = .ok (.getfield 58, 3) := by decide +kernel
theorem dX10_asks_25 : decode cX10_asks 25 = .ok (.bipush 10, 2) := by decide +kernel
theorem dX10_asks_27 : decode cX10_asks 27 = .ok (.iload_n 1, 1) := by decide +kernel
theorem dX10_asks_28 : decode cX10_asks 28 = .ok (.imul, 1) := by decide +kernel
theorem dX10_asks_29 : decode cX10_asks 29 = .ok (.iload_n 2, 1) := by decide +kernel
theorem dX10_asks_30 : decode cX10_asks 30 = .ok (.iadd, 1) := by decide +kernel
theorem dX10_asks_31 : decode cX10_asks 31 = .ok (.iaload, 1) := by decide +kernel
theorem dX10_asks_32 : decode cX10_asks 32 = .ok (.goto 4, 3) := by decide +kernel
theorem dX10_asks_35 : decode cX10_asks 35 = .ok (.iconst (-1), 1) := by decide +kernel
theorem dX10_asks_36 : decode cX10_asks 36 = .ok (.ireturn, 1) := by decide +kernel
theorem dX10_common_0 : decode cX10_common 0 = .ok (.lload_n 0, 1) := by decide +kernel
theorem dX10_common_1 : decode cX10_common 1 = .ok (.lstore 4, 2) := by decide +kernel
theorem dX10_common_3 : decode cX10_common 3 = .ok (.lload_n 2, 1) := by decide +kernel
theorem dX10_common_4 : decode cX10_common 4 = .ok (.lstore 6, 2) := by decide +kernel
theorem dX10_common_6 : decode cX10_common 6 = .ok (.lload 6, 2) := by decide +kernel
theorem dX10_common_8 : decode cX10_common 8 = .ok (.lconst 0, 1) := by decide +kernel
theorem dX10_common_9 : decode cX10_common 9 = .ok (.lcmp, 1) := by decide +kernel
theorem dX10_common_10 : decode cX10_common 10 = .ok (.ifCond .eq 21, 3) := by decide +kernel
theorem dX10_common_13 : decode cX10_common 13 = .ok (.lload 4, 2) := by decide +kernel
theorem dX10_common_15 : decode cX10_common 15 = .ok (.lload 6, 2) := by decide +kernel
theorem dX10_common_17 : decode cX10_common 17 = .ok (.lrem, 1) := by decide +kernel
theorem dX10_common_18 : decode cX10_common 18 = .ok (.lstore 8, 2) := by decide +kernel
theorem dX10_common_20 : decode cX10_common 20 = .ok (.lload 6, 2) := by decide +kernel
theorem dX10_common_22 : decode cX10_common 22 = .ok (.lstore 4, 2) := by decide +kernel
theorem dX10_common_24 : decode cX10_common 24 = .ok (.lload 8, 2) := by decide +kernel
theorem dX10_common_26 : decode cX10_common 26 = .ok (.lstore 6, 2) := by decide +kernel
theorem dX10_common_28 : decode cX10_common 28 = .ok (.goto (-22), 3) := by decide +kernel
theorem dX10_common_31 : decode cX10_common 31 = .ok (.lload 4, 2) := by decide +kernel
theorem dX10_common_33 : decode cX10_common 33 = .ok (.lreturn, 1) := by decide +kernel
theorem dX10_owned_0 : decode cX10_owned 0 = .ok (.aload_n 0, 1) := by decide +kernel
theorem dX10_owned_1 : decode cX10_owned 1 = .ok (.iload_n 1, 1) := by decide +kernel
theorem dX10_owned_2 : decode cX10_owned 2 = .ok (.invokevirtual 172, 3) := by decide +kernel
theorem dX10_owned_5 : decode cX10_owned 5 = .ok (.ifCond .eq 30, 3) := by decide +kernel
theorem dX10_owned_8 : decode cX10_owned 8 = .ok (.aload_n 0, 1) := by decide +kernel
theorem dX10_owned_9 : decode cX10_owned 9 = .ok (.iload_n 2, 1) := by decide +kernel
theorem dX10_owned_10 : decode cX10_owned 10 = .ok (.invokevirtual 185, 3) := by decide +kernel
theorem dX10_owned_13 : decode cX10_owned 13 = .ok (.ifCond .eq 22, 3) := by decide +kernel
theorem dX10_owned_16 : decode cX10_owned 16 = .ok (.aload_n 0, 1) := by decide +kernel
theorem dX10_owned_17 : decode cX10_owned 17 = .ok (.iload_n 3, 1) := by decide +kernel
theorem dX10_owned_18 : decode cX10_owned 18 = .ok (.invokevirtual 215, 3) := by decide +kernel
theorem dX10_owned_21 : decode cX10_owned 21 = .ok (.ifCond .eq 14, 3) := by decide +kernel
theorem dX10_owned_24 : decode cX10_owned 24 = .ok (.iload 4, 2) := by decide +kernel
theorem dX10_owned_26 : decode cX10_owned 26 = .ok (.ifCond .lt 9, 3) := by decide +kernel
theorem dX10_owned_29 : decode cX10_owned 29 = .ok (.iload 4, 2) := by decide +kernel
theorem dX10_owned_31 : decode cX10_owned 31 = .ok (.iconst 1, 1) := by decide +kernel
theorem dX10_owned_32 : decode cX10_owned 32 = .ok (.if_icmp .le 9, 3) := by decide +kernel
theorem dX10_owned_35 : decode cX10_owned 35 = .ok (.aload_n 0, 1) := by decide +kernel
theorem dX10_owned_36 : decode cX10_owned 36 = .ok (.invokevirtual 209, 3) := by decide +kernel
theorem dX10_owned_39 : decode cX10_owned 39 = .ok (.i2l, 1) := by decide +kernel
theorem dX10_owned_40 : decode cX10_owned 40 = .ok (.lreturn, 1) := by decide +kernel
theorem dX10_owned_41 : decode cX10_owned 41 = .ok (.aload_n 0, 1) := by decide +kernel
theorem dX10_owned_42 : decode cX10_owned 42 = .ok (.iconst 0, 1) := by decide +kernel
theorem dX10_owned_43 : decode cX10_owned 43 = .ok (.putfield 73, 3) := by decide +kernel
theorem dX10_owned_46 : decode cX10_owned 46 = .ok (.aload_n 0, 1) := by decide +kernel
theorem dX10_owned_47 : decode cX10_owned 47 = .ok (.iload_n 1, 1) := by decide +kernel
theorem dX10_owned_48 : decode cX10_owned 48 = .ok (.iload_n 2, 1) := by decide +kernel
theorem dX10_owned_49 : decode cX10_owned 49 = .ok (.iload_n 3, 1) := by decide +kernel
theorem dX10_owned_50 : decode cX10_owned 50 = .ok (.invokevirtual 218, 3) := by decide +kernel
theorem dX10_owned_53 : decode cX10_owned 53 = .ok (.i2l, 1) := by decide +kernel
theorem dX10_owned_54 : decode cX10_owned 54 = .ok (.lstore 5, 2) := by decide +kernel
theorem dX10_owned_56 : decode cX10_owned 56 = .ok (.lconst 1, 1) := by decide +kernel
theorem dX10_owned_57 : decode cX10_owned 57 = .ok (.lstore 7, 2) := by decide +kernel
theorem dX10_owned_59 : decode cX10_owned 59 = .ok (.iconst 0, 1) := by decide +kernel
theorem dX10_owned_60 : decode cX10_owned 60 = .ok (.istore 9, 2) := by decide +kernel
theorem dX10_owned_62 : decode cX10_owned 62 = .ok (.iload 9, 2) := by decide +kernel
theorem dX10_owned_64 : decode cX10_owned 64 = .ok (.aload_n 0, 1) := by decide +kernel
theorem dX10_owned_65 : decode cX10_owned 65 = .ok (.getfield 169, 3) := by decide +kernel
theorem dX10_owned_68 : decode cX10_owned 68 = .ok (.if_icmp .ge 115, 3) := by decide +kernel
theorem dX10_owned_71 : decode cX10_owned 71 = .ok (.aload_n 0, 1) := by decide +kernel
theorem dX10_owned_72 : decode cX10_owned 72 = .ok (.bipush 24, 2) := by decide +kernel
theorem dX10_owned_74 : decode cX10_owned 74 = .ok (.iload 9, 2) := by decide +kernel
theorem dX10_owned_76 : decode cX10_owned 76 = .ok (.iadd, 1) := by decide +kernel
theorem dX10_owned_77 : decode cX10_owned 77 = .ok (.iload_n 2, 1) := by decide +kernel
theorem dX10_owned_78 : decode cX10_owned 78 = .ok (.iload_n 3, 1) := by decide +kernel
theorem dX10_owned_79 : decode cX10_owned 79 = .ok (.invokevirtual 218, 3) := by decide +kernel
theorem dX10_owned_82 : decode cX10_owned 82 = .ok (.i2l, 1) := by decide +kernel
theorem dX10_owned_83 : decode cX10_owned 83 = .ok (.aload_n 0, 1) := by decide +kernel
theorem dX10_owned_84 : decode cX10_owned 84 = .ok (.getfield 55, 3) := by decide +kernel
theorem dX10_owned_87 : decode cX10_owned 87 = .ok (.iconst 4, 1) := by decide +kernel
theorem dX10_owned_88 : decode cX10_owned 88 = .ok (.iload_n 1, 1) := by decide +kernel
theorem dX10_owned_89 : decode cX10_owned 89 = .ok (.imul, 1) := by decide +kernel
theorem dX10_owned_90 : decode cX10_owned 90 = .ok (.iload 9, 2) := by decide +kernel
theorem dX10_owned_92 : decode cX10_owned 92 = .ok (.iadd, 1) := by decide +kernel
theorem dX10_owned_93 : decode cX10_owned 93 = .ok (.iaload, 1) := by decide +kernel
theorem dX10_owned_94 : decode cX10_owned 94 = .ok (.i2l, 1) := by decide +kernel
theorem dX10_owned_95 : decode cX10_owned 95 = .ok (.lmul, 1) := by decide +kernel
theorem dX10_owned_96 : decode cX10_owned 96 = .ok (.lstore 10, 2) := by decide +kernel
theorem dX10_owned_98 : decode cX10_owned 98 = .ok (.lload 10, 2) := by decide +kernel
theorem dX10_owned_100 : decode cX10_owned 100 = .ok (.lconst 0, 1) := by decide +kernel
theorem dX10_owned_101 : decode cX10_owned 101 = .ok (.lcmp, 1) := by decide +kernel
theorem dX10_owned_102 : decode cX10_owned 102 = .ok (.ifCond .ne 6, 3) := by decide +kernel
theorem dX10_owned_105 : decode cX10_owned 105 = .ok (.goto 72, 3) := by decide +kernel
theorem dX10_owned_108 : decode cX10_owned 108 = .ok (.lload 10, 2) := by decide +kernel
theorem dX10_owned_110 : decode cX10_owned 110 = .ok (.aload_n 0, 1) := by decide +kernel
theorem dX10_owned_111 : decode cX10_owned 111 = .ok (.getfield 52, 3) := by decide +kernel
theorem dX10_owned_114 : decode cX10_owned 114 = .ok (.iload 9, 2) := by decide +kernel
theorem dX10_owned_116 : decode cX10_owned 116 = .ok (.iaload, 1) := by decide +kernel
theorem dX10_owned_117 : decode cX10_owned 117 = .ok (.i2l, 1) := by decide +kernel
theorem dX10_owned_118 : decode cX10_owned 118 = .ok (.invokestatic 222, 3) := by decide +kernel
theorem dX10_owned_121 : decode cX10_owned 121 = .ok (.lstore 12, 2) := by decide +kernel
theorem dX10_owned_123 : decode cX10_owned 123 = .ok (.aload_n 0, 1) := by decide +kernel
theorem dX10_owned_124 : decode cX10_owned 124 = .ok (.getfield 52, 3) := by decide +kernel
theorem dX10_owned_127 : decode cX10_owned 127 = .ok (.iload 9, 2) := by decide +kernel
theorem dX10_owned_129 : decode cX10_owned 129 = .ok (.iaload, 1) := by decide +kernel
theorem dX10_owned_130 : decode cX10_owned 130 = .ok (.i2l, 1) := by decide +kernel
theorem dX10_owned_131 : decode cX10_owned 131 = .ok (.lload 12, 2) := by decide +kernel
theorem dX10_owned_133 : decode cX10_owned 133 = .ok (.ldiv, 1) := by decide +kernel
theorem dX10_owned_134 : decode cX10_owned 134 = .ok (.lstore 14, 2) := by decide +kernel
theorem dX10_owned_136 : decode cX10_owned 136 = .ok (.lload 14, 2) := by decide +kernel
theorem dX10_owned_138 : decode cX10_owned 138 = .ok (.lload 7, 2) := by decide +kernel
theorem dX10_owned_140 : decode cX10_owned 140 = .ok (.invokestatic 222, 3) := by decide +kernel
theorem dX10_owned_143 : decode cX10_owned 143 = .ok (.lstore 16, 2) := by decide +kernel
theorem dX10_owned_145 : decode cX10_owned 145 = .ok (.lload 5, 2) := by decide +kernel
theorem dX10_owned_147 : decode cX10_owned 147 = .ok (.lload 14, 2) := by decide +kernel
theorem dX10_owned_149 : decode cX10_owned 149 = .ok (.lload 16, 2) := by decide +kernel
theorem dX10_owned_151 : decode cX10_owned 151 = .ok (.ldiv, 1) := by decide +kernel
theorem dX10_owned_152 : decode cX10_owned 152 = .ok (.lmul, 1) := by decide +kernel
theorem dX10_owned_153 : decode cX10_owned 153 = .ok (.lload 10, 2) := by decide +kernel
theorem dX10_owned_155 : decode cX10_owned 155 = .ok (.lload 12, 2) := by decide +kernel
theorem dX10_owned_157 : decode cX10_owned 157 = .ok (.ldiv, 1) := by decide +kernel
theorem dX10_owned_158 : decode cX10_owned 158 = .ok (.lload 7, 2) := by decide +kernel
theorem dX10_owned_160 : decode cX10_owned 160 = .ok (.lload 16, 2) := by decide +kernel
theorem dX10_owned_162 : decode cX10_owned 162 = .ok (.ldiv, 1) := by decide +kernel
theorem dX10_owned_163 : decode cX10_owned 163 = .ok (.lmul, 1) := by decide +kernel
theorem dX10_owned_164 : decode cX10_owned 164 = .ok (.ladd, 1) := by decide +kernel
theorem dX10_owned_165 : decode cX10_owned 165 = .ok (.lstore 5, 2) := by decide +kernel
theorem dX10_owned_167 : decode cX10_owned 167 = .ok (.lload 7, 2) := by decide +kernel
theorem dX10_owned_169 : decode cX10_owned 169 = .ok (.lload 14, 2) := by decide +kernel
theorem dX10_owned_171 : decode cX10_owned 171 = .ok (.lload 16, 2) := by decide +kernel
theorem dX10_owned_173 : decode cX10_owned 173 = .ok (.ldiv, 1) := by decide +kernel
theorem dX10_owned_174 : decode cX10_owned 174 = .ok (.lmul, 1) := by decide +kernel
theorem dX10_owned_175 : decode cX10_owned 175 = .ok (.lstore 7, 2) := by decide +kernel
theorem dX10_owned_177 : decode cX10_owned 177 = .ok (.iinc 9 1, 3) := by decide +kernel
theorem dX10_owned_180 : decode cX10_owned 180 = .ok (.goto (-118), 3) := by decide +kernel
theorem dX10_owned_183 : decode cX10_owned 183 = .ok (.lload 7, 2) := by decide +kernel
theorem dX10_owned_185 : decode cX10_owned 185 = .ok (.aload_n 0, 1) := by decide +kernel
theorem dX10_owned_186 : decode cX10_owned 186 = .ok (.getfield 28, 3) := by decide +kernel
theorem dX10_owned_189 : decode cX10_owned 189 = .ok (.iload_n 2, 1) := by decide +kernel
theorem dX10_owned_190 : decode cX10_owned 190 = .ok (.iaload, 1) := by decide +kernel
theorem dX10_owned_191 : decode cX10_owned 191 = .ok (.i2l, 1) := by decide +kernel
theorem dX10_owned_192 : decode cX10_owned 192 = .ok (.lmul, 1) := by decide +kernel
theorem dX10_owned_193 : decode cX10_owned 193 = .ok (.lstore 7, 2) := by decide +kernel
theorem dX10_owned_195 : decode cX10_owned 195 = .ok (.lload 5, 2) := by decide +kernel
theorem dX10_owned_197 : decode cX10_owned 197 = .ok (.lload 7, 2) := by decide +kernel
theorem dX10_owned_199 : decode cX10_owned 199 = .ok (.invokestatic 222, 3) := by decide +kernel
theorem dX10_owned_202 : decode cX10_owned 202 = .ok (.lstore 9, 2) := by decide +kernel
theorem dX10_owned_204 : decode cX10_owned 204 = .ok (.iload 4, 2) := by decide +kernel
theorem dX10_owned_206 : decode cX10_owned 206 = .ok (.ifCond .ne 8, 3) := by decide +kernel
theorem dX10_owned_209 : decode cX10_owned 209 = .ok (.lload 5, 2) := by decide +kernel
theorem dX10_owned_211 : decode cX10_owned 211 = .ok (.goto 5, 3) := by decide +kernel
theorem dX10_owned_214 : decode cX10_owned 214 = .ok (.lload 7, 2) := by decide +kernel
theorem dX10_owned_216 : decode cX10_owned 216 = .ok (.lload 9, 2) := by decide +kernel
theorem dX10_owned_218 : decode cX10_owned 218 = .ok (.ldiv, 1) := by decide +kernel
theorem dX10_owned_219 : decode cX10_owned 219 = .ok (.lreturn, 1) := by decide +kernel
theorem dX10_count_0 : decode cX10_count 0 = .ok (.aload_n 0, 1) := by decide +kernel
theorem dX10_count_1 : decode cX10_count 1 = .ok (.iconst 0, 1) := by decide +kernel
theorem dX10_count_2 : decode cX10_count 2 = .ok (.putfield 73, 3) := by decide +kernel
theorem dX10_count_5 : decode cX10_count 5 = .ok (.iload_n 1, 1) := by decide +kernel
theorem dX10_count_6 : decode cX10_count 6 = .ok (.tableswitch 68 0 5 #[38, 43, 48, 53, 58, 63], 38) := by decide +kernel
theorem dX10_count_44 : decode cX10_count 44 = .ok (.aload_n 0, 1) := by decide +kernel
theorem dX10_count_45 : decode cX10_count 45 = .ok (.getfield 182, 3) := by decide +kernel
theorem dX10_count_48 : decode cX10_count 48 = .ok (.ireturn, 1) := by decide +kernel
theorem dX10_count_49 : decode cX10_count 49 = .ok (.aload_n 0, 1) := by decide +kernel
theorem dX10_count_50 : decode cX10_count 50 = .ok (.getfield 163, 3) := by decide +kernel
theorem dX10_count_53 : decode cX10_count 53 = .ok (.ireturn, 1) := by decide +kernel
theorem dX10_count_54 : decode cX10_count 54 = .ok (.aload_n 0, 1) := by decide +kernel
theorem dX10_count_55 : decode cX10_count 55 = .ok (.getfield 166, 3) := by decide +kernel
theorem dX10_count_58 : decode cX10_count 58 = .ok (.ireturn, 1) := by decide +kernel
theorem dX10_count_59 : decode cX10_count 59 = .ok (.aload_n 0, 1) := by decide +kernel
theorem dX10_count_60 : decode cX10_count 60 = .ok (.getfield 169, 3) := by decide +kernel
theorem dX10_count_63 : decode cX10_count 63 = .ok (.ireturn, 1) := by decide +kernel
theorem dX10_count_64 : decode cX10_count 64 = .ok (.aload_n 0, 1) := by decide +kernel
theorem dX10_count_65 : decode cX10_count 65 = .ok (.getfield 204, 3) := by decide +kernel
theorem dX10_count_68 : decode cX10_count 68 = .ok (.ireturn, 1) := by decide +kernel
theorem dX10_count_69 : decode cX10_count 69 = .ok (.aload_n 0, 1) := by decide +kernel
theorem dX10_count_70 : decode cX10_count 70 = .ok (.getfield 77, 3) := by decide +kernel
theorem dX10_count_73 : decode cX10_count 73 = .ok (.ireturn, 1) := by decide +kernel
theorem dX10_count_74 : decode cX10_count 74 = .ok (.iconst (-1), 1) := by decide +kernel
theorem dX10_count_75 : decode cX10_count 75 = .ok (.ireturn, 1) := by decide +kernel
theorem dJ9_max_7cf53_0 : decode cJ9_max_7cf53 0 = .ok (.iload_n 0, 1) := by decide +kernel
theorem dJ9_max_7cf53_1 : decode cJ9_max_7cf53 1 = .ok (.iload_n 1, 1) := by decide +kernel
theorem dJ9_max_7cf53_2 : decode cJ9_max_7cf53 2 = .ok (.if_icmp .lt 7, 3) := by decide +kernel
theorem dJ9_max_7cf53_5 : decode cJ9_max_7cf53 5 = .ok (.iload_n 0, 1) := by decide +kernel
theorem dJ9_max_7cf53_6 : decode cJ9_max_7cf53 6 = .ok (.goto 4, 3) := by decide +kernel
theorem dJ9_max_7cf53_9 : decode cJ9_max_7cf53 9 = .ok (.iload_n 1, 1) := by decide +kernel
theorem dJ9_max_7cf53_10 : decode cJ9_max_7cf53 10 = .ok (.ireturn, 1) := by decide +kernel
theorem dJ9_min_7cf53_0 : decode cJ9_min_7cf53 0 = .ok (.iload_n 0, 1) := by decide +kernel
theorem dJ9_min_7cf53_1 : decode cJ9_min_7cf53 1 = .ok (.iload_n 1, 1) := by decide +kernel
theorem dJ9_min_7cf53_2 : decode cJ9_min_7cf53 2 = .ok (.if_icmp .gt 7, 3) := by decide +kernel
theorem dJ9_min_7cf53_5 : decode cJ9_min_7cf53 5 = .ok (.iload_n 0, 1) := by decide +kernel
theorem dJ9_min_7cf53_6 : decode cJ9_min_7cf53 6 = .ok (.goto 4, 3) := by decide +kernel
theorem dJ9_min_7cf53_9 : decode cJ9_min_7cf53 9 = .ok (.iload_n 1, 1) := by decide +kernel
theorem dJ9_min_7cf53_10 : decode cJ9_min_7cf53 10 = .ok (.ireturn, 1) := by decide +kernel
theorem dJ0_length_8abf5_0 : decode cJ0_length_8abf5 0 = .ok (.aload_n 0, 1) := by decide +kernel
theorem dJ0_length_8abf5_1 : decode cJ0_length_8abf5 1 = .ok (.getfield 9, 3) := by decide +kernel
theorem dJ0_length_8abf5_4 : decode cJ0_length_8abf5 4 = .ok (.arraylength, 1) := by decide +kernel
theorem dJ0_length_8abf5_5 : decode cJ0_length_8abf5 5 = .ok (.aload_n 0, 1) := by decide +kernel
theorem dJ0_length_8abf5_6 : decode cJ0_length_8abf5 6 = .ok (.invokevirtual 335, 3) := by decide +kernel
theorem dJ0_length_8abf5_9 : decode cJ0_length_8abf5 9 = .ok (.ishr, 1) := by decide +kernel
theorem dJ0_length_8abf5_10 : decode cJ0_length_8abf5 10 = .ok (.ireturn, 1) := by decide +kernel
theorem dJ0_charAt_5068e_0 : decode cJ0_charAt_5068e 0 = .ok (.aload_n 0, 1) := by decide +kernel
theorem dJ0_charAt_5068e_1 : decode cJ0_charAt_5068e 1 = .ok (.invokevirtual 492, 3) := by decide +kernel
theorem dJ0_charAt_5068e_4 : decode cJ0_charAt_5068e 4 = .ok (.ifCond .eq 12, 3) := by decide +kernel
theorem dJ0_charAt_5068e_7 : decode cJ0_charAt_5068e 7 = .ok (.aload_n 0, 1) := by decide +kernel
theorem dJ0_charAt_5068e_8 : decode cJ0_charAt_5068e 8 = .ok (.getfield 9, 3) := by decide +kernel
theorem dJ0_charAt_5068e_11 : decode cJ0_charAt_5068e 11 = .ok (.iload_n 1, 1) := by decide +kernel
theorem dJ0_charAt_5068e_12 : decode cJ0_charAt_5068e 12 = .ok (.invokestatic 495, 3) := by decide +kernel
theorem dJ0_charAt_5068e_15 : decode cJ0_charAt_5068e 15 = .ok (.ireturn, 1) := by decide +kernel
theorem dJ0_charAt_5068e_16 : decode cJ0_charAt_5068e 16 = .ok (.aload_n 0, 1) := by decide +kernel
theorem dJ0_charAt_5068e_17 : decode cJ0_charAt_5068e 17 = .ok (.getfield 9, 3) := by decide +kernel
theorem dJ0_charAt_5068e_20 : decode cJ0_charAt_5068e 20 = .ok (.iload_n 1, 1) := by decide +kernel
theorem dJ0_charAt_5068e_21 : decode cJ0_charAt_5068e 21 = .ok (.invokestatic 498, 3) := by decide +kernel
theorem dJ0_charAt_5068e_24 : decode cJ0_charAt_5068e 24 = .ok (.ireturn, 1) := by decide +kernel
theorem dJ0_coder_7d493_0 : decode cJ0_coder_7d493 0 = .ok (.getstatic 38, 3) := by decide +kernel
theorem dJ0_coder_7d493_3 : decode cJ0_coder_7d493 3 = .ok (.ifCond .eq 10, 3) := by decide +kernel
theorem dJ0_coder_7d493_6 : decode cJ0_coder_7d493 6 = .ok (.aload_n 0, 1) := by decide +kernel
theorem dJ0_coder_7d493_7 : decode cJ0_coder_7d493 7 = .ok (.getfield 15, 3) := by decide +kernel
theorem dJ0_coder_7d493_10 : decode cJ0_coder_7d493 10 = .ok (.goto 4, 3) := by decide +kernel
theorem dJ0_coder_7d493_13 : decode cJ0_coder_7d493 13 = .ok (.iconst 1, 1) := by decide +kernel
theorem dJ0_coder_7d493_14 : decode cJ0_coder_7d493 14 = .ok (.ireturn, 1) := by decide +kernel
theorem dJ0_isLatin1_aae02_0 : decode cJ0_isLatin1_aae02 0 = .ok (.getstatic 38, 3) := by decide +kernel
theorem dJ0_isLatin1_aae02_3 : decode cJ0_isLatin1_aae02 3 = .ok (.ifCond .eq 14, 3) := by decide +kernel
theorem dJ0_isLatin1_aae02_6 : decode cJ0_isLatin1_aae02 6 = .ok (.aload_n 0, 1) := by decide +kernel
theorem dJ0_isLatin1_aae02_7 : decode cJ0_isLatin1_aae02 7 = .ok (.getfield 15, 3) := by decide +kernel
theorem dJ0_isLatin1_aae02_10 : decode cJ0_isLatin1_aae02 10 = .ok (.ifCond .ne 7, 3) := by decide +kernel
theorem dJ0_isLatin1_aae02_13 : decode cJ0_isLatin1_aae02 13 = .ok (.iconst 1, 1) := by decide +kernel
theorem dJ0_isLatin1_aae02_14 : decode cJ0_isLatin1_aae02 14 = .ok (.goto 4, 3) := by decide +kernel
theorem dJ0_isLatin1_aae02_17 : decode cJ0_isLatin1_aae02 17 = .ok (.iconst 0, 1) := by decide +kernel
theorem dJ0_isLatin1_aae02_18 : decode cJ0_isLatin1_aae02 18 = .ok (.ireturn, 1) := by decide +kernel
theorem dJ0_checkIndex_df160_0 : decode cJ0_checkIndex_df160 0 = .ok (.iload_n 0, 1) := by decide +kernel
theorem dJ0_checkIndex_df160_1 : decode cJ0_checkIndex_df160 1 = .ok (.iload_n 1, 1) := by decide +kernel
theorem dJ0_checkIndex_df160_2 : decode cJ0_checkIndex_df160 2 = .ok (.getstatic 1053, 3) := by decide +kernel
theorem dJ0_checkIndex_df160_5 : decode cJ0_checkIndex_df160 5 = .ok (.invokestatic 1059, 3) := by decide +kernel
theorem dJ0_checkIndex_df160_8 : decode cJ0_checkIndex_df160 8 = .ok (.pop, 1) := by decide +kernel
theorem dJ0_checkIndex_df160_9 : decode cJ0_checkIndex_df160 9 = .ok (.return_, 1) := by decide +kernel
theorem dJ1_charAt_3b067_0 : decode cJ1_charAt_3b067 0 = .ok (.iload_n 1, 1) := by decide +kernel
theorem dJ1_charAt_3b067_1 : decode cJ1_charAt_3b067 1 = .ok (.aload_n 0, 1) := by decide +kernel
theorem dJ1_charAt_3b067_2 : decode cJ1_charAt_3b067 2 = .ok (.arraylength, 1) := by decide +kernel
theorem dJ1_charAt_3b067_3 : decode cJ1_charAt_3b067 3 = .ok (.invokestatic 9, 3) := by decide +kernel
theorem dJ1_charAt_3b067_6 : decode cJ1_charAt_3b067 6 = .ok (.aload_n 0, 1) := by decide +kernel
theorem dJ1_charAt_3b067_7 : decode cJ1_charAt_3b067 7 = .ok (.iload_n 1, 1) := by decide +kernel
theorem dJ1_charAt_3b067_8 : decode cJ1_charAt_3b067 8 = .ok (.baload, 1) := by decide +kernel
theorem dJ1_charAt_3b067_9 : decode cJ1_charAt_3b067 9 = .ok (.sipush 255, 3) := by decide +kernel
theorem dJ1_charAt_3b067_12 : decode cJ1_charAt_3b067 12 = .ok (.iand, 1) := by decide +kernel
theorem dJ1_charAt_3b067_13 : decode cJ1_charAt_3b067 13 = .ok (.i2c, 1) := by decide +kernel
theorem dJ1_charAt_3b067_14 : decode cJ1_charAt_3b067 14 = .ok (.ireturn, 1) := by decide +kernel
theorem dJ2_getChar_3b067_0 : decode cJ2_getChar_3b067 0 = .ok (.getstatic 44, 3) := by decide +kernel
theorem dJ2_getChar_3b067_3 : decode cJ2_getChar_3b067 3 = .ok (.ifCond .ne 25, 3) := by decide +kernel
theorem dJ2_getChar_3b067_6 : decode cJ2_getChar_3b067 6 = .ok (.iload_n 1, 1) := by decide +kernel
theorem dJ2_getChar_3b067_7 : decode cJ2_getChar_3b067 7 = .ok (.ifCond .lt 11, 3) := by decide +kernel
theorem dJ2_getChar_3b067_10 : decode cJ2_getChar_3b067 10 = .ok (.iload_n 1, 1) := by decide +kernel
theorem dJ2_getChar_3b067_11 : decode cJ2_getChar_3b067 11 = .ok (.aload_n 0, 1) := by decide +kernel
theorem dJ2_getChar_3b067_12 : decode cJ2_getChar_3b067 12 = .ok (.invokestatic 48, 3) := by decide +kernel
theorem dJ2_getChar_3b067_15 : decode cJ2_getChar_3b067 15 = .ok (.if_icmp .lt 13, 3) := by decide +kernel
theorem dJ2_getChar_3b067_18 : decode cJ2_getChar_3b067 18 = .ok (.new 52, 3) := by decide +kernel
theorem dJ2_getChar_3b067_21 : decode cJ2_getChar_3b067 21 = .ok (.dup, 1) := by decide +kernel
theorem dJ2_getChar_3b067_22 : decode cJ2_getChar_3b067 22 = .ok (.ldc 54, 2) := by decide +kernel
theorem dJ2_getChar_3b067_24 : decode cJ2_getChar_3b067 24 = .ok (.invokespecial 56, 3) := by decide +kernel
theorem dJ2_getChar_3b067_27 : decode cJ2_getChar_3b067 27 = .ok (.athrow, 1) := by decide +kernel
theorem dJ2_getChar_3b067_28 : decode cJ2_getChar_3b067 28 = .ok (.iload_n 1, 1) := by decide +kernel
theorem dJ2_getChar_3b067_29 : decode cJ2_getChar_3b067 29 = .ok (.iconst 1, 1) := by decide +kernel
theorem dJ2_getChar_3b067_30 : decode cJ2_getChar_3b067 30 = .ok (.ishl, 1) := by decide +kernel
theorem dJ2_getChar_3b067_31 : decode cJ2_getChar_3b067 31 = .ok (.istore_n 1, 1) := by decide +kernel
theorem dJ2_getChar_3b067_32 : decode cJ2_getChar_3b067 32 = .ok (.aload_n 0, 1) := by decide +kernel
theorem dJ2_getChar_3b067_33 : decode cJ2_getChar_3b067 33 = .ok (.iload_n 1, 1) := by decide +kernel
theorem dJ2_getChar_3b067_34 : decode cJ2_getChar_3b067 34 = .ok (.iinc 1 1, 3) := by decide +kernel
theorem dJ2_getChar_3b067_37 : decode cJ2_getChar_3b067 37 = .ok (.baload, 1) := by decide +kernel
theorem dJ2_getChar_3b067_38 : decode cJ2_getChar_3b067 38 = .ok (.sipush 255, 3) := by decide +kernel
theorem dJ2_getChar_3b067_41 : decode cJ2_getChar_3b067 41 = .ok (.iand, 1) := by decide +kernel
theorem dJ2_getChar_3b067_42 : decode cJ2_getChar_3b067 42 = .ok (.getstatic 59, 3) := by decide +kernel
theorem dJ2_getChar_3b067_45 : decode cJ2_getChar_3b067 45 = .ok (.ishl, 1) := by decide +kernel
theorem dJ2_getChar_3b067_46 : decode cJ2_getChar_3b067 46 = .ok (.aload_n 0, 1) := by decide +kernel
theorem dJ2_getChar_3b067_47 : decode cJ2_getChar_3b067 47 = .ok (.iload_n 1, 1) := by decide +kernel
theorem dJ2_getChar_3b067_48 : decode cJ2_getChar_3b067 48 = .ok (.baload, 1) := by decide +kernel
theorem dJ2_getChar_3b067_49 : decode cJ2_getChar_3b067 49 = .ok (.sipush 255, 3) := by decide +kernel
theorem dJ2_getChar_3b067_52 : decode cJ2_getChar_3b067 52 = .ok (.iand, 1) := by decide +kernel
theorem dJ2_getChar_3b067_53 : decode cJ2_getChar_3b067 53 = .ok (.getstatic 63, 3) := by decide +kernel
theorem dJ2_getChar_3b067_56 : decode cJ2_getChar_3b067 56 = .ok (.ishl, 1) := by decide +kernel
theorem dJ2_getChar_3b067_57 : decode cJ2_getChar_3b067 57 = .ok (.ior, 1) := by decide +kernel
theorem dJ2_getChar_3b067_58 : decode cJ2_getChar_3b067 58 = .ok (.i2c, 1) := by decide +kernel
theorem dJ2_getChar_3b067_59 : decode cJ2_getChar_3b067 59 = .ok (.ireturn, 1) := by decide +kernel
theorem dJ2_length_9d52b_0 : decode cJ2_length_9d52b 0 = .ok (.aload_n 0, 1) := by decide +kernel
theorem dJ2_length_9d52b_1 : decode cJ2_length_9d52b 1 = .ok (.arraylength, 1) := by decide +kernel
theorem dJ2_length_9d52b_2 : decode cJ2_length_9d52b 2 = .ok (.iconst 1, 1) := by decide +kernel
theorem dJ2_length_9d52b_3 : decode cJ2_length_9d52b 3 = .ok (.ishr, 1) := by decide +kernel
theorem dJ2_length_9d52b_4 : decode cJ2_length_9d52b 4 = .ok (.ireturn, 1) := by decide +kernel
theorem dJ2_charAt_3b067_0 : decode cJ2_charAt_3b067 0 = .ok (.iload_n 1, 1) := by decide +kernel
theorem dJ2_charAt_3b067_1 : decode cJ2_charAt_3b067 1 = .ok (.aload_n 0, 1) := by decide +kernel
theorem dJ2_charAt_3b067_2 : decode cJ2_charAt_3b067 2 = .ok (.invokestatic 67, 3) := by decide +kernel
theorem dJ2_charAt_3b067_5 : decode cJ2_charAt_3b067 5 = .ok (.aload_n 0, 1) := by decide +kernel
theorem dJ2_charAt_3b067_6 : decode cJ2_charAt_3b067 6 = .ok (.iload_n 1, 1) := by decide +kernel
theorem dJ2_charAt_3b067_7 : decode cJ2_charAt_3b067 7 = .ok (.invokestatic 71, 3) := by decide +kernel
theorem dJ2_charAt_3b067_10 : decode cJ2_charAt_3b067 10 = .ok (.ireturn, 1) := by decide +kernel
theorem dJ2_checkIndex_2214a_0 : decode cJ2_checkIndex_2214a 0 = .ok (.iload_n 0, 1) := by decide +kernel
theorem dJ2_checkIndex_2214a_1 : decode cJ2_checkIndex_2214a 1 = .ok (.aload_n 1, 1) := by decide +kernel
theorem dJ2_checkIndex_2214a_2 : decode cJ2_checkIndex_2214a 2 = .ok (.invokestatic 48, 3) := by decide +kernel
theorem dJ2_checkIndex_2214a_5 : decode cJ2_checkIndex_2214a 5 = .ok (.invokestatic 414, 3) := by decide +kernel
theorem dJ2_checkIndex_2214a_8 : decode cJ2_checkIndex_2214a 8 = .ok (.return_, 1) := by decide +kernel
theorem dJ3_checkIndex_8e157_0 : decode cJ3_checkIndex_8e157 0 = .ok (.iload_n 0, 1) := by decide +kernel
theorem dJ3_checkIndex_8e157_1 : decode cJ3_checkIndex_8e157 1 = .ok (.ifCond .lt 8, 3) := by decide +kernel
theorem dJ3_checkIndex_8e157_4 : decode cJ3_checkIndex_8e157 4 = .ok (.iload_n 0, 1) := by decide +kernel
theorem dJ3_checkIndex_8e157_5 : decode cJ3_checkIndex_8e157 5 = .ok (.iload_n 1, 1) := by decide +kernel
theorem dJ3_checkIndex_8e157_6 : decode cJ3_checkIndex_8e157 6 = .ok (.if_icmp .lt 10, 3) := by decide +kernel
theorem dJ3_checkIndex_8e157_9 : decode cJ3_checkIndex_8e157 9 = .ok (.aload_n 2, 1) := by decide +kernel
theorem dJ3_checkIndex_8e157_10 : decode cJ3_checkIndex_8e157 10 = .ok (.iload_n 0, 1) := by decide +kernel
theorem dJ3_checkIndex_8e157_11 : decode cJ3_checkIndex_8e157 11 = .ok (.iload_n 1, 1) := by decide +kernel
theorem dJ3_checkIndex_8e157_12 : decode cJ3_checkIndex_8e157 12 = .ok (.invokestatic 95, 3) := by decide +kernel
theorem dJ3_checkIndex_8e157_15 : decode cJ3_checkIndex_8e157 15 = .ok (.athrow, 1) := by decide +kernel
theorem dJ3_checkIndex_8e157_16 : decode cJ3_checkIndex_8e157 16 = .ok (.iload_n 0, 1) := by decide +kernel
theorem dJ3_checkIndex_8e157_17 : decode cJ3_checkIndex_8e157 17 = .ok (.ireturn, 1) := by decide +kernel
theorem dL_purse_0 : decode cL_purse 0 = .ok (.aload_n 3, 1) := by decide +kernel
theorem dL_purse_1 : decode cL_purse 1 = .ok (.iconst 0, 1) := by decide +kernel
theorem dL_purse_2 : decode cL_purse 2 = .ok (.aload_n 0, 1) := by decide +kernel
theorem dL_purse_3 : decode cL_purse 3 = .ok (.iload_n 1, 1) := by decide +kernel
theorem dL_purse_4 : decode cL_purse 4 = .ok (.iload_n 2, 1) := by decide +kernel
theorem dL_purse_5 : decode cL_purse 5 = .ok (.invokevirtual 7, 3) := by decide +kernel
theorem dL_purse_8 : decode cL_purse 8 = .ok (.i2l, 1) := by decide +kernel
theorem dL_purse_9 : decode cL_purse 9 = .ok (.lastore, 1) := by decide +kernel
theorem dL_purse_10 : decode cL_purse 10 = .ok (.goto 7, 3) := by decide +kernel
theorem dL_purse_13 : decode cL_purse 13 = .ok (.astore 4, 2) := by decide +kernel
theorem dL_purse_15 : decode cL_purse 15 = .ok (.iconst 1, 1) := by decide +kernel
theorem dL_purse_16 : decode cL_purse 16 = .ok (.ireturn, 1) := by decide +kernel
theorem dL_purse_17 : decode cL_purse 17 = .ok (.iconst 0, 1) := by decide +kernel
theorem dL_purse_18 : decode cL_purse 18 = .ok (.ireturn, 1) := by decide +kernel
theorem dL_owned_0 : decode cL_owned 0 = .ok (.aload 5, 2) := by decide +kernel
theorem dL_owned_2 : decode cL_owned 2 = .ok (.iconst 0, 1) := by decide +kernel
theorem dL_owned_3 : decode cL_owned 3 = .ok (.aload_n 0, 1) := by decide +kernel
theorem dL_owned_4 : decode cL_owned 4 = .ok (.iload_n 1, 1) := by decide +kernel
theorem dL_owned_5 : decode cL_owned 5 = .ok (.iload_n 2, 1) := by decide +kernel
theorem dL_owned_6 : decode cL_owned 6 = .ok (.iload_n 3, 1) := by decide +kernel
theorem dL_owned_7 : decode cL_owned 7 = .ok (.iload 4, 2) := by decide +kernel
theorem dL_owned_9 : decode cL_owned 9 = .ok (.invokevirtual 15, 3) := by decide +kernel
theorem dL_owned_12 : decode cL_owned 12 = .ok (.lastore, 1) := by decide +kernel
theorem dL_owned_13 : decode cL_owned 13 = .ok (.goto 7, 3) := by decide +kernel
theorem dL_owned_16 : decode cL_owned 16 = .ok (.astore 6, 2) := by decide +kernel
theorem dL_owned_18 : decode cL_owned 18 = .ok (.iconst 1, 1) := by decide +kernel
theorem dL_owned_19 : decode cL_owned 19 = .ok (.ireturn, 1) := by decide +kernel
theorem dL_owned_20 : decode cL_owned 20 = .ok (.iconst 0, 1) := by decide +kernel
theorem dL_owned_21 : decode cL_owned 21 = .ok (.ireturn, 1) := by decide +kernel
theorem dL_law_0 : decode cL_law 0 = .ok (.new 8, 3) := by decide +kernel
theorem dL_law_3 : decode cL_law 3 = .ok (.dup, 1) := by decide +kernel
theorem dL_law_4 : decode cL_law 4 = .ok (.invokespecial 19, 3) := by decide +kernel
theorem dL_law_7 : decode cL_law 7 = .ok (.astore_n 1, 1) := by decide +kernel
theorem dL_law_8 : decode cL_law 8 = .ok (.new 20, 3) := by decide +kernel
theorem dL_law_11 : decode cL_law 11 = .ok (.dup, 1) := by decide +kernel
theorem dL_law_12 : decode cL_law 12 = .ok (.invokespecial 22, 3) := by decide +kernel
theorem dL_law_15 : decode cL_law 15 = .ok (.astore_n 2, 1) := by decide +kernel
theorem dL_law_16 : decode cL_law 16 = .ok (.iconst 1, 1) := by decide +kernel
theorem dL_law_17 : decode cL_law 17 = .ok (.newarray .long, 2) := by decide +kernel
theorem dL_law_19 : decode cL_law 19 = .ok (.astore_n 3, 1) := by decide +kernel
theorem dL_law_20 : decode cL_law 20 = .ok (.iconst 0, 1) := by decide +kernel
theorem dL_law_21 : decode cL_law 21 = .ok (.istore 4, 2) := by decide +kernel
theorem dL_law_23 : decode cL_law 23 = .ok (.iload 4, 2) := by decide +kernel
theorem dL_law_25 : decode cL_law 25 = .ok (.aload_n 0, 1) := by decide +kernel
theorem dL_law_26 : decode cL_law 26 = .ok (.arraylength, 1) := by decide +kernel
theorem dL_law_27 : decode cL_law 27 = .ok (.bipush 6, 2) := by decide +kernel
theorem dL_law_29 : decode cL_law 29 = .ok (.isub, 1) := by decide +kernel
theorem dL_law_30 : decode cL_law 30 = .ok (.if_icmp .gt 795, 3) := by decide +kernel
theorem dL_law_33 : decode cL_law 33 = .ok (.aload_n 0, 1) := by decide +kernel
theorem dL_law_34 : decode cL_law 34 = .ok (.iload 4, 2) := by decide +kernel
theorem dL_law_36 : decode cL_law 36 = .ok (.iaload, 1) := by decide +kernel
theorem dL_law_37 : decode cL_law 37 = .ok (.bipush 31, 2) := by decide +kernel
theorem dL_law_39 : decode cL_law 39 = .ok (.iand, 1) := by decide +kernel
theorem dL_law_40 : decode cL_law 40 = .ok (.tableswitch 779 0 17 #[88, 161, 186, 199, 212, 237, 274, 299, 324, 373, 422, 435, 472, 509, 577, 626, 663, 754], 88) := by decide +kernel
theorem dL_law_128 : decode cL_law 128 = .ok (.aload_n 1, 1) := by decide +kernel
theorem dL_law_129 : decode cL_law 129 = .ok (.aload_n 0, 1) := by decide +kernel
theorem dL_law_130 : decode cL_law 130 = .ok (.iload 4, 2) := by decide +kernel
theorem dL_law_132 : decode cL_law 132 = .ok (.iconst 1, 1) := by decide +kernel
theorem dL_law_133 : decode cL_law 133 = .ok (.iadd, 1) := by decide +kernel
theorem dL_law_134 : decode cL_law 134 = .ok (.iaload, 1) := by decide +kernel
theorem dL_law_135 : decode cL_law 135 = .ok (.aload_n 0, 1) := by decide +kernel
theorem dL_law_136 : decode cL_law 136 = .ok (.iload 4, 2) := by decide +kernel
theorem dL_law_138 : decode cL_law 138 = .ok (.iconst 2, 1) := by decide +kernel
theorem dL_law_139 : decode cL_law 139 = .ok (.iadd, 1) := by decide +kernel
theorem dL_law_140 : decode cL_law 140 = .ok (.iaload, 1) := by decide +kernel
theorem dL_law_141 : decode cL_law 141 = .ok (.aload_n 0, 1) := by decide +kernel
theorem dL_law_142 : decode cL_law 142 = .ok (.iload 4, 2) := by decide +kernel
theorem dL_law_144 : decode cL_law 144 = .ok (.iconst 3, 1) := by decide +kernel
theorem dL_law_145 : decode cL_law 145 = .ok (.iadd, 1) := by decide +kernel
theorem dL_law_146 : decode cL_law 146 = .ok (.iaload, 1) := by decide +kernel
theorem dL_law_147 : decode cL_law 147 = .ok (.aload_n 0, 1) := by decide +kernel
theorem dL_law_148 : decode cL_law 148 = .ok (.iload 4, 2) := by decide +kernel
theorem dL_law_150 : decode cL_law 150 = .ok (.iconst 4, 1) := by decide +kernel
theorem dL_law_151 : decode cL_law 151 = .ok (.iadd, 1) := by decide +kernel
theorem dL_law_152 : decode cL_law 152 = .ok (.iaload, 1) := by decide +kernel
theorem dL_law_153 : decode cL_law 153 = .ok (.aload_n 0, 1) := by decide +kernel
theorem dL_law_154 : decode cL_law 154 = .ok (.iload 4, 2) := by decide +kernel
theorem dL_law_156 : decode cL_law 156 = .ok (.iconst 5, 1) := by decide +kernel
theorem dL_law_157 : decode cL_law 157 = .ok (.iadd, 1) := by decide +kernel
theorem dL_law_158 : decode cL_law 158 = .ok (.iaload, 1) := by decide +kernel
theorem dL_law_159 : decode cL_law 159 = .ok (.invokevirtual 23, 3) := by decide +kernel
theorem dL_law_162 : decode cL_law 162 = .ok (.aload_n 2, 1) := by decide +kernel
theorem dL_law_163 : decode cL_law 163 = .ok (.aload_n 0, 1) := by decide +kernel
theorem dL_law_164 : decode cL_law 164 = .ok (.iload 4, 2) := by decide +kernel
theorem dL_law_166 : decode cL_law 166 = .ok (.iconst 1, 1) := by decide +kernel
theorem dL_law_167 : decode cL_law 167 = .ok (.iadd, 1) := by decide +kernel
theorem dL_law_168 : decode cL_law 168 = .ok (.iaload, 1) := by decide +kernel
theorem dL_law_169 : decode cL_law 169 = .ok (.aload_n 0, 1) := by decide +kernel
theorem dL_law_170 : decode cL_law 170 = .ok (.iload 4, 2) := by decide +kernel
theorem dL_law_172 : decode cL_law 172 = .ok (.iconst 2, 1) := by decide +kernel
theorem dL_law_173 : decode cL_law 173 = .ok (.iadd, 1) := by decide +kernel
theorem dL_law_174 : decode cL_law 174 = .ok (.iaload, 1) := by decide +kernel
theorem dL_law_175 : decode cL_law 175 = .ok (.aload_n 0, 1) := by decide +kernel
theorem dL_law_176 : decode cL_law 176 = .ok (.iload 4, 2) := by decide +kernel
theorem dL_law_178 : decode cL_law 178 = .ok (.iconst 3, 1) := by decide +kernel
theorem dL_law_179 : decode cL_law 179 = .ok (.iadd, 1) := by decide +kernel
theorem dL_law_180 : decode cL_law 180 = .ok (.iaload, 1) := by decide +kernel
theorem dL_law_181 : decode cL_law 181 = .ok (.aload_n 0, 1) := by decide +kernel
theorem dL_law_182 : decode cL_law 182 = .ok (.iload 4, 2) := by decide +kernel
theorem dL_law_184 : decode cL_law 184 = .ok (.iconst 4, 1) := by decide +kernel
theorem dL_law_185 : decode cL_law 185 = .ok (.iadd, 1) := by decide +kernel
theorem dL_law_186 : decode cL_law 186 = .ok (.iaload, 1) := by decide +kernel
theorem dL_law_187 : decode cL_law 187 = .ok (.aload_n 0, 1) := by decide +kernel
theorem dL_law_188 : decode cL_law 188 = .ok (.iload 4, 2) := by decide +kernel
theorem dL_law_190 : decode cL_law 190 = .ok (.iconst 5, 1) := by decide +kernel
theorem dL_law_191 : decode cL_law 191 = .ok (.iadd, 1) := by decide +kernel
theorem dL_law_192 : decode cL_law 192 = .ok (.iaload, 1) := by decide +kernel
theorem dL_law_193 : decode cL_law 193 = .ok (.invokevirtual 27, 3) := by decide +kernel
theorem dL_law_196 : decode cL_law 196 = .ok (.if_icmp .eq 623, 3) := by decide +kernel
theorem dL_law_199 : decode cL_law 199 = .ok (.iconst 0, 1) := by decide +kernel
theorem dL_law_200 : decode cL_law 200 = .ok (.ireturn, 1) := by decide +kernel
theorem dL_law_201 : decode cL_law 201 = .ok (.aload_n 1, 1) := by decide +kernel
theorem dL_law_202 : decode cL_law 202 = .ok (.aload_n 0, 1) := by decide +kernel
theorem dL_law_203 : decode cL_law 203 = .ok (.iload 4, 2) := by decide +kernel
theorem dL_law_205 : decode cL_law 205 = .ok (.iconst 1, 1) := by decide +kernel
theorem dL_law_206 : decode cL_law 206 = .ok (.iadd, 1) := by decide +kernel
theorem dL_law_207 : decode cL_law 207 = .ok (.iaload, 1) := by decide +kernel
theorem dL_law_208 : decode cL_law 208 = .ok (.invokevirtual 28, 3) := by decide +kernel
theorem dL_law_211 : decode cL_law 211 = .ok (.aload_n 2, 1) := by decide +kernel
theorem dL_law_212 : decode cL_law 212 = .ok (.aload_n 0, 1) := by decide +kernel
theorem dL_law_213 : decode cL_law 213 = .ok (.iload 4, 2) := by decide +kernel
theorem dL_law_215 : decode cL_law 215 = .ok (.iconst 1, 1) := by decide +kernel
theorem dL_law_216 : decode cL_law 216 = .ok (.iadd, 1) := by decide +kernel
theorem dL_law_217 : decode cL_law 217 = .ok (.iaload, 1) := by decide +kernel
theorem dL_law_218 : decode cL_law 218 = .ok (.invokevirtual 32, 3) := by decide +kernel
theorem dL_law_221 : decode cL_law 221 = .ok (.if_icmp .eq 598, 3) := by decide +kernel
theorem dL_law_224 : decode cL_law 224 = .ok (.iconst 0, 1) := by decide +kernel
theorem dL_law_225 : decode cL_law 225 = .ok (.ireturn, 1) := by decide +kernel
theorem dL_law_226 : decode cL_law 226 = .ok (.aload_n 1, 1) := by decide +kernel
theorem dL_law_227 : decode cL_law 227 = .ok (.invokevirtual 33, 3) := by decide +kernel
theorem dL_law_230 : decode cL_law 230 = .ok (.aload_n 2, 1) := by decide +kernel
theorem dL_law_231 : decode cL_law 231 = .ok (.invokevirtual 37, 3) := by decide +kernel
theorem dL_law_234 : decode cL_law 234 = .ok (.if_icmp .eq 585, 3) := by decide +kernel
theorem dL_law_237 : decode cL_law 237 = .ok (.iconst 0, 1) := by decide +kernel
theorem dL_law_238 : decode cL_law 238 = .ok (.ireturn, 1) := by decide +kernel
theorem dL_law_239 : decode cL_law 239 = .ok (.aload_n 1, 1) := by decide +kernel
theorem dL_law_240 : decode cL_law 240 = .ok (.invokevirtual 38, 3) := by decide +kernel
theorem dL_law_243 : decode cL_law 243 = .ok (.aload_n 2, 1) := by decide +kernel
theorem dL_law_244 : decode cL_law 244 = .ok (.invokevirtual 41, 3) := by decide +kernel
theorem dL_law_247 : decode cL_law 247 = .ok (.if_icmp .eq 572, 3) := by decide +kernel
theorem dL_law_250 : decode cL_law 250 = .ok (.iconst 0, 1) := by decide +kernel
theorem dL_law_251 : decode cL_law 251 = .ok (.ireturn, 1) := by decide +kernel
theorem dL_law_252 : decode cL_law 252 = .ok (.aload_n 1, 1) := by decide +kernel
theorem dL_law_253 : decode cL_law 253 = .ok (.aload_n 0, 1) := by decide +kernel
theorem dL_law_254 : decode cL_law 254 = .ok (.iload 4, 2) := by decide +kernel
theorem dL_law_256 : decode cL_law 256 = .ok (.iconst 1, 1) := by decide +kernel
theorem dL_law_257 : decode cL_law 257 = .ok (.iadd, 1) := by decide +kernel
theorem dL_law_258 : decode cL_law 258 = .ok (.iaload, 1) := by decide +kernel
theorem dL_law_259 : decode cL_law 259 = .ok (.invokevirtual 42, 3) := by decide +kernel
theorem dL_law_262 : decode cL_law 262 = .ok (.aload_n 2, 1) := by decide +kernel
theorem dL_law_263 : decode cL_law 263 = .ok (.aload_n 0, 1) := by decide +kernel
theorem dL_law_264 : decode cL_law 264 = .ok (.iload 4, 2) := by decide +kernel
theorem dL_law_266 : decode cL_law 266 = .ok (.iconst 1, 1) := by decide +kernel
theorem dL_law_267 : decode cL_law 267 = .ok (.iadd, 1) := by decide +kernel
theorem dL_law_268 : decode cL_law 268 = .ok (.iaload, 1) := by decide +kernel
theorem dL_law_269 : decode cL_law 269 = .ok (.invokevirtual 46, 3) := by decide +kernel
theorem dL_law_272 : decode cL_law 272 = .ok (.if_icmp .eq 547, 3) := by decide +kernel
theorem dL_law_275 : decode cL_law 275 = .ok (.iconst 0, 1) := by decide +kernel
theorem dL_law_276 : decode cL_law 276 = .ok (.ireturn, 1) := by decide +kernel
theorem dL_law_277 : decode cL_law 277 = .ok (.aload_n 1, 1) := by decide +kernel
theorem dL_law_278 : decode cL_law 278 = .ok (.aload_n 0, 1) := by decide +kernel
theorem dL_law_279 : decode cL_law 279 = .ok (.iload 4, 2) := by decide +kernel
theorem dL_law_281 : decode cL_law 281 = .ok (.iconst 1, 1) := by decide +kernel
theorem dL_law_282 : decode cL_law 282 = .ok (.iadd, 1) := by decide +kernel
theorem dL_law_283 : decode cL_law 283 = .ok (.iaload, 1) := by decide +kernel
theorem dL_law_284 : decode cL_law 284 = .ok (.aload_n 0, 1) := by decide +kernel
theorem dL_law_285 : decode cL_law 285 = .ok (.iload 4, 2) := by decide +kernel
theorem dL_law_287 : decode cL_law 287 = .ok (.iconst 2, 1) := by decide +kernel
theorem dL_law_288 : decode cL_law 288 = .ok (.iadd, 1) := by decide +kernel
theorem dL_law_289 : decode cL_law 289 = .ok (.iaload, 1) := by decide +kernel
theorem dL_law_290 : decode cL_law 290 = .ok (.invokevirtual 47, 3) := by decide +kernel
theorem dL_law_293 : decode cL_law 293 = .ok (.aload_n 2, 1) := by decide +kernel
theorem dL_law_294 : decode cL_law 294 = .ok (.aload_n 0, 1) := by decide +kernel
theorem dL_law_295 : decode cL_law 295 = .ok (.iload 4, 2) := by decide +kernel
theorem dL_law_297 : decode cL_law 297 = .ok (.iconst 1, 1) := by decide +kernel
theorem dL_law_298 : decode cL_law 298 = .ok (.iadd, 1) := by decide +kernel
theorem dL_law_299 : decode cL_law 299 = .ok (.iaload, 1) := by decide +kernel
theorem dL_law_300 : decode cL_law 300 = .ok (.aload_n 0, 1) := by decide +kernel
theorem dL_law_301 : decode cL_law 301 = .ok (.iload 4, 2) := by decide +kernel
theorem dL_law_303 : decode cL_law 303 = .ok (.iconst 2, 1) := by decide +kernel
theorem dL_law_304 : decode cL_law 304 = .ok (.iadd, 1) := by decide +kernel
theorem dL_law_305 : decode cL_law 305 = .ok (.iaload, 1) := by decide +kernel
theorem dL_law_306 : decode cL_law 306 = .ok (.invokevirtual 50, 3) := by decide +kernel
theorem dL_law_309 : decode cL_law 309 = .ok (.if_icmp .eq 510, 3) := by decide +kernel
theorem dL_law_312 : decode cL_law 312 = .ok (.iconst 0, 1) := by decide +kernel
theorem dL_law_313 : decode cL_law 313 = .ok (.ireturn, 1) := by decide +kernel
theorem dL_law_314 : decode cL_law 314 = .ok (.aload_n 1, 1) := by decide +kernel
theorem dL_law_315 : decode cL_law 315 = .ok (.aload_n 0, 1) := by decide +kernel
theorem dL_law_316 : decode cL_law 316 = .ok (.iload 4, 2) := by decide +kernel
theorem dL_law_318 : decode cL_law 318 = .ok (.iconst 1, 1) := by decide +kernel
theorem dL_law_319 : decode cL_law 319 = .ok (.iadd, 1) := by decide +kernel
theorem dL_law_320 : decode cL_law 320 = .ok (.iaload, 1) := by decide +kernel
theorem dL_law_321 : decode cL_law 321 = .ok (.invokevirtual 51, 3) := by decide +kernel
theorem dL_law_324 : decode cL_law 324 = .ok (.aload_n 2, 1) := by decide +kernel
theorem dL_law_325 : decode cL_law 325 = .ok (.aload_n 0, 1) := by decide +kernel
theorem dL_law_326 : decode cL_law 326 = .ok (.iload 4, 2) := by decide +kernel
theorem dL_law_328 : decode cL_law 328 = .ok (.iconst 1, 1) := by decide +kernel
theorem dL_law_329 : decode cL_law 329 = .ok (.iadd, 1) := by decide +kernel
theorem dL_law_330 : decode cL_law 330 = .ok (.iaload, 1) := by decide +kernel
theorem dL_law_331 : decode cL_law 331 = .ok (.invokevirtual 54, 3) := by decide +kernel
theorem dL_law_334 : decode cL_law 334 = .ok (.if_icmp .eq 485, 3) := by decide +kernel
theorem dL_law_337 : decode cL_law 337 = .ok (.iconst 0, 1) := by decide +kernel
theorem dL_law_338 : decode cL_law 338 = .ok (.ireturn, 1) := by decide +kernel
theorem dL_law_339 : decode cL_law 339 = .ok (.aload_n 1, 1) := by decide +kernel
theorem dL_law_340 : decode cL_law 340 = .ok (.aload_n 0, 1) := by decide +kernel
theorem dL_law_341 : decode cL_law 341 = .ok (.iload 4, 2) := by decide +kernel
theorem dL_law_343 : decode cL_law 343 = .ok (.iconst 1, 1) := by decide +kernel
theorem dL_law_344 : decode cL_law 344 = .ok (.iadd, 1) := by decide +kernel
theorem dL_law_345 : decode cL_law 345 = .ok (.iaload, 1) := by decide +kernel
theorem dL_law_346 : decode cL_law 346 = .ok (.invokevirtual 55, 3) := by decide +kernel
theorem dL_law_349 : decode cL_law 349 = .ok (.aload_n 2, 1) := by decide +kernel
theorem dL_law_350 : decode cL_law 350 = .ok (.aload_n 0, 1) := by decide +kernel
theorem dL_law_351 : decode cL_law 351 = .ok (.iload 4, 2) := by decide +kernel
theorem dL_law_353 : decode cL_law 353 = .ok (.iconst 1, 1) := by decide +kernel
theorem dL_law_354 : decode cL_law 354 = .ok (.iadd, 1) := by decide +kernel
theorem dL_law_355 : decode cL_law 355 = .ok (.iaload, 1) := by decide +kernel
theorem dL_law_356 : decode cL_law 356 = .ok (.invokevirtual 58, 3) := by decide +kernel
theorem dL_law_359 : decode cL_law 359 = .ok (.if_icmp .eq 460, 3) := by decide +kernel
theorem dL_law_362 : decode cL_law 362 = .ok (.iconst 0, 1) := by decide +kernel
theorem dL_law_363 : decode cL_law 363 = .ok (.ireturn, 1) := by decide +kernel
theorem dL_law_364 : decode cL_law 364 = .ok (.aload_n 1, 1) := by decide +kernel
theorem dL_law_365 : decode cL_law 365 = .ok (.aload_n 0, 1) := by decide +kernel
theorem dL_law_366 : decode cL_law 366 = .ok (.iload 4, 2) := by decide +kernel
theorem dL_law_368 : decode cL_law 368 = .ok (.iconst 1, 1) := by decide +kernel
theorem dL_law_369 : decode cL_law 369 = .ok (.iadd, 1) := by decide +kernel
theorem dL_law_370 : decode cL_law 370 = .ok (.iaload, 1) := by decide +kernel
theorem dL_law_371 : decode cL_law 371 = .ok (.aload_n 0, 1) := by decide +kernel
theorem dL_law_372 : decode cL_law 372 = .ok (.iload 4, 2) := by decide +kernel
theorem dL_law_374 : decode cL_law 374 = .ok (.iconst 2, 1) := by decide +kernel
theorem dL_law_375 : decode cL_law 375 = .ok (.iadd, 1) := by decide +kernel
theorem dL_law_376 : decode cL_law 376 = .ok (.iaload, 1) := by decide +kernel
theorem dL_law_377 : decode cL_law 377 = .ok (.aload_n 0, 1) := by decide +kernel
theorem dL_law_378 : decode cL_law 378 = .ok (.iload 4, 2) := by decide +kernel
theorem dL_law_380 : decode cL_law 380 = .ok (.iconst 3, 1) := by decide +kernel
theorem dL_law_381 : decode cL_law 381 = .ok (.iadd, 1) := by decide +kernel
theorem dL_law_382 : decode cL_law 382 = .ok (.iaload, 1) := by decide +kernel
theorem dL_law_383 : decode cL_law 383 = .ok (.invokevirtual 59, 3) := by decide +kernel
theorem dL_law_386 : decode cL_law 386 = .ok (.aload_n 2, 1) := by decide +kernel
theorem dL_law_387 : decode cL_law 387 = .ok (.aload_n 0, 1) := by decide +kernel
theorem dL_law_388 : decode cL_law 388 = .ok (.iload 4, 2) := by decide +kernel
theorem dL_law_390 : decode cL_law 390 = .ok (.iconst 1, 1) := by decide +kernel
theorem dL_law_391 : decode cL_law 391 = .ok (.iadd, 1) := by decide +kernel
theorem dL_law_392 : decode cL_law 392 = .ok (.iaload, 1) := by decide +kernel
theorem dL_law_393 : decode cL_law 393 = .ok (.aload_n 0, 1) := by decide +kernel
theorem dL_law_394 : decode cL_law 394 = .ok (.iload 4, 2) := by decide +kernel
theorem dL_law_396 : decode cL_law 396 = .ok (.iconst 2, 1) := by decide +kernel
theorem dL_law_397 : decode cL_law 397 = .ok (.iadd, 1) := by decide +kernel
theorem dL_law_398 : decode cL_law 398 = .ok (.iaload, 1) := by decide +kernel
theorem dL_law_399 : decode cL_law 399 = .ok (.aload_n 0, 1) := by decide +kernel
theorem dL_law_400 : decode cL_law 400 = .ok (.iload 4, 2) := by decide +kernel
theorem dL_law_402 : decode cL_law 402 = .ok (.iconst 3, 1) := by decide +kernel
theorem dL_law_403 : decode cL_law 403 = .ok (.iadd, 1) := by decide +kernel
theorem dL_law_404 : decode cL_law 404 = .ok (.iaload, 1) := by decide +kernel
theorem dL_law_405 : decode cL_law 405 = .ok (.invokevirtual 63, 3) := by decide +kernel
theorem dL_law_408 : decode cL_law 408 = .ok (.if_icmp .eq 411, 3) := by decide +kernel
theorem dL_law_411 : decode cL_law 411 = .ok (.iconst 0, 1) := by decide +kernel
theorem dL_law_412 : decode cL_law 412 = .ok (.ireturn, 1) := by decide +kernel
theorem dL_law_413 : decode cL_law 413 = .ok (.aload_n 1, 1) := by decide +kernel
theorem dL_law_414 : decode cL_law 414 = .ok (.aload_n 0, 1) := by decide +kernel
theorem dL_law_415 : decode cL_law 415 = .ok (.iload 4, 2) := by decide +kernel
theorem dL_law_417 : decode cL_law 417 = .ok (.iconst 1, 1) := by decide +kernel
theorem dL_law_418 : decode cL_law 418 = .ok (.iadd, 1) := by decide +kernel
theorem dL_law_419 : decode cL_law 419 = .ok (.iaload, 1) := by decide +kernel
theorem dL_law_420 : decode cL_law 420 = .ok (.aload_n 0, 1) := by decide +kernel
theorem dL_law_421 : decode cL_law 421 = .ok (.iload 4, 2) := by decide +kernel
theorem dL_law_423 : decode cL_law 423 = .ok (.iconst 2, 1) := by decide +kernel
theorem dL_law_424 : decode cL_law 424 = .ok (.iadd, 1) := by decide +kernel
theorem dL_law_425 : decode cL_law 425 = .ok (.iaload, 1) := by decide +kernel
theorem dL_law_426 : decode cL_law 426 = .ok (.aload_n 0, 1) := by decide +kernel
theorem dL_law_427 : decode cL_law 427 = .ok (.iload 4, 2) := by decide +kernel
theorem dL_law_429 : decode cL_law 429 = .ok (.iconst 3, 1) := by decide +kernel
theorem dL_law_430 : decode cL_law 430 = .ok (.iadd, 1) := by decide +kernel
theorem dL_law_431 : decode cL_law 431 = .ok (.iaload, 1) := by decide +kernel
theorem dL_law_432 : decode cL_law 432 = .ok (.invokevirtual 64, 3) := by decide +kernel
theorem dL_law_435 : decode cL_law 435 = .ok (.aload_n 2, 1) := by decide +kernel
theorem dL_law_436 : decode cL_law 436 = .ok (.aload_n 0, 1) := by decide +kernel
theorem dL_law_437 : decode cL_law 437 = .ok (.iload 4, 2) := by decide +kernel
theorem dL_law_439 : decode cL_law 439 = .ok (.iconst 1, 1) := by decide +kernel
theorem dL_law_440 : decode cL_law 440 = .ok (.iadd, 1) := by decide +kernel
theorem dL_law_441 : decode cL_law 441 = .ok (.iaload, 1) := by decide +kernel
theorem dL_law_442 : decode cL_law 442 = .ok (.aload_n 0, 1) := by decide +kernel
theorem dL_law_443 : decode cL_law 443 = .ok (.iload 4, 2) := by decide +kernel
theorem dL_law_445 : decode cL_law 445 = .ok (.iconst 2, 1) := by decide +kernel
theorem dL_law_446 : decode cL_law 446 = .ok (.iadd, 1) := by decide +kernel
theorem dL_law_447 : decode cL_law 447 = .ok (.iaload, 1) := by decide +kernel
theorem dL_law_448 : decode cL_law 448 = .ok (.aload_n 0, 1) := by decide +kernel
theorem dL_law_449 : decode cL_law 449 = .ok (.iload 4, 2) := by decide +kernel
theorem dL_law_451 : decode cL_law 451 = .ok (.iconst 3, 1) := by decide +kernel
theorem dL_law_452 : decode cL_law 452 = .ok (.iadd, 1) := by decide +kernel
theorem dL_law_453 : decode cL_law 453 = .ok (.iaload, 1) := by decide +kernel
theorem dL_law_454 : decode cL_law 454 = .ok (.invokevirtual 67, 3) := by decide +kernel
theorem dL_law_457 : decode cL_law 457 = .ok (.if_icmp .eq 362, 3) := by decide +kernel
theorem dL_law_460 : decode cL_law 460 = .ok (.iconst 0, 1) := by decide +kernel
theorem dL_law_461 : decode cL_law 461 = .ok (.ireturn, 1) := by decide +kernel
theorem dL_law_462 : decode cL_law 462 = .ok (.aload_n 1, 1) := by decide +kernel
theorem dL_law_463 : decode cL_law 463 = .ok (.invokevirtual 68, 3) := by decide +kernel
theorem dL_law_466 : decode cL_law 466 = .ok (.aload_n 2, 1) := by decide +kernel
theorem dL_law_467 : decode cL_law 467 = .ok (.invokevirtual 71, 3) := by decide +kernel
theorem dL_law_470 : decode cL_law 470 = .ok (.if_icmp .eq 349, 3) := by decide +kernel
theorem dL_law_473 : decode cL_law 473 = .ok (.iconst 0, 1) := by decide +kernel
theorem dL_law_474 : decode cL_law 474 = .ok (.ireturn, 1) := by decide +kernel
theorem dL_law_475 : decode cL_law 475 = .ok (.aload_n 1, 1) := by decide +kernel
theorem dL_law_476 : decode cL_law 476 = .ok (.aload_n 0, 1) := by decide +kernel
theorem dL_law_477 : decode cL_law 477 = .ok (.iload 4, 2) := by decide +kernel
theorem dL_law_479 : decode cL_law 479 = .ok (.iconst 1, 1) := by decide +kernel
theorem dL_law_480 : decode cL_law 480 = .ok (.iadd, 1) := by decide +kernel
theorem dL_law_481 : decode cL_law 481 = .ok (.iaload, 1) := by decide +kernel
theorem dL_law_482 : decode cL_law 482 = .ok (.aload_n 0, 1) := by decide +kernel
theorem dL_law_483 : decode cL_law 483 = .ok (.iload 4, 2) := by decide +kernel
theorem dL_law_485 : decode cL_law 485 = .ok (.iconst 2, 1) := by decide +kernel
theorem dL_law_486 : decode cL_law 486 = .ok (.iadd, 1) := by decide +kernel
theorem dL_law_487 : decode cL_law 487 = .ok (.iaload, 1) := by decide +kernel
theorem dL_law_488 : decode cL_law 488 = .ok (.invokevirtual 72, 3) := by decide +kernel
theorem dL_law_491 : decode cL_law 491 = .ok (.aload_n 2, 1) := by decide +kernel
theorem dL_law_492 : decode cL_law 492 = .ok (.aload_n 0, 1) := by decide +kernel
theorem dL_law_493 : decode cL_law 493 = .ok (.iload 4, 2) := by decide +kernel
theorem dL_law_495 : decode cL_law 495 = .ok (.iconst 1, 1) := by decide +kernel
theorem dL_law_496 : decode cL_law 496 = .ok (.iadd, 1) := by decide +kernel
theorem dL_law_497 : decode cL_law 497 = .ok (.iaload, 1) := by decide +kernel
theorem dL_law_498 : decode cL_law 498 = .ok (.aload_n 0, 1) := by decide +kernel
theorem dL_law_499 : decode cL_law 499 = .ok (.iload 4, 2) := by decide +kernel
theorem dL_law_501 : decode cL_law 501 = .ok (.iconst 2, 1) := by decide +kernel
theorem dL_law_502 : decode cL_law 502 = .ok (.iadd, 1) := by decide +kernel
theorem dL_law_503 : decode cL_law 503 = .ok (.iaload, 1) := by decide +kernel
theorem dL_law_504 : decode cL_law 504 = .ok (.invokevirtual 75, 3) := by decide +kernel
theorem dL_law_507 : decode cL_law 507 = .ok (.if_icmp .eq 312, 3) := by decide +kernel
theorem dL_law_510 : decode cL_law 510 = .ok (.iconst 0, 1) := by decide +kernel
theorem dL_law_511 : decode cL_law 511 = .ok (.ireturn, 1) := by decide +kernel
theorem dL_law_512 : decode cL_law 512 = .ok (.aload_n 1, 1) := by decide +kernel
theorem dL_law_513 : decode cL_law 513 = .ok (.aload_n 0, 1) := by decide +kernel
theorem dL_law_514 : decode cL_law 514 = .ok (.iload 4, 2) := by decide +kernel
theorem dL_law_516 : decode cL_law 516 = .ok (.iconst 1, 1) := by decide +kernel
theorem dL_law_517 : decode cL_law 517 = .ok (.iadd, 1) := by decide +kernel
theorem dL_law_518 : decode cL_law 518 = .ok (.iaload, 1) := by decide +kernel
theorem dL_law_519 : decode cL_law 519 = .ok (.aload_n 0, 1) := by decide +kernel
theorem dL_law_520 : decode cL_law 520 = .ok (.iload 4, 2) := by decide +kernel
theorem dL_law_522 : decode cL_law 522 = .ok (.iconst 2, 1) := by decide +kernel
theorem dL_law_523 : decode cL_law 523 = .ok (.iadd, 1) := by decide +kernel
theorem dL_law_524 : decode cL_law 524 = .ok (.iaload, 1) := by decide +kernel
theorem dL_law_525 : decode cL_law 525 = .ok (.invokevirtual 76, 3) := by decide +kernel
theorem dL_law_528 : decode cL_law 528 = .ok (.aload_n 2, 1) := by decide +kernel
theorem dL_law_529 : decode cL_law 529 = .ok (.aload_n 0, 1) := by decide +kernel
theorem dL_law_530 : decode cL_law 530 = .ok (.iload 4, 2) := by decide +kernel
theorem dL_law_532 : decode cL_law 532 = .ok (.iconst 1, 1) := by decide +kernel
theorem dL_law_533 : decode cL_law 533 = .ok (.iadd, 1) := by decide +kernel
theorem dL_law_534 : decode cL_law 534 = .ok (.iaload, 1) := by decide +kernel
theorem dL_law_535 : decode cL_law 535 = .ok (.aload_n 0, 1) := by decide +kernel
theorem dL_law_536 : decode cL_law 536 = .ok (.iload 4, 2) := by decide +kernel
theorem dL_law_538 : decode cL_law 538 = .ok (.iconst 2, 1) := by decide +kernel
theorem dL_law_539 : decode cL_law 539 = .ok (.iadd, 1) := by decide +kernel
theorem dL_law_540 : decode cL_law 540 = .ok (.iaload, 1) := by decide +kernel
theorem dL_law_541 : decode cL_law 541 = .ok (.invokevirtual 79, 3) := by decide +kernel
theorem dL_law_544 : decode cL_law 544 = .ok (.if_icmp .eq 275, 3) := by decide +kernel
theorem dL_law_547 : decode cL_law 547 = .ok (.iconst 0, 1) := by decide +kernel
theorem dL_law_548 : decode cL_law 548 = .ok (.ireturn, 1) := by decide +kernel
theorem dL_law_549 : decode cL_law 549 = .ok (.aload_n 1, 1) := by decide +kernel
theorem dL_law_550 : decode cL_law 550 = .ok (.aload_n 0, 1) := by decide +kernel
theorem dL_law_551 : decode cL_law 551 = .ok (.iload 4, 2) := by decide +kernel
theorem dL_law_553 : decode cL_law 553 = .ok (.iconst 1, 1) := by decide +kernel
theorem dL_law_554 : decode cL_law 554 = .ok (.iadd, 1) := by decide +kernel
theorem dL_law_555 : decode cL_law 555 = .ok (.iaload, 1) := by decide +kernel
theorem dL_law_556 : decode cL_law 556 = .ok (.aload_n 0, 1) := by decide +kernel
theorem dL_law_557 : decode cL_law 557 = .ok (.iload 4, 2) := by decide +kernel
theorem dL_law_559 : decode cL_law 559 = .ok (.iconst 2, 1) := by decide +kernel
theorem dL_law_560 : decode cL_law 560 = .ok (.iadd, 1) := by decide +kernel
theorem dL_law_561 : decode cL_law 561 = .ok (.iaload, 1) := by decide +kernel
theorem dL_law_562 : decode cL_law 562 = .ok (.aload_n 3, 1) := by decide +kernel
theorem dL_law_563 : decode cL_law 563 = .ok (.invokestatic 80, 3) := by decide +kernel
theorem dL_law_566 : decode cL_law 566 = .ok (.istore 5, 2) := by decide +kernel
theorem dL_law_568 : decode cL_law 568 = .ok (.aload_n 2, 1) := by decide +kernel
theorem dL_law_569 : decode cL_law 569 = .ok (.aload_n 0, 1) := by decide +kernel
theorem dL_law_570 : decode cL_law 570 = .ok (.iload 4, 2) := by decide +kernel
theorem dL_law_572 : decode cL_law 572 = .ok (.iconst 1, 1) := by decide +kernel
theorem dL_law_573 : decode cL_law 573 = .ok (.iadd, 1) := by decide +kernel
theorem dL_law_574 : decode cL_law 574 = .ok (.iaload, 1) := by decide +kernel
theorem dL_law_575 : decode cL_law 575 = .ok (.aload_n 0, 1) := by decide +kernel
theorem dL_law_576 : decode cL_law 576 = .ok (.iload 4, 2) := by decide +kernel
theorem dL_law_578 : decode cL_law 578 = .ok (.iconst 2, 1) := by decide +kernel
theorem dL_law_579 : decode cL_law 579 = .ok (.iadd, 1) := by decide +kernel
theorem dL_law_580 : decode cL_law 580 = .ok (.iaload, 1) := by decide +kernel
theorem dL_law_581 : decode cL_law 581 = .ok (.invokevirtual 85, 3) := by decide +kernel
theorem dL_law_584 : decode cL_law 584 = .ok (.istore 6, 2) := by decide +kernel
theorem dL_law_586 : decode cL_law 586 = .ok (.aload_n 2, 1) := by decide +kernel
theorem dL_law_587 : decode cL_law 587 = .ok (.invokevirtual 86, 3) := by decide +kernel
theorem dL_law_590 : decode cL_law 590 = .ok (.iload 5, 2) := by decide +kernel
theorem dL_law_592 : decode cL_law 592 = .ok (.if_icmp .eq 5, 3) := by decide +kernel
theorem dL_law_595 : decode cL_law 595 = .ok (.iconst 0, 1) := by decide +kernel
theorem dL_law_596 : decode cL_law 596 = .ok (.ireturn, 1) := by decide +kernel
theorem dL_law_597 : decode cL_law 597 = .ok (.iload 5, 2) := by decide +kernel
theorem dL_law_599 : decode cL_law 599 = .ok (.ifCond .ne 15, 3) := by decide +kernel
theorem dL_law_602 : decode cL_law 602 = .ok (.aload_n 3, 1) := by decide +kernel
theorem dL_law_603 : decode cL_law 603 = .ok (.iconst 0, 1) := by decide +kernel
theorem dL_law_604 : decode cL_law 604 = .ok (.laload, 1) := by decide +kernel
theorem dL_law_605 : decode cL_law 605 = .ok (.iload 6, 2) := by decide +kernel
theorem dL_law_607 : decode cL_law 607 = .ok (.i2l, 1) := by decide +kernel
theorem dL_law_608 : decode cL_law 608 = .ok (.lcmp, 1) := by decide +kernel
theorem dL_law_609 : decode cL_law 609 = .ok (.ifCond .eq 5, 3) := by decide +kernel
theorem dL_law_612 : decode cL_law 612 = .ok (.iconst 0, 1) := by decide +kernel
theorem dL_law_613 : decode cL_law 613 = .ok (.ireturn, 1) := by decide +kernel
theorem dL_law_614 : decode cL_law 614 = .ok (.goto 205, 3) := by decide +kernel
theorem dL_law_617 : decode cL_law 617 = .ok (.aload_n 1, 1) := by decide +kernel
theorem dL_law_618 : decode cL_law 618 = .ok (.aload_n 0, 1) := by decide +kernel
theorem dL_law_619 : decode cL_law 619 = .ok (.iload 4, 2) := by decide +kernel
theorem dL_law_621 : decode cL_law 621 = .ok (.iconst 1, 1) := by decide +kernel
theorem dL_law_622 : decode cL_law 622 = .ok (.iadd, 1) := by decide +kernel
theorem dL_law_623 : decode cL_law 623 = .ok (.iaload, 1) := by decide +kernel
theorem dL_law_624 : decode cL_law 624 = .ok (.aload_n 0, 1) := by decide +kernel
theorem dL_law_625 : decode cL_law 625 = .ok (.iload 4, 2) := by decide +kernel
theorem dL_law_627 : decode cL_law 627 = .ok (.iconst 2, 1) := by decide +kernel
theorem dL_law_628 : decode cL_law 628 = .ok (.iadd, 1) := by decide +kernel
theorem dL_law_629 : decode cL_law 629 = .ok (.iaload, 1) := by decide +kernel
theorem dL_law_630 : decode cL_law 630 = .ok (.aload_n 0, 1) := by decide +kernel
theorem dL_law_631 : decode cL_law 631 = .ok (.iload 4, 2) := by decide +kernel
theorem dL_law_633 : decode cL_law 633 = .ok (.iconst 3, 1) := by decide +kernel
theorem dL_law_634 : decode cL_law 634 = .ok (.iadd, 1) := by decide +kernel
theorem dL_law_635 : decode cL_law 635 = .ok (.iaload, 1) := by decide +kernel
theorem dL_law_636 : decode cL_law 636 = .ok (.invokevirtual 89, 3) := by decide +kernel
theorem dL_law_639 : decode cL_law 639 = .ok (.aload_n 2, 1) := by decide +kernel
theorem dL_law_640 : decode cL_law 640 = .ok (.aload_n 0, 1) := by decide +kernel
theorem dL_law_641 : decode cL_law 641 = .ok (.iload 4, 2) := by decide +kernel
theorem dL_law_643 : decode cL_law 643 = .ok (.iconst 1, 1) := by decide +kernel
theorem dL_law_644 : decode cL_law 644 = .ok (.iadd, 1) := by decide +kernel
theorem dL_law_645 : decode cL_law 645 = .ok (.iaload, 1) := by decide +kernel
theorem dL_law_646 : decode cL_law 646 = .ok (.aload_n 0, 1) := by decide +kernel
theorem dL_law_647 : decode cL_law 647 = .ok (.iload 4, 2) := by decide +kernel
theorem dL_law_649 : decode cL_law 649 = .ok (.iconst 2, 1) := by decide +kernel
theorem dL_law_650 : decode cL_law 650 = .ok (.iadd, 1) := by decide +kernel
theorem dL_law_651 : decode cL_law 651 = .ok (.iaload, 1) := by decide +kernel
theorem dL_law_652 : decode cL_law 652 = .ok (.aload_n 0, 1) := by decide +kernel
theorem dL_law_653 : decode cL_law 653 = .ok (.iload 4, 2) := by decide +kernel
theorem dL_law_655 : decode cL_law 655 = .ok (.iconst 3, 1) := by decide +kernel
theorem dL_law_656 : decode cL_law 656 = .ok (.iadd, 1) := by decide +kernel
theorem dL_law_657 : decode cL_law 657 = .ok (.iaload, 1) := by decide +kernel
theorem dL_law_658 : decode cL_law 658 = .ok (.invokevirtual 92, 3) := by decide +kernel
theorem dL_law_661 : decode cL_law 661 = .ok (.if_icmp .eq 158, 3) := by decide +kernel
theorem dL_law_664 : decode cL_law 664 = .ok (.iconst 0, 1) := by decide +kernel
theorem dL_law_665 : decode cL_law 665 = .ok (.ireturn, 1) := by decide +kernel
theorem dL_law_666 : decode cL_law 666 = .ok (.aload_n 1, 1) := by decide +kernel
theorem dL_law_667 : decode cL_law 667 = .ok (.aload_n 0, 1) := by decide +kernel
theorem dL_law_668 : decode cL_law 668 = .ok (.iload 4, 2) := by decide +kernel
theorem dL_law_670 : decode cL_law 670 = .ok (.iconst 1, 1) := by decide +kernel
theorem dL_law_671 : decode cL_law 671 = .ok (.iadd, 1) := by decide +kernel
theorem dL_law_672 : decode cL_law 672 = .ok (.iaload, 1) := by decide +kernel
theorem dL_law_673 : decode cL_law 673 = .ok (.aload_n 0, 1) := by decide +kernel
theorem dL_law_674 : decode cL_law 674 = .ok (.iload 4, 2) := by decide +kernel
theorem dL_law_676 : decode cL_law 676 = .ok (.iconst 2, 1) := by decide +kernel
theorem dL_law_677 : decode cL_law 677 = .ok (.iadd, 1) := by decide +kernel
theorem dL_law_678 : decode cL_law 678 = .ok (.iaload, 1) := by decide +kernel
theorem dL_law_679 : decode cL_law 679 = .ok (.invokevirtual 93, 3) := by decide +kernel
theorem dL_law_682 : decode cL_law 682 = .ok (.aload_n 2, 1) := by decide +kernel
theorem dL_law_683 : decode cL_law 683 = .ok (.aload_n 0, 1) := by decide +kernel
theorem dL_law_684 : decode cL_law 684 = .ok (.iload 4, 2) := by decide +kernel
theorem dL_law_686 : decode cL_law 686 = .ok (.iconst 1, 1) := by decide +kernel
theorem dL_law_687 : decode cL_law 687 = .ok (.iadd, 1) := by decide +kernel
theorem dL_law_688 : decode cL_law 688 = .ok (.iaload, 1) := by decide +kernel
theorem dL_law_689 : decode cL_law 689 = .ok (.aload_n 0, 1) := by decide +kernel
theorem dL_law_690 : decode cL_law 690 = .ok (.iload 4, 2) := by decide +kernel
theorem dL_law_692 : decode cL_law 692 = .ok (.iconst 2, 1) := by decide +kernel
theorem dL_law_693 : decode cL_law 693 = .ok (.iadd, 1) := by decide +kernel
theorem dL_law_694 : decode cL_law 694 = .ok (.iaload, 1) := by decide +kernel
theorem dL_law_695 : decode cL_law 695 = .ok (.invokevirtual 96, 3) := by decide +kernel
theorem dL_law_698 : decode cL_law 698 = .ok (.if_icmp .eq 121, 3) := by decide +kernel
theorem dL_law_701 : decode cL_law 701 = .ok (.iconst 0, 1) := by decide +kernel
theorem dL_law_702 : decode cL_law 702 = .ok (.ireturn, 1) := by decide +kernel
theorem dL_law_703 : decode cL_law 703 = .ok (.aload_n 1, 1) := by decide +kernel
theorem dL_law_704 : decode cL_law 704 = .ok (.aload_n 0, 1) := by decide +kernel
theorem dL_law_705 : decode cL_law 705 = .ok (.iload 4, 2) := by decide +kernel
theorem dL_law_707 : decode cL_law 707 = .ok (.iconst 1, 1) := by decide +kernel
theorem dL_law_708 : decode cL_law 708 = .ok (.iadd, 1) := by decide +kernel
theorem dL_law_709 : decode cL_law 709 = .ok (.iaload, 1) := by decide +kernel
theorem dL_law_710 : decode cL_law 710 = .ok (.aload_n 0, 1) := by decide +kernel
theorem dL_law_711 : decode cL_law 711 = .ok (.iload 4, 2) := by decide +kernel
theorem dL_law_713 : decode cL_law 713 = .ok (.iconst 2, 1) := by decide +kernel
theorem dL_law_714 : decode cL_law 714 = .ok (.iadd, 1) := by decide +kernel
theorem dL_law_715 : decode cL_law 715 = .ok (.iaload, 1) := by decide +kernel
theorem dL_law_716 : decode cL_law 716 = .ok (.aload_n 0, 1) := by decide +kernel
theorem dL_law_717 : decode cL_law 717 = .ok (.iload 4, 2) := by decide +kernel
theorem dL_law_719 : decode cL_law 719 = .ok (.iconst 3, 1) := by decide +kernel
theorem dL_law_720 : decode cL_law 720 = .ok (.iadd, 1) := by decide +kernel
theorem dL_law_721 : decode cL_law 721 = .ok (.iaload, 1) := by decide +kernel
theorem dL_law_722 : decode cL_law 722 = .ok (.aload_n 0, 1) := by decide +kernel
theorem dL_law_723 : decode cL_law 723 = .ok (.iload 4, 2) := by decide +kernel
theorem dL_law_725 : decode cL_law 725 = .ok (.iconst 4, 1) := by decide +kernel
theorem dL_law_726 : decode cL_law 726 = .ok (.iadd, 1) := by decide +kernel
theorem dL_law_727 : decode cL_law 727 = .ok (.iaload, 1) := by decide +kernel
theorem dL_law_728 : decode cL_law 728 = .ok (.aload_n 3, 1) := by decide +kernel
theorem dL_law_729 : decode cL_law 729 = .ok (.invokestatic 97, 3) := by decide +kernel
theorem dL_law_732 : decode cL_law 732 = .ok (.istore 5, 2) := by decide +kernel
theorem dL_law_734 : decode cL_law 734 = .ok (.aload_n 2, 1) := by decide +kernel
theorem dL_law_735 : decode cL_law 735 = .ok (.aload_n 0, 1) := by decide +kernel
theorem dL_law_736 : decode cL_law 736 = .ok (.iload 4, 2) := by decide +kernel
theorem dL_law_738 : decode cL_law 738 = .ok (.iconst 1, 1) := by decide +kernel
theorem dL_law_739 : decode cL_law 739 = .ok (.iadd, 1) := by decide +kernel
theorem dL_law_740 : decode cL_law 740 = .ok (.iaload, 1) := by decide +kernel
theorem dL_law_741 : decode cL_law 741 = .ok (.aload_n 0, 1) := by decide +kernel
theorem dL_law_742 : decode cL_law 742 = .ok (.iload 4, 2) := by decide +kernel
theorem dL_law_744 : decode cL_law 744 = .ok (.iconst 2, 1) := by decide +kernel
theorem dL_law_745 : decode cL_law 745 = .ok (.iadd, 1) := by decide +kernel
theorem dL_law_746 : decode cL_law 746 = .ok (.iaload, 1) := by decide +kernel
theorem dL_law_747 : decode cL_law 747 = .ok (.aload_n 0, 1) := by decide +kernel
theorem dL_law_748 : decode cL_law 748 = .ok (.iload 4, 2) := by decide +kernel
theorem dL_law_750 : decode cL_law 750 = .ok (.iconst 3, 1) := by decide +kernel
theorem dL_law_751 : decode cL_law 751 = .ok (.iadd, 1) := by decide +kernel
theorem dL_law_752 : decode cL_law 752 = .ok (.iaload, 1) := by decide +kernel
theorem dL_law_753 : decode cL_law 753 = .ok (.aload_n 0, 1) := by decide +kernel
theorem dL_law_754 : decode cL_law 754 = .ok (.iload 4, 2) := by decide +kernel
theorem dL_law_756 : decode cL_law 756 = .ok (.iconst 4, 1) := by decide +kernel
theorem dL_law_757 : decode cL_law 757 = .ok (.iadd, 1) := by decide +kernel
theorem dL_law_758 : decode cL_law 758 = .ok (.iaload, 1) := by decide +kernel
theorem dL_law_759 : decode cL_law 759 = .ok (.invokevirtual 100, 3) := by decide +kernel
theorem dL_law_762 : decode cL_law 762 = .ok (.lstore 6, 2) := by decide +kernel
theorem dL_law_764 : decode cL_law 764 = .ok (.aload_n 2, 1) := by decide +kernel
theorem dL_law_765 : decode cL_law 765 = .ok (.invokevirtual 86, 3) := by decide +kernel
theorem dL_law_768 : decode cL_law 768 = .ok (.iload 5, 2) := by decide +kernel
theorem dL_law_770 : decode cL_law 770 = .ok (.if_icmp .eq 5, 3) := by decide +kernel
theorem dL_law_773 : decode cL_law 773 = .ok (.iconst 0, 1) := by decide +kernel
theorem dL_law_774 : decode cL_law 774 = .ok (.ireturn, 1) := by decide +kernel
theorem dL_law_775 : decode cL_law 775 = .ok (.iload 5, 2) := by decide +kernel
theorem dL_law_777 : decode cL_law 777 = .ok (.ifCond .ne 14, 3) := by decide +kernel
theorem dL_law_780 : decode cL_law 780 = .ok (.aload_n 3, 1) := by decide +kernel
theorem dL_law_781 : decode cL_law 781 = .ok (.iconst 0, 1) := by decide +kernel
theorem dL_law_782 : decode cL_law 782 = .ok (.laload, 1) := by decide +kernel
theorem dL_law_783 : decode cL_law 783 = .ok (.lload 6, 2) := by decide +kernel
theorem dL_law_785 : decode cL_law 785 = .ok (.lcmp, 1) := by decide +kernel
theorem dL_law_786 : decode cL_law 786 = .ok (.ifCond .eq 5, 3) := by decide +kernel
theorem dL_law_789 : decode cL_law 789 = .ok (.iconst 0, 1) := by decide +kernel
theorem dL_law_790 : decode cL_law 790 = .ok (.ireturn, 1) := by decide +kernel
theorem dL_law_791 : decode cL_law 791 = .ok (.goto 28, 3) := by decide +kernel
theorem dL_law_794 : decode cL_law 794 = .ok (.aload_n 1, 1) := by decide +kernel
theorem dL_law_795 : decode cL_law 795 = .ok (.aload_n 0, 1) := by decide +kernel
theorem dL_law_796 : decode cL_law 796 = .ok (.iload 4, 2) := by decide +kernel
theorem dL_law_798 : decode cL_law 798 = .ok (.iconst 1, 1) := by decide +kernel
theorem dL_law_799 : decode cL_law 799 = .ok (.iadd, 1) := by decide +kernel
theorem dL_law_800 : decode cL_law 800 = .ok (.iaload, 1) := by decide +kernel
theorem dL_law_801 : decode cL_law 801 = .ok (.invokevirtual 101, 3) := by decide +kernel
theorem dL_law_804 : decode cL_law 804 = .ok (.aload_n 2, 1) := by decide +kernel
theorem dL_law_805 : decode cL_law 805 = .ok (.aload_n 0, 1) := by decide +kernel
theorem dL_law_806 : decode cL_law 806 = .ok (.iload 4, 2) := by decide +kernel
theorem dL_law_808 : decode cL_law 808 = .ok (.iconst 1, 1) := by decide +kernel
theorem dL_law_809 : decode cL_law 809 = .ok (.iadd, 1) := by decide +kernel
theorem dL_law_810 : decode cL_law 810 = .ok (.iaload, 1) := by decide +kernel
theorem dL_law_811 : decode cL_law 811 = .ok (.invokevirtual 104, 3) := by decide +kernel
theorem dL_law_814 : decode cL_law 814 = .ok (.if_icmp .eq 5, 3) := by decide +kernel
theorem dL_law_817 : decode cL_law 817 = .ok (.iconst 0, 1) := by decide +kernel
theorem dL_law_818 : decode cL_law 818 = .ok (.ireturn, 1) := by decide +kernel
theorem dL_law_819 : decode cL_law 819 = .ok (.iinc 4 6, 3) := by decide +kernel
theorem dL_law_822 : decode cL_law 822 = .ok (.goto (-799), 3) := by decide +kernel
theorem dL_law_825 : decode cL_law 825 = .ok (.iconst 1, 1) := by decide +kernel
theorem dL_law_826 : decode cL_law 826 = .ok (.ireturn, 1) := by decide +kernel
