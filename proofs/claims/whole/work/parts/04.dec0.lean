theorem dX0_init_0 : decode cX0_init 0 = .ok (.aload_n 0, 1) := by decide +kernel
theorem dX0_init_1 : decode cX0_init 1 = .ok (.invokespecial 3, 3) := by decide +kernel
theorem dX0_init_4 : decode cX0_init 4 = .ok (.aload_n 0, 1) := by decide +kernel
theorem dX0_init_5 : decode cX0_init 5 = .ok (.bipush 28, 2) := by decide +kernel
theorem dX0_init_7 : decode cX0_init 7 = .ok (.newarray .int, 2) := by decide +kernel
theorem dX0_init_9 : decode cX0_init 9 = .ok (.putfield 9, 3) := by decide +kernel
theorem dX0_init_12 : decode cX0_init 12 = .ok (.aload_n 0, 1) := by decide +kernel
theorem dX0_init_13 : decode cX0_init 13 = .ok (.bipush 28, 2) := by decide +kernel
theorem dX0_init_15 : decode cX0_init 15 = .ok (.newarray .int, 2) := by decide +kernel
theorem dX0_init_17 : decode cX0_init 17 = .ok (.putfield 15, 3) := by decide +kernel
theorem dX0_init_20 : decode cX0_init 20 = .ok (.aload_n 0, 1) := by decide +kernel
theorem dX0_init_21 : decode cX0_init 21 = .ok (.bipush 28, 2) := by decide +kernel
theorem dX0_init_23 : decode cX0_init 23 = .ok (.newarray .int, 2) := by decide +kernel
theorem dX0_init_25 : decode cX0_init 25 = .ok (.putfield 18, 3) := by decide +kernel
theorem dX0_init_28 : decode cX0_init 28 = .ok (.return_, 1) := by decide +kernel
theorem dX0_cutBackTo_0 : decode cX0_cutBackTo 0 = .ok (.aload_n 0, 1) := by decide +kernel
theorem dX0_cutBackTo_1 : decode cX0_cutBackTo 1 = .ok (.getfield 9, 3) := by decide +kernel
theorem dX0_cutBackTo_4 : decode cX0_cutBackTo 4 = .ok (.invokestatic 21, 3) := by decide +kernel
theorem dX0_cutBackTo_7 : decode cX0_cutBackTo 7 = .ok (.istore_n 2, 1) := by decide +kernel
theorem dX0_cutBackTo_8 : decode cX0_cutBackTo 8 = .ok (.iload_n 1, 1) := by decide +kernel
theorem dX0_cutBackTo_9 : decode cX0_cutBackTo 9 = .ok (.iload_n 2, 1) := by decide +kernel
theorem dX0_cutBackTo_10 : decode cX0_cutBackTo 10 = .ok (.invokestatic 25, 3) := by decide +kernel
theorem dX0_cutBackTo_13 : decode cX0_cutBackTo 13 = .ok (.istore_n 3, 1) := by decide +kernel
theorem dX0_cutBackTo_14 : decode cX0_cutBackTo 14 = .ok (.iconst 0, 1) := by decide +kernel
theorem dX0_cutBackTo_15 : decode cX0_cutBackTo 15 = .ok (.istore 4, 2) := by decide +kernel
theorem dX0_cutBackTo_17 : decode cX0_cutBackTo 17 = .ok (.iconst 0, 1) := by decide +kernel
theorem dX0_cutBackTo_18 : decode cX0_cutBackTo 18 = .ok (.istore 5, 2) := by decide +kernel
theorem dX0_cutBackTo_20 : decode cX0_cutBackTo 20 = .ok (.iload 5, 2) := by decide +kernel
theorem dX0_cutBackTo_22 : decode cX0_cutBackTo 22 = .ok (.bipush 28, 2) := by decide +kernel
theorem dX0_cutBackTo_24 : decode cX0_cutBackTo 24 = .ok (.if_icmp .ge 70, 3) := by decide +kernel
theorem dX0_cutBackTo_27 : decode cX0_cutBackTo 27 = .ok (.aload_n 0, 1) := by decide +kernel
theorem dX0_cutBackTo_28 : decode cX0_cutBackTo 28 = .ok (.getfield 9, 3) := by decide +kernel
theorem dX0_cutBackTo_31 : decode cX0_cutBackTo 31 = .ok (.iload 5, 2) := by decide +kernel
theorem dX0_cutBackTo_33 : decode cX0_cutBackTo 33 = .ok (.iaload, 1) := by decide +kernel
theorem dX0_cutBackTo_34 : decode cX0_cutBackTo 34 = .ok (.iload_n 3, 1) := by decide +kernel
theorem dX0_cutBackTo_35 : decode cX0_cutBackTo 35 = .ok (.imul, 1) := by decide +kernel
theorem dX0_cutBackTo_36 : decode cX0_cutBackTo 36 = .ok (.istore 6, 2) := by decide +kernel
theorem dX0_cutBackTo_38 : decode cX0_cutBackTo 38 = .ok (.aload_n 0, 1) := by decide +kernel
theorem dX0_cutBackTo_39 : decode cX0_cutBackTo 39 = .ok (.getfield 15, 3) := by decide +kernel
theorem dX0_cutBackTo_42 : decode cX0_cutBackTo 42 = .ok (.iload 5, 2) := by decide +kernel
theorem dX0_cutBackTo_44 : decode cX0_cutBackTo 44 = .ok (.iload_n 2, 1) := by decide +kernel
theorem dX0_cutBackTo_45 : decode cX0_cutBackTo 45 = .ok (.ifCond .le 10, 3) := by decide +kernel
theorem dX0_cutBackTo_48 : decode cX0_cutBackTo 48 = .ok (.iload 6, 2) := by decide +kernel
theorem dX0_cutBackTo_50 : decode cX0_cutBackTo 50 = .ok (.iload_n 2, 1) := by decide +kernel
theorem dX0_cutBackTo_51 : decode cX0_cutBackTo 51 = .ok (.idiv, 1) := by decide +kernel
theorem dX0_cutBackTo_52 : decode cX0_cutBackTo 52 = .ok (.goto 4, 3) := by decide +kernel
theorem dX0_cutBackTo_55 : decode cX0_cutBackTo 55 = .ok (.iconst 0, 1) := by decide +kernel
theorem dX0_cutBackTo_56 : decode cX0_cutBackTo 56 = .ok (.iastore, 1) := by decide +kernel
theorem dX0_cutBackTo_57 : decode cX0_cutBackTo 57 = .ok (.aload_n 0, 1) := by decide +kernel
theorem dX0_cutBackTo_58 : decode cX0_cutBackTo 58 = .ok (.getfield 18, 3) := by decide +kernel
theorem dX0_cutBackTo_61 : decode cX0_cutBackTo 61 = .ok (.iload 5, 2) := by decide +kernel
theorem dX0_cutBackTo_63 : decode cX0_cutBackTo 63 = .ok (.iload_n 2, 1) := by decide +kernel
theorem dX0_cutBackTo_64 : decode cX0_cutBackTo 64 = .ok (.ifCond .le 10, 3) := by decide +kernel
theorem dX0_cutBackTo_67 : decode cX0_cutBackTo 67 = .ok (.iload 6, 2) := by decide +kernel
theorem dX0_cutBackTo_69 : decode cX0_cutBackTo 69 = .ok (.iload_n 2, 1) := by decide +kernel
theorem dX0_cutBackTo_70 : decode cX0_cutBackTo 70 = .ok (.irem, 1) := by decide +kernel
theorem dX0_cutBackTo_71 : decode cX0_cutBackTo 71 = .ok (.goto 4, 3) := by decide +kernel
theorem dX0_cutBackTo_74 : decode cX0_cutBackTo 74 = .ok (.iconst 0, 1) := by decide +kernel
theorem dX0_cutBackTo_75 : decode cX0_cutBackTo 75 = .ok (.iastore, 1) := by decide +kernel
theorem dX0_cutBackTo_76 : decode cX0_cutBackTo 76 = .ok (.iload 4, 2) := by decide +kernel
theorem dX0_cutBackTo_78 : decode cX0_cutBackTo 78 = .ok (.aload_n 0, 1) := by decide +kernel
theorem dX0_cutBackTo_79 : decode cX0_cutBackTo 79 = .ok (.getfield 15, 3) := by decide +kernel
theorem dX0_cutBackTo_82 : decode cX0_cutBackTo 82 = .ok (.iload 5, 2) := by decide +kernel
theorem dX0_cutBackTo_84 : decode cX0_cutBackTo 84 = .ok (.iaload, 1) := by decide +kernel
theorem dX0_cutBackTo_85 : decode cX0_cutBackTo 85 = .ok (.iadd, 1) := by decide +kernel
theorem dX0_cutBackTo_86 : decode cX0_cutBackTo 86 = .ok (.istore 4, 2) := by decide +kernel
theorem dX0_cutBackTo_88 : decode cX0_cutBackTo 88 = .ok (.iinc 5 1, 3) := by decide +kernel
theorem dX0_cutBackTo_91 : decode cX0_cutBackTo 91 = .ok (.goto (-71), 3) := by decide +kernel
theorem dX0_cutBackTo_94 : decode cX0_cutBackTo 94 = .ok (.iload 4, 2) := by decide +kernel
theorem dX0_cutBackTo_96 : decode cX0_cutBackTo 96 = .ok (.istore 5, 2) := by decide +kernel
theorem dX0_cutBackTo_98 : decode cX0_cutBackTo 98 = .ok (.iload 5, 2) := by decide +kernel
theorem dX0_cutBackTo_100 : decode cX0_cutBackTo 100 = .ok (.iload_n 3, 1) := by decide +kernel
theorem dX0_cutBackTo_101 : decode cX0_cutBackTo 101 = .ok (.if_icmp .ge 13, 3) := by decide +kernel
theorem dX0_cutBackTo_104 : decode cX0_cutBackTo 104 = .ok (.aload_n 0, 1) := by decide +kernel
theorem dX0_cutBackTo_105 : decode cX0_cutBackTo 105 = .ok (.invokevirtual 31, 3) := by decide +kernel
theorem dX0_cutBackTo_108 : decode cX0_cutBackTo 108 = .ok (.iinc 5 1, 3) := by decide +kernel
theorem dX0_cutBackTo_111 : decode cX0_cutBackTo 111 = .ok (.goto (-13), 3) := by decide +kernel
theorem dX0_cutBackTo_114 : decode cX0_cutBackTo 114 = .ok (.return_, 1) := by decide +kernel
theorem dX0_giveOneToGreatestRest_0 : decode cX0_giveOneToGreatestRest 0 = .ok (.iconst 0, 1) := by decide +kernel
theorem dX0_giveOneToGreatestRest_1 : decode cX0_giveOneToGreatestRest 1 = .ok (.istore_n 1, 1) := by decide +kernel
theorem dX0_giveOneToGreatestRest_2 : decode cX0_giveOneToGreatestRest 2 = .ok (.iconst 1, 1) := by decide +kernel
theorem dX0_giveOneToGreatestRest_3 : decode cX0_giveOneToGreatestRest 3 = .ok (.istore_n 2, 1) := by decide +kernel
theorem dX0_giveOneToGreatestRest_4 : decode cX0_giveOneToGreatestRest 4 = .ok (.iload_n 2, 1) := by decide +kernel
theorem dX0_giveOneToGreatestRest_5 : decode cX0_giveOneToGreatestRest 5 = .ok (.bipush 28, 2) := by decide +kernel
theorem dX0_giveOneToGreatestRest_7 : decode cX0_giveOneToGreatestRest 7 = .ok (.if_icmp .ge 26, 3) := by decide +kernel
theorem dX0_giveOneToGreatestRest_10 : decode cX0_giveOneToGreatestRest 10 = .ok (.aload_n 0, 1) := by decide +kernel
theorem dX0_giveOneToGreatestRest_11 : decode cX0_giveOneToGreatestRest 11 = .ok (.getfield 18, 3) := by decide +kernel
theorem dX0_giveOneToGreatestRest_14 : decode cX0_giveOneToGreatestRest 14 = .ok (.iload_n 2, 1) := by decide +kernel
theorem dX0_giveOneToGreatestRest_15 : decode cX0_giveOneToGreatestRest 15 = .ok (.iaload, 1) := by decide +kernel
theorem dX0_giveOneToGreatestRest_16 : decode cX0_giveOneToGreatestRest 16 = .ok (.aload_n 0, 1) := by decide +kernel
theorem dX0_giveOneToGreatestRest_17 : decode cX0_giveOneToGreatestRest 17 = .ok (.getfield 18, 3) := by decide +kernel
theorem dX0_giveOneToGreatestRest_20 : decode cX0_giveOneToGreatestRest 20 = .ok (.iload_n 1, 1) := by decide +kernel
theorem dX0_giveOneToGreatestRest_21 : decode cX0_giveOneToGreatestRest 21 = .ok (.iaload, 1) := by decide +kernel
theorem dX0_giveOneToGreatestRest_22 : decode cX0_giveOneToGreatestRest 22 = .ok (.if_icmp .le 5, 3) := by decide +kernel
theorem dX0_giveOneToGreatestRest_25 : decode cX0_giveOneToGreatestRest 25 = .ok (.iload_n 2, 1) := by decide +kernel
theorem dX0_giveOneToGreatestRest_26 : decode cX0_giveOneToGreatestRest 26 = .ok (.istore_n 1, 1) := by decide +kernel
theorem dX0_giveOneToGreatestRest_27 : decode cX0_giveOneToGreatestRest 27 = .ok (.iinc 2 1, 3) := by decide +kernel
theorem dX0_giveOneToGreatestRest_30 : decode cX0_giveOneToGreatestRest 30 = .ok (.goto (-26), 3) := by decide +kernel
theorem dX0_giveOneToGreatestRest_33 : decode cX0_giveOneToGreatestRest 33 = .ok (.aload_n 0, 1) := by decide +kernel
theorem dX0_giveOneToGreatestRest_34 : decode cX0_giveOneToGreatestRest 34 = .ok (.getfield 15, 3) := by decide +kernel
theorem dX0_giveOneToGreatestRest_37 : decode cX0_giveOneToGreatestRest 37 = .ok (.iload_n 1, 1) := by decide +kernel
theorem dX0_giveOneToGreatestRest_38 : decode cX0_giveOneToGreatestRest 38 = .ok (.dup2, 1) := by decide +kernel
theorem dX0_giveOneToGreatestRest_39 : decode cX0_giveOneToGreatestRest 39 = .ok (.iaload, 1) := by decide +kernel
theorem dX0_giveOneToGreatestRest_40 : decode cX0_giveOneToGreatestRest 40 = .ok (.iconst 1, 1) := by decide +kernel
theorem dX0_giveOneToGreatestRest_41 : decode cX0_giveOneToGreatestRest 41 = .ok (.iadd, 1) := by decide +kernel
theorem dX0_giveOneToGreatestRest_42 : decode cX0_giveOneToGreatestRest 42 = .ok (.iastore, 1) := by decide +kernel
theorem dX0_giveOneToGreatestRest_43 : decode cX0_giveOneToGreatestRest 43 = .ok (.aload_n 0, 1) := by decide +kernel
theorem dX0_giveOneToGreatestRest_44 : decode cX0_giveOneToGreatestRest 44 = .ok (.getfield 18, 3) := by decide +kernel
theorem dX0_giveOneToGreatestRest_47 : decode cX0_giveOneToGreatestRest 47 = .ok (.iload_n 1, 1) := by decide +kernel
theorem dX0_giveOneToGreatestRest_48 : decode cX0_giveOneToGreatestRest 48 = .ok (.iconst (-1), 1) := by decide +kernel
theorem dX0_giveOneToGreatestRest_49 : decode cX0_giveOneToGreatestRest 49 = .ok (.iastore, 1) := by decide +kernel
theorem dX0_giveOneToGreatestRest_50 : decode cX0_giveOneToGreatestRest 50 = .ok (.return_, 1) := by decide +kernel
theorem dX1_init_0 : decode cX1_init 0 = .ok (.aload_n 0, 1) := by decide +kernel
theorem dX1_init_1 : decode cX1_init 1 = .ok (.invokespecial 1, 3) := by decide +kernel
theorem dX1_init_4 : decode cX1_init 4 = .ok (.return_, 1) := by decide +kernel
theorem dX2_init_0 : decode cX2_init 0 = .ok (.aload_n 0, 1) := by decide +kernel
theorem dX2_init_1 : decode cX2_init 1 = .ok (.invokespecial 1, 3) := by decide +kernel
theorem dX2_init_4 : decode cX2_init 4 = .ok (.aload_n 0, 1) := by decide +kernel
theorem dX2_init_5 : decode cX2_init 5 = .ok (.lconst 1, 1) := by decide +kernel
theorem dX2_init_6 : decode cX2_init 6 = .ok (.putfield 7, 3) := by decide +kernel
theorem dX2_init_9 : decode cX2_init 9 = .ok (.aload_n 0, 1) := by decide +kernel
theorem dX2_init_10 : decode cX2_init 10 = .ok (.lload_n 1, 1) := by decide +kernel
theorem dX2_init_11 : decode cX2_init 11 = .ok (.putfield 13, 3) := by decide +kernel
theorem dX2_init_14 : decode cX2_init 14 = .ok (.return_, 1) := by decide +kernel
theorem dX2_add_0 : decode cX2_add 0 = .ok (.aload_n 0, 1) := by decide +kernel
theorem dX2_add_1 : decode cX2_add 1 = .ok (.aload_n 0, 1) := by decide +kernel
theorem dX2_add_2 : decode cX2_add 2 = .ok (.getfield 13, 3) := by decide +kernel
theorem dX2_add_5 : decode cX2_add 5 = .ok (.lload_n 3, 1) := by decide +kernel
theorem dX2_add_6 : decode cX2_add 6 = .ok (.lmul, 1) := by decide +kernel
theorem dX2_add_7 : decode cX2_add 7 = .ok (.lload_n 1, 1) := by decide +kernel
theorem dX2_add_8 : decode cX2_add 8 = .ok (.aload_n 0, 1) := by decide +kernel
theorem dX2_add_9 : decode cX2_add 9 = .ok (.getfield 7, 3) := by decide +kernel
theorem dX2_add_12 : decode cX2_add 12 = .ok (.lmul, 1) := by decide +kernel
theorem dX2_add_13 : decode cX2_add 13 = .ok (.ladd, 1) := by decide +kernel
theorem dX2_add_14 : decode cX2_add 14 = .ok (.putfield 13, 3) := by decide +kernel
theorem dX2_add_17 : decode cX2_add 17 = .ok (.aload_n 0, 1) := by decide +kernel
theorem dX2_add_18 : decode cX2_add 18 = .ok (.aload_n 0, 1) := by decide +kernel
theorem dX2_add_19 : decode cX2_add 19 = .ok (.getfield 7, 3) := by decide +kernel
theorem dX2_add_22 : decode cX2_add 22 = .ok (.lload_n 3, 1) := by decide +kernel
theorem dX2_add_23 : decode cX2_add 23 = .ok (.lmul, 1) := by decide +kernel
theorem dX2_add_24 : decode cX2_add 24 = .ok (.putfield 7, 3) := by decide +kernel
theorem dX2_add_27 : decode cX2_add 27 = .ok (.aload_n 0, 1) := by decide +kernel
theorem dX2_add_28 : decode cX2_add 28 = .ok (.invokevirtual 16, 3) := by decide +kernel
theorem dX2_add_31 : decode cX2_add 31 = .ok (.return_, 1) := by decide +kernel
theorem dX2_divideBy_0 : decode cX2_divideBy 0 = .ok (.aload_n 0, 1) := by decide +kernel
theorem dX2_divideBy_1 : decode cX2_divideBy 1 = .ok (.aload_n 0, 1) := by decide +kernel
theorem dX2_divideBy_2 : decode cX2_divideBy 2 = .ok (.getfield 7, 3) := by decide +kernel
theorem dX2_divideBy_5 : decode cX2_divideBy 5 = .ok (.lload_n 1, 1) := by decide +kernel
theorem dX2_divideBy_6 : decode cX2_divideBy 6 = .ok (.lmul, 1) := by decide +kernel
theorem dX2_divideBy_7 : decode cX2_divideBy 7 = .ok (.putfield 7, 3) := by decide +kernel
theorem dX2_divideBy_10 : decode cX2_divideBy 10 = .ok (.aload_n 0, 1) := by decide +kernel
theorem dX2_divideBy_11 : decode cX2_divideBy 11 = .ok (.invokevirtual 16, 3) := by decide +kernel
theorem dX2_divideBy_14 : decode cX2_divideBy 14 = .ok (.return_, 1) := by decide +kernel
theorem dX2_shorten_0 : decode cX2_shorten 0 = .ok (.aload_n 0, 1) := by decide +kernel
theorem dX2_shorten_1 : decode cX2_shorten 1 = .ok (.getfield 13, 3) := by decide +kernel
theorem dX2_shorten_4 : decode cX2_shorten 4 = .ok (.aload_n 0, 1) := by decide +kernel
theorem dX2_shorten_5 : decode cX2_shorten 5 = .ok (.getfield 7, 3) := by decide +kernel
theorem dX2_shorten_8 : decode cX2_shorten 8 = .ok (.invokestatic 19, 3) := by decide +kernel
theorem dX2_shorten_11 : decode cX2_shorten 11 = .ok (.lstore_n 1, 1) := by decide +kernel
theorem dX2_shorten_12 : decode cX2_shorten 12 = .ok (.lload_n 1, 1) := by decide +kernel
theorem dX2_shorten_13 : decode cX2_shorten 13 = .ok (.lconst 1, 1) := by decide +kernel
theorem dX2_shorten_14 : decode cX2_shorten 14 = .ok (.lcmp, 1) := by decide +kernel
theorem dX2_shorten_15 : decode cX2_shorten 15 = .ok (.ifCond .le 23, 3) := by decide +kernel
theorem dX2_shorten_18 : decode cX2_shorten 18 = .ok (.aload_n 0, 1) := by decide +kernel
theorem dX2_shorten_19 : decode cX2_shorten 19 = .ok (.aload_n 0, 1) := by decide +kernel
theorem dX2_shorten_20 : decode cX2_shorten 20 = .ok (.getfield 13, 3) := by decide +kernel
theorem dX2_shorten_23 : decode cX2_shorten 23 = .ok (.lload_n 1, 1) := by decide +kernel
theorem dX2_shorten_24 : decode cX2_shorten 24 = .ok (.ldiv, 1) := by decide +kernel
theorem dX2_shorten_25 : decode cX2_shorten 25 = .ok (.putfield 13, 3) := by decide +kernel
theorem dX2_shorten_28 : decode cX2_shorten 28 = .ok (.aload_n 0, 1) := by decide +kernel
theorem dX2_shorten_29 : decode cX2_shorten 29 = .ok (.aload_n 0, 1) := by decide +kernel
theorem dX2_shorten_30 : decode cX2_shorten 30 = .ok (.getfield 7, 3) := by decide +kernel
theorem dX2_shorten_33 : decode cX2_shorten 33 = .ok (.lload_n 1, 1) := by decide +kernel
theorem dX2_shorten_34 : decode cX2_shorten 34 = .ok (.ldiv, 1) := by decide +kernel
theorem dX2_shorten_35 : decode cX2_shorten 35 = .ok (.putfield 7, 3) := by decide +kernel
theorem dX2_shorten_38 : decode cX2_shorten 38 = .ok (.return_, 1) := by decide +kernel
theorem dX2_divisorInCommon_0 : decode cX2_divisorInCommon 0 = .ok (.lload_n 0, 1) := by decide +kernel
theorem dX2_divisorInCommon_1 : decode cX2_divisorInCommon 1 = .ok (.lstore 4, 2) := by decide +kernel
theorem dX2_divisorInCommon_3 : decode cX2_divisorInCommon 3 = .ok (.lload_n 2, 1) := by decide +kernel
theorem dX2_divisorInCommon_4 : decode cX2_divisorInCommon 4 = .ok (.lstore 6, 2) := by decide +kernel
theorem dX2_divisorInCommon_6 : decode cX2_divisorInCommon 6 = .ok (.iconst 0, 1) := by decide +kernel
theorem dX2_divisorInCommon_7 : decode cX2_divisorInCommon 7 = .ok (.istore 8, 2) := by decide +kernel
theorem dX2_divisorInCommon_9 : decode cX2_divisorInCommon 9 = .ok (.iload 8, 2) := by decide +kernel
theorem dX2_divisorInCommon_11 : decode cX2_divisorInCommon 11 = .ok (.bipush 100, 2) := by decide +kernel
theorem dX2_divisorInCommon_13 : decode cX2_divisorInCommon 13 = .ok (.if_icmp .ge 31, 3) := by decide +kernel
theorem dX2_divisorInCommon_16 : decode cX2_divisorInCommon 16 = .ok (.lload 6, 2) := by decide +kernel
theorem dX2_divisorInCommon_18 : decode cX2_divisorInCommon 18 = .ok (.lconst 0, 1) := by decide +kernel
theorem dX2_divisorInCommon_19 : decode cX2_divisorInCommon 19 = .ok (.lcmp, 1) := by decide +kernel
theorem dX2_divisorInCommon_20 : decode cX2_divisorInCommon 20 = .ok (.ifCond .eq 24, 3) := by decide +kernel
theorem dX2_divisorInCommon_23 : decode cX2_divisorInCommon 23 = .ok (.lload 4, 2) := by decide +kernel
theorem dX2_divisorInCommon_25 : decode cX2_divisorInCommon 25 = .ok (.lload 6, 2) := by decide +kernel
theorem dX2_divisorInCommon_27 : decode cX2_divisorInCommon 27 = .ok (.lrem, 1) := by decide +kernel
theorem dX2_divisorInCommon_28 : decode cX2_divisorInCommon 28 = .ok (.lstore 9, 2) := by decide +kernel
theorem dX2_divisorInCommon_30 : decode cX2_divisorInCommon 30 = .ok (.lload 6, 2) := by decide +kernel
theorem dX2_divisorInCommon_32 : decode cX2_divisorInCommon 32 = .ok (.lstore 4, 2) := by decide +kernel
theorem dX2_divisorInCommon_34 : decode cX2_divisorInCommon 34 = .ok (.lload 9, 2) := by decide +kernel
theorem dX2_divisorInCommon_36 : decode cX2_divisorInCommon 36 = .ok (.lstore 6, 2) := by decide +kernel
theorem dX2_divisorInCommon_38 : decode cX2_divisorInCommon 38 = .ok (.iinc 8 1, 3) := by decide +kernel
theorem dX2_divisorInCommon_41 : decode cX2_divisorInCommon 41 = .ok (.goto (-32), 3) := by decide +kernel
theorem dX2_divisorInCommon_44 : decode cX2_divisorInCommon 44 = .ok (.lload 4, 2) := by decide +kernel
theorem dX2_divisorInCommon_46 : decode cX2_divisorInCommon 46 = .ok (.lreturn, 1) := by decide +kernel
theorem dX3_init_0 : decode cX3_init 0 = .ok (.aload_n 0, 1) := by decide +kernel
theorem dX3_init_1 : decode cX3_init 1 = .ok (.invokespecial 3, 3) := by decide +kernel
theorem dX3_init_4 : decode cX3_init 4 = .ok (.aload_n 0, 1) := by decide +kernel
theorem dX3_init_5 : decode cX3_init 5 = .ok (.bipush 24, 2) := by decide +kernel
theorem dX3_init_7 : decode cX3_init 7 = .ok (.newarray .int, 2) := by decide +kernel
theorem dX3_init_9 : decode cX3_init 9 = .ok (.putfield 9, 3) := by decide +kernel
theorem dX3_init_12 : decode cX3_init 12 = .ok (.aload_n 0, 1) := by decide +kernel
theorem dX3_init_13 : decode cX3_init 13 = .ok (.iload_n 1, 1) := by decide +kernel
theorem dX3_init_14 : decode cX3_init 14 = .ok (.putfield 15, 3) := by decide +kernel
theorem dX3_init_17 : decode cX3_init 17 = .ok (.return_, 1) := by decide +kernel
theorem dX4_init_0 : decode cX4_init 0 = .ok (.aload_n 0, 1) := by decide +kernel
theorem dX4_init_1 : decode cX4_init 1 = .ok (.invokespecial 3, 3) := by decide +kernel
theorem dX4_init_4 : decode cX4_init 4 = .ok (.aload_n 0, 1) := by decide +kernel
theorem dX4_init_5 : decode cX4_init 5 = .ok (.iload_n 1, 1) := by decide +kernel
theorem dX4_init_6 : decode cX4_init 6 = .ok (.putfield 9, 3) := by decide +kernel
theorem dX4_init_9 : decode cX4_init 9 = .ok (.aload_n 0, 1) := by decide +kernel
theorem dX4_init_10 : decode cX4_init 10 = .ok (.sipush 1000, 3) := by decide +kernel
theorem dX4_init_13 : decode cX4_init 13 = .ok (.putfield 15, 3) := by decide +kernel
theorem dX4_init_16 : decode cX4_init 16 = .ok (.return_, 1) := by decide +kernel
theorem dX6_init_0 : decode cX6_init 0 = .ok (.aload_n 0, 1) := by decide +kernel
theorem dX6_init_1 : decode cX6_init 1 = .ok (.invokespecial 3, 3) := by decide +kernel
theorem dX6_init_4 : decode cX6_init 4 = .ok (.aload_n 0, 1) := by decide +kernel
theorem dX6_init_5 : decode cX6_init 5 = .ok (.getstatic 9, 3) := by decide +kernel
theorem dX6_init_8 : decode cX6_init 8 = .ok (.arraylength, 1) := by decide +kernel
theorem dX6_init_9 : decode cX6_init 9 = .ok (.newarray .int, 2) := by decide +kernel
theorem dX6_init_11 : decode cX6_init 11 = .ok (.putfield 15, 3) := by decide +kernel
theorem dX6_init_14 : decode cX6_init 14 = .ok (.aload_n 0, 1) := by decide +kernel
theorem dX6_init_15 : decode cX6_init 15 = .ok (.getstatic 9, 3) := by decide +kernel
theorem dX6_init_18 : decode cX6_init 18 = .ok (.arraylength, 1) := by decide +kernel
theorem dX6_init_19 : decode cX6_init 19 = .ok (.newarray .int, 2) := by decide +kernel
theorem dX6_init_21 : decode cX6_init 21 = .ok (.putfield 21, 3) := by decide +kernel
theorem dX6_init_24 : decode cX6_init 24 = .ok (.getstatic 9, 3) := by decide +kernel
theorem dX6_init_27 : decode cX6_init 27 = .ok (.astore_n 1, 1) := by decide +kernel
theorem dX6_init_28 : decode cX6_init 28 = .ok (.aload_n 1, 1) := by decide +kernel
theorem dX6_init_29 : decode cX6_init 29 = .ok (.arraylength, 1) := by decide +kernel
theorem dX6_init_30 : decode cX6_init 30 = .ok (.istore_n 2, 1) := by decide +kernel
theorem dX6_init_31 : decode cX6_init 31 = .ok (.iconst 0, 1) := by decide +kernel
theorem dX6_init_32 : decode cX6_init 32 = .ok (.istore_n 3, 1) := by decide +kernel
theorem dX6_init_33 : decode cX6_init 33 = .ok (.iload_n 3, 1) := by decide +kernel
theorem dX6_init_34 : decode cX6_init 34 = .ok (.iload_n 2, 1) := by decide +kernel
theorem dX6_init_35 : decode cX6_init 35 = .ok (.if_icmp .ge 29, 3) := by decide +kernel
theorem dX6_init_38 : decode cX6_init 38 = .ok (.aload_n 1, 1) := by decide +kernel
theorem dX6_init_39 : decode cX6_init 39 = .ok (.iload_n 3, 1) := by decide +kernel
theorem dX6_init_40 : decode cX6_init 40 = .ok (.aaload, 1) := by decide +kernel
theorem dX6_init_41 : decode cX6_init 41 = .ok (.astore 4, 2) := by decide +kernel
theorem dX6_init_43 : decode cX6_init 43 = .ok (.aload_n 0, 1) := by decide +kernel
theorem dX6_init_44 : decode cX6_init 44 = .ok (.getfield 15, 3) := by decide +kernel
theorem dX6_init_47 : decode cX6_init 47 = .ok (.aload 4, 2) := by decide +kernel
theorem dX6_init_49 : decode cX6_init 49 = .ok (.getfield 24, 3) := by decide +kernel
theorem dX6_init_52 : decode cX6_init 52 = .ok (.aload 4, 2) := by decide +kernel
theorem dX6_init_54 : decode cX6_init 54 = .ok (.getfield 28, 3) := by decide +kernel
theorem dX6_init_57 : decode cX6_init 57 = .ok (.iastore, 1) := by decide +kernel
theorem dX6_init_58 : decode cX6_init 58 = .ok (.iinc 3 1, 3) := by decide +kernel
theorem dX6_init_61 : decode cX6_init 61 = .ok (.goto (-28), 3) := by decide +kernel
theorem dX6_init_64 : decode cX6_init 64 = .ok (.return_, 1) := by decide +kernel
theorem dX6_valueOf_0 : decode cX6_valueOf 0 = .ok (.aload_n 0, 1) := by decide +kernel
theorem dX6_valueOf_1 : decode cX6_valueOf 1 = .ok (.getfield 15, 3) := by decide +kernel
theorem dX6_valueOf_4 : decode cX6_valueOf 4 = .ok (.aload_n 1, 1) := by decide +kernel
theorem dX6_valueOf_5 : decode cX6_valueOf 5 = .ok (.getfield 24, 3) := by decide +kernel
theorem dX6_valueOf_8 : decode cX6_valueOf 8 = .ok (.iaload, 1) := by decide +kernel
theorem dX6_valueOf_9 : decode cX6_valueOf 9 = .ok (.ireturn, 1) := by decide +kernel
theorem dX6_read_0 : decode cX6_read 0 = .ok (.aload_n 0, 1) := by decide +kernel
theorem dX6_read_1 : decode cX6_read 1 = .ok (.invokevirtual 31, 3) := by decide +kernel
theorem dX6_read_4 : decode cX6_read 4 = .ok (.aload_n 1, 1) := by decide +kernel
theorem dX6_read_5 : decode cX6_read 5 = .ok (.getfield 34, 3) := by decide +kernel
theorem dX6_read_8 : decode cX6_read 8 = .ok (.bipush 120, 2) := by decide +kernel
theorem dX6_read_10 : decode cX6_read 10 = .ok (.invokestatic 39, 3) := by decide +kernel
theorem dX6_read_13 : decode cX6_read 13 = .ok (.istore_n 2, 1) := by decide +kernel
theorem dX6_read_14 : decode cX6_read 14 = .ok (.iconst 0, 1) := by decide +kernel
theorem dX6_read_15 : decode cX6_read 15 = .ok (.istore_n 3, 1) := by decide +kernel
theorem dX6_read_16 : decode cX6_read 16 = .ok (.iload_n 3, 1) := by decide +kernel
theorem dX6_read_17 : decode cX6_read 17 = .ok (.iload_n 2, 1) := by decide +kernel
theorem dX6_read_18 : decode cX6_read 18 = .ok (.if_icmp .ge 47, 3) := by decide +kernel
theorem dX6_read_21 : decode cX6_read 21 = .ok (.aload_n 0, 1) := by decide +kernel
theorem dX6_read_22 : decode cX6_read 22 = .ok (.getfield 45, 3) := by decide +kernel
theorem dX6_read_25 : decode cX6_read 25 = .ok (.ifCond .ne 40, 3) := by decide +kernel
theorem dX6_read_28 : decode cX6_read 28 = .ok (.aload_n 1, 1) := by decide +kernel
theorem dX6_read_29 : decode cX6_read 29 = .ok (.iload_n 3, 1) := by decide +kernel
theorem dX6_read_30 : decode cX6_read 30 = .ok (.invokevirtual 48, 3) := by decide +kernel
theorem dX6_read_33 : decode cX6_read 33 = .ok (.invokestatic 52, 3) := by decide +kernel
theorem dX6_read_36 : decode cX6_read 36 = .ok (.ifCond .ne 14, 3) := by decide +kernel
theorem dX6_read_39 : decode cX6_read 39 = .ok (.aload_n 0, 1) := by decide +kernel
theorem dX6_read_40 : decode cX6_read 40 = .ok (.aload_n 1, 1) := by decide +kernel
theorem dX6_read_41 : decode cX6_read 41 = .ok (.iload_n 3, 1) := by decide +kernel
theorem dX6_read_42 : decode cX6_read 42 = .ok (.aload_n 1, 1) := by decide +kernel
theorem dX6_read_43 : decode cX6_read 43 = .ok (.iload_n 3, 1) := by decide +kernel
theorem dX6_read_44 : decode cX6_read 44 = .ok (.invokestatic 56, 3) := by decide +kernel
theorem dX6_read_47 : decode cX6_read 47 = .ok (.invokevirtual 60, 3) := by decide +kernel
theorem dX6_read_50 : decode cX6_read 50 = .ok (.iload_n 3, 1) := by decide +kernel
theorem dX6_read_51 : decode cX6_read 51 = .ok (.iconst 1, 1) := by decide +kernel
theorem dX6_read_52 : decode cX6_read 52 = .ok (.iadd, 1) := by decide +kernel
theorem dX6_read_53 : decode cX6_read 53 = .ok (.aload_n 1, 1) := by decide +kernel
theorem dX6_read_54 : decode cX6_read 54 = .ok (.iload_n 3, 1) := by decide +kernel
theorem dX6_read_55 : decode cX6_read 55 = .ok (.invokestatic 56, 3) := by decide +kernel
theorem dX6_read_58 : decode cX6_read 58 = .ok (.invokestatic 64, 3) := by decide +kernel
theorem dX6_read_61 : decode cX6_read 61 = .ok (.istore_n 3, 1) := by decide +kernel
theorem dX6_read_62 : decode cX6_read 62 = .ok (.goto (-46), 3) := by decide +kernel
theorem dX6_read_65 : decode cX6_read 65 = .ok (.aload_n 0, 1) := by decide +kernel
theorem dX6_read_66 : decode cX6_read 66 = .ok (.getfield 45, 3) := by decide +kernel
theorem dX6_read_69 : decode cX6_read 69 = .ok (.ifCond .ne 26, 3) := by decide +kernel
theorem dX6_read_72 : decode cX6_read 72 = .ok (.aload_n 0, 1) := by decide +kernel
theorem dX6_read_73 : decode cX6_read 73 = .ok (.getfield 67, 3) := by decide +kernel
theorem dX6_read_76 : decode cX6_read 76 = .ok (.iconst 1, 1) := by decide +kernel
theorem dX6_read_77 : decode cX6_read 77 = .ok (.if_icmp .ne 12, 3) := by decide +kernel
theorem dX6_read_80 : decode cX6_read 80 = .ok (.aload_n 1, 1) := by decide +kernel
theorem dX6_read_81 : decode cX6_read 81 = .ok (.getfield 34, 3) := by decide +kernel
theorem dX6_read_84 : decode cX6_read 84 = .ok (.bipush 120, 2) := by decide +kernel
theorem dX6_read_86 : decode cX6_read 86 = .ok (.if_icmp .le 9, 3) := by decide +kernel
theorem dX6_read_89 : decode cX6_read 89 = .ok (.aload_n 0, 1) := by decide +kernel
theorem dX6_read_90 : decode cX6_read 90 = .ok (.iconst 1, 1) := by decide +kernel
theorem dX6_read_91 : decode cX6_read 91 = .ok (.iload_n 2, 1) := by decide +kernel
theorem dX6_read_92 : decode cX6_read 92 = .ok (.invokevirtual 70, 3) := by decide +kernel
theorem dX6_read_95 : decode cX6_read 95 = .ok (.aload_n 0, 1) := by decide +kernel
theorem dX6_read_96 : decode cX6_read 96 = .ok (.getfield 45, 3) := by decide +kernel
theorem dX6_read_99 : decode cX6_read 99 = .ok (.ifCond .eq 10, 3) := by decide +kernel
theorem dX6_read_102 : decode cX6_read 102 = .ok (.iconst (-1), 1) := by decide +kernel
theorem dX6_read_103 : decode cX6_read 103 = .ok (.aload_n 0, 1) := by decide +kernel
theorem dX6_read_104 : decode cX6_read 104 = .ok (.getfield 74, 3) := by decide +kernel
theorem dX6_read_107 : decode cX6_read 107 = .ok (.isub, 1) := by decide +kernel
theorem dX6_read_108 : decode cX6_read 108 = .ok (.ireturn, 1) := by decide +kernel
theorem dX6_read_109 : decode cX6_read 109 = .ok (.aload_n 0, 1) := by decide +kernel
theorem dX6_read_110 : decode cX6_read 110 = .ok (.invokevirtual 77, 3) := by decide +kernel
theorem dX6_read_113 : decode cX6_read 113 = .ok (.aload_n 0, 1) := by decide +kernel
theorem dX6_read_114 : decode cX6_read 114 = .ok (.getfield 80, 3) := by decide +kernel
theorem dX6_read_117 : decode cX6_read 117 = .ok (.ireturn, 1) := by decide +kernel
theorem dX6_begin_0 : decode cX6_begin 0 = .ok (.iconst 0, 1) := by decide +kernel
theorem dX6_begin_1 : decode cX6_begin 1 = .ok (.istore_n 1, 1) := by decide +kernel
theorem dX6_begin_2 : decode cX6_begin 2 = .ok (.iload_n 1, 1) := by decide +kernel
theorem dX6_begin_3 : decode cX6_begin 3 = .ok (.aload_n 0, 1) := by decide +kernel
theorem dX6_begin_4 : decode cX6_begin 4 = .ok (.getfield 21, 3) := by decide +kernel
theorem dX6_begin_7 : decode cX6_begin 7 = .ok (.arraylength, 1) := by decide +kernel
theorem dX6_begin_8 : decode cX6_begin 8 = .ok (.if_icmp .ge 16, 3) := by decide +kernel
theorem dX6_begin_11 : decode cX6_begin 11 = .ok (.aload_n 0, 1) := by decide +kernel
theorem dX6_begin_12 : decode cX6_begin 12 = .ok (.getfield 21, 3) := by decide +kernel
theorem dX6_begin_15 : decode cX6_begin 15 = .ok (.iload_n 1, 1) := by decide +kernel
theorem dX6_begin_16 : decode cX6_begin 16 = .ok (.iconst (-1), 1) := by decide +kernel
theorem dX6_begin_17 : decode cX6_begin 17 = .ok (.iastore, 1) := by decide +kernel
theorem dX6_begin_18 : decode cX6_begin 18 = .ok (.iinc 1 1, 3) := by decide +kernel
theorem dX6_begin_21 : decode cX6_begin 21 = .ok (.goto (-19), 3) := by decide +kernel
theorem dX6_begin_24 : decode cX6_begin 24 = .ok (.aload_n 0, 1) := by decide +kernel
theorem dX6_begin_25 : decode cX6_begin 25 = .ok (.iconst 0, 1) := by decide +kernel
theorem dX6_begin_26 : decode cX6_begin 26 = .ok (.putfield 80, 3) := by decide +kernel
theorem dX6_begin_29 : decode cX6_begin 29 = .ok (.aload_n 0, 1) := by decide +kernel
theorem dX6_begin_30 : decode cX6_begin 30 = .ok (.iconst 1, 1) := by decide +kernel
theorem dX6_begin_31 : decode cX6_begin 31 = .ok (.putfield 67, 3) := by decide +kernel
theorem dX6_begin_34 : decode cX6_begin 34 = .ok (.aload_n 0, 1) := by decide +kernel
theorem dX6_begin_35 : decode cX6_begin 35 = .ok (.aconst_null, 1) := by decide +kernel
theorem dX6_begin_36 : decode cX6_begin 36 = .ok (.putfield 83, 3) := by decide +kernel
theorem dX6_begin_39 : decode cX6_begin 39 = .ok (.aload_n 0, 1) := by decide +kernel
theorem dX6_begin_40 : decode cX6_begin 40 = .ok (.iconst 0, 1) := by decide +kernel
theorem dX6_begin_41 : decode cX6_begin 41 = .ok (.putfield 45, 3) := by decide +kernel
theorem dX6_begin_44 : decode cX6_begin 44 = .ok (.aload_n 0, 1) := by decide +kernel
theorem dX6_begin_45 : decode cX6_begin 45 = .ok (.iconst 0, 1) := by decide +kernel
theorem dX6_begin_46 : decode cX6_begin 46 = .ok (.putfield 74, 3) := by decide +kernel
theorem dX6_begin_49 : decode cX6_begin 49 = .ok (.return_, 1) := by decide +kernel
theorem dX6_putInForce_0 : decode cX6_putInForce 0 = .ok (.getstatic 9, 3) := by decide +kernel
theorem dX6_putInForce_3 : decode cX6_putInForce 3 = .ok (.astore_n 1, 1) := by decide +kernel
theorem dX6_putInForce_4 : decode cX6_putInForce 4 = .ok (.aload_n 1, 1) := by decide +kernel
theorem dX6_putInForce_5 : decode cX6_putInForce 5 = .ok (.arraylength, 1) := by decide +kernel
theorem dX6_putInForce_6 : decode cX6_putInForce 6 = .ok (.istore_n 2, 1) := by decide +kernel
theorem dX6_putInForce_7 : decode cX6_putInForce 7 = .ok (.iconst 0, 1) := by decide +kernel
theorem dX6_putInForce_8 : decode cX6_putInForce 8 = .ok (.istore_n 3, 1) := by decide +kernel
theorem dX6_putInForce_9 : decode cX6_putInForce 9 = .ok (.iload_n 3, 1) := by decide +kernel
theorem dX6_putInForce_10 : decode cX6_putInForce 10 = .ok (.iload_n 2, 1) := by decide +kernel
theorem dX6_putInForce_11 : decode cX6_putInForce 11 = .ok (.if_icmp .ge 56, 3) := by decide +kernel
theorem dX6_putInForce_14 : decode cX6_putInForce 14 = .ok (.aload_n 1, 1) := by decide +kernel
theorem dX6_putInForce_15 : decode cX6_putInForce 15 = .ok (.iload_n 3, 1) := by decide +kernel
theorem dX6_putInForce_16 : decode cX6_putInForce 16 = .ok (.aaload, 1) := by decide +kernel
theorem dX6_putInForce_17 : decode cX6_putInForce 17 = .ok (.astore 4, 2) := by decide +kernel
theorem dX6_putInForce_19 : decode cX6_putInForce 19 = .ok (.aload_n 0, 1) := by decide +kernel
theorem dX6_putInForce_20 : decode cX6_putInForce 20 = .ok (.getfield 15, 3) := by decide +kernel
theorem dX6_putInForce_23 : decode cX6_putInForce 23 = .ok (.aload 4, 2) := by decide +kernel
theorem dX6_putInForce_25 : decode cX6_putInForce 25 = .ok (.getfield 24, 3) := by decide +kernel
theorem dX6_putInForce_28 : decode cX6_putInForce 28 = .ok (.aload_n 0, 1) := by decide +kernel
theorem dX6_putInForce_29 : decode cX6_putInForce 29 = .ok (.getfield 21, 3) := by decide +kernel
theorem dX6_putInForce_32 : decode cX6_putInForce 32 = .ok (.aload 4, 2) := by decide +kernel
theorem dX6_putInForce_34 : decode cX6_putInForce 34 = .ok (.getfield 24, 3) := by decide +kernel
theorem dX6_putInForce_37 : decode cX6_putInForce 37 = .ok (.iaload, 1) := by decide +kernel
theorem dX6_putInForce_38 : decode cX6_putInForce 38 = .ok (.iconst (-1), 1) := by decide +kernel
theorem dX6_putInForce_39 : decode cX6_putInForce 39 = .ok (.if_icmp .ne 11, 3) := by decide +kernel
theorem dX6_putInForce_42 : decode cX6_putInForce 42 = .ok (.aload 4, 2) := by decide +kernel
theorem dX6_putInForce_44 : decode cX6_putInForce 44 = .ok (.getfield 28, 3) := by decide +kernel
theorem dX6_putInForce_47 : decode cX6_putInForce 47 = .ok (.goto 13, 3) := by decide +kernel
theorem dX6_putInForce_50 : decode cX6_putInForce 50 = .ok (.aload_n 0, 1) := by decide +kernel
theorem dX6_putInForce_51 : decode cX6_putInForce 51 = .ok (.getfield 21, 3) := by decide +kernel
theorem dX6_putInForce_54 : decode cX6_putInForce 54 = .ok (.aload 4, 2) := by decide +kernel
theorem dX6_putInForce_56 : decode cX6_putInForce 56 = .ok (.getfield 24, 3) := by decide +kernel
theorem dX6_putInForce_59 : decode cX6_putInForce 59 = .ok (.iaload, 1) := by decide +kernel
theorem dX6_putInForce_60 : decode cX6_putInForce 60 = .ok (.iastore, 1) := by decide +kernel
theorem dX6_putInForce_61 : decode cX6_putInForce 61 = .ok (.iinc 3 1, 3) := by decide +kernel
theorem dX6_putInForce_64 : decode cX6_putInForce 64 = .ok (.goto (-55), 3) := by decide +kernel
theorem dX6_putInForce_67 : decode cX6_putInForce 67 = .ok (.return_, 1) := by decide +kernel
theorem dX6_setFault_0 : decode cX6_setFault 0 = .ok (.aload_n 0, 1) := by decide +kernel
theorem dX6_setFault_1 : decode cX6_setFault 1 = .ok (.iload_n 1, 1) := by decide +kernel
theorem dX6_setFault_2 : decode cX6_setFault 2 = .ok (.putfield 45, 3) := by decide +kernel
theorem dX6_setFault_5 : decode cX6_setFault 5 = .ok (.aload_n 0, 1) := by decide +kernel
theorem dX6_setFault_6 : decode cX6_setFault 6 = .ok (.iload_n 2, 1) := by decide +kernel
theorem dX6_setFault_7 : decode cX6_setFault 7 = .ok (.putfield 74, 3) := by decide +kernel
theorem dX6_setFault_10 : decode cX6_setFault 10 = .ok (.return_, 1) := by decide +kernel
theorem dX6_takeToken_0 : decode cX6_takeToken 0 = .ok (.aload_n 1, 1) := by decide +kernel
theorem dX6_takeToken_1 : decode cX6_takeToken 1 = .ok (.iload_n 2, 1) := by decide +kernel
theorem dX6_takeToken_2 : decode cX6_takeToken 2 = .ok (.iload_n 3, 1) := by decide +kernel
theorem dX6_takeToken_3 : decode cX6_takeToken 3 = .ok (.invokestatic 87, 3) := by decide +kernel
theorem dX6_takeToken_6 : decode cX6_takeToken 6 = .ok (.istore 4, 2) := by decide +kernel
theorem dX6_takeToken_8 : decode cX6_takeToken 8 = .ok (.iload 4, 2) := by decide +kernel
theorem dX6_takeToken_10 : decode cX6_takeToken 10 = .ok (.aload_n 0, 1) := by decide +kernel
theorem dX6_takeToken_11 : decode cX6_takeToken 11 = .ok (.getfield 67, 3) := by decide +kernel
theorem dX6_takeToken_14 : decode cX6_takeToken 14 = .ok (.if_icmp .eq 12, 3) := by decide +kernel
theorem dX6_takeToken_17 : decode cX6_takeToken 17 = .ok (.aload_n 0, 1) := by decide +kernel
theorem dX6_takeToken_18 : decode cX6_takeToken 18 = .ok (.iconst 1, 1) := by decide +kernel
theorem dX6_takeToken_19 : decode cX6_takeToken 19 = .ok (.iload_n 2, 1) := by decide +kernel
theorem dX6_takeToken_20 : decode cX6_takeToken 20 = .ok (.invokevirtual 70, 3) := by decide +kernel
theorem dX6_takeToken_23 : decode cX6_takeToken 23 = .ok (.goto 40, 3) := by decide +kernel
theorem dX6_takeToken_26 : decode cX6_takeToken 26 = .ok (.iload 4, 2) := by decide +kernel
theorem dX6_takeToken_28 : decode cX6_takeToken 28 = .ok (.iconst 1, 1) := by decide +kernel
theorem dX6_takeToken_29 : decode cX6_takeToken 29 = .ok (.if_icmp .ne 13, 3) := by decide +kernel
theorem dX6_takeToken_32 : decode cX6_takeToken 32 = .ok (.aload_n 0, 1) := by decide +kernel
theorem dX6_takeToken_33 : decode cX6_takeToken 33 = .ok (.aload_n 1, 1) := by decide +kernel
theorem dX6_takeToken_34 : decode cX6_takeToken 34 = .ok (.iload_n 2, 1) := by decide +kernel
theorem dX6_takeToken_35 : decode cX6_takeToken 35 = .ok (.iload_n 3, 1) := by decide +kernel
theorem dX6_takeToken_36 : decode cX6_takeToken 36 = .ok (.invokevirtual 91, 3) := by decide +kernel
theorem dX6_takeToken_39 : decode cX6_takeToken 39 = .ok (.goto 24, 3) := by decide +kernel
theorem dX6_takeToken_42 : decode cX6_takeToken 42 = .ok (.iload 4, 2) := by decide +kernel
theorem dX6_takeToken_44 : decode cX6_takeToken 44 = .ok (.iconst 2, 1) := by decide +kernel
theorem dX6_takeToken_45 : decode cX6_takeToken 45 = .ok (.if_icmp .ne 13, 3) := by decide +kernel
theorem dX6_takeToken_48 : decode cX6_takeToken 48 = .ok (.aload_n 0, 1) := by decide +kernel
theorem dX6_takeToken_49 : decode cX6_takeToken 49 = .ok (.aload_n 1, 1) := by decide +kernel
theorem dX6_takeToken_50 : decode cX6_takeToken 50 = .ok (.iload_n 2, 1) := by decide +kernel
theorem dX6_takeToken_51 : decode cX6_takeToken 51 = .ok (.iload_n 3, 1) := by decide +kernel
theorem dX6_takeToken_52 : decode cX6_takeToken 52 = .ok (.invokevirtual 94, 3) := by decide +kernel
theorem dX6_takeToken_55 : decode cX6_takeToken 55 = .ok (.goto 8, 3) := by decide +kernel
theorem dX6_takeToken_58 : decode cX6_takeToken 58 = .ok (.aload_n 0, 1) := by decide +kernel
theorem dX6_takeToken_59 : decode cX6_takeToken 59 = .ok (.iconst 1, 1) := by decide +kernel
theorem dX6_takeToken_60 : decode cX6_takeToken 60 = .ok (.putfield 67, 3) := by decide +kernel
theorem dX6_takeToken_63 : decode cX6_takeToken 63 = .ok (.return_, 1) := by decide +kernel
theorem dX6_takeWord_0 : decode cX6_takeWord 0 = .ok (.aload_n 0, 1) := by decide +kernel
theorem dX6_takeWord_1 : decode cX6_takeWord 1 = .ok (.aload_n 1, 1) := by decide +kernel
theorem dX6_takeWord_2 : decode cX6_takeWord 2 = .ok (.iload_n 2, 1) := by decide +kernel
theorem dX6_takeWord_3 : decode cX6_takeWord 3 = .ok (.iload_n 3, 1) := by decide +kernel
theorem dX6_takeWord_4 : decode cX6_takeWord 4 = .ok (.invokestatic 97, 3) := by decide +kernel
theorem dX6_takeWord_7 : decode cX6_takeWord 7 = .ok (.putfield 83, 3) := by decide +kernel
theorem dX6_takeWord_10 : decode cX6_takeWord 10 = .ok (.aload_n 0, 1) := by decide +kernel
theorem dX6_takeWord_11 : decode cX6_takeWord 11 = .ok (.getfield 83, 3) := by decide +kernel
theorem dX6_takeWord_14 : decode cX6_takeWord 14 = .ok (.ifnonnull 12, 3) := by decide +kernel
theorem dX6_takeWord_17 : decode cX6_takeWord 17 = .ok (.aload_n 0, 1) := by decide +kernel
theorem dX6_takeWord_18 : decode cX6_takeWord 18 = .ok (.iconst 1, 1) := by decide +kernel
theorem dX6_takeWord_19 : decode cX6_takeWord 19 = .ok (.iload_n 2, 1) := by decide +kernel
theorem dX6_takeWord_20 : decode cX6_takeWord 20 = .ok (.invokevirtual 70, 3) := by decide +kernel
theorem dX6_takeWord_23 : decode cX6_takeWord 23 = .ok (.goto 33, 3) := by decide +kernel
theorem dX6_takeWord_26 : decode cX6_takeWord 26 = .ok (.aload_n 0, 1) := by decide +kernel
theorem dX6_takeWord_27 : decode cX6_takeWord 27 = .ok (.getfield 21, 3) := by decide +kernel
theorem dX6_takeWord_30 : decode cX6_takeWord 30 = .ok (.aload_n 0, 1) := by decide +kernel
theorem dX6_takeWord_31 : decode cX6_takeWord 31 = .ok (.getfield 83, 3) := by decide +kernel
theorem dX6_takeWord_34 : decode cX6_takeWord 34 = .ok (.getfield 24, 3) := by decide +kernel
theorem dX6_takeWord_37 : decode cX6_takeWord 37 = .ok (.iaload, 1) := by decide +kernel
theorem dX6_takeWord_38 : decode cX6_takeWord 38 = .ok (.iconst (-1), 1) := by decide +kernel
theorem dX6_takeWord_39 : decode cX6_takeWord 39 = .ok (.if_icmp .eq 12, 3) := by decide +kernel
theorem dX6_takeWord_42 : decode cX6_takeWord 42 = .ok (.aload_n 0, 1) := by decide +kernel
theorem dX6_takeWord_43 : decode cX6_takeWord 43 = .ok (.iconst 3, 1) := by decide +kernel
theorem dX6_takeWord_44 : decode cX6_takeWord 44 = .ok (.iload_n 2, 1) := by decide +kernel
theorem dX6_takeWord_45 : decode cX6_takeWord 45 = .ok (.invokevirtual 70, 3) := by decide +kernel
theorem dX6_takeWord_48 : decode cX6_takeWord 48 = .ok (.goto 8, 3) := by decide +kernel
theorem dX6_takeWord_51 : decode cX6_takeWord 51 = .ok (.aload_n 0, 1) := by decide +kernel
theorem dX6_takeWord_52 : decode cX6_takeWord 52 = .ok (.iconst 2, 1) := by decide +kernel
theorem dX6_takeWord_53 : decode cX6_takeWord 53 = .ok (.putfield 67, 3) := by decide +kernel
theorem dX6_takeWord_56 : decode cX6_takeWord 56 = .ok (.return_, 1) := by decide +kernel
theorem dX6_takeNumber_0 : decode cX6_takeNumber 0 = .ok (.iconst 0, 1) := by decide +kernel
theorem dX6_takeNumber_1 : decode cX6_takeNumber 1 = .ok (.istore 4, 2) := by decide +kernel
theorem dX6_takeNumber_3 : decode cX6_takeNumber 3 = .ok (.iload_n 2, 1) := by decide +kernel
theorem dX6_takeNumber_4 : decode cX6_takeNumber 4 = .ok (.istore 5, 2) := by decide +kernel
theorem dX6_takeNumber_6 : decode cX6_takeNumber 6 = .ok (.iload 5, 2) := by decide +kernel
theorem dX6_takeNumber_8 : decode cX6_takeNumber 8 = .ok (.iload_n 3, 1) := by decide +kernel
theorem dX6_takeNumber_9 : decode cX6_takeNumber 9 = .ok (.if_icmp .ge 26, 3) := by decide +kernel
theorem dX6_takeNumber_12 : decode cX6_takeNumber 12 = .ok (.iload 4, 2) := by decide +kernel
theorem dX6_takeNumber_14 : decode cX6_takeNumber 14 = .ok (.bipush 10, 2) := by decide +kernel
theorem dX6_takeNumber_16 : decode cX6_takeNumber 16 = .ok (.imul, 1) := by decide +kernel
theorem dX6_takeNumber_17 : decode cX6_takeNumber 17 = .ok (.aload_n 1, 1) := by decide +kernel
theorem dX6_takeNumber_18 : decode cX6_takeNumber 18 = .ok (.iload 5, 2) := by decide +kernel
theorem dX6_takeNumber_20 : decode cX6_takeNumber 20 = .ok (.invokevirtual 48, 3) := by decide +kernel
theorem dX6_takeNumber_23 : decode cX6_takeNumber 23 = .ok (.iadd, 1) := by decide +kernel
theorem dX6_takeNumber_24 : decode cX6_takeNumber 24 = .ok (.bipush 48, 2) := by decide +kernel
theorem dX6_takeNumber_26 : decode cX6_takeNumber 26 = .ok (.isub, 1) := by decide +kernel
theorem dX6_takeNumber_27 : decode cX6_takeNumber 27 = .ok (.istore 4, 2) := by decide +kernel
theorem dX6_takeNumber_29 : decode cX6_takeNumber 29 = .ok (.iinc 5 1, 3) := by decide +kernel
theorem dX6_takeNumber_32 : decode cX6_takeNumber 32 = .ok (.goto (-26), 3) := by decide +kernel
theorem dX6_takeNumber_35 : decode cX6_takeNumber 35 = .ok (.aload_n 0, 1) := by decide +kernel
theorem dX6_takeNumber_36 : decode cX6_takeNumber 36 = .ok (.getfield 83, 3) := by decide +kernel
theorem dX6_takeNumber_39 : decode cX6_takeNumber 39 = .ok (.ifnull 25, 3) := by decide +kernel
theorem dX6_takeNumber_42 : decode cX6_takeNumber 42 = .ok (.iload 4, 2) := by decide +kernel
theorem dX6_takeNumber_44 : decode cX6_takeNumber 44 = .ok (.aload_n 0, 1) := by decide +kernel
theorem dX6_takeNumber_45 : decode cX6_takeNumber 45 = .ok (.getfield 83, 3) := by decide +kernel
theorem dX6_takeNumber_48 : decode cX6_takeNumber 48 = .ok (.getfield 101, 3) := by decide +kernel
theorem dX6_takeNumber_51 : decode cX6_takeNumber 51 = .ok (.aload_n 0, 1) := by decide +kernel
theorem dX6_takeNumber_52 : decode cX6_takeNumber 52 = .ok (.getfield 83, 3) := by decide +kernel
theorem dX6_takeNumber_55 : decode cX6_takeNumber 55 = .ok (.getfield 104, 3) := by decide +kernel
theorem dX6_takeNumber_58 : decode cX6_takeNumber 58 = .ok (.invokestatic 107, 3) := by decide +kernel
theorem dX6_takeNumber_61 : decode cX6_takeNumber 61 = .ok (.ifCond .ne 12, 3) := by decide +kernel
theorem dX6_takeNumber_64 : decode cX6_takeNumber 64 = .ok (.aload_n 0, 1) := by decide +kernel
theorem dX6_takeNumber_65 : decode cX6_takeNumber 65 = .ok (.iconst 2, 1) := by decide +kernel
theorem dX6_takeNumber_66 : decode cX6_takeNumber 66 = .ok (.iload_n 2, 1) := by decide +kernel
theorem dX6_takeNumber_67 : decode cX6_takeNumber 67 = .ok (.invokevirtual 70, 3) := by decide +kernel
theorem dX6_takeNumber_70 : decode cX6_takeNumber 70 = .ok (.goto 32, 3) := by decide +kernel
theorem dX6_takeNumber_73 : decode cX6_takeNumber 73 = .ok (.aload_n 0, 1) := by decide +kernel
theorem dX6_takeNumber_74 : decode cX6_takeNumber 74 = .ok (.getfield 21, 3) := by decide +kernel
theorem dX6_takeNumber_77 : decode cX6_takeNumber 77 = .ok (.aload_n 0, 1) := by decide +kernel
theorem dX6_takeNumber_78 : decode cX6_takeNumber 78 = .ok (.getfield 83, 3) := by decide +kernel
theorem dX6_takeNumber_81 : decode cX6_takeNumber 81 = .ok (.getfield 24, 3) := by decide +kernel
theorem dX6_takeNumber_84 : decode cX6_takeNumber 84 = .ok (.iload 4, 2) := by decide +kernel
theorem dX6_takeNumber_86 : decode cX6_takeNumber 86 = .ok (.iastore, 1) := by decide +kernel
theorem dX6_takeNumber_87 : decode cX6_takeNumber 87 = .ok (.aload_n 0, 1) := by decide +kernel
theorem dX6_takeNumber_88 : decode cX6_takeNumber 88 = .ok (.dup, 1) := by decide +kernel
theorem dX6_takeNumber_89 : decode cX6_takeNumber 89 = .ok (.getfield 80, 3) := by decide +kernel
theorem dX6_takeNumber_92 : decode cX6_takeNumber 92 = .ok (.iconst 1, 1) := by decide +kernel
theorem dX6_takeNumber_93 : decode cX6_takeNumber 93 = .ok (.iadd, 1) := by decide +kernel
theorem dX6_takeNumber_94 : decode cX6_takeNumber 94 = .ok (.putfield 80, 3) := by decide +kernel
theorem dX6_takeNumber_97 : decode cX6_takeNumber 97 = .ok (.aload_n 0, 1) := by decide +kernel
theorem dX6_takeNumber_98 : decode cX6_takeNumber 98 = .ok (.iconst 3, 1) := by decide +kernel
theorem dX6_takeNumber_99 : decode cX6_takeNumber 99 = .ok (.putfield 67, 3) := by decide +kernel
theorem dX6_takeNumber_102 : decode cX6_takeNumber 102 = .ok (.return_, 1) := by decide +kernel
theorem dX6_tokenEnd_0 : decode cX6_tokenEnd 0 = .ok (.iload_n 1, 1) := by decide +kernel
theorem dX6_tokenEnd_1 : decode cX6_tokenEnd 1 = .ok (.istore_n 2, 1) := by decide +kernel
theorem dX6_tokenEnd_2 : decode cX6_tokenEnd 2 = .ok (.iload_n 2, 1) := by decide +kernel
theorem dX6_tokenEnd_3 : decode cX6_tokenEnd 3 = .ok (.aload_n 0, 1) := by decide +kernel
theorem dX6_tokenEnd_4 : decode cX6_tokenEnd 4 = .ok (.getfield 34, 3) := by decide +kernel
theorem dX6_tokenEnd_7 : decode cX6_tokenEnd 7 = .ok (.if_icmp .ge 20, 3) := by decide +kernel
theorem dX6_tokenEnd_10 : decode cX6_tokenEnd 10 = .ok (.aload_n 0, 1) := by decide +kernel
theorem dX6_tokenEnd_11 : decode cX6_tokenEnd 11 = .ok (.iload_n 2, 1) := by decide +kernel
theorem dX6_tokenEnd_12 : decode cX6_tokenEnd 12 = .ok (.invokevirtual 48, 3) := by decide +kernel
theorem dX6_tokenEnd_15 : decode cX6_tokenEnd 15 = .ok (.invokestatic 111, 3) := by decide +kernel
theorem dX6_tokenEnd_18 : decode cX6_tokenEnd 18 = .ok (.ifCond .eq 9, 3) := by decide +kernel
theorem dX6_tokenEnd_21 : decode cX6_tokenEnd 21 = .ok (.iinc 2 1, 3) := by decide +kernel
theorem dX6_tokenEnd_24 : decode cX6_tokenEnd 24 = .ok (.goto (-22), 3) := by decide +kernel
theorem dX6_tokenEnd_27 : decode cX6_tokenEnd 27 = .ok (.iload_n 2, 1) := by decide +kernel
theorem dX6_tokenEnd_28 : decode cX6_tokenEnd 28 = .ok (.iload_n 1, 1) := by decide +kernel
theorem dX6_tokenEnd_29 : decode cX6_tokenEnd 29 = .ok (.iconst 1, 1) := by decide +kernel
theorem dX6_tokenEnd_30 : decode cX6_tokenEnd 30 = .ok (.iadd, 1) := by decide +kernel
theorem dX6_tokenEnd_31 : decode cX6_tokenEnd 31 = .ok (.invokestatic 64, 3) := by decide +kernel
theorem dX6_tokenEnd_34 : decode cX6_tokenEnd 34 = .ok (.ireturn, 1) := by decide +kernel
theorem dX6_tokenKind_0 : decode cX6_tokenKind 0 = .ok (.iconst 0, 1) := by decide +kernel
theorem dX6_tokenKind_1 : decode cX6_tokenKind 1 = .ok (.istore_n 3, 1) := by decide +kernel
theorem dX6_tokenKind_2 : decode cX6_tokenKind 2 = .ok (.iconst 0, 1) := by decide +kernel
theorem dX6_tokenKind_3 : decode cX6_tokenKind 3 = .ok (.istore 4, 2) := by decide +kernel
theorem dX6_tokenKind_5 : decode cX6_tokenKind 5 = .ok (.iload_n 1, 1) := by decide +kernel
theorem dX6_tokenKind_6 : decode cX6_tokenKind 6 = .ok (.istore 5, 2) := by decide +kernel
theorem dX6_tokenKind_8 : decode cX6_tokenKind 8 = .ok (.iload 5, 2) := by decide +kernel
theorem dX6_tokenKind_10 : decode cX6_tokenKind 10 = .ok (.iload_n 2, 1) := by decide +kernel
theorem dX6_tokenKind_11 : decode cX6_tokenKind 11 = .ok (.if_icmp .ge 51, 3) := by decide +kernel
theorem dX6_tokenKind_14 : decode cX6_tokenKind 14 = .ok (.iload_n 3, 1) := by decide +kernel
theorem dX6_tokenKind_15 : decode cX6_tokenKind 15 = .ok (.aload_n 0, 1) := by decide +kernel
theorem dX6_tokenKind_16 : decode cX6_tokenKind 16 = .ok (.iload 5, 2) := by decide +kernel
theorem dX6_tokenKind_18 : decode cX6_tokenKind 18 = .ok (.invokevirtual 48, 3) := by decide +kernel
theorem dX6_tokenKind_21 : decode cX6_tokenKind 21 = .ok (.invokestatic 114, 3) := by decide +kernel
theorem dX6_tokenKind_24 : decode cX6_tokenKind 24 = .ok (.ifCond .eq 7, 3) := by decide +kernel
theorem dX6_tokenKind_27 : decode cX6_tokenKind 27 = .ok (.iconst 1, 1) := by decide +kernel
theorem dX6_tokenKind_28 : decode cX6_tokenKind 28 = .ok (.goto 4, 3) := by decide +kernel
theorem dX6_tokenKind_31 : decode cX6_tokenKind 31 = .ok (.iconst 0, 1) := by decide +kernel
theorem dX6_tokenKind_32 : decode cX6_tokenKind 32 = .ok (.iadd, 1) := by decide +kernel
theorem dX6_tokenKind_33 : decode cX6_tokenKind 33 = .ok (.istore_n 3, 1) := by decide +kernel
theorem dX6_tokenKind_34 : decode cX6_tokenKind 34 = .ok (.iload 4, 2) := by decide +kernel
theorem dX6_tokenKind_36 : decode cX6_tokenKind 36 = .ok (.aload_n 0, 1) := by decide +kernel
theorem dX6_tokenKind_37 : decode cX6_tokenKind 37 = .ok (.iload 5, 2) := by decide +kernel
theorem dX6_tokenKind_39 : decode cX6_tokenKind 39 = .ok (.invokevirtual 48, 3) := by decide +kernel
theorem dX6_tokenKind_42 : decode cX6_tokenKind 42 = .ok (.invokestatic 117, 3) := by decide +kernel
theorem dX6_tokenKind_45 : decode cX6_tokenKind 45 = .ok (.ifCond .eq 7, 3) := by decide +kernel
theorem dX6_tokenKind_48 : decode cX6_tokenKind 48 = .ok (.iconst 1, 1) := by decide +kernel
theorem dX6_tokenKind_49 : decode cX6_tokenKind 49 = .ok (.goto 4, 3) := by decide +kernel
theorem dX6_tokenKind_52 : decode cX6_tokenKind 52 = .ok (.iconst 0, 1) := by decide +kernel
theorem dX6_tokenKind_53 : decode cX6_tokenKind 53 = .ok (.iadd, 1) := by decide +kernel
theorem dX6_tokenKind_54 : decode cX6_tokenKind 54 = .ok (.istore 4, 2) := by decide +kernel
theorem dX6_tokenKind_56 : decode cX6_tokenKind 56 = .ok (.iinc 5 1, 3) := by decide +kernel
theorem dX6_tokenKind_59 : decode cX6_tokenKind 59 = .ok (.goto (-51), 3) := by decide +kernel
theorem dX6_tokenKind_62 : decode cX6_tokenKind 62 = .ok (.iload_n 3, 1) := by decide +kernel
theorem dX6_tokenKind_63 : decode cX6_tokenKind 63 = .ok (.iload_n 2, 1) := by decide +kernel
theorem dX6_tokenKind_64 : decode cX6_tokenKind 64 = .ok (.iload_n 1, 1) := by decide +kernel
theorem dX6_tokenKind_65 : decode cX6_tokenKind 65 = .ok (.isub, 1) := by decide +kernel
theorem dX6_tokenKind_66 : decode cX6_tokenKind 66 = .ok (.if_icmp .ne 5, 3) := by decide +kernel
theorem dX6_tokenKind_69 : decode cX6_tokenKind 69 = .ok (.iconst 1, 1) := by decide +kernel
theorem dX6_tokenKind_70 : decode cX6_tokenKind 70 = .ok (.ireturn, 1) := by decide +kernel
theorem dX6_tokenKind_71 : decode cX6_tokenKind 71 = .ok (.iload 4, 2) := by decide +kernel
theorem dX6_tokenKind_73 : decode cX6_tokenKind 73 = .ok (.iload_n 2, 1) := by decide +kernel
theorem dX6_tokenKind_74 : decode cX6_tokenKind 74 = .ok (.iload_n 1, 1) := by decide +kernel
theorem dX6_tokenKind_75 : decode cX6_tokenKind 75 = .ok (.isub, 1) := by decide +kernel
theorem dX6_tokenKind_76 : decode cX6_tokenKind 76 = .ok (.if_icmp .ne 11, 3) := by decide +kernel
theorem dX6_tokenKind_79 : decode cX6_tokenKind 79 = .ok (.iload 4, 2) := by decide +kernel
theorem dX6_tokenKind_81 : decode cX6_tokenKind 81 = .ok (.iconst 4, 1) := by decide +kernel
theorem dX6_tokenKind_82 : decode cX6_tokenKind 82 = .ok (.if_icmp .gt 5, 3) := by decide +kernel
theorem dX6_tokenKind_85 : decode cX6_tokenKind 85 = .ok (.iconst 2, 1) := by decide +kernel
theorem dX6_tokenKind_86 : decode cX6_tokenKind 86 = .ok (.ireturn, 1) := by decide +kernel
theorem dX6_tokenKind_87 : decode cX6_tokenKind 87 = .ok (.aload_n 0, 1) := by decide +kernel
theorem dX6_tokenKind_88 : decode cX6_tokenKind 88 = .ok (.iload_n 1, 1) := by decide +kernel
theorem dX6_tokenKind_89 : decode cX6_tokenKind 89 = .ok (.invokevirtual 48, 3) := by decide +kernel
theorem dX6_tokenKind_92 : decode cX6_tokenKind 92 = .ok (.bipush 59, 2) := by decide +kernel
theorem dX6_tokenKind_94 : decode cX6_tokenKind 94 = .ok (.if_icmp .ne 7, 3) := by decide +kernel
theorem dX6_tokenKind_97 : decode cX6_tokenKind 97 = .ok (.iconst 3, 1) := by decide +kernel
theorem dX6_tokenKind_98 : decode cX6_tokenKind 98 = .ok (.goto 4, 3) := by decide +kernel
theorem dX6_tokenKind_101 : decode cX6_tokenKind 101 = .ok (.iconst 0, 1) := by decide +kernel
theorem dX6_tokenKind_102 : decode cX6_tokenKind 102 = .ok (.ireturn, 1) := by decide +kernel
theorem dX6_ruleOf_0 : decode cX6_ruleOf 0 = .ok (.getstatic 9, 3) := by decide +kernel
theorem dX6_ruleOf_3 : decode cX6_ruleOf 3 = .ok (.astore_n 3, 1) := by decide +kernel
theorem dX6_ruleOf_4 : decode cX6_ruleOf 4 = .ok (.aload_n 3, 1) := by decide +kernel
theorem dX6_ruleOf_5 : decode cX6_ruleOf 5 = .ok (.arraylength, 1) := by decide +kernel
theorem dX6_ruleOf_6 : decode cX6_ruleOf 6 = .ok (.istore 4, 2) := by decide +kernel
theorem dX6_ruleOf_8 : decode cX6_ruleOf 8 = .ok (.iconst 0, 1) := by decide +kernel
theorem dX6_ruleOf_9 : decode cX6_ruleOf 9 = .ok (.istore 5, 2) := by decide +kernel
theorem dX6_ruleOf_11 : decode cX6_ruleOf 11 = .ok (.iload 5, 2) := by decide +kernel
theorem dX6_ruleOf_13 : decode cX6_ruleOf 13 = .ok (.iload 4, 2) := by decide +kernel
theorem dX6_ruleOf_15 : decode cX6_ruleOf 15 = .ok (.if_icmp .ge 32, 3) := by decide +kernel
theorem dX6_ruleOf_18 : decode cX6_ruleOf 18 = .ok (.aload_n 3, 1) := by decide +kernel
theorem dX6_ruleOf_19 : decode cX6_ruleOf 19 = .ok (.iload 5, 2) := by decide +kernel
theorem dX6_ruleOf_21 : decode cX6_ruleOf 21 = .ok (.aaload, 1) := by decide +kernel
theorem dX6_ruleOf_22 : decode cX6_ruleOf 22 = .ok (.astore 6, 2) := by decide +kernel
theorem dX6_ruleOf_24 : decode cX6_ruleOf 24 = .ok (.aload_n 0, 1) := by decide +kernel
theorem dX6_ruleOf_25 : decode cX6_ruleOf 25 = .ok (.iload_n 1, 1) := by decide +kernel
theorem dX6_ruleOf_26 : decode cX6_ruleOf 26 = .ok (.iload_n 2, 1) := by decide +kernel
theorem dX6_ruleOf_27 : decode cX6_ruleOf 27 = .ok (.aload 6, 2) := by decide +kernel
theorem dX6_ruleOf_29 : decode cX6_ruleOf 29 = .ok (.getfield 120, 3) := by decide +kernel
theorem dX6_ruleOf_32 : decode cX6_ruleOf 32 = .ok (.invokestatic 124, 3) := by decide +kernel
theorem dX6_ruleOf_35 : decode cX6_ruleOf 35 = .ok (.ifCond .eq 6, 3) := by decide +kernel
theorem dX6_ruleOf_38 : decode cX6_ruleOf 38 = .ok (.aload 6, 2) := by decide +kernel
theorem dX6_ruleOf_40 : decode cX6_ruleOf 40 = .ok (.areturn, 1) := by decide +kernel
theorem dX6_ruleOf_41 : decode cX6_ruleOf 41 = .ok (.iinc 5 1, 3) := by decide +kernel
theorem dX6_ruleOf_44 : decode cX6_ruleOf 44 = .ok (.goto (-33), 3) := by decide +kernel
theorem dX6_ruleOf_47 : decode cX6_ruleOf 47 = .ok (.aconst_null, 1) := by decide +kernel
theorem dX6_ruleOf_48 : decode cX6_ruleOf 48 = .ok (.areturn, 1) := by decide +kernel
theorem dX6_spells_0 : decode cX6_spells 0 = .ok (.aload_n 3, 1) := by decide +kernel
theorem dX6_spells_1 : decode cX6_spells 1 = .ok (.invokevirtual 128, 3) := by decide +kernel
theorem dX6_spells_4 : decode cX6_spells 4 = .ok (.iload_n 2, 1) := by decide +kernel
theorem dX6_spells_5 : decode cX6_spells 5 = .ok (.iload_n 1, 1) := by decide +kernel
theorem dX6_spells_6 : decode cX6_spells 6 = .ok (.isub, 1) := by decide +kernel
theorem dX6_spells_7 : decode cX6_spells 7 = .ok (.if_icmp .eq 5, 3) := by decide +kernel
theorem dX6_spells_10 : decode cX6_spells 10 = .ok (.iconst 0, 1) := by decide +kernel
theorem dX6_spells_11 : decode cX6_spells 11 = .ok (.ireturn, 1) := by decide +kernel
theorem dX6_spells_12 : decode cX6_spells 12 = .ok (.iconst 0, 1) := by decide +kernel
theorem dX6_spells_13 : decode cX6_spells 13 = .ok (.istore 4, 2) := by decide +kernel
theorem dX6_spells_15 : decode cX6_spells 15 = .ok (.iload 4, 2) := by decide +kernel
theorem dX6_spells_17 : decode cX6_spells 17 = .ok (.aload_n 3, 1) := by decide +kernel
theorem dX6_spells_18 : decode cX6_spells 18 = .ok (.invokevirtual 128, 3) := by decide +kernel
theorem dX6_spells_21 : decode cX6_spells 21 = .ok (.if_icmp .ge 28, 3) := by decide +kernel
theorem dX6_spells_24 : decode cX6_spells 24 = .ok (.aload_n 0, 1) := by decide +kernel
theorem dX6_spells_25 : decode cX6_spells 25 = .ok (.iload_n 1, 1) := by decide +kernel
theorem dX6_spells_26 : decode cX6_spells 26 = .ok (.iload 4, 2) := by decide +kernel
theorem dX6_spells_28 : decode cX6_spells 28 = .ok (.iadd, 1) := by decide +kernel
theorem dX6_spells_29 : decode cX6_spells 29 = .ok (.invokevirtual 48, 3) := by decide +kernel
theorem dX6_spells_32 : decode cX6_spells 32 = .ok (.aload_n 3, 1) := by decide +kernel
theorem dX6_spells_33 : decode cX6_spells 33 = .ok (.iload 4, 2) := by decide +kernel
theorem dX6_spells_35 : decode cX6_spells 35 = .ok (.invokevirtual 133, 3) := by decide +kernel
theorem dX6_spells_38 : decode cX6_spells 38 = .ok (.if_icmp .eq 5, 3) := by decide +kernel
theorem dX6_spells_41 : decode cX6_spells 41 = .ok (.iconst 0, 1) := by decide +kernel
theorem dX6_spells_42 : decode cX6_spells 42 = .ok (.ireturn, 1) := by decide +kernel
theorem dX6_spells_43 : decode cX6_spells 43 = .ok (.iinc 4 1, 3) := by decide +kernel
theorem dX6_spells_46 : decode cX6_spells 46 = .ok (.goto (-31), 3) := by decide +kernel
theorem dX6_spells_49 : decode cX6_spells 49 = .ok (.iconst 1, 1) := by decide +kernel
theorem dX6_spells_50 : decode cX6_spells 50 = .ok (.ireturn, 1) := by decide +kernel
theorem dX6_isBlank_0 : decode cX6_isBlank 0 = .ok (.iload_n 0, 1) := by decide +kernel
theorem dX6_isBlank_1 : decode cX6_isBlank 1 = .ok (.bipush 32, 2) := by decide +kernel
theorem dX6_isBlank_3 : decode cX6_isBlank 3 = .ok (.if_icmp .eq 9, 3) := by decide +kernel
theorem dX6_isBlank_6 : decode cX6_isBlank 6 = .ok (.iload_n 0, 1) := by decide +kernel
theorem dX6_isBlank_7 : decode cX6_isBlank 7 = .ok (.bipush 10, 2) := by decide +kernel
theorem dX6_isBlank_9 : decode cX6_isBlank 9 = .ok (.if_icmp .ne 7, 3) := by decide +kernel
theorem dX6_isBlank_12 : decode cX6_isBlank 12 = .ok (.iconst 1, 1) := by decide +kernel
theorem dX6_isBlank_13 : decode cX6_isBlank 13 = .ok (.goto 4, 3) := by decide +kernel
theorem dX6_isBlank_16 : decode cX6_isBlank 16 = .ok (.iconst 0, 1) := by decide +kernel
theorem dX6_isBlank_17 : decode cX6_isBlank 17 = .ok (.ireturn, 1) := by decide +kernel
theorem dX6_isLetter_0 : decode cX6_isLetter 0 = .ok (.iload_n 0, 1) := by decide +kernel
theorem dX6_isLetter_1 : decode cX6_isLetter 1 = .ok (.bipush 97, 2) := by decide +kernel
theorem dX6_isLetter_3 : decode cX6_isLetter 3 = .ok (.if_icmp .lt 13, 3) := by decide +kernel
theorem dX6_isLetter_6 : decode cX6_isLetter 6 = .ok (.iload_n 0, 1) := by decide +kernel
theorem dX6_isLetter_7 : decode cX6_isLetter 7 = .ok (.bipush 122, 2) := by decide +kernel
theorem dX6_isLetter_9 : decode cX6_isLetter 9 = .ok (.if_icmp .gt 7, 3) := by decide +kernel
theorem dX6_isLetter_12 : decode cX6_isLetter 12 = .ok (.iconst 1, 1) := by decide +kernel
theorem dX6_isLetter_13 : decode cX6_isLetter 13 = .ok (.goto 4, 3) := by decide +kernel
theorem dX6_isLetter_16 : decode cX6_isLetter 16 = .ok (.iconst 0, 1) := by decide +kernel
theorem dX6_isLetter_17 : decode cX6_isLetter 17 = .ok (.ireturn, 1) := by decide +kernel
theorem dX6_isDigit_0 : decode cX6_isDigit 0 = .ok (.iload_n 0, 1) := by decide +kernel
theorem dX6_isDigit_1 : decode cX6_isDigit 1 = .ok (.bipush 48, 2) := by decide +kernel
theorem dX6_isDigit_3 : decode cX6_isDigit 3 = .ok (.if_icmp .lt 13, 3) := by decide +kernel
theorem dX6_isDigit_6 : decode cX6_isDigit 6 = .ok (.iload_n 0, 1) := by decide +kernel
theorem dX6_isDigit_7 : decode cX6_isDigit 7 = .ok (.bipush 57, 2) := by decide +kernel
theorem dX6_isDigit_9 : decode cX6_isDigit 9 = .ok (.if_icmp .gt 7, 3) := by decide +kernel
theorem dX6_isDigit_12 : decode cX6_isDigit 12 = .ok (.iconst 1, 1) := by decide +kernel
theorem dX6_isDigit_13 : decode cX6_isDigit 13 = .ok (.goto 4, 3) := by decide +kernel
theorem dX6_isDigit_16 : decode cX6_isDigit 16 = .ok (.iconst 0, 1) := by decide +kernel
theorem dX6_isDigit_17 : decode cX6_isDigit 17 = .ok (.ireturn, 1) := by decide +kernel
theorem dX6_isOfWordOrNumber_0 : decode cX6_isOfWordOrNumber 0 = .ok (.iload_n 0, 1) := by decide +kernel
theorem dX6_isOfWordOrNumber_1 : decode cX6_isOfWordOrNumber 1 = .ok (.invokestatic 114, 3) := by decide +kernel
theorem dX6_isOfWordOrNumber_4 : decode cX6_isOfWordOrNumber 4 = .ok (.ifCond .ne 10, 3) := by decide +kernel
theorem dX6_isOfWordOrNumber_7 : decode cX6_isOfWordOrNumber 7 = .ok (.iload_n 0, 1) := by decide +kernel
theorem dX6_isOfWordOrNumber_8 : decode cX6_isOfWordOrNumber 8 = .ok (.invokestatic 117, 3) := by decide +kernel
theorem dX6_isOfWordOrNumber_11 : decode cX6_isOfWordOrNumber 11 = .ok (.ifCond .eq 7, 3) := by decide +kernel
theorem dX6_isOfWordOrNumber_14 : decode cX6_isOfWordOrNumber 14 = .ok (.iconst 1, 1) := by decide +kernel
theorem dX6_isOfWordOrNumber_15 : decode cX6_isOfWordOrNumber 15 = .ok (.goto 4, 3) := by decide +kernel
theorem dX6_isOfWordOrNumber_18 : decode cX6_isOfWordOrNumber 18 = .ok (.iconst 0, 1) := by decide +kernel
theorem dX6_isOfWordOrNumber_19 : decode cX6_isOfWordOrNumber 19 = .ok (.ireturn, 1) := by decide +kernel
theorem dX7_init_0 : decode cX7_init 0 = .ok (.aload_n 0, 1) := by decide +kernel
theorem dX7_init_1 : decode cX7_init 1 = .ok (.invokespecial 3, 3) := by decide +kernel
theorem dX7_init_4 : decode cX7_init 4 = .ok (.aload_n 0, 1) := by decide +kernel
theorem dX7_init_5 : decode cX7_init 5 = .ok (.sipush 140, 3) := by decide +kernel
theorem dX7_init_8 : decode cX7_init 8 = .ok (.newarray .byte, 2) := by decide +kernel
theorem dX7_init_10 : decode cX7_init 10 = .ok (.putfield 11, 3) := by decide +kernel
theorem dX7_init_13 : decode cX7_init 13 = .ok (.return_, 1) := by decide +kernel
theorem dX7_hasRoomFor_0 : decode cX7_hasRoomFor 0 = .ok (.iload_n 1, 1) := by decide +kernel
theorem dX7_hasRoomFor_1 : decode cX7_hasRoomFor 1 = .ok (.sipush 140, 3) := by decide +kernel
theorem dX7_hasRoomFor_4 : decode cX7_hasRoomFor 4 = .ok (.aload_n 0, 1) := by decide +kernel
theorem dX7_hasRoomFor_5 : decode cX7_hasRoomFor 5 = .ok (.getfield 15, 3) := by decide +kernel
theorem dX7_hasRoomFor_8 : decode cX7_hasRoomFor 8 = .ok (.isub, 1) := by decide +kernel
theorem dX7_hasRoomFor_9 : decode cX7_hasRoomFor 9 = .ok (.if_icmp .gt 7, 3) := by decide +kernel
theorem dX7_hasRoomFor_12 : decode cX7_hasRoomFor 12 = .ok (.iconst 1, 1) := by decide +kernel
theorem dX7_hasRoomFor_13 : decode cX7_hasRoomFor 13 = .ok (.goto 4, 3) := by decide +kernel
theorem dX7_hasRoomFor_16 : decode cX7_hasRoomFor 16 = .ok (.iconst 0, 1) := by decide +kernel
theorem dX7_hasRoomFor_17 : decode cX7_hasRoomFor 17 = .ok (.ireturn, 1) := by decide +kernel
theorem dX7_append_0 : decode cX7_append 0 = .ok (.bipush 24, 2) := by decide +kernel
theorem dX7_append_2 : decode cX7_append 2 = .ok (.istore_n 2, 1) := by decide +kernel
theorem dX7_append_3 : decode cX7_append 3 = .ok (.iload_n 2, 1) := by decide +kernel
theorem dX7_append_4 : decode cX7_append 4 = .ok (.ifCond .lt 42, 3) := by decide +kernel
theorem dX7_append_7 : decode cX7_append 7 = .ok (.aload_n 0, 1) := by decide +kernel
theorem dX7_append_8 : decode cX7_append 8 = .ok (.getfield 15, 3) := by decide +kernel
theorem dX7_append_11 : decode cX7_append 11 = .ok (.sipush 140, 3) := by decide +kernel
theorem dX7_append_14 : decode cX7_append 14 = .ok (.if_icmp .ge 32, 3) := by decide +kernel
theorem dX7_append_17 : decode cX7_append 17 = .ok (.aload_n 0, 1) := by decide +kernel
theorem dX7_append_18 : decode cX7_append 18 = .ok (.getfield 11, 3) := by decide +kernel
theorem dX7_append_21 : decode cX7_append 21 = .ok (.aload_n 0, 1) := by decide +kernel
theorem dX7_append_22 : decode cX7_append 22 = .ok (.getfield 15, 3) := by decide +kernel
theorem dX7_append_25 : decode cX7_append 25 = .ok (.iload_n 1, 1) := by decide +kernel
theorem dX7_append_26 : decode cX7_append 26 = .ok (.iload_n 2, 1) := by decide +kernel
theorem dX7_append_27 : decode cX7_append 27 = .ok (.iushr, 1) := by decide +kernel
theorem dX7_append_28 : decode cX7_append 28 = .ok (.i2b, 1) := by decide +kernel
theorem dX7_append_29 : decode cX7_append 29 = .ok (.bastore, 1) := by decide +kernel
theorem dX7_append_30 : decode cX7_append 30 = .ok (.aload_n 0, 1) := by decide +kernel
theorem dX7_append_31 : decode cX7_append 31 = .ok (.dup, 1) := by decide +kernel
theorem dX7_append_32 : decode cX7_append 32 = .ok (.getfield 15, 3) := by decide +kernel
theorem dX7_append_35 : decode cX7_append 35 = .ok (.iconst 1, 1) := by decide +kernel
theorem dX7_append_36 : decode cX7_append 36 = .ok (.iadd, 1) := by decide +kernel
theorem dX7_append_37 : decode cX7_append 37 = .ok (.putfield 15, 3) := by decide +kernel
theorem dX7_append_40 : decode cX7_append 40 = .ok (.iinc 2 (-8), 3) := by decide +kernel
theorem dX7_append_43 : decode cX7_append 43 = .ok (.goto (-40), 3) := by decide +kernel
theorem dX7_append_46 : decode cX7_append 46 = .ok (.return_, 1) := by decide +kernel
theorem dX7_shortenTo_0 : decode cX7_shortenTo 0 = .ok (.iload_n 1, 1) := by decide +kernel
theorem dX7_shortenTo_1 : decode cX7_shortenTo 1 = .ok (.iconst 0, 1) := by decide +kernel
theorem dX7_shortenTo_2 : decode cX7_shortenTo 2 = .ok (.aload_n 0, 1) := by decide +kernel
theorem dX7_shortenTo_3 : decode cX7_shortenTo 3 = .ok (.getfield 15, 3) := by decide +kernel
theorem dX7_shortenTo_6 : decode cX7_shortenTo 6 = .ok (.invokestatic 19, 3) := by decide +kernel
theorem dX7_shortenTo_9 : decode cX7_shortenTo 9 = .ok (.ifCond .ne 5, 3) := by decide +kernel
theorem dX7_shortenTo_12 : decode cX7_shortenTo 12 = .ok (.iconst 0, 1) := by decide +kernel
theorem dX7_shortenTo_13 : decode cX7_shortenTo 13 = .ok (.ireturn, 1) := by decide +kernel
theorem dX7_shortenTo_14 : decode cX7_shortenTo 14 = .ok (.aload_n 0, 1) := by decide +kernel
theorem dX7_shortenTo_15 : decode cX7_shortenTo 15 = .ok (.iload_n 1, 1) := by decide +kernel
theorem dX7_shortenTo_16 : decode cX7_shortenTo 16 = .ok (.putfield 15, 3) := by decide +kernel
theorem dX7_shortenTo_19 : decode cX7_shortenTo 19 = .ok (.iconst 1, 1) := by decide +kernel
theorem dX7_shortenTo_20 : decode cX7_shortenTo 20 = .ok (.ireturn, 1) := by decide +kernel
theorem dX7_at_0 : decode cX7_at 0 = .ok (.iload_n 1, 1) := by decide +kernel
theorem dX7_at_1 : decode cX7_at 1 = .ok (.ifCond .lt 31, 3) := by decide +kernel
theorem dX7_at_4 : decode cX7_at 4 = .ok (.iload_n 1, 1) := by decide +kernel
theorem dX7_at_5 : decode cX7_at 5 = .ok (.aload_n 0, 1) := by decide +kernel
theorem dX7_at_6 : decode cX7_at 6 = .ok (.getfield 15, 3) := by decide +kernel
theorem dX7_at_9 : decode cX7_at 9 = .ok (.if_icmp .ge 23, 3) := by decide +kernel
theorem dX7_at_12 : decode cX7_at 12 = .ok (.iload_n 1, 1) := by decide +kernel
theorem dX7_at_13 : decode cX7_at 13 = .ok (.sipush 140, 3) := by decide +kernel
theorem dX7_at_16 : decode cX7_at 16 = .ok (.if_icmp .ge 16, 3) := by decide +kernel
theorem dX7_at_19 : decode cX7_at 19 = .ok (.aload_n 0, 1) := by decide +kernel
theorem dX7_at_20 : decode cX7_at 20 = .ok (.getfield 11, 3) := by decide +kernel
theorem dX7_at_23 : decode cX7_at 23 = .ok (.iload_n 1, 1) := by decide +kernel
theorem dX7_at_24 : decode cX7_at 24 = .ok (.baload, 1) := by decide +kernel
theorem dX7_at_25 : decode cX7_at 25 = .ok (.sipush 255, 3) := by decide +kernel
theorem dX7_at_28 : decode cX7_at 28 = .ok (.iand, 1) := by decide +kernel
theorem dX7_at_29 : decode cX7_at 29 = .ok (.goto 4, 3) := by decide +kernel
theorem dX7_at_32 : decode cX7_at 32 = .ok (.iconst (-1), 1) := by decide +kernel
theorem dX7_at_33 : decode cX7_at 33 = .ok (.ireturn, 1) := by decide +kernel
theorem dX8_init_0 : decode cX8_init 0 = .ok (.aload_n 0, 1) := by decide +kernel
theorem dX8_init_1 : decode cX8_init 1 = .ok (.invokespecial 3, 3) := by decide +kernel
theorem dX8_init_4 : decode cX8_init 4 = .ok (.aload_n 0, 1) := by decide +kernel
theorem dX8_init_5 : decode cX8_init 5 = .ok (.bipush 28, 2) := by decide +kernel
theorem dX8_init_7 : decode cX8_init 7 = .ok (.newarray .int, 2) := by decide +kernel
theorem dX8_init_9 : decode cX8_init 9 = .ok (.putfield 9, 3) := by decide +kernel
theorem dX8_init_12 : decode cX8_init 12 = .ok (.aload_n 0, 1) := by decide +kernel
theorem dX8_init_13 : decode cX8_init 13 = .ok (.bipush 28, 2) := by decide +kernel
theorem dX8_init_15 : decode cX8_init 15 = .ok (.newarray .int, 2) := by decide +kernel
theorem dX8_init_17 : decode cX8_init 17 = .ok (.putfield 15, 3) := by decide +kernel
theorem dX8_init_20 : decode cX8_init 20 = .ok (.aload_n 0, 1) := by decide +kernel
theorem dX8_init_21 : decode cX8_init 21 = .ok (.bipush 50, 2) := by decide +kernel
theorem dX8_init_23 : decode cX8_init 23 = .ok (.newarray .int, 2) := by decide +kernel
theorem dX8_init_25 : decode cX8_init 25 = .ok (.putfield 18, 3) := by decide +kernel
theorem dX8_init_28 : decode cX8_init 28 = .ok (.aload_n 0, 1) := by decide +kernel
theorem dX8_init_29 : decode cX8_init 29 = .ok (.sipush 1400, 3) := by decide +kernel
theorem dX8_init_32 : decode cX8_init 32 = .ok (.newarray .int, 2) := by decide +kernel
theorem dX8_init_34 : decode cX8_init 34 = .ok (.putfield 21, 3) := by decide +kernel
theorem dX8_init_37 : decode cX8_init 37 = .ok (.aload_n 0, 1) := by decide +kernel
theorem dX8_init_38 : decode cX8_init 38 = .ok (.iload_n 1, 1) := by decide +kernel
theorem dX8_init_39 : decode cX8_init 39 = .ok (.putfield 24, 3) := by decide +kernel
theorem dX8_init_42 : decode cX8_init 42 = .ok (.aload_n 0, 1) := by decide +kernel
theorem dX8_init_43 : decode cX8_init 43 = .ok (.iload_n 1, 1) := by decide +kernel
theorem dX8_init_44 : decode cX8_init 44 = .ok (.putfield 28, 3) := by decide +kernel
theorem dX8_init_47 : decode cX8_init 47 = .ok (.aload_n 0, 1) := by decide +kernel
theorem dX8_init_48 : decode cX8_init 48 = .ok (.iload_n 2, 1) := by decide +kernel
theorem dX8_init_49 : decode cX8_init 49 = .ok (.putfield 31, 3) := by decide +kernel
theorem dX8_init_52 : decode cX8_init 52 = .ok (.aload_n 0, 1) := by decide +kernel
theorem dX8_init_53 : decode cX8_init 53 = .ok (.iload_n 3, 1) := by decide +kernel
theorem dX8_init_54 : decode cX8_init 54 = .ok (.putfield 34, 3) := by decide +kernel
theorem dX8_init_57 : decode cX8_init 57 = .ok (.iload_n 3, 1) := by decide +kernel
theorem dX8_init_58 : decode cX8_init 58 = .ok (.iconst 0, 1) := by decide +kernel
theorem dX8_init_59 : decode cX8_init 59 = .ok (.bipush 49, 2) := by decide +kernel
theorem dX8_init_61 : decode cX8_init 61 = .ok (.invokestatic 37, 3) := by decide +kernel
theorem dX8_init_64 : decode cX8_init 64 = .ok (.ifCond .eq 10, 3) := by decide +kernel
theorem dX8_init_67 : decode cX8_init 67 = .ok (.aload_n 0, 1) := by decide +kernel
theorem dX8_init_68 : decode cX8_init 68 = .ok (.getfield 18, 3) := by decide +kernel
theorem dX8_init_71 : decode cX8_init 71 = .ok (.iload_n 3, 1) := by decide +kernel
theorem dX8_init_72 : decode cX8_init 72 = .ok (.iload_n 2, 1) := by decide +kernel
theorem dX8_init_73 : decode cX8_init 73 = .ok (.iastore, 1) := by decide +kernel
theorem dX8_init_74 : decode cX8_init 74 = .ok (.return_, 1) := by decide +kernel
theorem dX8_heldAsOf_0 : decode cX8_heldAsOf 0 = .ok (.iload_n 1, 1) := by decide +kernel
theorem dX8_heldAsOf_1 : decode cX8_heldAsOf 1 = .ok (.iconst 0, 1) := by decide +kernel
theorem dX8_heldAsOf_2 : decode cX8_heldAsOf 2 = .ok (.bipush 49, 2) := by decide +kernel
theorem dX8_heldAsOf_4 : decode cX8_heldAsOf 4 = .ok (.invokestatic 37, 3) := by decide +kernel
theorem dX8_heldAsOf_7 : decode cX8_heldAsOf 7 = .ok (.ifCond .eq 13, 3) := by decide +kernel
theorem dX8_heldAsOf_10 : decode cX8_heldAsOf 10 = .ok (.iload_n 2, 1) := by decide +kernel
theorem dX8_heldAsOf_11 : decode cX8_heldAsOf 11 = .ok (.iconst 0, 1) := by decide +kernel
theorem dX8_heldAsOf_12 : decode cX8_heldAsOf 12 = .ok (.bipush 27, 2) := by decide +kernel
theorem dX8_heldAsOf_14 : decode cX8_heldAsOf 14 = .ok (.invokestatic 37, 3) := by decide +kernel
theorem dX8_heldAsOf_17 : decode cX8_heldAsOf 17 = .ok (.ifCond .ne 5, 3) := by decide +kernel
theorem dX8_heldAsOf_20 : decode cX8_heldAsOf 20 = .ok (.iconst 0, 1) := by decide +kernel
theorem dX8_heldAsOf_21 : decode cX8_heldAsOf 21 = .ok (.ireturn, 1) := by decide +kernel
theorem dX8_heldAsOf_22 : decode cX8_heldAsOf 22 = .ok (.aload_n 0, 1) := by decide +kernel
theorem dX8_heldAsOf_23 : decode cX8_heldAsOf 23 = .ok (.getfield 21, 3) := by decide +kernel
theorem dX8_heldAsOf_26 : decode cX8_heldAsOf 26 = .ok (.iload_n 1, 1) := by decide +kernel
theorem dX8_heldAsOf_27 : decode cX8_heldAsOf 27 = .ok (.bipush 28, 2) := by decide +kernel
theorem dX8_heldAsOf_29 : decode cX8_heldAsOf 29 = .ok (.imul, 1) := by decide +kernel
theorem dX8_heldAsOf_30 : decode cX8_heldAsOf 30 = .ok (.iload_n 2, 1) := by decide +kernel
theorem dX8_heldAsOf_31 : decode cX8_heldAsOf 31 = .ok (.iadd, 1) := by decide +kernel
theorem dX8_heldAsOf_32 : decode cX8_heldAsOf 32 = .ok (.iaload, 1) := by decide +kernel
theorem dX8_heldAsOf_33 : decode cX8_heldAsOf 33 = .ok (.ireturn, 1) := by decide +kernel
theorem dX8_keepFor_0 : decode cX8_keepFor 0 = .ok (.iload_n 1, 1) := by decide +kernel
theorem dX8_keepFor_1 : decode cX8_keepFor 1 = .ok (.iconst 0, 1) := by decide +kernel
theorem dX8_keepFor_2 : decode cX8_keepFor 2 = .ok (.bipush 49, 2) := by decide +kernel
theorem dX8_keepFor_4 : decode cX8_keepFor 4 = .ok (.invokestatic 37, 3) := by decide +kernel
theorem dX8_keepFor_7 : decode cX8_keepFor 7 = .ok (.ifCond .ne 4, 3) := by decide +kernel
theorem dX8_keepFor_10 : decode cX8_keepFor 10 = .ok (.return_, 1) := by decide +kernel
theorem dX8_keepFor_11 : decode cX8_keepFor 11 = .ok (.iconst 0, 1) := by decide +kernel
theorem dX8_keepFor_12 : decode cX8_keepFor 12 = .ok (.istore_n 2, 1) := by decide +kernel
theorem dX8_keepFor_13 : decode cX8_keepFor 13 = .ok (.iload_n 2, 1) := by decide +kernel
theorem dX8_keepFor_14 : decode cX8_keepFor 14 = .ok (.bipush 28, 2) := by decide +kernel
theorem dX8_keepFor_16 : decode cX8_keepFor 16 = .ok (.if_icmp .ge 33, 3) := by decide +kernel
theorem dX8_keepFor_19 : decode cX8_keepFor 19 = .ok (.aload_n 0, 1) := by decide +kernel
theorem dX8_keepFor_20 : decode cX8_keepFor 20 = .ok (.getfield 9, 3) := by decide +kernel
theorem dX8_keepFor_23 : decode cX8_keepFor 23 = .ok (.iload_n 2, 1) := by decide +kernel
theorem dX8_keepFor_24 : decode cX8_keepFor 24 = .ok (.iconst 0, 1) := by decide +kernel
theorem dX8_keepFor_25 : decode cX8_keepFor 25 = .ok (.iastore, 1) := by decide +kernel
theorem dX8_keepFor_26 : decode cX8_keepFor 26 = .ok (.aload_n 0, 1) := by decide +kernel
theorem dX8_keepFor_27 : decode cX8_keepFor 27 = .ok (.getfield 21, 3) := by decide +kernel
theorem dX8_keepFor_30 : decode cX8_keepFor 30 = .ok (.iload_n 1, 1) := by decide +kernel
theorem dX8_keepFor_31 : decode cX8_keepFor 31 = .ok (.bipush 28, 2) := by decide +kernel
theorem dX8_keepFor_33 : decode cX8_keepFor 33 = .ok (.imul, 1) := by decide +kernel
theorem dX8_keepFor_34 : decode cX8_keepFor 34 = .ok (.iload_n 2, 1) := by decide +kernel
theorem dX8_keepFor_35 : decode cX8_keepFor 35 = .ok (.iadd, 1) := by decide +kernel
theorem dX8_keepFor_36 : decode cX8_keepFor 36 = .ok (.aload_n 0, 1) := by decide +kernel
theorem dX8_keepFor_37 : decode cX8_keepFor 37 = .ok (.getfield 15, 3) := by decide +kernel
theorem dX8_keepFor_40 : decode cX8_keepFor 40 = .ok (.iload_n 2, 1) := by decide +kernel
theorem dX8_keepFor_41 : decode cX8_keepFor 41 = .ok (.iaload, 1) := by decide +kernel
theorem dX8_keepFor_42 : decode cX8_keepFor 42 = .ok (.iastore, 1) := by decide +kernel
theorem dX8_keepFor_43 : decode cX8_keepFor 43 = .ok (.iinc 2 1, 3) := by decide +kernel
theorem dX8_keepFor_46 : decode cX8_keepFor 46 = .ok (.goto (-33), 3) := by decide +kernel
theorem dX8_keepFor_49 : decode cX8_keepFor 49 = .ok (.aload_n 0, 1) := by decide +kernel
theorem dX8_keepFor_50 : decode cX8_keepFor 50 = .ok (.getfield 18, 3) := by decide +kernel
theorem dX8_keepFor_53 : decode cX8_keepFor 53 = .ok (.iload_n 1, 1) := by decide +kernel
theorem dX8_keepFor_54 : decode cX8_keepFor 54 = .ok (.aload_n 0, 1) := by decide +kernel
theorem dX8_keepFor_55 : decode cX8_keepFor 55 = .ok (.getfield 31, 3) := by decide +kernel
theorem dX8_keepFor_58 : decode cX8_keepFor 58 = .ok (.iastore, 1) := by decide +kernel
theorem dX8_keepFor_59 : decode cX8_keepFor 59 = .ok (.return_, 1) := by decide +kernel
theorem dX9_init_0 : decode cX9_init 0 = .ok (.aload_n 0, 1) := by decide +kernel
theorem dX9_init_1 : decode cX9_init 1 = .ok (.invokespecial 3, 3) := by decide +kernel
theorem dX9_init_4 : decode cX9_init 4 = .ok (.aload_n 0, 1) := by decide +kernel
theorem dX9_init_5 : decode cX9_init 5 = .ok (.new 9, 3) := by decide +kernel
theorem dX9_init_8 : decode cX9_init 8 = .ok (.dup, 1) := by decide +kernel
theorem dX9_init_9 : decode cX9_init 9 = .ok (.invokespecial 11, 3) := by decide +kernel
theorem dX9_init_12 : decode cX9_init 12 = .ok (.putfield 12, 3) := by decide +kernel
theorem dX9_init_15 : decode cX9_init 15 = .ok (.aload_n 0, 1) := by decide +kernel
theorem dX9_init_16 : decode cX9_init 16 = .ok (.new 16, 3) := by decide +kernel
theorem dX9_init_19 : decode cX9_init 19 = .ok (.dup, 1) := by decide +kernel
theorem dX9_init_20 : decode cX9_init 20 = .ok (.invokespecial 18, 3) := by decide +kernel
theorem dX9_init_23 : decode cX9_init 23 = .ok (.putfield 19, 3) := by decide +kernel
theorem dX9_init_26 : decode cX9_init 26 = .ok (.aload_n 0, 1) := by decide +kernel
theorem dX9_init_27 : decode cX9_init 27 = .ok (.bipush 10, 2) := by decide +kernel
theorem dX9_init_29 : decode cX9_init 29 = .ok (.anewarray 23, 3) := by decide +kernel
theorem dX9_init_32 : decode cX9_init 32 = .ok (.putfield 25, 3) := by decide +kernel
theorem dX9_init_35 : decode cX9_init 35 = .ok (.aload_n 0, 1) := by decide +kernel
theorem dX9_init_36 : decode cX9_init 36 = .ok (.bipush 24, 2) := by decide +kernel
theorem dX9_init_38 : decode cX9_init 38 = .ok (.anewarray 29, 3) := by decide +kernel
theorem dX9_init_41 : decode cX9_init 41 = .ok (.putfield 31, 3) := by decide +kernel
theorem dX9_init_44 : decode cX9_init 44 = .ok (.aload_n 0, 1) := by decide +kernel
theorem dX9_init_45 : decode cX9_init 45 = .ok (.iconst 4, 1) := by decide +kernel
theorem dX9_init_46 : decode cX9_init 46 = .ok (.anewarray 35, 3) := by decide +kernel
theorem dX9_init_49 : decode cX9_init 49 = .ok (.putfield 37, 3) := by decide +kernel
theorem dX9_init_52 : decode cX9_init 52 = .ok (.aload_n 0, 1) := by decide +kernel
theorem dX9_init_53 : decode cX9_init 53 = .ok (.new 41, 3) := by decide +kernel
theorem dX9_init_56 : decode cX9_init 56 = .ok (.dup, 1) := by decide +kernel
theorem dX9_init_57 : decode cX9_init 57 = .ok (.invokespecial 43, 3) := by decide +kernel
theorem dX9_init_60 : decode cX9_init 60 = .ok (.putfield 44, 3) := by decide +kernel
theorem dX9_init_63 : decode cX9_init 63 = .ok (.return_, 1) := by decide +kernel
theorem dX9_feed_0 : decode cX9_feed 0 = .ok (.aload_n 0, 1) := by decide +kernel
theorem dX9_feed_1 : decode cX9_feed 1 = .ok (.getfield 12, 3) := by decide +kernel
theorem dX9_feed_4 : decode cX9_feed 4 = .ok (.bipush 20, 2) := by decide +kernel
theorem dX9_feed_6 : decode cX9_feed 6 = .ok (.invokevirtual 48, 3) := by decide +kernel
theorem dX9_feed_9 : decode cX9_feed 9 = .ok (.ifCond .ne 5, 3) := by decide +kernel
theorem dX9_feed_12 : decode cX9_feed 12 = .ok (.iconst (-1), 1) := by decide +kernel
theorem dX9_feed_13 : decode cX9_feed 13 = .ok (.ireturn, 1) := by decide +kernel
theorem dX9_feed_14 : decode cX9_feed 14 = .ok (.aload_n 0, 1) := by decide +kernel
theorem dX9_feed_15 : decode cX9_feed 15 = .ok (.getfield 12, 3) := by decide +kernel
theorem dX9_feed_18 : decode cX9_feed 18 = .ok (.iload_n 1, 1) := by decide +kernel
theorem dX9_feed_19 : decode cX9_feed 19 = .ok (.invokevirtual 52, 3) := by decide +kernel
theorem dX9_feed_22 : decode cX9_feed 22 = .ok (.aload_n 0, 1) := by decide +kernel
theorem dX9_feed_23 : decode cX9_feed 23 = .ok (.getfield 12, 3) := by decide +kernel
theorem dX9_feed_26 : decode cX9_feed 26 = .ok (.iload_n 2, 1) := by decide +kernel
theorem dX9_feed_27 : decode cX9_feed 27 = .ok (.invokevirtual 52, 3) := by decide +kernel
theorem dX9_feed_30 : decode cX9_feed 30 = .ok (.aload_n 0, 1) := by decide +kernel
theorem dX9_feed_31 : decode cX9_feed 31 = .ok (.getfield 12, 3) := by decide +kernel
theorem dX9_feed_34 : decode cX9_feed 34 = .ok (.iload_n 3, 1) := by decide +kernel
theorem dX9_feed_35 : decode cX9_feed 35 = .ok (.invokevirtual 52, 3) := by decide +kernel
theorem dX9_feed_38 : decode cX9_feed 38 = .ok (.aload_n 0, 1) := by decide +kernel
theorem dX9_feed_39 : decode cX9_feed 39 = .ok (.getfield 12, 3) := by decide +kernel
theorem dX9_feed_42 : decode cX9_feed 42 = .ok (.iload 4, 2) := by decide +kernel
theorem dX9_feed_44 : decode cX9_feed 44 = .ok (.invokevirtual 52, 3) := by decide +kernel
theorem dX9_feed_47 : decode cX9_feed 47 = .ok (.aload_n 0, 1) := by decide +kernel
theorem dX9_feed_48 : decode cX9_feed 48 = .ok (.getfield 12, 3) := by decide +kernel
theorem dX9_feed_51 : decode cX9_feed 51 = .ok (.iload 5, 2) := by decide +kernel
theorem dX9_feed_53 : decode cX9_feed 53 = .ok (.invokevirtual 52, 3) := by decide +kernel
theorem dX9_feed_56 : decode cX9_feed 56 = .ok (.aload_n 0, 1) := by decide +kernel
theorem dX9_feed_57 : decode cX9_feed 57 = .ok (.getfield 12, 3) := by decide +kernel
theorem dX9_feed_60 : decode cX9_feed 60 = .ok (.getfield 56, 3) := by decide +kernel
theorem dX9_feed_63 : decode cX9_feed 63 = .ok (.ireturn, 1) := by decide +kernel
theorem dX9_end_0 : decode cX9_end 0 = .ok (.aload_n 0, 1) := by decide +kernel
theorem dX9_end_1 : decode cX9_end 1 = .ok (.getfield 12, 3) := by decide +kernel
theorem dX9_end_4 : decode cX9_end 4 = .ok (.iload_n 1, 1) := by decide +kernel
theorem dX9_end_5 : decode cX9_end 5 = .ok (.invokevirtual 60, 3) := by decide +kernel
theorem dX9_end_8 : decode cX9_end 8 = .ok (.ireturn, 1) := by decide +kernel
theorem dX9_rules_0 : decode cX9_rules 0 = .ok (.aload_n 0, 1) := by decide +kernel
theorem dX9_rules_1 : decode cX9_rules 1 = .ok (.getfield 19, 3) := by decide +kernel
theorem dX9_rules_4 : decode cX9_rules 4 = .ok (.aload_n 0, 1) := by decide +kernel
theorem dX9_rules_5 : decode cX9_rules 5 = .ok (.getfield 12, 3) := by decide +kernel
theorem dX9_rules_8 : decode cX9_rules 8 = .ok (.invokevirtual 63, 3) := by decide +kernel
theorem dX9_rules_11 : decode cX9_rules 11 = .ok (.istore_n 1, 1) := by decide +kernel
theorem dX9_rules_12 : decode cX9_rules 12 = .ok (.aload_n 0, 1) := by decide +kernel
theorem dX9_rules_13 : decode cX9_rules 13 = .ok (.getfield 12, 3) := by decide +kernel
theorem dX9_rules_16 : decode cX9_rules 16 = .ok (.iconst 0, 1) := by decide +kernel
theorem dX9_rules_17 : decode cX9_rules 17 = .ok (.invokevirtual 60, 3) := by decide +kernel
theorem dX9_rules_20 : decode cX9_rules 20 = .ok (.pop, 1) := by decide +kernel
theorem dX9_rules_21 : decode cX9_rules 21 = .ok (.iload_n 1, 1) := by decide +kernel
theorem dX9_rules_22 : decode cX9_rules 22 = .ok (.ireturn, 1) := by decide +kernel
theorem dX9_fault_0 : decode cX9_fault 0 = .ok (.aload_n 0, 1) := by decide +kernel
theorem dX9_fault_1 : decode cX9_fault 1 = .ok (.getfield 19, 3) := by decide +kernel
theorem dX9_fault_4 : decode cX9_fault 4 = .ok (.getfield 67, 3) := by decide +kernel
theorem dX9_fault_7 : decode cX9_fault 7 = .ok (.ireturn, 1) := by decide +kernel
theorem dX9_rule_0 : decode cX9_rule 0 = .ok (.iload_n 1, 1) := by decide +kernel
theorem dX9_rule_1 : decode cX9_rule 1 = .ok (.ifCond .lt 27, 3) := by decide +kernel
theorem dX9_rule_4 : decode cX9_rule 4 = .ok (.iload_n 1, 1) := by decide +kernel
theorem dX9_rule_5 : decode cX9_rule 5 = .ok (.aload_n 0, 1) := by decide +kernel
theorem dX9_rule_6 : decode cX9_rule 6 = .ok (.getfield 19, 3) := by decide +kernel
theorem dX9_rule_9 : decode cX9_rule 9 = .ok (.getfield 70, 3) := by decide +kernel
theorem dX9_rule_12 : decode cX9_rule 12 = .ok (.arraylength, 1) := by decide +kernel
theorem dX9_rule_13 : decode cX9_rule 13 = .ok (.if_icmp .ge 15, 3) := by decide +kernel
theorem dX9_rule_16 : decode cX9_rule 16 = .ok (.aload_n 0, 1) := by decide +kernel
theorem dX9_rule_17 : decode cX9_rule 17 = .ok (.getfield 19, 3) := by decide +kernel
theorem dX9_rule_20 : decode cX9_rule 20 = .ok (.getfield 70, 3) := by decide +kernel
theorem dX9_rule_23 : decode cX9_rule 23 = .ok (.iload_n 1, 1) := by decide +kernel
theorem dX9_rule_24 : decode cX9_rule 24 = .ok (.iaload, 1) := by decide +kernel
theorem dX9_rule_25 : decode cX9_rule 25 = .ok (.goto 4, 3) := by decide +kernel
theorem dX9_rule_28 : decode cX9_rule 28 = .ok (.iconst (-1), 1) := by decide +kernel
theorem dX9_rule_29 : decode cX9_rule 29 = .ok (.ireturn, 1) := by decide +kernel
theorem dX9_work_0 : decode cX9_work 0 = .ok (.aload_n 0, 1) := by decide +kernel
theorem dX9_work_1 : decode cX9_work 1 = .ok (.getfield 74, 3) := by decide +kernel
theorem dX9_work_4 : decode cX9_work 4 = .ok (.aload_n 0, 1) := by decide +kernel
theorem dX9_work_5 : decode cX9_work 5 = .ok (.getfield 25, 3) := by decide +kernel
theorem dX9_work_8 : decode cX9_work 8 = .ok (.arraylength, 1) := by decide +kernel
theorem dX9_work_9 : decode cX9_work 9 = .ok (.if_icmp .ge 25, 3) := by decide +kernel
theorem dX9_work_12 : decode cX9_work 12 = .ok (.iload_n 1, 1) := by decide +kernel
theorem dX9_work_13 : decode cX9_work 13 = .ok (.iconst 1, 1) := by decide +kernel
theorem dX9_work_14 : decode cX9_work 14 = .ok (.sipush 1000, 3) := by decide +kernel
theorem dX9_work_17 : decode cX9_work 17 = .ok (.invokestatic 77, 3) := by decide +kernel
theorem dX9_work_20 : decode cX9_work 20 = .ok (.ifCond .eq 14, 3) := by decide +kernel
theorem dX9_work_23 : decode cX9_work 23 = .ok (.iload_n 2, 1) := by decide +kernel
theorem dX9_work_24 : decode cX9_work 24 = .ok (.iconst 1, 1) := by decide +kernel
theorem dX9_work_25 : decode cX9_work 25 = .ok (.sipush 9999, 3) := by decide +kernel
theorem dX9_work_28 : decode cX9_work 28 = .ok (.invokestatic 77, 3) := by decide +kernel
theorem dX9_work_31 : decode cX9_work 31 = .ok (.ifCond .ne 5, 3) := by decide +kernel
theorem dX9_work_34 : decode cX9_work 34 = .ok (.iconst (-1), 1) := by decide +kernel
theorem dX9_work_35 : decode cX9_work 35 = .ok (.ireturn, 1) := by decide +kernel
theorem dX9_work_36 : decode cX9_work 36 = .ok (.aload_n 0, 1) := by decide +kernel
theorem dX9_work_37 : decode cX9_work 37 = .ok (.getfield 25, 3) := by decide +kernel
theorem dX9_work_40 : decode cX9_work 40 = .ok (.aload_n 0, 1) := by decide +kernel
theorem dX9_work_41 : decode cX9_work 41 = .ok (.getfield 74, 3) := by decide +kernel
theorem dX9_work_44 : decode cX9_work 44 = .ok (.new 23, 3) := by decide +kernel
theorem dX9_work_47 : decode cX9_work 47 = .ok (.dup, 1) := by decide +kernel
theorem dX9_work_48 : decode cX9_work 48 = .ok (.iload_n 1, 1) := by decide +kernel
theorem dX9_work_49 : decode cX9_work 49 = .ok (.iload_n 2, 1) := by decide +kernel
theorem dX9_work_50 : decode cX9_work 50 = .ok (.aload_n 0, 1) := by decide +kernel
theorem dX9_work_51 : decode cX9_work 51 = .ok (.getfield 81, 3) := by decide +kernel
theorem dX9_work_54 : decode cX9_work 54 = .ok (.invokespecial 84, 3) := by decide +kernel
theorem dX9_work_57 : decode cX9_work 57 = .ok (.aastore, 1) := by decide +kernel
theorem dX9_work_58 : decode cX9_work 58 = .ok (.aload_n 0, 1) := by decide +kernel
theorem dX9_work_59 : decode cX9_work 59 = .ok (.dup, 1) := by decide +kernel
theorem dX9_work_60 : decode cX9_work 60 = .ok (.getfield 74, 3) := by decide +kernel
theorem dX9_work_63 : decode cX9_work 63 = .ok (.iconst 1, 1) := by decide +kernel
theorem dX9_work_64 : decode cX9_work 64 = .ok (.iadd, 1) := by decide +kernel
theorem dX9_work_65 : decode cX9_work 65 = .ok (.putfield 74, 3) := by decide +kernel
theorem dX9_work_68 : decode cX9_work 68 = .ok (.aload_n 0, 1) := by decide +kernel
theorem dX9_work_69 : decode cX9_work 69 = .ok (.getfield 74, 3) := by decide +kernel
theorem dX9_work_72 : decode cX9_work 72 = .ok (.iconst 1, 1) := by decide +kernel
theorem dX9_work_73 : decode cX9_work 73 = .ok (.isub, 1) := by decide +kernel
theorem dX9_work_74 : decode cX9_work 74 = .ok (.ireturn, 1) := by decide +kernel
theorem dX9_person_0 : decode cX9_person 0 = .ok (.aload_n 0, 1) := by decide +kernel
theorem dX9_person_1 : decode cX9_person 1 = .ok (.getfield 87, 3) := by decide +kernel
theorem dX9_person_4 : decode cX9_person 4 = .ok (.aload_n 0, 1) := by decide +kernel
theorem dX9_person_5 : decode cX9_person 5 = .ok (.getfield 31, 3) := by decide +kernel
theorem dX9_person_8 : decode cX9_person 8 = .ok (.arraylength, 1) := by decide +kernel
theorem dX9_person_9 : decode cX9_person 9 = .ok (.if_icmp .ge 16, 3) := by decide +kernel
theorem dX9_person_12 : decode cX9_person 12 = .ok (.iload_n 1, 1) := by decide +kernel
theorem dX9_person_13 : decode cX9_person 13 = .ok (.iconst (-1), 1) := by decide +kernel
theorem dX9_person_14 : decode cX9_person 14 = .ok (.if_icmp .eq 13, 3) := by decide +kernel
theorem dX9_person_17 : decode cX9_person 17 = .ok (.aload_n 0, 1) := by decide +kernel
theorem dX9_person_18 : decode cX9_person 18 = .ok (.iload_n 1, 1) := by decide +kernel
theorem dX9_person_19 : decode cX9_person 19 = .ok (.invokevirtual 90, 3) := by decide +kernel
theorem dX9_person_22 : decode cX9_person 22 = .ok (.ifnonnull 5, 3) := by decide +kernel
theorem dX9_person_25 : decode cX9_person 25 = .ok (.iconst (-1), 1) := by decide +kernel
theorem dX9_person_26 : decode cX9_person 26 = .ok (.ireturn, 1) := by decide +kernel
theorem dX9_person_27 : decode cX9_person 27 = .ok (.aload_n 0, 1) := by decide +kernel
theorem dX9_person_28 : decode cX9_person 28 = .ok (.getfield 31, 3) := by decide +kernel
theorem dX9_person_31 : decode cX9_person 31 = .ok (.aload_n 0, 1) := by decide +kernel
theorem dX9_person_32 : decode cX9_person 32 = .ok (.getfield 87, 3) := by decide +kernel
theorem dX9_person_35 : decode cX9_person 35 = .ok (.new 29, 3) := by decide +kernel
theorem dX9_person_38 : decode cX9_person 38 = .ok (.dup, 1) := by decide +kernel
theorem dX9_person_39 : decode cX9_person 39 = .ok (.iload_n 1, 1) := by decide +kernel
theorem dX9_person_40 : decode cX9_person 40 = .ok (.invokespecial 94, 3) := by decide +kernel
theorem dX9_person_43 : decode cX9_person 43 = .ok (.aastore, 1) := by decide +kernel
theorem dX9_person_44 : decode cX9_person 44 = .ok (.aload_n 0, 1) := by decide +kernel
theorem dX9_person_45 : decode cX9_person 45 = .ok (.dup, 1) := by decide +kernel
theorem dX9_person_46 : decode cX9_person 46 = .ok (.getfield 87, 3) := by decide +kernel
theorem dX9_person_49 : decode cX9_person 49 = .ok (.iconst 1, 1) := by decide +kernel
theorem dX9_person_50 : decode cX9_person 50 = .ok (.iadd, 1) := by decide +kernel
theorem dX9_person_51 : decode cX9_person 51 = .ok (.putfield 87, 3) := by decide +kernel
theorem dX9_person_54 : decode cX9_person 54 = .ok (.aload_n 0, 1) := by decide +kernel
theorem dX9_person_55 : decode cX9_person 55 = .ok (.getfield 87, 3) := by decide +kernel
theorem dX9_person_58 : decode cX9_person 58 = .ok (.iconst 1, 1) := by decide +kernel
theorem dX9_person_59 : decode cX9_person 59 = .ok (.isub, 1) := by decide +kernel
theorem dX9_person_60 : decode cX9_person 60 = .ok (.ireturn, 1) := by decide +kernel
theorem dX9_fund_0 : decode cX9_fund 0 = .ok (.aload_n 0, 1) := by decide +kernel
theorem dX9_fund_1 : decode cX9_fund 1 = .ok (.getfield 96, 3) := by decide +kernel
theorem dX9_fund_4 : decode cX9_fund 4 = .ok (.aload_n 0, 1) := by decide +kernel
theorem dX9_fund_5 : decode cX9_fund 5 = .ok (.getfield 37, 3) := by decide +kernel
theorem dX9_fund_8 : decode cX9_fund 8 = .ok (.arraylength, 1) := by decide +kernel
theorem dX9_fund_9 : decode cX9_fund 9 = .ok (.if_icmp .ge 14, 3) := by decide +kernel
theorem dX9_fund_12 : decode cX9_fund 12 = .ok (.iload_n 1, 1) := by decide +kernel
theorem dX9_fund_13 : decode cX9_fund 13 = .ok (.iconst 0, 1) := by decide +kernel
theorem dX9_fund_14 : decode cX9_fund 14 = .ok (.sipush 500, 3) := by decide +kernel
theorem dX9_fund_17 : decode cX9_fund 17 = .ok (.invokestatic 77, 3) := by decide +kernel
theorem dX9_fund_20 : decode cX9_fund 20 = .ok (.ifCond .ne 5, 3) := by decide +kernel
theorem dX9_fund_23 : decode cX9_fund 23 = .ok (.iconst (-1), 1) := by decide +kernel
theorem dX9_fund_24 : decode cX9_fund 24 = .ok (.ireturn, 1) := by decide +kernel
theorem dX9_fund_25 : decode cX9_fund 25 = .ok (.aload_n 0, 1) := by decide +kernel
theorem dX9_fund_26 : decode cX9_fund 26 = .ok (.getfield 37, 3) := by decide +kernel
theorem dX9_fund_29 : decode cX9_fund 29 = .ok (.aload_n 0, 1) := by decide +kernel
theorem dX9_fund_30 : decode cX9_fund 30 = .ok (.getfield 96, 3) := by decide +kernel
theorem dX9_fund_33 : decode cX9_fund 33 = .ok (.new 35, 3) := by decide +kernel
theorem dX9_fund_36 : decode cX9_fund 36 = .ok (.dup, 1) := by decide +kernel
theorem dX9_fund_37 : decode cX9_fund 37 = .ok (.iload_n 1, 1) := by decide +kernel
theorem dX9_fund_38 : decode cX9_fund 38 = .ok (.invokespecial 99, 3) := by decide +kernel
theorem dX9_fund_41 : decode cX9_fund 41 = .ok (.aastore, 1) := by decide +kernel
theorem dX9_fund_42 : decode cX9_fund 42 = .ok (.aload_n 0, 1) := by decide +kernel
theorem dX9_fund_43 : decode cX9_fund 43 = .ok (.dup, 1) := by decide +kernel
theorem dX9_fund_44 : decode cX9_fund 44 = .ok (.getfield 96, 3) := by decide +kernel
theorem dX9_fund_47 : decode cX9_fund 47 = .ok (.iconst 1, 1) := by decide +kernel
theorem dX9_fund_48 : decode cX9_fund 48 = .ok (.iadd, 1) := by decide +kernel
theorem dX9_fund_49 : decode cX9_fund 49 = .ok (.putfield 96, 3) := by decide +kernel
theorem dX9_fund_52 : decode cX9_fund 52 = .ok (.bipush 24, 2) := by decide +kernel
theorem dX9_fund_54 : decode cX9_fund 54 = .ok (.aload_n 0, 1) := by decide +kernel
theorem dX9_fund_55 : decode cX9_fund 55 = .ok (.getfield 96, 3) := by decide +kernel
theorem dX9_fund_58 : decode cX9_fund 58 = .ok (.iadd, 1) := by decide +kernel
theorem dX9_fund_59 : decode cX9_fund 59 = .ok (.iconst 1, 1) := by decide +kernel
theorem dX9_fund_60 : decode cX9_fund 60 = .ok (.isub, 1) := by decide +kernel
theorem dX9_fund_61 : decode cX9_fund 61 = .ok (.ireturn, 1) := by decide +kernel
theorem dX9_give_0 : decode cX9_give 0 = .ok (.aload_n 0, 1) := by decide +kernel
theorem dX9_give_1 : decode cX9_give 1 = .ok (.iload_n 1, 1) := by decide +kernel
theorem dX9_give_2 : decode cX9_give 2 = .ok (.invokevirtual 100, 3) := by decide +kernel
theorem dX9_give_5 : decode cX9_give 5 = .ok (.astore 4, 2) := by decide +kernel
theorem dX9_give_7 : decode cX9_give 7 = .ok (.aload_n 0, 1) := by decide +kernel
theorem dX9_give_8 : decode cX9_give 8 = .ok (.iload_n 2, 1) := by decide +kernel
theorem dX9_give_9 : decode cX9_give 9 = .ok (.invokevirtual 104, 3) := by decide +kernel
theorem dX9_give_12 : decode cX9_give 12 = .ok (.astore 5, 2) := by decide +kernel
theorem dX9_give_14 : decode cX9_give 14 = .ok (.aload 4, 2) := by decide +kernel
theorem dX9_give_16 : decode cX9_give 16 = .ok (.ifnull 20, 3) := by decide +kernel
theorem dX9_give_19 : decode cX9_give 19 = .ok (.aload 5, 2) := by decide +kernel
theorem dX9_give_21 : decode cX9_give 21 = .ok (.ifnull 15, 3) := by decide +kernel
theorem dX9_give_24 : decode cX9_give 24 = .ok (.aload_n 0, 1) := by decide +kernel
theorem dX9_give_25 : decode cX9_give 25 = .ok (.getfield 81, 3) := by decide +kernel
theorem dX9_give_28 : decode cX9_give 28 = .ok (.ifCond .ne 8, 3) := by decide +kernel
theorem dX9_give_31 : decode cX9_give 31 = .ok (.iload_n 3, 1) := by decide +kernel
theorem dX9_give_32 : decode cX9_give 32 = .ok (.iconst 1, 1) := by decide +kernel
theorem dX9_give_33 : decode cX9_give 33 = .ok (.if_icmp .ge 5, 3) := by decide +kernel
theorem dX9_give_36 : decode cX9_give 36 = .ok (.iconst (-1), 1) := by decide +kernel
theorem dX9_give_37 : decode cX9_give 37 = .ok (.ireturn, 1) := by decide +kernel
theorem dX9_give_38 : decode cX9_give 38 = .ok (.iload_n 3, 1) := by decide +kernel
theorem dX9_give_39 : decode cX9_give 39 = .ok (.aload 4, 2) := by decide +kernel
theorem dX9_give_41 : decode cX9_give 41 = .ok (.getfield 108, 3) := by decide +kernel
theorem dX9_give_44 : decode cX9_give 44 = .ok (.aload_n 0, 1) := by decide +kernel
theorem dX9_give_45 : decode cX9_give 45 = .ok (.iload_n 1, 1) := by decide +kernel
theorem dX9_give_46 : decode cX9_give 46 = .ok (.invokevirtual 111, 3) := by decide +kernel
theorem dX9_give_49 : decode cX9_give 49 = .ok (.isub, 1) := by decide +kernel
theorem dX9_give_50 : decode cX9_give 50 = .ok (.if_icmp .le 5, 3) := by decide +kernel
theorem dX9_give_53 : decode cX9_give 53 = .ok (.iconst (-1), 1) := by decide +kernel
theorem dX9_give_54 : decode cX9_give 54 = .ok (.ireturn, 1) := by decide +kernel
theorem dX9_give_55 : decode cX9_give 55 = .ok (.aload 4, 2) := by decide +kernel
theorem dX9_give_57 : decode cX9_give 57 = .ok (.dup, 1) := by decide +kernel
theorem dX9_give_58 : decode cX9_give 58 = .ok (.getfield 108, 3) := by decide +kernel
theorem dX9_give_61 : decode cX9_give 61 = .ok (.iload_n 3, 1) := by decide +kernel
theorem dX9_give_62 : decode cX9_give 62 = .ok (.isub, 1) := by decide +kernel
theorem dX9_give_63 : decode cX9_give 63 = .ok (.putfield 108, 3) := by decide +kernel
theorem dX9_give_66 : decode cX9_give 66 = .ok (.aload 5, 2) := by decide +kernel
theorem dX9_give_68 : decode cX9_give 68 = .ok (.dup, 1) := by decide +kernel
theorem dX9_give_69 : decode cX9_give 69 = .ok (.getfield 115, 3) := by decide +kernel
theorem dX9_give_72 : decode cX9_give 72 = .ok (.iload_n 3, 1) := by decide +kernel
theorem dX9_give_73 : decode cX9_give 73 = .ok (.iadd, 1) := by decide +kernel
theorem dX9_give_74 : decode cX9_give 74 = .ok (.putfield 115, 3) := by decide +kernel
theorem dX9_give_77 : decode cX9_give 77 = .ok (.aload 5, 2) := by decide +kernel
theorem dX9_give_79 : decode cX9_give 79 = .ok (.dup, 1) := by decide +kernel
theorem dX9_give_80 : decode cX9_give 80 = .ok (.getfield 116, 3) := by decide +kernel
theorem dX9_give_83 : decode cX9_give 83 = .ok (.iload_n 3, 1) := by decide +kernel
theorem dX9_give_84 : decode cX9_give 84 = .ok (.iadd, 1) := by decide +kernel
theorem dX9_give_85 : decode cX9_give 85 = .ok (.putfield 116, 3) := by decide +kernel
theorem dX9_give_88 : decode cX9_give 88 = .ok (.aload 5, 2) := by decide +kernel
theorem dX9_give_90 : decode cX9_give 90 = .ok (.getfield 119, 3) := by decide +kernel
theorem dX9_give_93 : decode cX9_give 93 = .ok (.iload_n 1, 1) := by decide +kernel
theorem dX9_give_94 : decode cX9_give 94 = .ok (.dup2, 1) := by decide +kernel
theorem dX9_give_95 : decode cX9_give 95 = .ok (.iaload, 1) := by decide +kernel
theorem dX9_give_96 : decode cX9_give 96 = .ok (.iload_n 3, 1) := by decide +kernel
theorem dX9_give_97 : decode cX9_give 97 = .ok (.iadd, 1) := by decide +kernel
theorem dX9_give_98 : decode cX9_give 98 = .ok (.iastore, 1) := by decide +kernel
theorem dX9_give_99 : decode cX9_give 99 = .ok (.aload 5, 2) := by decide +kernel
theorem dX9_give_101 : decode cX9_give 101 = .ok (.getfield 119, 3) := by decide +kernel
theorem dX9_give_104 : decode cX9_give 104 = .ok (.iload_n 1, 1) := by decide +kernel
theorem dX9_give_105 : decode cX9_give 105 = .ok (.iaload, 1) := by decide +kernel
theorem dX9_give_106 : decode cX9_give 106 = .ok (.ireturn, 1) := by decide +kernel
theorem dX9_bid_0 : decode cX9_bid 0 = .ok (.aload_n 0, 1) := by decide +kernel
theorem dX9_bid_1 : decode cX9_bid 1 = .ok (.iload_n 1, 1) := by decide +kernel
theorem dX9_bid_2 : decode cX9_bid 2 = .ok (.invokevirtual 122, 3) := by decide +kernel
theorem dX9_bid_5 : decode cX9_bid 5 = .ok (.astore 4, 2) := by decide +kernel
theorem dX9_bid_7 : decode cX9_bid 7 = .ok (.aload_n 0, 1) := by decide +kernel
theorem dX9_bid_8 : decode cX9_bid 8 = .ok (.iload_n 2, 1) := by decide +kernel
theorem dX9_bid_9 : decode cX9_bid 9 = .ok (.invokevirtual 90, 3) := by decide +kernel
theorem dX9_bid_12 : decode cX9_bid 12 = .ok (.astore 5, 2) := by decide +kernel
theorem dX9_bid_14 : decode cX9_bid 14 = .ok (.aload 4, 2) := by decide +kernel
theorem dX9_bid_16 : decode cX9_bid 16 = .ok (.ifnull 19, 3) := by decide +kernel
theorem dX9_bid_19 : decode cX9_bid 19 = .ok (.aload 5, 2) := by decide +kernel
theorem dX9_bid_21 : decode cX9_bid 21 = .ok (.ifnull 14, 3) := by decide +kernel
theorem dX9_bid_24 : decode cX9_bid 24 = .ok (.iload_n 3, 1) := by decide +kernel
theorem dX9_bid_25 : decode cX9_bid 25 = .ok (.iconst 0, 1) := by decide +kernel
theorem dX9_bid_26 : decode cX9_bid 26 = .ok (.sipush 1000, 3) := by decide +kernel
theorem dX9_bid_29 : decode cX9_bid 29 = .ok (.invokestatic 77, 3) := by decide +kernel
theorem dX9_bid_32 : decode cX9_bid 32 = .ok (.ifCond .ne 5, 3) := by decide +kernel
theorem dX9_bid_35 : decode cX9_bid 35 = .ok (.iconst (-1), 1) := by decide +kernel
theorem dX9_bid_36 : decode cX9_bid 36 = .ok (.ireturn, 1) := by decide +kernel
theorem dX9_bid_37 : decode cX9_bid 37 = .ok (.aload_n 0, 1) := by decide +kernel
theorem dX9_bid_38 : decode cX9_bid 38 = .ok (.iload_n 1, 1) := by decide +kernel
theorem dX9_bid_39 : decode cX9_bid 39 = .ok (.invokevirtual 111, 3) := by decide +kernel
theorem dX9_bid_42 : decode cX9_bid 42 = .ok (.iload_n 3, 1) := by decide +kernel
theorem dX9_bid_43 : decode cX9_bid 43 = .ok (.aload 5, 2) := by decide +kernel
theorem dX9_bid_45 : decode cX9_bid 45 = .ok (.getfield 126, 3) := by decide +kernel
theorem dX9_bid_48 : decode cX9_bid 48 = .ok (.iload_n 1, 1) := by decide +kernel
theorem dX9_bid_49 : decode cX9_bid 49 = .ok (.iaload, 1) := by decide +kernel
theorem dX9_bid_50 : decode cX9_bid 50 = .ok (.isub, 1) := by decide +kernel
theorem dX9_bid_51 : decode cX9_bid 51 = .ok (.aload 5, 2) := by decide +kernel
theorem dX9_bid_53 : decode cX9_bid 53 = .ok (.getfield 129, 3) := by decide +kernel
theorem dX9_bid_56 : decode cX9_bid 56 = .ok (.imul, 1) := by decide +kernel
theorem dX9_bid_57 : decode cX9_bid 57 = .ok (.iadd, 1) := by decide +kernel
theorem dX9_bid_58 : decode cX9_bid 58 = .ok (.istore 6, 2) := by decide +kernel
theorem dX9_bid_60 : decode cX9_bid 60 = .ok (.iload 6, 2) := by decide +kernel
theorem dX9_bid_62 : decode cX9_bid 62 = .ok (.aload 4, 2) := by decide +kernel
theorem dX9_bid_64 : decode cX9_bid 64 = .ok (.getfield 132, 3) := by decide +kernel
theorem dX9_bid_67 : decode cX9_bid 67 = .ok (.if_icmp .le 5, 3) := by decide +kernel
theorem dX9_bid_70 : decode cX9_bid 70 = .ok (.iconst (-1), 1) := by decide +kernel
theorem dX9_bid_71 : decode cX9_bid 71 = .ok (.ireturn, 1) := by decide +kernel
theorem dX9_bid_72 : decode cX9_bid 72 = .ok (.aload 5, 2) := by decide +kernel
theorem dX9_bid_74 : decode cX9_bid 74 = .ok (.getfield 126, 3) := by decide +kernel
theorem dX9_bid_77 : decode cX9_bid 77 = .ok (.iload_n 1, 1) := by decide +kernel
theorem dX9_bid_78 : decode cX9_bid 78 = .ok (.iload_n 3, 1) := by decide +kernel
theorem dX9_bid_79 : decode cX9_bid 79 = .ok (.iastore, 1) := by decide +kernel
theorem dX9_bid_80 : decode cX9_bid 80 = .ok (.iload 6, 2) := by decide +kernel
theorem dX9_bid_82 : decode cX9_bid 82 = .ok (.ireturn, 1) := by decide +kernel
theorem dX9_close_0 : decode cX9_close 0 = .ok (.aload_n 0, 1) := by decide +kernel
theorem dX9_close_1 : decode cX9_close 1 = .ok (.getfield 81, 3) := by decide +kernel
theorem dX9_close_4 : decode cX9_close 4 = .ok (.bipush 49, 2) := by decide +kernel
theorem dX9_close_6 : decode cX9_close 6 = .ok (.if_icmp .lt 5, 3) := by decide +kernel
theorem dX9_close_9 : decode cX9_close 9 = .ok (.iconst (-1), 1) := by decide +kernel
theorem dX9_close_10 : decode cX9_close 10 = .ok (.ireturn, 1) := by decide +kernel
theorem dX9_close_11 : decode cX9_close 11 = .ok (.iconst 0, 1) := by decide +kernel
theorem dX9_close_12 : decode cX9_close 12 = .ok (.istore_n 1, 1) := by decide +kernel
theorem dX9_close_13 : decode cX9_close 13 = .ok (.iconst 0, 1) := by decide +kernel
theorem dX9_close_14 : decode cX9_close 14 = .ok (.istore_n 2, 1) := by decide +kernel
theorem dX9_close_15 : decode cX9_close 15 = .ok (.iload_n 2, 1) := by decide +kernel
theorem dX9_close_16 : decode cX9_close 16 = .ok (.aload_n 0, 1) := by decide +kernel
theorem dX9_close_17 : decode cX9_close 17 = .ok (.getfield 74, 3) := by decide +kernel
theorem dX9_close_20 : decode cX9_close 20 = .ok (.if_icmp .ge 17, 3) := by decide +kernel
theorem dX9_close_23 : decode cX9_close 23 = .ok (.iload_n 1, 1) := by decide +kernel
theorem dX9_close_24 : decode cX9_close 24 = .ok (.aload_n 0, 1) := by decide +kernel
