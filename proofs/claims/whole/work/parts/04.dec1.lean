theorem dX9_close_25 : decode cX9_close 25 = .ok (.iload_n 2, 1) := by decide +kernel
theorem dX9_close_26 : decode cX9_close 26 = .ok (.invokevirtual 135, 3) := by decide +kernel
theorem dX9_close_29 : decode cX9_close 29 = .ok (.iadd, 1) := by decide +kernel
theorem dX9_close_30 : decode cX9_close 30 = .ok (.istore_n 1, 1) := by decide +kernel
theorem dX9_close_31 : decode cX9_close 31 = .ok (.iinc 2 1, 3) := by decide +kernel
theorem dX9_close_34 : decode cX9_close 34 = .ok (.goto (-19), 3) := by decide +kernel
theorem dX9_close_37 : decode cX9_close 37 = .ok (.aload_n 0, 1) := by decide +kernel
theorem dX9_close_38 : decode cX9_close 38 = .ok (.dup, 1) := by decide +kernel
theorem dX9_close_39 : decode cX9_close 39 = .ok (.getfield 81, 3) := by decide +kernel
theorem dX9_close_42 : decode cX9_close 42 = .ok (.iconst 1, 1) := by decide +kernel
theorem dX9_close_43 : decode cX9_close 43 = .ok (.iadd, 1) := by decide +kernel
theorem dX9_close_44 : decode cX9_close 44 = .ok (.putfield 81, 3) := by decide +kernel
theorem dX9_close_47 : decode cX9_close 47 = .ok (.aload_n 0, 1) := by decide +kernel
theorem dX9_close_48 : decode cX9_close 48 = .ok (.dup, 1) := by decide +kernel
theorem dX9_close_49 : decode cX9_close 49 = .ok (.getfield 138, 3) := by decide +kernel
theorem dX9_close_52 : decode cX9_close 52 = .ok (.iload_n 1, 1) := by decide +kernel
theorem dX9_close_53 : decode cX9_close 53 = .ok (.iadd, 1) := by decide +kernel
theorem dX9_close_54 : decode cX9_close 54 = .ok (.putfield 138, 3) := by decide +kernel
theorem dX9_close_57 : decode cX9_close 57 = .ok (.iload_n 1, 1) := by decide +kernel
theorem dX9_close_58 : decode cX9_close 58 = .ok (.ireturn, 1) := by decide +kernel
theorem dX9_about_0 : decode cX9_about 0 = .ok (.aload_n 0, 1) := by decide +kernel
theorem dX9_about_1 : decode cX9_about 1 = .ok (.iload_n 1, 1) := by decide +kernel
theorem dX9_about_2 : decode cX9_about 2 = .ok (.invokevirtual 90, 3) := by decide +kernel
theorem dX9_about_5 : decode cX9_about 5 = .ok (.astore_n 3, 1) := by decide +kernel
theorem dX9_about_6 : decode cX9_about 6 = .ok (.aload_n 3, 1) := by decide +kernel
theorem dX9_about_7 : decode cX9_about 7 = .ok (.ifnonnull 5, 3) := by decide +kernel
theorem dX9_about_10 : decode cX9_about 10 = .ok (.iconst (-1), 1) := by decide +kernel
theorem dX9_about_11 : decode cX9_about 11 = .ok (.ireturn, 1) := by decide +kernel
theorem dX9_about_12 : decode cX9_about 12 = .ok (.iload_n 2, 1) := by decide +kernel
theorem dX9_about_13 : decode cX9_about 13 = .ok (.tableswitch 54 0 3 #[31, 36, 41, 46], 31) := by decide +kernel
theorem dX9_about_44 : decode cX9_about 44 = .ok (.aload_n 3, 1) := by decide +kernel
theorem dX9_about_45 : decode cX9_about 45 = .ok (.getfield 141, 3) := by decide +kernel
theorem dX9_about_48 : decode cX9_about 48 = .ok (.ireturn, 1) := by decide +kernel
theorem dX9_about_49 : decode cX9_about 49 = .ok (.aload_n 3, 1) := by decide +kernel
theorem dX9_about_50 : decode cX9_about 50 = .ok (.getfield 144, 3) := by decide +kernel
theorem dX9_about_53 : decode cX9_about 53 = .ok (.ireturn, 1) := by decide +kernel
theorem dX9_about_54 : decode cX9_about 54 = .ok (.aload_n 3, 1) := by decide +kernel
theorem dX9_about_55 : decode cX9_about 55 = .ok (.getfield 129, 3) := by decide +kernel
theorem dX9_about_58 : decode cX9_about 58 = .ok (.ireturn, 1) := by decide +kernel
theorem dX9_about_59 : decode cX9_about 59 = .ok (.aload_n 3, 1) := by decide +kernel
theorem dX9_about_60 : decode cX9_about 60 = .ok (.getfield 126, 3) := by decide +kernel
theorem dX9_about_63 : decode cX9_about 63 = .ok (.invokestatic 147, 3) := by decide +kernel
theorem dX9_about_66 : decode cX9_about 66 = .ok (.ireturn, 1) := by decide +kernel
theorem dX9_about_67 : decode cX9_about 67 = .ok (.iconst (-1), 1) := by decide +kernel
theorem dX9_about_68 : decode cX9_about 68 = .ok (.ireturn, 1) := by decide +kernel
theorem dX9_price_0 : decode cX9_price 0 = .ok (.aload_n 0, 1) := by decide +kernel
theorem dX9_price_1 : decode cX9_price 1 = .ok (.iload_n 1, 1) := by decide +kernel
theorem dX9_price_2 : decode cX9_price 2 = .ok (.invokevirtual 90, 3) := by decide +kernel
theorem dX9_price_5 : decode cX9_price 5 = .ok (.astore_n 3, 1) := by decide +kernel
theorem dX9_price_6 : decode cX9_price 6 = .ok (.aload_n 3, 1) := by decide +kernel
theorem dX9_price_7 : decode cX9_price 7 = .ok (.ifnull 18, 3) := by decide +kernel
theorem dX9_price_10 : decode cX9_price 10 = .ok (.iload_n 2, 1) := by decide +kernel
theorem dX9_price_11 : decode cX9_price 11 = .ok (.aload_n 3, 1) := by decide +kernel
theorem dX9_price_12 : decode cX9_price 12 = .ok (.getfield 151, 3) := by decide +kernel
theorem dX9_price_15 : decode cX9_price 15 = .ok (.aload_n 0, 1) := by decide +kernel
theorem dX9_price_16 : decode cX9_price 16 = .ok (.getfield 81, 3) := by decide +kernel
theorem dX9_price_19 : decode cX9_price 19 = .ok (.invokestatic 77, 3) := by decide +kernel
theorem dX9_price_22 : decode cX9_price 22 = .ok (.ifCond .ne 5, 3) := by decide +kernel
theorem dX9_price_25 : decode cX9_price 25 = .ok (.iconst (-1), 1) := by decide +kernel
theorem dX9_price_26 : decode cX9_price 26 = .ok (.ireturn, 1) := by decide +kernel
theorem dX9_price_27 : decode cX9_price 27 = .ok (.aload_n 3, 1) := by decide +kernel
theorem dX9_price_28 : decode cX9_price 28 = .ok (.getfield 154, 3) := by decide +kernel
theorem dX9_price_31 : decode cX9_price 31 = .ok (.iload_n 2, 1) := by decide +kernel
theorem dX9_price_32 : decode cX9_price 32 = .ok (.iaload, 1) := by decide +kernel
theorem dX9_price_33 : decode cX9_price 33 = .ok (.ireturn, 1) := by decide +kernel
theorem dX9_purse_0 : decode cX9_purse 0 = .ok (.aload_n 0, 1) := by decide +kernel
theorem dX9_purse_1 : decode cX9_purse 1 = .ok (.iload_n 1, 1) := by decide +kernel
theorem dX9_purse_2 : decode cX9_purse 2 = .ok (.invokevirtual 122, 3) := by decide +kernel
theorem dX9_purse_5 : decode cX9_purse 5 = .ok (.astore_n 3, 1) := by decide +kernel
theorem dX9_purse_6 : decode cX9_purse 6 = .ok (.aload_n 3, 1) := by decide +kernel
theorem dX9_purse_7 : decode cX9_purse 7 = .ok (.ifnull 12, 3) := by decide +kernel
theorem dX9_purse_10 : decode cX9_purse 10 = .ok (.iload_n 2, 1) := by decide +kernel
theorem dX9_purse_11 : decode cX9_purse 11 = .ok (.iconst 0, 1) := by decide +kernel
theorem dX9_purse_12 : decode cX9_purse 12 = .ok (.iconst 4, 1) := by decide +kernel
theorem dX9_purse_13 : decode cX9_purse 13 = .ok (.invokestatic 77, 3) := by decide +kernel
theorem dX9_purse_16 : decode cX9_purse 16 = .ok (.ifCond .ne 11, 3) := by decide +kernel
theorem dX9_purse_19 : decode cX9_purse 19 = .ok (.new 157, 3) := by decide +kernel
theorem dX9_purse_22 : decode cX9_purse 22 = .ok (.dup, 1) := by decide +kernel
theorem dX9_purse_23 : decode cX9_purse 23 = .ok (.invokespecial 159, 3) := by decide +kernel
theorem dX9_purse_26 : decode cX9_purse 26 = .ok (.athrow, 1) := by decide +kernel
theorem dX9_purse_27 : decode cX9_purse 27 = .ok (.aload_n 0, 1) := by decide +kernel
theorem dX9_purse_28 : decode cX9_purse 28 = .ok (.iload_n 1, 1) := by decide +kernel
theorem dX9_purse_29 : decode cX9_purse 29 = .ok (.invokevirtual 104, 3) := by decide +kernel
theorem dX9_purse_32 : decode cX9_purse 32 = .ok (.astore 4, 2) := by decide +kernel
theorem dX9_purse_34 : decode cX9_purse 34 = .ok (.iload_n 2, 1) := by decide +kernel
theorem dX9_purse_35 : decode cX9_purse 35 = .ok (.tableswitch 80 0 3 #[29, 34, 40, 55], 29) := by decide +kernel
theorem dX9_purse_64 : decode cX9_purse 64 = .ok (.aload_n 3, 1) := by decide +kernel
theorem dX9_purse_65 : decode cX9_purse 65 = .ok (.getfield 132, 3) := by decide +kernel
theorem dX9_purse_68 : decode cX9_purse 68 = .ok (.ireturn, 1) := by decide +kernel
theorem dX9_purse_69 : decode cX9_purse 69 = .ok (.aload_n 0, 1) := by decide +kernel
theorem dX9_purse_70 : decode cX9_purse 70 = .ok (.iload_n 1, 1) := by decide +kernel
theorem dX9_purse_71 : decode cX9_purse 71 = .ok (.invokevirtual 111, 3) := by decide +kernel
theorem dX9_purse_74 : decode cX9_purse 74 = .ok (.ireturn, 1) := by decide +kernel
theorem dX9_purse_75 : decode cX9_purse 75 = .ok (.aload 4, 2) := by decide +kernel
theorem dX9_purse_77 : decode cX9_purse 77 = .ok (.ifnonnull 7, 3) := by decide +kernel
theorem dX9_purse_80 : decode cX9_purse 80 = .ok (.iconst (-1), 1) := by decide +kernel
theorem dX9_purse_81 : decode cX9_purse 81 = .ok (.goto 8, 3) := by decide +kernel
theorem dX9_purse_84 : decode cX9_purse 84 = .ok (.aload 4, 2) := by decide +kernel
theorem dX9_purse_86 : decode cX9_purse 86 = .ok (.getfield 116, 3) := by decide +kernel
theorem dX9_purse_89 : decode cX9_purse 89 = .ok (.ireturn, 1) := by decide +kernel
theorem dX9_purse_90 : decode cX9_purse 90 = .ok (.aload 4, 2) := by decide +kernel
theorem dX9_purse_92 : decode cX9_purse 92 = .ok (.ifnonnull 7, 3) := by decide +kernel
theorem dX9_purse_95 : decode cX9_purse 95 = .ok (.iconst (-1), 1) := by decide +kernel
theorem dX9_purse_96 : decode cX9_purse 96 = .ok (.goto 18, 3) := by decide +kernel
theorem dX9_purse_99 : decode cX9_purse 99 = .ok (.aload_n 0, 1) := by decide +kernel
theorem dX9_purse_100 : decode cX9_purse 100 = .ok (.aload 4, 2) := by decide +kernel
theorem dX9_purse_102 : decode cX9_purse 102 = .ok (.iload_n 1, 1) := by decide +kernel
theorem dX9_purse_103 : decode cX9_purse 103 = .ok (.invokevirtual 160, 3) := by decide +kernel
theorem dX9_purse_106 : decode cX9_purse 106 = .ok (.ifCond .eq 7, 3) := by decide +kernel
theorem dX9_purse_109 : decode cX9_purse 109 = .ok (.iconst 1, 1) := by decide +kernel
theorem dX9_purse_110 : decode cX9_purse 110 = .ok (.goto 4, 3) := by decide +kernel
theorem dX9_purse_113 : decode cX9_purse 113 = .ok (.iconst 0, 1) := by decide +kernel
theorem dX9_purse_114 : decode cX9_purse 114 = .ok (.ireturn, 1) := by decide +kernel
theorem dX9_purse_115 : decode cX9_purse 115 = .ok (.aload_n 0, 1) := by decide +kernel
theorem dX9_purse_116 : decode cX9_purse 116 = .ok (.iload_n 1, 1) := by decide +kernel
theorem dX9_purse_117 : decode cX9_purse 117 = .ok (.invokevirtual 164, 3) := by decide +kernel
theorem dX9_purse_120 : decode cX9_purse 120 = .ok (.ireturn, 1) := by decide +kernel
theorem dX9_holds_0 : decode cX9_holds 0 = .ok (.aload_n 0, 1) := by decide +kernel
theorem dX9_holds_1 : decode cX9_holds 1 = .ok (.iload_n 2, 1) := by decide +kernel
theorem dX9_holds_2 : decode cX9_holds 2 = .ok (.invokevirtual 90, 3) := by decide +kernel
theorem dX9_holds_5 : decode cX9_holds 5 = .ok (.astore 4, 2) := by decide +kernel
theorem dX9_holds_7 : decode cX9_holds 7 = .ok (.aload_n 0, 1) := by decide +kernel
theorem dX9_holds_8 : decode cX9_holds 8 = .ok (.iload_n 1, 1) := by decide +kernel
theorem dX9_holds_9 : decode cX9_holds 9 = .ok (.invokevirtual 122, 3) := by decide +kernel
theorem dX9_holds_12 : decode cX9_holds 12 = .ok (.ifnull 20, 3) := by decide +kernel
theorem dX9_holds_15 : decode cX9_holds 15 = .ok (.aload 4, 2) := by decide +kernel
theorem dX9_holds_17 : decode cX9_holds 17 = .ok (.ifnull 15, 3) := by decide +kernel
theorem dX9_holds_20 : decode cX9_holds 20 = .ok (.iload_n 3, 1) := by decide +kernel
theorem dX9_holds_21 : decode cX9_holds 21 = .ok (.iconst 0, 1) := by decide +kernel
theorem dX9_holds_22 : decode cX9_holds 22 = .ok (.aload_n 0, 1) := by decide +kernel
theorem dX9_holds_23 : decode cX9_holds 23 = .ok (.getfield 81, 3) := by decide +kernel
theorem dX9_holds_26 : decode cX9_holds 26 = .ok (.invokestatic 77, 3) := by decide +kernel
theorem dX9_holds_29 : decode cX9_holds 29 = .ok (.ifCond .ne 5, 3) := by decide +kernel
theorem dX9_holds_32 : decode cX9_holds 32 = .ok (.iconst (-1), 1) := by decide +kernel
theorem dX9_holds_33 : decode cX9_holds 33 = .ok (.ireturn, 1) := by decide +kernel
theorem dX9_holds_34 : decode cX9_holds 34 = .ok (.aload 4, 2) := by decide +kernel
theorem dX9_holds_36 : decode cX9_holds 36 = .ok (.iload_n 3, 1) := by decide +kernel
theorem dX9_holds_37 : decode cX9_holds 37 = .ok (.iload_n 1, 1) := by decide +kernel
theorem dX9_holds_38 : decode cX9_holds 38 = .ok (.invokevirtual 167, 3) := by decide +kernel
theorem dX9_holds_41 : decode cX9_holds 41 = .ok (.ireturn, 1) := by decide +kernel
theorem dX9_asks_0 : decode cX9_asks 0 = .ok (.aload_n 0, 1) := by decide +kernel
theorem dX9_asks_1 : decode cX9_asks 1 = .ok (.iload_n 2, 1) := by decide +kernel
theorem dX9_asks_2 : decode cX9_asks 2 = .ok (.invokevirtual 90, 3) := by decide +kernel
theorem dX9_asks_5 : decode cX9_asks 5 = .ok (.astore_n 3, 1) := by decide +kernel
theorem dX9_asks_6 : decode cX9_asks 6 = .ok (.aload_n 0, 1) := by decide +kernel
theorem dX9_asks_7 : decode cX9_asks 7 = .ok (.iload_n 1, 1) := by decide +kernel
theorem dX9_asks_8 : decode cX9_asks 8 = .ok (.invokevirtual 122, 3) := by decide +kernel
theorem dX9_asks_11 : decode cX9_asks 11 = .ok (.ifnull 7, 3) := by decide +kernel
theorem dX9_asks_14 : decode cX9_asks 14 = .ok (.aload_n 3, 1) := by decide +kernel
theorem dX9_asks_15 : decode cX9_asks 15 = .ok (.ifnonnull 5, 3) := by decide +kernel
theorem dX9_asks_18 : decode cX9_asks 18 = .ok (.iconst (-1), 1) := by decide +kernel
theorem dX9_asks_19 : decode cX9_asks 19 = .ok (.ireturn, 1) := by decide +kernel
theorem dX9_asks_20 : decode cX9_asks 20 = .ok (.aload_n 3, 1) := by decide +kernel
theorem dX9_asks_21 : decode cX9_asks 21 = .ok (.getfield 126, 3) := by decide +kernel
theorem dX9_asks_24 : decode cX9_asks 24 = .ok (.iload_n 1, 1) := by decide +kernel
theorem dX9_asks_25 : decode cX9_asks 25 = .ok (.iaload, 1) := by decide +kernel
theorem dX9_asks_26 : decode cX9_asks 26 = .ok (.ireturn, 1) := by decide +kernel
theorem dX9_owned_0 : decode cX9_owned 0 = .ok (.aload_n 0, 1) := by decide +kernel
theorem dX9_owned_1 : decode cX9_owned 1 = .ok (.iload_n 2, 1) := by decide +kernel
theorem dX9_owned_2 : decode cX9_owned 2 = .ok (.invokevirtual 90, 3) := by decide +kernel
theorem dX9_owned_5 : decode cX9_owned 5 = .ok (.astore 5, 2) := by decide +kernel
theorem dX9_owned_7 : decode cX9_owned 7 = .ok (.aload_n 0, 1) := by decide +kernel
theorem dX9_owned_8 : decode cX9_owned 8 = .ok (.iload_n 1, 1) := by decide +kernel
theorem dX9_owned_9 : decode cX9_owned 9 = .ok (.invokevirtual 100, 3) := by decide +kernel
theorem dX9_owned_12 : decode cX9_owned 12 = .ok (.ifnull 30, 3) := by decide +kernel
theorem dX9_owned_15 : decode cX9_owned 15 = .ok (.aload 5, 2) := by decide +kernel
theorem dX9_owned_17 : decode cX9_owned 17 = .ok (.ifnull 25, 3) := by decide +kernel
theorem dX9_owned_20 : decode cX9_owned 20 = .ok (.iload_n 3, 1) := by decide +kernel
theorem dX9_owned_21 : decode cX9_owned 21 = .ok (.iconst 0, 1) := by decide +kernel
theorem dX9_owned_22 : decode cX9_owned 22 = .ok (.aload_n 0, 1) := by decide +kernel
theorem dX9_owned_23 : decode cX9_owned 23 = .ok (.getfield 81, 3) := by decide +kernel
theorem dX9_owned_26 : decode cX9_owned 26 = .ok (.invokestatic 77, 3) := by decide +kernel
theorem dX9_owned_29 : decode cX9_owned 29 = .ok (.ifCond .eq 13, 3) := by decide +kernel
theorem dX9_owned_32 : decode cX9_owned 32 = .ok (.iload 4, 2) := by decide +kernel
theorem dX9_owned_34 : decode cX9_owned 34 = .ok (.iconst 0, 1) := by decide +kernel
theorem dX9_owned_35 : decode cX9_owned 35 = .ok (.iconst 1, 1) := by decide +kernel
theorem dX9_owned_36 : decode cX9_owned 36 = .ok (.invokestatic 77, 3) := by decide +kernel
theorem dX9_owned_39 : decode cX9_owned 39 = .ok (.ifCond .ne 11, 3) := by decide +kernel
theorem dX9_owned_42 : decode cX9_owned 42 = .ok (.new 157, 3) := by decide +kernel
theorem dX9_owned_45 : decode cX9_owned 45 = .ok (.dup, 1) := by decide +kernel
theorem dX9_owned_46 : decode cX9_owned 46 = .ok (.invokespecial 159, 3) := by decide +kernel
theorem dX9_owned_49 : decode cX9_owned 49 = .ok (.athrow, 1) := by decide +kernel
theorem dX9_owned_50 : decode cX9_owned 50 = .ok (.aload_n 0, 1) := by decide +kernel
theorem dX9_owned_51 : decode cX9_owned 51 = .ok (.iload_n 1, 1) := by decide +kernel
theorem dX9_owned_52 : decode cX9_owned 52 = .ok (.aload 5, 2) := by decide +kernel
theorem dX9_owned_54 : decode cX9_owned 54 = .ok (.iload_n 3, 1) := by decide +kernel
theorem dX9_owned_55 : decode cX9_owned 55 = .ok (.invokevirtual 171, 3) := by decide +kernel
theorem dX9_owned_58 : decode cX9_owned 58 = .ok (.astore 6, 2) := by decide +kernel
theorem dX9_owned_60 : decode cX9_owned 60 = .ok (.iload 4, 2) := by decide +kernel
theorem dX9_owned_62 : decode cX9_owned 62 = .ok (.ifCond .ne 11, 3) := by decide +kernel
theorem dX9_owned_65 : decode cX9_owned 65 = .ok (.aload 6, 2) := by decide +kernel
theorem dX9_owned_67 : decode cX9_owned 67 = .ok (.getfield 175, 3) := by decide +kernel
theorem dX9_owned_70 : decode cX9_owned 70 = .ok (.goto 8, 3) := by decide +kernel
theorem dX9_owned_73 : decode cX9_owned 73 = .ok (.aload 6, 2) := by decide +kernel
theorem dX9_owned_75 : decode cX9_owned 75 = .ok (.getfield 181, 3) := by decide +kernel
theorem dX9_owned_78 : decode cX9_owned 78 = .ok (.lreturn, 1) := by decide +kernel
theorem dX9_count_0 : decode cX9_count 0 = .ok (.iload_n 1, 1) := by decide +kernel
theorem dX9_count_1 : decode cX9_count 1 = .ok (.tableswitch 72 0 5 #[39, 44, 49, 54, 59, 64], 39) := by decide +kernel
theorem dX9_count_40 : decode cX9_count 40 = .ok (.aload_n 0, 1) := by decide +kernel
theorem dX9_count_41 : decode cX9_count 41 = .ok (.getfield 81, 3) := by decide +kernel
theorem dX9_count_44 : decode cX9_count 44 = .ok (.ireturn, 1) := by decide +kernel
theorem dX9_count_45 : decode cX9_count 45 = .ok (.aload_n 0, 1) := by decide +kernel
theorem dX9_count_46 : decode cX9_count 46 = .ok (.getfield 74, 3) := by decide +kernel
theorem dX9_count_49 : decode cX9_count 49 = .ok (.ireturn, 1) := by decide +kernel
theorem dX9_count_50 : decode cX9_count 50 = .ok (.aload_n 0, 1) := by decide +kernel
theorem dX9_count_51 : decode cX9_count 51 = .ok (.getfield 87, 3) := by decide +kernel
theorem dX9_count_54 : decode cX9_count 54 = .ok (.ireturn, 1) := by decide +kernel
theorem dX9_count_55 : decode cX9_count 55 = .ok (.aload_n 0, 1) := by decide +kernel
theorem dX9_count_56 : decode cX9_count 56 = .ok (.getfield 96, 3) := by decide +kernel
theorem dX9_count_59 : decode cX9_count 59 = .ok (.ireturn, 1) := by decide +kernel
theorem dX9_count_60 : decode cX9_count 60 = .ok (.aload_n 0, 1) := by decide +kernel
theorem dX9_count_61 : decode cX9_count 61 = .ok (.getfield 138, 3) := by decide +kernel
theorem dX9_count_64 : decode cX9_count 64 = .ok (.ireturn, 1) := by decide +kernel
theorem dX9_count_65 : decode cX9_count 65 = .ok (.aload_n 0, 1) := by decide +kernel
theorem dX9_count_66 : decode cX9_count 66 = .ok (.getfield 12, 3) := by decide +kernel
theorem dX9_count_69 : decode cX9_count 69 = .ok (.getfield 56, 3) := by decide +kernel
theorem dX9_count_72 : decode cX9_count 72 = .ok (.ireturn, 1) := by decide +kernel
theorem dX9_count_73 : decode cX9_count 73 = .ok (.iconst (-1), 1) := by decide +kernel
theorem dX9_count_74 : decode cX9_count 74 = .ok (.ireturn, 1) := by decide +kernel
theorem dX9_workAt_0 : decode cX9_workAt 0 = .ok (.iload_n 1, 1) := by decide +kernel
theorem dX9_workAt_1 : decode cX9_workAt 1 = .ok (.ifCond .lt 29, 3) := by decide +kernel
theorem dX9_workAt_4 : decode cX9_workAt 4 = .ok (.iload_n 1, 1) := by decide +kernel
theorem dX9_workAt_5 : decode cX9_workAt 5 = .ok (.aload_n 0, 1) := by decide +kernel
theorem dX9_workAt_6 : decode cX9_workAt 6 = .ok (.getfield 74, 3) := by decide +kernel
theorem dX9_workAt_9 : decode cX9_workAt 9 = .ok (.if_icmp .ge 21, 3) := by decide +kernel
theorem dX9_workAt_12 : decode cX9_workAt 12 = .ok (.iload_n 1, 1) := by decide +kernel
theorem dX9_workAt_13 : decode cX9_workAt 13 = .ok (.aload_n 0, 1) := by decide +kernel
theorem dX9_workAt_14 : decode cX9_workAt 14 = .ok (.getfield 25, 3) := by decide +kernel
theorem dX9_workAt_17 : decode cX9_workAt 17 = .ok (.arraylength, 1) := by decide +kernel
theorem dX9_workAt_18 : decode cX9_workAt 18 = .ok (.if_icmp .ge 12, 3) := by decide +kernel
theorem dX9_workAt_21 : decode cX9_workAt 21 = .ok (.aload_n 0, 1) := by decide +kernel
theorem dX9_workAt_22 : decode cX9_workAt 22 = .ok (.getfield 25, 3) := by decide +kernel
theorem dX9_workAt_25 : decode cX9_workAt 25 = .ok (.iload_n 1, 1) := by decide +kernel
theorem dX9_workAt_26 : decode cX9_workAt 26 = .ok (.aaload, 1) := by decide +kernel
theorem dX9_workAt_27 : decode cX9_workAt 27 = .ok (.goto 4, 3) := by decide +kernel
theorem dX9_workAt_30 : decode cX9_workAt 30 = .ok (.aconst_null, 1) := by decide +kernel
theorem dX9_workAt_31 : decode cX9_workAt 31 = .ok (.areturn, 1) := by decide +kernel
theorem dX9_personAt_0 : decode cX9_personAt 0 = .ok (.iload_n 1, 1) := by decide +kernel
theorem dX9_personAt_1 : decode cX9_personAt 1 = .ok (.ifCond .lt 29, 3) := by decide +kernel
theorem dX9_personAt_4 : decode cX9_personAt 4 = .ok (.iload_n 1, 1) := by decide +kernel
theorem dX9_personAt_5 : decode cX9_personAt 5 = .ok (.aload_n 0, 1) := by decide +kernel
theorem dX9_personAt_6 : decode cX9_personAt 6 = .ok (.getfield 87, 3) := by decide +kernel
theorem dX9_personAt_9 : decode cX9_personAt 9 = .ok (.if_icmp .ge 21, 3) := by decide +kernel
theorem dX9_personAt_12 : decode cX9_personAt 12 = .ok (.iload_n 1, 1) := by decide +kernel
theorem dX9_personAt_13 : decode cX9_personAt 13 = .ok (.aload_n 0, 1) := by decide +kernel
theorem dX9_personAt_14 : decode cX9_personAt 14 = .ok (.getfield 31, 3) := by decide +kernel
theorem dX9_personAt_17 : decode cX9_personAt 17 = .ok (.arraylength, 1) := by decide +kernel
theorem dX9_personAt_18 : decode cX9_personAt 18 = .ok (.if_icmp .ge 12, 3) := by decide +kernel
theorem dX9_personAt_21 : decode cX9_personAt 21 = .ok (.aload_n 0, 1) := by decide +kernel
theorem dX9_personAt_22 : decode cX9_personAt 22 = .ok (.getfield 31, 3) := by decide +kernel
theorem dX9_personAt_25 : decode cX9_personAt 25 = .ok (.iload_n 1, 1) := by decide +kernel
theorem dX9_personAt_26 : decode cX9_personAt 26 = .ok (.aaload, 1) := by decide +kernel
theorem dX9_personAt_27 : decode cX9_personAt 27 = .ok (.goto 4, 3) := by decide +kernel
theorem dX9_personAt_30 : decode cX9_personAt 30 = .ok (.aconst_null, 1) := by decide +kernel
theorem dX9_personAt_31 : decode cX9_personAt 31 = .ok (.areturn, 1) := by decide +kernel
theorem dX9_fundAt_0 : decode cX9_fundAt 0 = .ok (.iload_n 1, 1) := by decide +kernel
theorem dX9_fundAt_1 : decode cX9_fundAt 1 = .ok (.bipush 24, 2) := by decide +kernel
theorem dX9_fundAt_3 : decode cX9_fundAt 3 = .ok (.bipush 27, 2) := by decide +kernel
theorem dX9_fundAt_5 : decode cX9_fundAt 5 = .ok (.invokestatic 77, 3) := by decide +kernel
theorem dX9_fundAt_8 : decode cX9_fundAt 8 = .ok (.ifCond .ne 5, 3) := by decide +kernel
theorem dX9_fundAt_11 : decode cX9_fundAt 11 = .ok (.aconst_null, 1) := by decide +kernel
theorem dX9_fundAt_12 : decode cX9_fundAt 12 = .ok (.areturn, 1) := by decide +kernel
theorem dX9_fundAt_13 : decode cX9_fundAt 13 = .ok (.iload_n 1, 1) := by decide +kernel
theorem dX9_fundAt_14 : decode cX9_fundAt 14 = .ok (.bipush 24, 2) := by decide +kernel
theorem dX9_fundAt_16 : decode cX9_fundAt 16 = .ok (.isub, 1) := by decide +kernel
theorem dX9_fundAt_17 : decode cX9_fundAt 17 = .ok (.istore_n 2, 1) := by decide +kernel
theorem dX9_fundAt_18 : decode cX9_fundAt 18 = .ok (.iload_n 2, 1) := by decide +kernel
theorem dX9_fundAt_19 : decode cX9_fundAt 19 = .ok (.aload_n 0, 1) := by decide +kernel
theorem dX9_fundAt_20 : decode cX9_fundAt 20 = .ok (.getfield 96, 3) := by decide +kernel
theorem dX9_fundAt_23 : decode cX9_fundAt 23 = .ok (.if_icmp .ge 21, 3) := by decide +kernel
theorem dX9_fundAt_26 : decode cX9_fundAt 26 = .ok (.iload_n 2, 1) := by decide +kernel
theorem dX9_fundAt_27 : decode cX9_fundAt 27 = .ok (.aload_n 0, 1) := by decide +kernel
theorem dX9_fundAt_28 : decode cX9_fundAt 28 = .ok (.getfield 37, 3) := by decide +kernel
theorem dX9_fundAt_31 : decode cX9_fundAt 31 = .ok (.arraylength, 1) := by decide +kernel
theorem dX9_fundAt_32 : decode cX9_fundAt 32 = .ok (.if_icmp .ge 12, 3) := by decide +kernel
theorem dX9_fundAt_35 : decode cX9_fundAt 35 = .ok (.aload_n 0, 1) := by decide +kernel
theorem dX9_fundAt_36 : decode cX9_fundAt 36 = .ok (.getfield 37, 3) := by decide +kernel
theorem dX9_fundAt_39 : decode cX9_fundAt 39 = .ok (.iload_n 2, 1) := by decide +kernel
theorem dX9_fundAt_40 : decode cX9_fundAt 40 = .ok (.aaload, 1) := by decide +kernel
theorem dX9_fundAt_41 : decode cX9_fundAt 41 = .ok (.goto 4, 3) := by decide +kernel
theorem dX9_fundAt_44 : decode cX9_fundAt 44 = .ok (.aconst_null, 1) := by decide +kernel
theorem dX9_fundAt_45 : decode cX9_fundAt 45 = .ok (.areturn, 1) := by decide +kernel
theorem dX9_bidderAt_0 : decode cX9_bidderAt 0 = .ok (.aload_n 0, 1) := by decide +kernel
theorem dX9_bidderAt_1 : decode cX9_bidderAt 1 = .ok (.iload_n 1, 1) := by decide +kernel
theorem dX9_bidderAt_2 : decode cX9_bidderAt 2 = .ok (.invokevirtual 100, 3) := by decide +kernel
theorem dX9_bidderAt_5 : decode cX9_bidderAt 5 = .ok (.astore_n 2, 1) := by decide +kernel
theorem dX9_bidderAt_6 : decode cX9_bidderAt 6 = .ok (.aload_n 2, 1) := by decide +kernel
theorem dX9_bidderAt_7 : decode cX9_bidderAt 7 = .ok (.ifnull 5, 3) := by decide +kernel
theorem dX9_bidderAt_10 : decode cX9_bidderAt 10 = .ok (.aload_n 2, 1) := by decide +kernel
theorem dX9_bidderAt_11 : decode cX9_bidderAt 11 = .ok (.areturn, 1) := by decide +kernel
theorem dX9_bidderAt_12 : decode cX9_bidderAt 12 = .ok (.aload_n 0, 1) := by decide +kernel
theorem dX9_bidderAt_13 : decode cX9_bidderAt 13 = .ok (.iload_n 1, 1) := by decide +kernel
theorem dX9_bidderAt_14 : decode cX9_bidderAt 14 = .ok (.invokevirtual 104, 3) := by decide +kernel
theorem dX9_bidderAt_17 : decode cX9_bidderAt 17 = .ok (.areturn, 1) := by decide +kernel
theorem dX9_costOfBids_0 : decode cX9_costOfBids 0 = .ok (.iconst 0, 1) := by decide +kernel
theorem dX9_costOfBids_1 : decode cX9_costOfBids 1 = .ok (.istore_n 2, 1) := by decide +kernel
theorem dX9_costOfBids_2 : decode cX9_costOfBids 2 = .ok (.iconst 0, 1) := by decide +kernel
theorem dX9_costOfBids_3 : decode cX9_costOfBids 3 = .ok (.istore_n 3, 1) := by decide +kernel
theorem dX9_costOfBids_4 : decode cX9_costOfBids 4 = .ok (.iload_n 3, 1) := by decide +kernel
theorem dX9_costOfBids_5 : decode cX9_costOfBids 5 = .ok (.aload_n 0, 1) := by decide +kernel
theorem dX9_costOfBids_6 : decode cX9_costOfBids 6 = .ok (.getfield 74, 3) := by decide +kernel
theorem dX9_costOfBids_9 : decode cX9_costOfBids 9 = .ok (.if_icmp .ge 41, 3) := by decide +kernel
theorem dX9_costOfBids_12 : decode cX9_costOfBids 12 = .ok (.aload_n 0, 1) := by decide +kernel
theorem dX9_costOfBids_13 : decode cX9_costOfBids 13 = .ok (.iload_n 3, 1) := by decide +kernel
theorem dX9_costOfBids_14 : decode cX9_costOfBids 14 = .ok (.invokevirtual 90, 3) := by decide +kernel
theorem dX9_costOfBids_17 : decode cX9_costOfBids 17 = .ok (.astore 4, 2) := by decide +kernel
theorem dX9_costOfBids_19 : decode cX9_costOfBids 19 = .ok (.iload_n 2, 1) := by decide +kernel
theorem dX9_costOfBids_20 : decode cX9_costOfBids 20 = .ok (.aload 4, 2) := by decide +kernel
theorem dX9_costOfBids_22 : decode cX9_costOfBids 22 = .ok (.ifnonnull 7, 3) := by decide +kernel
theorem dX9_costOfBids_25 : decode cX9_costOfBids 25 = .ok (.iconst 0, 1) := by decide +kernel
theorem dX9_costOfBids_26 : decode cX9_costOfBids 26 = .ok (.goto 16, 3) := by decide +kernel
theorem dX9_costOfBids_29 : decode cX9_costOfBids 29 = .ok (.aload 4, 2) := by decide +kernel
theorem dX9_costOfBids_31 : decode cX9_costOfBids 31 = .ok (.getfield 126, 3) := by decide +kernel
theorem dX9_costOfBids_34 : decode cX9_costOfBids 34 = .ok (.iload_n 1, 1) := by decide +kernel
theorem dX9_costOfBids_35 : decode cX9_costOfBids 35 = .ok (.iaload, 1) := by decide +kernel
theorem dX9_costOfBids_36 : decode cX9_costOfBids 36 = .ok (.aload 4, 2) := by decide +kernel
theorem dX9_costOfBids_38 : decode cX9_costOfBids 38 = .ok (.getfield 129, 3) := by decide +kernel
theorem dX9_costOfBids_41 : decode cX9_costOfBids 41 = .ok (.imul, 1) := by decide +kernel
theorem dX9_costOfBids_42 : decode cX9_costOfBids 42 = .ok (.iadd, 1) := by decide +kernel
theorem dX9_costOfBids_43 : decode cX9_costOfBids 43 = .ok (.istore_n 2, 1) := by decide +kernel
theorem dX9_costOfBids_44 : decode cX9_costOfBids 44 = .ok (.iinc 3 1, 3) := by decide +kernel
theorem dX9_costOfBids_47 : decode cX9_costOfBids 47 = .ok (.goto (-43), 3) := by decide +kernel
theorem dX9_costOfBids_50 : decode cX9_costOfBids 50 = .ok (.iload_n 2, 1) := by decide +kernel
theorem dX9_costOfBids_51 : decode cX9_costOfBids 51 = .ok (.ireturn, 1) := by decide +kernel
theorem dX9_sharesHeldBy_0 : decode cX9_sharesHeldBy 0 = .ok (.iconst 0, 1) := by decide +kernel
theorem dX9_sharesHeldBy_1 : decode cX9_sharesHeldBy 1 = .ok (.istore_n 2, 1) := by decide +kernel
theorem dX9_sharesHeldBy_2 : decode cX9_sharesHeldBy 2 = .ok (.iconst 0, 1) := by decide +kernel
theorem dX9_sharesHeldBy_3 : decode cX9_sharesHeldBy 3 = .ok (.istore_n 3, 1) := by decide +kernel
theorem dX9_sharesHeldBy_4 : decode cX9_sharesHeldBy 4 = .ok (.iload_n 3, 1) := by decide +kernel
theorem dX9_sharesHeldBy_5 : decode cX9_sharesHeldBy 5 = .ok (.aload_n 0, 1) := by decide +kernel
theorem dX9_sharesHeldBy_6 : decode cX9_sharesHeldBy 6 = .ok (.getfield 74, 3) := by decide +kernel
theorem dX9_sharesHeldBy_9 : decode cX9_sharesHeldBy 9 = .ok (.if_icmp .ge 35, 3) := by decide +kernel
theorem dX9_sharesHeldBy_12 : decode cX9_sharesHeldBy 12 = .ok (.aload_n 0, 1) := by decide +kernel
theorem dX9_sharesHeldBy_13 : decode cX9_sharesHeldBy 13 = .ok (.iload_n 3, 1) := by decide +kernel
theorem dX9_sharesHeldBy_14 : decode cX9_sharesHeldBy 14 = .ok (.invokevirtual 90, 3) := by decide +kernel
theorem dX9_sharesHeldBy_17 : decode cX9_sharesHeldBy 17 = .ok (.astore 4, 2) := by decide +kernel
theorem dX9_sharesHeldBy_19 : decode cX9_sharesHeldBy 19 = .ok (.iload_n 2, 1) := by decide +kernel
theorem dX9_sharesHeldBy_20 : decode cX9_sharesHeldBy 20 = .ok (.aload 4, 2) := by decide +kernel
theorem dX9_sharesHeldBy_22 : decode cX9_sharesHeldBy 22 = .ok (.ifnonnull 7, 3) := by decide +kernel
theorem dX9_sharesHeldBy_25 : decode cX9_sharesHeldBy 25 = .ok (.iconst 0, 1) := by decide +kernel
theorem dX9_sharesHeldBy_26 : decode cX9_sharesHeldBy 26 = .ok (.goto 10, 3) := by decide +kernel
theorem dX9_sharesHeldBy_29 : decode cX9_sharesHeldBy 29 = .ok (.aload 4, 2) := by decide +kernel
theorem dX9_sharesHeldBy_31 : decode cX9_sharesHeldBy 31 = .ok (.getfield 184, 3) := by decide +kernel
theorem dX9_sharesHeldBy_34 : decode cX9_sharesHeldBy 34 = .ok (.iload_n 1, 1) := by decide +kernel
theorem dX9_sharesHeldBy_35 : decode cX9_sharesHeldBy 35 = .ok (.iaload, 1) := by decide +kernel
theorem dX9_sharesHeldBy_36 : decode cX9_sharesHeldBy 36 = .ok (.iadd, 1) := by decide +kernel
theorem dX9_sharesHeldBy_37 : decode cX9_sharesHeldBy 37 = .ok (.istore_n 2, 1) := by decide +kernel
theorem dX9_sharesHeldBy_38 : decode cX9_sharesHeldBy 38 = .ok (.iinc 3 1, 3) := by decide +kernel
theorem dX9_sharesHeldBy_41 : decode cX9_sharesHeldBy 41 = .ok (.goto (-37), 3) := by decide +kernel
theorem dX9_sharesHeldBy_44 : decode cX9_sharesHeldBy 44 = .ok (.iload_n 2, 1) := by decide +kernel
theorem dX9_sharesHeldBy_45 : decode cX9_sharesHeldBy 45 = .ok (.ireturn, 1) := by decide +kernel
theorem dX9_worthHeldBy_0 : decode cX9_worthHeldBy 0 = .ok (.iconst 0, 1) := by decide +kernel
theorem dX9_worthHeldBy_1 : decode cX9_worthHeldBy 1 = .ok (.istore_n 2, 1) := by decide +kernel
theorem dX9_worthHeldBy_2 : decode cX9_worthHeldBy 2 = .ok (.iconst 0, 1) := by decide +kernel
theorem dX9_worthHeldBy_3 : decode cX9_worthHeldBy 3 = .ok (.istore_n 3, 1) := by decide +kernel
theorem dX9_worthHeldBy_4 : decode cX9_worthHeldBy 4 = .ok (.iload_n 3, 1) := by decide +kernel
theorem dX9_worthHeldBy_5 : decode cX9_worthHeldBy 5 = .ok (.aload_n 0, 1) := by decide +kernel
theorem dX9_worthHeldBy_6 : decode cX9_worthHeldBy 6 = .ok (.getfield 74, 3) := by decide +kernel
theorem dX9_worthHeldBy_9 : decode cX9_worthHeldBy 9 = .ok (.if_icmp .ge 41, 3) := by decide +kernel
theorem dX9_worthHeldBy_12 : decode cX9_worthHeldBy 12 = .ok (.aload_n 0, 1) := by decide +kernel
theorem dX9_worthHeldBy_13 : decode cX9_worthHeldBy 13 = .ok (.iload_n 3, 1) := by decide +kernel
theorem dX9_worthHeldBy_14 : decode cX9_worthHeldBy 14 = .ok (.invokevirtual 90, 3) := by decide +kernel
theorem dX9_worthHeldBy_17 : decode cX9_worthHeldBy 17 = .ok (.astore 4, 2) := by decide +kernel
theorem dX9_worthHeldBy_19 : decode cX9_worthHeldBy 19 = .ok (.iload_n 2, 1) := by decide +kernel
theorem dX9_worthHeldBy_20 : decode cX9_worthHeldBy 20 = .ok (.aload 4, 2) := by decide +kernel
theorem dX9_worthHeldBy_22 : decode cX9_worthHeldBy 22 = .ok (.ifnonnull 7, 3) := by decide +kernel
theorem dX9_worthHeldBy_25 : decode cX9_worthHeldBy 25 = .ok (.iconst 0, 1) := by decide +kernel
theorem dX9_worthHeldBy_26 : decode cX9_worthHeldBy 26 = .ok (.goto 16, 3) := by decide +kernel
theorem dX9_worthHeldBy_29 : decode cX9_worthHeldBy 29 = .ok (.aload 4, 2) := by decide +kernel
theorem dX9_worthHeldBy_31 : decode cX9_worthHeldBy 31 = .ok (.getfield 184, 3) := by decide +kernel
theorem dX9_worthHeldBy_34 : decode cX9_worthHeldBy 34 = .ok (.iload_n 1, 1) := by decide +kernel
theorem dX9_worthHeldBy_35 : decode cX9_worthHeldBy 35 = .ok (.iaload, 1) := by decide +kernel
theorem dX9_worthHeldBy_36 : decode cX9_worthHeldBy 36 = .ok (.aload 4, 2) := by decide +kernel
theorem dX9_worthHeldBy_38 : decode cX9_worthHeldBy 38 = .ok (.getfield 129, 3) := by decide +kernel
theorem dX9_worthHeldBy_41 : decode cX9_worthHeldBy 41 = .ok (.imul, 1) := by decide +kernel
theorem dX9_worthHeldBy_42 : decode cX9_worthHeldBy 42 = .ok (.iadd, 1) := by decide +kernel
theorem dX9_worthHeldBy_43 : decode cX9_worthHeldBy 43 = .ok (.istore_n 2, 1) := by decide +kernel
theorem dX9_worthHeldBy_44 : decode cX9_worthHeldBy 44 = .ok (.iinc 3 1, 3) := by decide +kernel
theorem dX9_worthHeldBy_47 : decode cX9_worthHeldBy 47 = .ok (.goto (-43), 3) := by decide +kernel
theorem dX9_worthHeldBy_50 : decode cX9_worthHeldBy 50 = .ok (.iload_n 2, 1) := by decide +kernel
theorem dX9_worthHeldBy_51 : decode cX9_worthHeldBy 51 = .ok (.ireturn, 1) := by decide +kernel
theorem dX9_isKept_0 : decode cX9_isKept 0 = .ok (.ldc2_w 187, 3) := by decide +kernel
theorem dX9_isKept_3 : decode cX9_isKept 3 = .ok (.aload_n 0, 1) := by decide +kernel
theorem dX9_isKept_4 : decode cX9_isKept 4 = .ok (.iload_n 2, 1) := by decide +kernel
theorem dX9_isKept_5 : decode cX9_isKept 5 = .ok (.invokevirtual 189, 3) := by decide +kernel
theorem dX9_isKept_8 : decode cX9_isKept 8 = .ok (.aload_n 1, 1) := by decide +kernel
theorem dX9_isKept_9 : decode cX9_isKept 9 = .ok (.getfield 115, 3) := by decide +kernel
theorem dX9_isKept_12 : decode cX9_isKept 12 = .ok (.iadd, 1) := by decide +kernel
theorem dX9_isKept_13 : decode cX9_isKept 13 = .ok (.i2l, 1) := by decide +kernel
theorem dX9_isKept_14 : decode cX9_isKept 14 = .ok (.lmul, 1) := by decide +kernel
theorem dX9_isKept_15 : decode cX9_isKept 15 = .ok (.lstore_n 3, 1) := by decide +kernel
theorem dX9_isKept_16 : decode cX9_isKept 16 = .ok (.lload_n 3, 1) := by decide +kernel
theorem dX9_isKept_17 : decode cX9_isKept 17 = .ok (.aload_n 1, 1) := by decide +kernel
theorem dX9_isKept_18 : decode cX9_isKept 18 = .ok (.getfield 192, 3) := by decide +kernel
theorem dX9_isKept_21 : decode cX9_isKept 21 = .ok (.i2l, 1) := by decide +kernel
theorem dX9_isKept_22 : decode cX9_isKept 22 = .ok (.aload_n 1, 1) := by decide +kernel
theorem dX9_isKept_23 : decode cX9_isKept 23 = .ok (.getfield 116, 3) := by decide +kernel
theorem dX9_isKept_26 : decode cX9_isKept 26 = .ok (.i2l, 1) := by decide +kernel
theorem dX9_isKept_27 : decode cX9_isKept 27 = .ok (.lmul, 1) := by decide +kernel
theorem dX9_isKept_28 : decode cX9_isKept 28 = .ok (.lcmp, 1) := by decide +kernel
theorem dX9_isKept_29 : decode cX9_isKept 29 = .ok (.ifCond .lt 7, 3) := by decide +kernel
theorem dX9_isKept_32 : decode cX9_isKept 32 = .ok (.iconst 1, 1) := by decide +kernel
theorem dX9_isKept_33 : decode cX9_isKept 33 = .ok (.goto 4, 3) := by decide +kernel
theorem dX9_isKept_36 : decode cX9_isKept 36 = .ok (.iconst 0, 1) := by decide +kernel
theorem dX9_isKept_37 : decode cX9_isKept 37 = .ok (.ireturn, 1) := by decide +kernel
theorem dX9_partOwned_0 : decode cX9_partOwned 0 = .ok (.new 176, 3) := by decide +kernel
theorem dX9_partOwned_3 : decode cX9_partOwned 3 = .ok (.dup, 1) := by decide +kernel
theorem dX9_partOwned_4 : decode cX9_partOwned 4 = .ok (.aload_n 2, 1) := by decide +kernel
theorem dX9_partOwned_5 : decode cX9_partOwned 5 = .ok (.iload_n 3, 1) := by decide +kernel
theorem dX9_partOwned_6 : decode cX9_partOwned 6 = .ok (.iload_n 1, 1) := by decide +kernel
theorem dX9_partOwned_7 : decode cX9_partOwned 7 = .ok (.invokevirtual 167, 3) := by decide +kernel
theorem dX9_partOwned_10 : decode cX9_partOwned 10 = .ok (.i2l, 1) := by decide +kernel
theorem dX9_partOwned_11 : decode cX9_partOwned 11 = .ok (.invokespecial 195, 3) := by decide +kernel
theorem dX9_partOwned_14 : decode cX9_partOwned 14 = .ok (.astore 4, 2) := by decide +kernel
theorem dX9_partOwned_16 : decode cX9_partOwned 16 = .ok (.iconst 0, 1) := by decide +kernel
theorem dX9_partOwned_17 : decode cX9_partOwned 17 = .ok (.istore 5, 2) := by decide +kernel
theorem dX9_partOwned_19 : decode cX9_partOwned 19 = .ok (.iload 5, 2) := by decide +kernel
theorem dX9_partOwned_21 : decode cX9_partOwned 21 = .ok (.aload_n 0, 1) := by decide +kernel
theorem dX9_partOwned_22 : decode cX9_partOwned 22 = .ok (.getfield 96, 3) := by decide +kernel
theorem dX9_partOwned_25 : decode cX9_partOwned 25 = .ok (.if_icmp .ge 65, 3) := by decide +kernel
theorem dX9_partOwned_28 : decode cX9_partOwned 28 = .ok (.bipush 24, 2) := by decide +kernel
theorem dX9_partOwned_30 : decode cX9_partOwned 30 = .ok (.iload 5, 2) := by decide +kernel
theorem dX9_partOwned_32 : decode cX9_partOwned 32 = .ok (.iadd, 1) := by decide +kernel
theorem dX9_partOwned_33 : decode cX9_partOwned 33 = .ok (.istore 6, 2) := by decide +kernel
theorem dX9_partOwned_35 : decode cX9_partOwned 35 = .ok (.aload_n 0, 1) := by decide +kernel
theorem dX9_partOwned_36 : decode cX9_partOwned 36 = .ok (.iload 6, 2) := by decide +kernel
theorem dX9_partOwned_38 : decode cX9_partOwned 38 = .ok (.invokevirtual 104, 3) := by decide +kernel
theorem dX9_partOwned_41 : decode cX9_partOwned 41 = .ok (.astore 7, 2) := by decide +kernel
theorem dX9_partOwned_43 : decode cX9_partOwned 43 = .ok (.aload 7, 2) := by decide +kernel
theorem dX9_partOwned_45 : decode cX9_partOwned 45 = .ok (.ifnull 39, 3) := by decide +kernel
theorem dX9_partOwned_48 : decode cX9_partOwned 48 = .ok (.aload 7, 2) := by decide +kernel
theorem dX9_partOwned_50 : decode cX9_partOwned 50 = .ok (.getfield 116, 3) := by decide +kernel
theorem dX9_partOwned_53 : decode cX9_partOwned 53 = .ok (.ifCond .le 31, 3) := by decide +kernel
theorem dX9_partOwned_56 : decode cX9_partOwned 56 = .ok (.aload 4, 2) := by decide +kernel
theorem dX9_partOwned_58 : decode cX9_partOwned 58 = .ok (.aload_n 2, 1) := by decide +kernel
theorem dX9_partOwned_59 : decode cX9_partOwned 59 = .ok (.iload_n 3, 1) := by decide +kernel
theorem dX9_partOwned_60 : decode cX9_partOwned 60 = .ok (.iload 6, 2) := by decide +kernel
theorem dX9_partOwned_62 : decode cX9_partOwned 62 = .ok (.invokevirtual 167, 3) := by decide +kernel
theorem dX9_partOwned_65 : decode cX9_partOwned 65 = .ok (.i2l, 1) := by decide +kernel
theorem dX9_partOwned_66 : decode cX9_partOwned 66 = .ok (.aload 7, 2) := by decide +kernel
theorem dX9_partOwned_68 : decode cX9_partOwned 68 = .ok (.getfield 119, 3) := by decide +kernel
theorem dX9_partOwned_71 : decode cX9_partOwned 71 = .ok (.iload_n 1, 1) := by decide +kernel
theorem dX9_partOwned_72 : decode cX9_partOwned 72 = .ok (.iaload, 1) := by decide +kernel
theorem dX9_partOwned_73 : decode cX9_partOwned 73 = .ok (.i2l, 1) := by decide +kernel
theorem dX9_partOwned_74 : decode cX9_partOwned 74 = .ok (.lmul, 1) := by decide +kernel
theorem dX9_partOwned_75 : decode cX9_partOwned 75 = .ok (.aload 7, 2) := by decide +kernel
theorem dX9_partOwned_77 : decode cX9_partOwned 77 = .ok (.getfield 116, 3) := by decide +kernel
theorem dX9_partOwned_80 : decode cX9_partOwned 80 = .ok (.i2l, 1) := by decide +kernel
theorem dX9_partOwned_81 : decode cX9_partOwned 81 = .ok (.invokevirtual 198, 3) := by decide +kernel
theorem dX9_partOwned_84 : decode cX9_partOwned 84 = .ok (.iinc 5 1, 3) := by decide +kernel
theorem dX9_partOwned_87 : decode cX9_partOwned 87 = .ok (.goto (-68), 3) := by decide +kernel
theorem dX9_partOwned_90 : decode cX9_partOwned 90 = .ok (.aload 4, 2) := by decide +kernel
theorem dX9_partOwned_92 : decode cX9_partOwned 92 = .ok (.aload_n 2, 1) := by decide +kernel
theorem dX9_partOwned_93 : decode cX9_partOwned 93 = .ok (.getfield 141, 3) := by decide +kernel
theorem dX9_partOwned_96 : decode cX9_partOwned 96 = .ok (.i2l, 1) := by decide +kernel
theorem dX9_partOwned_97 : decode cX9_partOwned 97 = .ok (.invokevirtual 202, 3) := by decide +kernel
theorem dX9_partOwned_100 : decode cX9_partOwned 100 = .ok (.aload 4, 2) := by decide +kernel
theorem dX9_partOwned_102 : decode cX9_partOwned 102 = .ok (.areturn, 1) := by decide +kernel
theorem dX9_endRoundOf_0 : decode cX9_endRoundOf 0 = .ok (.aload_n 0, 1) := by decide +kernel
theorem dX9_endRoundOf_1 : decode cX9_endRoundOf 1 = .ok (.iload_n 1, 1) := by decide +kernel
theorem dX9_endRoundOf_2 : decode cX9_endRoundOf 2 = .ok (.invokevirtual 90, 3) := by decide +kernel
theorem dX9_endRoundOf_5 : decode cX9_endRoundOf 5 = .ok (.astore_n 2, 1) := by decide +kernel
theorem dX9_endRoundOf_6 : decode cX9_endRoundOf 6 = .ok (.aload_n 2, 1) := by decide +kernel
theorem dX9_endRoundOf_7 : decode cX9_endRoundOf 7 = .ok (.ifnonnull 5, 3) := by decide +kernel
theorem dX9_endRoundOf_10 : decode cX9_endRoundOf 10 = .ok (.iconst 0, 1) := by decide +kernel
theorem dX9_endRoundOf_11 : decode cX9_endRoundOf 11 = .ok (.ireturn, 1) := by decide +kernel
theorem dX9_endRoundOf_12 : decode cX9_endRoundOf 12 = .ok (.aload_n 2, 1) := by decide +kernel
theorem dX9_endRoundOf_13 : decode cX9_endRoundOf 13 = .ok (.getfield 144, 3) := by decide +kernel
theorem dX9_endRoundOf_16 : decode cX9_endRoundOf 16 = .ok (.istore_n 3, 1) := by decide +kernel
theorem dX9_endRoundOf_17 : decode cX9_endRoundOf 17 = .ok (.iload_n 3, 1) := by decide +kernel
theorem dX9_endRoundOf_18 : decode cX9_endRoundOf 18 = .ok (.ifCond .le 21, 3) := by decide +kernel
theorem dX9_endRoundOf_21 : decode cX9_endRoundOf 21 = .ok (.aload_n 0, 1) := by decide +kernel
theorem dX9_endRoundOf_22 : decode cX9_endRoundOf 22 = .ok (.getfield 81, 3) := by decide +kernel
theorem dX9_endRoundOf_25 : decode cX9_endRoundOf 25 = .ok (.ifCond .ne 9, 3) := by decide +kernel
theorem dX9_endRoundOf_28 : decode cX9_endRoundOf 28 = .ok (.aload_n 0, 1) := by decide +kernel
theorem dX9_endRoundOf_29 : decode cX9_endRoundOf 29 = .ok (.aload_n 2, 1) := by decide +kernel
theorem dX9_endRoundOf_30 : decode cX9_endRoundOf 30 = .ok (.iload_n 1, 1) := by decide +kernel
theorem dX9_endRoundOf_31 : decode cX9_endRoundOf 31 = .ok (.invokevirtual 205, 3) := by decide +kernel
theorem dX9_endRoundOf_34 : decode cX9_endRoundOf 34 = .ok (.aload_n 0, 1) := by decide +kernel
theorem dX9_endRoundOf_35 : decode cX9_endRoundOf 35 = .ok (.aload_n 2, 1) := by decide +kernel
theorem dX9_endRoundOf_36 : decode cX9_endRoundOf 36 = .ok (.invokevirtual 209, 3) := by decide +kernel
theorem dX9_endRoundOf_39 : decode cX9_endRoundOf 39 = .ok (.aload_n 2, 1) := by decide +kernel
theorem dX9_endRoundOf_40 : decode cX9_endRoundOf 40 = .ok (.aload_n 0, 1) := by decide +kernel
theorem dX9_endRoundOf_41 : decode cX9_endRoundOf 41 = .ok (.getfield 81, 3) := by decide +kernel
theorem dX9_endRoundOf_44 : decode cX9_endRoundOf 44 = .ok (.iconst 1, 1) := by decide +kernel
theorem dX9_endRoundOf_45 : decode cX9_endRoundOf 45 = .ok (.iadd, 1) := by decide +kernel
theorem dX9_endRoundOf_46 : decode cX9_endRoundOf 46 = .ok (.invokevirtual 213, 3) := by decide +kernel
theorem dX9_endRoundOf_49 : decode cX9_endRoundOf 49 = .ok (.iload_n 3, 1) := by decide +kernel
theorem dX9_endRoundOf_50 : decode cX9_endRoundOf 50 = .ok (.aload_n 2, 1) := by decide +kernel
theorem dX9_endRoundOf_51 : decode cX9_endRoundOf 51 = .ok (.getfield 144, 3) := by decide +kernel
theorem dX9_endRoundOf_54 : decode cX9_endRoundOf 54 = .ok (.isub, 1) := by decide +kernel
theorem dX9_endRoundOf_55 : decode cX9_endRoundOf 55 = .ok (.ireturn, 1) := by decide +kernel
theorem dX9_sellToWorkers_0 : decode cX9_sellToWorkers 0 = .ok (.iconst 0, 1) := by decide +kernel
theorem dX9_sellToWorkers_1 : decode cX9_sellToWorkers 1 = .ok (.istore_n 3, 1) := by decide +kernel
theorem dX9_sellToWorkers_2 : decode cX9_sellToWorkers 2 = .ok (.iload_n 3, 1) := by decide +kernel
theorem dX9_sellToWorkers_3 : decode cX9_sellToWorkers 3 = .ok (.bipush 28, 2) := by decide +kernel
theorem dX9_sellToWorkers_5 : decode cX9_sellToWorkers 5 = .ok (.if_icmp .ge 49, 3) := by decide +kernel
theorem dX9_sellToWorkers_8 : decode cX9_sellToWorkers 8 = .ok (.aload_n 0, 1) := by decide +kernel
theorem dX9_sellToWorkers_9 : decode cX9_sellToWorkers 9 = .ok (.iload_n 3, 1) := by decide +kernel
theorem dX9_sellToWorkers_10 : decode cX9_sellToWorkers 10 = .ok (.invokevirtual 100, 3) := by decide +kernel
theorem dX9_sellToWorkers_13 : decode cX9_sellToWorkers 13 = .ok (.astore 4, 2) := by decide +kernel
theorem dX9_sellToWorkers_15 : decode cX9_sellToWorkers 15 = .ok (.aload_n 0, 1) := by decide +kernel
theorem dX9_sellToWorkers_16 : decode cX9_sellToWorkers 16 = .ok (.getfield 44, 3) := by decide +kernel
theorem dX9_sellToWorkers_19 : decode cX9_sellToWorkers 19 = .ok (.getfield 216, 3) := by decide +kernel
theorem dX9_sellToWorkers_22 : decode cX9_sellToWorkers 22 = .ok (.iload_n 3, 1) := by decide +kernel
theorem dX9_sellToWorkers_23 : decode cX9_sellToWorkers 23 = .ok (.aload 4, 2) := by decide +kernel
theorem dX9_sellToWorkers_25 : decode cX9_sellToWorkers 25 = .ok (.ifnull 21, 3) := by decide +kernel
theorem dX9_sellToWorkers_28 : decode cX9_sellToWorkers 28 = .ok (.aload 4, 2) := by decide +kernel
theorem dX9_sellToWorkers_30 : decode cX9_sellToWorkers 30 = .ok (.getfield 219, 3) := by decide +kernel
theorem dX9_sellToWorkers_33 : decode cX9_sellToWorkers 33 = .ok (.iload_n 2, 1) := by decide +kernel
theorem dX9_sellToWorkers_34 : decode cX9_sellToWorkers 34 = .ok (.if_icmp .ne 12, 3) := by decide +kernel
theorem dX9_sellToWorkers_37 : decode cX9_sellToWorkers 37 = .ok (.aload_n 1, 1) := by decide +kernel
theorem dX9_sellToWorkers_38 : decode cX9_sellToWorkers 38 = .ok (.getfield 126, 3) := by decide +kernel
theorem dX9_sellToWorkers_41 : decode cX9_sellToWorkers 41 = .ok (.iload_n 3, 1) := by decide +kernel
theorem dX9_sellToWorkers_42 : decode cX9_sellToWorkers 42 = .ok (.iaload, 1) := by decide +kernel
theorem dX9_sellToWorkers_43 : decode cX9_sellToWorkers 43 = .ok (.goto 4, 3) := by decide +kernel
theorem dX9_sellToWorkers_46 : decode cX9_sellToWorkers 46 = .ok (.iconst 0, 1) := by decide +kernel
theorem dX9_sellToWorkers_47 : decode cX9_sellToWorkers 47 = .ok (.iastore, 1) := by decide +kernel
theorem dX9_sellToWorkers_48 : decode cX9_sellToWorkers 48 = .ok (.iinc 3 1, 3) := by decide +kernel
theorem dX9_sellToWorkers_51 : decode cX9_sellToWorkers 51 = .ok (.goto (-49), 3) := by decide +kernel
theorem dX9_sellToWorkers_54 : decode cX9_sellToWorkers 54 = .ok (.aload_n 1, 1) := by decide +kernel
theorem dX9_sellToWorkers_55 : decode cX9_sellToWorkers 55 = .ok (.getfield 141, 3) := by decide +kernel
theorem dX9_sellToWorkers_58 : decode cX9_sellToWorkers 58 = .ok (.aload_n 0, 1) := by decide +kernel
theorem dX9_sellToWorkers_59 : decode cX9_sellToWorkers 59 = .ok (.getfield 19, 3) := by decide +kernel
theorem dX9_sellToWorkers_62 : decode cX9_sellToWorkers 62 = .ok (.getstatic 222, 3) := by decide +kernel
theorem dX9_sellToWorkers_65 : decode cX9_sellToWorkers 65 = .ok (.invokevirtual 228, 3) := by decide +kernel
theorem dX9_sellToWorkers_68 : decode cX9_sellToWorkers 68 = .ok (.imul, 1) := by decide +kernel
theorem dX9_sellToWorkers_69 : decode cX9_sellToWorkers 69 = .ok (.bipush 100, 2) := by decide +kernel
theorem dX9_sellToWorkers_71 : decode cX9_sellToWorkers 71 = .ok (.idiv, 1) := by decide +kernel
theorem dX9_sellToWorkers_72 : decode cX9_sellToWorkers 72 = .ok (.istore_n 3, 1) := by decide +kernel
theorem dX9_sellToWorkers_73 : decode cX9_sellToWorkers 73 = .ok (.aload_n 0, 1) := by decide +kernel
theorem dX9_sellToWorkers_74 : decode cX9_sellToWorkers 74 = .ok (.getfield 44, 3) := by decide +kernel
theorem dX9_sellToWorkers_77 : decode cX9_sellToWorkers 77 = .ok (.iload_n 3, 1) := by decide +kernel
theorem dX9_sellToWorkers_78 : decode cX9_sellToWorkers 78 = .ok (.aload_n 1, 1) := by decide +kernel
theorem dX9_sellToWorkers_79 : decode cX9_sellToWorkers 79 = .ok (.getfield 144, 3) := by decide +kernel
theorem dX9_sellToWorkers_82 : decode cX9_sellToWorkers 82 = .ok (.invokestatic 232, 3) := by decide +kernel
theorem dX9_sellToWorkers_85 : decode cX9_sellToWorkers 85 = .ok (.invokevirtual 237, 3) := by decide +kernel
theorem dX9_sellToWorkers_88 : decode cX9_sellToWorkers 88 = .ok (.aload_n 0, 1) := by decide +kernel
theorem dX9_sellToWorkers_89 : decode cX9_sellToWorkers 89 = .ok (.aload_n 1, 1) := by decide +kernel
theorem dX9_sellToWorkers_90 : decode cX9_sellToWorkers 90 = .ok (.aload_n 1, 1) := by decide +kernel
theorem dX9_sellToWorkers_91 : decode cX9_sellToWorkers 91 = .ok (.getfield 129, 3) := by decide +kernel
theorem dX9_sellToWorkers_94 : decode cX9_sellToWorkers 94 = .ok (.aload_n 0, 1) := by decide +kernel
theorem dX9_sellToWorkers_95 : decode cX9_sellToWorkers 95 = .ok (.getfield 19, 3) := by decide +kernel
theorem dX9_sellToWorkers_98 : decode cX9_sellToWorkers 98 = .ok (.getstatic 240, 3) := by decide +kernel
theorem dX9_sellToWorkers_101 : decode cX9_sellToWorkers 101 = .ok (.invokevirtual 228, 3) := by decide +kernel
theorem dX9_sellToWorkers_104 : decode cX9_sellToWorkers 104 = .ok (.imul, 1) := by decide +kernel
theorem dX9_sellToWorkers_105 : decode cX9_sellToWorkers 105 = .ok (.bipush 100, 2) := by decide +kernel
theorem dX9_sellToWorkers_107 : decode cX9_sellToWorkers 107 = .ok (.invokestatic 243, 3) := by decide +kernel
theorem dX9_sellToWorkers_110 : decode cX9_sellToWorkers 110 = .ok (.invokevirtual 246, 3) := by decide +kernel
theorem dX9_sellToWorkers_113 : decode cX9_sellToWorkers 113 = .ok (.return_, 1) := by decide +kernel
theorem dX9_sellToAll_0 : decode cX9_sellToAll 0 = .ok (.aload_n 1, 1) := by decide +kernel
theorem dX9_sellToAll_1 : decode cX9_sellToAll 1 = .ok (.getfield 144, 3) := by decide +kernel
theorem dX9_sellToAll_4 : decode cX9_sellToAll 4 = .ok (.istore_n 2, 1) := by decide +kernel
theorem dX9_sellToAll_5 : decode cX9_sellToAll 5 = .ok (.aload_n 1, 1) := by decide +kernel
theorem dX9_sellToAll_6 : decode cX9_sellToAll 6 = .ok (.getfield 126, 3) := by decide +kernel
theorem dX9_sellToAll_9 : decode cX9_sellToAll 9 = .ok (.invokestatic 147, 3) := by decide +kernel
theorem dX9_sellToAll_12 : decode cX9_sellToAll 12 = .ok (.istore_n 3, 1) := by decide +kernel
theorem dX9_sellToAll_13 : decode cX9_sellToAll 13 = .ok (.aload_n 1, 1) := by decide +kernel
theorem dX9_sellToAll_14 : decode cX9_sellToAll 14 = .ok (.getfield 126, 3) := by decide +kernel
theorem dX9_sellToAll_17 : decode cX9_sellToAll 17 = .ok (.iconst 0, 1) := by decide +kernel
theorem dX9_sellToAll_18 : decode cX9_sellToAll 18 = .ok (.aload_n 0, 1) := by decide +kernel
theorem dX9_sellToAll_19 : decode cX9_sellToAll 19 = .ok (.getfield 44, 3) := by decide +kernel
theorem dX9_sellToAll_22 : decode cX9_sellToAll 22 = .ok (.getfield 216, 3) := by decide +kernel
theorem dX9_sellToAll_25 : decode cX9_sellToAll 25 = .ok (.iconst 0, 1) := by decide +kernel
theorem dX9_sellToAll_26 : decode cX9_sellToAll 26 = .ok (.bipush 28, 2) := by decide +kernel
theorem dX9_sellToAll_28 : decode cX9_sellToAll 28 = .ok (.invokestatic 249, 3) := by decide +kernel
theorem dX9_sellToAll_31 : decode cX9_sellToAll 31 = .ok (.iload_n 3, 1) := by decide +kernel
theorem dX9_sellToAll_32 : decode cX9_sellToAll 32 = .ok (.iload_n 2, 1) := by decide +kernel
theorem dX9_sellToAll_33 : decode cX9_sellToAll 33 = .ok (.isub, 1) := by decide +kernel
theorem dX9_sellToAll_34 : decode cX9_sellToAll 34 = .ok (.iload_n 2, 1) := by decide +kernel
theorem dX9_sellToAll_35 : decode cX9_sellToAll 35 = .ok (.aload_n 0, 1) := by decide +kernel
theorem dX9_sellToAll_36 : decode cX9_sellToAll 36 = .ok (.getfield 19, 3) := by decide +kernel
theorem dX9_sellToAll_39 : decode cX9_sellToAll 39 = .ok (.getstatic 255, 3) := by decide +kernel
theorem dX9_sellToAll_42 : decode cX9_sellToAll 42 = .ok (.invokevirtual 228, 3) := by decide +kernel
theorem dX9_sellToAll_45 : decode cX9_sellToAll 45 = .ok (.imul, 1) := by decide +kernel
theorem dX9_sellToAll_46 : decode cX9_sellToAll 46 = .ok (.bipush 100, 2) := by decide +kernel
theorem dX9_sellToAll_48 : decode cX9_sellToAll 48 = .ok (.idiv, 1) := by decide +kernel
theorem dX9_sellToAll_49 : decode cX9_sellToAll 49 = .ok (.if_icmp .le 7, 3) := by decide +kernel
theorem dX9_sellToAll_52 : decode cX9_sellToAll 52 = .ok (.iconst 1, 1) := by decide +kernel
theorem dX9_sellToAll_53 : decode cX9_sellToAll 53 = .ok (.goto 4, 3) := by decide +kernel
theorem dX9_sellToAll_56 : decode cX9_sellToAll 56 = .ok (.iconst 0, 1) := by decide +kernel
theorem dX9_sellToAll_57 : decode cX9_sellToAll 57 = .ok (.istore 4, 2) := by decide +kernel
theorem dX9_sellToAll_59 : decode cX9_sellToAll 59 = .ok (.aload_n 0, 1) := by decide +kernel
theorem dX9_sellToAll_60 : decode cX9_sellToAll 60 = .ok (.getfield 44, 3) := by decide +kernel
theorem dX9_sellToAll_63 : decode cX9_sellToAll 63 = .ok (.iload 4, 2) := by decide +kernel
theorem dX9_sellToAll_65 : decode cX9_sellToAll 65 = .ok (.ifCond .eq 7, 3) := by decide +kernel
theorem dX9_sellToAll_68 : decode cX9_sellToAll 68 = .ok (.iconst 0, 1) := by decide +kernel
theorem dX9_sellToAll_69 : decode cX9_sellToAll 69 = .ok (.goto 4, 3) := by decide +kernel
theorem dX9_sellToAll_72 : decode cX9_sellToAll 72 = .ok (.iload_n 2, 1) := by decide +kernel
theorem dX9_sellToAll_73 : decode cX9_sellToAll 73 = .ok (.invokevirtual 237, 3) := by decide +kernel
theorem dX9_sellToAll_76 : decode cX9_sellToAll 76 = .ok (.aload_n 0, 1) := by decide +kernel
theorem dX9_sellToAll_77 : decode cX9_sellToAll 77 = .ok (.aload_n 1, 1) := by decide +kernel
theorem dX9_sellToAll_78 : decode cX9_sellToAll 78 = .ok (.aload_n 1, 1) := by decide +kernel
theorem dX9_sellToAll_79 : decode cX9_sellToAll 79 = .ok (.getfield 129, 3) := by decide +kernel
theorem dX9_sellToAll_82 : decode cX9_sellToAll 82 = .ok (.invokevirtual 246, 3) := by decide +kernel
theorem dX9_sellToAll_85 : decode cX9_sellToAll 85 = .ok (.iload_n 2, 1) := by decide +kernel
theorem dX9_sellToAll_86 : decode cX9_sellToAll 86 = .ok (.ifCond .le 17, 3) := by decide +kernel
theorem dX9_sellToAll_89 : decode cX9_sellToAll 89 = .ok (.aload_n 1, 1) := by decide +kernel
theorem dX9_sellToAll_90 : decode cX9_sellToAll 90 = .ok (.aload_n 0, 1) := by decide +kernel
theorem dX9_sellToAll_91 : decode cX9_sellToAll 91 = .ok (.aload_n 1, 1) := by decide +kernel
theorem dX9_sellToAll_92 : decode cX9_sellToAll 92 = .ok (.getfield 129, 3) := by decide +kernel
theorem dX9_sellToAll_95 : decode cX9_sellToAll 95 = .ok (.iload_n 3, 1) := by decide +kernel
theorem dX9_sellToAll_96 : decode cX9_sellToAll 96 = .ok (.iload_n 2, 1) := by decide +kernel
theorem dX9_sellToAll_97 : decode cX9_sellToAll 97 = .ok (.invokevirtual 258, 3) := by decide +kernel
theorem dX9_sellToAll_100 : decode cX9_sellToAll 100 = .ok (.putfield 129, 3) := by decide +kernel
theorem dX9_sellToAll_103 : decode cX9_sellToAll 103 = .ok (.return_, 1) := by decide +kernel
theorem dX9_handOver_0 : decode cX9_handOver 0 = .ok (.iconst 0, 1) := by decide +kernel
theorem dX9_handOver_1 : decode cX9_handOver 1 = .ok (.istore_n 3, 1) := by decide +kernel
theorem dX9_handOver_2 : decode cX9_handOver 2 = .ok (.iload_n 3, 1) := by decide +kernel
theorem dX9_handOver_3 : decode cX9_handOver 3 = .ok (.bipush 28, 2) := by decide +kernel
theorem dX9_handOver_5 : decode cX9_handOver 5 = .ok (.if_icmp .ge 79, 3) := by decide +kernel
theorem dX9_handOver_8 : decode cX9_handOver 8 = .ok (.aload_n 0, 1) := by decide +kernel
theorem dX9_handOver_9 : decode cX9_handOver 9 = .ok (.iload_n 3, 1) := by decide +kernel
theorem dX9_handOver_10 : decode cX9_handOver 10 = .ok (.invokevirtual 122, 3) := by decide +kernel
theorem dX9_handOver_13 : decode cX9_handOver 13 = .ok (.astore 4, 2) := by decide +kernel
theorem dX9_handOver_15 : decode cX9_handOver 15 = .ok (.aload 4, 2) := by decide +kernel
theorem dX9_handOver_17 : decode cX9_handOver 17 = .ok (.ifnull 61, 3) := by decide +kernel
theorem dX9_handOver_20 : decode cX9_handOver 20 = .ok (.aload_n 0, 1) := by decide +kernel
theorem dX9_handOver_21 : decode cX9_handOver 21 = .ok (.getfield 44, 3) := by decide +kernel
theorem dX9_handOver_24 : decode cX9_handOver 24 = .ok (.getfield 262, 3) := by decide +kernel
theorem dX9_handOver_27 : decode cX9_handOver 27 = .ok (.iload_n 3, 1) := by decide +kernel
theorem dX9_handOver_28 : decode cX9_handOver 28 = .ok (.iaload, 1) := by decide +kernel
theorem dX9_handOver_29 : decode cX9_handOver 29 = .ok (.istore 5, 2) := by decide +kernel
theorem dX9_handOver_31 : decode cX9_handOver 31 = .ok (.aload 4, 2) := by decide +kernel
theorem dX9_handOver_33 : decode cX9_handOver 33 = .ok (.dup, 1) := by decide +kernel
theorem dX9_handOver_34 : decode cX9_handOver 34 = .ok (.getfield 132, 3) := by decide +kernel
theorem dX9_handOver_37 : decode cX9_handOver 37 = .ok (.iload 5, 2) := by decide +kernel
theorem dX9_handOver_39 : decode cX9_handOver 39 = .ok (.iload_n 2, 1) := by decide +kernel
theorem dX9_handOver_40 : decode cX9_handOver 40 = .ok (.imul, 1) := by decide +kernel
theorem dX9_handOver_41 : decode cX9_handOver 41 = .ok (.isub, 1) := by decide +kernel
theorem dX9_handOver_42 : decode cX9_handOver 42 = .ok (.putfield 132, 3) := by decide +kernel
theorem dX9_handOver_45 : decode cX9_handOver 45 = .ok (.aload_n 1, 1) := by decide +kernel
theorem dX9_handOver_46 : decode cX9_handOver 46 = .ok (.getfield 184, 3) := by decide +kernel
theorem dX9_handOver_49 : decode cX9_handOver 49 = .ok (.iload_n 3, 1) := by decide +kernel
theorem dX9_handOver_50 : decode cX9_handOver 50 = .ok (.dup2, 1) := by decide +kernel
theorem dX9_handOver_51 : decode cX9_handOver 51 = .ok (.iaload, 1) := by decide +kernel
theorem dX9_handOver_52 : decode cX9_handOver 52 = .ok (.iload 5, 2) := by decide +kernel
theorem dX9_handOver_54 : decode cX9_handOver 54 = .ok (.iadd, 1) := by decide +kernel
theorem dX9_handOver_55 : decode cX9_handOver 55 = .ok (.iastore, 1) := by decide +kernel
theorem dX9_handOver_56 : decode cX9_handOver 56 = .ok (.aload_n 1, 1) := by decide +kernel
theorem dX9_handOver_57 : decode cX9_handOver 57 = .ok (.getfield 126, 3) := by decide +kernel
theorem dX9_handOver_60 : decode cX9_handOver 60 = .ok (.iload_n 3, 1) := by decide +kernel
theorem dX9_handOver_61 : decode cX9_handOver 61 = .ok (.dup2, 1) := by decide +kernel
theorem dX9_handOver_62 : decode cX9_handOver 62 = .ok (.iaload, 1) := by decide +kernel
theorem dX9_handOver_63 : decode cX9_handOver 63 = .ok (.iload 5, 2) := by decide +kernel
theorem dX9_handOver_65 : decode cX9_handOver 65 = .ok (.isub, 1) := by decide +kernel
theorem dX9_handOver_66 : decode cX9_handOver 66 = .ok (.iastore, 1) := by decide +kernel
theorem dX9_handOver_67 : decode cX9_handOver 67 = .ok (.aload_n 1, 1) := by decide +kernel
theorem dX9_handOver_68 : decode cX9_handOver 68 = .ok (.dup, 1) := by decide +kernel
theorem dX9_handOver_69 : decode cX9_handOver 69 = .ok (.getfield 144, 3) := by decide +kernel
theorem dX9_handOver_72 : decode cX9_handOver 72 = .ok (.iload 5, 2) := by decide +kernel
theorem dX9_handOver_74 : decode cX9_handOver 74 = .ok (.isub, 1) := by decide +kernel
theorem dX9_handOver_75 : decode cX9_handOver 75 = .ok (.putfield 144, 3) := by decide +kernel
theorem dX9_handOver_78 : decode cX9_handOver 78 = .ok (.iinc 3 1, 3) := by decide +kernel
theorem dX9_handOver_81 : decode cX9_handOver 81 = .ok (.goto (-79), 3) := by decide +kernel
theorem dX9_handOver_84 : decode cX9_handOver 84 = .ok (.return_, 1) := by decide +kernel
theorem dX9_movedPrice_0 : decode cX9_movedPrice 0 = .ok (.iload_n 1, 1) := by decide +kernel
theorem dX9_movedPrice_1 : decode cX9_movedPrice 1 = .ok (.iload_n 2, 1) := by decide +kernel
theorem dX9_movedPrice_2 : decode cX9_movedPrice 2 = .ok (.imul, 1) := by decide +kernel
theorem dX9_movedPrice_3 : decode cX9_movedPrice 3 = .ok (.iload_n 3, 1) := by decide +kernel
theorem dX9_movedPrice_4 : decode cX9_movedPrice 4 = .ok (.invokestatic 243, 3) := by decide +kernel
theorem dX9_movedPrice_7 : decode cX9_movedPrice 7 = .ok (.istore 4, 2) := by decide +kernel
theorem dX9_movedPrice_9 : decode cX9_movedPrice 9 = .ok (.iload 4, 2) := by decide +kernel
theorem dX9_movedPrice_11 : decode cX9_movedPrice 11 = .ok (.iload_n 1, 1) := by decide +kernel
theorem dX9_movedPrice_12 : decode cX9_movedPrice 12 = .ok (.aload_n 0, 1) := by decide +kernel
theorem dX9_movedPrice_13 : decode cX9_movedPrice 13 = .ok (.getfield 19, 3) := by decide +kernel
theorem dX9_movedPrice_16 : decode cX9_movedPrice 16 = .ok (.getstatic 265, 3) := by decide +kernel
theorem dX9_movedPrice_19 : decode cX9_movedPrice 19 = .ok (.invokevirtual 228, 3) := by decide +kernel
theorem dX9_movedPrice_22 : decode cX9_movedPrice 22 = .ok (.imul, 1) := by decide +kernel
theorem dX9_movedPrice_23 : decode cX9_movedPrice 23 = .ok (.bipush 100, 2) := by decide +kernel
theorem dX9_movedPrice_25 : decode cX9_movedPrice 25 = .ok (.idiv, 1) := by decide +kernel
theorem dX9_movedPrice_26 : decode cX9_movedPrice 26 = .ok (.invokestatic 232, 3) := by decide +kernel
theorem dX9_movedPrice_29 : decode cX9_movedPrice 29 = .ok (.istore 4, 2) := by decide +kernel
theorem dX9_movedPrice_31 : decode cX9_movedPrice 31 = .ok (.iload 4, 2) := by decide +kernel
theorem dX9_movedPrice_33 : decode cX9_movedPrice 33 = .ok (.iload_n 1, 1) := by decide +kernel
theorem dX9_movedPrice_34 : decode cX9_movedPrice 34 = .ok (.aload_n 0, 1) := by decide +kernel
theorem dX9_movedPrice_35 : decode cX9_movedPrice 35 = .ok (.getfield 19, 3) := by decide +kernel
theorem dX9_movedPrice_38 : decode cX9_movedPrice 38 = .ok (.getstatic 268, 3) := by decide +kernel
theorem dX9_movedPrice_41 : decode cX9_movedPrice 41 = .ok (.invokevirtual 228, 3) := by decide +kernel
theorem dX9_movedPrice_44 : decode cX9_movedPrice 44 = .ok (.imul, 1) := by decide +kernel
theorem dX9_movedPrice_45 : decode cX9_movedPrice 45 = .ok (.bipush 100, 2) := by decide +kernel
theorem dX9_movedPrice_47 : decode cX9_movedPrice 47 = .ok (.invokestatic 243, 3) := by decide +kernel
theorem dX9_movedPrice_50 : decode cX9_movedPrice 50 = .ok (.invokestatic 271, 3) := by decide +kernel
theorem dX9_movedPrice_53 : decode cX9_movedPrice 53 = .ok (.istore 4, 2) := by decide +kernel
theorem dX9_movedPrice_55 : decode cX9_movedPrice 55 = .ok (.iload 4, 2) := by decide +kernel
theorem dX9_movedPrice_57 : decode cX9_movedPrice 57 = .ok (.aload_n 0, 1) := by decide +kernel
theorem dX9_movedPrice_58 : decode cX9_movedPrice 58 = .ok (.getfield 19, 3) := by decide +kernel
theorem dX9_movedPrice_61 : decode cX9_movedPrice 61 = .ok (.getstatic 274, 3) := by decide +kernel
theorem dX9_movedPrice_64 : decode cX9_movedPrice 64 = .ok (.invokevirtual 228, 3) := by decide +kernel
theorem dX9_movedPrice_67 : decode cX9_movedPrice 67 = .ok (.invokestatic 271, 3) := by decide +kernel
theorem dX9_movedPrice_70 : decode cX9_movedPrice 70 = .ok (.istore 4, 2) := by decide +kernel
theorem dX9_movedPrice_72 : decode cX9_movedPrice 72 = .ok (.iload 4, 2) := by decide +kernel
theorem dX9_movedPrice_74 : decode cX9_movedPrice 74 = .ok (.sipush 9999, 3) := by decide +kernel
theorem dX9_movedPrice_77 : decode cX9_movedPrice 77 = .ok (.invokestatic 232, 3) := by decide +kernel
theorem dX9_movedPrice_80 : decode cX9_movedPrice 80 = .ok (.ireturn, 1) := by decide +kernel
theorem dX9_isWithin_0 : decode cX9_isWithin 0 = .ok (.iload_n 0, 1) := by decide +kernel
theorem dX9_isWithin_1 : decode cX9_isWithin 1 = .ok (.iload_n 1, 1) := by decide +kernel
theorem dX9_isWithin_2 : decode cX9_isWithin 2 = .ok (.if_icmp .lt 12, 3) := by decide +kernel
theorem dX9_isWithin_5 : decode cX9_isWithin 5 = .ok (.iload_n 0, 1) := by decide +kernel
theorem dX9_isWithin_6 : decode cX9_isWithin 6 = .ok (.iload_n 2, 1) := by decide +kernel
theorem dX9_isWithin_7 : decode cX9_isWithin 7 = .ok (.if_icmp .gt 7, 3) := by decide +kernel
theorem dX9_isWithin_10 : decode cX9_isWithin 10 = .ok (.iconst 1, 1) := by decide +kernel
theorem dX9_isWithin_11 : decode cX9_isWithin 11 = .ok (.goto 4, 3) := by decide +kernel
theorem dX9_isWithin_14 : decode cX9_isWithin 14 = .ok (.iconst 0, 1) := by decide +kernel
theorem dX9_isWithin_15 : decode cX9_isWithin 15 = .ok (.ireturn, 1) := by decide +kernel
theorem dX9_sumOf_0 : decode cX9_sumOf 0 = .ok (.iconst 0, 1) := by decide +kernel
theorem dX9_sumOf_1 : decode cX9_sumOf 1 = .ok (.istore_n 1, 1) := by decide +kernel
theorem dX9_sumOf_2 : decode cX9_sumOf 2 = .ok (.aload_n 0, 1) := by decide +kernel
theorem dX9_sumOf_3 : decode cX9_sumOf 3 = .ok (.astore_n 2, 1) := by decide +kernel
theorem dX9_sumOf_4 : decode cX9_sumOf 4 = .ok (.aload_n 2, 1) := by decide +kernel
theorem dX9_sumOf_5 : decode cX9_sumOf 5 = .ok (.arraylength, 1) := by decide +kernel
theorem dX9_sumOf_6 : decode cX9_sumOf 6 = .ok (.istore_n 3, 1) := by decide +kernel
theorem dX9_sumOf_7 : decode cX9_sumOf 7 = .ok (.iconst 0, 1) := by decide +kernel
theorem dX9_sumOf_8 : decode cX9_sumOf 8 = .ok (.istore 4, 2) := by decide +kernel
theorem dX9_sumOf_10 : decode cX9_sumOf 10 = .ok (.iload 4, 2) := by decide +kernel
theorem dX9_sumOf_12 : decode cX9_sumOf 12 = .ok (.iload_n 3, 1) := by decide +kernel
theorem dX9_sumOf_13 : decode cX9_sumOf 13 = .ok (.if_icmp .ge 20, 3) := by decide +kernel
theorem dX9_sumOf_16 : decode cX9_sumOf 16 = .ok (.aload_n 2, 1) := by decide +kernel
theorem dX9_sumOf_17 : decode cX9_sumOf 17 = .ok (.iload 4, 2) := by decide +kernel
theorem dX9_sumOf_19 : decode cX9_sumOf 19 = .ok (.iaload, 1) := by decide +kernel
theorem dX9_sumOf_20 : decode cX9_sumOf 20 = .ok (.istore 5, 2) := by decide +kernel
theorem dX9_sumOf_22 : decode cX9_sumOf 22 = .ok (.iload_n 1, 1) := by decide +kernel
theorem dX9_sumOf_23 : decode cX9_sumOf 23 = .ok (.iload 5, 2) := by decide +kernel
theorem dX9_sumOf_25 : decode cX9_sumOf 25 = .ok (.iadd, 1) := by decide +kernel
theorem dX9_sumOf_26 : decode cX9_sumOf 26 = .ok (.istore_n 1, 1) := by decide +kernel
theorem dX9_sumOf_27 : decode cX9_sumOf 27 = .ok (.iinc 4 1, 3) := by decide +kernel
theorem dX9_sumOf_30 : decode cX9_sumOf 30 = .ok (.goto (-20), 3) := by decide +kernel
theorem dX9_sumOf_33 : decode cX9_sumOf 33 = .ok (.iload_n 1, 1) := by decide +kernel
theorem dX9_sumOf_34 : decode cX9_sumOf 34 = .ok (.ireturn, 1) := by decide +kernel
theorem dX9_dividedUp_0 : decode cX9_dividedUp 0 = .ok (.iload_n 1, 1) := by decide +kernel
theorem dX9_dividedUp_1 : decode cX9_dividedUp 1 = .ok (.ifCond .le 13, 3) := by decide +kernel
theorem dX9_dividedUp_4 : decode cX9_dividedUp 4 = .ok (.iload_n 0, 1) := by decide +kernel
theorem dX9_dividedUp_5 : decode cX9_dividedUp 5 = .ok (.iload_n 1, 1) := by decide +kernel
theorem dX9_dividedUp_6 : decode cX9_dividedUp 6 = .ok (.iadd, 1) := by decide +kernel
theorem dX9_dividedUp_7 : decode cX9_dividedUp 7 = .ok (.iconst 1, 1) := by decide +kernel
theorem dX9_dividedUp_8 : decode cX9_dividedUp 8 = .ok (.isub, 1) := by decide +kernel
theorem dX9_dividedUp_9 : decode cX9_dividedUp 9 = .ok (.iload_n 1, 1) := by decide +kernel
theorem dX9_dividedUp_10 : decode cX9_dividedUp 10 = .ok (.idiv, 1) := by decide +kernel
theorem dX9_dividedUp_11 : decode cX9_dividedUp 11 = .ok (.goto 4, 3) := by decide +kernel
theorem dX9_dividedUp_14 : decode cX9_dividedUp 14 = .ok (.iconst 0, 1) := by decide +kernel
theorem dX9_dividedUp_15 : decode cX9_dividedUp 15 = .ok (.ireturn, 1) := by decide +kernel
theorem dX10_init_0 : decode cX10_init 0 = .ok (.aload_n 0, 1) := by decide +kernel
theorem dX10_init_1 : decode cX10_init 1 = .ok (.invokespecial 1, 3) := by decide +kernel
theorem dX10_init_4 : decode cX10_init 4 = .ok (.aload_n 0, 1) := by decide +kernel
theorem dX10_init_5 : decode cX10_init 5 = .ok (.sipush 140, 3) := by decide +kernel
theorem dX10_init_8 : decode cX10_init 8 = .ok (.newarray .int, 2) := by decide +kernel
theorem dX10_init_10 : decode cX10_init 10 = .ok (.putfield 7, 3) := by decide +kernel
theorem dX10_init_13 : decode cX10_init 13 = .ok (.aload_n 0, 1) := by decide +kernel
theorem dX10_init_14 : decode cX10_init 14 = .ok (.bipush 6, 2) := by decide +kernel
theorem dX10_init_16 : decode cX10_init 16 = .ok (.newarray .int, 2) := by decide +kernel
theorem dX10_init_18 : decode cX10_init 18 = .ok (.dup, 1) := by decide +kernel
theorem dX10_init_19 : decode cX10_init 19 = .ok (.iconst 0, 1) := by decide +kernel
theorem dX10_init_20 : decode cX10_init 20 = .ok (.bipush 10, 2) := by decide +kernel
theorem dX10_init_22 : decode cX10_init 22 = .ok (.iastore, 1) := by decide +kernel
theorem dX10_init_23 : decode cX10_init 23 = .ok (.dup, 1) := by decide +kernel
theorem dX10_init_24 : decode cX10_init 24 = .ok (.iconst 1, 1) := by decide +kernel
theorem dX10_init_25 : decode cX10_init 25 = .ok (.bipush 50, 2) := by decide +kernel
theorem dX10_init_27 : decode cX10_init 27 = .ok (.iastore, 1) := by decide +kernel
theorem dX10_init_28 : decode cX10_init 28 = .ok (.dup, 1) := by decide +kernel
theorem dX10_init_29 : decode cX10_init 29 = .ok (.iconst 2, 1) := by decide +kernel
theorem dX10_init_30 : decode cX10_init 30 = .ok (.bipush 25, 2) := by decide +kernel
theorem dX10_init_32 : decode cX10_init 32 = .ok (.iastore, 1) := by decide +kernel
theorem dX10_init_33 : decode cX10_init 33 = .ok (.dup, 1) := by decide +kernel
theorem dX10_init_34 : decode cX10_init 34 = .ok (.iconst 3, 1) := by decide +kernel
theorem dX10_init_35 : decode cX10_init 35 = .ok (.sipush 200, 3) := by decide +kernel
theorem dX10_init_38 : decode cX10_init 38 = .ok (.iastore, 1) := by decide +kernel
theorem dX10_init_39 : decode cX10_init 39 = .ok (.dup, 1) := by decide +kernel
theorem dX10_init_40 : decode cX10_init 40 = .ok (.iconst 4, 1) := by decide +kernel
theorem dX10_init_41 : decode cX10_init 41 = .ok (.bipush 50, 2) := by decide +kernel
theorem dX10_init_43 : decode cX10_init 43 = .ok (.iastore, 1) := by decide +kernel
theorem dX10_init_44 : decode cX10_init 44 = .ok (.dup, 1) := by decide +kernel
theorem dX10_init_45 : decode cX10_init 45 = .ok (.iconst 5, 1) := by decide +kernel
theorem dX10_init_46 : decode cX10_init 46 = .ok (.iconst 1, 1) := by decide +kernel
theorem dX10_init_47 : decode cX10_init 47 = .ok (.iastore, 1) := by decide +kernel
theorem dX10_init_48 : decode cX10_init 48 = .ok (.putfield 13, 3) := by decide +kernel
theorem dX10_init_51 : decode cX10_init 51 = .ok (.aload_n 0, 1) := by decide +kernel
theorem dX10_init_52 : decode cX10_init 52 = .ok (.bipush 6, 2) := by decide +kernel
theorem dX10_init_54 : decode cX10_init 54 = .ok (.newarray .int, 2) := by decide +kernel
theorem dX10_init_56 : decode cX10_init 56 = .ok (.dup, 1) := by decide +kernel
theorem dX10_init_57 : decode cX10_init 57 = .ok (.iconst 0, 1) := by decide +kernel
theorem dX10_init_58 : decode cX10_init 58 = .ok (.bipush 10, 2) := by decide +kernel
theorem dX10_init_60 : decode cX10_init 60 = .ok (.iastore, 1) := by decide +kernel
theorem dX10_init_61 : decode cX10_init 61 = .ok (.dup, 1) := by decide +kernel
theorem dX10_init_62 : decode cX10_init 62 = .ok (.iconst 1, 1) := by decide +kernel
theorem dX10_init_63 : decode cX10_init 63 = .ok (.bipush 50, 2) := by decide +kernel
theorem dX10_init_65 : decode cX10_init 65 = .ok (.iastore, 1) := by decide +kernel
theorem dX10_init_66 : decode cX10_init 66 = .ok (.dup, 1) := by decide +kernel
theorem dX10_init_67 : decode cX10_init 67 = .ok (.iconst 2, 1) := by decide +kernel
theorem dX10_init_68 : decode cX10_init 68 = .ok (.bipush 25, 2) := by decide +kernel
theorem dX10_init_70 : decode cX10_init 70 = .ok (.iastore, 1) := by decide +kernel
theorem dX10_init_71 : decode cX10_init 71 = .ok (.dup, 1) := by decide +kernel
theorem dX10_init_72 : decode cX10_init 72 = .ok (.iconst 3, 1) := by decide +kernel
theorem dX10_init_73 : decode cX10_init 73 = .ok (.sipush 200, 3) := by decide +kernel
theorem dX10_init_76 : decode cX10_init 76 = .ok (.iastore, 1) := by decide +kernel
theorem dX10_init_77 : decode cX10_init 77 = .ok (.dup, 1) := by decide +kernel
theorem dX10_init_78 : decode cX10_init 78 = .ok (.iconst 4, 1) := by decide +kernel
theorem dX10_init_79 : decode cX10_init 79 = .ok (.bipush 50, 2) := by decide +kernel
theorem dX10_init_81 : decode cX10_init 81 = .ok (.iastore, 1) := by decide +kernel
theorem dX10_init_82 : decode cX10_init 82 = .ok (.dup, 1) := by decide +kernel
theorem dX10_init_83 : decode cX10_init 83 = .ok (.iconst 5, 1) := by decide +kernel
theorem dX10_init_84 : decode cX10_init 84 = .ok (.iconst 1, 1) := by decide +kernel
theorem dX10_init_85 : decode cX10_init 85 = .ok (.iastore, 1) := by decide +kernel
theorem dX10_init_86 : decode cX10_init 86 = .ok (.putfield 16, 3) := by decide +kernel
theorem dX10_init_89 : decode cX10_init 89 = .ok (.aload_n 0, 1) := by decide +kernel
theorem dX10_init_90 : decode cX10_init 90 = .ok (.bipush 6, 2) := by decide +kernel
theorem dX10_init_92 : decode cX10_init 92 = .ok (.newarray .int, 2) := by decide +kernel
theorem dX10_init_94 : decode cX10_init 94 = .ok (.dup, 1) := by decide +kernel
theorem dX10_init_95 : decode cX10_init 95 = .ok (.iconst 0, 1) := by decide +kernel
theorem dX10_init_96 : decode cX10_init 96 = .ok (.iconst 0, 1) := by decide +kernel
theorem dX10_init_97 : decode cX10_init 97 = .ok (.iastore, 1) := by decide +kernel
theorem dX10_init_98 : decode cX10_init 98 = .ok (.dup, 1) := by decide +kernel
theorem dX10_init_99 : decode cX10_init 99 = .ok (.iconst 1, 1) := by decide +kernel
theorem dX10_init_100 : decode cX10_init 100 = .ok (.iconst 1, 1) := by decide +kernel
theorem dX10_init_101 : decode cX10_init 101 = .ok (.iastore, 1) := by decide +kernel
theorem dX10_init_102 : decode cX10_init 102 = .ok (.dup, 1) := by decide +kernel
theorem dX10_init_103 : decode cX10_init 103 = .ok (.iconst 2, 1) := by decide +kernel
theorem dX10_init_104 : decode cX10_init 104 = .ok (.iconst 0, 1) := by decide +kernel
theorem dX10_init_105 : decode cX10_init 105 = .ok (.iastore, 1) := by decide +kernel
theorem dX10_init_106 : decode cX10_init 106 = .ok (.dup, 1) := by decide +kernel
theorem dX10_init_107 : decode cX10_init 107 = .ok (.iconst 3, 1) := by decide +kernel
theorem dX10_init_108 : decode cX10_init 108 = .ok (.bipush 100, 2) := by decide +kernel
theorem dX10_init_110 : decode cX10_init 110 = .ok (.iastore, 1) := by decide +kernel
theorem dX10_init_111 : decode cX10_init 111 = .ok (.dup, 1) := by decide +kernel
theorem dX10_init_112 : decode cX10_init 112 = .ok (.iconst 4, 1) := by decide +kernel
theorem dX10_init_113 : decode cX10_init 113 = .ok (.iconst 1, 1) := by decide +kernel
theorem dX10_init_114 : decode cX10_init 114 = .ok (.iastore, 1) := by decide +kernel
theorem dX10_init_115 : decode cX10_init 115 = .ok (.dup, 1) := by decide +kernel
theorem dX10_init_116 : decode cX10_init 116 = .ok (.iconst 5, 1) := by decide +kernel
theorem dX10_init_117 : decode cX10_init 117 = .ok (.iconst 1, 1) := by decide +kernel
theorem dX10_init_118 : decode cX10_init 118 = .ok (.iastore, 1) := by decide +kernel
theorem dX10_init_119 : decode cX10_init 119 = .ok (.putfield 19, 3) := by decide +kernel
theorem dX10_init_122 : decode cX10_init 122 = .ok (.aload_n 0, 1) := by decide +kernel
theorem dX10_init_123 : decode cX10_init 123 = .ok (.bipush 6, 2) := by decide +kernel
theorem dX10_init_125 : decode cX10_init 125 = .ok (.newarray .int, 2) := by decide +kernel
theorem dX10_init_127 : decode cX10_init 127 = .ok (.dup, 1) := by decide +kernel
theorem dX10_init_128 : decode cX10_init 128 = .ok (.iconst 0, 1) := by decide +kernel
theorem dX10_init_129 : decode cX10_init 129 = .ok (.bipush 50, 2) := by decide +kernel
theorem dX10_init_131 : decode cX10_init 131 = .ok (.iastore, 1) := by decide +kernel
theorem dX10_init_132 : decode cX10_init 132 = .ok (.dup, 1) := by decide +kernel
theorem dX10_init_133 : decode cX10_init 133 = .ok (.iconst 1, 1) := by decide +kernel
theorem dX10_init_134 : decode cX10_init 134 = .ok (.bipush 100, 2) := by decide +kernel
theorem dX10_init_136 : decode cX10_init 136 = .ok (.iastore, 1) := by decide +kernel
theorem dX10_init_137 : decode cX10_init 137 = .ok (.dup, 1) := by decide +kernel
theorem dX10_init_138 : decode cX10_init 138 = .ok (.iconst 2, 1) := by decide +kernel
theorem dX10_init_139 : decode cX10_init 139 = .ok (.sipush 300, 3) := by decide +kernel
theorem dX10_init_142 : decode cX10_init 142 = .ok (.iastore, 1) := by decide +kernel
theorem dX10_init_143 : decode cX10_init 143 = .ok (.dup, 1) := by decide +kernel
theorem dX10_init_144 : decode cX10_init 144 = .ok (.iconst 3, 1) := by decide +kernel
theorem dX10_init_145 : decode cX10_init 145 = .ok (.sipush 999, 3) := by decide +kernel
theorem dX10_init_148 : decode cX10_init 148 = .ok (.iastore, 1) := by decide +kernel
theorem dX10_init_149 : decode cX10_init 149 = .ok (.dup, 1) := by decide +kernel
theorem dX10_init_150 : decode cX10_init 150 = .ok (.iconst 4, 1) := by decide +kernel
theorem dX10_init_151 : decode cX10_init 151 = .ok (.bipush 100, 2) := by decide +kernel
theorem dX10_init_153 : decode cX10_init 153 = .ok (.iastore, 1) := by decide +kernel
theorem dX10_init_154 : decode cX10_init 154 = .ok (.dup, 1) := by decide +kernel
theorem dX10_init_155 : decode cX10_init 155 = .ok (.iconst 5, 1) := by decide +kernel
theorem dX10_init_156 : decode cX10_init 156 = .ok (.sipush 9999, 3) := by decide +kernel
theorem dX10_init_159 : decode cX10_init 159 = .ok (.iastore, 1) := by decide +kernel
theorem dX10_init_160 : decode cX10_init 160 = .ok (.putfield 22, 3) := by decide +kernel
theorem dX10_init_163 : decode cX10_init 163 = .ok (.aload_n 0, 1) := by decide +kernel
theorem dX10_init_164 : decode cX10_init 164 = .ok (.bipush 6, 2) := by decide +kernel
theorem dX10_init_166 : decode cX10_init 166 = .ok (.newarray .int, 2) := by decide +kernel
theorem dX10_init_168 : decode cX10_init 168 = .ok (.dup, 1) := by decide +kernel
theorem dX10_init_169 : decode cX10_init 169 = .ok (.iconst 0, 1) := by decide +kernel
theorem dX10_init_170 : decode cX10_init 170 = .ok (.bipush 10, 2) := by decide +kernel
theorem dX10_init_172 : decode cX10_init 172 = .ok (.iastore, 1) := by decide +kernel
theorem dX10_init_173 : decode cX10_init 173 = .ok (.dup, 1) := by decide +kernel
theorem dX10_init_174 : decode cX10_init 174 = .ok (.iconst 1, 1) := by decide +kernel
theorem dX10_init_175 : decode cX10_init 175 = .ok (.bipush 50, 2) := by decide +kernel
theorem dX10_init_177 : decode cX10_init 177 = .ok (.iastore, 1) := by decide +kernel
theorem dX10_init_178 : decode cX10_init 178 = .ok (.dup, 1) := by decide +kernel
theorem dX10_init_179 : decode cX10_init 179 = .ok (.iconst 2, 1) := by decide +kernel
theorem dX10_init_180 : decode cX10_init 180 = .ok (.bipush 25, 2) := by decide +kernel
theorem dX10_init_182 : decode cX10_init 182 = .ok (.iastore, 1) := by decide +kernel
theorem dX10_init_183 : decode cX10_init 183 = .ok (.dup, 1) := by decide +kernel
theorem dX10_init_184 : decode cX10_init 184 = .ok (.iconst 3, 1) := by decide +kernel
theorem dX10_init_185 : decode cX10_init 185 = .ok (.sipush 200, 3) := by decide +kernel
theorem dX10_init_188 : decode cX10_init 188 = .ok (.iastore, 1) := by decide +kernel
theorem dX10_init_189 : decode cX10_init 189 = .ok (.dup, 1) := by decide +kernel
theorem dX10_init_190 : decode cX10_init 190 = .ok (.iconst 4, 1) := by decide +kernel
theorem dX10_init_191 : decode cX10_init 191 = .ok (.bipush 50, 2) := by decide +kernel
theorem dX10_init_193 : decode cX10_init 193 = .ok (.iastore, 1) := by decide +kernel
theorem dX10_init_194 : decode cX10_init 194 = .ok (.dup, 1) := by decide +kernel
theorem dX10_init_195 : decode cX10_init 195 = .ok (.iconst 5, 1) := by decide +kernel
theorem dX10_init_196 : decode cX10_init 196 = .ok (.iconst 1, 1) := by decide +kernel
theorem dX10_init_197 : decode cX10_init 197 = .ok (.iastore, 1) := by decide +kernel
theorem dX10_init_198 : decode cX10_init 198 = .ok (.putfield 25, 3) := by decide +kernel
theorem dX10_init_201 : decode cX10_init 201 = .ok (.aload_n 0, 1) := by decide +kernel
theorem dX10_init_202 : decode cX10_init 202 = .ok (.bipush 10, 2) := by decide +kernel
theorem dX10_init_204 : decode cX10_init 204 = .ok (.newarray .int, 2) := by decide +kernel
theorem dX10_init_206 : decode cX10_init 206 = .ok (.putfield 28, 3) := by decide +kernel
theorem dX10_init_209 : decode cX10_init 209 = .ok (.aload_n 0, 1) := by decide +kernel
theorem dX10_init_210 : decode cX10_init 210 = .ok (.bipush 10, 2) := by decide +kernel
theorem dX10_init_212 : decode cX10_init 212 = .ok (.newarray .int, 2) := by decide +kernel
theorem dX10_init_214 : decode cX10_init 214 = .ok (.putfield 31, 3) := by decide +kernel
theorem dX10_init_217 : decode cX10_init 217 = .ok (.aload_n 0, 1) := by decide +kernel
theorem dX10_init_218 : decode cX10_init 218 = .ok (.bipush 10, 2) := by decide +kernel
theorem dX10_init_220 : decode cX10_init 220 = .ok (.newarray .int, 2) := by decide +kernel
theorem dX10_init_222 : decode cX10_init 222 = .ok (.putfield 34, 3) := by decide +kernel
theorem dX10_init_225 : decode cX10_init 225 = .ok (.aload_n 0, 1) := by decide +kernel
theorem dX10_init_226 : decode cX10_init 226 = .ok (.sipush 500, 3) := by decide +kernel
theorem dX10_init_229 : decode cX10_init 229 = .ok (.newarray .int, 2) := by decide +kernel
theorem dX10_init_231 : decode cX10_init 231 = .ok (.putfield 37, 3) := by decide +kernel
theorem dX10_init_234 : decode cX10_init 234 = .ok (.aload_n 0, 1) := by decide +kernel
theorem dX10_init_235 : decode cX10_init 235 = .ok (.bipush 10, 2) := by decide +kernel
theorem dX10_init_237 : decode cX10_init 237 = .ok (.newarray .int, 2) := by decide +kernel
theorem dX10_init_239 : decode cX10_init 239 = .ok (.putfield 40, 3) := by decide +kernel
theorem dX10_init_242 : decode cX10_init 242 = .ok (.aload_n 0, 1) := by decide +kernel
theorem dX10_init_243 : decode cX10_init 243 = .ok (.bipush 28, 2) := by decide +kernel
theorem dX10_init_245 : decode cX10_init 245 = .ok (.newarray .int, 2) := by decide +kernel
theorem dX10_init_247 : decode cX10_init 247 = .ok (.putfield 43, 3) := by decide +kernel
theorem dX10_init_250 : decode cX10_init 250 = .ok (.aload_n 0, 1) := by decide +kernel
theorem dX10_init_251 : decode cX10_init 251 = .ok (.bipush 24, 2) := by decide +kernel
theorem dX10_init_253 : decode cX10_init 253 = .ok (.newarray .int, 2) := by decide +kernel
theorem dX10_init_255 : decode cX10_init 255 = .ok (.putfield 46, 3) := by decide +kernel
theorem dX10_init_258 : decode cX10_init 258 = .ok (.aload_n 0, 1) := by decide +kernel
theorem dX10_init_259 : decode cX10_init 259 = .ok (.iconst 4, 1) := by decide +kernel
theorem dX10_init_260 : decode cX10_init 260 = .ok (.newarray .int, 2) := by decide +kernel
theorem dX10_init_262 : decode cX10_init 262 = .ok (.putfield 49, 3) := by decide +kernel
theorem dX10_init_265 : decode cX10_init 265 = .ok (.aload_n 0, 1) := by decide +kernel
theorem dX10_init_266 : decode cX10_init 266 = .ok (.iconst 4, 1) := by decide +kernel
theorem dX10_init_267 : decode cX10_init 267 = .ok (.newarray .int, 2) := by decide +kernel
theorem dX10_init_269 : decode cX10_init 269 = .ok (.putfield 52, 3) := by decide +kernel
theorem dX10_init_272 : decode cX10_init 272 = .ok (.aload_n 0, 1) := by decide +kernel
theorem dX10_init_273 : decode cX10_init 273 = .ok (.bipush 96, 2) := by decide +kernel
theorem dX10_init_275 : decode cX10_init 275 = .ok (.newarray .int, 2) := by decide +kernel
theorem dX10_init_277 : decode cX10_init 277 = .ok (.putfield 55, 3) := by decide +kernel
theorem dX10_init_280 : decode cX10_init 280 = .ok (.aload_n 0, 1) := by decide +kernel
theorem dX10_init_281 : decode cX10_init 281 = .ok (.sipush 280, 3) := by decide +kernel
theorem dX10_init_284 : decode cX10_init 284 = .ok (.newarray .int, 2) := by decide +kernel
theorem dX10_init_286 : decode cX10_init 286 = .ok (.putfield 58, 3) := by decide +kernel
theorem dX10_init_289 : decode cX10_init 289 = .ok (.aload_n 0, 1) := by decide +kernel
theorem dX10_init_290 : decode cX10_init 290 = .ok (.sipush 280, 3) := by decide +kernel
theorem dX10_init_293 : decode cX10_init 293 = .ok (.newarray .int, 2) := by decide +kernel
theorem dX10_init_295 : decode cX10_init 295 = .ok (.putfield 61, 3) := by decide +kernel
theorem dX10_init_298 : decode cX10_init 298 = .ok (.aload_n 0, 1) := by decide +kernel
theorem dX10_init_299 : decode cX10_init 299 = .ok (.sipush 14000, 3) := by decide +kernel
theorem dX10_init_302 : decode cX10_init 302 = .ok (.newarray .int, 2) := by decide +kernel
theorem dX10_init_304 : decode cX10_init 304 = .ok (.putfield 64, 3) := by decide +kernel
theorem dX10_init_307 : decode cX10_init 307 = .ok (.aload_n 0, 1) := by decide +kernel
theorem dX10_init_308 : decode cX10_init 308 = .ok (.bipush 28, 2) := by decide +kernel
theorem dX10_init_310 : decode cX10_init 310 = .ok (.newarray .int, 2) := by decide +kernel
theorem dX10_init_312 : decode cX10_init 312 = .ok (.putfield 67, 3) := by decide +kernel
theorem dX10_init_315 : decode cX10_init 315 = .ok (.aload_n 0, 1) := by decide +kernel
theorem dX10_init_316 : decode cX10_init 316 = .ok (.bipush 28, 2) := by decide +kernel
theorem dX10_init_318 : decode cX10_init 318 = .ok (.newarray .int, 2) := by decide +kernel
theorem dX10_init_320 : decode cX10_init 320 = .ok (.putfield 70, 3) := by decide +kernel
theorem dX10_init_323 : decode cX10_init 323 = .ok (.return_, 1) := by decide +kernel
theorem dX10_thrown_0 : decode cX10_thrown 0 = .ok (.aload_n 0, 1) := by decide +kernel
theorem dX10_thrown_1 : decode cX10_thrown 1 = .ok (.getfield 73, 3) := by decide +kernel
theorem dX10_thrown_4 : decode cX10_thrown 4 = .ok (.ireturn, 1) := by decide +kernel
theorem dX10_refuse_0 : decode cX10_refuse 0 = .ok (.aload_n 0, 1) := by decide +kernel
theorem dX10_refuse_1 : decode cX10_refuse 1 = .ok (.iconst 1, 1) := by decide +kernel
theorem dX10_refuse_2 : decode cX10_refuse 2 = .ok (.putfield 73, 3) := by decide +kernel
theorem dX10_refuse_5 : decode cX10_refuse 5 = .ok (.iconst 0, 1) := by decide +kernel
theorem dX10_refuse_6 : decode cX10_refuse 6 = .ok (.ireturn, 1) := by decide +kernel
theorem dX10_come_0 : decode cX10_come 0 = .ok (.bipush 24, 2) := by decide +kernel
theorem dX10_come_2 : decode cX10_come 2 = .ok (.istore_n 2, 1) := by decide +kernel
theorem dX10_come_3 : decode cX10_come 3 = .ok (.iload_n 2, 1) := by decide +kernel
theorem dX10_come_4 : decode cX10_come 4 = .ok (.ifCond .lt 35, 3) := by decide +kernel
theorem dX10_come_7 : decode cX10_come 7 = .ok (.aload_n 0, 1) := by decide +kernel
theorem dX10_come_8 : decode cX10_come 8 = .ok (.getfield 7, 3) := by decide +kernel
theorem dX10_come_11 : decode cX10_come 11 = .ok (.aload_n 0, 1) := by decide +kernel
theorem dX10_come_12 : decode cX10_come 12 = .ok (.getfield 77, 3) := by decide +kernel
theorem dX10_come_15 : decode cX10_come 15 = .ok (.iload_n 1, 1) := by decide +kernel
theorem dX10_come_16 : decode cX10_come 16 = .ok (.iload_n 2, 1) := by decide +kernel
theorem dX10_come_17 : decode cX10_come 17 = .ok (.iushr, 1) := by decide +kernel
theorem dX10_come_18 : decode cX10_come 18 = .ok (.sipush 255, 3) := by decide +kernel
theorem dX10_come_21 : decode cX10_come 21 = .ok (.iand, 1) := by decide +kernel
theorem dX10_come_22 : decode cX10_come 22 = .ok (.iastore, 1) := by decide +kernel
theorem dX10_come_23 : decode cX10_come 23 = .ok (.aload_n 0, 1) := by decide +kernel
theorem dX10_come_24 : decode cX10_come 24 = .ok (.dup, 1) := by decide +kernel
theorem dX10_come_25 : decode cX10_come 25 = .ok (.getfield 77, 3) := by decide +kernel
theorem dX10_come_28 : decode cX10_come 28 = .ok (.iconst 1, 1) := by decide +kernel
theorem dX10_come_29 : decode cX10_come 29 = .ok (.iadd, 1) := by decide +kernel
theorem dX10_come_30 : decode cX10_come 30 = .ok (.putfield 77, 3) := by decide +kernel
theorem dX10_come_33 : decode cX10_come 33 = .ok (.iinc 2 (-8), 3) := by decide +kernel
theorem dX10_come_36 : decode cX10_come 36 = .ok (.goto (-33), 3) := by decide +kernel
theorem dX10_come_39 : decode cX10_come 39 = .ok (.return_, 1) := by decide +kernel
theorem dX10_feed_0 : decode cX10_feed 0 = .ok (.aload_n 0, 1) := by decide +kernel
theorem dX10_feed_1 : decode cX10_feed 1 = .ok (.iconst 0, 1) := by decide +kernel
theorem dX10_feed_2 : decode cX10_feed 2 = .ok (.putfield 73, 3) := by decide +kernel
theorem dX10_feed_5 : decode cX10_feed 5 = .ok (.aload_n 0, 1) := by decide +kernel
theorem dX10_feed_6 : decode cX10_feed 6 = .ok (.getfield 77, 3) := by decide +kernel
theorem dX10_feed_9 : decode cX10_feed 9 = .ok (.bipush 20, 2) := by decide +kernel
theorem dX10_feed_11 : decode cX10_feed 11 = .ok (.iadd, 1) := by decide +kernel
theorem dX10_feed_12 : decode cX10_feed 12 = .ok (.sipush 140, 3) := by decide +kernel
theorem dX10_feed_15 : decode cX10_feed 15 = .ok (.if_icmp .le 5, 3) := by decide +kernel
theorem dX10_feed_18 : decode cX10_feed 18 = .ok (.iconst (-1), 1) := by decide +kernel
theorem dX10_feed_19 : decode cX10_feed 19 = .ok (.ireturn, 1) := by decide +kernel
theorem dX10_feed_20 : decode cX10_feed 20 = .ok (.aload_n 0, 1) := by decide +kernel
theorem dX10_feed_21 : decode cX10_feed 21 = .ok (.iload_n 1, 1) := by decide +kernel
theorem dX10_feed_22 : decode cX10_feed 22 = .ok (.invokevirtual 80, 3) := by decide +kernel
theorem dX10_feed_25 : decode cX10_feed 25 = .ok (.aload_n 0, 1) := by decide +kernel
theorem dX10_feed_26 : decode cX10_feed 26 = .ok (.iload_n 2, 1) := by decide +kernel
theorem dX10_feed_27 : decode cX10_feed 27 = .ok (.invokevirtual 80, 3) := by decide +kernel
theorem dX10_feed_30 : decode cX10_feed 30 = .ok (.aload_n 0, 1) := by decide +kernel
theorem dX10_feed_31 : decode cX10_feed 31 = .ok (.iload_n 3, 1) := by decide +kernel
theorem dX10_feed_32 : decode cX10_feed 32 = .ok (.invokevirtual 80, 3) := by decide +kernel
theorem dX10_feed_35 : decode cX10_feed 35 = .ok (.aload_n 0, 1) := by decide +kernel
theorem dX10_feed_36 : decode cX10_feed 36 = .ok (.iload 4, 2) := by decide +kernel
theorem dX10_feed_38 : decode cX10_feed 38 = .ok (.invokevirtual 80, 3) := by decide +kernel
theorem dX10_feed_41 : decode cX10_feed 41 = .ok (.aload_n 0, 1) := by decide +kernel
theorem dX10_feed_42 : decode cX10_feed 42 = .ok (.iload 5, 2) := by decide +kernel
theorem dX10_feed_44 : decode cX10_feed 44 = .ok (.invokevirtual 80, 3) := by decide +kernel
theorem dX10_feed_47 : decode cX10_feed 47 = .ok (.aload_n 0, 1) := by decide +kernel
theorem dX10_feed_48 : decode cX10_feed 48 = .ok (.getfield 77, 3) := by decide +kernel
theorem dX10_feed_51 : decode cX10_feed 51 = .ok (.ireturn, 1) := by decide +kernel
theorem dX10_end_0 : decode cX10_end 0 = .ok (.aload_n 0, 1) := by decide +kernel
theorem dX10_end_1 : decode cX10_end 1 = .ok (.iconst 0, 1) := by decide +kernel
theorem dX10_end_2 : decode cX10_end 2 = .ok (.putfield 73, 3) := by decide +kernel
theorem dX10_end_5 : decode cX10_end 5 = .ok (.iload_n 1, 1) := by decide +kernel
theorem dX10_end_6 : decode cX10_end 6 = .ok (.ifCond .lt 11, 3) := by decide +kernel
theorem dX10_end_9 : decode cX10_end 9 = .ok (.iload_n 1, 1) := by decide +kernel
theorem dX10_end_10 : decode cX10_end 10 = .ok (.aload_n 0, 1) := by decide +kernel
theorem dX10_end_11 : decode cX10_end 11 = .ok (.getfield 77, 3) := by decide +kernel
theorem dX10_end_14 : decode cX10_end 14 = .ok (.if_icmp .le 5, 3) := by decide +kernel
theorem dX10_end_17 : decode cX10_end 17 = .ok (.iconst 0, 1) := by decide +kernel
theorem dX10_end_18 : decode cX10_end 18 = .ok (.ireturn, 1) := by decide +kernel
theorem dX10_end_19 : decode cX10_end 19 = .ok (.aload_n 0, 1) := by decide +kernel
theorem dX10_end_20 : decode cX10_end 20 = .ok (.iload_n 1, 1) := by decide +kernel
theorem dX10_end_21 : decode cX10_end 21 = .ok (.putfield 77, 3) := by decide +kernel
theorem dX10_end_24 : decode cX10_end 24 = .ok (.iconst 1, 1) := by decide +kernel
theorem dX10_end_25 : decode cX10_end 25 = .ok (.ireturn, 1) := by decide +kernel
theorem dX10_byteAt_0 : decode cX10_byteAt 0 = .ok (.iload_n 1, 1) := by decide +kernel
theorem dX10_byteAt_1 : decode cX10_byteAt 1 = .ok (.aload_n 0, 1) := by decide +kernel
theorem dX10_byteAt_2 : decode cX10_byteAt 2 = .ok (.getfield 84, 3) := by decide +kernel
theorem dX10_byteAt_5 : decode cX10_byteAt 5 = .ok (.if_icmp .ge 12, 3) := by decide +kernel
theorem dX10_byteAt_8 : decode cX10_byteAt 8 = .ok (.aload_n 0, 1) := by decide +kernel
theorem dX10_byteAt_9 : decode cX10_byteAt 9 = .ok (.getfield 7, 3) := by decide +kernel
theorem dX10_byteAt_12 : decode cX10_byteAt 12 = .ok (.iload_n 1, 1) := by decide +kernel
theorem dX10_byteAt_13 : decode cX10_byteAt 13 = .ok (.iaload, 1) := by decide +kernel
theorem dX10_byteAt_14 : decode cX10_byteAt 14 = .ok (.goto 4, 3) := by decide +kernel
theorem dX10_byteAt_17 : decode cX10_byteAt 17 = .ok (.iconst 0, 1) := by decide +kernel
theorem dX10_byteAt_18 : decode cX10_byteAt 18 = .ok (.ireturn, 1) := by decide +kernel
theorem dX10_isDigit_0 : decode cX10_isDigit 0 = .ok (.iload_n 0, 1) := by decide +kernel
theorem dX10_isDigit_1 : decode cX10_isDigit 1 = .ok (.bipush 48, 2) := by decide +kernel
theorem dX10_isDigit_3 : decode cX10_isDigit 3 = .ok (.if_icmp .lt 13, 3) := by decide +kernel
theorem dX10_isDigit_6 : decode cX10_isDigit 6 = .ok (.iload_n 0, 1) := by decide +kernel
theorem dX10_isDigit_7 : decode cX10_isDigit 7 = .ok (.bipush 57, 2) := by decide +kernel
theorem dX10_isDigit_9 : decode cX10_isDigit 9 = .ok (.if_icmp .gt 7, 3) := by decide +kernel
theorem dX10_isDigit_12 : decode cX10_isDigit 12 = .ok (.iconst 1, 1) := by decide +kernel
theorem dX10_isDigit_13 : decode cX10_isDigit 13 = .ok (.goto 4, 3) := by decide +kernel
theorem dX10_isDigit_16 : decode cX10_isDigit 16 = .ok (.iconst 0, 1) := by decide +kernel
theorem dX10_isDigit_17 : decode cX10_isDigit 17 = .ok (.ireturn, 1) := by decide +kernel
theorem dX10_isLetter_0 : decode cX10_isLetter 0 = .ok (.iload_n 0, 1) := by decide +kernel
theorem dX10_isLetter_1 : decode cX10_isLetter 1 = .ok (.bipush 97, 2) := by decide +kernel
theorem dX10_isLetter_3 : decode cX10_isLetter 3 = .ok (.if_icmp .lt 13, 3) := by decide +kernel
theorem dX10_isLetter_6 : decode cX10_isLetter 6 = .ok (.iload_n 0, 1) := by decide +kernel
theorem dX10_isLetter_7 : decode cX10_isLetter 7 = .ok (.bipush 122, 2) := by decide +kernel
theorem dX10_isLetter_9 : decode cX10_isLetter 9 = .ok (.if_icmp .gt 7, 3) := by decide +kernel
theorem dX10_isLetter_12 : decode cX10_isLetter 12 = .ok (.iconst 1, 1) := by decide +kernel
theorem dX10_isLetter_13 : decode cX10_isLetter 13 = .ok (.goto 4, 3) := by decide +kernel
theorem dX10_isLetter_16 : decode cX10_isLetter 16 = .ok (.iconst 0, 1) := by decide +kernel
theorem dX10_isLetter_17 : decode cX10_isLetter 17 = .ok (.ireturn, 1) := by decide +kernel
theorem dX10_go_0 : decode cX10_go 0 = .ok (.aload_n 0, 1) := by decide +kernel
theorem dX10_go_1 : decode cX10_go 1 = .ok (.getfield 87, 3) := by decide +kernel
theorem dX10_go_4 : decode cX10_go 4 = .ok (.aload_n 0, 1) := by decide +kernel
theorem dX10_go_5 : decode cX10_go 5 = .ok (.getfield 84, 3) := by decide +kernel
theorem dX10_go_8 : decode cX10_go 8 = .ok (.if_icmp .ge 44, 3) := by decide +kernel
theorem dX10_go_11 : decode cX10_go 11 = .ok (.aload_n 0, 1) := by decide +kernel
theorem dX10_go_12 : decode cX10_go 12 = .ok (.getfield 7, 3) := by decide +kernel
theorem dX10_go_15 : decode cX10_go 15 = .ok (.aload_n 0, 1) := by decide +kernel
theorem dX10_go_16 : decode cX10_go 16 = .ok (.getfield 87, 3) := by decide +kernel
theorem dX10_go_19 : decode cX10_go 19 = .ok (.iaload, 1) := by decide +kernel
theorem dX10_go_20 : decode cX10_go 20 = .ok (.bipush 32, 2) := by decide +kernel
theorem dX10_go_22 : decode cX10_go 22 = .ok (.if_icmp .eq 17, 3) := by decide +kernel
theorem dX10_go_25 : decode cX10_go 25 = .ok (.aload_n 0, 1) := by decide +kernel
theorem dX10_go_26 : decode cX10_go 26 = .ok (.getfield 7, 3) := by decide +kernel
theorem dX10_go_29 : decode cX10_go 29 = .ok (.aload_n 0, 1) := by decide +kernel
theorem dX10_go_30 : decode cX10_go 30 = .ok (.getfield 87, 3) := by decide +kernel
theorem dX10_go_33 : decode cX10_go 33 = .ok (.iaload, 1) := by decide +kernel
theorem dX10_go_34 : decode cX10_go 34 = .ok (.bipush 10, 2) := by decide +kernel
theorem dX10_go_36 : decode cX10_go 36 = .ok (.if_icmp .ne 16, 3) := by decide +kernel
theorem dX10_go_39 : decode cX10_go 39 = .ok (.aload_n 0, 1) := by decide +kernel
theorem dX10_go_40 : decode cX10_go 40 = .ok (.dup, 1) := by decide +kernel
theorem dX10_go_41 : decode cX10_go 41 = .ok (.getfield 87, 3) := by decide +kernel
theorem dX10_go_44 : decode cX10_go 44 = .ok (.iconst 1, 1) := by decide +kernel
theorem dX10_go_45 : decode cX10_go 45 = .ok (.iadd, 1) := by decide +kernel
theorem dX10_go_46 : decode cX10_go 46 = .ok (.putfield 87, 3) := by decide +kernel
theorem dX10_go_49 : decode cX10_go 49 = .ok (.goto (-49), 3) := by decide +kernel
theorem dX10_go_52 : decode cX10_go 52 = .ok (.aload_n 0, 1) := by decide +kernel
theorem dX10_go_53 : decode cX10_go 53 = .ok (.aload_n 0, 1) := by decide +kernel
theorem dX10_go_54 : decode cX10_go 54 = .ok (.getfield 87, 3) := by decide +kernel
theorem dX10_go_57 : decode cX10_go 57 = .ok (.putfield 90, 3) := by decide +kernel
theorem dX10_go_60 : decode cX10_go 60 = .ok (.aload_n 0, 1) := by decide +kernel
theorem dX10_go_61 : decode cX10_go 61 = .ok (.getfield 84, 3) := by decide +kernel
theorem dX10_go_64 : decode cX10_go 64 = .ok (.bipush 120, 2) := by decide +kernel
theorem dX10_go_66 : decode cX10_go 66 = .ok (.if_icmp .le 24, 3) := by decide +kernel
theorem dX10_go_69 : decode cX10_go 69 = .ok (.aload_n 0, 1) := by decide +kernel
theorem dX10_go_70 : decode cX10_go 70 = .ok (.getfield 90, 3) := by decide +kernel
theorem dX10_go_73 : decode cX10_go 73 = .ok (.bipush 120, 2) := by decide +kernel
theorem dX10_go_75 : decode cX10_go 75 = .ok (.if_icmp .lt 15, 3) := by decide +kernel
theorem dX10_go_78 : decode cX10_go 78 = .ok (.aload_n 0, 1) := by decide +kernel
theorem dX10_go_79 : decode cX10_go 79 = .ok (.bipush 120, 2) := by decide +kernel
theorem dX10_go_81 : decode cX10_go 81 = .ok (.putfield 90, 3) := by decide +kernel
theorem dX10_go_84 : decode cX10_go 84 = .ok (.aload_n 0, 1) := by decide +kernel
theorem dX10_go_85 : decode cX10_go 85 = .ok (.iconst 1, 1) := by decide +kernel
theorem dX10_go_86 : decode cX10_go 86 = .ok (.putfield 93, 3) := by decide +kernel
theorem dX10_go_89 : decode cX10_go 89 = .ok (.return_, 1) := by decide +kernel
theorem dX10_go_90 : decode cX10_go 90 = .ok (.aload_n 0, 1) := by decide +kernel
theorem dX10_go_91 : decode cX10_go 91 = .ok (.getfield 87, 3) := by decide +kernel
theorem dX10_go_94 : decode cX10_go 94 = .ok (.aload_n 0, 1) := by decide +kernel
theorem dX10_go_95 : decode cX10_go 95 = .ok (.getfield 84, 3) := by decide +kernel
theorem dX10_go_98 : decode cX10_go 98 = .ok (.if_icmp .lt 9, 3) := by decide +kernel
theorem dX10_go_101 : decode cX10_go 101 = .ok (.aload_n 0, 1) := by decide +kernel
theorem dX10_go_102 : decode cX10_go 102 = .ok (.iconst 0, 1) := by decide +kernel
theorem dX10_go_103 : decode cX10_go 103 = .ok (.putfield 93, 3) := by decide +kernel
theorem dX10_go_106 : decode cX10_go 106 = .ok (.return_, 1) := by decide +kernel
theorem dX10_go_107 : decode cX10_go 107 = .ok (.aload_n 0, 1) := by decide +kernel
theorem dX10_go_108 : decode cX10_go 108 = .ok (.getfield 7, 3) := by decide +kernel
theorem dX10_go_111 : decode cX10_go 111 = .ok (.aload_n 0, 1) := by decide +kernel
theorem dX10_go_112 : decode cX10_go 112 = .ok (.getfield 87, 3) := by decide +kernel
theorem dX10_go_115 : decode cX10_go 115 = .ok (.iaload, 1) := by decide +kernel
theorem dX10_go_116 : decode cX10_go 116 = .ok (.istore_n 1, 1) := by decide +kernel
theorem dX10_go_117 : decode cX10_go 117 = .ok (.iload_n 1, 1) := by decide +kernel
theorem dX10_go_118 : decode cX10_go 118 = .ok (.invokestatic 96, 3) := by decide +kernel
theorem dX10_go_121 : decode cX10_go 121 = .ok (.ifCond .ne 36, 3) := by decide +kernel
theorem dX10_go_124 : decode cX10_go 124 = .ok (.iload_n 1, 1) := by decide +kernel
theorem dX10_go_125 : decode cX10_go 125 = .ok (.invokestatic 100, 3) := by decide +kernel
theorem dX10_go_128 : decode cX10_go 128 = .ok (.ifCond .ne 29, 3) := by decide +kernel
theorem dX10_go_131 : decode cX10_go 131 = .ok (.aload_n 0, 1) := by decide +kernel
theorem dX10_go_132 : decode cX10_go 132 = .ok (.iload_n 1, 1) := by decide +kernel
theorem dX10_go_133 : decode cX10_go 133 = .ok (.bipush 59, 2) := by decide +kernel
theorem dX10_go_135 : decode cX10_go 135 = .ok (.if_icmp .ne 7, 3) := by decide +kernel
theorem dX10_go_138 : decode cX10_go 138 = .ok (.iconst 4, 1) := by decide +kernel
theorem dX10_go_139 : decode cX10_go 139 = .ok (.goto 4, 3) := by decide +kernel
theorem dX10_go_142 : decode cX10_go 142 = .ok (.iconst 1, 1) := by decide +kernel
theorem dX10_go_143 : decode cX10_go 143 = .ok (.putfield 93, 3) := by decide +kernel
theorem dX10_go_146 : decode cX10_go 146 = .ok (.aload_n 0, 1) := by decide +kernel
theorem dX10_go_147 : decode cX10_go 147 = .ok (.dup, 1) := by decide +kernel
theorem dX10_go_148 : decode cX10_go 148 = .ok (.getfield 87, 3) := by decide +kernel
theorem dX10_go_151 : decode cX10_go 151 = .ok (.iconst 1, 1) := by decide +kernel
theorem dX10_go_152 : decode cX10_go 152 = .ok (.iadd, 1) := by decide +kernel
theorem dX10_go_153 : decode cX10_go 153 = .ok (.putfield 87, 3) := by decide +kernel
theorem dX10_go_156 : decode cX10_go 156 = .ok (.return_, 1) := by decide +kernel
theorem dX10_go_157 : decode cX10_go 157 = .ok (.iload_n 1, 1) := by decide +kernel
theorem dX10_go_158 : decode cX10_go 158 = .ok (.invokestatic 96, 3) := by decide +kernel
theorem dX10_go_161 : decode cX10_go 161 = .ok (.istore_n 2, 1) := by decide +kernel
theorem dX10_go_162 : decode cX10_go 162 = .ok (.iconst 1, 1) := by decide +kernel
theorem dX10_go_163 : decode cX10_go 163 = .ok (.istore_n 3, 1) := by decide +kernel
theorem dX10_go_164 : decode cX10_go 164 = .ok (.aload_n 0, 1) := by decide +kernel
theorem dX10_go_165 : decode cX10_go 165 = .ok (.lconst 0, 1) := by decide +kernel
theorem dX10_go_166 : decode cX10_go 166 = .ok (.putfield 103, 3) := by decide +kernel
theorem dX10_go_169 : decode cX10_go 169 = .ok (.aload_n 0, 1) := by decide +kernel
theorem dX10_go_170 : decode cX10_go 170 = .ok (.iconst 0, 1) := by decide +kernel
theorem dX10_go_171 : decode cX10_go 171 = .ok (.putfield 107, 3) := by decide +kernel
theorem dX10_go_174 : decode cX10_go 174 = .ok (.aload_n 0, 1) := by decide +kernel
theorem dX10_go_175 : decode cX10_go 175 = .ok (.aload_n 0, 1) := by decide +kernel
theorem dX10_go_176 : decode cX10_go 176 = .ok (.getfield 87, 3) := by decide +kernel
theorem dX10_go_179 : decode cX10_go 179 = .ok (.invokevirtual 110, 3) := by decide +kernel
theorem dX10_go_182 : decode cX10_go 182 = .ok (.invokestatic 96, 3) := by decide +kernel
theorem dX10_go_185 : decode cX10_go 185 = .ok (.ifCond .ne 17, 3) := by decide +kernel
theorem dX10_go_188 : decode cX10_go 188 = .ok (.aload_n 0, 1) := by decide +kernel
theorem dX10_go_189 : decode cX10_go 189 = .ok (.aload_n 0, 1) := by decide +kernel
theorem dX10_go_190 : decode cX10_go 190 = .ok (.getfield 87, 3) := by decide +kernel
theorem dX10_go_193 : decode cX10_go 193 = .ok (.invokevirtual 110, 3) := by decide +kernel
theorem dX10_go_196 : decode cX10_go 196 = .ok (.invokestatic 100, 3) := by decide +kernel
theorem dX10_go_199 : decode cX10_go 199 = .ok (.ifCond .eq 116, 3) := by decide +kernel
theorem dX10_go_202 : decode cX10_go 202 = .ok (.aload_n 0, 1) := by decide +kernel
theorem dX10_go_203 : decode cX10_go 203 = .ok (.getfield 7, 3) := by decide +kernel
theorem dX10_go_206 : decode cX10_go 206 = .ok (.aload_n 0, 1) := by decide +kernel
theorem dX10_go_207 : decode cX10_go 207 = .ok (.getfield 87, 3) := by decide +kernel
theorem dX10_go_210 : decode cX10_go 210 = .ok (.iaload, 1) := by decide +kernel
theorem dX10_go_211 : decode cX10_go 211 = .ok (.istore 4, 2) := by decide +kernel
theorem dX10_go_213 : decode cX10_go 213 = .ok (.iload_n 3, 1) := by decide +kernel
theorem dX10_go_214 : decode cX10_go 214 = .ok (.ifCond .eq 16, 3) := by decide +kernel
theorem dX10_go_217 : decode cX10_go 217 = .ok (.iload 4, 2) := by decide +kernel
theorem dX10_go_219 : decode cX10_go 219 = .ok (.invokestatic 96, 3) := by decide +kernel
theorem dX10_go_222 : decode cX10_go 222 = .ok (.iload_n 2, 1) := by decide +kernel
theorem dX10_go_223 : decode cX10_go 223 = .ok (.if_icmp .ne 7, 3) := by decide +kernel
theorem dX10_go_226 : decode cX10_go 226 = .ok (.iconst 1, 1) := by decide +kernel
theorem dX10_go_227 : decode cX10_go 227 = .ok (.goto 4, 3) := by decide +kernel
theorem dX10_go_230 : decode cX10_go 230 = .ok (.iconst 0, 1) := by decide +kernel
theorem dX10_go_231 : decode cX10_go 231 = .ok (.istore_n 3, 1) := by decide +kernel
theorem dX10_go_232 : decode cX10_go 232 = .ok (.aload_n 0, 1) := by decide +kernel
theorem dX10_go_233 : decode cX10_go 233 = .ok (.aload_n 0, 1) := by decide +kernel
theorem dX10_go_234 : decode cX10_go 234 = .ok (.getfield 87, 3) := by decide +kernel
theorem dX10_go_237 : decode cX10_go 237 = .ok (.aload_n 0, 1) := by decide +kernel
theorem dX10_go_238 : decode cX10_go 238 = .ok (.getfield 90, 3) := by decide +kernel
theorem dX10_go_241 : decode cX10_go 241 = .ok (.isub, 1) := by decide +kernel
theorem dX10_go_242 : decode cX10_go 242 = .ok (.bipush 8, 2) := by decide +kernel
theorem dX10_go_244 : decode cX10_go 244 = .ok (.if_icmp .ge 22, 3) := by decide +kernel
theorem dX10_go_247 : decode cX10_go 247 = .ok (.ldc2_w 114, 3) := by decide +kernel
theorem dX10_go_250 : decode cX10_go 250 = .ok (.aload_n 0, 1) := by decide +kernel
theorem dX10_go_251 : decode cX10_go 251 = .ok (.getfield 103, 3) := by decide +kernel
theorem dX10_go_254 : decode cX10_go 254 = .ok (.lmul, 1) := by decide +kernel
theorem dX10_go_255 : decode cX10_go 255 = .ok (.iload 4, 2) := by decide +kernel
theorem dX10_go_257 : decode cX10_go 257 = .ok (.i2l, 1) := by decide +kernel
theorem dX10_go_258 : decode cX10_go 258 = .ok (.ladd, 1) := by decide +kernel
theorem dX10_go_259 : decode cX10_go 259 = .ok (.ldc2_w 116, 3) := by decide +kernel
theorem dX10_go_262 : decode cX10_go 262 = .ok (.lsub, 1) := by decide +kernel
theorem dX10_go_263 : decode cX10_go 263 = .ok (.goto 6, 3) := by decide +kernel
theorem dX10_go_266 : decode cX10_go 266 = .ok (.ldc2_w 118, 3) := by decide +kernel
theorem dX10_go_269 : decode cX10_go 269 = .ok (.putfield 103, 3) := by decide +kernel
theorem dX10_go_272 : decode cX10_go 272 = .ok (.aload_n 0, 1) := by decide +kernel
theorem dX10_go_273 : decode cX10_go 273 = .ok (.getfield 87, 3) := by decide +kernel
theorem dX10_go_276 : decode cX10_go 276 = .ok (.aload_n 0, 1) := by decide +kernel
theorem dX10_go_277 : decode cX10_go 277 = .ok (.getfield 90, 3) := by decide +kernel
theorem dX10_go_280 : decode cX10_go 280 = .ok (.isub, 1) := by decide +kernel
