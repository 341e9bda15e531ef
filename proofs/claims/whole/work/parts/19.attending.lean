/-! 19.attending: written by wip/whole/gen/all.py -/
theorem dX1_init_0 : decode cX1_init 0 = .ok (.aload_n 0, 1) := by decide +kernel
theorem dX1_init_1 : decode cX1_init 1 = .ok (.invokespecial 3, 3) := by decide +kernel
theorem dX1_init_4 : decode cX1_init 4 = .ok (.aload_n 0, 1) := by decide +kernel
theorem dX1_init_5 : decode cX1_init 5 = .ok (.new 9, 3) := by decide +kernel
theorem dX1_init_8 : decode cX1_init 8 = .ok (.dup, 1) := by decide +kernel
theorem dX1_init_9 : decode cX1_init 9 = .ok (.bipush 12, 2) := by decide +kernel
theorem dX1_init_11 : decode cX1_init 11 = .ok (.iconst 1, 1) := by decide +kernel
theorem dX1_init_12 : decode cX1_init 12 = .ok (.invokespecial 11, 3) := by decide +kernel
theorem dX1_init_15 : decode cX1_init 15 = .ok (.putfield 14, 3) := by decide +kernel
theorem dX1_init_18 : decode cX1_init 18 = .ok (.aload_n 0, 1) := by decide +kernel
theorem dX1_init_19 : decode cX1_init 19 = .ok (.aload_n 1, 1) := by decide +kernel
theorem dX1_init_20 : decode cX1_init 20 = .ok (.putfield 20, 3) := by decide +kernel
theorem dX1_init_23 : decode cX1_init 23 = .ok (.return_, 1) := by decide +kernel
theorem dX1_stolenWith_0 : decode cX1_stolenWith 0 = .ok (.aload_n 0, 1) := by decide +kernel
theorem dX1_stolenWith_1 : decode cX1_stolenWith 1 = .ok (.getfield 20, 3) := by decide +kernel
theorem dX1_stolenWith_4 : decode cX1_stolenWith 4 = .ok (.aload_n 1, 1) := by decide +kernel
theorem dX1_stolenWith_5 : decode cX1_stolenWith 5 = .ok (.invokevirtual 24, 3) := by decide +kernel
theorem dX1_stolenWith_8 : decode cX1_stolenWith 8 = .ok (.astore_n 3, 1) := by decide +kernel
theorem dX1_stolenWith_9 : decode cX1_stolenWith 9 = .ok (.aload_n 3, 1) := by decide +kernel
theorem dX1_stolenWith_10 : decode cX1_stolenWith 10 = .ok (.iload_n 2, 1) := by decide +kernel
theorem dX1_stolenWith_11 : decode cX1_stolenWith 11 = .ok (.invokevirtual 30, 3) := by decide +kernel
theorem dX1_stolenWith_14 : decode cX1_stolenWith 14 = .ok (.aload_n 0, 1) := by decide +kernel
theorem dX1_stolenWith_15 : decode cX1_stolenWith 15 = .ok (.getfield 20, 3) := by decide +kernel
theorem dX1_stolenWith_18 : decode cX1_stolenWith 18 = .ok (.aload_n 3, 1) := by decide +kernel
theorem dX1_stolenWith_19 : decode cX1_stolenWith 19 = .ok (.invokevirtual 36, 3) := by decide +kernel
theorem dX1_stolenWith_22 : decode cX1_stolenWith 22 = .ok (.aload_n 0, 1) := by decide +kernel
theorem dX1_stolenWith_23 : decode cX1_stolenWith 23 = .ok (.getfield 20, 3) := by decide +kernel
theorem dX1_stolenWith_26 : decode cX1_stolenWith 26 = .ok (.aload_n 0, 1) := by decide +kernel
theorem dX1_stolenWith_27 : decode cX1_stolenWith 27 = .ok (.getfield 20, 3) := by decide +kernel
theorem dX1_stolenWith_30 : decode cX1_stolenWith 30 = .ok (.getfield 40, 3) := by decide +kernel
theorem dX1_stolenWith_33 : decode cX1_stolenWith 33 = .ok (.getfield 44, 3) := by decide +kernel
theorem dX1_stolenWith_36 : decode cX1_stolenWith 36 = .ok (.getfield 49, 3) := by decide +kernel
theorem dX1_stolenWith_39 : decode cX1_stolenWith 39 = .ok (.invokevirtual 53, 3) := by decide +kernel
theorem dX1_stolenWith_42 : decode cX1_stolenWith 42 = .ok (.ireturn, 1) := by decide +kernel
theorem dX1_findSavings_0 : decode cX1_findSavings 0 = .ok (.aload_n 0, 1) := by decide +kernel
theorem dX1_findSavings_1 : decode cX1_findSavings 1 = .ok (.getfield 20, 3) := by decide +kernel
theorem dX1_findSavings_4 : decode cX1_findSavings 4 = .ok (.aload_n 1, 1) := by decide +kernel
theorem dX1_findSavings_5 : decode cX1_findSavings 5 = .ok (.invokevirtual 24, 3) := by decide +kernel
theorem dX1_findSavings_8 : decode cX1_findSavings 8 = .ok (.astore_n 2, 1) := by decide +kernel
theorem dX1_findSavings_9 : decode cX1_findSavings 9 = .ok (.aload_n 2, 1) := by decide +kernel
theorem dX1_findSavings_10 : decode cX1_findSavings 10 = .ok (.iconst (-1), 1) := by decide +kernel
theorem dX1_findSavings_11 : decode cX1_findSavings 11 = .ok (.invokevirtual 30, 3) := by decide +kernel
theorem dX1_findSavings_14 : decode cX1_findSavings 14 = .ok (.iconst 0, 1) := by decide +kernel
theorem dX1_findSavings_15 : decode cX1_findSavings 15 = .ok (.istore_n 3, 1) := by decide +kernel
theorem dX1_findSavings_16 : decode cX1_findSavings 16 = .ok (.iload_n 3, 1) := by decide +kernel
theorem dX1_findSavings_17 : decode cX1_findSavings 17 = .ok (.aload_n 0, 1) := by decide +kernel
theorem dX1_findSavings_18 : decode cX1_findSavings 18 = .ok (.getfield 20, 3) := by decide +kernel
theorem dX1_findSavings_21 : decode cX1_findSavings 21 = .ok (.getfield 40, 3) := by decide +kernel
theorem dX1_findSavings_24 : decode cX1_findSavings 24 = .ok (.getfield 44, 3) := by decide +kernel
theorem dX1_findSavings_27 : decode cX1_findSavings 27 = .ok (.getfield 49, 3) := by decide +kernel
theorem dX1_findSavings_30 : decode cX1_findSavings 30 = .ok (.if_icmp .ge 37, 3) := by decide +kernel
theorem dX1_findSavings_33 : decode cX1_findSavings 33 = .ok (.aload_n 0, 1) := by decide +kernel
theorem dX1_findSavings_34 : decode cX1_findSavings 34 = .ok (.getfield 14, 3) := by decide +kernel
theorem dX1_findSavings_37 : decode cX1_findSavings 37 = .ok (.iload_n 3, 1) := by decide +kernel
theorem dX1_findSavings_38 : decode cX1_findSavings 38 = .ok (.iconst 0, 1) := by decide +kernel
theorem dX1_findSavings_39 : decode cX1_findSavings 39 = .ok (.aload_n 0, 1) := by decide +kernel
theorem dX1_findSavings_40 : decode cX1_findSavings 40 = .ok (.getfield 20, 3) := by decide +kernel
theorem dX1_findSavings_43 : decode cX1_findSavings 43 = .ok (.aload_n 1, 1) := by decide +kernel
theorem dX1_findSavings_44 : decode cX1_findSavings 44 = .ok (.iload_n 3, 1) := by decide +kernel
theorem dX1_findSavings_45 : decode cX1_findSavings 45 = .ok (.invokevirtual 71, 3) := by decide +kernel
theorem dX1_findSavings_48 : decode cX1_findSavings 48 = .ok (.aload_n 0, 1) := by decide +kernel
theorem dX1_findSavings_49 : decode cX1_findSavings 49 = .ok (.getfield 20, 3) := by decide +kernel
theorem dX1_findSavings_52 : decode cX1_findSavings 52 = .ok (.aload_n 2, 1) := by decide +kernel
theorem dX1_findSavings_53 : decode cX1_findSavings 53 = .ok (.iload_n 3, 1) := by decide +kernel
theorem dX1_findSavings_54 : decode cX1_findSavings 54 = .ok (.invokevirtual 71, 3) := by decide +kernel
theorem dX1_findSavings_57 : decode cX1_findSavings 57 = .ok (.isub, 1) := by decide +kernel
theorem dX1_findSavings_58 : decode cX1_findSavings 58 = .ok (.invokevirtual 74, 3) := by decide +kernel
theorem dX1_findSavings_61 : decode cX1_findSavings 61 = .ok (.iinc 3 1, 3) := by decide +kernel
theorem dX1_findSavings_64 : decode cX1_findSavings 64 = .ok (.goto (-48), 3) := by decide +kernel
theorem dX1_findSavings_67 : decode cX1_findSavings 67 = .ok (.return_, 1) := by decide +kernel
theorem dX1_bestOne_0 : decode cX1_bestOne 0 = .ok (.aload_n 0, 1) := by decide +kernel
theorem dX1_bestOne_1 : decode cX1_bestOne 1 = .ok (.aload_n 1, 1) := by decide +kernel
theorem dX1_bestOne_2 : decode cX1_bestOne 2 = .ok (.invokevirtual 57, 3) := by decide +kernel
theorem dX1_bestOne_5 : decode cX1_bestOne 5 = .ok (.iconst 0, 1) := by decide +kernel
theorem dX1_bestOne_6 : decode cX1_bestOne 6 = .ok (.istore_n 2, 1) := by decide +kernel
theorem dX1_bestOne_7 : decode cX1_bestOne 7 = .ok (.iconst 1, 1) := by decide +kernel
theorem dX1_bestOne_8 : decode cX1_bestOne 8 = .ok (.istore_n 3, 1) := by decide +kernel
theorem dX1_bestOne_9 : decode cX1_bestOne 9 = .ok (.iload_n 3, 1) := by decide +kernel
theorem dX1_bestOne_10 : decode cX1_bestOne 10 = .ok (.aload_n 0, 1) := by decide +kernel
theorem dX1_bestOne_11 : decode cX1_bestOne 11 = .ok (.getfield 20, 3) := by decide +kernel
theorem dX1_bestOne_14 : decode cX1_bestOne 14 = .ok (.getfield 40, 3) := by decide +kernel
theorem dX1_bestOne_17 : decode cX1_bestOne 17 = .ok (.getfield 44, 3) := by decide +kernel
theorem dX1_bestOne_20 : decode cX1_bestOne 20 = .ok (.getfield 49, 3) := by decide +kernel
theorem dX1_bestOne_23 : decode cX1_bestOne 23 = .ok (.if_icmp .ge 32, 3) := by decide +kernel
theorem dX1_bestOne_26 : decode cX1_bestOne 26 = .ok (.aload_n 0, 1) := by decide +kernel
theorem dX1_bestOne_27 : decode cX1_bestOne 27 = .ok (.getfield 14, 3) := by decide +kernel
theorem dX1_bestOne_30 : decode cX1_bestOne 30 = .ok (.iload_n 3, 1) := by decide +kernel
theorem dX1_bestOne_31 : decode cX1_bestOne 31 = .ok (.iconst 0, 1) := by decide +kernel
theorem dX1_bestOne_32 : decode cX1_bestOne 32 = .ok (.invokevirtual 60, 3) := by decide +kernel
theorem dX1_bestOne_35 : decode cX1_bestOne 35 = .ok (.aload_n 0, 1) := by decide +kernel
theorem dX1_bestOne_36 : decode cX1_bestOne 36 = .ok (.getfield 14, 3) := by decide +kernel
theorem dX1_bestOne_39 : decode cX1_bestOne 39 = .ok (.iload_n 2, 1) := by decide +kernel
theorem dX1_bestOne_40 : decode cX1_bestOne 40 = .ok (.iconst 0, 1) := by decide +kernel
theorem dX1_bestOne_41 : decode cX1_bestOne 41 = .ok (.invokevirtual 60, 3) := by decide +kernel
theorem dX1_bestOne_44 : decode cX1_bestOne 44 = .ok (.if_icmp .le 5, 3) := by decide +kernel
theorem dX1_bestOne_47 : decode cX1_bestOne 47 = .ok (.iload_n 3, 1) := by decide +kernel
theorem dX1_bestOne_48 : decode cX1_bestOne 48 = .ok (.istore_n 2, 1) := by decide +kernel
theorem dX1_bestOne_49 : decode cX1_bestOne 49 = .ok (.iinc 3 1, 3) := by decide +kernel
theorem dX1_bestOne_52 : decode cX1_bestOne 52 = .ok (.goto (-43), 3) := by decide +kernel
theorem dX1_bestOne_55 : decode cX1_bestOne 55 = .ok (.iload_n 2, 1) := by decide +kernel
theorem dX1_bestOne_56 : decode cX1_bestOne 56 = .ok (.ireturn, 1) := by decide +kernel
theorem dX1_most_0 : decode cX1_most 0 = .ok (.iconst 0, 1) := by decide +kernel
theorem dX1_most_1 : decode cX1_most 1 = .ok (.istore_n 3, 1) := by decide +kernel
theorem dX1_most_2 : decode cX1_most 2 = .ok (.iconst 0, 1) := by decide +kernel
theorem dX1_most_3 : decode cX1_most 3 = .ok (.istore 4, 2) := by decide +kernel
theorem dX1_most_5 : decode cX1_most 5 = .ok (.iconst 0, 1) := by decide +kernel
theorem dX1_most_6 : decode cX1_most 6 = .ok (.istore 5, 2) := by decide +kernel
theorem dX1_most_8 : decode cX1_most 8 = .ok (.iload 5, 2) := by decide +kernel
theorem dX1_most_10 : decode cX1_most 10 = .ok (.iload_n 2, 1) := by decide +kernel
theorem dX1_most_11 : decode cX1_most 11 = .ok (.if_icmp .ge 115, 3) := by decide +kernel
theorem dX1_most_14 : decode cX1_most 14 = .ok (.iload 5, 2) := by decide +kernel
theorem dX1_most_16 : decode cX1_most 16 = .ok (.iload_n 1, 1) := by decide +kernel
theorem dX1_most_17 : decode cX1_most 17 = .ok (.if_icmp .ge 109, 3) := by decide +kernel
theorem dX1_most_20 : decode cX1_most 20 = .ok (.iconst (-1), 1) := by decide +kernel
theorem dX1_most_21 : decode cX1_most 21 = .ok (.istore 6, 2) := by decide +kernel
theorem dX1_most_23 : decode cX1_most 23 = .ok (.iconst 0, 1) := by decide +kernel
theorem dX1_most_24 : decode cX1_most 24 = .ok (.istore 7, 2) := by decide +kernel
theorem dX1_most_26 : decode cX1_most 26 = .ok (.iload 7, 2) := by decide +kernel
theorem dX1_most_28 : decode cX1_most 28 = .ok (.iload_n 1, 1) := by decide +kernel
theorem dX1_most_29 : decode cX1_most 29 = .ok (.if_icmp .ge 63, 3) := by decide +kernel
theorem dX1_most_32 : decode cX1_most 32 = .ok (.iload_n 3, 1) := by decide +kernel
theorem dX1_most_33 : decode cX1_most 33 = .ok (.iload 7, 2) := by decide +kernel
theorem dX1_most_35 : decode cX1_most 35 = .ok (.ishr, 1) := by decide +kernel
theorem dX1_most_36 : decode cX1_most 36 = .ok (.iconst 1, 1) := by decide +kernel
theorem dX1_most_37 : decode cX1_most 37 = .ok (.iand, 1) := by decide +kernel
theorem dX1_most_38 : decode cX1_most 38 = .ok (.ifCond .ne 7, 3) := by decide +kernel
theorem dX1_most_41 : decode cX1_most 41 = .ok (.iconst 1, 1) := by decide +kernel
theorem dX1_most_42 : decode cX1_most 42 = .ok (.goto 4, 3) := by decide +kernel
theorem dX1_most_45 : decode cX1_most 45 = .ok (.iconst 0, 1) := by decide +kernel
theorem dX1_most_46 : decode cX1_most 46 = .ok (.istore 8, 2) := by decide +kernel
theorem dX1_most_48 : decode cX1_most 48 = .ok (.iload 8, 2) := by decide +kernel
theorem dX1_most_50 : decode cX1_most 50 = .ok (.ifCond .eq 36, 3) := by decide +kernel
theorem dX1_most_53 : decode cX1_most 53 = .ok (.iload 6, 2) := by decide +kernel
theorem dX1_most_55 : decode cX1_most 55 = .ok (.iconst (-1), 1) := by decide +kernel
theorem dX1_most_56 : decode cX1_most 56 = .ok (.if_icmp .eq 26, 3) := by decide +kernel
theorem dX1_most_59 : decode cX1_most 59 = .ok (.aload_n 0, 1) := by decide +kernel
theorem dX1_most_60 : decode cX1_most 60 = .ok (.getfield 14, 3) := by decide +kernel
theorem dX1_most_63 : decode cX1_most 63 = .ok (.iload 7, 2) := by decide +kernel
theorem dX1_most_65 : decode cX1_most 65 = .ok (.iconst 0, 1) := by decide +kernel
theorem dX1_most_66 : decode cX1_most 66 = .ok (.invokevirtual 60, 3) := by decide +kernel
theorem dX1_most_69 : decode cX1_most 69 = .ok (.aload_n 0, 1) := by decide +kernel
theorem dX1_most_70 : decode cX1_most 70 = .ok (.getfield 14, 3) := by decide +kernel
theorem dX1_most_73 : decode cX1_most 73 = .ok (.iload 6, 2) := by decide +kernel
theorem dX1_most_75 : decode cX1_most 75 = .ok (.iconst 0, 1) := by decide +kernel
theorem dX1_most_76 : decode cX1_most 76 = .ok (.invokevirtual 60, 3) := by decide +kernel
theorem dX1_most_79 : decode cX1_most 79 = .ok (.if_icmp .le 7, 3) := by decide +kernel
theorem dX1_most_82 : decode cX1_most 82 = .ok (.iload 7, 2) := by decide +kernel
theorem dX1_most_84 : decode cX1_most 84 = .ok (.istore 6, 2) := by decide +kernel
theorem dX1_most_86 : decode cX1_most 86 = .ok (.iinc 7 1, 3) := by decide +kernel
theorem dX1_most_89 : decode cX1_most 89 = .ok (.goto (-63), 3) := by decide +kernel
theorem dX1_most_92 : decode cX1_most 92 = .ok (.iload 6, 2) := by decide +kernel
theorem dX1_most_94 : decode cX1_most 94 = .ok (.iconst (-1), 1) := by decide +kernel
theorem dX1_most_95 : decode cX1_most 95 = .ok (.if_icmp .eq 25, 3) := by decide +kernel
theorem dX1_most_98 : decode cX1_most 98 = .ok (.iload_n 3, 1) := by decide +kernel
theorem dX1_most_99 : decode cX1_most 99 = .ok (.iconst 1, 1) := by decide +kernel
theorem dX1_most_100 : decode cX1_most 100 = .ok (.iload 6, 2) := by decide +kernel
theorem dX1_most_102 : decode cX1_most 102 = .ok (.ishl, 1) := by decide +kernel
theorem dX1_most_103 : decode cX1_most 103 = .ok (.ior, 1) := by decide +kernel
theorem dX1_most_104 : decode cX1_most 104 = .ok (.istore_n 3, 1) := by decide +kernel
theorem dX1_most_105 : decode cX1_most 105 = .ok (.iload 4, 2) := by decide +kernel
theorem dX1_most_107 : decode cX1_most 107 = .ok (.aload_n 0, 1) := by decide +kernel
theorem dX1_most_108 : decode cX1_most 108 = .ok (.getfield 14, 3) := by decide +kernel
theorem dX1_most_111 : decode cX1_most 111 = .ok (.iload 6, 2) := by decide +kernel
theorem dX1_most_113 : decode cX1_most 113 = .ok (.iconst 0, 1) := by decide +kernel
theorem dX1_most_114 : decode cX1_most 114 = .ok (.invokevirtual 60, 3) := by decide +kernel
theorem dX1_most_117 : decode cX1_most 117 = .ok (.iadd, 1) := by decide +kernel
theorem dX1_most_118 : decode cX1_most 118 = .ok (.istore 4, 2) := by decide +kernel
theorem dX1_most_120 : decode cX1_most 120 = .ok (.iinc 5 1, 3) := by decide +kernel
theorem dX1_most_123 : decode cX1_most 123 = .ok (.goto (-115), 3) := by decide +kernel
theorem dX1_most_126 : decode cX1_most 126 = .ok (.iload 4, 2) := by decide +kernel
theorem dX1_most_128 : decode cX1_most 128 = .ok (.ireturn, 1) := by decide +kernel
theorem dX1_fewestFor_0 : decode cX1_fewestFor 0 = .ok (.aload_n 0, 1) := by decide +kernel
theorem dX1_fewestFor_1 : decode cX1_fewestFor 1 = .ok (.getfield 20, 3) := by decide +kernel
theorem dX1_fewestFor_4 : decode cX1_fewestFor 4 = .ok (.getfield 40, 3) := by decide +kernel
theorem dX1_fewestFor_7 : decode cX1_fewestFor 7 = .ok (.getfield 44, 3) := by decide +kernel
theorem dX1_fewestFor_10 : decode cX1_fewestFor 10 = .ok (.getfield 49, 3) := by decide +kernel
theorem dX1_fewestFor_13 : decode cX1_fewestFor 13 = .ok (.istore_n 3, 1) := by decide +kernel
theorem dX1_fewestFor_14 : decode cX1_fewestFor 14 = .ok (.aload_n 0, 1) := by decide +kernel
theorem dX1_fewestFor_15 : decode cX1_fewestFor 15 = .ok (.aload_n 1, 1) := by decide +kernel
theorem dX1_fewestFor_16 : decode cX1_fewestFor 16 = .ok (.iconst 0, 1) := by decide +kernel
theorem dX1_fewestFor_17 : decode cX1_fewestFor 17 = .ok (.invokevirtual 64, 3) := by decide +kernel
theorem dX1_fewestFor_20 : decode cX1_fewestFor 20 = .ok (.iload_n 2, 1) := by decide +kernel
theorem dX1_fewestFor_21 : decode cX1_fewestFor 21 = .ok (.isub, 1) := by decide +kernel
theorem dX1_fewestFor_22 : decode cX1_fewestFor 22 = .ok (.istore 4, 2) := by decide +kernel
theorem dX1_fewestFor_24 : decode cX1_fewestFor 24 = .ok (.aload_n 0, 1) := by decide +kernel
theorem dX1_fewestFor_25 : decode cX1_fewestFor 25 = .ok (.aload_n 1, 1) := by decide +kernel
theorem dX1_fewestFor_26 : decode cX1_fewestFor 26 = .ok (.invokevirtual 57, 3) := by decide +kernel
theorem dX1_fewestFor_29 : decode cX1_fewestFor 29 = .ok (.aload_n 0, 1) := by decide +kernel
theorem dX1_fewestFor_30 : decode cX1_fewestFor 30 = .ok (.iload_n 3, 1) := by decide +kernel
theorem dX1_fewestFor_31 : decode cX1_fewestFor 31 = .ok (.iload_n 3, 1) := by decide +kernel
theorem dX1_fewestFor_32 : decode cX1_fewestFor 32 = .ok (.invokevirtual 68, 3) := by decide +kernel
theorem dX1_fewestFor_35 : decode cX1_fewestFor 35 = .ok (.iload 4, 2) := by decide +kernel
theorem dX1_fewestFor_37 : decode cX1_fewestFor 37 = .ok (.if_icmp .ge 6, 3) := by decide +kernel
theorem dX1_fewestFor_40 : decode cX1_fewestFor 40 = .ok (.bipush (-2), 2) := by decide +kernel
theorem dX1_fewestFor_42 : decode cX1_fewestFor 42 = .ok (.ireturn, 1) := by decide +kernel
theorem dX1_fewestFor_43 : decode cX1_fewestFor 43 = .ok (.iconst 0, 1) := by decide +kernel
theorem dX1_fewestFor_44 : decode cX1_fewestFor 44 = .ok (.istore 5, 2) := by decide +kernel
theorem dX1_fewestFor_46 : decode cX1_fewestFor 46 = .ok (.iconst 0, 1) := by decide +kernel
theorem dX1_fewestFor_47 : decode cX1_fewestFor 47 = .ok (.istore 6, 2) := by decide +kernel
theorem dX1_fewestFor_49 : decode cX1_fewestFor 49 = .ok (.iload 6, 2) := by decide +kernel
theorem dX1_fewestFor_51 : decode cX1_fewestFor 51 = .ok (.iload_n 3, 1) := by decide +kernel
theorem dX1_fewestFor_52 : decode cX1_fewestFor 52 = .ok (.if_icmp .ge 24, 3) := by decide +kernel
theorem dX1_fewestFor_55 : decode cX1_fewestFor 55 = .ok (.aload_n 0, 1) := by decide +kernel
theorem dX1_fewestFor_56 : decode cX1_fewestFor 56 = .ok (.iload_n 3, 1) := by decide +kernel
theorem dX1_fewestFor_57 : decode cX1_fewestFor 57 = .ok (.iload 5, 2) := by decide +kernel
theorem dX1_fewestFor_59 : decode cX1_fewestFor 59 = .ok (.invokevirtual 68, 3) := by decide +kernel
theorem dX1_fewestFor_62 : decode cX1_fewestFor 62 = .ok (.iload 4, 2) := by decide +kernel
theorem dX1_fewestFor_64 : decode cX1_fewestFor 64 = .ok (.if_icmp .ge 12, 3) := by decide +kernel
theorem dX1_fewestFor_67 : decode cX1_fewestFor 67 = .ok (.iinc 5 1, 3) := by decide +kernel
theorem dX1_fewestFor_70 : decode cX1_fewestFor 70 = .ok (.iinc 6 1, 3) := by decide +kernel
theorem dX1_fewestFor_73 : decode cX1_fewestFor 73 = .ok (.goto (-24), 3) := by decide +kernel
theorem dX1_fewestFor_76 : decode cX1_fewestFor 76 = .ok (.iconst 0, 1) := by decide +kernel
theorem dX1_fewestFor_77 : decode cX1_fewestFor 77 = .ok (.istore 6, 2) := by decide +kernel
theorem dX1_fewestFor_79 : decode cX1_fewestFor 79 = .ok (.iload_n 3, 1) := by decide +kernel
theorem dX1_fewestFor_80 : decode cX1_fewestFor 80 = .ok (.iconst 1, 1) := by decide +kernel
theorem dX1_fewestFor_81 : decode cX1_fewestFor 81 = .ok (.isub, 1) := by decide +kernel
theorem dX1_fewestFor_82 : decode cX1_fewestFor 82 = .ok (.istore 7, 2) := by decide +kernel
theorem dX1_fewestFor_84 : decode cX1_fewestFor 84 = .ok (.iload 7, 2) := by decide +kernel
theorem dX1_fewestFor_86 : decode cX1_fewestFor 86 = .ok (.ifCond .lt 54, 3) := by decide +kernel
theorem dX1_fewestFor_89 : decode cX1_fewestFor 89 = .ok (.iload 5, 2) := by decide +kernel
theorem dX1_fewestFor_91 : decode cX1_fewestFor 91 = .ok (.ifCond .le 49, 3) := by decide +kernel
theorem dX1_fewestFor_94 : decode cX1_fewestFor 94 = .ok (.aload_n 0, 1) := by decide +kernel
theorem dX1_fewestFor_95 : decode cX1_fewestFor 95 = .ok (.iload 7, 2) := by decide +kernel
theorem dX1_fewestFor_97 : decode cX1_fewestFor 97 = .ok (.iload 5, 2) := by decide +kernel
theorem dX1_fewestFor_99 : decode cX1_fewestFor 99 = .ok (.invokevirtual 68, 3) := by decide +kernel
theorem dX1_fewestFor_102 : decode cX1_fewestFor 102 = .ok (.iload 4, 2) := by decide +kernel
theorem dX1_fewestFor_104 : decode cX1_fewestFor 104 = .ok (.if_icmp .ge 30, 3) := by decide +kernel
theorem dX1_fewestFor_107 : decode cX1_fewestFor 107 = .ok (.iload 6, 2) := by decide +kernel
theorem dX1_fewestFor_109 : decode cX1_fewestFor 109 = .ok (.iconst 1, 1) := by decide +kernel
theorem dX1_fewestFor_110 : decode cX1_fewestFor 110 = .ok (.iload 7, 2) := by decide +kernel
theorem dX1_fewestFor_112 : decode cX1_fewestFor 112 = .ok (.ishl, 1) := by decide +kernel
theorem dX1_fewestFor_113 : decode cX1_fewestFor 113 = .ok (.ior, 1) := by decide +kernel
theorem dX1_fewestFor_114 : decode cX1_fewestFor 114 = .ok (.istore 6, 2) := by decide +kernel
theorem dX1_fewestFor_116 : decode cX1_fewestFor 116 = .ok (.iinc 5 (-1), 3) := by decide +kernel
theorem dX1_fewestFor_119 : decode cX1_fewestFor 119 = .ok (.iload 4, 2) := by decide +kernel
theorem dX1_fewestFor_121 : decode cX1_fewestFor 121 = .ok (.aload_n 0, 1) := by decide +kernel
theorem dX1_fewestFor_122 : decode cX1_fewestFor 122 = .ok (.getfield 14, 3) := by decide +kernel
theorem dX1_fewestFor_125 : decode cX1_fewestFor 125 = .ok (.iload 7, 2) := by decide +kernel
theorem dX1_fewestFor_127 : decode cX1_fewestFor 127 = .ok (.iconst 0, 1) := by decide +kernel
theorem dX1_fewestFor_128 : decode cX1_fewestFor 128 = .ok (.invokevirtual 60, 3) := by decide +kernel
theorem dX1_fewestFor_131 : decode cX1_fewestFor 131 = .ok (.isub, 1) := by decide +kernel
theorem dX1_fewestFor_132 : decode cX1_fewestFor 132 = .ok (.istore 4, 2) := by decide +kernel
theorem dX1_fewestFor_134 : decode cX1_fewestFor 134 = .ok (.iinc 7 (-1), 3) := by decide +kernel
theorem dX1_fewestFor_137 : decode cX1_fewestFor 137 = .ok (.goto (-53), 3) := by decide +kernel
theorem dX1_fewestFor_140 : decode cX1_fewestFor 140 = .ok (.iload 6, 2) := by decide +kernel
theorem dX1_fewestFor_142 : decode cX1_fewestFor 142 = .ok (.ireturn, 1) := by decide +kernel
def M_X1_init : MD := (yX1_init, cX1_init, 2, none, 2, 43, 2, 52)
theorem ci_X1_init : CIo M_X1_init 1 := ⟨⟨wd_409, wd_118, ⟨by decide, by decide⟩, by decide +kernel⟩, wd_408, rfl, rfl⟩
def X1_init (a0 : Nat) (a1 : Nat) (h : Hp) : Option (Hp) :=
  pin (nw h (.inr (8, [.int 0, .int 0, .null, .int 0]))) fun h1 =>
  (X8_init h.1 12 1 h1).bind fun h2 =>
  (pF h2 a0 1 1 (.ref h.1)).bind fun h3 =>
  (pF h3 a0 1 0 (.ref a1)).bind fun h4 =>
  some h4
theorem X1_init_ok {a0 : Nat} {a1 : Nat} {h h' : Hp} (H : X1_init a0 a1 h = some h') : Con M_X1_init [.ref a0, .ref a1] h none h' := by
  refine con_of_go (by decide) 0 (L := [some (.ref a0), some (.ref a1)]) rfl (Nat.le_of_ble_eq_true rfl) ?_
  unfold X1_init at H
  refine go_aload_n (pc := 0) dX1_init_0 rfl rfl ?_
  refine go_objInit (pc := 1) dX1_init_1 wd_410 wd_137 wd_138 (Nat.le_of_ble_eq_true rfl) (Nat.le_of_ble_eq_true rfl) ?_
  refine go_aload_n (pc := 4) dX1_init_4 rfl rfl ?_
  refine go_new (pc := 5) dX1_init_5 nl_X1_9 (Nat.le_of_ble_eq_true rfl) (Nat.le_of_ble_eq_true rfl) ?_
  refine go_pinH H (fun h1 H => ?_)
  refine go_dup (pc := 8) dX1_init_8 rfl ?_
  refine go_bipush (pc := 9) (v := 12) dX1_init_9 (by decide) ?_
  refine go_iconst (pc := 11) (v := 1) dX1_init_11 (by decide) ?_
  refine go_cIv (pc := 12) (Mz := M_X8_init) (as := [.int 12, .int 1]) (a := h.1) (st := [.ref h.1, .ref a0]) dX1_init_12 wd_412 ci_X8_init X8_init_ok rfl rfl ⟨Nat.le_of_ble_eq_true rfl, Nat.le_of_ble_eq_true rfl⟩ (Nat.le_of_ble_eq_true rfl) ⟨Nat.le_of_ble_eq_true rfl, Nat.le_of_ble_eq_true rfl⟩ H (fun h2 H => ?_)
  refine go_putRF (pc := 15) dX1_init_15 fs_X1_14 ⟨rfl, _, rfl, rfl⟩ H (fun h3 H => ?_)
  refine go_aload_n (pc := 18) dX1_init_18 rfl rfl ?_
  refine go_aload_n (pc := 19) dX1_init_19 rfl rfl ?_
  refine go_putRF (pc := 20) dX1_init_20 fs_X1_20 ⟨rfl, _, rfl, rfl⟩ H (fun h4 H => ?_)
  exact go_vret (pc := 23) dX1_init_23 rfl ⟨Nat.le_of_ble_eq_true rfl, Nat.le_of_ble_eq_true rfl⟩ H

def M_X1_stolenWith : MD := (yX1_stolenWith, cX1_stolenWith, 4, (some .int), 4, 93, 0, 0)
theorem cv_X1_stolenWith : CVo M_X1_stolenWith 2 1 := ⟨⟨wd_985, wd_118, ⟨by decide, by decide⟩, by decide +kernel⟩, wd_983, wd_984, _, rfl, rfl⟩
def X1_stolenWith (a0 : Nat) (a1 : Nat) (a2 : Int32) (h : Hp) : Option (Int32 × Hp) :=
  (gR h a0 1 0).bind fun v1 =>
  cV h v1 6 (X6_trialOf v1 a1 h) fun v3 h2 =>
  cVv h2 v3 4 (X4_attendAll v3 a2 h2) fun h4 =>
  (gR h4 a0 1 0).bind fun v5 =>
  cVv h4 v5 6 (X6_reckon v5 v3 h4) fun h6 =>
  (gR h6 a0 1 0).bind fun v7 =>
  (gR h6 a0 1 0).bind fun v8 =>
  (gR h6 v8 6 3).bind fun v9 =>
  (gR h6 v9 9 2).bind fun v10 =>
  (gI h6 v10 8 3).bind fun v11 =>
  cV h6 v7 6 (X6_lostBy v7 v11 h6) fun v13 h12 =>
  some (v13, h12)
theorem X1_stolenWith_ok {a0 : Nat} {a1 : Nat} {a2 : Int32} {h h' : Hp} {r : Int32} (H : X1_stolenWith a0 a1 a2 h = some (r, h')) : Con M_X1_stolenWith [.ref a0, .ref a1, .int a2] h (some (.int r)) h' := by
  refine con_of_go (by decide) 1 (L := [some (.ref a0), some (.ref a1), some (.int a2), none]) rfl (Nat.le_of_ble_eq_true rfl) ?_
  unfold X1_stolenWith at H
  refine go_aload_n (pc := 0) dX1_stolenWith_0 rfl rfl ?_
  refine go_getR (pc := 1) dX1_stolenWith_1 fl_X1_20 H (fun v1 H => ?_)
  refine go_aload_n (pc := 4) dX1_stolenWith_4 rfl rfl ?_
  refine go_cVr (pc := 5) (Mz := M_X6_trialOf) (as := [.ref a1]) (a := v1) (st := []) dX1_stolenWith_5 wd_986 cv_X6_trialOf X6_trialOf_ok rfl rfl ⟨Nat.le_of_ble_eq_true rfl, Nat.le_of_ble_eq_true rfl⟩ (Nat.le_of_ble_eq_true rfl) ⟨rfl, rfl⟩ ⟨Nat.le_of_ble_eq_true rfl, Nat.le_of_ble_eq_true rfl⟩ H (fun v3 h2 H => ?_)
  refine go_astore_n (pc := 8) (L' := [some (.ref a0), some (.ref a1), some (.int a2), some (.ref v3)]) dX1_stolenWith_8 rfl (Nat.le_of_ble_eq_true rfl) rfl ?_
  refine go_aload_n (pc := 9) dX1_stolenWith_9 rfl rfl ?_
  refine go_iload_n (pc := 10) dX1_stolenWith_10 rfl rfl ?_
  refine go_cVv (pc := 11) (Mz := M_X4_attendAll) (as := [.int a2]) (a := v3) (st := []) dX1_stolenWith_11 wd_987 cv_X4_attendAll X4_attendAll_ok rfl rfl ⟨Nat.le_of_ble_eq_true rfl, Nat.le_of_ble_eq_true rfl⟩ (Nat.le_of_ble_eq_true rfl) ⟨rfl, rfl⟩ ⟨Nat.le_of_ble_eq_true rfl, Nat.le_of_ble_eq_true rfl⟩ H (fun h4 H => ?_)
  refine go_aload_n (pc := 14) dX1_stolenWith_14 rfl rfl ?_
  refine go_getR (pc := 15) dX1_stolenWith_15 fl_X1_20 H (fun v5 H => ?_)
  refine go_aload_n (pc := 18) dX1_stolenWith_18 rfl rfl ?_
  refine go_cVv (pc := 19) (Mz := M_X6_reckon) (as := [.ref v3]) (a := v5) (st := []) dX1_stolenWith_19 wd_991 cv_X6_reckon X6_reckon_ok rfl rfl ⟨Nat.le_of_ble_eq_true rfl, Nat.le_of_ble_eq_true rfl⟩ (Nat.le_of_ble_eq_true rfl) ⟨rfl, rfl⟩ ⟨Nat.le_of_ble_eq_true rfl, Nat.le_of_ble_eq_true rfl⟩ H (fun h6 H => ?_)
  refine go_aload_n (pc := 22) dX1_stolenWith_22 rfl rfl ?_
  refine go_getR (pc := 23) dX1_stolenWith_23 fl_X1_20 H (fun v7 H => ?_)
  refine go_aload_n (pc := 26) dX1_stolenWith_26 rfl rfl ?_
  refine go_getR (pc := 27) dX1_stolenWith_27 fl_X1_20 H (fun v8 H => ?_)
  refine go_getR (pc := 30) dX1_stolenWith_30 fl_X1_40 H (fun v9 H => ?_)
  refine go_getR (pc := 33) dX1_stolenWith_33 fl_X1_44 H (fun v10 H => ?_)
  refine go_getI (pc := 36) dX1_stolenWith_36 fl_X1_49 H (fun v11 H => ?_)
  refine go_cVi (pc := 39) (Mz := M_X6_lostBy) (as := [.int v11]) (a := v7) (st := []) dX1_stolenWith_39 wd_992 cv_X6_lostBy X6_lostBy_ok rfl rfl ⟨Nat.le_of_ble_eq_true rfl, Nat.le_of_ble_eq_true rfl⟩ (Nat.le_of_ble_eq_true rfl) ⟨rfl, rfl⟩ ⟨Nat.le_of_ble_eq_true rfl, Nat.le_of_ble_eq_true rfl⟩ H (fun v13 h12 H => ?_)
  exact go_iret (pc := 42) dX1_stolenWith_42 rfl ⟨Nat.le_of_ble_eq_true rfl, Nat.le_of_ble_eq_true rfl⟩ H

def M_X1_findSavings : MD := (yX1_findSavings, cX1_findSavings, 4, none, 3, 71, 0, 0)
theorem cv_X1_findSavings : CVo M_X1_findSavings 1 1 := ⟨⟨wd_996, wd_118, ⟨by decide, by decide⟩, by decide +kernel⟩, wd_995, wd_36, _, rfl, rfl⟩
def X1_findSavings_L16_s (rc16 : Nat → Nat → Nat → Int32 → Hp → Option (Hp)) (a0 : Nat) (a1 : Nat) (a2 : Nat) (a3 : Int32) (h : Hp) : Option (Hp) :=
  (gR h a0 1 0).bind fun v101 =>
  (gR h v101 6 3).bind fun v102 =>
  (gR h v102 9 2).bind fun v103 =>
  (gI h v103 8 3).bind fun v104 =>
  if v104 ≤ a3 then (
    some h)
  else (
    (gR h a0 1 1).bind fun v105 =>
    (gR h a0 1 0).bind fun v106 =>
    cV h v106 6 (X6_stolenIn v106 a1 a3 h) fun v108 h107 =>
    (gR h107 a0 1 0).bind fun v109 =>
    cV h107 v109 6 (X6_stolenIn v109 a2 a3 h107) fun v111 h110 =>
    cVv h110 v105 8 (X8_put v105 a3 0 (v108 - v111) h110) fun h112 =>
    rc16 a0 a1 a2 (a3 + 1) h112)
def X1_findSavings_L16 (q : Nat) : Nat → Nat → Nat → Int32 → Hp → Option (Hp) := loopN (fun _ _ _ _ _ => none) (X1_findSavings_L16_s) q
theorem X1_findSavings_L16_ok {hh h' : Hp}  : ∀ (q : Nat) (a0 : Nat) (a1 : Nat) (a2 : Nat) (a3 : Int32) (h : Hp), X1_findSavings_L16 q a0 a1 a2 a3 h = some h' → Go (PM M_X1_findSavings hh none h') M_X1_findSavings 16 [some (.ref a0), some (.ref a1), some (.ref a2), some (.int a3)] [] h 0 0 := by
  intro q
  induction q with
  | zero => intro a0 a1 a2 a3 h H; cases H
  | succ q hrc16 =>
    intro a0 a1 a2 a3 h H
    replace H : X1_findSavings_L16_s (X1_findSavings_L16 q) a0 a1 a2 a3 h = some h' := H
    unfold X1_findSavings_L16_s at H
    refine go_iload_n (pc := 16) dX1_findSavings_16 rfl rfl ?_
    refine go_aload_n (pc := 17) dX1_findSavings_17 rfl rfl ?_
    refine go_getR (pc := 18) dX1_findSavings_18 fl_X1_20 H (fun v101 H => ?_)
    refine go_getR (pc := 21) dX1_findSavings_21 fl_X1_40 H (fun v102 H => ?_)
    refine go_getR (pc := 24) dX1_findSavings_24 fl_X1_44 H (fun v103 H => ?_)
    refine go_getI (pc := 27) dX1_findSavings_27 fl_X1_49 H (fun v104 H => ?_)
    refine go_icmp_ge (pc := 30) (tgt := 67) dX1_findSavings_30 (by decide) H (fun H => ?_) (fun H => ?_)
    · exact go_vret (pc := 67) dX1_findSavings_67 rfl ⟨Nat.le_of_ble_eq_true rfl, Nat.le_of_ble_eq_true rfl⟩ H
    · refine go_aload_n (pc := 33) dX1_findSavings_33 rfl rfl ?_
      refine go_getR (pc := 34) dX1_findSavings_34 fl_X1_14 H (fun v105 H => ?_)
      refine go_iload_n (pc := 37) dX1_findSavings_37 rfl rfl ?_
      refine go_iconst (pc := 38) (v := 0) dX1_findSavings_38 (by decide) ?_
      refine go_aload_n (pc := 39) dX1_findSavings_39 rfl rfl ?_
      refine go_getR (pc := 40) dX1_findSavings_40 fl_X1_20 H (fun v106 H => ?_)
      refine go_aload_n (pc := 43) dX1_findSavings_43 rfl rfl ?_
      refine go_iload_n (pc := 44) dX1_findSavings_44 rfl rfl ?_
      refine go_cVi (pc := 45) (Mz := M_X6_stolenIn) (as := [.ref a1, .int a3]) (a := v106) (st := [.int 0, .int a3, .ref v105]) dX1_findSavings_45 wd_997 cv_X6_stolenIn X6_stolenIn_ok rfl rfl ⟨Nat.le_of_ble_eq_true rfl, Nat.le_of_ble_eq_true rfl⟩ (Nat.le_of_ble_eq_true rfl) ⟨rfl, rfl⟩ ⟨Nat.le_of_ble_eq_true rfl, Nat.le_of_ble_eq_true rfl⟩ H (fun v108 h107 H => ?_)
      refine go_aload_n (pc := 48) dX1_findSavings_48 rfl rfl ?_
      refine go_getR (pc := 49) dX1_findSavings_49 fl_X1_20 H (fun v109 H => ?_)
      refine go_aload_n (pc := 52) dX1_findSavings_52 rfl rfl ?_
      refine go_iload_n (pc := 53) dX1_findSavings_53 rfl rfl ?_
      refine go_cVi (pc := 54) (Mz := M_X6_stolenIn) (as := [.ref a2, .int a3]) (a := v109) (st := [.int v108, .int 0, .int a3, .ref v105]) dX1_findSavings_54 wd_997 cv_X6_stolenIn X6_stolenIn_ok rfl rfl ⟨Nat.le_of_ble_eq_true rfl, Nat.le_of_ble_eq_true rfl⟩ (Nat.le_of_ble_eq_true rfl) ⟨rfl, rfl⟩ ⟨Nat.le_of_ble_eq_true rfl, Nat.le_of_ble_eq_true rfl⟩ H (fun v111 h110 H => ?_)
      refine go_isub (pc := 57) dX1_findSavings_57 ?_
      refine go_cVv (pc := 58) (Mz := M_X8_put) (as := [.int a3, .int 0, .int (v108 - v111)]) (a := v105) (st := []) dX1_findSavings_58 wd_998 cv_X8_put X8_put_ok rfl rfl ⟨Nat.le_of_ble_eq_true rfl, Nat.le_of_ble_eq_true rfl⟩ (Nat.le_of_ble_eq_true rfl) ⟨rfl, rfl⟩ ⟨Nat.le_of_ble_eq_true rfl, Nat.le_of_ble_eq_true rfl⟩ H (fun h112 H => ?_)
      refine go_iinc (pc := 61) (v := a3 + 1) (L' := [some (.ref a0), some (.ref a1), some (.ref a2), some (.int (a3 + 1))]) dX1_findSavings_61 rfl rfl (Nat.le_of_ble_eq_true rfl) rfl ?_
      refine go_goto (pc := 64) (tgt := 16) dX1_findSavings_64 (by decide) ?_
      exact Go.weak (L' := [some (.ref a0), some (.ref a1), some (.ref a2), some (.int (a3 + 1))]) ⟨rfl, ⟨rfl, ⟨rfl, ⟨rfl, trivial⟩⟩⟩⟩ (hrc16 a0 a1 a2 (a3 + 1) h112 H)

def X1_findSavings (a0 : Nat) (a1 : Nat) (h : Hp) : Option (Hp) :=
  (gR h a0 1 0).bind fun v1 =>
  cV h v1 6 (X6_trialOf v1 a1 h) fun v3 h2 =>
  cVv h2 v3 4 (X4_attendAll v3 (-1) h2) fun h4 =>
  X1_findSavings_L16 5000 a0 a1 v3 0 h4
theorem X1_findSavings_ok {a0 : Nat} {a1 : Nat} {h h' : Hp} (H : X1_findSavings a0 a1 h = some h') : Con M_X1_findSavings [.ref a0, .ref a1] h none h' := by
  refine con_of_go (by decide) 2 (L := [some (.ref a0), some (.ref a1), none, none]) rfl (Nat.le_of_ble_eq_true rfl) ?_
  unfold X1_findSavings at H
  refine go_aload_n (pc := 0) dX1_findSavings_0 rfl rfl ?_
  refine go_getR (pc := 1) dX1_findSavings_1 fl_X1_20 H (fun v1 H => ?_)
  refine go_aload_n (pc := 4) dX1_findSavings_4 rfl rfl ?_
  refine go_cVr (pc := 5) (Mz := M_X6_trialOf) (as := [.ref a1]) (a := v1) (st := []) dX1_findSavings_5 wd_986 cv_X6_trialOf X6_trialOf_ok rfl rfl ⟨Nat.le_of_ble_eq_true rfl, Nat.le_of_ble_eq_true rfl⟩ (Nat.le_of_ble_eq_true rfl) ⟨rfl, rfl⟩ ⟨Nat.le_of_ble_eq_true rfl, Nat.le_of_ble_eq_true rfl⟩ H (fun v3 h2 H => ?_)
  refine go_astore_n (pc := 8) (L' := [some (.ref a0), some (.ref a1), some (.ref v3), none]) dX1_findSavings_8 rfl (Nat.le_of_ble_eq_true rfl) rfl ?_
  refine go_aload_n (pc := 9) dX1_findSavings_9 rfl rfl ?_
  refine go_iconst (pc := 10) (v := (-1)) dX1_findSavings_10 (by decide) ?_
  refine go_cVv (pc := 11) (Mz := M_X4_attendAll) (as := [.int (-1)]) (a := v3) (st := []) dX1_findSavings_11 wd_987 cv_X4_attendAll X4_attendAll_ok rfl rfl ⟨Nat.le_of_ble_eq_true rfl, Nat.le_of_ble_eq_true rfl⟩ (Nat.le_of_ble_eq_true rfl) ⟨rfl, rfl⟩ ⟨Nat.le_of_ble_eq_true rfl, Nat.le_of_ble_eq_true rfl⟩ H (fun h4 H => ?_)
  refine go_iconst (pc := 14) (v := 0) dX1_findSavings_14 (by decide) ?_
  refine go_istore_n (pc := 15) (L' := [some (.ref a0), some (.ref a1), some (.ref v3), some (.int 0)]) dX1_findSavings_15 rfl (Nat.le_of_ble_eq_true rfl) rfl ?_
  exact Go.weak (L' := [some (.ref a0), some (.ref a1), some (.ref v3), some (.int 0)]) ⟨rfl, ⟨rfl, ⟨rfl, ⟨rfl, trivial⟩⟩⟩⟩ (X1_findSavings_L16_ok 5000 a0 a1 v3 0 h4 H)

def M_X1_bestOne : MD := (yX1_bestOne, cX1_bestOne, 4, (some .int), 4, 94, 0, 0)
theorem cv_X1_bestOne : CVo M_X1_bestOne 1 1 := ⟨⟨wd_1016, wd_118, ⟨by decide, by decide⟩, by decide +kernel⟩, wd_1014, wd_1015, _, rfl, rfl⟩
def X1_bestOne_B49 (rc9 : Nat → Int32 → Int32 → Hp → Option (Int32 × Hp)) (a0 : Nat) (a2 : Int32) (a3 : Int32) (h : Hp) : Option (Int32 × Hp) :=
  rc9 a0 a2 (a3 + 1) h
theorem X1_bestOne_B49_ok {hh h' : Hp} {r : Int32}  (rc9 : Nat → Int32 → Int32 → Hp → Option (Int32 × Hp)) (hrc9 : ∀ (a0 : Nat) (a2 : Int32) (a3 : Int32) (h : Hp), rc9 a0 a2 a3 h = some (r, h') → Go (PM M_X1_bestOne hh (some (.int r)) h') M_X1_bestOne 9 [some (.ref a0), none, some (.int a2), some (.int a3)] [] h 0 0) (a0 : Nat) (a2 : Int32) (a3 : Int32) (h : Hp) (H : X1_bestOne_B49 rc9 a0 a2 a3 h = some (r, h')) : Go (PM M_X1_bestOne hh (some (.int r)) h') M_X1_bestOne 49 [some (.ref a0), none, some (.int a2), some (.int a3)] [] h 0 0 := by
  unfold X1_bestOne_B49 at H
  refine go_iinc (pc := 49) (v := a3 + 1) (L' := [some (.ref a0), none, some (.int a2), some (.int (a3 + 1))]) dX1_bestOne_49 rfl rfl (Nat.le_of_ble_eq_true rfl) rfl ?_
  refine go_goto (pc := 52) (tgt := 9) dX1_bestOne_52 (by decide) ?_
  exact Go.weak (L' := [some (.ref a0), none, some (.int a2), some (.int (a3 + 1))]) ⟨rfl, ⟨rfl, ⟨rfl, trivial⟩⟩⟩ (hrc9 a0 a2 (a3 + 1) h H)

def X1_bestOne_L9_s (rc9 : Nat → Int32 → Int32 → Hp → Option (Int32 × Hp)) (a0 : Nat) (a2 : Int32) (a3 : Int32) (h : Hp) : Option (Int32 × Hp) :=
  (gR h a0 1 0).bind fun v101 =>
  (gR h v101 6 3).bind fun v102 =>
  (gR h v102 9 2).bind fun v103 =>
  (gI h v103 8 3).bind fun v104 =>
  if v104 ≤ a3 then (
    some (a2, h))
  else (
    (gR h a0 1 1).bind fun v105 =>
    cV h v105 8 (X8_cell v105 a3 0 h) fun v107 h106 =>
    (gR h106 a0 1 1).bind fun v108 =>
    cV h106 v108 8 (X8_cell v108 a2 0 h106) fun v110 h109 =>
    if v107 ≤ v110 then (
      X1_bestOne_B49 rc9 a0 a2 a3 h109)
    else (
      X1_bestOne_B49 rc9 a0 a3 a3 h109))
def X1_bestOne_L9 (q : Nat) : Nat → Int32 → Int32 → Hp → Option (Int32 × Hp) := loopN (fun _ _ _ _ => none) (X1_bestOne_L9_s) q
theorem X1_bestOne_L9_ok {hh h' : Hp} {r : Int32}  : ∀ (q : Nat) (a0 : Nat) (a2 : Int32) (a3 : Int32) (h : Hp), X1_bestOne_L9 q a0 a2 a3 h = some (r, h') → Go (PM M_X1_bestOne hh (some (.int r)) h') M_X1_bestOne 9 [some (.ref a0), none, some (.int a2), some (.int a3)] [] h 0 0 := by
  intro q
  induction q with
  | zero => intro a0 a2 a3 h H; cases H
  | succ q hrc9 =>
    intro a0 a2 a3 h H
    replace H : X1_bestOne_L9_s (X1_bestOne_L9 q) a0 a2 a3 h = some (r, h') := H
    unfold X1_bestOne_L9_s at H
    refine go_iload_n (pc := 9) dX1_bestOne_9 rfl rfl ?_
    refine go_aload_n (pc := 10) dX1_bestOne_10 rfl rfl ?_
    refine go_getR (pc := 11) dX1_bestOne_11 fl_X1_20 H (fun v101 H => ?_)
    refine go_getR (pc := 14) dX1_bestOne_14 fl_X1_40 H (fun v102 H => ?_)
    refine go_getR (pc := 17) dX1_bestOne_17 fl_X1_44 H (fun v103 H => ?_)
    refine go_getI (pc := 20) dX1_bestOne_20 fl_X1_49 H (fun v104 H => ?_)
    refine go_icmp_ge (pc := 23) (tgt := 55) dX1_bestOne_23 (by decide) H (fun H => ?_) (fun H => ?_)
    · refine go_iload_n (pc := 55) dX1_bestOne_55 rfl rfl ?_
      exact go_iret (pc := 56) dX1_bestOne_56 rfl ⟨Nat.le_of_ble_eq_true rfl, Nat.le_of_ble_eq_true rfl⟩ H
    · refine go_aload_n (pc := 26) dX1_bestOne_26 rfl rfl ?_
      refine go_getR (pc := 27) dX1_bestOne_27 fl_X1_14 H (fun v105 H => ?_)
      refine go_iload_n (pc := 30) dX1_bestOne_30 rfl rfl ?_
      refine go_iconst (pc := 31) (v := 0) dX1_bestOne_31 (by decide) ?_
      refine go_cVi (pc := 32) (Mz := M_X8_cell) (as := [.int a3, .int 0]) (a := v105) (st := []) dX1_bestOne_32 wd_1003 cv_X8_cell X8_cell_ok rfl rfl ⟨Nat.le_of_ble_eq_true rfl, Nat.le_of_ble_eq_true rfl⟩ (Nat.le_of_ble_eq_true rfl) ⟨rfl, rfl⟩ ⟨Nat.le_of_ble_eq_true rfl, Nat.le_of_ble_eq_true rfl⟩ H (fun v107 h106 H => ?_)
      refine go_aload_n (pc := 35) dX1_bestOne_35 rfl rfl ?_
      refine go_getR (pc := 36) dX1_bestOne_36 fl_X1_14 H (fun v108 H => ?_)
      refine go_iload_n (pc := 39) dX1_bestOne_39 rfl rfl ?_
      refine go_iconst (pc := 40) (v := 0) dX1_bestOne_40 (by decide) ?_
      refine go_cVi (pc := 41) (Mz := M_X8_cell) (as := [.int a2, .int 0]) (a := v108) (st := [.int v107]) dX1_bestOne_41 wd_1003 cv_X8_cell X8_cell_ok rfl rfl ⟨Nat.le_of_ble_eq_true rfl, Nat.le_of_ble_eq_true rfl⟩ (Nat.le_of_ble_eq_true rfl) ⟨rfl, rfl⟩ ⟨Nat.le_of_ble_eq_true rfl, Nat.le_of_ble_eq_true rfl⟩ H (fun v110 h109 H => ?_)
      refine go_icmp_le (pc := 44) (tgt := 49) dX1_bestOne_44 (by decide) H (fun H => ?_) (fun H => ?_)
      · exact Go.weak (L' := [some (.ref a0), none, some (.int a2), some (.int a3)]) ⟨rfl, ⟨rfl, ⟨rfl, trivial⟩⟩⟩ (X1_bestOne_B49_ok _ hrc9 a0 a2 a3 h109 H)
      · refine go_iload_n (pc := 47) dX1_bestOne_47 rfl rfl ?_
        refine go_istore_n (pc := 48) (L' := [some (.ref a0), none, some (.int a3), some (.int a3)]) dX1_bestOne_48 rfl (Nat.le_of_ble_eq_true rfl) rfl ?_
        exact Go.weak (L' := [some (.ref a0), none, some (.int a3), some (.int a3)]) ⟨rfl, ⟨rfl, ⟨rfl, trivial⟩⟩⟩ (X1_bestOne_B49_ok _ hrc9 a0 a3 a3 h109 H)

def X1_bestOne (a0 : Nat) (a1 : Nat) (h : Hp) : Option (Int32 × Hp) :=
  cVv h a0 1 (X1_findSavings a0 a1 h) fun h1 =>
  X1_bestOne_L9 5000 a0 0 1 h1
theorem X1_bestOne_ok {a0 : Nat} {a1 : Nat} {h h' : Hp} {r : Int32} (H : X1_bestOne a0 a1 h = some (r, h')) : Con M_X1_bestOne [.ref a0, .ref a1] h (some (.int r)) h' := by
  refine con_of_go (by decide) 2 (L := [some (.ref a0), some (.ref a1), none, none]) rfl (Nat.le_of_ble_eq_true rfl) ?_
  unfold X1_bestOne at H
  refine go_aload_n (pc := 0) dX1_bestOne_0 rfl rfl ?_
  refine go_aload_n (pc := 1) dX1_bestOne_1 rfl rfl ?_
  refine go_cVv (pc := 2) (Mz := M_X1_findSavings) (as := [.ref a1]) (a := a0) (st := []) dX1_bestOne_2 wd_993 cv_X1_findSavings X1_findSavings_ok rfl rfl ⟨Nat.le_of_ble_eq_true rfl, Nat.le_of_ble_eq_true rfl⟩ (Nat.le_of_ble_eq_true rfl) ⟨rfl, rfl⟩ ⟨Nat.le_of_ble_eq_true rfl, Nat.le_of_ble_eq_true rfl⟩ H (fun h1 H => ?_)
  refine go_iconst (pc := 5) (v := 0) dX1_bestOne_5 (by decide) ?_
  refine go_istore_n (pc := 6) (L' := [some (.ref a0), some (.ref a1), some (.int 0), none]) dX1_bestOne_6 rfl (Nat.le_of_ble_eq_true rfl) rfl ?_
  refine go_iconst (pc := 7) (v := 1) dX1_bestOne_7 (by decide) ?_
  refine go_istore_n (pc := 8) (L' := [some (.ref a0), some (.ref a1), some (.int 0), some (.int 1)]) dX1_bestOne_8 rfl (Nat.le_of_ble_eq_true rfl) rfl ?_
  exact Go.weak (L' := [some (.ref a0), none, some (.int 0), some (.int 1)]) ⟨rfl, ⟨rfl, ⟨rfl, trivial⟩⟩⟩ (X1_bestOne_L9_ok 5000 a0 0 1 h1 H)

def M_X1_most : MD := (yX1_most, cX1_most, 9, (some .int), 1, 22, 0, 0)
theorem cv_X1_most : CVo M_X1_most 2 1 := ⟨⟨wd_1002, wd_118, ⟨by decide, by decide⟩, by decide +kernel⟩, wd_1001, wd_37, _, rfl, rfl⟩
def X1_most_B120 (rc8 : Nat → Int32 → Int32 → Int32 → Int32 → Int32 → Hp → Option (Int32 × Hp)) (a0 : Nat) (a1 : Int32) (a2 : Int32) (a3 : Int32) (a4 : Int32) (a5 : Int32) (h : Hp) : Option (Int32 × Hp) :=
  rc8 a0 a1 a2 a3 a4 (a5 + 1) h
theorem X1_most_B120_ok {hh h' : Hp} {r : Int32}  (rc8 : Nat → Int32 → Int32 → Int32 → Int32 → Int32 → Hp → Option (Int32 × Hp)) (hrc8 : ∀ (a0 : Nat) (a1 : Int32) (a2 : Int32) (a3 : Int32) (a4 : Int32) (a5 : Int32) (h : Hp), rc8 a0 a1 a2 a3 a4 a5 h = some (r, h') → Go (PM M_X1_most hh (some (.int r)) h') M_X1_most 8 [some (.ref a0), some (.int a1), some (.int a2), some (.int a3), some (.int a4), some (.int a5), none, none, none] [] h 0 0) (a0 : Nat) (a1 : Int32) (a2 : Int32) (a3 : Int32) (a4 : Int32) (a5 : Int32) (h : Hp) (H : X1_most_B120 rc8 a0 a1 a2 a3 a4 a5 h = some (r, h')) : Go (PM M_X1_most hh (some (.int r)) h') M_X1_most 120 [some (.ref a0), some (.int a1), some (.int a2), some (.int a3), some (.int a4), some (.int a5), none, none, none] [] h 0 0 := by
  unfold X1_most_B120 at H
  refine go_iinc (pc := 120) (v := a5 + 1) (L' := [some (.ref a0), some (.int a1), some (.int a2), some (.int a3), some (.int a4), some (.int (a5 + 1)), none, none, none]) dX1_most_120 rfl rfl (Nat.le_of_ble_eq_true rfl) rfl ?_
  refine go_goto (pc := 123) (tgt := 8) dX1_most_123 (by decide) ?_
  exact Go.weak (L' := [some (.ref a0), some (.int a1), some (.int a2), some (.int a3), some (.int a4), some (.int (a5 + 1)), none, none, none]) ⟨rfl, ⟨rfl, ⟨rfl, ⟨rfl, ⟨rfl, ⟨rfl, trivial⟩⟩⟩⟩⟩⟩ (hrc8 a0 a1 a2 a3 a4 (a5 + 1) h H)

def X1_most_B86 (rc8 : Nat → Int32 → Int32 → Int32 → Int32 → Int32 → Hp → Option (Int32 × Hp)) (rc26 : Nat → Int32 → Int32 → Int32 → Int32 → Int32 → Int32 → Int32 → Hp → Option (Int32 × Hp)) (a0 : Nat) (a1 : Int32) (a2 : Int32) (a3 : Int32) (a4 : Int32) (a5 : Int32) (a6 : Int32) (a7 : Int32) (h : Hp) : Option (Int32 × Hp) :=
  rc26 a0 a1 a2 a3 a4 a5 a6 (a7 + 1) h
theorem X1_most_B86_ok {hh h' : Hp} {r : Int32}  (rc8 : Nat → Int32 → Int32 → Int32 → Int32 → Int32 → Hp → Option (Int32 × Hp)) (rc26 : Nat → Int32 → Int32 → Int32 → Int32 → Int32 → Int32 → Int32 → Hp → Option (Int32 × Hp)) (hrc8 : ∀ (a0 : Nat) (a1 : Int32) (a2 : Int32) (a3 : Int32) (a4 : Int32) (a5 : Int32) (h : Hp), rc8 a0 a1 a2 a3 a4 a5 h = some (r, h') → Go (PM M_X1_most hh (some (.int r)) h') M_X1_most 8 [some (.ref a0), some (.int a1), some (.int a2), some (.int a3), some (.int a4), some (.int a5), none, none, none] [] h 0 0) (hrc26 : ∀ (a0 : Nat) (a1 : Int32) (a2 : Int32) (a3 : Int32) (a4 : Int32) (a5 : Int32) (a6 : Int32) (a7 : Int32) (h : Hp), rc26 a0 a1 a2 a3 a4 a5 a6 a7 h = some (r, h') → Go (PM M_X1_most hh (some (.int r)) h') M_X1_most 26 [some (.ref a0), some (.int a1), some (.int a2), some (.int a3), some (.int a4), some (.int a5), some (.int a6), some (.int a7), none] [] h 0 0) (a0 : Nat) (a1 : Int32) (a2 : Int32) (a3 : Int32) (a4 : Int32) (a5 : Int32) (a6 : Int32) (a7 : Int32) (h : Hp) (H : X1_most_B86 rc8 rc26 a0 a1 a2 a3 a4 a5 a6 a7 h = some (r, h')) : Go (PM M_X1_most hh (some (.int r)) h') M_X1_most 86 [some (.ref a0), some (.int a1), some (.int a2), some (.int a3), some (.int a4), some (.int a5), some (.int a6), some (.int a7), none] [] h 0 0 := by
  unfold X1_most_B86 at H
  refine go_iinc (pc := 86) (v := a7 + 1) (L' := [some (.ref a0), some (.int a1), some (.int a2), some (.int a3), some (.int a4), some (.int a5), some (.int a6), some (.int (a7 + 1)), none]) dX1_most_86 rfl rfl (Nat.le_of_ble_eq_true rfl) rfl ?_
  refine go_goto (pc := 89) (tgt := 26) dX1_most_89 (by decide) ?_
  exact Go.weak (L' := [some (.ref a0), some (.int a1), some (.int a2), some (.int a3), some (.int a4), some (.int a5), some (.int a6), some (.int (a7 + 1)), none]) ⟨rfl, ⟨rfl, ⟨rfl, ⟨rfl, ⟨rfl, ⟨rfl, ⟨rfl, ⟨rfl, trivial⟩⟩⟩⟩⟩⟩⟩⟩ (hrc26 a0 a1 a2 a3 a4 a5 a6 (a7 + 1) h H)

def X1_most_B82 (rc8 : Nat → Int32 → Int32 → Int32 → Int32 → Int32 → Hp → Option (Int32 × Hp)) (rc26 : Nat → Int32 → Int32 → Int32 → Int32 → Int32 → Int32 → Int32 → Hp → Option (Int32 × Hp)) (a0 : Nat) (a1 : Int32) (a2 : Int32) (a3 : Int32) (a4 : Int32) (a5 : Int32) (a7 : Int32) (h : Hp) : Option (Int32 × Hp) :=
  X1_most_B86 rc8 rc26 a0 a1 a2 a3 a4 a5 a7 a7 h
theorem X1_most_B82_ok {hh h' : Hp} {r : Int32}  (rc8 : Nat → Int32 → Int32 → Int32 → Int32 → Int32 → Hp → Option (Int32 × Hp)) (rc26 : Nat → Int32 → Int32 → Int32 → Int32 → Int32 → Int32 → Int32 → Hp → Option (Int32 × Hp)) (hrc8 : ∀ (a0 : Nat) (a1 : Int32) (a2 : Int32) (a3 : Int32) (a4 : Int32) (a5 : Int32) (h : Hp), rc8 a0 a1 a2 a3 a4 a5 h = some (r, h') → Go (PM M_X1_most hh (some (.int r)) h') M_X1_most 8 [some (.ref a0), some (.int a1), some (.int a2), some (.int a3), some (.int a4), some (.int a5), none, none, none] [] h 0 0) (hrc26 : ∀ (a0 : Nat) (a1 : Int32) (a2 : Int32) (a3 : Int32) (a4 : Int32) (a5 : Int32) (a6 : Int32) (a7 : Int32) (h : Hp), rc26 a0 a1 a2 a3 a4 a5 a6 a7 h = some (r, h') → Go (PM M_X1_most hh (some (.int r)) h') M_X1_most 26 [some (.ref a0), some (.int a1), some (.int a2), some (.int a3), some (.int a4), some (.int a5), some (.int a6), some (.int a7), none] [] h 0 0) (a0 : Nat) (a1 : Int32) (a2 : Int32) (a3 : Int32) (a4 : Int32) (a5 : Int32) (a7 : Int32) (h : Hp) (H : X1_most_B82 rc8 rc26 a0 a1 a2 a3 a4 a5 a7 h = some (r, h')) : Go (PM M_X1_most hh (some (.int r)) h') M_X1_most 82 [some (.ref a0), some (.int a1), some (.int a2), some (.int a3), some (.int a4), some (.int a5), none, some (.int a7), none] [] h 0 0 := by
  unfold X1_most_B82 at H
  refine go_iload (pc := 82) dX1_most_82 rfl ?_
  refine go_istore (pc := 84) (L' := [some (.ref a0), some (.int a1), some (.int a2), some (.int a3), some (.int a4), some (.int a5), some (.int a7), some (.int a7), none]) dX1_most_84 (Nat.le_of_ble_eq_true rfl) rfl ?_
  exact Go.weak (L' := [some (.ref a0), some (.int a1), some (.int a2), some (.int a3), some (.int a4), some (.int a5), some (.int a7), some (.int a7), none]) ⟨rfl, ⟨rfl, ⟨rfl, ⟨rfl, ⟨rfl, ⟨rfl, ⟨rfl, ⟨rfl, trivial⟩⟩⟩⟩⟩⟩⟩⟩ (X1_most_B86_ok _ _ hrc8 hrc26 a0 a1 a2 a3 a4 a5 a7 a7 h H)

def X1_most_B46 (rc8 : Nat → Int32 → Int32 → Int32 → Int32 → Int32 → Hp → Option (Int32 × Hp)) (rc26 : Nat → Int32 → Int32 → Int32 → Int32 → Int32 → Int32 → Int32 → Hp → Option (Int32 × Hp)) (a0 : Nat) (a1 : Int32) (a2 : Int32) (a3 : Int32) (a4 : Int32) (a5 : Int32) (a6 : Int32) (a7 : Int32) (s0 : Int32) (h : Hp) : Option (Int32 × Hp) :=
  if s0 = 0 then (
    X1_most_B86 rc8 rc26 a0 a1 a2 a3 a4 a5 a6 a7 h)
  else (
    if a6 = (-1) then (
      X1_most_B82 rc8 rc26 a0 a1 a2 a3 a4 a5 a7 h)
    else (
      (gR h a0 1 1).bind fun v401 =>
      cV h v401 8 (X8_cell v401 a7 0 h) fun v403 h402 =>
      (gR h402 a0 1 1).bind fun v404 =>
      cV h402 v404 8 (X8_cell v404 a6 0 h402) fun v406 h405 =>
      if v403 ≤ v406 then (
        X1_most_B86 rc8 rc26 a0 a1 a2 a3 a4 a5 a6 a7 h405)
      else (
        X1_most_B82 rc8 rc26 a0 a1 a2 a3 a4 a5 a7 h405)))
theorem X1_most_B46_ok {hh h' : Hp} {r : Int32}  (rc8 : Nat → Int32 → Int32 → Int32 → Int32 → Int32 → Hp → Option (Int32 × Hp)) (rc26 : Nat → Int32 → Int32 → Int32 → Int32 → Int32 → Int32 → Int32 → Hp → Option (Int32 × Hp)) (hrc8 : ∀ (a0 : Nat) (a1 : Int32) (a2 : Int32) (a3 : Int32) (a4 : Int32) (a5 : Int32) (h : Hp), rc8 a0 a1 a2 a3 a4 a5 h = some (r, h') → Go (PM M_X1_most hh (some (.int r)) h') M_X1_most 8 [some (.ref a0), some (.int a1), some (.int a2), some (.int a3), some (.int a4), some (.int a5), none, none, none] [] h 0 0) (hrc26 : ∀ (a0 : Nat) (a1 : Int32) (a2 : Int32) (a3 : Int32) (a4 : Int32) (a5 : Int32) (a6 : Int32) (a7 : Int32) (h : Hp), rc26 a0 a1 a2 a3 a4 a5 a6 a7 h = some (r, h') → Go (PM M_X1_most hh (some (.int r)) h') M_X1_most 26 [some (.ref a0), some (.int a1), some (.int a2), some (.int a3), some (.int a4), some (.int a5), some (.int a6), some (.int a7), none] [] h 0 0) (a0 : Nat) (a1 : Int32) (a2 : Int32) (a3 : Int32) (a4 : Int32) (a5 : Int32) (a6 : Int32) (a7 : Int32) (s0 : Int32) (h : Hp) (H : X1_most_B46 rc8 rc26 a0 a1 a2 a3 a4 a5 a6 a7 s0 h = some (r, h')) : Go (PM M_X1_most hh (some (.int r)) h') M_X1_most 46 [some (.ref a0), some (.int a1), some (.int a2), some (.int a3), some (.int a4), some (.int a5), some (.int a6), some (.int a7), none] [.int s0] h 0 0 := by
  unfold X1_most_B46 at H
  refine go_istore (pc := 46) (L' := [some (.ref a0), some (.int a1), some (.int a2), some (.int a3), some (.int a4), some (.int a5), some (.int a6), some (.int a7), some (.int s0)]) dX1_most_46 (Nat.le_of_ble_eq_true rfl) rfl ?_
  refine go_iload (pc := 48) dX1_most_48 rfl ?_
  refine go_if_eq (pc := 50) (tgt := 86) dX1_most_50 (by decide) H (fun H => ?_) (fun H => ?_)
  · exact Go.weak (L' := [some (.ref a0), some (.int a1), some (.int a2), some (.int a3), some (.int a4), some (.int a5), some (.int a6), some (.int a7), none]) ⟨rfl, ⟨rfl, ⟨rfl, ⟨rfl, ⟨rfl, ⟨rfl, ⟨rfl, ⟨rfl, trivial⟩⟩⟩⟩⟩⟩⟩⟩ (X1_most_B86_ok _ _ hrc8 hrc26 a0 a1 a2 a3 a4 a5 a6 a7 h H)
  · refine go_iload (pc := 53) dX1_most_53 rfl ?_
    refine go_iconst (pc := 55) (v := (-1)) dX1_most_55 (by decide) ?_
    refine go_icmp_eq (pc := 56) (tgt := 82) dX1_most_56 (by decide) H (fun H => ?_) (fun H => ?_)
    · exact Go.weak (L' := [some (.ref a0), some (.int a1), some (.int a2), some (.int a3), some (.int a4), some (.int a5), none, some (.int a7), none]) ⟨rfl, ⟨rfl, ⟨rfl, ⟨rfl, ⟨rfl, ⟨rfl, ⟨rfl, trivial⟩⟩⟩⟩⟩⟩⟩ (X1_most_B82_ok _ _ hrc8 hrc26 a0 a1 a2 a3 a4 a5 a7 h H)
    · refine go_aload_n (pc := 59) dX1_most_59 rfl rfl ?_
      refine go_getR (pc := 60) dX1_most_60 fl_X1_14 H (fun v401 H => ?_)
      refine go_iload (pc := 63) dX1_most_63 rfl ?_
      refine go_iconst (pc := 65) (v := 0) dX1_most_65 (by decide) ?_
      refine go_cVi (pc := 66) (Mz := M_X8_cell) (as := [.int a7, .int 0]) (a := v401) (st := []) dX1_most_66 wd_1003 cv_X8_cell X8_cell_ok rfl rfl ⟨Nat.le_of_ble_eq_true rfl, Nat.le_of_ble_eq_true rfl⟩ (Nat.le_of_ble_eq_true rfl) ⟨rfl, rfl⟩ ⟨Nat.le_of_ble_eq_true rfl, Nat.le_of_ble_eq_true rfl⟩ H (fun v403 h402 H => ?_)
      refine go_aload_n (pc := 69) dX1_most_69 rfl rfl ?_
      refine go_getR (pc := 70) dX1_most_70 fl_X1_14 H (fun v404 H => ?_)
      refine go_iload (pc := 73) dX1_most_73 rfl ?_
      refine go_iconst (pc := 75) (v := 0) dX1_most_75 (by decide) ?_
      refine go_cVi (pc := 76) (Mz := M_X8_cell) (as := [.int a6, .int 0]) (a := v404) (st := [.int v403]) dX1_most_76 wd_1003 cv_X8_cell X8_cell_ok rfl rfl ⟨Nat.le_of_ble_eq_true rfl, Nat.le_of_ble_eq_true rfl⟩ (Nat.le_of_ble_eq_true rfl) ⟨rfl, rfl⟩ ⟨Nat.le_of_ble_eq_true rfl, Nat.le_of_ble_eq_true rfl⟩ H (fun v406 h405 H => ?_)
      refine go_icmp_le (pc := 79) (tgt := 86) dX1_most_79 (by decide) H (fun H => ?_) (fun H => ?_)
      · exact Go.weak (L' := [some (.ref a0), some (.int a1), some (.int a2), some (.int a3), some (.int a4), some (.int a5), some (.int a6), some (.int a7), none]) ⟨rfl, ⟨rfl, ⟨rfl, ⟨rfl, ⟨rfl, ⟨rfl, ⟨rfl, ⟨rfl, trivial⟩⟩⟩⟩⟩⟩⟩⟩ (X1_most_B86_ok _ _ hrc8 hrc26 a0 a1 a2 a3 a4 a5 a6 a7 h405 H)
      · exact Go.weak (L' := [some (.ref a0), some (.int a1), some (.int a2), some (.int a3), some (.int a4), some (.int a5), none, some (.int a7), none]) ⟨rfl, ⟨rfl, ⟨rfl, ⟨rfl, ⟨rfl, ⟨rfl, ⟨rfl, trivial⟩⟩⟩⟩⟩⟩⟩ (X1_most_B82_ok _ _ hrc8 hrc26 a0 a1 a2 a3 a4 a5 a7 h405 H)

def X1_most_L26_s (rc8 : Nat → Int32 → Int32 → Int32 → Int32 → Int32 → Hp → Option (Int32 × Hp)) (rc26 : Nat → Int32 → Int32 → Int32 → Int32 → Int32 → Int32 → Int32 → Hp → Option (Int32 × Hp)) (a0 : Nat) (a1 : Int32) (a2 : Int32) (a3 : Int32) (a4 : Int32) (a5 : Int32) (a6 : Int32) (a7 : Int32) (h : Hp) : Option (Int32 × Hp) :=
  if a1 ≤ a7 then (
    if a6 = (-1) then (
      X1_most_B120 rc8 a0 a1 a2 a3 a4 a5 h)
    else (
      pin (a3 ||| ((1 : Int32) <<< (a6 &&& 31))) fun v201 =>
      (gR h a0 1 1).bind fun v202 =>
      cV h v202 8 (X8_cell v202 a6 0 h) fun v204 h203 =>
      pin (a4 + v204) fun v205 =>
      X1_most_B120 rc8 a0 a1 a2 v201 v205 a5 h203))
  else (
    if ((a3 >>> (a7 &&& 31)) &&& 1) = 0 then (
      X1_most_B46 rc8 rc26 a0 a1 a2 a3 a4 a5 a6 a7 1 h)
    else (
      X1_most_B46 rc8 rc26 a0 a1 a2 a3 a4 a5 a6 a7 0 h))
def X1_most_L26 (rc8 : Nat → Int32 → Int32 → Int32 → Int32 → Int32 → Hp → Option (Int32 × Hp)) (q : Nat) : Nat → Int32 → Int32 → Int32 → Int32 → Int32 → Int32 → Int32 → Hp → Option (Int32 × Hp) := loopN (fun _ _ _ _ _ _ _ _ _ => none) (X1_most_L26_s rc8) q
theorem X1_most_L26_ok {hh h' : Hp} {r : Int32}  (rc8 : Nat → Int32 → Int32 → Int32 → Int32 → Int32 → Hp → Option (Int32 × Hp)) (hrc8 : ∀ (a0 : Nat) (a1 : Int32) (a2 : Int32) (a3 : Int32) (a4 : Int32) (a5 : Int32) (h : Hp), rc8 a0 a1 a2 a3 a4 a5 h = some (r, h') → Go (PM M_X1_most hh (some (.int r)) h') M_X1_most 8 [some (.ref a0), some (.int a1), some (.int a2), some (.int a3), some (.int a4), some (.int a5), none, none, none] [] h 0 0) : ∀ (q : Nat) (a0 : Nat) (a1 : Int32) (a2 : Int32) (a3 : Int32) (a4 : Int32) (a5 : Int32) (a6 : Int32) (a7 : Int32) (h : Hp), X1_most_L26 rc8 q a0 a1 a2 a3 a4 a5 a6 a7 h = some (r, h') → Go (PM M_X1_most hh (some (.int r)) h') M_X1_most 26 [some (.ref a0), some (.int a1), some (.int a2), some (.int a3), some (.int a4), some (.int a5), some (.int a6), some (.int a7), none] [] h 0 0 := by
  intro q
  induction q with
  | zero => intro a0 a1 a2 a3 a4 a5 a6 a7 h H; cases H
  | succ q hrc26 =>
    intro a0 a1 a2 a3 a4 a5 a6 a7 h H
    replace H : X1_most_L26_s rc8 (X1_most_L26 rc8 q) a0 a1 a2 a3 a4 a5 a6 a7 h = some (r, h') := H
    unfold X1_most_L26_s at H
    refine go_iload (pc := 26) dX1_most_26 rfl ?_
    refine go_iload_n (pc := 28) dX1_most_28 rfl rfl ?_
    refine go_icmp_ge (pc := 29) (tgt := 92) dX1_most_29 (by decide) H (fun H => ?_) (fun H => ?_)
    · refine go_iload (pc := 92) dX1_most_92 rfl ?_
      refine go_iconst (pc := 94) (v := (-1)) dX1_most_94 (by decide) ?_
      refine go_icmp_eq (pc := 95) (tgt := 120) dX1_most_95 (by decide) H (fun H => ?_) (fun H => ?_)
      · exact Go.weak (L' := [some (.ref a0), some (.int a1), some (.int a2), some (.int a3), some (.int a4), some (.int a5), none, none, none]) ⟨rfl, ⟨rfl, ⟨rfl, ⟨rfl, ⟨rfl, ⟨rfl, trivial⟩⟩⟩⟩⟩⟩ (X1_most_B120_ok _ hrc8 a0 a1 a2 a3 a4 a5 h H)
      · refine go_iload_n (pc := 98) dX1_most_98 rfl rfl ?_
        refine go_iconst (pc := 99) (v := 1) dX1_most_99 (by decide) ?_
        refine go_iload (pc := 100) dX1_most_100 rfl ?_
        refine go_ishl (pc := 102) dX1_most_102 ?_
        refine go_ior (pc := 103) dX1_most_103 ?_
        refine go_pin H (fun v201 H => ?_)
        refine go_istore_n (pc := 104) (L' := [some (.ref a0), some (.int a1), some (.int a2), some (.int v201), some (.int a4), some (.int a5), some (.int a6), some (.int a7), none]) dX1_most_104 rfl (Nat.le_of_ble_eq_true rfl) rfl ?_
        refine go_iload (pc := 105) dX1_most_105 rfl ?_
        refine go_aload_n (pc := 107) dX1_most_107 rfl rfl ?_
        refine go_getR (pc := 108) dX1_most_108 fl_X1_14 H (fun v202 H => ?_)
        refine go_iload (pc := 111) dX1_most_111 rfl ?_
        refine go_iconst (pc := 113) (v := 0) dX1_most_113 (by decide) ?_
        refine go_cVi (pc := 114) (Mz := M_X8_cell) (as := [.int a6, .int 0]) (a := v202) (st := [.int a4]) dX1_most_114 wd_1003 cv_X8_cell X8_cell_ok rfl rfl ⟨Nat.le_of_ble_eq_true rfl, Nat.le_of_ble_eq_true rfl⟩ (Nat.le_of_ble_eq_true rfl) ⟨rfl, rfl⟩ ⟨Nat.le_of_ble_eq_true rfl, Nat.le_of_ble_eq_true rfl⟩ H (fun v204 h203 H => ?_)
        refine go_iadd (pc := 117) dX1_most_117 ?_
        refine go_pin H (fun v205 H => ?_)
        refine go_istore (pc := 118) (L' := [some (.ref a0), some (.int a1), some (.int a2), some (.int v201), some (.int v205), some (.int a5), some (.int a6), some (.int a7), none]) dX1_most_118 (Nat.le_of_ble_eq_true rfl) rfl ?_
        exact Go.weak (L' := [some (.ref a0), some (.int a1), some (.int a2), some (.int v201), some (.int v205), some (.int a5), none, none, none]) ⟨rfl, ⟨rfl, ⟨rfl, ⟨rfl, ⟨rfl, ⟨rfl, trivial⟩⟩⟩⟩⟩⟩ (X1_most_B120_ok _ hrc8 a0 a1 a2 v201 v205 a5 h203 H)
    · refine go_iload_n (pc := 32) dX1_most_32 rfl rfl ?_
      refine go_iload (pc := 33) dX1_most_33 rfl ?_
      refine go_ishr (pc := 35) dX1_most_35 ?_
      refine go_iconst (pc := 36) (v := 1) dX1_most_36 (by decide) ?_
      refine go_iand (pc := 37) dX1_most_37 ?_
      refine go_if_ne (pc := 38) (tgt := 45) dX1_most_38 (by decide) H (fun H => ?_) (fun H => ?_)
      · refine go_iconst (pc := 45) (v := 0) dX1_most_45 (by decide) ?_
        exact Go.weak (L' := [some (.ref a0), some (.int a1), some (.int a2), some (.int a3), some (.int a4), some (.int a5), some (.int a6), some (.int a7), none]) ⟨rfl, ⟨rfl, ⟨rfl, ⟨rfl, ⟨rfl, ⟨rfl, ⟨rfl, ⟨rfl, trivial⟩⟩⟩⟩⟩⟩⟩⟩ (X1_most_B46_ok _ _ hrc8 hrc26 a0 a1 a2 a3 a4 a5 a6 a7 0 h H)
      · refine go_iconst (pc := 41) (v := 1) dX1_most_41 (by decide) ?_
        refine go_goto (pc := 42) (tgt := 46) dX1_most_42 (by decide) ?_
        exact Go.weak (L' := [some (.ref a0), some (.int a1), some (.int a2), some (.int a3), some (.int a4), some (.int a5), some (.int a6), some (.int a7), none]) ⟨rfl, ⟨rfl, ⟨rfl, ⟨rfl, ⟨rfl, ⟨rfl, ⟨rfl, ⟨rfl, trivial⟩⟩⟩⟩⟩⟩⟩⟩ (X1_most_B46_ok _ _ hrc8 hrc26 a0 a1 a2 a3 a4 a5 a6 a7 1 h H)

def X1_most_L8_s (rc8 : Nat → Int32 → Int32 → Int32 → Int32 → Int32 → Hp → Option (Int32 × Hp)) (a0 : Nat) (a1 : Int32) (a2 : Int32) (a3 : Int32) (a4 : Int32) (a5 : Int32) (h : Hp) : Option (Int32 × Hp) :=
  if a2 ≤ a5 then (
    some (a4, h))
  else (
    if a1 ≤ a5 then (
      some (a4, h))
    else (
      X1_most_L26 rc8 5000 a0 a1 a2 a3 a4 a5 (-1) 0 h))
def X1_most_L8 (q : Nat) : Nat → Int32 → Int32 → Int32 → Int32 → Int32 → Hp → Option (Int32 × Hp) := loopN (fun _ _ _ _ _ _ _ => none) (X1_most_L8_s) q
theorem X1_most_L8_ok {hh h' : Hp} {r : Int32}  : ∀ (q : Nat) (a0 : Nat) (a1 : Int32) (a2 : Int32) (a3 : Int32) (a4 : Int32) (a5 : Int32) (h : Hp), X1_most_L8 q a0 a1 a2 a3 a4 a5 h = some (r, h') → Go (PM M_X1_most hh (some (.int r)) h') M_X1_most 8 [some (.ref a0), some (.int a1), some (.int a2), some (.int a3), some (.int a4), some (.int a5), none, none, none] [] h 0 0 := by
  intro q
  induction q with
  | zero => intro a0 a1 a2 a3 a4 a5 h H; cases H
  | succ q hrc8 =>
    intro a0 a1 a2 a3 a4 a5 h H
    replace H : X1_most_L8_s (X1_most_L8 q) a0 a1 a2 a3 a4 a5 h = some (r, h') := H
    unfold X1_most_L8_s at H
    refine go_iload (pc := 8) dX1_most_8 rfl ?_
    refine go_iload_n (pc := 10) dX1_most_10 rfl rfl ?_
    refine go_icmp_ge (pc := 11) (tgt := 126) dX1_most_11 (by decide) H (fun H => ?_) (fun H => ?_)
    · refine go_iload (pc := 126) dX1_most_126 rfl ?_
      exact go_iret (pc := 128) dX1_most_128 rfl ⟨Nat.le_of_ble_eq_true rfl, Nat.le_of_ble_eq_true rfl⟩ H
    · refine go_iload (pc := 14) dX1_most_14 rfl ?_
      refine go_iload_n (pc := 16) dX1_most_16 rfl rfl ?_
      refine go_icmp_ge (pc := 17) (tgt := 126) dX1_most_17 (by decide) H (fun H => ?_) (fun H => ?_)
      · refine go_iload (pc := 126) dX1_most_126 rfl ?_
        exact go_iret (pc := 128) dX1_most_128 rfl ⟨Nat.le_of_ble_eq_true rfl, Nat.le_of_ble_eq_true rfl⟩ H
      · refine go_iconst (pc := 20) (v := (-1)) dX1_most_20 (by decide) ?_
        refine go_istore (pc := 21) (L' := [some (.ref a0), some (.int a1), some (.int a2), some (.int a3), some (.int a4), some (.int a5), some (.int (-1)), none, none]) dX1_most_21 (Nat.le_of_ble_eq_true rfl) rfl ?_
        refine go_iconst (pc := 23) (v := 0) dX1_most_23 (by decide) ?_
        refine go_istore (pc := 24) (L' := [some (.ref a0), some (.int a1), some (.int a2), some (.int a3), some (.int a4), some (.int a5), some (.int (-1)), some (.int 0), none]) dX1_most_24 (Nat.le_of_ble_eq_true rfl) rfl ?_
        exact Go.weak (L' := [some (.ref a0), some (.int a1), some (.int a2), some (.int a3), some (.int a4), some (.int a5), some (.int (-1)), some (.int 0), none]) ⟨rfl, ⟨rfl, ⟨rfl, ⟨rfl, ⟨rfl, ⟨rfl, ⟨rfl, ⟨rfl, trivial⟩⟩⟩⟩⟩⟩⟩⟩ (X1_most_L26_ok _ hrc8 5000 a0 a1 a2 a3 a4 a5 (-1) 0 h H)

def X1_most (a0 : Nat) (a1 : Int32) (a2 : Int32) (h : Hp) : Option (Int32 × Hp) :=
  X1_most_L8 5000 a0 a1 a2 0 0 0 h
theorem X1_most_ok {a0 : Nat} {a1 : Int32} {a2 : Int32} {h h' : Hp} {r : Int32} (H : X1_most a0 a1 a2 h = some (r, h')) : Con M_X1_most [.ref a0, .int a1, .int a2] h (some (.int r)) h' := by
  refine con_of_go (by decide) 6 (L := [some (.ref a0), some (.int a1), some (.int a2), none, none, none, none, none, none]) rfl (Nat.le_of_ble_eq_true rfl) ?_
  unfold X1_most at H
  refine go_iconst (pc := 0) (v := 0) dX1_most_0 (by decide) ?_
  refine go_istore_n (pc := 1) (L' := [some (.ref a0), some (.int a1), some (.int a2), some (.int 0), none, none, none, none, none]) dX1_most_1 rfl (Nat.le_of_ble_eq_true rfl) rfl ?_
  refine go_iconst (pc := 2) (v := 0) dX1_most_2 (by decide) ?_
  refine go_istore (pc := 3) (L' := [some (.ref a0), some (.int a1), some (.int a2), some (.int 0), some (.int 0), none, none, none, none]) dX1_most_3 (Nat.le_of_ble_eq_true rfl) rfl ?_
  refine go_iconst (pc := 5) (v := 0) dX1_most_5 (by decide) ?_
  refine go_istore (pc := 6) (L' := [some (.ref a0), some (.int a1), some (.int a2), some (.int 0), some (.int 0), some (.int 0), none, none, none]) dX1_most_6 (Nat.le_of_ble_eq_true rfl) rfl ?_
  exact Go.weak (L' := [some (.ref a0), some (.int a1), some (.int a2), some (.int 0), some (.int 0), some (.int 0), none, none, none]) ⟨rfl, ⟨rfl, ⟨rfl, ⟨rfl, ⟨rfl, ⟨rfl, trivial⟩⟩⟩⟩⟩⟩ (X1_most_L8_ok 5000 a0 a1 a2 0 0 0 h H)

def M_X1_fewestFor : MD := (yX1_fewestFor, cX1_fewestFor, 8, (some .int), 5, 116, 0, 0)
theorem cv_X1_fewestFor : CVo M_X1_fewestFor 2 1 := ⟨⟨wd_981, wd_118, ⟨by decide, by decide⟩, by decide +kernel⟩, wd_979, wd_980, _, rfl, rfl⟩
def X1_fewestFor_B134 (rc84 : Nat → Int32 → Int32 → Int32 → Int32 → Hp → Option (Int32 × Hp)) (a0 : Nat) (a4 : Int32) (a5 : Int32) (a6 : Int32) (a7 : Int32) (h : Hp) : Option (Int32 × Hp) :=
  rc84 a0 a4 a5 a6 (a7 + (-1)) h
theorem X1_fewestFor_B134_ok {hh h' : Hp} {r : Int32}  (rc84 : Nat → Int32 → Int32 → Int32 → Int32 → Hp → Option (Int32 × Hp)) (hrc84 : ∀ (a0 : Nat) (a4 : Int32) (a5 : Int32) (a6 : Int32) (a7 : Int32) (h : Hp), rc84 a0 a4 a5 a6 a7 h = some (r, h') → Go (PM M_X1_fewestFor hh (some (.int r)) h') M_X1_fewestFor 84 [some (.ref a0), none, none, none, some (.int a4), some (.int a5), some (.int a6), some (.int a7)] [] h 0 0) (a0 : Nat) (a4 : Int32) (a5 : Int32) (a6 : Int32) (a7 : Int32) (h : Hp) (H : X1_fewestFor_B134 rc84 a0 a4 a5 a6 a7 h = some (r, h')) : Go (PM M_X1_fewestFor hh (some (.int r)) h') M_X1_fewestFor 134 [some (.ref a0), none, none, none, some (.int a4), some (.int a5), some (.int a6), some (.int a7)] [] h 0 0 := by
  unfold X1_fewestFor_B134 at H
  refine go_iinc (pc := 134) (v := a7 + (-1)) (L' := [some (.ref a0), none, none, none, some (.int a4), some (.int a5), some (.int a6), some (.int (a7 + (-1)))]) dX1_fewestFor_134 rfl rfl (Nat.le_of_ble_eq_true rfl) rfl ?_
  refine go_goto (pc := 137) (tgt := 84) dX1_fewestFor_137 (by decide) ?_
  exact Go.weak (L' := [some (.ref a0), none, none, none, some (.int a4), some (.int a5), some (.int a6), some (.int (a7 + (-1)))]) ⟨rfl, ⟨rfl, ⟨rfl, ⟨rfl, ⟨rfl, trivial⟩⟩⟩⟩⟩ (hrc84 a0 a4 a5 a6 (a7 + (-1)) h H)

def X1_fewestFor_L84_s (rc84 : Nat → Int32 → Int32 → Int32 → Int32 → Hp → Option (Int32 × Hp)) (a0 : Nat) (a4 : Int32) (a5 : Int32) (a6 : Int32) (a7 : Int32) (h : Hp) : Option (Int32 × Hp) :=
  if a7 < 0 then (
    some (a6, h))
  else (
    if a5 ≤ 0 then (
      some (a6, h))
    else (
      cV h a0 1 (X1_most a0 a7 a5 h) fun v302 h301 =>
      if a4 ≤ v302 then (
        X1_fewestFor_B134 rc84 a0 a4 a5 a6 a7 h301)
      else (
        pin (a6 ||| ((1 : Int32) <<< (a7 &&& 31))) fun v303 =>
        (gR h301 a0 1 1).bind fun v304 =>
        cV h301 v304 8 (X8_cell v304 a7 0 h301) fun v306 h305 =>
        pin (a4 - v306) fun v307 =>
        X1_fewestFor_B134 rc84 a0 v307 (a5 + (-1)) v303 a7 h305)))
def X1_fewestFor_L84 (q : Nat) : Nat → Int32 → Int32 → Int32 → Int32 → Hp → Option (Int32 × Hp) := loopN (fun _ _ _ _ _ _ => none) (X1_fewestFor_L84_s) q
theorem X1_fewestFor_L84_ok {hh h' : Hp} {r : Int32}  : ∀ (q : Nat) (a0 : Nat) (a4 : Int32) (a5 : Int32) (a6 : Int32) (a7 : Int32) (h : Hp), X1_fewestFor_L84 q a0 a4 a5 a6 a7 h = some (r, h') → Go (PM M_X1_fewestFor hh (some (.int r)) h') M_X1_fewestFor 84 [some (.ref a0), none, none, none, some (.int a4), some (.int a5), some (.int a6), some (.int a7)] [] h 0 0 := by
  intro q
  induction q with
  | zero => intro a0 a4 a5 a6 a7 h H; cases H
  | succ q hrc84 =>
    intro a0 a4 a5 a6 a7 h H
    replace H : X1_fewestFor_L84_s (X1_fewestFor_L84 q) a0 a4 a5 a6 a7 h = some (r, h') := H
    unfold X1_fewestFor_L84_s at H
    refine go_iload (pc := 84) dX1_fewestFor_84 rfl ?_
    refine go_if_lt (pc := 86) (tgt := 140) dX1_fewestFor_86 (by decide) H (fun H => ?_) (fun H => ?_)
    · refine go_iload (pc := 140) dX1_fewestFor_140 rfl ?_
      exact go_iret (pc := 142) dX1_fewestFor_142 rfl ⟨Nat.le_of_ble_eq_true rfl, Nat.le_of_ble_eq_true rfl⟩ H
    · refine go_iload (pc := 89) dX1_fewestFor_89 rfl ?_
      refine go_if_le (pc := 91) (tgt := 140) dX1_fewestFor_91 (by decide) H (fun H => ?_) (fun H => ?_)
      · refine go_iload (pc := 140) dX1_fewestFor_140 rfl ?_
        exact go_iret (pc := 142) dX1_fewestFor_142 rfl ⟨Nat.le_of_ble_eq_true rfl, Nat.le_of_ble_eq_true rfl⟩ H
      · refine go_aload_n (pc := 94) dX1_fewestFor_94 rfl rfl ?_
        refine go_iload (pc := 95) dX1_fewestFor_95 rfl ?_
        refine go_iload (pc := 97) dX1_fewestFor_97 rfl ?_
        refine go_cVi (pc := 99) (Mz := M_X1_most) (as := [.int a7, .int a5]) (a := a0) (st := []) dX1_fewestFor_99 wd_999 cv_X1_most X1_most_ok rfl rfl ⟨Nat.le_of_ble_eq_true rfl, Nat.le_of_ble_eq_true rfl⟩ (Nat.le_of_ble_eq_true rfl) ⟨rfl, rfl⟩ ⟨Nat.le_of_ble_eq_true rfl, Nat.le_of_ble_eq_true rfl⟩ H (fun v302 h301 H => ?_)
        refine go_iload (pc := 102) dX1_fewestFor_102 rfl ?_
        refine go_icmp_ge (pc := 104) (tgt := 134) dX1_fewestFor_104 (by decide) H (fun H => ?_) (fun H => ?_)
        · exact Go.weak (L' := [some (.ref a0), none, none, none, some (.int a4), some (.int a5), some (.int a6), some (.int a7)]) ⟨rfl, ⟨rfl, ⟨rfl, ⟨rfl, ⟨rfl, trivial⟩⟩⟩⟩⟩ (X1_fewestFor_B134_ok _ hrc84 a0 a4 a5 a6 a7 h301 H)
        · refine go_iload (pc := 107) dX1_fewestFor_107 rfl ?_
          refine go_iconst (pc := 109) (v := 1) dX1_fewestFor_109 (by decide) ?_
          refine go_iload (pc := 110) dX1_fewestFor_110 rfl ?_
          refine go_ishl (pc := 112) dX1_fewestFor_112 ?_
          refine go_ior (pc := 113) dX1_fewestFor_113 ?_
          refine go_pin H (fun v303 H => ?_)
          refine go_istore (pc := 114) (L' := [some (.ref a0), none, none, none, some (.int a4), some (.int a5), some (.int v303), some (.int a7)]) dX1_fewestFor_114 (Nat.le_of_ble_eq_true rfl) rfl ?_
          refine go_iinc (pc := 116) (v := a5 + (-1)) (L' := [some (.ref a0), none, none, none, some (.int a4), some (.int (a5 + (-1))), some (.int v303), some (.int a7)]) dX1_fewestFor_116 rfl rfl (Nat.le_of_ble_eq_true rfl) rfl ?_
          refine go_iload (pc := 119) dX1_fewestFor_119 rfl ?_
          refine go_aload_n (pc := 121) dX1_fewestFor_121 rfl rfl ?_
          refine go_getR (pc := 122) dX1_fewestFor_122 fl_X1_14 H (fun v304 H => ?_)
          refine go_iload (pc := 125) dX1_fewestFor_125 rfl ?_
          refine go_iconst (pc := 127) (v := 0) dX1_fewestFor_127 (by decide) ?_
          refine go_cVi (pc := 128) (Mz := M_X8_cell) (as := [.int a7, .int 0]) (a := v304) (st := [.int a4]) dX1_fewestFor_128 wd_1003 cv_X8_cell X8_cell_ok rfl rfl ⟨Nat.le_of_ble_eq_true rfl, Nat.le_of_ble_eq_true rfl⟩ (Nat.le_of_ble_eq_true rfl) ⟨rfl, rfl⟩ ⟨Nat.le_of_ble_eq_true rfl, Nat.le_of_ble_eq_true rfl⟩ H (fun v306 h305 H => ?_)
          refine go_isub (pc := 131) dX1_fewestFor_131 ?_
          refine go_pin H (fun v307 H => ?_)
          refine go_istore (pc := 132) (L' := [some (.ref a0), none, none, none, some (.int v307), some (.int (a5 + (-1))), some (.int v303), some (.int a7)]) dX1_fewestFor_132 (Nat.le_of_ble_eq_true rfl) rfl ?_
          exact Go.weak (L' := [some (.ref a0), none, none, none, some (.int v307), some (.int (a5 + (-1))), some (.int v303), some (.int a7)]) ⟨rfl, ⟨rfl, ⟨rfl, ⟨rfl, ⟨rfl, trivial⟩⟩⟩⟩⟩ (X1_fewestFor_B134_ok _ hrc84 a0 v307 (a5 + (-1)) v303 a7 h305 H)

def X1_fewestFor_B76 (a0 : Nat) (a3 : Int32) (a4 : Int32) (a5 : Int32) (h : Hp) : Option (Int32 × Hp) :=
  pin (a3 - 1) fun v201 =>
  X1_fewestFor_L84 5000 a0 a4 a5 0 v201 h
theorem X1_fewestFor_B76_ok {hh h' : Hp} {r : Int32}  (a0 : Nat) (a3 : Int32) (a4 : Int32) (a5 : Int32) (h : Hp) (H : X1_fewestFor_B76 a0 a3 a4 a5 h = some (r, h')) : Go (PM M_X1_fewestFor hh (some (.int r)) h') M_X1_fewestFor 76 [some (.ref a0), none, none, some (.int a3), some (.int a4), some (.int a5), none, none] [] h 0 0 := by
  unfold X1_fewestFor_B76 at H
  refine go_iconst (pc := 76) (v := 0) dX1_fewestFor_76 (by decide) ?_
  refine go_istore (pc := 77) (L' := [some (.ref a0), none, none, some (.int a3), some (.int a4), some (.int a5), some (.int 0), none]) dX1_fewestFor_77 (Nat.le_of_ble_eq_true rfl) rfl ?_
  refine go_iload_n (pc := 79) dX1_fewestFor_79 rfl rfl ?_
  refine go_iconst (pc := 80) (v := 1) dX1_fewestFor_80 (by decide) ?_
  refine go_isub (pc := 81) dX1_fewestFor_81 ?_
  refine go_pin H (fun v201 H => ?_)
  refine go_istore (pc := 82) (L' := [some (.ref a0), none, none, some (.int a3), some (.int a4), some (.int a5), some (.int 0), some (.int v201)]) dX1_fewestFor_82 (Nat.le_of_ble_eq_true rfl) rfl ?_
  exact Go.weak (L' := [some (.ref a0), none, none, none, some (.int a4), some (.int a5), some (.int 0), some (.int v201)]) ⟨rfl, ⟨rfl, ⟨rfl, ⟨rfl, ⟨rfl, trivial⟩⟩⟩⟩⟩ (X1_fewestFor_L84_ok 5000 a0 a4 a5 0 v201 h H)

def X1_fewestFor_L49_s (rc49 : Nat → Int32 → Int32 → Int32 → Int32 → Hp → Option (Int32 × Hp)) (a0 : Nat) (a3 : Int32) (a4 : Int32) (a5 : Int32) (a6 : Int32) (h : Hp) : Option (Int32 × Hp) :=
  if a3 ≤ a6 then (
    X1_fewestFor_B76 a0 a3 a4 a5 h)
  else (
    cV h a0 1 (X1_most a0 a3 a5 h) fun v102 h101 =>
    if a4 ≤ v102 then (
      X1_fewestFor_B76 a0 a3 a4 a5 h101)
    else (
      rc49 a0 a3 a4 (a5 + 1) (a6 + 1) h101))
def X1_fewestFor_L49 (q : Nat) : Nat → Int32 → Int32 → Int32 → Int32 → Hp → Option (Int32 × Hp) := loopN (fun _ _ _ _ _ _ => none) (X1_fewestFor_L49_s) q
theorem X1_fewestFor_L49_ok {hh h' : Hp} {r : Int32}  : ∀ (q : Nat) (a0 : Nat) (a3 : Int32) (a4 : Int32) (a5 : Int32) (a6 : Int32) (h : Hp), X1_fewestFor_L49 q a0 a3 a4 a5 a6 h = some (r, h') → Go (PM M_X1_fewestFor hh (some (.int r)) h') M_X1_fewestFor 49 [some (.ref a0), none, none, some (.int a3), some (.int a4), some (.int a5), some (.int a6), none] [] h 0 0 := by
  intro q
  induction q with
  | zero => intro a0 a3 a4 a5 a6 h H; cases H
  | succ q hrc49 =>
    intro a0 a3 a4 a5 a6 h H
    replace H : X1_fewestFor_L49_s (X1_fewestFor_L49 q) a0 a3 a4 a5 a6 h = some (r, h') := H
    unfold X1_fewestFor_L49_s at H
    refine go_iload (pc := 49) dX1_fewestFor_49 rfl ?_
    refine go_iload_n (pc := 51) dX1_fewestFor_51 rfl rfl ?_
    refine go_icmp_ge (pc := 52) (tgt := 76) dX1_fewestFor_52 (by decide) H (fun H => ?_) (fun H => ?_)
    · exact Go.weak (L' := [some (.ref a0), none, none, some (.int a3), some (.int a4), some (.int a5), none, none]) ⟨rfl, ⟨rfl, ⟨rfl, ⟨rfl, trivial⟩⟩⟩⟩ (X1_fewestFor_B76_ok a0 a3 a4 a5 h H)
    · refine go_aload_n (pc := 55) dX1_fewestFor_55 rfl rfl ?_
      refine go_iload_n (pc := 56) dX1_fewestFor_56 rfl rfl ?_
      refine go_iload (pc := 57) dX1_fewestFor_57 rfl ?_
      refine go_cVi (pc := 59) (Mz := M_X1_most) (as := [.int a3, .int a5]) (a := a0) (st := []) dX1_fewestFor_59 wd_999 cv_X1_most X1_most_ok rfl rfl ⟨Nat.le_of_ble_eq_true rfl, Nat.le_of_ble_eq_true rfl⟩ (Nat.le_of_ble_eq_true rfl) ⟨rfl, rfl⟩ ⟨Nat.le_of_ble_eq_true rfl, Nat.le_of_ble_eq_true rfl⟩ H (fun v102 h101 H => ?_)
      refine go_iload (pc := 62) dX1_fewestFor_62 rfl ?_
      refine go_icmp_ge (pc := 64) (tgt := 76) dX1_fewestFor_64 (by decide) H (fun H => ?_) (fun H => ?_)
      · exact Go.weak (L' := [some (.ref a0), none, none, some (.int a3), some (.int a4), some (.int a5), none, none]) ⟨rfl, ⟨rfl, ⟨rfl, ⟨rfl, trivial⟩⟩⟩⟩ (X1_fewestFor_B76_ok a0 a3 a4 a5 h101 H)
      · refine go_iinc (pc := 67) (v := a5 + 1) (L' := [some (.ref a0), none, none, some (.int a3), some (.int a4), some (.int (a5 + 1)), some (.int a6), none]) dX1_fewestFor_67 rfl rfl (Nat.le_of_ble_eq_true rfl) rfl ?_
        refine go_iinc (pc := 70) (v := a6 + 1) (L' := [some (.ref a0), none, none, some (.int a3), some (.int a4), some (.int (a5 + 1)), some (.int (a6 + 1)), none]) dX1_fewestFor_70 rfl rfl (Nat.le_of_ble_eq_true rfl) rfl ?_
        refine go_goto (pc := 73) (tgt := 49) dX1_fewestFor_73 (by decide) ?_
        exact Go.weak (L' := [some (.ref a0), none, none, some (.int a3), some (.int a4), some (.int (a5 + 1)), some (.int (a6 + 1)), none]) ⟨rfl, ⟨rfl, ⟨rfl, ⟨rfl, ⟨rfl, trivial⟩⟩⟩⟩⟩ (hrc49 a0 a3 a4 (a5 + 1) (a6 + 1) h101 H)

def X1_fewestFor (a0 : Nat) (a1 : Nat) (a2 : Int32) (h : Hp) : Option (Int32 × Hp) :=
  (gR h a0 1 0).bind fun v1 =>
  (gR h v1 6 3).bind fun v2 =>
  (gR h v2 9 2).bind fun v3 =>
  (gI h v3 8 3).bind fun v4 =>
  cV h a0 1 (X1_stolenWith a0 a1 0 h) fun v6 h5 =>
  pin (v6 - a2) fun v7 =>
  cVv h5 a0 1 (X1_findSavings a0 a1 h5) fun h8 =>
  cV h8 a0 1 (X1_most a0 v4 v4 h8) fun v10 h9 =>
  if v7 ≤ v10 then (
    X1_fewestFor_L49 5000 a0 v4 v7 0 0 h9)
  else (
    some ((-2), h9))
theorem X1_fewestFor_ok {a0 : Nat} {a1 : Nat} {a2 : Int32} {h h' : Hp} {r : Int32} (H : X1_fewestFor a0 a1 a2 h = some (r, h')) : Con M_X1_fewestFor [.ref a0, .ref a1, .int a2] h (some (.int r)) h' := by
  refine con_of_go (by decide) 5 (L := [some (.ref a0), some (.ref a1), some (.int a2), none, none, none, none, none]) rfl (Nat.le_of_ble_eq_true rfl) ?_
  unfold X1_fewestFor at H
  refine go_aload_n (pc := 0) dX1_fewestFor_0 rfl rfl ?_
  refine go_getR (pc := 1) dX1_fewestFor_1 fl_X1_20 H (fun v1 H => ?_)
  refine go_getR (pc := 4) dX1_fewestFor_4 fl_X1_40 H (fun v2 H => ?_)
  refine go_getR (pc := 7) dX1_fewestFor_7 fl_X1_44 H (fun v3 H => ?_)
  refine go_getI (pc := 10) dX1_fewestFor_10 fl_X1_49 H (fun v4 H => ?_)
  refine go_istore_n (pc := 13) (L' := [some (.ref a0), some (.ref a1), some (.int a2), some (.int v4), none, none, none, none]) dX1_fewestFor_13 rfl (Nat.le_of_ble_eq_true rfl) rfl ?_
  refine go_aload_n (pc := 14) dX1_fewestFor_14 rfl rfl ?_
  refine go_aload_n (pc := 15) dX1_fewestFor_15 rfl rfl ?_
  refine go_iconst (pc := 16) (v := 0) dX1_fewestFor_16 (by decide) ?_
  refine go_cVi (pc := 17) (Mz := M_X1_stolenWith) (as := [.ref a1, .int 0]) (a := a0) (st := []) dX1_fewestFor_17 wd_982 cv_X1_stolenWith X1_stolenWith_ok rfl rfl ⟨Nat.le_of_ble_eq_true rfl, Nat.le_of_ble_eq_true rfl⟩ (Nat.le_of_ble_eq_true rfl) ⟨rfl, rfl⟩ ⟨Nat.le_of_ble_eq_true rfl, Nat.le_of_ble_eq_true rfl⟩ H (fun v6 h5 H => ?_)
  refine go_iload_n (pc := 20) dX1_fewestFor_20 rfl rfl ?_
  refine go_isub (pc := 21) dX1_fewestFor_21 ?_
  refine go_pin H (fun v7 H => ?_)
  refine go_istore (pc := 22) (L' := [some (.ref a0), some (.ref a1), some (.int a2), some (.int v4), some (.int v7), none, none, none]) dX1_fewestFor_22 (Nat.le_of_ble_eq_true rfl) rfl ?_
  refine go_aload_n (pc := 24) dX1_fewestFor_24 rfl rfl ?_
  refine go_aload_n (pc := 25) dX1_fewestFor_25 rfl rfl ?_
  refine go_cVv (pc := 26) (Mz := M_X1_findSavings) (as := [.ref a1]) (a := a0) (st := []) dX1_fewestFor_26 wd_993 cv_X1_findSavings X1_findSavings_ok rfl rfl ⟨Nat.le_of_ble_eq_true rfl, Nat.le_of_ble_eq_true rfl⟩ (Nat.le_of_ble_eq_true rfl) ⟨rfl, rfl⟩ ⟨Nat.le_of_ble_eq_true rfl, Nat.le_of_ble_eq_true rfl⟩ H (fun h8 H => ?_)
  refine go_aload_n (pc := 29) dX1_fewestFor_29 rfl rfl ?_
  refine go_iload_n (pc := 30) dX1_fewestFor_30 rfl rfl ?_
  refine go_iload_n (pc := 31) dX1_fewestFor_31 rfl rfl ?_
  refine go_cVi (pc := 32) (Mz := M_X1_most) (as := [.int v4, .int v4]) (a := a0) (st := []) dX1_fewestFor_32 wd_999 cv_X1_most X1_most_ok rfl rfl ⟨Nat.le_of_ble_eq_true rfl, Nat.le_of_ble_eq_true rfl⟩ (Nat.le_of_ble_eq_true rfl) ⟨rfl, rfl⟩ ⟨Nat.le_of_ble_eq_true rfl, Nat.le_of_ble_eq_true rfl⟩ H (fun v10 h9 H => ?_)
  refine go_iload (pc := 35) dX1_fewestFor_35 rfl ?_
  refine go_icmp_ge (pc := 37) (tgt := 43) dX1_fewestFor_37 (by decide) H (fun H => ?_) (fun H => ?_)
  · refine go_iconst (pc := 43) (v := 0) dX1_fewestFor_43 (by decide) ?_
    refine go_istore (pc := 44) (L' := [some (.ref a0), some (.ref a1), some (.int a2), some (.int v4), some (.int v7), some (.int 0), none, none]) dX1_fewestFor_44 (Nat.le_of_ble_eq_true rfl) rfl ?_
    refine go_iconst (pc := 46) (v := 0) dX1_fewestFor_46 (by decide) ?_
    refine go_istore (pc := 47) (L' := [some (.ref a0), some (.ref a1), some (.int a2), some (.int v4), some (.int v7), some (.int 0), some (.int 0), none]) dX1_fewestFor_47 (Nat.le_of_ble_eq_true rfl) rfl ?_
    exact Go.weak (L' := [some (.ref a0), none, none, some (.int v4), some (.int v7), some (.int 0), some (.int 0), none]) ⟨rfl, ⟨rfl, ⟨rfl, ⟨rfl, ⟨rfl, trivial⟩⟩⟩⟩⟩ (X1_fewestFor_L49_ok 5000 a0 v4 v7 0 0 h9 H)
  · refine go_bipush (pc := 40) (v := (-2)) dX1_fewestFor_40 (by decide) ?_
    exact go_iret (pc := 42) dX1_fewestFor_42 rfl ⟨Nat.le_of_ble_eq_true rfl, Nat.le_of_ble_eq_true rfl⟩ H
