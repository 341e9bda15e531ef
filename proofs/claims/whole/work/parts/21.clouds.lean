/-! 21.clouds: written by wip/whole/gen/all.py -/
theorem dX2_init_0 : decode cX2_init 0 = .ok (.aload_n 0, 1) := by decide +kernel
theorem dX2_init_1 : decode cX2_init 1 = .ok (.invokespecial 3, 3) := by decide +kernel
theorem dX2_init_4 : decode cX2_init 4 = .ok (.aload_n 0, 1) := by decide +kernel
theorem dX2_init_5 : decode cX2_init 5 = .ok (.aload_n 1, 1) := by decide +kernel
theorem dX2_init_6 : decode cX2_init 6 = .ok (.putfield 9, 3) := by decide +kernel
theorem dX2_init_9 : decode cX2_init 9 = .ok (.return_, 1) := by decide +kernel
theorem dX2_apart_0 : decode cX2_apart 0 = .ok (.aload_n 0, 1) := by decide +kernel
theorem dX2_apart_1 : decode cX2_apart 1 = .ok (.getfield 9, 3) := by decide +kernel
theorem dX2_apart_4 : decode cX2_apart 4 = .ok (.aload_n 1, 1) := by decide +kernel
theorem dX2_apart_5 : decode cX2_apart 5 = .ok (.invokevirtual 57, 3) := by decide +kernel
theorem dX2_apart_8 : decode cX2_apart 8 = .ok (.astore 4, 2) := by decide +kernel
theorem dX2_apart_10 : decode cX2_apart 10 = .ok (.aload 4, 2) := by decide +kernel
theorem dX2_apart_12 : decode cX2_apart 12 = .ok (.iload_n 3, 1) := by decide +kernel
theorem dX2_apart_13 : decode cX2_apart 13 = .ok (.putfield 61, 3) := by decide +kernel
theorem dX2_apart_16 : decode cX2_apart 16 = .ok (.aload_n 0, 1) := by decide +kernel
theorem dX2_apart_17 : decode cX2_apart 17 = .ok (.getfield 9, 3) := by decide +kernel
theorem dX2_apart_20 : decode cX2_apart 20 = .ok (.aload 4, 2) := by decide +kernel
theorem dX2_apart_22 : decode cX2_apart 22 = .ok (.iconst 0, 1) := by decide +kernel
theorem dX2_apart_23 : decode cX2_apart 23 = .ok (.iload_n 2, 1) := by decide +kernel
theorem dX2_apart_24 : decode cX2_apart 24 = .ok (.invokevirtual 64, 3) := by decide +kernel
theorem dX2_apart_27 : decode cX2_apart 27 = .ok (.aload_n 0, 1) := by decide +kernel
theorem dX2_apart_28 : decode cX2_apart 28 = .ok (.getfield 9, 3) := by decide +kernel
theorem dX2_apart_31 : decode cX2_apart 31 = .ok (.getfield 68, 3) := by decide +kernel
theorem dX2_apart_34 : decode cX2_apart 34 = .ok (.invokevirtual 72, 3) := by decide +kernel
theorem dX2_apart_37 : decode cX2_apart 37 = .ok (.ireturn, 1) := by decide +kernel
theorem dX2_weight_0 : decode cX2_weight 0 = .ok (.lconst 1, 1) := by decide +kernel
theorem dX2_weight_1 : decode cX2_weight 1 = .ok (.lstore_n 2, 1) := by decide +kernel
theorem dX2_weight_2 : decode cX2_weight 2 = .ok (.iconst 0, 1) := by decide +kernel
theorem dX2_weight_3 : decode cX2_weight 3 = .ok (.istore 4, 2) := by decide +kernel
theorem dX2_weight_5 : decode cX2_weight 5 = .ok (.iload 4, 2) := by decide +kernel
theorem dX2_weight_7 : decode cX2_weight 7 = .ok (.aload_n 0, 1) := by decide +kernel
theorem dX2_weight_8 : decode cX2_weight 8 = .ok (.getfield 9, 3) := by decide +kernel
theorem dX2_weight_11 : decode cX2_weight 11 = .ok (.getfield 25, 3) := by decide +kernel
theorem dX2_weight_14 : decode cX2_weight 14 = .ok (.getfield 29, 3) := by decide +kernel
theorem dX2_weight_17 : decode cX2_weight 17 = .ok (.getfield 35, 3) := by decide +kernel
theorem dX2_weight_20 : decode cX2_weight 20 = .ok (.if_icmp .ge 45, 3) := by decide +kernel
theorem dX2_weight_23 : decode cX2_weight 23 = .ok (.aload_n 0, 1) := by decide +kernel
theorem dX2_weight_24 : decode cX2_weight 24 = .ok (.getfield 9, 3) := by decide +kernel
theorem dX2_weight_27 : decode cX2_weight 27 = .ok (.getfield 25, 3) := by decide +kernel
theorem dX2_weight_30 : decode cX2_weight 30 = .ok (.getfield 77, 3) := by decide +kernel
theorem dX2_weight_33 : decode cX2_weight 33 = .ok (.istore 5, 2) := by decide +kernel
theorem dX2_weight_35 : decode cX2_weight 35 = .ok (.lload_n 2, 1) := by decide +kernel
theorem dX2_weight_36 : decode cX2_weight 36 = .ok (.iload_n 1, 1) := by decide +kernel
theorem dX2_weight_37 : decode cX2_weight 37 = .ok (.iload 4, 2) := by decide +kernel
theorem dX2_weight_39 : decode cX2_weight 39 = .ok (.ishr, 1) := by decide +kernel
theorem dX2_weight_40 : decode cX2_weight 40 = .ok (.iconst 1, 1) := by decide +kernel
theorem dX2_weight_41 : decode cX2_weight 41 = .ok (.iand, 1) := by decide +kernel
theorem dX2_weight_42 : decode cX2_weight 42 = .ok (.ifCond .eq 12, 3) := by decide +kernel
theorem dX2_weight_45 : decode cX2_weight 45 = .ok (.bipush 100, 2) := by decide +kernel
theorem dX2_weight_47 : decode cX2_weight 47 = .ok (.iload 5, 2) := by decide +kernel
theorem dX2_weight_49 : decode cX2_weight 49 = .ok (.isub, 1) := by decide +kernel
theorem dX2_weight_50 : decode cX2_weight 50 = .ok (.i2l, 1) := by decide +kernel
theorem dX2_weight_51 : decode cX2_weight 51 = .ok (.goto 6, 3) := by decide +kernel
theorem dX2_weight_54 : decode cX2_weight 54 = .ok (.iload 5, 2) := by decide +kernel
theorem dX2_weight_56 : decode cX2_weight 56 = .ok (.i2l, 1) := by decide +kernel
theorem dX2_weight_57 : decode cX2_weight 57 = .ok (.lmul, 1) := by decide +kernel
theorem dX2_weight_58 : decode cX2_weight 58 = .ok (.lstore_n 2, 1) := by decide +kernel
theorem dX2_weight_59 : decode cX2_weight 59 = .ok (.iinc 4 1, 3) := by decide +kernel
theorem dX2_weight_62 : decode cX2_weight 62 = .ok (.goto (-57), 3) := by decide +kernel
theorem dX2_weight_65 : decode cX2_weight 65 = .ok (.lload_n 2, 1) := by decide +kernel
theorem dX2_weight_66 : decode cX2_weight 66 = .ok (.lreturn, 1) := by decide +kernel
theorem dX2_commonOf_0 : decode cX2_commonOf 0 = .ok (.lload_n 0, 1) := by decide +kernel
theorem dX2_commonOf_1 : decode cX2_commonOf 1 = .ok (.lstore 4, 2) := by decide +kernel
theorem dX2_commonOf_3 : decode cX2_commonOf 3 = .ok (.lload_n 2, 1) := by decide +kernel
theorem dX2_commonOf_4 : decode cX2_commonOf 4 = .ok (.lstore 6, 2) := by decide +kernel
theorem dX2_commonOf_6 : decode cX2_commonOf 6 = .ok (.iconst 0, 1) := by decide +kernel
theorem dX2_commonOf_7 : decode cX2_commonOf 7 = .ok (.istore 8, 2) := by decide +kernel
theorem dX2_commonOf_9 : decode cX2_commonOf 9 = .ok (.iload 8, 2) := by decide +kernel
theorem dX2_commonOf_11 : decode cX2_commonOf 11 = .ok (.sipush 200, 3) := by decide +kernel
theorem dX2_commonOf_14 : decode cX2_commonOf 14 = .ok (.if_icmp .ge 31, 3) := by decide +kernel
theorem dX2_commonOf_17 : decode cX2_commonOf 17 = .ok (.lload 6, 2) := by decide +kernel
theorem dX2_commonOf_19 : decode cX2_commonOf 19 = .ok (.lconst 0, 1) := by decide +kernel
theorem dX2_commonOf_20 : decode cX2_commonOf 20 = .ok (.lcmp, 1) := by decide +kernel
theorem dX2_commonOf_21 : decode cX2_commonOf 21 = .ok (.ifCond .eq 24, 3) := by decide +kernel
theorem dX2_commonOf_24 : decode cX2_commonOf 24 = .ok (.lload 4, 2) := by decide +kernel
theorem dX2_commonOf_26 : decode cX2_commonOf 26 = .ok (.lload 6, 2) := by decide +kernel
theorem dX2_commonOf_28 : decode cX2_commonOf 28 = .ok (.lrem, 1) := by decide +kernel
theorem dX2_commonOf_29 : decode cX2_commonOf 29 = .ok (.lstore 9, 2) := by decide +kernel
theorem dX2_commonOf_31 : decode cX2_commonOf 31 = .ok (.lload 6, 2) := by decide +kernel
theorem dX2_commonOf_33 : decode cX2_commonOf 33 = .ok (.lstore 4, 2) := by decide +kernel
theorem dX2_commonOf_35 : decode cX2_commonOf 35 = .ok (.lload 9, 2) := by decide +kernel
theorem dX2_commonOf_37 : decode cX2_commonOf 37 = .ok (.lstore 6, 2) := by decide +kernel
theorem dX2_commonOf_39 : decode cX2_commonOf 39 = .ok (.iinc 8 1, 3) := by decide +kernel
theorem dX2_commonOf_42 : decode cX2_commonOf 42 = .ok (.goto (-33), 3) := by decide +kernel
theorem dX2_commonOf_45 : decode cX2_commonOf 45 = .ok (.lload 4, 2) := by decide +kernel
theorem dX2_commonOf_47 : decode cX2_commonOf 47 = .ok (.lreturn, 1) := by decide +kernel
theorem dX2_bringToLowestTerms_0 : decode cX2_bringToLowestTerms 0 = .ok (.aload_n 0, 1) := by decide +kernel
theorem dX2_bringToLowestTerms_1 : decode cX2_bringToLowestTerms 1 = .ok (.lconst 1, 1) := by decide +kernel
theorem dX2_bringToLowestTerms_2 : decode cX2_bringToLowestTerms 2 = .ok (.putfield 80, 3) := by decide +kernel
theorem dX2_bringToLowestTerms_5 : decode cX2_bringToLowestTerms 5 = .ok (.iconst 0, 1) := by decide +kernel
theorem dX2_bringToLowestTerms_6 : decode cX2_bringToLowestTerms 6 = .ok (.istore_n 1, 1) := by decide +kernel
theorem dX2_bringToLowestTerms_7 : decode cX2_bringToLowestTerms 7 = .ok (.iload_n 1, 1) := by decide +kernel
theorem dX2_bringToLowestTerms_8 : decode cX2_bringToLowestTerms 8 = .ok (.aload_n 0, 1) := by decide +kernel
theorem dX2_bringToLowestTerms_9 : decode cX2_bringToLowestTerms 9 = .ok (.getfield 9, 3) := by decide +kernel
theorem dX2_bringToLowestTerms_12 : decode cX2_bringToLowestTerms 12 = .ok (.getfield 25, 3) := by decide +kernel
theorem dX2_bringToLowestTerms_15 : decode cX2_bringToLowestTerms 15 = .ok (.getfield 29, 3) := by decide +kernel
theorem dX2_bringToLowestTerms_18 : decode cX2_bringToLowestTerms 18 = .ok (.getfield 35, 3) := by decide +kernel
theorem dX2_bringToLowestTerms_21 : decode cX2_bringToLowestTerms 21 = .ok (.if_icmp .ge 21, 3) := by decide +kernel
theorem dX2_bringToLowestTerms_24 : decode cX2_bringToLowestTerms 24 = .ok (.aload_n 0, 1) := by decide +kernel
theorem dX2_bringToLowestTerms_25 : decode cX2_bringToLowestTerms 25 = .ok (.dup, 1) := by decide +kernel
theorem dX2_bringToLowestTerms_26 : decode cX2_bringToLowestTerms 26 = .ok (.getfield 80, 3) := by decide +kernel
theorem dX2_bringToLowestTerms_29 : decode cX2_bringToLowestTerms 29 = .ok (.ldc2_w 83, 3) := by decide +kernel
theorem dX2_bringToLowestTerms_32 : decode cX2_bringToLowestTerms 32 = .ok (.lmul, 1) := by decide +kernel
theorem dX2_bringToLowestTerms_33 : decode cX2_bringToLowestTerms 33 = .ok (.putfield 80, 3) := by decide +kernel
theorem dX2_bringToLowestTerms_36 : decode cX2_bringToLowestTerms 36 = .ok (.iinc 1 1, 3) := by decide +kernel
theorem dX2_bringToLowestTerms_39 : decode cX2_bringToLowestTerms 39 = .ok (.goto (-32), 3) := by decide +kernel
theorem dX2_bringToLowestTerms_42 : decode cX2_bringToLowestTerms 42 = .ok (.aload_n 0, 1) := by decide +kernel
theorem dX2_bringToLowestTerms_43 : decode cX2_bringToLowestTerms 43 = .ok (.getfield 15, 3) := by decide +kernel
theorem dX2_bringToLowestTerms_46 : decode cX2_bringToLowestTerms 46 = .ok (.aload_n 0, 1) := by decide +kernel
theorem dX2_bringToLowestTerms_47 : decode cX2_bringToLowestTerms 47 = .ok (.getfield 80, 3) := by decide +kernel
theorem dX2_bringToLowestTerms_50 : decode cX2_bringToLowestTerms 50 = .ok (.invokestatic 85, 3) := by decide +kernel
theorem dX2_bringToLowestTerms_53 : decode cX2_bringToLowestTerms 53 = .ok (.lstore_n 1, 1) := by decide +kernel
theorem dX2_bringToLowestTerms_54 : decode cX2_bringToLowestTerms 54 = .ok (.lload_n 1, 1) := by decide +kernel
theorem dX2_bringToLowestTerms_55 : decode cX2_bringToLowestTerms 55 = .ok (.lconst 1, 1) := by decide +kernel
theorem dX2_bringToLowestTerms_56 : decode cX2_bringToLowestTerms 56 = .ok (.lcmp, 1) := by decide +kernel
theorem dX2_bringToLowestTerms_57 : decode cX2_bringToLowestTerms 57 = .ok (.ifCond .le 23, 3) := by decide +kernel
theorem dX2_bringToLowestTerms_60 : decode cX2_bringToLowestTerms 60 = .ok (.aload_n 0, 1) := by decide +kernel
theorem dX2_bringToLowestTerms_61 : decode cX2_bringToLowestTerms 61 = .ok (.dup, 1) := by decide +kernel
theorem dX2_bringToLowestTerms_62 : decode cX2_bringToLowestTerms 62 = .ok (.getfield 15, 3) := by decide +kernel
theorem dX2_bringToLowestTerms_65 : decode cX2_bringToLowestTerms 65 = .ok (.lload_n 1, 1) := by decide +kernel
theorem dX2_bringToLowestTerms_66 : decode cX2_bringToLowestTerms 66 = .ok (.ldiv, 1) := by decide +kernel
theorem dX2_bringToLowestTerms_67 : decode cX2_bringToLowestTerms 67 = .ok (.putfield 15, 3) := by decide +kernel
theorem dX2_bringToLowestTerms_70 : decode cX2_bringToLowestTerms 70 = .ok (.aload_n 0, 1) := by decide +kernel
theorem dX2_bringToLowestTerms_71 : decode cX2_bringToLowestTerms 71 = .ok (.dup, 1) := by decide +kernel
theorem dX2_bringToLowestTerms_72 : decode cX2_bringToLowestTerms 72 = .ok (.getfield 80, 3) := by decide +kernel
theorem dX2_bringToLowestTerms_75 : decode cX2_bringToLowestTerms 75 = .ok (.lload_n 1, 1) := by decide +kernel
theorem dX2_bringToLowestTerms_76 : decode cX2_bringToLowestTerms 76 = .ok (.ldiv, 1) := by decide +kernel
theorem dX2_bringToLowestTerms_77 : decode cX2_bringToLowestTerms 77 = .ok (.putfield 80, 3) := by decide +kernel
theorem dX2_bringToLowestTerms_80 : decode cX2_bringToLowestTerms 80 = .ok (.return_, 1) := by decide +kernel
theorem dX2_weighOdds_0 : decode cX2_weighOdds 0 = .ok (.aload_n 0, 1) := by decide +kernel
theorem dX2_weighOdds_1 : decode cX2_weighOdds 1 = .ok (.lconst 0, 1) := by decide +kernel
theorem dX2_weighOdds_2 : decode cX2_weighOdds 2 = .ok (.putfield 15, 3) := by decide +kernel
theorem dX2_weighOdds_5 : decode cX2_weighOdds 5 = .ok (.aload_n 0, 1) := by decide +kernel
theorem dX2_weighOdds_6 : decode cX2_weighOdds 6 = .ok (.getfield 9, 3) := by decide +kernel
theorem dX2_weighOdds_9 : decode cX2_weighOdds 9 = .ok (.aload_n 1, 1) := by decide +kernel
theorem dX2_weighOdds_10 : decode cX2_weighOdds 10 = .ok (.invokevirtual 19, 3) := by decide +kernel
theorem dX2_weighOdds_13 : decode cX2_weighOdds 13 = .ok (.iconst 0, 1) := by decide +kernel
theorem dX2_weighOdds_14 : decode cX2_weighOdds 14 = .ok (.istore 4, 2) := by decide +kernel
theorem dX2_weighOdds_16 : decode cX2_weighOdds 16 = .ok (.iload 4, 2) := by decide +kernel
theorem dX2_weighOdds_18 : decode cX2_weighOdds 18 = .ok (.iconst 1, 1) := by decide +kernel
theorem dX2_weighOdds_19 : decode cX2_weighOdds 19 = .ok (.aload_n 0, 1) := by decide +kernel
theorem dX2_weighOdds_20 : decode cX2_weighOdds 20 = .ok (.getfield 9, 3) := by decide +kernel
theorem dX2_weighOdds_23 : decode cX2_weighOdds 23 = .ok (.getfield 25, 3) := by decide +kernel
theorem dX2_weighOdds_26 : decode cX2_weighOdds 26 = .ok (.getfield 29, 3) := by decide +kernel
theorem dX2_weighOdds_29 : decode cX2_weighOdds 29 = .ok (.getfield 35, 3) := by decide +kernel
theorem dX2_weighOdds_32 : decode cX2_weighOdds 32 = .ok (.ishl, 1) := by decide +kernel
theorem dX2_weighOdds_33 : decode cX2_weighOdds 33 = .ok (.if_icmp .ge 36, 3) := by decide +kernel
theorem dX2_weighOdds_36 : decode cX2_weighOdds 36 = .ok (.aload_n 0, 1) := by decide +kernel
theorem dX2_weighOdds_37 : decode cX2_weighOdds 37 = .ok (.aload_n 1, 1) := by decide +kernel
theorem dX2_weighOdds_38 : decode cX2_weighOdds 38 = .ok (.iload_n 2, 1) := by decide +kernel
theorem dX2_weighOdds_39 : decode cX2_weighOdds 39 = .ok (.iload 4, 2) := by decide +kernel
theorem dX2_weighOdds_41 : decode cX2_weighOdds 41 = .ok (.invokevirtual 41, 3) := by decide +kernel
theorem dX2_weighOdds_44 : decode cX2_weighOdds 44 = .ok (.iload_n 3, 1) := by decide +kernel
theorem dX2_weighOdds_45 : decode cX2_weighOdds 45 = .ok (.if_icmp .gt 18, 3) := by decide +kernel
theorem dX2_weighOdds_48 : decode cX2_weighOdds 48 = .ok (.aload_n 0, 1) := by decide +kernel
theorem dX2_weighOdds_49 : decode cX2_weighOdds 49 = .ok (.dup, 1) := by decide +kernel
theorem dX2_weighOdds_50 : decode cX2_weighOdds 50 = .ok (.getfield 15, 3) := by decide +kernel
theorem dX2_weighOdds_53 : decode cX2_weighOdds 53 = .ok (.aload_n 0, 1) := by decide +kernel
theorem dX2_weighOdds_54 : decode cX2_weighOdds 54 = .ok (.iload 4, 2) := by decide +kernel
theorem dX2_weighOdds_56 : decode cX2_weighOdds 56 = .ok (.invokevirtual 45, 3) := by decide +kernel
theorem dX2_weighOdds_59 : decode cX2_weighOdds 59 = .ok (.ladd, 1) := by decide +kernel
theorem dX2_weighOdds_60 : decode cX2_weighOdds 60 = .ok (.putfield 15, 3) := by decide +kernel
theorem dX2_weighOdds_63 : decode cX2_weighOdds 63 = .ok (.iinc 4 1, 3) := by decide +kernel
theorem dX2_weighOdds_66 : decode cX2_weighOdds 66 = .ok (.goto (-50), 3) := by decide +kernel
theorem dX2_weighOdds_69 : decode cX2_weighOdds 69 = .ok (.aload_n 0, 1) := by decide +kernel
theorem dX2_weighOdds_70 : decode cX2_weighOdds 70 = .ok (.invokevirtual 49, 3) := by decide +kernel
theorem dX2_weighOdds_73 : decode cX2_weighOdds 73 = .ok (.return_, 1) := by decide +kernel
theorem dX2_weighMean_0 : decode cX2_weighMean 0 = .ok (.aload_n 0, 1) := by decide +kernel
theorem dX2_weighMean_1 : decode cX2_weighMean 1 = .ok (.lconst 0, 1) := by decide +kernel
theorem dX2_weighMean_2 : decode cX2_weighMean 2 = .ok (.putfield 15, 3) := by decide +kernel
theorem dX2_weighMean_5 : decode cX2_weighMean 5 = .ok (.aload_n 0, 1) := by decide +kernel
theorem dX2_weighMean_6 : decode cX2_weighMean 6 = .ok (.getfield 9, 3) := by decide +kernel
theorem dX2_weighMean_9 : decode cX2_weighMean 9 = .ok (.aload_n 1, 1) := by decide +kernel
theorem dX2_weighMean_10 : decode cX2_weighMean 10 = .ok (.invokevirtual 19, 3) := by decide +kernel
theorem dX2_weighMean_13 : decode cX2_weighMean 13 = .ok (.iconst 0, 1) := by decide +kernel
theorem dX2_weighMean_14 : decode cX2_weighMean 14 = .ok (.istore_n 3, 1) := by decide +kernel
theorem dX2_weighMean_15 : decode cX2_weighMean 15 = .ok (.iload_n 3, 1) := by decide +kernel
theorem dX2_weighMean_16 : decode cX2_weighMean 16 = .ok (.iconst 1, 1) := by decide +kernel
theorem dX2_weighMean_17 : decode cX2_weighMean 17 = .ok (.aload_n 0, 1) := by decide +kernel
theorem dX2_weighMean_18 : decode cX2_weighMean 18 = .ok (.getfield 9, 3) := by decide +kernel
theorem dX2_weighMean_21 : decode cX2_weighMean 21 = .ok (.getfield 25, 3) := by decide +kernel
theorem dX2_weighMean_24 : decode cX2_weighMean 24 = .ok (.getfield 29, 3) := by decide +kernel
theorem dX2_weighMean_27 : decode cX2_weighMean 27 = .ok (.getfield 35, 3) := by decide +kernel
theorem dX2_weighMean_30 : decode cX2_weighMean 30 = .ok (.ishl, 1) := by decide +kernel
theorem dX2_weighMean_31 : decode cX2_weighMean 31 = .ok (.if_icmp .ge 32, 3) := by decide +kernel
theorem dX2_weighMean_34 : decode cX2_weighMean 34 = .ok (.aload_n 0, 1) := by decide +kernel
theorem dX2_weighMean_35 : decode cX2_weighMean 35 = .ok (.dup, 1) := by decide +kernel
theorem dX2_weighMean_36 : decode cX2_weighMean 36 = .ok (.getfield 15, 3) := by decide +kernel
theorem dX2_weighMean_39 : decode cX2_weighMean 39 = .ok (.aload_n 0, 1) := by decide +kernel
theorem dX2_weighMean_40 : decode cX2_weighMean 40 = .ok (.iload_n 3, 1) := by decide +kernel
theorem dX2_weighMean_41 : decode cX2_weighMean 41 = .ok (.invokevirtual 45, 3) := by decide +kernel
theorem dX2_weighMean_44 : decode cX2_weighMean 44 = .ok (.aload_n 0, 1) := by decide +kernel
theorem dX2_weighMean_45 : decode cX2_weighMean 45 = .ok (.aload_n 1, 1) := by decide +kernel
theorem dX2_weighMean_46 : decode cX2_weighMean 46 = .ok (.iload_n 2, 1) := by decide +kernel
theorem dX2_weighMean_47 : decode cX2_weighMean 47 = .ok (.iload_n 3, 1) := by decide +kernel
theorem dX2_weighMean_48 : decode cX2_weighMean 48 = .ok (.invokevirtual 41, 3) := by decide +kernel
theorem dX2_weighMean_51 : decode cX2_weighMean 51 = .ok (.i2l, 1) := by decide +kernel
theorem dX2_weighMean_52 : decode cX2_weighMean 52 = .ok (.lmul, 1) := by decide +kernel
theorem dX2_weighMean_53 : decode cX2_weighMean 53 = .ok (.ladd, 1) := by decide +kernel
theorem dX2_weighMean_54 : decode cX2_weighMean 54 = .ok (.putfield 15, 3) := by decide +kernel
theorem dX2_weighMean_57 : decode cX2_weighMean 57 = .ok (.iinc 3 1, 3) := by decide +kernel
theorem dX2_weighMean_60 : decode cX2_weighMean 60 = .ok (.goto (-45), 3) := by decide +kernel
theorem dX2_weighMean_63 : decode cX2_weighMean 63 = .ok (.aload_n 0, 1) := by decide +kernel
theorem dX2_weighMean_64 : decode cX2_weighMean 64 = .ok (.invokevirtual 49, 3) := by decide +kernel
theorem dX2_weighMean_67 : decode cX2_weighMean 67 = .ok (.return_, 1) := by decide +kernel
theorem dX2_dearestNoon_0 : decode cX2_dearestNoon 0 = .ok (.aload_n 0, 1) := by decide +kernel
theorem dX2_dearestNoon_1 : decode cX2_dearestNoon 1 = .ok (.getfield 9, 3) := by decide +kernel
theorem dX2_dearestNoon_4 : decode cX2_dearestNoon 4 = .ok (.getfield 25, 3) := by decide +kernel
theorem dX2_dearestNoon_7 : decode cX2_dearestNoon 7 = .ok (.getfield 52, 3) := by decide +kernel
theorem dX2_dearestNoon_10 : decode cX2_dearestNoon 10 = .ok (.getfield 35, 3) := by decide +kernel
theorem dX2_dearestNoon_13 : decode cX2_dearestNoon 13 = .ok (.istore_n 2, 1) := by decide +kernel
theorem dX2_dearestNoon_14 : decode cX2_dearestNoon 14 = .ok (.aload_n 0, 1) := by decide +kernel
theorem dX2_dearestNoon_15 : decode cX2_dearestNoon 15 = .ok (.getfield 9, 3) := by decide +kernel
theorem dX2_dearestNoon_18 : decode cX2_dearestNoon 18 = .ok (.aload_n 1, 1) := by decide +kernel
theorem dX2_dearestNoon_19 : decode cX2_dearestNoon 19 = .ok (.invokevirtual 19, 3) := by decide +kernel
theorem dX2_dearestNoon_22 : decode cX2_dearestNoon 22 = .ok (.bipush (-2), 2) := by decide +kernel
theorem dX2_dearestNoon_24 : decode cX2_dearestNoon 24 = .ok (.istore_n 3, 1) := by decide +kernel
theorem dX2_dearestNoon_25 : decode cX2_dearestNoon 25 = .ok (.aload_n 0, 1) := by decide +kernel
theorem dX2_dearestNoon_26 : decode cX2_dearestNoon 26 = .ok (.aload_n 1, 1) := by decide +kernel
theorem dX2_dearestNoon_27 : decode cX2_dearestNoon 27 = .ok (.iload_n 2, 1) := by decide +kernel
theorem dX2_dearestNoon_28 : decode cX2_dearestNoon 28 = .ok (.iconst (-1), 1) := by decide +kernel
theorem dX2_dearestNoon_29 : decode cX2_dearestNoon 29 = .ok (.invokevirtual 41, 3) := by decide +kernel
theorem dX2_dearestNoon_32 : decode cX2_dearestNoon 32 = .ok (.istore 4, 2) := by decide +kernel
theorem dX2_dearestNoon_34 : decode cX2_dearestNoon 34 = .ok (.iconst 0, 1) := by decide +kernel
theorem dX2_dearestNoon_35 : decode cX2_dearestNoon 35 = .ok (.istore 5, 2) := by decide +kernel
theorem dX2_dearestNoon_37 : decode cX2_dearestNoon 37 = .ok (.iload 5, 2) := by decide +kernel
theorem dX2_dearestNoon_39 : decode cX2_dearestNoon 39 = .ok (.aload_n 0, 1) := by decide +kernel
theorem dX2_dearestNoon_40 : decode cX2_dearestNoon 40 = .ok (.getfield 9, 3) := by decide +kernel
theorem dX2_dearestNoon_43 : decode cX2_dearestNoon 43 = .ok (.getfield 25, 3) := by decide +kernel
theorem dX2_dearestNoon_46 : decode cX2_dearestNoon 46 = .ok (.getfield 29, 3) := by decide +kernel
theorem dX2_dearestNoon_49 : decode cX2_dearestNoon 49 = .ok (.getfield 35, 3) := by decide +kernel
theorem dX2_dearestNoon_52 : decode cX2_dearestNoon 52 = .ok (.if_icmp .ge 39, 3) := by decide +kernel
theorem dX2_dearestNoon_55 : decode cX2_dearestNoon 55 = .ok (.aload_n 0, 1) := by decide +kernel
theorem dX2_dearestNoon_56 : decode cX2_dearestNoon 56 = .ok (.aload_n 1, 1) := by decide +kernel
theorem dX2_dearestNoon_57 : decode cX2_dearestNoon 57 = .ok (.iload_n 2, 1) := by decide +kernel
theorem dX2_dearestNoon_58 : decode cX2_dearestNoon 58 = .ok (.iconst (-1), 1) := by decide +kernel
theorem dX2_dearestNoon_59 : decode cX2_dearestNoon 59 = .ok (.iconst 1, 1) := by decide +kernel
theorem dX2_dearestNoon_60 : decode cX2_dearestNoon 60 = .ok (.iload 5, 2) := by decide +kernel
theorem dX2_dearestNoon_62 : decode cX2_dearestNoon 62 = .ok (.ishl, 1) := by decide +kernel
theorem dX2_dearestNoon_63 : decode cX2_dearestNoon 63 = .ok (.iconst (-1), 1) := by decide +kernel
theorem dX2_dearestNoon_64 : decode cX2_dearestNoon 64 = .ok (.ixor, 1) := by decide +kernel
theorem dX2_dearestNoon_65 : decode cX2_dearestNoon 65 = .ok (.iand, 1) := by decide +kernel
theorem dX2_dearestNoon_66 : decode cX2_dearestNoon 66 = .ok (.invokevirtual 41, 3) := by decide +kernel
theorem dX2_dearestNoon_69 : decode cX2_dearestNoon 69 = .ok (.istore 6, 2) := by decide +kernel
theorem dX2_dearestNoon_71 : decode cX2_dearestNoon 71 = .ok (.iload 6, 2) := by decide +kernel
theorem dX2_dearestNoon_73 : decode cX2_dearestNoon 73 = .ok (.iload 4, 2) := by decide +kernel
theorem dX2_dearestNoon_75 : decode cX2_dearestNoon 75 = .ok (.if_icmp .le 10, 3) := by decide +kernel
theorem dX2_dearestNoon_78 : decode cX2_dearestNoon 78 = .ok (.iload 5, 2) := by decide +kernel
theorem dX2_dearestNoon_80 : decode cX2_dearestNoon 80 = .ok (.istore_n 3, 1) := by decide +kernel
theorem dX2_dearestNoon_81 : decode cX2_dearestNoon 81 = .ok (.iload 6, 2) := by decide +kernel
theorem dX2_dearestNoon_83 : decode cX2_dearestNoon 83 = .ok (.istore 4, 2) := by decide +kernel
theorem dX2_dearestNoon_85 : decode cX2_dearestNoon 85 = .ok (.iinc 5 1, 3) := by decide +kernel
theorem dX2_dearestNoon_88 : decode cX2_dearestNoon 88 = .ok (.goto (-51), 3) := by decide +kernel
theorem dX2_dearestNoon_91 : decode cX2_dearestNoon 91 = .ok (.iload_n 3, 1) := by decide +kernel
theorem dX2_dearestNoon_92 : decode cX2_dearestNoon 92 = .ok (.ireturn, 1) := by decide +kernel
def M_X2_init : MD := (yX2_init, cX2_init, 2, none, 1, 20, 0, 0)
theorem ci_X2_init : CIo M_X2_init 1 := ⟨⟨wd_439, wd_120, ⟨by decide, by decide⟩, by decide +kernel⟩, wd_438, rfl, rfl⟩
def X2_init (a0 : Nat) (a1 : Nat) (h : Hp) : Option (Hp) :=
  (pF h a0 2 0 (.ref a1)).bind fun h1 =>
  some h1
theorem X2_init_ok {a0 : Nat} {a1 : Nat} {h h' : Hp} (H : X2_init a0 a1 h = some h') : Con M_X2_init [.ref a0, .ref a1] h none h' := by
  refine con_of_go (by decide) 0 (L := [some (.ref a0), some (.ref a1)]) rfl (Nat.le_of_ble_eq_true rfl) ?_
  unfold X2_init at H
  refine go_aload_n (pc := 0) dX2_init_0 rfl rfl ?_
  refine go_objInit (pc := 1) dX2_init_1 wd_440 wd_137 wd_138 (Nat.le_of_ble_eq_true rfl) (Nat.le_of_ble_eq_true rfl) ?_
  refine go_aload_n (pc := 4) dX2_init_4 rfl rfl ?_
  refine go_aload_n (pc := 5) dX2_init_5 rfl rfl ?_
  refine go_putRF (pc := 6) dX2_init_6 fs_X2_9 ⟨rfl, _, rfl, rfl⟩ H (fun h1 H => ?_)
  exact go_vret (pc := 9) dX2_init_9 rfl ⟨Nat.le_of_ble_eq_true rfl, Nat.le_of_ble_eq_true rfl⟩ H

def M_X2_apart : MD := (yX2_apart, cX2_apart, 5, (some .int), 3, 71, 0, 0)
theorem cv_X2_apart : CVo M_X2_apart 3 2 := ⟨⟨wd_1117, wd_120, ⟨by decide, by decide⟩, by decide +kernel⟩, wd_1116, wd_39, _, rfl, rfl⟩
def X2_apart (a0 : Nat) (a1 : Nat) (a2 : Int32) (a3 : Int32) (h : Hp) : Option (Int32 × Hp) :=
  (gR h a0 2 0).bind fun v1 =>
  cV h v1 6 (X6_trialOf v1 a1 h) fun v3 h2 =>
  (pF h2 v3 4 2 (.int a3)).bind fun h4 =>
  (gR h4 a0 2 0).bind fun v5 =>
  cVv h4 v5 6 (X6_sail v5 v3 0 a2 h4) fun h6 =>
  (gR h6 a0 2 0).bind fun v7 =>
  (gR h6 v7 6 0).bind fun v8 =>
  cV h6 v8 7 (X7_apart v8 h6) fun v10 h9 =>
  some (v10, h9)
theorem X2_apart_ok {a0 : Nat} {a1 : Nat} {a2 : Int32} {a3 : Int32} {h h' : Hp} {r : Int32} (H : X2_apart a0 a1 a2 a3 h = some (r, h')) : Con M_X2_apart [.ref a0, .ref a1, .int a2, .int a3] h (some (.int r)) h' := by
  refine con_of_go (by decide) 1 (L := [some (.ref a0), some (.ref a1), some (.int a2), some (.int a3), none]) rfl (Nat.le_of_ble_eq_true rfl) ?_
  unfold X2_apart at H
  refine go_aload_n (pc := 0) dX2_apart_0 rfl rfl ?_
  refine go_getR (pc := 1) dX2_apart_1 fl_X2_9 H (fun v1 H => ?_)
  refine go_aload_n (pc := 4) dX2_apart_4 rfl rfl ?_
  refine go_cVr (pc := 5) (Mz := M_X6_trialOf) (as := [.ref a1]) (a := v1) (st := []) dX2_apart_5 wd_1118 cv_X6_trialOf X6_trialOf_ok rfl rfl ⟨Nat.le_of_ble_eq_true rfl, Nat.le_of_ble_eq_true rfl⟩ (Nat.le_of_ble_eq_true rfl) ⟨rfl, rfl⟩ ⟨Nat.le_of_ble_eq_true rfl, Nat.le_of_ble_eq_true rfl⟩ H (fun v3 h2 H => ?_)
  refine go_astore (pc := 8) (L' := [some (.ref a0), some (.ref a1), some (.int a2), some (.int a3), some (.ref v3)]) dX2_apart_8 (Nat.le_of_ble_eq_true rfl) rfl ?_
  refine go_aload (pc := 10) dX2_apart_10 rfl ?_
  refine go_iload_n (pc := 12) dX2_apart_12 rfl rfl ?_
  refine go_putI (pc := 13) dX2_apart_13 fs_X2_61 H (fun h4 H => ?_)
  refine go_aload_n (pc := 16) dX2_apart_16 rfl rfl ?_
  refine go_getR (pc := 17) dX2_apart_17 fl_X2_9 H (fun v5 H => ?_)
  refine go_aload (pc := 20) dX2_apart_20 rfl ?_
  refine go_iconst (pc := 22) (v := 0) dX2_apart_22 (by decide) ?_
  refine go_iload_n (pc := 23) dX2_apart_23 rfl rfl ?_
  refine go_cVv (pc := 24) (Mz := M_X6_sail) (as := [.ref v3, .int 0, .int a2]) (a := v5) (st := []) dX2_apart_24 wd_1119 cv_X6_sail X6_sail_ok rfl rfl ⟨Nat.le_of_ble_eq_true rfl, Nat.le_of_ble_eq_true rfl⟩ (Nat.le_of_ble_eq_true rfl) ⟨rfl, rfl⟩ ⟨Nat.le_of_ble_eq_true rfl, Nat.le_of_ble_eq_true rfl⟩ H (fun h6 H => ?_)
  refine go_aload_n (pc := 27) dX2_apart_27 rfl rfl ?_
  refine go_getR (pc := 28) dX2_apart_28 fl_X2_9 H (fun v7 H => ?_)
  refine go_getR (pc := 31) dX2_apart_31 fl_X2_68 H (fun v8 H => ?_)
  refine go_cVi (pc := 34) (Mz := M_X7_apart) (as := []) (a := v8) (st := []) dX2_apart_34 wd_1120 cv_X7_apart X7_apart_ok rfl rfl ⟨Nat.le_of_ble_eq_true rfl, Nat.le_of_ble_eq_true rfl⟩ (Nat.le_of_ble_eq_true rfl) ⟨rfl, rfl⟩ ⟨Nat.le_of_ble_eq_true rfl, Nat.le_of_ble_eq_true rfl⟩ H (fun v10 h9 H => ?_)
  exact go_iret (pc := 37) dX2_apart_37 rfl ⟨Nat.le_of_ble_eq_true rfl, Nat.le_of_ble_eq_true rfl⟩ H

def M_X2_weight : MD := (yX2_weight, cX2_weight, 6, (some .long), 0, 0, 0, 0)
theorem cv_X2_weight : CVo M_X2_weight 1 2 := ⟨⟨wd_1124, wd_120, ⟨by decide, by decide⟩, by decide +kernel⟩, wd_1123, wd_40, _, rfl, rfl⟩
def X2_weight_B57 (rc5 : Nat → Int32 → Int64 → Int32 → Hp → Option (Int64 × Hp)) (a0 : Nat) (a1 : Int32) (a4 : Int32) (s0 : Int64) (s1 : Int64) (h : Hp) : Option (Int64 × Hp) :=
  pin (s0 * s1) fun v201 =>
  rc5 a0 a1 v201 (a4 + 1) h
theorem X2_weight_B57_ok {hh h' : Hp} {r : Int64}  (rc5 : Nat → Int32 → Int64 → Int32 → Hp → Option (Int64 × Hp)) (hrc5 : ∀ (a0 : Nat) (a1 : Int32) (a2 : Int64) (a4 : Int32) (h : Hp), rc5 a0 a1 a2 a4 h = some (r, h') → Go (PM M_X2_weight hh (some (.long r)) h') M_X2_weight 5 [some (.ref a0), some (.int a1), some (.long a2), none, some (.int a4), none] [] h 0 0) (a0 : Nat) (a1 : Int32) (a4 : Int32) (s0 : Int64) (s1 : Int64) (h : Hp) (H : X2_weight_B57 rc5 a0 a1 a4 s0 s1 h = some (r, h')) : Go (PM M_X2_weight hh (some (.long r)) h') M_X2_weight 57 [some (.ref a0), some (.int a1), none, none, some (.int a4), none] [.long s1, .long s0] h 0 0 := by
  unfold X2_weight_B57 at H
  refine go_lmul (pc := 57) dX2_weight_57 ?_
  refine go_pinJ H (fun v201 H => ?_)
  refine go_lstore_n (pc := 58) (L' := [some (.ref a0), some (.int a1), some (.long v201), none, some (.int a4), none]) dX2_weight_58 rfl (Nat.le_of_ble_eq_true rfl) rfl ?_
  refine go_iinc (pc := 59) (v := a4 + 1) (L' := [some (.ref a0), some (.int a1), some (.long v201), none, some (.int (a4 + 1)), none]) dX2_weight_59 rfl rfl (Nat.le_of_ble_eq_true rfl) rfl ?_
  refine go_goto (pc := 62) (tgt := 5) dX2_weight_62 (by decide) ?_
  exact Go.weak (L' := [some (.ref a0), some (.int a1), some (.long v201), none, some (.int (a4 + 1)), none]) ⟨rfl, ⟨rfl, ⟨rfl, ⟨rfl, trivial⟩⟩⟩⟩ (hrc5 a0 a1 v201 (a4 + 1) h H)

def X2_weight_L5_s (rc5 : Nat → Int32 → Int64 → Int32 → Hp → Option (Int64 × Hp)) (a0 : Nat) (a1 : Int32) (a2 : Int64) (a4 : Int32) (h : Hp) : Option (Int64 × Hp) :=
  (gR h a0 2 0).bind fun v101 =>
  (gR h v101 6 3).bind fun v102 =>
  (gR h v102 9 3).bind fun v103 =>
  (gI h v103 8 3).bind fun v104 =>
  if v104 ≤ a4 then (
    some (a2, h))
  else (
    (gR h a0 2 0).bind fun v105 =>
    (gR h v105 6 3).bind fun v106 =>
    (gI h v106 9 10).bind fun v107 =>
    if ((a1 >>> (a4 &&& 31)) &&& 1) = 0 then (
      X2_weight_B57 rc5 a0 a1 a4 a2 (Int32.toInt64 v107) h)
    else (
      X2_weight_B57 rc5 a0 a1 a4 a2 (Int32.toInt64 (100 - v107)) h))
def X2_weight_L5 (q : Nat) : Nat → Int32 → Int64 → Int32 → Hp → Option (Int64 × Hp) := loopN (fun _ _ _ _ _ => none) (X2_weight_L5_s) q
theorem X2_weight_L5_ok {hh h' : Hp} {r : Int64}  : ∀ (q : Nat) (a0 : Nat) (a1 : Int32) (a2 : Int64) (a4 : Int32) (h : Hp), X2_weight_L5 q a0 a1 a2 a4 h = some (r, h') → Go (PM M_X2_weight hh (some (.long r)) h') M_X2_weight 5 [some (.ref a0), some (.int a1), some (.long a2), none, some (.int a4), none] [] h 0 0 := by
  intro q
  induction q with
  | zero => intro a0 a1 a2 a4 h H; cases H
  | succ q hrc5 =>
    intro a0 a1 a2 a4 h H
    replace H : X2_weight_L5_s (X2_weight_L5 q) a0 a1 a2 a4 h = some (r, h') := H
    unfold X2_weight_L5_s at H
    refine go_iload (pc := 5) dX2_weight_5 rfl ?_
    refine go_aload_n (pc := 7) dX2_weight_7 rfl rfl ?_
    refine go_getR (pc := 8) dX2_weight_8 fl_X2_9 H (fun v101 H => ?_)
    refine go_getR (pc := 11) dX2_weight_11 fl_X2_25 H (fun v102 H => ?_)
    refine go_getR (pc := 14) dX2_weight_14 fl_X2_29 H (fun v103 H => ?_)
    refine go_getI (pc := 17) dX2_weight_17 fl_X2_35 H (fun v104 H => ?_)
    refine go_icmp_ge (pc := 20) (tgt := 65) dX2_weight_20 (by decide) H (fun H => ?_) (fun H => ?_)
    · refine go_lload_n (pc := 65) dX2_weight_65 rfl rfl ?_
      exact go_lret (pc := 66) dX2_weight_66 rfl ⟨Nat.le_of_ble_eq_true rfl, Nat.le_of_ble_eq_true rfl⟩ H
    · refine go_aload_n (pc := 23) dX2_weight_23 rfl rfl ?_
      refine go_getR (pc := 24) dX2_weight_24 fl_X2_9 H (fun v105 H => ?_)
      refine go_getR (pc := 27) dX2_weight_27 fl_X2_25 H (fun v106 H => ?_)
      refine go_getI (pc := 30) dX2_weight_30 fl_X2_77 H (fun v107 H => ?_)
      refine go_istore (pc := 33) (L' := [some (.ref a0), some (.int a1), some (.long a2), none, some (.int a4), some (.int v107)]) dX2_weight_33 (Nat.le_of_ble_eq_true rfl) rfl ?_
      refine go_lload_n (pc := 35) dX2_weight_35 rfl rfl ?_
      refine go_iload_n (pc := 36) dX2_weight_36 rfl rfl ?_
      refine go_iload (pc := 37) dX2_weight_37 rfl ?_
      refine go_ishr (pc := 39) dX2_weight_39 ?_
      refine go_iconst (pc := 40) (v := 1) dX2_weight_40 (by decide) ?_
      refine go_iand (pc := 41) dX2_weight_41 ?_
      refine go_if_eq (pc := 42) (tgt := 54) dX2_weight_42 (by decide) H (fun H => ?_) (fun H => ?_)
      · refine go_iload (pc := 54) dX2_weight_54 rfl ?_
        refine go_i2l (pc := 56) dX2_weight_56 ?_
        exact Go.weak (L' := [some (.ref a0), some (.int a1), none, none, some (.int a4), none]) ⟨rfl, ⟨rfl, ⟨rfl, trivial⟩⟩⟩ (X2_weight_B57_ok _ hrc5 a0 a1 a4 a2 (Int32.toInt64 v107) h H)
      · refine go_bipush (pc := 45) (v := 100) dX2_weight_45 (by decide) ?_
        refine go_iload (pc := 47) dX2_weight_47 rfl ?_
        refine go_isub (pc := 49) dX2_weight_49 ?_
        refine go_i2l (pc := 50) dX2_weight_50 ?_
        refine go_goto (pc := 51) (tgt := 57) dX2_weight_51 (by decide) ?_
        exact Go.weak (L' := [some (.ref a0), some (.int a1), none, none, some (.int a4), none]) ⟨rfl, ⟨rfl, ⟨rfl, trivial⟩⟩⟩ (X2_weight_B57_ok _ hrc5 a0 a1 a4 a2 (Int32.toInt64 (100 - v107)) h H)

def X2_weight (a0 : Nat) (a1 : Int32) (h : Hp) : Option (Int64 × Hp) :=
  X2_weight_L5 5000 a0 a1 1 0 h
theorem X2_weight_ok {a0 : Nat} {a1 : Int32} {h h' : Hp} {r : Int64} (H : X2_weight a0 a1 h = some (r, h')) : Con M_X2_weight [.ref a0, .int a1] h (some (.long r)) h' := by
  refine con_of_go (by decide) 4 (L := [some (.ref a0), some (.int a1), none, none, none, none]) rfl (Nat.le_of_ble_eq_true rfl) ?_
  unfold X2_weight at H
  refine go_lconst (pc := 0) (v := 1) dX2_weight_0 (by decide) ?_
  refine go_lstore_n (pc := 1) (L' := [some (.ref a0), some (.int a1), some (.long 1), none, none, none]) dX2_weight_1 rfl (Nat.le_of_ble_eq_true rfl) rfl ?_
  refine go_iconst (pc := 2) (v := 0) dX2_weight_2 (by decide) ?_
  refine go_istore (pc := 3) (L' := [some (.ref a0), some (.int a1), some (.long 1), none, some (.int 0), none]) dX2_weight_3 (Nat.le_of_ble_eq_true rfl) rfl ?_
  exact Go.weak (L' := [some (.ref a0), some (.int a1), some (.long 1), none, some (.int 0), none]) ⟨rfl, ⟨rfl, ⟨rfl, ⟨rfl, trivial⟩⟩⟩⟩ (X2_weight_L5_ok 5000 a0 a1 1 0 h H)

def M_X2_commonOf : MD := (yX2_commonOf, cX2_commonOf, 11, (some .long), 0, 0, 0, 0)
theorem cs_X2_commonOf : CSo M_X2_commonOf 2 := ⟨⟨wd_1132, wd_120, ⟨by decide, by decide⟩, by decide +kernel⟩, wd_1131⟩
def X2_commonOf_L9_s (rc9 : Int64 → Int64 → Int32 → Hp → Option (Int64 × Hp)) (a4 : Int64) (a6 : Int64) (a8 : Int32) (h : Hp) : Option (Int64 × Hp) :=
  if 200 ≤ a8 then (
    some (a4, h))
  else (
    if (lg_cmp a6 0) = 0 then (
      some (a4, h))
    else (
      if a6 = 0 then none else
      pin (a4 - a4 / a6 * a6) fun v101 =>
      rc9 a6 v101 (a8 + 1) h))
def X2_commonOf_L9 (q : Nat) : Int64 → Int64 → Int32 → Hp → Option (Int64 × Hp) := loopN (fun _ _ _ _ => none) (X2_commonOf_L9_s) q
theorem X2_commonOf_L9_ok {hh h' : Hp} {r : Int64}  : ∀ (q : Nat) (a4 : Int64) (a6 : Int64) (a8 : Int32) (h : Hp), X2_commonOf_L9 q a4 a6 a8 h = some (r, h') → Go (PM M_X2_commonOf hh (some (.long r)) h') M_X2_commonOf 9 [none, none, none, none, some (.long a4), none, some (.long a6), none, some (.int a8), none, none] [] h 0 0 := by
  intro q
  induction q with
  | zero => intro a4 a6 a8 h H; cases H
  | succ q hrc9 =>
    intro a4 a6 a8 h H
    replace H : X2_commonOf_L9_s (X2_commonOf_L9 q) a4 a6 a8 h = some (r, h') := H
    unfold X2_commonOf_L9_s at H
    refine go_iload (pc := 9) dX2_commonOf_9 rfl ?_
    refine go_sipush (pc := 11) (v := 200) dX2_commonOf_11 (by decide) ?_
    refine go_icmp_ge (pc := 14) (tgt := 45) dX2_commonOf_14 (by decide) H (fun H => ?_) (fun H => ?_)
    · refine go_lload (pc := 45) dX2_commonOf_45 rfl ?_
      exact go_lret (pc := 47) dX2_commonOf_47 rfl ⟨Nat.le_of_ble_eq_true rfl, Nat.le_of_ble_eq_true rfl⟩ H
    · refine go_lload (pc := 17) dX2_commonOf_17 rfl ?_
      refine go_lconst (pc := 19) (v := 0) dX2_commonOf_19 (by decide) ?_
      refine go_lcmp (pc := 20) dX2_commonOf_20 ?_
      refine go_if_eq (pc := 21) (tgt := 45) dX2_commonOf_21 (by decide) H (fun H => ?_) (fun H => ?_)
      · refine go_lload (pc := 45) dX2_commonOf_45 rfl ?_
        exact go_lret (pc := 47) dX2_commonOf_47 rfl ⟨Nat.le_of_ble_eq_true rfl, Nat.le_of_ble_eq_true rfl⟩ H
      · refine go_lload (pc := 24) dX2_commonOf_24 rfl ?_
        refine go_lload (pc := 26) dX2_commonOf_26 rfl ?_
        refine go_lremC (pc := 28) dX2_commonOf_28 H (fun H => ?_)
        refine go_pinJ H (fun v101 H => ?_)
        refine go_lstore (pc := 29) (L' := [none, none, none, none, some (.long a4), none, some (.long a6), none, some (.int a8), some (.long v101), none]) dX2_commonOf_29 (Nat.le_of_ble_eq_true rfl) rfl ?_
        refine go_lload (pc := 31) dX2_commonOf_31 rfl ?_
        refine go_lstore (pc := 33) (L' := [none, none, none, none, some (.long a6), none, some (.long a6), none, some (.int a8), some (.long v101), none]) dX2_commonOf_33 (Nat.le_of_ble_eq_true rfl) rfl ?_
        refine go_lload (pc := 35) dX2_commonOf_35 rfl ?_
        refine go_lstore (pc := 37) (L' := [none, none, none, none, some (.long a6), none, some (.long v101), none, some (.int a8), some (.long v101), none]) dX2_commonOf_37 (Nat.le_of_ble_eq_true rfl) rfl ?_
        refine go_iinc (pc := 39) (v := a8 + 1) (L' := [none, none, none, none, some (.long a6), none, some (.long v101), none, some (.int (a8 + 1)), some (.long v101), none]) dX2_commonOf_39 rfl rfl (Nat.le_of_ble_eq_true rfl) rfl ?_
        refine go_goto (pc := 42) (tgt := 9) dX2_commonOf_42 (by decide) ?_
        exact Go.weak (L' := [none, none, none, none, some (.long a6), none, some (.long v101), none, some (.int (a8 + 1)), none, none]) ⟨rfl, ⟨rfl, ⟨rfl, trivial⟩⟩⟩ (hrc9 a6 v101 (a8 + 1) h H)

def X2_commonOf (a0 : Int64) (a2 : Int64) (h : Hp) : Option (Int64 × Hp) :=
  X2_commonOf_L9 5000 a0 a2 0 h
theorem X2_commonOf_ok {a0 : Int64} {a2 : Int64} {h h' : Hp} {r : Int64} (H : X2_commonOf a0 a2 h = some (r, h')) : Con M_X2_commonOf [.long a0, .long a2] h (some (.long r)) h' := by
  refine con_of_go (by decide) 7 (L := [some (.long a0), none, some (.long a2), none, none, none, none, none, none, none, none]) rfl (Nat.le_of_ble_eq_true rfl) ?_
  unfold X2_commonOf at H
  refine go_lload_n (pc := 0) dX2_commonOf_0 rfl rfl ?_
  refine go_lstore (pc := 1) (L' := [some (.long a0), none, some (.long a2), none, some (.long a0), none, none, none, none, none, none]) dX2_commonOf_1 (Nat.le_of_ble_eq_true rfl) rfl ?_
  refine go_lload_n (pc := 3) dX2_commonOf_3 rfl rfl ?_
  refine go_lstore (pc := 4) (L' := [some (.long a0), none, some (.long a2), none, some (.long a0), none, some (.long a2), none, none, none, none]) dX2_commonOf_4 (Nat.le_of_ble_eq_true rfl) rfl ?_
  refine go_iconst (pc := 6) (v := 0) dX2_commonOf_6 (by decide) ?_
  refine go_istore (pc := 7) (L' := [some (.long a0), none, some (.long a2), none, some (.long a0), none, some (.long a2), none, some (.int 0), none, none]) dX2_commonOf_7 (Nat.le_of_ble_eq_true rfl) rfl ?_
  exact Go.weak (L' := [none, none, none, none, some (.long a0), none, some (.long a2), none, some (.int 0), none, none]) ⟨rfl, ⟨rfl, ⟨rfl, trivial⟩⟩⟩ (X2_commonOf_L9_ok 5000 a0 a2 0 h H)

def M_X2_bringToLowestTerms : MD := (yX2_bringToLowestTerms, cX2_bringToLowestTerms, 3, none, 1, 30, 0, 0)
theorem cv_X2_bringToLowestTerms : CVo M_X2_bringToLowestTerms 0 2 := ⟨⟨wd_1128, wd_120, ⟨by decide, by decide⟩, by decide +kernel⟩, wd_1127, wd_41, _, rfl, rfl⟩
def X2_bringToLowestTerms_L7_s (rc7 : Nat → Int32 → Hp → Option (Hp)) (a0 : Nat) (a1 : Int32) (h : Hp) : Option (Hp) :=
  (gR h a0 2 0).bind fun v101 =>
  (gR h v101 6 3).bind fun v102 =>
  (gR h v102 9 3).bind fun v103 =>
  (gI h v103 8 3).bind fun v104 =>
  if v104 ≤ a1 then (
    (gJ h a0 2 1).bind fun v105 =>
    (gJ h a0 2 2).bind fun v106 =>
    bd (X2_commonOf v105 v106 h) fun v108 h107 =>
    if (lg_cmp v108 1) ≤ 0 then (
      some h107)
    else (
      (gJ h107 a0 2 1).bind fun v109 =>
      if v108 = 0 then none else
      (pF h107 a0 2 1 (.long (v109 / v108))).bind fun h110 =>
      (gJ h110 a0 2 2).bind fun v111 =>
      if v108 = 0 then none else
      (pF h110 a0 2 2 (.long (v111 / v108))).bind fun h112 =>
      some h112))
  else (
    (gJ h a0 2 2).bind fun v113 =>
    (pF h a0 2 2 (.long (v113 * 100))).bind fun h114 =>
    rc7 a0 (a1 + 1) h114)
def X2_bringToLowestTerms_L7 (q : Nat) : Nat → Int32 → Hp → Option (Hp) := loopN (fun _ _ _ => none) (X2_bringToLowestTerms_L7_s) q
theorem X2_bringToLowestTerms_L7_ok {hh h' : Hp}  : ∀ (q : Nat) (a0 : Nat) (a1 : Int32) (h : Hp), X2_bringToLowestTerms_L7 q a0 a1 h = some h' → Go (PM M_X2_bringToLowestTerms hh none h') M_X2_bringToLowestTerms 7 [some (.ref a0), some (.int a1), none] [] h 0 0 := by
  intro q
  induction q with
  | zero => intro a0 a1 h H; cases H
  | succ q hrc7 =>
    intro a0 a1 h H
    replace H : X2_bringToLowestTerms_L7_s (X2_bringToLowestTerms_L7 q) a0 a1 h = some h' := H
    unfold X2_bringToLowestTerms_L7_s at H
    refine go_iload_n (pc := 7) dX2_bringToLowestTerms_7 rfl rfl ?_
    refine go_aload_n (pc := 8) dX2_bringToLowestTerms_8 rfl rfl ?_
    refine go_getR (pc := 9) dX2_bringToLowestTerms_9 fl_X2_9 H (fun v101 H => ?_)
    refine go_getR (pc := 12) dX2_bringToLowestTerms_12 fl_X2_25 H (fun v102 H => ?_)
    refine go_getR (pc := 15) dX2_bringToLowestTerms_15 fl_X2_29 H (fun v103 H => ?_)
    refine go_getI (pc := 18) dX2_bringToLowestTerms_18 fl_X2_35 H (fun v104 H => ?_)
    refine go_icmp_ge (pc := 21) (tgt := 42) dX2_bringToLowestTerms_21 (by decide) H (fun H => ?_) (fun H => ?_)
    · refine go_aload_n (pc := 42) dX2_bringToLowestTerms_42 rfl rfl ?_
      refine go_getJ (pc := 43) dX2_bringToLowestTerms_43 fl_X2_15 H (fun v105 H => ?_)
      refine go_aload_n (pc := 46) dX2_bringToLowestTerms_46 rfl rfl ?_
      refine go_getJ (pc := 47) dX2_bringToLowestTerms_47 fl_X2_80 H (fun v106 H => ?_)
      refine go_cSl (pc := 50) (Mz := M_X2_commonOf) (as := [.long v105, .long v106]) (st := []) dX2_bringToLowestTerms_50 wd_1130 cs_X2_commonOf X2_commonOf_ok rfl rfl ⟨Nat.le_of_ble_eq_true rfl, Nat.le_of_ble_eq_true rfl⟩ (Nat.le_of_ble_eq_true rfl) ⟨rfl, rfl⟩ ⟨Nat.le_of_ble_eq_true rfl, Nat.le_of_ble_eq_true rfl⟩ H (fun v108 h107 H => ?_)
      refine go_lstore_n (pc := 53) (L' := [some (.ref a0), some (.long v108), none]) dX2_bringToLowestTerms_53 rfl (Nat.le_of_ble_eq_true rfl) rfl ?_
      refine go_lload_n (pc := 54) dX2_bringToLowestTerms_54 rfl rfl ?_
      refine go_lconst (pc := 55) (v := 1) dX2_bringToLowestTerms_55 (by decide) ?_
      refine go_lcmp (pc := 56) dX2_bringToLowestTerms_56 ?_
      refine go_if_le (pc := 57) (tgt := 80) dX2_bringToLowestTerms_57 (by decide) H (fun H => ?_) (fun H => ?_)
      · exact go_vret (pc := 80) dX2_bringToLowestTerms_80 rfl ⟨Nat.le_of_ble_eq_true rfl, Nat.le_of_ble_eq_true rfl⟩ H
      · refine go_aload_n (pc := 60) dX2_bringToLowestTerms_60 rfl rfl ?_
        refine go_dup (pc := 61) dX2_bringToLowestTerms_61 rfl ?_
        refine go_getJ (pc := 62) dX2_bringToLowestTerms_62 fl_X2_15 H (fun v109 H => ?_)
        refine go_lload_n (pc := 65) dX2_bringToLowestTerms_65 rfl rfl ?_
        refine go_ldivC (pc := 66) dX2_bringToLowestTerms_66 H (fun H => ?_)
        refine go_putJ (pc := 67) dX2_bringToLowestTerms_67 fs_X2_15 H (fun h110 H => ?_)
        refine go_aload_n (pc := 70) dX2_bringToLowestTerms_70 rfl rfl ?_
        refine go_dup (pc := 71) dX2_bringToLowestTerms_71 rfl ?_
        refine go_getJ (pc := 72) dX2_bringToLowestTerms_72 fl_X2_80 H (fun v111 H => ?_)
        refine go_lload_n (pc := 75) dX2_bringToLowestTerms_75 rfl rfl ?_
        refine go_ldivC (pc := 76) dX2_bringToLowestTerms_76 H (fun H => ?_)
        refine go_putJ (pc := 77) dX2_bringToLowestTerms_77 fs_X2_80 H (fun h112 H => ?_)
        exact go_vret (pc := 80) dX2_bringToLowestTerms_80 rfl ⟨Nat.le_of_ble_eq_true rfl, Nat.le_of_ble_eq_true rfl⟩ H
    · refine go_aload_n (pc := 24) dX2_bringToLowestTerms_24 rfl rfl ?_
      refine go_dup (pc := 25) dX2_bringToLowestTerms_25 rfl ?_
      refine go_getJ (pc := 26) dX2_bringToLowestTerms_26 fl_X2_80 H (fun v113 H => ?_)
      refine go_ldc2 (pc := 29) (v := 100) dX2_bringToLowestTerms_29 wd_1129 ?_
      refine go_lmul (pc := 32) dX2_bringToLowestTerms_32 ?_
      refine go_putJ (pc := 33) dX2_bringToLowestTerms_33 fs_X2_80 H (fun h114 H => ?_)
      refine go_iinc (pc := 36) (v := a1 + 1) (L' := [some (.ref a0), some (.int (a1 + 1)), none]) dX2_bringToLowestTerms_36 rfl rfl (Nat.le_of_ble_eq_true rfl) rfl ?_
      refine go_goto (pc := 39) (tgt := 7) dX2_bringToLowestTerms_39 (by decide) ?_
      exact Go.weak (L' := [some (.ref a0), some (.int (a1 + 1)), none]) ⟨rfl, ⟨rfl, trivial⟩⟩ (hrc7 a0 (a1 + 1) h114 H)

def X2_bringToLowestTerms (a0 : Nat) (h : Hp) : Option (Hp) :=
  (pF h a0 2 2 (.long 1)).bind fun h1 =>
  X2_bringToLowestTerms_L7 5000 a0 0 h1
theorem X2_bringToLowestTerms_ok {a0 : Nat} {h h' : Hp} (H : X2_bringToLowestTerms a0 h = some h') : Con M_X2_bringToLowestTerms [.ref a0] h none h' := by
  refine con_of_go (by decide) 2 (L := [some (.ref a0), none, none]) rfl (Nat.le_of_ble_eq_true rfl) ?_
  unfold X2_bringToLowestTerms at H
  refine go_aload_n (pc := 0) dX2_bringToLowestTerms_0 rfl rfl ?_
  refine go_lconst (pc := 1) (v := 1) dX2_bringToLowestTerms_1 (by decide) ?_
  refine go_putJ (pc := 2) dX2_bringToLowestTerms_2 fs_X2_80 H (fun h1 H => ?_)
  refine go_iconst (pc := 5) (v := 0) dX2_bringToLowestTerms_5 (by decide) ?_
  refine go_istore_n (pc := 6) (L' := [some (.ref a0), some (.int 0), none]) dX2_bringToLowestTerms_6 rfl (Nat.le_of_ble_eq_true rfl) rfl ?_
  exact Go.weak (L' := [some (.ref a0), some (.int 0), none]) ⟨rfl, ⟨rfl, trivial⟩⟩ (X2_bringToLowestTerms_L7_ok 5000 a0 0 h1 H)

def M_X2_weighOdds : MD := (yX2_weighOdds, cX2_weighOdds, 5, none, 4, 95, 0, 0)
theorem cv_X2_weighOdds : CVo M_X2_weighOdds 3 2 := ⟨⟨wd_1112, wd_120, ⟨by decide, by decide⟩, by decide +kernel⟩, wd_1110, wd_1111, _, rfl, rfl⟩
def X2_weighOdds_B63 (rc16 : Nat → Nat → Int32 → Int32 → Int32 → Hp → Option (Hp)) (a0 : Nat) (a1 : Nat) (a2 : Int32) (a3 : Int32) (a4 : Int32) (h : Hp) : Option (Hp) :=
  rc16 a0 a1 a2 a3 (a4 + 1) h
theorem X2_weighOdds_B63_ok {hh h' : Hp}  (rc16 : Nat → Nat → Int32 → Int32 → Int32 → Hp → Option (Hp)) (hrc16 : ∀ (a0 : Nat) (a1 : Nat) (a2 : Int32) (a3 : Int32) (a4 : Int32) (h : Hp), rc16 a0 a1 a2 a3 a4 h = some h' → Go (PM M_X2_weighOdds hh none h') M_X2_weighOdds 16 [some (.ref a0), some (.ref a1), some (.int a2), some (.int a3), some (.int a4)] [] h 0 0) (a0 : Nat) (a1 : Nat) (a2 : Int32) (a3 : Int32) (a4 : Int32) (h : Hp) (H : X2_weighOdds_B63 rc16 a0 a1 a2 a3 a4 h = some h') : Go (PM M_X2_weighOdds hh none h') M_X2_weighOdds 63 [some (.ref a0), some (.ref a1), some (.int a2), some (.int a3), some (.int a4)] [] h 0 0 := by
  unfold X2_weighOdds_B63 at H
  refine go_iinc (pc := 63) (v := a4 + 1) (L' := [some (.ref a0), some (.ref a1), some (.int a2), some (.int a3), some (.int (a4 + 1))]) dX2_weighOdds_63 rfl rfl (Nat.le_of_ble_eq_true rfl) rfl ?_
  refine go_goto (pc := 66) (tgt := 16) dX2_weighOdds_66 (by decide) ?_
  exact Go.weak (L' := [some (.ref a0), some (.ref a1), some (.int a2), some (.int a3), some (.int (a4 + 1))]) ⟨rfl, ⟨rfl, ⟨rfl, ⟨rfl, ⟨rfl, trivial⟩⟩⟩⟩⟩ (hrc16 a0 a1 a2 a3 (a4 + 1) h H)

def X2_weighOdds_L16_s (rc16 : Nat → Nat → Int32 → Int32 → Int32 → Hp → Option (Hp)) (a0 : Nat) (a1 : Nat) (a2 : Int32) (a3 : Int32) (a4 : Int32) (h : Hp) : Option (Hp) :=
  (gR h a0 2 0).bind fun v101 =>
  (gR h v101 6 3).bind fun v102 =>
  (gR h v102 9 3).bind fun v103 =>
  (gI h v103 8 3).bind fun v104 =>
  if ((1 : Int32) <<< (v104 &&& 31)) ≤ a4 then (
    cVv h a0 2 (X2_bringToLowestTerms a0 h) fun h105 =>
    some h105)
  else (
    cV h a0 2 (X2_apart a0 a1 a2 a4 h) fun v107 h106 =>
    if a3 < v107 then (
      X2_weighOdds_B63 rc16 a0 a1 a2 a3 a4 h106)
    else (
      (gJ h106 a0 2 1).bind fun v108 =>
      cV h106 a0 2 (X2_weight a0 a4 h106) fun v110 h109 =>
      (pF h109 a0 2 1 (.long (v108 + v110))).bind fun h111 =>
      X2_weighOdds_B63 rc16 a0 a1 a2 a3 a4 h111))
def X2_weighOdds_L16 (q : Nat) : Nat → Nat → Int32 → Int32 → Int32 → Hp → Option (Hp) := loopN (fun _ _ _ _ _ _ => none) (X2_weighOdds_L16_s) q
theorem X2_weighOdds_L16_ok {hh h' : Hp}  : ∀ (q : Nat) (a0 : Nat) (a1 : Nat) (a2 : Int32) (a3 : Int32) (a4 : Int32) (h : Hp), X2_weighOdds_L16 q a0 a1 a2 a3 a4 h = some h' → Go (PM M_X2_weighOdds hh none h') M_X2_weighOdds 16 [some (.ref a0), some (.ref a1), some (.int a2), some (.int a3), some (.int a4)] [] h 0 0 := by
  intro q
  induction q with
  | zero => intro a0 a1 a2 a3 a4 h H; cases H
  | succ q hrc16 =>
    intro a0 a1 a2 a3 a4 h H
    replace H : X2_weighOdds_L16_s (X2_weighOdds_L16 q) a0 a1 a2 a3 a4 h = some h' := H
    unfold X2_weighOdds_L16_s at H
    refine go_iload (pc := 16) dX2_weighOdds_16 rfl ?_
    refine go_iconst (pc := 18) (v := 1) dX2_weighOdds_18 (by decide) ?_
    refine go_aload_n (pc := 19) dX2_weighOdds_19 rfl rfl ?_
    refine go_getR (pc := 20) dX2_weighOdds_20 fl_X2_9 H (fun v101 H => ?_)
    refine go_getR (pc := 23) dX2_weighOdds_23 fl_X2_25 H (fun v102 H => ?_)
    refine go_getR (pc := 26) dX2_weighOdds_26 fl_X2_29 H (fun v103 H => ?_)
    refine go_getI (pc := 29) dX2_weighOdds_29 fl_X2_35 H (fun v104 H => ?_)
    refine go_ishl (pc := 32) dX2_weighOdds_32 ?_
    refine go_icmp_ge (pc := 33) (tgt := 69) dX2_weighOdds_33 (by decide) H (fun H => ?_) (fun H => ?_)
    · refine go_aload_n (pc := 69) dX2_weighOdds_69 rfl rfl ?_
      refine go_cVv (pc := 70) (Mz := M_X2_bringToLowestTerms) (as := []) (a := a0) (st := []) dX2_weighOdds_70 wd_1125 cv_X2_bringToLowestTerms X2_bringToLowestTerms_ok rfl rfl ⟨Nat.le_of_ble_eq_true rfl, Nat.le_of_ble_eq_true rfl⟩ (Nat.le_of_ble_eq_true rfl) ⟨rfl, rfl⟩ ⟨Nat.le_of_ble_eq_true rfl, Nat.le_of_ble_eq_true rfl⟩ H (fun h105 H => ?_)
      exact go_vret (pc := 73) dX2_weighOdds_73 rfl ⟨Nat.le_of_ble_eq_true rfl, Nat.le_of_ble_eq_true rfl⟩ H
    · refine go_aload_n (pc := 36) dX2_weighOdds_36 rfl rfl ?_
      refine go_aload_n (pc := 37) dX2_weighOdds_37 rfl rfl ?_
      refine go_iload_n (pc := 38) dX2_weighOdds_38 rfl rfl ?_
      refine go_iload (pc := 39) dX2_weighOdds_39 rfl ?_
      refine go_cVi (pc := 41) (Mz := M_X2_apart) (as := [.ref a1, .int a2, .int a4]) (a := a0) (st := []) dX2_weighOdds_41 wd_1114 cv_X2_apart X2_apart_ok rfl rfl ⟨Nat.le_of_ble_eq_true rfl, Nat.le_of_ble_eq_true rfl⟩ (Nat.le_of_ble_eq_true rfl) ⟨rfl, rfl⟩ ⟨Nat.le_of_ble_eq_true rfl, Nat.le_of_ble_eq_true rfl⟩ H (fun v107 h106 H => ?_)
      refine go_iload_n (pc := 44) dX2_weighOdds_44 rfl rfl ?_
      refine go_icmp_gt (pc := 45) (tgt := 63) dX2_weighOdds_45 (by decide) H (fun H => ?_) (fun H => ?_)
      · exact Go.weak (L' := [some (.ref a0), some (.ref a1), some (.int a2), some (.int a3), some (.int a4)]) ⟨rfl, ⟨rfl, ⟨rfl, ⟨rfl, ⟨rfl, trivial⟩⟩⟩⟩⟩ (X2_weighOdds_B63_ok _ hrc16 a0 a1 a2 a3 a4 h106 H)
      · refine go_aload_n (pc := 48) dX2_weighOdds_48 rfl rfl ?_
        refine go_dup (pc := 49) dX2_weighOdds_49 rfl ?_
        refine go_getJ (pc := 50) dX2_weighOdds_50 fl_X2_15 H (fun v108 H => ?_)
        refine go_aload_n (pc := 53) dX2_weighOdds_53 rfl rfl ?_
        refine go_iload (pc := 54) dX2_weighOdds_54 rfl ?_
        refine go_cVl (pc := 56) (Mz := M_X2_weight) (as := [.int a4]) (a := a0) (st := [.long v108, .ref a0]) dX2_weighOdds_56 wd_1121 cv_X2_weight X2_weight_ok rfl rfl ⟨Nat.le_of_ble_eq_true rfl, Nat.le_of_ble_eq_true rfl⟩ (Nat.le_of_ble_eq_true rfl) ⟨rfl, rfl⟩ ⟨Nat.le_of_ble_eq_true rfl, Nat.le_of_ble_eq_true rfl⟩ H (fun v110 h109 H => ?_)
        refine go_ladd (pc := 59) dX2_weighOdds_59 ?_
        refine go_putJ (pc := 60) dX2_weighOdds_60 fs_X2_15 H (fun h111 H => ?_)
        exact Go.weak (L' := [some (.ref a0), some (.ref a1), some (.int a2), some (.int a3), some (.int a4)]) ⟨rfl, ⟨rfl, ⟨rfl, ⟨rfl, ⟨rfl, trivial⟩⟩⟩⟩⟩ (X2_weighOdds_B63_ok _ hrc16 a0 a1 a2 a3 a4 h111 H)

def X2_weighOdds (a0 : Nat) (a1 : Nat) (a2 : Int32) (a3 : Int32) (h : Hp) : Option (Hp) :=
  (pF h a0 2 1 (.long 0)).bind fun h1 =>
  (gR h1 a0 2 0).bind fun v2 =>
  cVv h1 v2 6 (X6_reckon v2 a1 h1) fun h3 =>
  X2_weighOdds_L16 5000 a0 a1 a2 a3 0 h3
theorem X2_weighOdds_ok {a0 : Nat} {a1 : Nat} {a2 : Int32} {a3 : Int32} {h h' : Hp} (H : X2_weighOdds a0 a1 a2 a3 h = some h') : Con M_X2_weighOdds [.ref a0, .ref a1, .int a2, .int a3] h none h' := by
  refine con_of_go (by decide) 1 (L := [some (.ref a0), some (.ref a1), some (.int a2), some (.int a3), none]) rfl (Nat.le_of_ble_eq_true rfl) ?_
  unfold X2_weighOdds at H
  refine go_aload_n (pc := 0) dX2_weighOdds_0 rfl rfl ?_
  refine go_lconst (pc := 1) (v := 0) dX2_weighOdds_1 (by decide) ?_
  refine go_putJ (pc := 2) dX2_weighOdds_2 fs_X2_15 H (fun h1 H => ?_)
  refine go_aload_n (pc := 5) dX2_weighOdds_5 rfl rfl ?_
  refine go_getR (pc := 6) dX2_weighOdds_6 fl_X2_9 H (fun v2 H => ?_)
  refine go_aload_n (pc := 9) dX2_weighOdds_9 rfl rfl ?_
  refine go_cVv (pc := 10) (Mz := M_X6_reckon) (as := [.ref a1]) (a := v2) (st := []) dX2_weighOdds_10 wd_1113 cv_X6_reckon X6_reckon_ok rfl rfl ⟨Nat.le_of_ble_eq_true rfl, Nat.le_of_ble_eq_true rfl⟩ (Nat.le_of_ble_eq_true rfl) ⟨rfl, rfl⟩ ⟨Nat.le_of_ble_eq_true rfl, Nat.le_of_ble_eq_true rfl⟩ H (fun h3 H => ?_)
  refine go_iconst (pc := 13) (v := 0) dX2_weighOdds_13 (by decide) ?_
  refine go_istore (pc := 14) (L' := [some (.ref a0), some (.ref a1), some (.int a2), some (.int a3), some (.int 0)]) dX2_weighOdds_14 (Nat.le_of_ble_eq_true rfl) rfl ?_
  exact Go.weak (L' := [some (.ref a0), some (.ref a1), some (.int a2), some (.int a3), some (.int 0)]) ⟨rfl, ⟨rfl, ⟨rfl, ⟨rfl, ⟨rfl, trivial⟩⟩⟩⟩⟩ (X2_weighOdds_L16_ok 5000 a0 a1 a2 a3 0 h3 H)

def M_X2_weighMean : MD := (yX2_weighMean, cX2_weighMean, 4, none, 4, 95, 0, 0)
theorem cv_X2_weighMean : CVo M_X2_weighMean 2 2 := ⟨⟨wd_1140, wd_120, ⟨by decide, by decide⟩, by decide +kernel⟩, wd_1138, wd_1139, _, rfl, rfl⟩
def X2_weighMean_L15_s (rc15 : Nat → Nat → Int32 → Int32 → Hp → Option (Hp)) (a0 : Nat) (a1 : Nat) (a2 : Int32) (a3 : Int32) (h : Hp) : Option (Hp) :=
  (gR h a0 2 0).bind fun v101 =>
  (gR h v101 6 3).bind fun v102 =>
  (gR h v102 9 3).bind fun v103 =>
  (gI h v103 8 3).bind fun v104 =>
  if ((1 : Int32) <<< (v104 &&& 31)) ≤ a3 then (
    cVv h a0 2 (X2_bringToLowestTerms a0 h) fun h105 =>
    some h105)
  else (
    (gJ h a0 2 1).bind fun v106 =>
    cV h a0 2 (X2_weight a0 a3 h) fun v108 h107 =>
    cV h107 a0 2 (X2_apart a0 a1 a2 a3 h107) fun v110 h109 =>
    (pF h109 a0 2 1 (.long (v106 + (v108 * (Int32.toInt64 v110))))).bind fun h111 =>
    rc15 a0 a1 a2 (a3 + 1) h111)
def X2_weighMean_L15 (q : Nat) : Nat → Nat → Int32 → Int32 → Hp → Option (Hp) := loopN (fun _ _ _ _ _ => none) (X2_weighMean_L15_s) q
theorem X2_weighMean_L15_ok {hh h' : Hp}  : ∀ (q : Nat) (a0 : Nat) (a1 : Nat) (a2 : Int32) (a3 : Int32) (h : Hp), X2_weighMean_L15 q a0 a1 a2 a3 h = some h' → Go (PM M_X2_weighMean hh none h') M_X2_weighMean 15 [some (.ref a0), some (.ref a1), some (.int a2), some (.int a3)] [] h 0 0 := by
  intro q
  induction q with
  | zero => intro a0 a1 a2 a3 h H; cases H
  | succ q hrc15 =>
    intro a0 a1 a2 a3 h H
    replace H : X2_weighMean_L15_s (X2_weighMean_L15 q) a0 a1 a2 a3 h = some h' := H
    unfold X2_weighMean_L15_s at H
    refine go_iload_n (pc := 15) dX2_weighMean_15 rfl rfl ?_
    refine go_iconst (pc := 16) (v := 1) dX2_weighMean_16 (by decide) ?_
    refine go_aload_n (pc := 17) dX2_weighMean_17 rfl rfl ?_
    refine go_getR (pc := 18) dX2_weighMean_18 fl_X2_9 H (fun v101 H => ?_)
    refine go_getR (pc := 21) dX2_weighMean_21 fl_X2_25 H (fun v102 H => ?_)
    refine go_getR (pc := 24) dX2_weighMean_24 fl_X2_29 H (fun v103 H => ?_)
    refine go_getI (pc := 27) dX2_weighMean_27 fl_X2_35 H (fun v104 H => ?_)
    refine go_ishl (pc := 30) dX2_weighMean_30 ?_
    refine go_icmp_ge (pc := 31) (tgt := 63) dX2_weighMean_31 (by decide) H (fun H => ?_) (fun H => ?_)
    · refine go_aload_n (pc := 63) dX2_weighMean_63 rfl rfl ?_
      refine go_cVv (pc := 64) (Mz := M_X2_bringToLowestTerms) (as := []) (a := a0) (st := []) dX2_weighMean_64 wd_1125 cv_X2_bringToLowestTerms X2_bringToLowestTerms_ok rfl rfl ⟨Nat.le_of_ble_eq_true rfl, Nat.le_of_ble_eq_true rfl⟩ (Nat.le_of_ble_eq_true rfl) ⟨rfl, rfl⟩ ⟨Nat.le_of_ble_eq_true rfl, Nat.le_of_ble_eq_true rfl⟩ H (fun h105 H => ?_)
      exact go_vret (pc := 67) dX2_weighMean_67 rfl ⟨Nat.le_of_ble_eq_true rfl, Nat.le_of_ble_eq_true rfl⟩ H
    · refine go_aload_n (pc := 34) dX2_weighMean_34 rfl rfl ?_
      refine go_dup (pc := 35) dX2_weighMean_35 rfl ?_
      refine go_getJ (pc := 36) dX2_weighMean_36 fl_X2_15 H (fun v106 H => ?_)
      refine go_aload_n (pc := 39) dX2_weighMean_39 rfl rfl ?_
      refine go_iload_n (pc := 40) dX2_weighMean_40 rfl rfl ?_
      refine go_cVl (pc := 41) (Mz := M_X2_weight) (as := [.int a3]) (a := a0) (st := [.long v106, .ref a0]) dX2_weighMean_41 wd_1121 cv_X2_weight X2_weight_ok rfl rfl ⟨Nat.le_of_ble_eq_true rfl, Nat.le_of_ble_eq_true rfl⟩ (Nat.le_of_ble_eq_true rfl) ⟨rfl, rfl⟩ ⟨Nat.le_of_ble_eq_true rfl, Nat.le_of_ble_eq_true rfl⟩ H (fun v108 h107 H => ?_)
      refine go_aload_n (pc := 44) dX2_weighMean_44 rfl rfl ?_
      refine go_aload_n (pc := 45) dX2_weighMean_45 rfl rfl ?_
      refine go_iload_n (pc := 46) dX2_weighMean_46 rfl rfl ?_
      refine go_iload_n (pc := 47) dX2_weighMean_47 rfl rfl ?_
      refine go_cVi (pc := 48) (Mz := M_X2_apart) (as := [.ref a1, .int a2, .int a3]) (a := a0) (st := [.long v108, .long v106, .ref a0]) dX2_weighMean_48 wd_1114 cv_X2_apart X2_apart_ok rfl rfl ⟨Nat.le_of_ble_eq_true rfl, Nat.le_of_ble_eq_true rfl⟩ (Nat.le_of_ble_eq_true rfl) ⟨rfl, rfl⟩ ⟨Nat.le_of_ble_eq_true rfl, Nat.le_of_ble_eq_true rfl⟩ H (fun v110 h109 H => ?_)
      refine go_i2l (pc := 51) dX2_weighMean_51 ?_
      refine go_lmul (pc := 52) dX2_weighMean_52 ?_
      refine go_ladd (pc := 53) dX2_weighMean_53 ?_
      refine go_putJ (pc := 54) dX2_weighMean_54 fs_X2_15 H (fun h111 H => ?_)
      refine go_iinc (pc := 57) (v := a3 + 1) (L' := [some (.ref a0), some (.ref a1), some (.int a2), some (.int (a3 + 1))]) dX2_weighMean_57 rfl rfl (Nat.le_of_ble_eq_true rfl) rfl ?_
      refine go_goto (pc := 60) (tgt := 15) dX2_weighMean_60 (by decide) ?_
      exact Go.weak (L' := [some (.ref a0), some (.ref a1), some (.int a2), some (.int (a3 + 1))]) ⟨rfl, ⟨rfl, ⟨rfl, ⟨rfl, trivial⟩⟩⟩⟩ (hrc15 a0 a1 a2 (a3 + 1) h111 H)

def X2_weighMean (a0 : Nat) (a1 : Nat) (a2 : Int32) (h : Hp) : Option (Hp) :=
  (pF h a0 2 1 (.long 0)).bind fun h1 =>
  (gR h1 a0 2 0).bind fun v2 =>
  cVv h1 v2 6 (X6_reckon v2 a1 h1) fun h3 =>
  X2_weighMean_L15 5000 a0 a1 a2 0 h3
theorem X2_weighMean_ok {a0 : Nat} {a1 : Nat} {a2 : Int32} {h h' : Hp} (H : X2_weighMean a0 a1 a2 h = some h') : Con M_X2_weighMean [.ref a0, .ref a1, .int a2] h none h' := by
  refine con_of_go (by decide) 1 (L := [some (.ref a0), some (.ref a1), some (.int a2), none]) rfl (Nat.le_of_ble_eq_true rfl) ?_
  unfold X2_weighMean at H
  refine go_aload_n (pc := 0) dX2_weighMean_0 rfl rfl ?_
  refine go_lconst (pc := 1) (v := 0) dX2_weighMean_1 (by decide) ?_
  refine go_putJ (pc := 2) dX2_weighMean_2 fs_X2_15 H (fun h1 H => ?_)
  refine go_aload_n (pc := 5) dX2_weighMean_5 rfl rfl ?_
  refine go_getR (pc := 6) dX2_weighMean_6 fl_X2_9 H (fun v2 H => ?_)
  refine go_aload_n (pc := 9) dX2_weighMean_9 rfl rfl ?_
  refine go_cVv (pc := 10) (Mz := M_X6_reckon) (as := [.ref a1]) (a := v2) (st := []) dX2_weighMean_10 wd_1113 cv_X6_reckon X6_reckon_ok rfl rfl ⟨Nat.le_of_ble_eq_true rfl, Nat.le_of_ble_eq_true rfl⟩ (Nat.le_of_ble_eq_true rfl) ⟨rfl, rfl⟩ ⟨Nat.le_of_ble_eq_true rfl, Nat.le_of_ble_eq_true rfl⟩ H (fun h3 H => ?_)
  refine go_iconst (pc := 13) (v := 0) dX2_weighMean_13 (by decide) ?_
  refine go_istore_n (pc := 14) (L' := [some (.ref a0), some (.ref a1), some (.int a2), some (.int 0)]) dX2_weighMean_14 rfl (Nat.le_of_ble_eq_true rfl) rfl ?_
  exact Go.weak (L' := [some (.ref a0), some (.ref a1), some (.int a2), some (.int 0)]) ⟨rfl, ⟨rfl, ⟨rfl, ⟨rfl, trivial⟩⟩⟩⟩ (X2_weighMean_L15_ok 5000 a0 a1 a2 0 h3 H)

def M_X2_dearestNoon : MD := (yX2_dearestNoon, cX2_dearestNoon, 7, (some .int), 4, 95, 0, 0)
theorem cv_X2_dearestNoon : CVo M_X2_dearestNoon 1 2 := ⟨⟨wd_1148, wd_120, ⟨by decide, by decide⟩, by decide +kernel⟩, wd_1146, wd_1147, _, rfl, rfl⟩
def X2_dearestNoon_B85 (rc37 : Nat → Nat → Int32 → Int32 → Int32 → Int32 → Hp → Option (Int32 × Hp)) (a0 : Nat) (a1 : Nat) (a2 : Int32) (a3 : Int32) (a4 : Int32) (a5 : Int32) (h : Hp) : Option (Int32 × Hp) :=
  rc37 a0 a1 a2 a3 a4 (a5 + 1) h
theorem X2_dearestNoon_B85_ok {hh h' : Hp} {r : Int32}  (rc37 : Nat → Nat → Int32 → Int32 → Int32 → Int32 → Hp → Option (Int32 × Hp)) (hrc37 : ∀ (a0 : Nat) (a1 : Nat) (a2 : Int32) (a3 : Int32) (a4 : Int32) (a5 : Int32) (h : Hp), rc37 a0 a1 a2 a3 a4 a5 h = some (r, h') → Go (PM M_X2_dearestNoon hh (some (.int r)) h') M_X2_dearestNoon 37 [some (.ref a0), some (.ref a1), some (.int a2), some (.int a3), some (.int a4), some (.int a5), none] [] h 0 0) (a0 : Nat) (a1 : Nat) (a2 : Int32) (a3 : Int32) (a4 : Int32) (a5 : Int32) (h : Hp) (H : X2_dearestNoon_B85 rc37 a0 a1 a2 a3 a4 a5 h = some (r, h')) : Go (PM M_X2_dearestNoon hh (some (.int r)) h') M_X2_dearestNoon 85 [some (.ref a0), some (.ref a1), some (.int a2), some (.int a3), some (.int a4), some (.int a5), none] [] h 0 0 := by
  unfold X2_dearestNoon_B85 at H
  refine go_iinc (pc := 85) (v := a5 + 1) (L' := [some (.ref a0), some (.ref a1), some (.int a2), some (.int a3), some (.int a4), some (.int (a5 + 1)), none]) dX2_dearestNoon_85 rfl rfl (Nat.le_of_ble_eq_true rfl) rfl ?_
  refine go_goto (pc := 88) (tgt := 37) dX2_dearestNoon_88 (by decide) ?_
  exact Go.weak (L' := [some (.ref a0), some (.ref a1), some (.int a2), some (.int a3), some (.int a4), some (.int (a5 + 1)), none]) ⟨rfl, ⟨rfl, ⟨rfl, ⟨rfl, ⟨rfl, ⟨rfl, trivial⟩⟩⟩⟩⟩⟩ (hrc37 a0 a1 a2 a3 a4 (a5 + 1) h H)

def X2_dearestNoon_L37_s (rc37 : Nat → Nat → Int32 → Int32 → Int32 → Int32 → Hp → Option (Int32 × Hp)) (a0 : Nat) (a1 : Nat) (a2 : Int32) (a3 : Int32) (a4 : Int32) (a5 : Int32) (h : Hp) : Option (Int32 × Hp) :=
  (gR h a0 2 0).bind fun v101 =>
  (gR h v101 6 3).bind fun v102 =>
  (gR h v102 9 3).bind fun v103 =>
  (gI h v103 8 3).bind fun v104 =>
  if v104 ≤ a5 then (
    some (a3, h))
  else (
    cV h a0 2 (X2_apart a0 a1 a2 ((-1) &&& (((1 : Int32) <<< (a5 &&& 31)) ^^^ (-1))) h) fun v106 h105 =>
    if v106 ≤ a4 then (
      X2_dearestNoon_B85 rc37 a0 a1 a2 a3 a4 a5 h105)
    else (
      X2_dearestNoon_B85 rc37 a0 a1 a2 a5 v106 a5 h105))
def X2_dearestNoon_L37 (q : Nat) : Nat → Nat → Int32 → Int32 → Int32 → Int32 → Hp → Option (Int32 × Hp) := loopN (fun _ _ _ _ _ _ _ => none) (X2_dearestNoon_L37_s) q
theorem X2_dearestNoon_L37_ok {hh h' : Hp} {r : Int32}  : ∀ (q : Nat) (a0 : Nat) (a1 : Nat) (a2 : Int32) (a3 : Int32) (a4 : Int32) (a5 : Int32) (h : Hp), X2_dearestNoon_L37 q a0 a1 a2 a3 a4 a5 h = some (r, h') → Go (PM M_X2_dearestNoon hh (some (.int r)) h') M_X2_dearestNoon 37 [some (.ref a0), some (.ref a1), some (.int a2), some (.int a3), some (.int a4), some (.int a5), none] [] h 0 0 := by
  intro q
  induction q with
  | zero => intro a0 a1 a2 a3 a4 a5 h H; cases H
  | succ q hrc37 =>
    intro a0 a1 a2 a3 a4 a5 h H
    replace H : X2_dearestNoon_L37_s (X2_dearestNoon_L37 q) a0 a1 a2 a3 a4 a5 h = some (r, h') := H
    unfold X2_dearestNoon_L37_s at H
    refine go_iload (pc := 37) dX2_dearestNoon_37 rfl ?_
    refine go_aload_n (pc := 39) dX2_dearestNoon_39 rfl rfl ?_
    refine go_getR (pc := 40) dX2_dearestNoon_40 fl_X2_9 H (fun v101 H => ?_)
    refine go_getR (pc := 43) dX2_dearestNoon_43 fl_X2_25 H (fun v102 H => ?_)
    refine go_getR (pc := 46) dX2_dearestNoon_46 fl_X2_29 H (fun v103 H => ?_)
    refine go_getI (pc := 49) dX2_dearestNoon_49 fl_X2_35 H (fun v104 H => ?_)
    refine go_icmp_ge (pc := 52) (tgt := 91) dX2_dearestNoon_52 (by decide) H (fun H => ?_) (fun H => ?_)
    · refine go_iload_n (pc := 91) dX2_dearestNoon_91 rfl rfl ?_
      exact go_iret (pc := 92) dX2_dearestNoon_92 rfl ⟨Nat.le_of_ble_eq_true rfl, Nat.le_of_ble_eq_true rfl⟩ H
    · refine go_aload_n (pc := 55) dX2_dearestNoon_55 rfl rfl ?_
      refine go_aload_n (pc := 56) dX2_dearestNoon_56 rfl rfl ?_
      refine go_iload_n (pc := 57) dX2_dearestNoon_57 rfl rfl ?_
      refine go_iconst (pc := 58) (v := (-1)) dX2_dearestNoon_58 (by decide) ?_
      refine go_iconst (pc := 59) (v := 1) dX2_dearestNoon_59 (by decide) ?_
      refine go_iload (pc := 60) dX2_dearestNoon_60 rfl ?_
      refine go_ishl (pc := 62) dX2_dearestNoon_62 ?_
      refine go_iconst (pc := 63) (v := (-1)) dX2_dearestNoon_63 (by decide) ?_
      refine go_ixor (pc := 64) dX2_dearestNoon_64 ?_
      refine go_iand (pc := 65) dX2_dearestNoon_65 ?_
      refine go_cVi (pc := 66) (Mz := M_X2_apart) (as := [.ref a1, .int a2, .int ((-1) &&& (((1 : Int32) <<< (a5 &&& 31)) ^^^ (-1)))]) (a := a0) (st := []) dX2_dearestNoon_66 wd_1114 cv_X2_apart X2_apart_ok rfl rfl ⟨Nat.le_of_ble_eq_true rfl, Nat.le_of_ble_eq_true rfl⟩ (Nat.le_of_ble_eq_true rfl) ⟨rfl, rfl⟩ ⟨Nat.le_of_ble_eq_true rfl, Nat.le_of_ble_eq_true rfl⟩ H (fun v106 h105 H => ?_)
      refine go_istore (pc := 69) (L' := [some (.ref a0), some (.ref a1), some (.int a2), some (.int a3), some (.int a4), some (.int a5), some (.int v106)]) dX2_dearestNoon_69 (Nat.le_of_ble_eq_true rfl) rfl ?_
      refine go_iload (pc := 71) dX2_dearestNoon_71 rfl ?_
      refine go_iload (pc := 73) dX2_dearestNoon_73 rfl ?_
      refine go_icmp_le (pc := 75) (tgt := 85) dX2_dearestNoon_75 (by decide) H (fun H => ?_) (fun H => ?_)
      · exact Go.weak (L' := [some (.ref a0), some (.ref a1), some (.int a2), some (.int a3), some (.int a4), some (.int a5), none]) ⟨rfl, ⟨rfl, ⟨rfl, ⟨rfl, ⟨rfl, ⟨rfl, trivial⟩⟩⟩⟩⟩⟩ (X2_dearestNoon_B85_ok _ hrc37 a0 a1 a2 a3 a4 a5 h105 H)
      · refine go_iload (pc := 78) dX2_dearestNoon_78 rfl ?_
        refine go_istore_n (pc := 80) (L' := [some (.ref a0), some (.ref a1), some (.int a2), some (.int a5), some (.int a4), some (.int a5), some (.int v106)]) dX2_dearestNoon_80 rfl (Nat.le_of_ble_eq_true rfl) rfl ?_
        refine go_iload (pc := 81) dX2_dearestNoon_81 rfl ?_
        refine go_istore (pc := 83) (L' := [some (.ref a0), some (.ref a1), some (.int a2), some (.int a5), some (.int v106), some (.int a5), some (.int v106)]) dX2_dearestNoon_83 (Nat.le_of_ble_eq_true rfl) rfl ?_
        exact Go.weak (L' := [some (.ref a0), some (.ref a1), some (.int a2), some (.int a5), some (.int v106), some (.int a5), none]) ⟨rfl, ⟨rfl, ⟨rfl, ⟨rfl, ⟨rfl, ⟨rfl, trivial⟩⟩⟩⟩⟩⟩ (X2_dearestNoon_B85_ok _ hrc37 a0 a1 a2 a5 v106 a5 h105 H)

def X2_dearestNoon (a0 : Nat) (a1 : Nat) (h : Hp) : Option (Int32 × Hp) :=
  (gR h a0 2 0).bind fun v1 =>
  (gR h v1 6 3).bind fun v2 =>
  (gR h v2 9 2).bind fun v3 =>
  (gI h v3 8 3).bind fun v4 =>
  (gR h a0 2 0).bind fun v5 =>
  cVv h v5 6 (X6_reckon v5 a1 h) fun h6 =>
  cV h6 a0 2 (X2_apart a0 a1 v4 (-1) h6) fun v8 h7 =>
  X2_dearestNoon_L37 5000 a0 a1 v4 (-2) v8 0 h7
theorem X2_dearestNoon_ok {a0 : Nat} {a1 : Nat} {h h' : Hp} {r : Int32} (H : X2_dearestNoon a0 a1 h = some (r, h')) : Con M_X2_dearestNoon [.ref a0, .ref a1] h (some (.int r)) h' := by
  refine con_of_go (by decide) 5 (L := [some (.ref a0), some (.ref a1), none, none, none, none, none]) rfl (Nat.le_of_ble_eq_true rfl) ?_
  unfold X2_dearestNoon at H
  refine go_aload_n (pc := 0) dX2_dearestNoon_0 rfl rfl ?_
  refine go_getR (pc := 1) dX2_dearestNoon_1 fl_X2_9 H (fun v1 H => ?_)
  refine go_getR (pc := 4) dX2_dearestNoon_4 fl_X2_25 H (fun v2 H => ?_)
  refine go_getR (pc := 7) dX2_dearestNoon_7 fl_X2_52 H (fun v3 H => ?_)
  refine go_getI (pc := 10) dX2_dearestNoon_10 fl_X2_35 H (fun v4 H => ?_)
  refine go_istore_n (pc := 13) (L' := [some (.ref a0), some (.ref a1), some (.int v4), none, none, none, none]) dX2_dearestNoon_13 rfl (Nat.le_of_ble_eq_true rfl) rfl ?_
  refine go_aload_n (pc := 14) dX2_dearestNoon_14 rfl rfl ?_
  refine go_getR (pc := 15) dX2_dearestNoon_15 fl_X2_9 H (fun v5 H => ?_)
  refine go_aload_n (pc := 18) dX2_dearestNoon_18 rfl rfl ?_
  refine go_cVv (pc := 19) (Mz := M_X6_reckon) (as := [.ref a1]) (a := v5) (st := []) dX2_dearestNoon_19 wd_1113 cv_X6_reckon X6_reckon_ok rfl rfl ⟨Nat.le_of_ble_eq_true rfl, Nat.le_of_ble_eq_true rfl⟩ (Nat.le_of_ble_eq_true rfl) ⟨rfl, rfl⟩ ⟨Nat.le_of_ble_eq_true rfl, Nat.le_of_ble_eq_true rfl⟩ H (fun h6 H => ?_)
  refine go_bipush (pc := 22) (v := (-2)) dX2_dearestNoon_22 (by decide) ?_
  refine go_istore_n (pc := 24) (L' := [some (.ref a0), some (.ref a1), some (.int v4), some (.int (-2)), none, none, none]) dX2_dearestNoon_24 rfl (Nat.le_of_ble_eq_true rfl) rfl ?_
  refine go_aload_n (pc := 25) dX2_dearestNoon_25 rfl rfl ?_
  refine go_aload_n (pc := 26) dX2_dearestNoon_26 rfl rfl ?_
  refine go_iload_n (pc := 27) dX2_dearestNoon_27 rfl rfl ?_
  refine go_iconst (pc := 28) (v := (-1)) dX2_dearestNoon_28 (by decide) ?_
  refine go_cVi (pc := 29) (Mz := M_X2_apart) (as := [.ref a1, .int v4, .int (-1)]) (a := a0) (st := []) dX2_dearestNoon_29 wd_1114 cv_X2_apart X2_apart_ok rfl rfl ⟨Nat.le_of_ble_eq_true rfl, Nat.le_of_ble_eq_true rfl⟩ (Nat.le_of_ble_eq_true rfl) ⟨rfl, rfl⟩ ⟨Nat.le_of_ble_eq_true rfl, Nat.le_of_ble_eq_true rfl⟩ H (fun v8 h7 H => ?_)
  refine go_istore (pc := 32) (L' := [some (.ref a0), some (.ref a1), some (.int v4), some (.int (-2)), some (.int v8), none, none]) dX2_dearestNoon_32 (Nat.le_of_ble_eq_true rfl) rfl ?_
  refine go_iconst (pc := 34) (v := 0) dX2_dearestNoon_34 (by decide) ?_
  refine go_istore (pc := 35) (L' := [some (.ref a0), some (.ref a1), some (.int v4), some (.int (-2)), some (.int v8), some (.int 0), none]) dX2_dearestNoon_35 (Nat.le_of_ble_eq_true rfl) rfl ?_
  exact Go.weak (L' := [some (.ref a0), some (.ref a1), some (.int v4), some (.int (-2)), some (.int v8), some (.int 0), none]) ⟨rfl, ⟨rfl, ⟨rfl, ⟨rfl, ⟨rfl, ⟨rfl, trivial⟩⟩⟩⟩⟩⟩ (X2_dearestNoon_L37_ok 5000 a0 a1 v4 (-2) v8 0 h7 H)
