/-! 20.doubts: written by wip/whole/gen/all.py -/
theorem dX3_init_0 : decode cX3_init 0 = .ok (.aload_n 0, 1) := by decide +kernel
theorem dX3_init_1 : decode cX3_init 1 = .ok (.invokespecial 3, 3) := by decide +kernel
theorem dX3_init_4 : decode cX3_init 4 = .ok (.aload_n 0, 1) := by decide +kernel
theorem dX3_init_5 : decode cX3_init 5 = .ok (.new 9, 3) := by decide +kernel
theorem dX3_init_8 : decode cX3_init 8 = .ok (.dup, 1) := by decide +kernel
theorem dX3_init_9 : decode cX3_init 9 = .ok (.bipush 16, 2) := by decide +kernel
theorem dX3_init_11 : decode cX3_init 11 = .ok (.iconst 1, 1) := by decide +kernel
theorem dX3_init_12 : decode cX3_init 12 = .ok (.invokespecial 11, 3) := by decide +kernel
theorem dX3_init_15 : decode cX3_init 15 = .ok (.putfield 14, 3) := by decide +kernel
theorem dX3_init_18 : decode cX3_init 18 = .ok (.aload_n 0, 1) := by decide +kernel
theorem dX3_init_19 : decode cX3_init 19 = .ok (.aload_n 1, 1) := by decide +kernel
theorem dX3_init_20 : decode cX3_init 20 = .ok (.putfield 20, 3) := by decide +kernel
theorem dX3_init_23 : decode cX3_init 23 = .ok (.return_, 1) := by decide +kernel
theorem dX3_sets_0 : decode cX3_sets 0 = .ok (.iconst 1, 1) := by decide +kernel
theorem dX3_sets_1 : decode cX3_sets 1 = .ok (.aload_n 0, 1) := by decide +kernel
theorem dX3_sets_2 : decode cX3_sets 2 = .ok (.getfield 20, 3) := by decide +kernel
theorem dX3_sets_5 : decode cX3_sets 5 = .ok (.getfield 24, 3) := by decide +kernel
theorem dX3_sets_8 : decode cX3_sets 8 = .ok (.getfield 30, 3) := by decide +kernel
theorem dX3_sets_11 : decode cX3_sets 11 = .ok (.getfield 35, 3) := by decide +kernel
theorem dX3_sets_14 : decode cX3_sets 14 = .ok (.ishl, 1) := by decide +kernel
theorem dX3_sets_15 : decode cX3_sets 15 = .ok (.ireturn, 1) := by decide +kernel
theorem dX3_with_0 : decode cX3_with 0 = .ok (.aload_n 0, 1) := by decide +kernel
theorem dX3_with_1 : decode cX3_with 1 = .ok (.getfield 20, 3) := by decide +kernel
theorem dX3_with_4 : decode cX3_with 4 = .ok (.getfield 24, 3) := by decide +kernel
theorem dX3_with_7 : decode cX3_with 7 = .ok (.getfield 30, 3) := by decide +kernel
theorem dX3_with_10 : decode cX3_with 10 = .ok (.astore_n 3, 1) := by decide +kernel
theorem dX3_with_11 : decode cX3_with 11 = .ok (.iconst 0, 1) := by decide +kernel
theorem dX3_with_12 : decode cX3_with 12 = .ok (.istore 4, 2) := by decide +kernel
theorem dX3_with_14 : decode cX3_with 14 = .ok (.iload 4, 2) := by decide +kernel
theorem dX3_with_16 : decode cX3_with 16 = .ok (.aload_n 3, 1) := by decide +kernel
theorem dX3_with_17 : decode cX3_with 17 = .ok (.getfield 35, 3) := by decide +kernel
theorem dX3_with_20 : decode cX3_with 20 = .ok (.if_icmp .ge 40, 3) := by decide +kernel
theorem dX3_with_23 : decode cX3_with 23 = .ok (.iload_n 2, 1) := by decide +kernel
theorem dX3_with_24 : decode cX3_with 24 = .ok (.iload 4, 2) := by decide +kernel
theorem dX3_with_26 : decode cX3_with 26 = .ok (.ishr, 1) := by decide +kernel
theorem dX3_with_27 : decode cX3_with 27 = .ok (.iconst 1, 1) := by decide +kernel
theorem dX3_with_28 : decode cX3_with 28 = .ok (.iand, 1) := by decide +kernel
theorem dX3_with_29 : decode cX3_with 29 = .ok (.ifCond .eq 25, 3) := by decide +kernel
theorem dX3_with_32 : decode cX3_with 32 = .ok (.aload_n 1, 1) := by decide +kernel
theorem dX3_with_33 : decode cX3_with 33 = .ok (.getfield 57, 3) := by decide +kernel
theorem dX3_with_36 : decode cX3_with 36 = .ok (.aload_n 3, 1) := by decide +kernel
theorem dX3_with_37 : decode cX3_with 37 = .ok (.iload 4, 2) := by decide +kernel
theorem dX3_with_39 : decode cX3_with 39 = .ok (.iconst 0, 1) := by decide +kernel
theorem dX3_with_40 : decode cX3_with 40 = .ok (.invokevirtual 60, 3) := by decide +kernel
theorem dX3_with_43 : decode cX3_with 43 = .ok (.iconst 0, 1) := by decide +kernel
theorem dX3_with_44 : decode cX3_with 44 = .ok (.aload_n 3, 1) := by decide +kernel
theorem dX3_with_45 : decode cX3_with 45 = .ok (.iload 4, 2) := by decide +kernel
theorem dX3_with_47 : decode cX3_with 47 = .ok (.iconst 1, 1) := by decide +kernel
theorem dX3_with_48 : decode cX3_with 48 = .ok (.invokevirtual 60, 3) := by decide +kernel
theorem dX3_with_51 : decode cX3_with 51 = .ok (.invokevirtual 64, 3) := by decide +kernel
theorem dX3_with_54 : decode cX3_with 54 = .ok (.iinc 4 1, 3) := by decide +kernel
theorem dX3_with_57 : decode cX3_with 57 = .ok (.goto (-43), 3) := by decide +kernel
theorem dX3_with_60 : decode cX3_with 60 = .ok (.aload_n 1, 1) := by decide +kernel
theorem dX3_with_61 : decode cX3_with 61 = .ok (.areturn, 1) := by decide +kernel
theorem dX3_supposing_0 : decode cX3_supposing 0 = .ok (.aload_n 0, 1) := by decide +kernel
theorem dX3_supposing_1 : decode cX3_supposing 1 = .ok (.aload_n 0, 1) := by decide +kernel
theorem dX3_supposing_2 : decode cX3_supposing 2 = .ok (.getfield 20, 3) := by decide +kernel
theorem dX3_supposing_5 : decode cX3_supposing 5 = .ok (.aload_n 1, 1) := by decide +kernel
theorem dX3_supposing_6 : decode cX3_supposing 6 = .ok (.invokevirtual 39, 3) := by decide +kernel
theorem dX3_supposing_9 : decode cX3_supposing 9 = .ok (.iload_n 2, 1) := by decide +kernel
theorem dX3_supposing_10 : decode cX3_supposing 10 = .ok (.invokevirtual 43, 3) := by decide +kernel
theorem dX3_supposing_13 : decode cX3_supposing 13 = .ok (.areturn, 1) := by decide +kernel
theorem dX3_asTold_0 : decode cX3_asTold 0 = .ok (.aload_n 0, 1) := by decide +kernel
theorem dX3_asTold_1 : decode cX3_asTold 1 = .ok (.getfield 20, 3) := by decide +kernel
theorem dX3_asTold_4 : decode cX3_asTold 4 = .ok (.getfield 47, 3) := by decide +kernel
theorem dX3_asTold_7 : decode cX3_asTold 7 = .ok (.aload_n 0, 1) := by decide +kernel
theorem dX3_asTold_8 : decode cX3_asTold 8 = .ok (.getfield 20, 3) := by decide +kernel
theorem dX3_asTold_11 : decode cX3_asTold 11 = .ok (.getfield 24, 3) := by decide +kernel
theorem dX3_asTold_14 : decode cX3_asTold 14 = .ok (.invokevirtual 51, 3) := by decide +kernel
theorem dX3_asTold_17 : decode cX3_asTold 17 = .ok (.aload_n 0, 1) := by decide +kernel
theorem dX3_asTold_18 : decode cX3_asTold 18 = .ok (.aload_n 0, 1) := by decide +kernel
theorem dX3_asTold_19 : decode cX3_asTold 19 = .ok (.getfield 20, 3) := by decide +kernel
theorem dX3_asTold_22 : decode cX3_asTold 22 = .ok (.getfield 47, 3) := by decide +kernel
theorem dX3_asTold_25 : decode cX3_asTold 25 = .ok (.iload_n 1, 1) := by decide +kernel
theorem dX3_asTold_26 : decode cX3_asTold 26 = .ok (.invokevirtual 43, 3) := by decide +kernel
theorem dX3_asTold_29 : decode cX3_asTold 29 = .ok (.areturn, 1) := by decide +kernel
theorem dX3_squaresAfter_0 : decode cX3_squaresAfter 0 = .ok (.aload_n 0, 1) := by decide +kernel
theorem dX3_squaresAfter_1 : decode cX3_squaresAfter 1 = .ok (.getfield 14, 3) := by decide +kernel
theorem dX3_squaresAfter_4 : decode cX3_squaresAfter 4 = .ok (.iconst 0, 1) := by decide +kernel
theorem dX3_squaresAfter_5 : decode cX3_squaresAfter 5 = .ok (.putfield 35, 3) := by decide +kernel
theorem dX3_squaresAfter_8 : decode cX3_squaresAfter 8 = .ok (.iconst 0, 1) := by decide +kernel
theorem dX3_squaresAfter_9 : decode cX3_squaresAfter 9 = .ok (.istore_n 3, 1) := by decide +kernel
theorem dX3_squaresAfter_10 : decode cX3_squaresAfter 10 = .ok (.iload_n 3, 1) := by decide +kernel
theorem dX3_squaresAfter_11 : decode cX3_squaresAfter 11 = .ok (.aload_n 0, 1) := by decide +kernel
theorem dX3_squaresAfter_12 : decode cX3_squaresAfter 12 = .ok (.invokevirtual 68, 3) := by decide +kernel
theorem dX3_squaresAfter_15 : decode cX3_squaresAfter 15 = .ok (.if_icmp .ge 53, 3) := by decide +kernel
theorem dX3_squaresAfter_18 : decode cX3_squaresAfter 18 = .ok (.aload_n 0, 1) := by decide +kernel
theorem dX3_squaresAfter_19 : decode cX3_squaresAfter 19 = .ok (.getfield 20, 3) := by decide +kernel
theorem dX3_squaresAfter_22 : decode cX3_squaresAfter 22 = .ok (.aload_n 0, 1) := by decide +kernel
theorem dX3_squaresAfter_23 : decode cX3_squaresAfter 23 = .ok (.aload_n 1, 1) := by decide +kernel
theorem dX3_squaresAfter_24 : decode cX3_squaresAfter 24 = .ok (.iload_n 3, 1) := by decide +kernel
theorem dX3_squaresAfter_25 : decode cX3_squaresAfter 25 = .ok (.invokevirtual 72, 3) := by decide +kernel
theorem dX3_squaresAfter_28 : decode cX3_squaresAfter 28 = .ok (.iload_n 2, 1) := by decide +kernel
theorem dX3_squaresAfter_29 : decode cX3_squaresAfter 29 = .ok (.invokevirtual 75, 3) := by decide +kernel
theorem dX3_squaresAfter_32 : decode cX3_squaresAfter 32 = .ok (.invokevirtual 79, 3) := by decide +kernel
theorem dX3_squaresAfter_35 : decode cX3_squaresAfter 35 = .ok (.istore 4, 2) := by decide +kernel
theorem dX3_squaresAfter_37 : decode cX3_squaresAfter 37 = .ok (.aload_n 0, 1) := by decide +kernel
theorem dX3_squaresAfter_38 : decode cX3_squaresAfter 38 = .ok (.getfield 14, 3) := by decide +kernel
theorem dX3_squaresAfter_41 : decode cX3_squaresAfter 41 = .ok (.iconst 0, 1) := by decide +kernel
theorem dX3_squaresAfter_42 : decode cX3_squaresAfter 42 = .ok (.iload 4, 2) := by decide +kernel
theorem dX3_squaresAfter_44 : decode cX3_squaresAfter 44 = .ok (.invokevirtual 84, 3) := by decide +kernel
theorem dX3_squaresAfter_47 : decode cX3_squaresAfter 47 = .ok (.ifCond .ne 15, 3) := by decide +kernel
theorem dX3_squaresAfter_50 : decode cX3_squaresAfter 50 = .ok (.aload_n 0, 1) := by decide +kernel
theorem dX3_squaresAfter_51 : decode cX3_squaresAfter 51 = .ok (.getfield 14, 3) := by decide +kernel
theorem dX3_squaresAfter_54 : decode cX3_squaresAfter 54 = .ok (.iload 4, 2) := by decide +kernel
theorem dX3_squaresAfter_56 : decode cX3_squaresAfter 56 = .ok (.iconst 0, 1) := by decide +kernel
theorem dX3_squaresAfter_57 : decode cX3_squaresAfter 57 = .ok (.iconst 0, 1) := by decide +kernel
theorem dX3_squaresAfter_58 : decode cX3_squaresAfter 58 = .ok (.iconst 0, 1) := by decide +kernel
theorem dX3_squaresAfter_59 : decode cX3_squaresAfter 59 = .ok (.invokevirtual 88, 3) := by decide +kernel
theorem dX3_squaresAfter_62 : decode cX3_squaresAfter 62 = .ok (.iinc 3 1, 3) := by decide +kernel
theorem dX3_squaresAfter_65 : decode cX3_squaresAfter 65 = .ok (.goto (-55), 3) := by decide +kernel
theorem dX3_squaresAfter_68 : decode cX3_squaresAfter 68 = .ok (.aload_n 0, 1) := by decide +kernel
theorem dX3_squaresAfter_69 : decode cX3_squaresAfter 69 = .ok (.getfield 14, 3) := by decide +kernel
theorem dX3_squaresAfter_72 : decode cX3_squaresAfter 72 = .ok (.getfield 35, 3) := by decide +kernel
theorem dX3_squaresAfter_75 : decode cX3_squaresAfter 75 = .ok (.ireturn, 1) := by decide +kernel
theorem dX3_strikingSets_0 : decode cX3_strikingSets 0 = .ok (.iconst 0, 1) := by decide +kernel
theorem dX3_strikingSets_1 : decode cX3_strikingSets 1 = .ok (.istore_n 2, 1) := by decide +kernel
theorem dX3_strikingSets_2 : decode cX3_strikingSets 2 = .ok (.iconst 0, 1) := by decide +kernel
theorem dX3_strikingSets_3 : decode cX3_strikingSets 3 = .ok (.istore_n 3, 1) := by decide +kernel
theorem dX3_strikingSets_4 : decode cX3_strikingSets 4 = .ok (.iload_n 3, 1) := by decide +kernel
theorem dX3_strikingSets_5 : decode cX3_strikingSets 5 = .ok (.aload_n 0, 1) := by decide +kernel
theorem dX3_strikingSets_6 : decode cX3_strikingSets 6 = .ok (.invokevirtual 68, 3) := by decide +kernel
theorem dX3_strikingSets_9 : decode cX3_strikingSets 9 = .ok (.if_icmp .ge 44, 3) := by decide +kernel
theorem dX3_strikingSets_12 : decode cX3_strikingSets 12 = .ok (.aload_n 0, 1) := by decide +kernel
theorem dX3_strikingSets_13 : decode cX3_strikingSets 13 = .ok (.aload_n 1, 1) := by decide +kernel
theorem dX3_strikingSets_14 : decode cX3_strikingSets 14 = .ok (.iload_n 3, 1) := by decide +kernel
theorem dX3_strikingSets_15 : decode cX3_strikingSets 15 = .ok (.invokevirtual 72, 3) := by decide +kernel
theorem dX3_strikingSets_18 : decode cX3_strikingSets 18 = .ok (.astore 4, 2) := by decide +kernel
theorem dX3_strikingSets_20 : decode cX3_strikingSets 20 = .ok (.aload_n 0, 1) := by decide +kernel
theorem dX3_strikingSets_21 : decode cX3_strikingSets 21 = .ok (.getfield 20, 3) := by decide +kernel
theorem dX3_strikingSets_24 : decode cX3_strikingSets 24 = .ok (.aload 4, 2) := by decide +kernel
theorem dX3_strikingSets_26 : decode cX3_strikingSets 26 = .ok (.invokevirtual 92, 3) := by decide +kernel
theorem dX3_strikingSets_29 : decode cX3_strikingSets 29 = .ok (.aload_n 0, 1) := by decide +kernel
theorem dX3_strikingSets_30 : decode cX3_strikingSets 30 = .ok (.getfield 20, 3) := by decide +kernel
theorem dX3_strikingSets_33 : decode cX3_strikingSets 33 = .ok (.aload 4, 2) := by decide +kernel
theorem dX3_strikingSets_35 : decode cX3_strikingSets 35 = .ok (.iconst 0, 1) := by decide +kernel
theorem dX3_strikingSets_36 : decode cX3_strikingSets 36 = .ok (.invokevirtual 96, 3) := by decide +kernel
theorem dX3_strikingSets_39 : decode cX3_strikingSets 39 = .ok (.bipush (-2), 2) := by decide +kernel
theorem dX3_strikingSets_41 : decode cX3_strikingSets 41 = .ok (.if_icmp .eq 6, 3) := by decide +kernel
theorem dX3_strikingSets_44 : decode cX3_strikingSets 44 = .ok (.iinc 2 1, 3) := by decide +kernel
theorem dX3_strikingSets_47 : decode cX3_strikingSets 47 = .ok (.iinc 3 1, 3) := by decide +kernel
theorem dX3_strikingSets_50 : decode cX3_strikingSets 50 = .ok (.goto (-46), 3) := by decide +kernel
theorem dX3_strikingSets_53 : decode cX3_strikingSets 53 = .ok (.iload_n 2, 1) := by decide +kernel
theorem dX3_strikingSets_54 : decode cX3_strikingSets 54 = .ok (.ireturn, 1) := by decide +kernel
theorem dX3_isSafeBy_0 : decode cX3_isSafeBy 0 = .ok (.iconst 0, 1) := by decide +kernel
theorem dX3_isSafeBy_1 : decode cX3_isSafeBy 1 = .ok (.istore 4, 2) := by decide +kernel
theorem dX3_isSafeBy_3 : decode cX3_isSafeBy 3 = .ok (.iload 4, 2) := by decide +kernel
theorem dX3_isSafeBy_5 : decode cX3_isSafeBy 5 = .ok (.aload_n 0, 1) := by decide +kernel
theorem dX3_isSafeBy_6 : decode cX3_isSafeBy 6 = .ok (.invokevirtual 68, 3) := by decide +kernel
theorem dX3_isSafeBy_9 : decode cX3_isSafeBy 9 = .ok (.if_icmp .ge 55, 3) := by decide +kernel
theorem dX3_isSafeBy_12 : decode cX3_isSafeBy 12 = .ok (.aload_n 0, 1) := by decide +kernel
theorem dX3_isSafeBy_13 : decode cX3_isSafeBy 13 = .ok (.aload_n 1, 1) := by decide +kernel
theorem dX3_isSafeBy_14 : decode cX3_isSafeBy 14 = .ok (.iload 4, 2) := by decide +kernel
theorem dX3_isSafeBy_16 : decode cX3_isSafeBy 16 = .ok (.invokevirtual 72, 3) := by decide +kernel
theorem dX3_isSafeBy_19 : decode cX3_isSafeBy 19 = .ok (.astore 5, 2) := by decide +kernel
theorem dX3_isSafeBy_21 : decode cX3_isSafeBy 21 = .ok (.aload 5, 2) := by decide +kernel
theorem dX3_isSafeBy_23 : decode cX3_isSafeBy 23 = .ok (.getfield 100, 3) := by decide +kernel
theorem dX3_isSafeBy_26 : decode cX3_isSafeBy 26 = .ok (.iload_n 2, 1) := by decide +kernel
theorem dX3_isSafeBy_27 : decode cX3_isSafeBy 27 = .ok (.iconst 1, 1) := by decide +kernel
theorem dX3_isSafeBy_28 : decode cX3_isSafeBy 28 = .ok (.iload_n 3, 1) := by decide +kernel
theorem dX3_isSafeBy_29 : decode cX3_isSafeBy 29 = .ok (.invokevirtual 64, 3) := by decide +kernel
theorem dX3_isSafeBy_32 : decode cX3_isSafeBy 32 = .ok (.aload_n 0, 1) := by decide +kernel
theorem dX3_isSafeBy_33 : decode cX3_isSafeBy 33 = .ok (.getfield 20, 3) := by decide +kernel
theorem dX3_isSafeBy_36 : decode cX3_isSafeBy 36 = .ok (.aload 5, 2) := by decide +kernel
theorem dX3_isSafeBy_38 : decode cX3_isSafeBy 38 = .ok (.invokevirtual 92, 3) := by decide +kernel
theorem dX3_isSafeBy_41 : decode cX3_isSafeBy 41 = .ok (.aload_n 0, 1) := by decide +kernel
theorem dX3_isSafeBy_42 : decode cX3_isSafeBy 42 = .ok (.getfield 20, 3) := by decide +kernel
theorem dX3_isSafeBy_45 : decode cX3_isSafeBy 45 = .ok (.aload 5, 2) := by decide +kernel
theorem dX3_isSafeBy_47 : decode cX3_isSafeBy 47 = .ok (.iconst 0, 1) := by decide +kernel
theorem dX3_isSafeBy_48 : decode cX3_isSafeBy 48 = .ok (.invokevirtual 96, 3) := by decide +kernel
theorem dX3_isSafeBy_51 : decode cX3_isSafeBy 51 = .ok (.bipush (-2), 2) := by decide +kernel
theorem dX3_isSafeBy_53 : decode cX3_isSafeBy 53 = .ok (.if_icmp .eq 5, 3) := by decide +kernel
theorem dX3_isSafeBy_56 : decode cX3_isSafeBy 56 = .ok (.iconst 0, 1) := by decide +kernel
theorem dX3_isSafeBy_57 : decode cX3_isSafeBy 57 = .ok (.ireturn, 1) := by decide +kernel
theorem dX3_isSafeBy_58 : decode cX3_isSafeBy 58 = .ok (.iinc 4 1, 3) := by decide +kernel
theorem dX3_isSafeBy_61 : decode cX3_isSafeBy 61 = .ok (.goto (-58), 3) := by decide +kernel
theorem dX3_isSafeBy_64 : decode cX3_isSafeBy 64 = .ok (.iconst 1, 1) := by decide +kernel
theorem dX3_isSafeBy_65 : decode cX3_isSafeBy 65 = .ok (.ireturn, 1) := by decide +kernel
theorem dX3_firstMisfit_0 : decode cX3_firstMisfit 0 = .ok (.aload_n 0, 1) := by decide +kernel
theorem dX3_firstMisfit_1 : decode cX3_firstMisfit 1 = .ok (.getfield 20, 3) := by decide +kernel
theorem dX3_firstMisfit_4 : decode cX3_firstMisfit 4 = .ok (.getfield 24, 3) := by decide +kernel
theorem dX3_firstMisfit_7 : decode cX3_firstMisfit 7 = .ok (.getfield 103, 3) := by decide +kernel
theorem dX3_firstMisfit_10 : decode cX3_firstMisfit 10 = .ok (.astore_n 2, 1) := by decide +kernel
theorem dX3_firstMisfit_11 : decode cX3_firstMisfit 11 = .ok (.aload_n 0, 1) := by decide +kernel
theorem dX3_firstMisfit_12 : decode cX3_firstMisfit 12 = .ok (.iload_n 1, 1) := by decide +kernel
theorem dX3_firstMisfit_13 : decode cX3_firstMisfit 13 = .ok (.invokevirtual 106, 3) := by decide +kernel
theorem dX3_firstMisfit_16 : decode cX3_firstMisfit 16 = .ok (.astore_n 3, 1) := by decide +kernel
theorem dX3_firstMisfit_17 : decode cX3_firstMisfit 17 = .ok (.aload_n 0, 1) := by decide +kernel
theorem dX3_firstMisfit_18 : decode cX3_firstMisfit 18 = .ok (.getfield 20, 3) := by decide +kernel
theorem dX3_firstMisfit_21 : decode cX3_firstMisfit 21 = .ok (.aload_n 3, 1) := by decide +kernel
theorem dX3_firstMisfit_22 : decode cX3_firstMisfit 22 = .ok (.invokevirtual 92, 3) := by decide +kernel
theorem dX3_firstMisfit_25 : decode cX3_firstMisfit 25 = .ok (.iconst 0, 1) := by decide +kernel
theorem dX3_firstMisfit_26 : decode cX3_firstMisfit 26 = .ok (.istore 4, 2) := by decide +kernel
theorem dX3_firstMisfit_28 : decode cX3_firstMisfit 28 = .ok (.iload 4, 2) := by decide +kernel
theorem dX3_firstMisfit_30 : decode cX3_firstMisfit 30 = .ok (.aload_n 2, 1) := by decide +kernel
theorem dX3_firstMisfit_31 : decode cX3_firstMisfit 31 = .ok (.getfield 35, 3) := by decide +kernel
theorem dX3_firstMisfit_34 : decode cX3_firstMisfit 34 = .ok (.if_icmp .ge 48, 3) := by decide +kernel
theorem dX3_firstMisfit_37 : decode cX3_firstMisfit 37 = .ok (.aload_n 0, 1) := by decide +kernel
theorem dX3_firstMisfit_38 : decode cX3_firstMisfit 38 = .ok (.getfield 20, 3) := by decide +kernel
theorem dX3_firstMisfit_41 : decode cX3_firstMisfit 41 = .ok (.aload_n 3, 1) := by decide +kernel
theorem dX3_firstMisfit_42 : decode cX3_firstMisfit 42 = .ok (.iconst 0, 1) := by decide +kernel
theorem dX3_firstMisfit_43 : decode cX3_firstMisfit 43 = .ok (.aload_n 2, 1) := by decide +kernel
theorem dX3_firstMisfit_44 : decode cX3_firstMisfit 44 = .ok (.iload 4, 2) := by decide +kernel
theorem dX3_firstMisfit_46 : decode cX3_firstMisfit 46 = .ok (.iconst 0, 1) := by decide +kernel
theorem dX3_firstMisfit_47 : decode cX3_firstMisfit 47 = .ok (.invokevirtual 60, 3) := by decide +kernel
theorem dX3_firstMisfit_50 : decode cX3_firstMisfit 50 = .ok (.invokevirtual 110, 3) := by decide +kernel
theorem dX3_firstMisfit_53 : decode cX3_firstMisfit 53 = .ok (.aload_n 0, 1) := by decide +kernel
theorem dX3_firstMisfit_54 : decode cX3_firstMisfit 54 = .ok (.getfield 20, 3) := by decide +kernel
theorem dX3_firstMisfit_57 : decode cX3_firstMisfit 57 = .ok (.getfield 114, 3) := by decide +kernel
theorem dX3_firstMisfit_60 : decode cX3_firstMisfit 60 = .ok (.invokevirtual 79, 3) := by decide +kernel
theorem dX3_firstMisfit_63 : decode cX3_firstMisfit 63 = .ok (.aload_n 2, 1) := by decide +kernel
theorem dX3_firstMisfit_64 : decode cX3_firstMisfit 64 = .ok (.iload 4, 2) := by decide +kernel
theorem dX3_firstMisfit_66 : decode cX3_firstMisfit 66 = .ok (.iconst 1, 1) := by decide +kernel
theorem dX3_firstMisfit_67 : decode cX3_firstMisfit 67 = .ok (.invokevirtual 60, 3) := by decide +kernel
theorem dX3_firstMisfit_70 : decode cX3_firstMisfit 70 = .ok (.if_icmp .eq 6, 3) := by decide +kernel
theorem dX3_firstMisfit_73 : decode cX3_firstMisfit 73 = .ok (.iload 4, 2) := by decide +kernel
theorem dX3_firstMisfit_75 : decode cX3_firstMisfit 75 = .ok (.ireturn, 1) := by decide +kernel
theorem dX3_firstMisfit_76 : decode cX3_firstMisfit 76 = .ok (.iinc 4 1, 3) := by decide +kernel
theorem dX3_firstMisfit_79 : decode cX3_firstMisfit 79 = .ok (.goto (-51), 3) := by decide +kernel
theorem dX3_firstMisfit_82 : decode cX3_firstMisfit 82 = .ok (.bipush (-2), 2) := by decide +kernel
theorem dX3_firstMisfit_84 : decode cX3_firstMisfit 84 = .ok (.ireturn, 1) := by decide +kernel
theorem dX3_fittingSets_0 : decode cX3_fittingSets 0 = .ok (.iconst 0, 1) := by decide +kernel
theorem dX3_fittingSets_1 : decode cX3_fittingSets 1 = .ok (.istore_n 1, 1) := by decide +kernel
theorem dX3_fittingSets_2 : decode cX3_fittingSets 2 = .ok (.iconst 0, 1) := by decide +kernel
theorem dX3_fittingSets_3 : decode cX3_fittingSets 3 = .ok (.istore_n 2, 1) := by decide +kernel
theorem dX3_fittingSets_4 : decode cX3_fittingSets 4 = .ok (.iload_n 2, 1) := by decide +kernel
theorem dX3_fittingSets_5 : decode cX3_fittingSets 5 = .ok (.aload_n 0, 1) := by decide +kernel
theorem dX3_fittingSets_6 : decode cX3_fittingSets 6 = .ok (.invokevirtual 68, 3) := by decide +kernel
theorem dX3_fittingSets_9 : decode cX3_fittingSets 9 = .ok (.if_icmp .ge 25, 3) := by decide +kernel
theorem dX3_fittingSets_12 : decode cX3_fittingSets 12 = .ok (.aload_n 0, 1) := by decide +kernel
theorem dX3_fittingSets_13 : decode cX3_fittingSets 13 = .ok (.iload_n 2, 1) := by decide +kernel
theorem dX3_fittingSets_14 : decode cX3_fittingSets 14 = .ok (.invokevirtual 118, 3) := by decide +kernel
theorem dX3_fittingSets_17 : decode cX3_fittingSets 17 = .ok (.bipush (-2), 2) := by decide +kernel
theorem dX3_fittingSets_19 : decode cX3_fittingSets 19 = .ok (.if_icmp .ne 9, 3) := by decide +kernel
theorem dX3_fittingSets_22 : decode cX3_fittingSets 22 = .ok (.iload_n 1, 1) := by decide +kernel
theorem dX3_fittingSets_23 : decode cX3_fittingSets 23 = .ok (.iconst 1, 1) := by decide +kernel
theorem dX3_fittingSets_24 : decode cX3_fittingSets 24 = .ok (.iload_n 2, 1) := by decide +kernel
theorem dX3_fittingSets_25 : decode cX3_fittingSets 25 = .ok (.ishl, 1) := by decide +kernel
theorem dX3_fittingSets_26 : decode cX3_fittingSets 26 = .ok (.ior, 1) := by decide +kernel
theorem dX3_fittingSets_27 : decode cX3_fittingSets 27 = .ok (.istore_n 1, 1) := by decide +kernel
theorem dX3_fittingSets_28 : decode cX3_fittingSets 28 = .ok (.iinc 2 1, 3) := by decide +kernel
theorem dX3_fittingSets_31 : decode cX3_fittingSets 31 = .ok (.goto (-27), 3) := by decide +kernel
theorem dX3_fittingSets_34 : decode cX3_fittingSets 34 = .ok (.iload_n 1, 1) := by decide +kernel
theorem dX3_fittingSets_35 : decode cX3_fittingSets 35 = .ok (.ireturn, 1) := by decide +kernel
theorem dX3_fitOf_0 : decode cX3_fitOf 0 = .ok (.iload_n 2, 1) := by decide +kernel
theorem dX3_fitOf_1 : decode cX3_fitOf 1 = .ok (.istore_n 3, 1) := by decide +kernel
theorem dX3_fitOf_2 : decode cX3_fitOf 2 = .ok (.iconst 0, 1) := by decide +kernel
theorem dX3_fitOf_3 : decode cX3_fitOf 3 = .ok (.istore 4, 2) := by decide +kernel
theorem dX3_fitOf_5 : decode cX3_fitOf 5 = .ok (.iload 4, 2) := by decide +kernel
theorem dX3_fitOf_7 : decode cX3_fitOf 7 = .ok (.aload_n 0, 1) := by decide +kernel
theorem dX3_fitOf_8 : decode cX3_fitOf 8 = .ok (.invokevirtual 68, 3) := by decide +kernel
theorem dX3_fitOf_11 : decode cX3_fitOf 11 = .ok (.if_icmp .ge 32, 3) := by decide +kernel
theorem dX3_fitOf_14 : decode cX3_fitOf 14 = .ok (.iload_n 3, 1) := by decide +kernel
theorem dX3_fitOf_15 : decode cX3_fitOf 15 = .ok (.ifCond .lt 28, 3) := by decide +kernel
theorem dX3_fitOf_18 : decode cX3_fitOf 18 = .ok (.iload_n 1, 1) := by decide +kernel
theorem dX3_fitOf_19 : decode cX3_fitOf 19 = .ok (.iload 4, 2) := by decide +kernel
theorem dX3_fitOf_21 : decode cX3_fitOf 21 = .ok (.ishr, 1) := by decide +kernel
theorem dX3_fitOf_22 : decode cX3_fitOf 22 = .ok (.iconst 1, 1) := by decide +kernel
theorem dX3_fitOf_23 : decode cX3_fitOf 23 = .ok (.iand, 1) := by decide +kernel
theorem dX3_fitOf_24 : decode cX3_fitOf 24 = .ok (.ifCond .eq 13, 3) := by decide +kernel
theorem dX3_fitOf_27 : decode cX3_fitOf 27 = .ok (.iload_n 3, 1) := by decide +kernel
theorem dX3_fitOf_28 : decode cX3_fitOf 28 = .ok (.ifCond .ne 6, 3) := by decide +kernel
theorem dX3_fitOf_31 : decode cX3_fitOf 31 = .ok (.iload 4, 2) := by decide +kernel
theorem dX3_fitOf_33 : decode cX3_fitOf 33 = .ok (.ireturn, 1) := by decide +kernel
theorem dX3_fitOf_34 : decode cX3_fitOf 34 = .ok (.iinc 3 (-1), 3) := by decide +kernel
theorem dX3_fitOf_37 : decode cX3_fitOf 37 = .ok (.iinc 4 1, 3) := by decide +kernel
theorem dX3_fitOf_40 : decode cX3_fitOf 40 = .ok (.goto (-35), 3) := by decide +kernel
theorem dX3_fitOf_43 : decode cX3_fitOf 43 = .ok (.iconst (-1), 1) := by decide +kernel
theorem dX3_fitOf_44 : decode cX3_fitOf 44 = .ok (.ireturn, 1) := by decide +kernel
theorem dX3_boysInSome_0 : decode cX3_boysInSome 0 = .ok (.iconst 0, 1) := by decide +kernel
theorem dX3_boysInSome_1 : decode cX3_boysInSome 1 = .ok (.istore_n 2, 1) := by decide +kernel
theorem dX3_boysInSome_2 : decode cX3_boysInSome 2 = .ok (.iconst 0, 1) := by decide +kernel
theorem dX3_boysInSome_3 : decode cX3_boysInSome 3 = .ok (.istore_n 3, 1) := by decide +kernel
theorem dX3_boysInSome_4 : decode cX3_boysInSome 4 = .ok (.iload_n 3, 1) := by decide +kernel
theorem dX3_boysInSome_5 : decode cX3_boysInSome 5 = .ok (.aload_n 0, 1) := by decide +kernel
theorem dX3_boysInSome_6 : decode cX3_boysInSome 6 = .ok (.invokevirtual 68, 3) := by decide +kernel
theorem dX3_boysInSome_9 : decode cX3_boysInSome 9 = .ok (.if_icmp .ge 21, 3) := by decide +kernel
theorem dX3_boysInSome_12 : decode cX3_boysInSome 12 = .ok (.iload_n 1, 1) := by decide +kernel
theorem dX3_boysInSome_13 : decode cX3_boysInSome 13 = .ok (.iload_n 3, 1) := by decide +kernel
theorem dX3_boysInSome_14 : decode cX3_boysInSome 14 = .ok (.ishr, 1) := by decide +kernel
theorem dX3_boysInSome_15 : decode cX3_boysInSome 15 = .ok (.iconst 1, 1) := by decide +kernel
theorem dX3_boysInSome_16 : decode cX3_boysInSome 16 = .ok (.iand, 1) := by decide +kernel
theorem dX3_boysInSome_17 : decode cX3_boysInSome 17 = .ok (.ifCond .eq 7, 3) := by decide +kernel
theorem dX3_boysInSome_20 : decode cX3_boysInSome 20 = .ok (.iload_n 2, 1) := by decide +kernel
theorem dX3_boysInSome_21 : decode cX3_boysInSome 21 = .ok (.iload_n 3, 1) := by decide +kernel
theorem dX3_boysInSome_22 : decode cX3_boysInSome 22 = .ok (.ior, 1) := by decide +kernel
theorem dX3_boysInSome_23 : decode cX3_boysInSome 23 = .ok (.istore_n 2, 1) := by decide +kernel
theorem dX3_boysInSome_24 : decode cX3_boysInSome 24 = .ok (.iinc 3 1, 3) := by decide +kernel
theorem dX3_boysInSome_27 : decode cX3_boysInSome 27 = .ok (.goto (-23), 3) := by decide +kernel
theorem dX3_boysInSome_30 : decode cX3_boysInSome 30 = .ok (.iload_n 2, 1) := by decide +kernel
theorem dX3_boysInSome_31 : decode cX3_boysInSome 31 = .ok (.ireturn, 1) := by decide +kernel
theorem dX3_boysInAll_0 : decode cX3_boysInAll 0 = .ok (.iload_n 1, 1) := by decide +kernel
theorem dX3_boysInAll_1 : decode cX3_boysInAll 1 = .ok (.ifCond .ne 7, 3) := by decide +kernel
theorem dX3_boysInAll_4 : decode cX3_boysInAll 4 = .ok (.iconst 0, 1) := by decide +kernel
theorem dX3_boysInAll_5 : decode cX3_boysInAll 5 = .ok (.goto 9, 3) := by decide +kernel
theorem dX3_boysInAll_8 : decode cX3_boysInAll 8 = .ok (.aload_n 0, 1) := by decide +kernel
theorem dX3_boysInAll_9 : decode cX3_boysInAll 9 = .ok (.invokevirtual 68, 3) := by decide +kernel
theorem dX3_boysInAll_12 : decode cX3_boysInAll 12 = .ok (.iconst 1, 1) := by decide +kernel
theorem dX3_boysInAll_13 : decode cX3_boysInAll 13 = .ok (.isub, 1) := by decide +kernel
theorem dX3_boysInAll_14 : decode cX3_boysInAll 14 = .ok (.istore_n 2, 1) := by decide +kernel
theorem dX3_boysInAll_15 : decode cX3_boysInAll 15 = .ok (.iconst 0, 1) := by decide +kernel
theorem dX3_boysInAll_16 : decode cX3_boysInAll 16 = .ok (.istore_n 3, 1) := by decide +kernel
theorem dX3_boysInAll_17 : decode cX3_boysInAll 17 = .ok (.iload_n 3, 1) := by decide +kernel
theorem dX3_boysInAll_18 : decode cX3_boysInAll 18 = .ok (.aload_n 0, 1) := by decide +kernel
theorem dX3_boysInAll_19 : decode cX3_boysInAll 19 = .ok (.invokevirtual 68, 3) := by decide +kernel
theorem dX3_boysInAll_22 : decode cX3_boysInAll 22 = .ok (.if_icmp .ge 21, 3) := by decide +kernel
theorem dX3_boysInAll_25 : decode cX3_boysInAll 25 = .ok (.iload_n 1, 1) := by decide +kernel
theorem dX3_boysInAll_26 : decode cX3_boysInAll 26 = .ok (.iload_n 3, 1) := by decide +kernel
theorem dX3_boysInAll_27 : decode cX3_boysInAll 27 = .ok (.ishr, 1) := by decide +kernel
theorem dX3_boysInAll_28 : decode cX3_boysInAll 28 = .ok (.iconst 1, 1) := by decide +kernel
theorem dX3_boysInAll_29 : decode cX3_boysInAll 29 = .ok (.iand, 1) := by decide +kernel
theorem dX3_boysInAll_30 : decode cX3_boysInAll 30 = .ok (.ifCond .eq 7, 3) := by decide +kernel
theorem dX3_boysInAll_33 : decode cX3_boysInAll 33 = .ok (.iload_n 2, 1) := by decide +kernel
theorem dX3_boysInAll_34 : decode cX3_boysInAll 34 = .ok (.iload_n 3, 1) := by decide +kernel
theorem dX3_boysInAll_35 : decode cX3_boysInAll 35 = .ok (.iand, 1) := by decide +kernel
theorem dX3_boysInAll_36 : decode cX3_boysInAll 36 = .ok (.istore_n 2, 1) := by decide +kernel
theorem dX3_boysInAll_37 : decode cX3_boysInAll 37 = .ok (.iinc 3 1, 3) := by decide +kernel
theorem dX3_boysInAll_40 : decode cX3_boysInAll 40 = .ok (.goto (-23), 3) := by decide +kernel
theorem dX3_boysInAll_43 : decode cX3_boysInAll 43 = .ok (.iload_n 2, 1) := by decide +kernel
theorem dX3_boysInAll_44 : decode cX3_boysInAll 44 = .ok (.ireturn, 1) := by decide +kernel
theorem dX3_mostLeft_0 : decode cX3_mostLeft 0 = .ok (.aload_n 0, 1) := by decide +kernel
theorem dX3_mostLeft_1 : decode cX3_mostLeft 1 = .ok (.getfield 14, 3) := by decide +kernel
theorem dX3_mostLeft_4 : decode cX3_mostLeft 4 = .ok (.iconst 0, 1) := by decide +kernel
theorem dX3_mostLeft_5 : decode cX3_mostLeft 5 = .ok (.putfield 35, 3) := by decide +kernel
theorem dX3_mostLeft_8 : decode cX3_mostLeft 8 = .ok (.iconst 0, 1) := by decide +kernel
theorem dX3_mostLeft_9 : decode cX3_mostLeft 9 = .ok (.istore_n 3, 1) := by decide +kernel
theorem dX3_mostLeft_10 : decode cX3_mostLeft 10 = .ok (.iload_n 3, 1) := by decide +kernel
theorem dX3_mostLeft_11 : decode cX3_mostLeft 11 = .ok (.aload_n 0, 1) := by decide +kernel
theorem dX3_mostLeft_12 : decode cX3_mostLeft 12 = .ok (.invokevirtual 68, 3) := by decide +kernel
theorem dX3_mostLeft_15 : decode cX3_mostLeft 15 = .ok (.if_icmp .ge 64, 3) := by decide +kernel
theorem dX3_mostLeft_18 : decode cX3_mostLeft 18 = .ok (.iload_n 1, 1) := by decide +kernel
theorem dX3_mostLeft_19 : decode cX3_mostLeft 19 = .ok (.iload_n 3, 1) := by decide +kernel
theorem dX3_mostLeft_20 : decode cX3_mostLeft 20 = .ok (.ishr, 1) := by decide +kernel
theorem dX3_mostLeft_21 : decode cX3_mostLeft 21 = .ok (.iconst 1, 1) := by decide +kernel
theorem dX3_mostLeft_22 : decode cX3_mostLeft 22 = .ok (.iand, 1) := by decide +kernel
theorem dX3_mostLeft_23 : decode cX3_mostLeft 23 = .ok (.ifCond .eq 50, 3) := by decide +kernel
theorem dX3_mostLeft_26 : decode cX3_mostLeft 26 = .ok (.aload_n 0, 1) := by decide +kernel
theorem dX3_mostLeft_27 : decode cX3_mostLeft 27 = .ok (.iload_n 3, 1) := by decide +kernel
theorem dX3_mostLeft_28 : decode cX3_mostLeft 28 = .ok (.invokevirtual 106, 3) := by decide +kernel
theorem dX3_mostLeft_31 : decode cX3_mostLeft 31 = .ok (.astore 4, 2) := by decide +kernel
theorem dX3_mostLeft_33 : decode cX3_mostLeft 33 = .ok (.aload_n 0, 1) := by decide +kernel
theorem dX3_mostLeft_34 : decode cX3_mostLeft 34 = .ok (.getfield 20, 3) := by decide +kernel
theorem dX3_mostLeft_37 : decode cX3_mostLeft 37 = .ok (.aload 4, 2) := by decide +kernel
theorem dX3_mostLeft_39 : decode cX3_mostLeft 39 = .ok (.invokevirtual 92, 3) := by decide +kernel
theorem dX3_mostLeft_42 : decode cX3_mostLeft 42 = .ok (.aload_n 0, 1) := by decide +kernel
theorem dX3_mostLeft_43 : decode cX3_mostLeft 43 = .ok (.getfield 20, 3) := by decide +kernel
theorem dX3_mostLeft_46 : decode cX3_mostLeft 46 = .ok (.aload 4, 2) := by decide +kernel
theorem dX3_mostLeft_48 : decode cX3_mostLeft 48 = .ok (.iconst 0, 1) := by decide +kernel
theorem dX3_mostLeft_49 : decode cX3_mostLeft 49 = .ok (.iload_n 2, 1) := by decide +kernel
theorem dX3_mostLeft_50 : decode cX3_mostLeft 50 = .ok (.invokevirtual 110, 3) := by decide +kernel
theorem dX3_mostLeft_53 : decode cX3_mostLeft 53 = .ok (.aload_n 0, 1) := by decide +kernel
theorem dX3_mostLeft_54 : decode cX3_mostLeft 54 = .ok (.getfield 14, 3) := by decide +kernel
theorem dX3_mostLeft_57 : decode cX3_mostLeft 57 = .ok (.aload_n 0, 1) := by decide +kernel
theorem dX3_mostLeft_58 : decode cX3_mostLeft 58 = .ok (.getfield 20, 3) := by decide +kernel
theorem dX3_mostLeft_61 : decode cX3_mostLeft 61 = .ok (.getfield 114, 3) := by decide +kernel
theorem dX3_mostLeft_64 : decode cX3_mostLeft 64 = .ok (.invokevirtual 79, 3) := by decide +kernel
theorem dX3_mostLeft_67 : decode cX3_mostLeft 67 = .ok (.iconst 0, 1) := by decide +kernel
theorem dX3_mostLeft_68 : decode cX3_mostLeft 68 = .ok (.iconst 0, 1) := by decide +kernel
theorem dX3_mostLeft_69 : decode cX3_mostLeft 69 = .ok (.iconst 0, 1) := by decide +kernel
theorem dX3_mostLeft_70 : decode cX3_mostLeft 70 = .ok (.invokevirtual 88, 3) := by decide +kernel
theorem dX3_mostLeft_73 : decode cX3_mostLeft 73 = .ok (.iinc 3 1, 3) := by decide +kernel
theorem dX3_mostLeft_76 : decode cX3_mostLeft 76 = .ok (.goto (-66), 3) := by decide +kernel
theorem dX3_mostLeft_79 : decode cX3_mostLeft 79 = .ok (.iconst 0, 1) := by decide +kernel
theorem dX3_mostLeft_80 : decode cX3_mostLeft 80 = .ok (.istore_n 3, 1) := by decide +kernel
theorem dX3_mostLeft_81 : decode cX3_mostLeft 81 = .ok (.iconst 0, 1) := by decide +kernel
theorem dX3_mostLeft_82 : decode cX3_mostLeft 82 = .ok (.istore 4, 2) := by decide +kernel
theorem dX3_mostLeft_84 : decode cX3_mostLeft 84 = .ok (.iload 4, 2) := by decide +kernel
theorem dX3_mostLeft_86 : decode cX3_mostLeft 86 = .ok (.aload_n 0, 1) := by decide +kernel
theorem dX3_mostLeft_87 : decode cX3_mostLeft 87 = .ok (.getfield 14, 3) := by decide +kernel
theorem dX3_mostLeft_90 : decode cX3_mostLeft 90 = .ok (.getfield 35, 3) := by decide +kernel
theorem dX3_mostLeft_93 : decode cX3_mostLeft 93 = .ok (.if_icmp .ge 73, 3) := by decide +kernel
theorem dX3_mostLeft_96 : decode cX3_mostLeft 96 = .ok (.iconst 0, 1) := by decide +kernel
theorem dX3_mostLeft_97 : decode cX3_mostLeft 97 = .ok (.istore 5, 2) := by decide +kernel
theorem dX3_mostLeft_99 : decode cX3_mostLeft 99 = .ok (.iconst 0, 1) := by decide +kernel
theorem dX3_mostLeft_100 : decode cX3_mostLeft 100 = .ok (.istore 6, 2) := by decide +kernel
theorem dX3_mostLeft_102 : decode cX3_mostLeft 102 = .ok (.iload 6, 2) := by decide +kernel
theorem dX3_mostLeft_104 : decode cX3_mostLeft 104 = .ok (.aload_n 0, 1) := by decide +kernel
theorem dX3_mostLeft_105 : decode cX3_mostLeft 105 = .ok (.getfield 14, 3) := by decide +kernel
theorem dX3_mostLeft_108 : decode cX3_mostLeft 108 = .ok (.getfield 35, 3) := by decide +kernel
theorem dX3_mostLeft_111 : decode cX3_mostLeft 111 = .ok (.if_icmp .ge 42, 3) := by decide +kernel
theorem dX3_mostLeft_114 : decode cX3_mostLeft 114 = .ok (.iload 5, 2) := by decide +kernel
theorem dX3_mostLeft_116 : decode cX3_mostLeft 116 = .ok (.aload_n 0, 1) := by decide +kernel
theorem dX3_mostLeft_117 : decode cX3_mostLeft 117 = .ok (.getfield 14, 3) := by decide +kernel
theorem dX3_mostLeft_120 : decode cX3_mostLeft 120 = .ok (.iload 4, 2) := by decide +kernel
theorem dX3_mostLeft_122 : decode cX3_mostLeft 122 = .ok (.iconst 0, 1) := by decide +kernel
theorem dX3_mostLeft_123 : decode cX3_mostLeft 123 = .ok (.invokevirtual 60, 3) := by decide +kernel
theorem dX3_mostLeft_126 : decode cX3_mostLeft 126 = .ok (.aload_n 0, 1) := by decide +kernel
theorem dX3_mostLeft_127 : decode cX3_mostLeft 127 = .ok (.getfield 14, 3) := by decide +kernel
theorem dX3_mostLeft_130 : decode cX3_mostLeft 130 = .ok (.iload 6, 2) := by decide +kernel
theorem dX3_mostLeft_132 : decode cX3_mostLeft 132 = .ok (.iconst 0, 1) := by decide +kernel
theorem dX3_mostLeft_133 : decode cX3_mostLeft 133 = .ok (.invokevirtual 60, 3) := by decide +kernel
theorem dX3_mostLeft_136 : decode cX3_mostLeft 136 = .ok (.if_icmp .ne 7, 3) := by decide +kernel
theorem dX3_mostLeft_139 : decode cX3_mostLeft 139 = .ok (.iconst 1, 1) := by decide +kernel
theorem dX3_mostLeft_140 : decode cX3_mostLeft 140 = .ok (.goto 4, 3) := by decide +kernel
theorem dX3_mostLeft_143 : decode cX3_mostLeft 143 = .ok (.iconst 0, 1) := by decide +kernel
theorem dX3_mostLeft_144 : decode cX3_mostLeft 144 = .ok (.iadd, 1) := by decide +kernel
theorem dX3_mostLeft_145 : decode cX3_mostLeft 145 = .ok (.istore 5, 2) := by decide +kernel
theorem dX3_mostLeft_147 : decode cX3_mostLeft 147 = .ok (.iinc 6 1, 3) := by decide +kernel
theorem dX3_mostLeft_150 : decode cX3_mostLeft 150 = .ok (.goto (-48), 3) := by decide +kernel
theorem dX3_mostLeft_153 : decode cX3_mostLeft 153 = .ok (.iload_n 3, 1) := by decide +kernel
theorem dX3_mostLeft_154 : decode cX3_mostLeft 154 = .ok (.iload 5, 2) := by decide +kernel
theorem dX3_mostLeft_156 : decode cX3_mostLeft 156 = .ok (.invokestatic 126, 3) := by decide +kernel
theorem dX3_mostLeft_159 : decode cX3_mostLeft 159 = .ok (.istore_n 3, 1) := by decide +kernel
theorem dX3_mostLeft_160 : decode cX3_mostLeft 160 = .ok (.iinc 4 1, 3) := by decide +kernel
theorem dX3_mostLeft_163 : decode cX3_mostLeft 163 = .ok (.goto (-79), 3) := by decide +kernel
theorem dX3_mostLeft_166 : decode cX3_mostLeft 166 = .ok (.iload_n 3, 1) := by decide +kernel
theorem dX3_mostLeft_167 : decode cX3_mostLeft 167 = .ok (.ireturn, 1) := by decide +kernel
theorem dX3_bestFix_0 : decode cX3_bestFix 0 = .ok (.bipush (-2), 2) := by decide +kernel
theorem dX3_bestFix_2 : decode cX3_bestFix 2 = .ok (.istore_n 2, 1) := by decide +kernel
theorem dX3_bestFix_3 : decode cX3_bestFix 3 = .ok (.iconst 0, 1) := by decide +kernel
theorem dX3_bestFix_4 : decode cX3_bestFix 4 = .ok (.istore_n 3, 1) := by decide +kernel
theorem dX3_bestFix_5 : decode cX3_bestFix 5 = .ok (.iconst 0, 1) := by decide +kernel
theorem dX3_bestFix_6 : decode cX3_bestFix 6 = .ok (.istore 4, 2) := by decide +kernel
theorem dX3_bestFix_8 : decode cX3_bestFix 8 = .ok (.iload_n 1, 1) := by decide +kernel
theorem dX3_bestFix_9 : decode cX3_bestFix 9 = .ok (.ifCond .eq 54, 3) := by decide +kernel
theorem dX3_bestFix_12 : decode cX3_bestFix 12 = .ok (.iload 4, 2) := by decide +kernel
theorem dX3_bestFix_14 : decode cX3_bestFix 14 = .ok (.aload_n 0, 1) := by decide +kernel
theorem dX3_bestFix_15 : decode cX3_bestFix 15 = .ok (.getfield 20, 3) := by decide +kernel
theorem dX3_bestFix_18 : decode cX3_bestFix 18 = .ok (.getfield 24, 3) := by decide +kernel
theorem dX3_bestFix_21 : decode cX3_bestFix 21 = .ok (.getfield 122, 3) := by decide +kernel
theorem dX3_bestFix_24 : decode cX3_bestFix 24 = .ok (.getfield 35, 3) := by decide +kernel
theorem dX3_bestFix_27 : decode cX3_bestFix 27 = .ok (.if_icmp .gt 36, 3) := by decide +kernel
theorem dX3_bestFix_30 : decode cX3_bestFix 30 = .ok (.aload_n 0, 1) := by decide +kernel
theorem dX3_bestFix_31 : decode cX3_bestFix 31 = .ok (.iload_n 1, 1) := by decide +kernel
theorem dX3_bestFix_32 : decode cX3_bestFix 32 = .ok (.iload 4, 2) := by decide +kernel
theorem dX3_bestFix_34 : decode cX3_bestFix 34 = .ok (.invokevirtual 123, 3) := by decide +kernel
theorem dX3_bestFix_37 : decode cX3_bestFix 37 = .ok (.istore 5, 2) := by decide +kernel
theorem dX3_bestFix_39 : decode cX3_bestFix 39 = .ok (.iload_n 2, 1) := by decide +kernel
theorem dX3_bestFix_40 : decode cX3_bestFix 40 = .ok (.bipush (-2), 2) := by decide +kernel
theorem dX3_bestFix_42 : decode cX3_bestFix 42 = .ok (.if_icmp .eq 9, 3) := by decide +kernel
theorem dX3_bestFix_45 : decode cX3_bestFix 45 = .ok (.iload 5, 2) := by decide +kernel
theorem dX3_bestFix_47 : decode cX3_bestFix 47 = .ok (.iload_n 3, 1) := by decide +kernel
theorem dX3_bestFix_48 : decode cX3_bestFix 48 = .ok (.if_icmp .ge 9, 3) := by decide +kernel
theorem dX3_bestFix_51 : decode cX3_bestFix 51 = .ok (.iload 4, 2) := by decide +kernel
theorem dX3_bestFix_53 : decode cX3_bestFix 53 = .ok (.istore_n 2, 1) := by decide +kernel
theorem dX3_bestFix_54 : decode cX3_bestFix 54 = .ok (.iload 5, 2) := by decide +kernel
theorem dX3_bestFix_56 : decode cX3_bestFix 56 = .ok (.istore_n 3, 1) := by decide +kernel
theorem dX3_bestFix_57 : decode cX3_bestFix 57 = .ok (.iinc 4 1, 3) := by decide +kernel
theorem dX3_bestFix_60 : decode cX3_bestFix 60 = .ok (.goto (-52), 3) := by decide +kernel
theorem dX3_bestFix_63 : decode cX3_bestFix 63 = .ok (.iload_n 2, 1) := by decide +kernel
theorem dX3_bestFix_64 : decode cX3_bestFix 64 = .ok (.ireturn, 1) := by decide +kernel
def M_X3_init : MD := (yX3_init, cX3_init, 2, none, 2, 43, 2, 52)
theorem ci_X3_init : CIo M_X3_init 1 := ⟨⟨wd_424, wd_119, ⟨by decide, by decide⟩, by decide +kernel⟩, wd_423, rfl, rfl⟩
def X3_init (a0 : Nat) (a1 : Nat) (h : Hp) : Option (Hp) :=
  pin (nw h (.inr (8, [.int 0, .int 0, .null, .int 0]))) fun h1 =>
  (X8_init h.1 16 1 h1).bind fun h2 =>
  (pF h2 a0 3 1 (.ref h.1)).bind fun h3 =>
  (pF h3 a0 3 0 (.ref a1)).bind fun h4 =>
  some h4
theorem X3_init_ok {a0 : Nat} {a1 : Nat} {h h' : Hp} (H : X3_init a0 a1 h = some h') : Con M_X3_init [.ref a0, .ref a1] h none h' := by
  refine con_of_go (by decide) 0 (L := [some (.ref a0), some (.ref a1)]) rfl (Nat.le_of_ble_eq_true rfl) ?_
  unfold X3_init at H
  refine go_aload_n (pc := 0) dX3_init_0 rfl rfl ?_
  refine go_objInit (pc := 1) dX3_init_1 wd_425 wd_137 wd_138 (Nat.le_of_ble_eq_true rfl) (Nat.le_of_ble_eq_true rfl) ?_
  refine go_aload_n (pc := 4) dX3_init_4 rfl rfl ?_
  refine go_new (pc := 5) dX3_init_5 nl_X3_9 (Nat.le_of_ble_eq_true rfl) (Nat.le_of_ble_eq_true rfl) ?_
  refine go_pinH H (fun h1 H => ?_)
  refine go_dup (pc := 8) dX3_init_8 rfl ?_
  refine go_bipush (pc := 9) (v := 16) dX3_init_9 (by decide) ?_
  refine go_iconst (pc := 11) (v := 1) dX3_init_11 (by decide) ?_
  refine go_cIv (pc := 12) (Mz := M_X8_init) (as := [.int 16, .int 1]) (a := h.1) (st := [.ref h.1, .ref a0]) dX3_init_12 wd_427 ci_X8_init X8_init_ok rfl rfl ⟨Nat.le_of_ble_eq_true rfl, Nat.le_of_ble_eq_true rfl⟩ (Nat.le_of_ble_eq_true rfl) ⟨Nat.le_of_ble_eq_true rfl, Nat.le_of_ble_eq_true rfl⟩ H (fun h2 H => ?_)
  refine go_putRF (pc := 15) dX3_init_15 fs_X3_14 ⟨rfl, _, rfl, rfl⟩ H (fun h3 H => ?_)
  refine go_aload_n (pc := 18) dX3_init_18 rfl rfl ?_
  refine go_aload_n (pc := 19) dX3_init_19 rfl rfl ?_
  refine go_putRF (pc := 20) dX3_init_20 fs_X3_20 ⟨rfl, _, rfl, rfl⟩ H (fun h4 H => ?_)
  exact go_vret (pc := 23) dX3_init_23 rfl ⟨Nat.le_of_ble_eq_true rfl, Nat.le_of_ble_eq_true rfl⟩ H

def M_X3_sets : MD := (yX3_sets, cX3_sets, 1, (some .int), 0, 0, 0, 0)
theorem cv_X3_sets : CVo M_X3_sets 0 3 := ⟨⟨wd_937, wd_119, ⟨by decide, by decide⟩, by decide +kernel⟩, wd_936, wd_33, _, rfl, rfl⟩
def X3_sets (a0 : Nat) (h : Hp) : Option (Int32 × Hp) :=
  (gR h a0 3 0).bind fun v1 =>
  (gR h v1 6 3).bind fun v2 =>
  (gR h v2 9 5).bind fun v3 =>
  (gI h v3 8 3).bind fun v4 =>
  some ((1 : Int32) <<< (v4 &&& 31), h)
theorem X3_sets_ok {a0 : Nat} {h h' : Hp} {r : Int32} (H : X3_sets a0 h = some (r, h')) : Con M_X3_sets [.ref a0] h (some (.int r)) h' := by
  refine con_of_go (by decide) 0 (L := [some (.ref a0)]) rfl (Nat.le_of_ble_eq_true rfl) ?_
  unfold X3_sets at H
  refine go_iconst (pc := 0) (v := 1) dX3_sets_0 (by decide) ?_
  refine go_aload_n (pc := 1) dX3_sets_1 rfl rfl ?_
  refine go_getR (pc := 2) dX3_sets_2 fl_X3_20 H (fun v1 H => ?_)
  refine go_getR (pc := 5) dX3_sets_5 fl_X3_24 H (fun v2 H => ?_)
  refine go_getR (pc := 8) dX3_sets_8 fl_X3_30 H (fun v3 H => ?_)
  refine go_getI (pc := 11) dX3_sets_11 fl_X3_35 H (fun v4 H => ?_)
  refine go_ishl (pc := 14) dX3_sets_14 ?_
  exact go_iret (pc := 15) dX3_sets_15 rfl ⟨Nat.le_of_ble_eq_true rfl, Nat.le_of_ble_eq_true rfl⟩ H

def M_X3_with : MD := (yX3_with, cX3_with, 5, (some (.object "GlassWatch$Keeping")), 1, 23, 0, 0)
theorem cv_X3_with : CVo M_X3_with 2 3 := ⟨⟨wd_957, wd_119, ⟨by decide, by decide⟩, by decide +kernel⟩, wd_956, wd_35, _, rfl, rfl⟩
def X3_with_B54 (rc14 : Nat → Int32 → Nat → Int32 → Hp → Option (Nat × Hp)) (a1 : Nat) (a2 : Int32) (a3 : Nat) (a4 : Int32) (h : Hp) : Option (Nat × Hp) :=
  rc14 a1 a2 a3 (a4 + 1) h
theorem X3_with_B54_ok {hh h' : Hp} {r : Nat}  (rc14 : Nat → Int32 → Nat → Int32 → Hp → Option (Nat × Hp)) (hrc14 : ∀ (a1 : Nat) (a2 : Int32) (a3 : Nat) (a4 : Int32) (h : Hp), rc14 a1 a2 a3 a4 h = some (r, h') → Go (PM M_X3_with hh (some (.ref r)) h') M_X3_with 14 [none, some (.ref a1), some (.int a2), some (.ref a3), some (.int a4)] [] h 0 0) (a1 : Nat) (a2 : Int32) (a3 : Nat) (a4 : Int32) (h : Hp) (H : X3_with_B54 rc14 a1 a2 a3 a4 h = some (r, h')) : Go (PM M_X3_with hh (some (.ref r)) h') M_X3_with 54 [none, some (.ref a1), some (.int a2), some (.ref a3), some (.int a4)] [] h 0 0 := by
  unfold X3_with_B54 at H
  refine go_iinc (pc := 54) (v := a4 + 1) (L' := [none, some (.ref a1), some (.int a2), some (.ref a3), some (.int (a4 + 1))]) dX3_with_54 rfl rfl (Nat.le_of_ble_eq_true rfl) rfl ?_
  refine go_goto (pc := 57) (tgt := 14) dX3_with_57 (by decide) ?_
  exact Go.weak (L' := [none, some (.ref a1), some (.int a2), some (.ref a3), some (.int (a4 + 1))]) ⟨rfl, ⟨rfl, ⟨rfl, ⟨rfl, trivial⟩⟩⟩⟩ (hrc14 a1 a2 a3 (a4 + 1) h H)

def X3_with_L14_s (rc14 : Nat → Int32 → Nat → Int32 → Hp → Option (Nat × Hp)) (a1 : Nat) (a2 : Int32) (a3 : Nat) (a4 : Int32) (h : Hp) : Option (Nat × Hp) :=
  (gI h a3 8 3).bind fun v101 =>
  if v101 ≤ a4 then (
    some (a1, h))
  else (
    if ((a2 >>> (a4 &&& 31)) &&& 1) = 0 then (
      X3_with_B54 rc14 a1 a2 a3 a4 h)
    else (
      (gR h a1 4 1).bind fun v102 =>
      cV h a3 8 (X8_cell a3 a4 0 h) fun v104 h103 =>
      cV h103 a3 8 (X8_cell a3 a4 1 h103) fun v106 h105 =>
      cVv h105 v102 8 (X8_put v102 v104 0 v106 h105) fun h107 =>
      X3_with_B54 rc14 a1 a2 a3 a4 h107))
def X3_with_L14 (q : Nat) : Nat → Int32 → Nat → Int32 → Hp → Option (Nat × Hp) := loopN (fun _ _ _ _ _ => none) (X3_with_L14_s) q
theorem X3_with_L14_ok {hh h' : Hp} {r : Nat}  : ∀ (q : Nat) (a1 : Nat) (a2 : Int32) (a3 : Nat) (a4 : Int32) (h : Hp), X3_with_L14 q a1 a2 a3 a4 h = some (r, h') → Go (PM M_X3_with hh (some (.ref r)) h') M_X3_with 14 [none, some (.ref a1), some (.int a2), some (.ref a3), some (.int a4)] [] h 0 0 := by
  intro q
  induction q with
  | zero => intro a1 a2 a3 a4 h H; cases H
  | succ q hrc14 =>
    intro a1 a2 a3 a4 h H
    replace H : X3_with_L14_s (X3_with_L14 q) a1 a2 a3 a4 h = some (r, h') := H
    unfold X3_with_L14_s at H
    refine go_iload (pc := 14) dX3_with_14 rfl ?_
    refine go_aload_n (pc := 16) dX3_with_16 rfl rfl ?_
    refine go_getI (pc := 17) dX3_with_17 fl_X3_35 H (fun v101 H => ?_)
    refine go_icmp_ge (pc := 20) (tgt := 60) dX3_with_20 (by decide) H (fun H => ?_) (fun H => ?_)
    · refine go_aload_n (pc := 60) dX3_with_60 rfl rfl ?_
      exact go_aret (pc := 61) dX3_with_61 rfl ⟨Nat.le_of_ble_eq_true rfl, Nat.le_of_ble_eq_true rfl⟩ H
    · refine go_iload_n (pc := 23) dX3_with_23 rfl rfl ?_
      refine go_iload (pc := 24) dX3_with_24 rfl ?_
      refine go_ishr (pc := 26) dX3_with_26 ?_
      refine go_iconst (pc := 27) (v := 1) dX3_with_27 (by decide) ?_
      refine go_iand (pc := 28) dX3_with_28 ?_
      refine go_if_eq (pc := 29) (tgt := 54) dX3_with_29 (by decide) H (fun H => ?_) (fun H => ?_)
      · exact Go.weak (L' := [none, some (.ref a1), some (.int a2), some (.ref a3), some (.int a4)]) ⟨rfl, ⟨rfl, ⟨rfl, ⟨rfl, trivial⟩⟩⟩⟩ (X3_with_B54_ok _ hrc14 a1 a2 a3 a4 h H)
      · refine go_aload_n (pc := 32) dX3_with_32 rfl rfl ?_
        refine go_getR (pc := 33) dX3_with_33 fl_X3_57 H (fun v102 H => ?_)
        refine go_aload_n (pc := 36) dX3_with_36 rfl rfl ?_
        refine go_iload (pc := 37) dX3_with_37 rfl ?_
        refine go_iconst (pc := 39) (v := 0) dX3_with_39 (by decide) ?_
        refine go_cVi (pc := 40) (Mz := M_X8_cell) (as := [.int a4, .int 0]) (a := a3) (st := [.ref v102]) dX3_with_40 wd_958 cv_X8_cell X8_cell_ok rfl rfl ⟨Nat.le_of_ble_eq_true rfl, Nat.le_of_ble_eq_true rfl⟩ (Nat.le_of_ble_eq_true rfl) ⟨rfl, rfl⟩ ⟨Nat.le_of_ble_eq_true rfl, Nat.le_of_ble_eq_true rfl⟩ H (fun v104 h103 H => ?_)
        refine go_iconst (pc := 43) (v := 0) dX3_with_43 (by decide) ?_
        refine go_aload_n (pc := 44) dX3_with_44 rfl rfl ?_
        refine go_iload (pc := 45) dX3_with_45 rfl ?_
        refine go_iconst (pc := 47) (v := 1) dX3_with_47 (by decide) ?_
        refine go_cVi (pc := 48) (Mz := M_X8_cell) (as := [.int a4, .int 1]) (a := a3) (st := [.int 0, .int v104, .ref v102]) dX3_with_48 wd_958 cv_X8_cell X8_cell_ok rfl rfl ⟨Nat.le_of_ble_eq_true rfl, Nat.le_of_ble_eq_true rfl⟩ (Nat.le_of_ble_eq_true rfl) ⟨rfl, rfl⟩ ⟨Nat.le_of_ble_eq_true rfl, Nat.le_of_ble_eq_true rfl⟩ H (fun v106 h105 H => ?_)
        refine go_cVv (pc := 51) (Mz := M_X8_put) (as := [.int v104, .int 0, .int v106]) (a := v102) (st := []) dX3_with_51 wd_959 cv_X8_put X8_put_ok rfl rfl ⟨Nat.le_of_ble_eq_true rfl, Nat.le_of_ble_eq_true rfl⟩ (Nat.le_of_ble_eq_true rfl) ⟨rfl, rfl⟩ ⟨Nat.le_of_ble_eq_true rfl, Nat.le_of_ble_eq_true rfl⟩ H (fun h107 H => ?_)
        exact Go.weak (L' := [none, some (.ref a1), some (.int a2), some (.ref a3), some (.int a4)]) ⟨rfl, ⟨rfl, ⟨rfl, ⟨rfl, trivial⟩⟩⟩⟩ (X3_with_B54_ok _ hrc14 a1 a2 a3 a4 h107 H)

def X3_with (a0 : Nat) (a1 : Nat) (a2 : Int32) (h : Hp) : Option (Nat × Hp) :=
  (gR h a0 3 0).bind fun v1 =>
  (gR h v1 6 3).bind fun v2 =>
  (gR h v2 9 5).bind fun v3 =>
  X3_with_L14 5000 a1 a2 v3 0 h
theorem X3_with_ok {a0 : Nat} {a1 : Nat} {a2 : Int32} {h h' : Hp} {r : Nat} (H : X3_with a0 a1 a2 h = some (r, h')) : Con M_X3_with [.ref a0, .ref a1, .int a2] h (some (.ref r)) h' := by
  refine con_of_go (by decide) 2 (L := [some (.ref a0), some (.ref a1), some (.int a2), none, none]) rfl (Nat.le_of_ble_eq_true rfl) ?_
  unfold X3_with at H
  refine go_aload_n (pc := 0) dX3_with_0 rfl rfl ?_
  refine go_getR (pc := 1) dX3_with_1 fl_X3_20 H (fun v1 H => ?_)
  refine go_getR (pc := 4) dX3_with_4 fl_X3_24 H (fun v2 H => ?_)
  refine go_getR (pc := 7) dX3_with_7 fl_X3_30 H (fun v3 H => ?_)
  refine go_astore_n (pc := 10) (L' := [some (.ref a0), some (.ref a1), some (.int a2), some (.ref v3), none]) dX3_with_10 rfl (Nat.le_of_ble_eq_true rfl) rfl ?_
  refine go_iconst (pc := 11) (v := 0) dX3_with_11 (by decide) ?_
  refine go_istore (pc := 12) (L' := [some (.ref a0), some (.ref a1), some (.int a2), some (.ref v3), some (.int 0)]) dX3_with_12 (Nat.le_of_ble_eq_true rfl) rfl ?_
  exact Go.weak (L' := [none, some (.ref a1), some (.int a2), some (.ref v3), some (.int 0)]) ⟨rfl, ⟨rfl, ⟨rfl, ⟨rfl, trivial⟩⟩⟩⟩ (X3_with_L14_ok 5000 a1 a2 v3 0 h H)

def M_X3_supposing : MD := (yX3_supposing, cX3_supposing, 3, (some (.object "GlassWatch$Keeping")), 3, 64, 0, 0)
theorem cv_X3_supposing : CVo M_X3_supposing 2 3 := ⟨⟨wd_941, wd_119, ⟨by decide, by decide⟩, by decide +kernel⟩, wd_940, wd_34, _, rfl, rfl⟩
def X3_supposing (a0 : Nat) (a1 : Nat) (a2 : Int32) (h : Hp) : Option (Nat × Hp) :=
  (gR h a0 3 0).bind fun v1 =>
  cV h v1 6 (X6_trialOf v1 a1 h) fun v3 h2 =>
  cV h2 a0 3 (X3_with a0 v3 a2 h2) fun v5 h4 =>
  some (v5, h4)
theorem X3_supposing_ok {a0 : Nat} {a1 : Nat} {a2 : Int32} {h h' : Hp} {r : Nat} (H : X3_supposing a0 a1 a2 h = some (r, h')) : Con M_X3_supposing [.ref a0, .ref a1, .int a2] h (some (.ref r)) h' := by
  refine con_of_go (by decide) 0 (L := [some (.ref a0), some (.ref a1), some (.int a2)]) rfl (Nat.le_of_ble_eq_true rfl) ?_
  unfold X3_supposing at H
  refine go_aload_n (pc := 0) dX3_supposing_0 rfl rfl ?_
  refine go_aload_n (pc := 1) dX3_supposing_1 rfl rfl ?_
  refine go_getR (pc := 2) dX3_supposing_2 fl_X3_20 H (fun v1 H => ?_)
  refine go_aload_n (pc := 5) dX3_supposing_5 rfl rfl ?_
  refine go_cVr (pc := 6) (Mz := M_X6_trialOf) (as := [.ref a1]) (a := v1) (st := [.ref a0]) dX3_supposing_6 wd_942 cv_X6_trialOf X6_trialOf_ok rfl rfl ⟨Nat.le_of_ble_eq_true rfl, Nat.le_of_ble_eq_true rfl⟩ (Nat.le_of_ble_eq_true rfl) ⟨rfl, rfl⟩ ⟨Nat.le_of_ble_eq_true rfl, Nat.le_of_ble_eq_true rfl⟩ H (fun v3 h2 H => ?_)
  refine go_iload_n (pc := 9) dX3_supposing_9 rfl rfl ?_
  refine go_cVr (pc := 10) (Mz := M_X3_with) (as := [.ref v3, .int a2]) (a := a0) (st := []) dX3_supposing_10 wd_954 cv_X3_with X3_with_ok rfl rfl ⟨Nat.le_of_ble_eq_true rfl, Nat.le_of_ble_eq_true rfl⟩ (Nat.le_of_ble_eq_true rfl) ⟨rfl, rfl⟩ ⟨Nat.le_of_ble_eq_true rfl, Nat.le_of_ble_eq_true rfl⟩ H (fun v5 h4 H => ?_)
  exact go_aret (pc := 13) dX3_supposing_13 rfl ⟨Nat.le_of_ble_eq_true rfl, Nat.le_of_ble_eq_true rfl⟩ H

def M_X3_asTold : MD := (yX3_asTold, cX3_asTold, 2, (some (.object "GlassWatch$Keeping")), 2, 47, 0, 0)
theorem cv_X3_asTold : CVo M_X3_asTold 1 3 := ⟨⟨wd_1053, wd_119, ⟨by decide, by decide⟩, by decide +kernel⟩, wd_1052, wd_38, _, rfl, rfl⟩
def X3_asTold (a0 : Nat) (a1 : Int32) (h : Hp) : Option (Nat × Hp) :=
  (gR h a0 3 0).bind fun v1 =>
  (gR h v1 6 2).bind fun v2 =>
  (gR h a0 3 0).bind fun v3 =>
  (gR h v3 6 3).bind fun v4 =>
  cVv h v2 4 (X4_setAsTold v2 v4 h) fun h5 =>
  (gR h5 a0 3 0).bind fun v6 =>
  (gR h5 v6 6 2).bind fun v7 =>
  cV h5 a0 3 (X3_with a0 v7 a1 h5) fun v9 h8 =>
  some (v9, h8)
theorem X3_asTold_ok {a0 : Nat} {a1 : Int32} {h h' : Hp} {r : Nat} (H : X3_asTold a0 a1 h = some (r, h')) : Con M_X3_asTold [.ref a0, .int a1] h (some (.ref r)) h' := by
  refine con_of_go (by decide) 0 (L := [some (.ref a0), some (.int a1)]) rfl (Nat.le_of_ble_eq_true rfl) ?_
  unfold X3_asTold at H
  refine go_aload_n (pc := 0) dX3_asTold_0 rfl rfl ?_
  refine go_getR (pc := 1) dX3_asTold_1 fl_X3_20 H (fun v1 H => ?_)
  refine go_getR (pc := 4) dX3_asTold_4 fl_X3_47 H (fun v2 H => ?_)
  refine go_aload_n (pc := 7) dX3_asTold_7 rfl rfl ?_
  refine go_getR (pc := 8) dX3_asTold_8 fl_X3_20 H (fun v3 H => ?_)
  refine go_getR (pc := 11) dX3_asTold_11 fl_X3_24 H (fun v4 H => ?_)
  refine go_cVv (pc := 14) (Mz := M_X4_setAsTold) (as := [.ref v4]) (a := v2) (st := []) dX3_asTold_14 wd_1054 cv_X4_setAsTold X4_setAsTold_ok rfl rfl ⟨Nat.le_of_ble_eq_true rfl, Nat.le_of_ble_eq_true rfl⟩ (Nat.le_of_ble_eq_true rfl) ⟨rfl, rfl⟩ ⟨Nat.le_of_ble_eq_true rfl, Nat.le_of_ble_eq_true rfl⟩ H (fun h5 H => ?_)
  refine go_aload_n (pc := 17) dX3_asTold_17 rfl rfl ?_
  refine go_aload_n (pc := 18) dX3_asTold_18 rfl rfl ?_
  refine go_getR (pc := 19) dX3_asTold_19 fl_X3_20 H (fun v6 H => ?_)
  refine go_getR (pc := 22) dX3_asTold_22 fl_X3_47 H (fun v7 H => ?_)
  refine go_iload_n (pc := 25) dX3_asTold_25 rfl rfl ?_
  refine go_cVr (pc := 26) (Mz := M_X3_with) (as := [.ref v7, .int a1]) (a := a0) (st := []) dX3_asTold_26 wd_954 cv_X3_with X3_with_ok rfl rfl ⟨Nat.le_of_ble_eq_true rfl, Nat.le_of_ble_eq_true rfl⟩ (Nat.le_of_ble_eq_true rfl) ⟨rfl, rfl⟩ ⟨Nat.le_of_ble_eq_true rfl, Nat.le_of_ble_eq_true rfl⟩ H (fun v9 h8 H => ?_)
  exact go_aret (pc := 29) dX3_asTold_29 rfl ⟨Nat.le_of_ble_eq_true rfl, Nat.le_of_ble_eq_true rfl⟩ H

def M_X3_squaresAfter : MD := (yX3_squaresAfter, cX3_squaresAfter, 5, (some .int), 5, 115, 0, 0)
theorem cv_X3_squaresAfter : CVo M_X3_squaresAfter 2 3 := ⟨⟨wd_933, wd_119, ⟨by decide, by decide⟩, by decide +kernel⟩, wd_931, wd_932, _, rfl, rfl⟩
def X3_squaresAfter_B62 (rc10 : Nat → Nat → Int32 → Int32 → Hp → Option (Int32 × Hp)) (a0 : Nat) (a1 : Nat) (a2 : Int32) (a3 : Int32) (h : Hp) : Option (Int32 × Hp) :=
  rc10 a0 a1 a2 (a3 + 1) h
theorem X3_squaresAfter_B62_ok {hh h' : Hp} {r : Int32}  (rc10 : Nat → Nat → Int32 → Int32 → Hp → Option (Int32 × Hp)) (hrc10 : ∀ (a0 : Nat) (a1 : Nat) (a2 : Int32) (a3 : Int32) (h : Hp), rc10 a0 a1 a2 a3 h = some (r, h') → Go (PM M_X3_squaresAfter hh (some (.int r)) h') M_X3_squaresAfter 10 [some (.ref a0), some (.ref a1), some (.int a2), some (.int a3), none] [] h 0 0) (a0 : Nat) (a1 : Nat) (a2 : Int32) (a3 : Int32) (h : Hp) (H : X3_squaresAfter_B62 rc10 a0 a1 a2 a3 h = some (r, h')) : Go (PM M_X3_squaresAfter hh (some (.int r)) h') M_X3_squaresAfter 62 [some (.ref a0), some (.ref a1), some (.int a2), some (.int a3), none] [] h 0 0 := by
  unfold X3_squaresAfter_B62 at H
  refine go_iinc (pc := 62) (v := a3 + 1) (L' := [some (.ref a0), some (.ref a1), some (.int a2), some (.int (a3 + 1)), none]) dX3_squaresAfter_62 rfl rfl (Nat.le_of_ble_eq_true rfl) rfl ?_
  refine go_goto (pc := 65) (tgt := 10) dX3_squaresAfter_65 (by decide) ?_
  exact Go.weak (L' := [some (.ref a0), some (.ref a1), some (.int a2), some (.int (a3 + 1)), none]) ⟨rfl, ⟨rfl, ⟨rfl, ⟨rfl, trivial⟩⟩⟩⟩ (hrc10 a0 a1 a2 (a3 + 1) h H)

def X3_squaresAfter_L10_s (rc10 : Nat → Nat → Int32 → Int32 → Hp → Option (Int32 × Hp)) (a0 : Nat) (a1 : Nat) (a2 : Int32) (a3 : Int32) (h : Hp) : Option (Int32 × Hp) :=
  cV h a0 3 (X3_sets a0 h) fun v102 h101 =>
  if v102 ≤ a3 then (
    (gR h101 a0 3 1).bind fun v103 =>
    (gI h101 v103 8 3).bind fun v104 =>
    some (v104, h101))
  else (
    (gR h101 a0 3 0).bind fun v105 =>
    cV h101 a0 3 (X3_supposing a0 a1 a3 h101) fun v107 h106 =>
    cV h106 v105 6 (X6_sailFor v105 v107 a2 h106) fun v109 h108 =>
    cV h108 v109 7 (X7_inSquare v109 h108) fun v111 h110 =>
    (gR h110 a0 3 1).bind fun v112 =>
    cV h110 v112 8 (X8_holds v112 0 v111 h110) fun v114 h113 =>
    if v114 = 0 then (
      (gR h113 a0 3 1).bind fun v115 =>
      cVv h113 v115 8 (X8_add v115 v111 0 0 0 h113) fun h116 =>
      X3_squaresAfter_B62 rc10 a0 a1 a2 a3 h116)
    else (
      X3_squaresAfter_B62 rc10 a0 a1 a2 a3 h113))
def X3_squaresAfter_L10 (q : Nat) : Nat → Nat → Int32 → Int32 → Hp → Option (Int32 × Hp) := loopN (fun _ _ _ _ _ => none) (X3_squaresAfter_L10_s) q
theorem X3_squaresAfter_L10_ok {hh h' : Hp} {r : Int32}  : ∀ (q : Nat) (a0 : Nat) (a1 : Nat) (a2 : Int32) (a3 : Int32) (h : Hp), X3_squaresAfter_L10 q a0 a1 a2 a3 h = some (r, h') → Go (PM M_X3_squaresAfter hh (some (.int r)) h') M_X3_squaresAfter 10 [some (.ref a0), some (.ref a1), some (.int a2), some (.int a3), none] [] h 0 0 := by
  intro q
  induction q with
  | zero => intro a0 a1 a2 a3 h H; cases H
  | succ q hrc10 =>
    intro a0 a1 a2 a3 h H
    replace H : X3_squaresAfter_L10_s (X3_squaresAfter_L10 q) a0 a1 a2 a3 h = some (r, h') := H
    unfold X3_squaresAfter_L10_s at H
    refine go_iload_n (pc := 10) dX3_squaresAfter_10 rfl rfl ?_
    refine go_aload_n (pc := 11) dX3_squaresAfter_11 rfl rfl ?_
    refine go_cVi (pc := 12) (Mz := M_X3_sets) (as := []) (a := a0) (st := [.int a3]) dX3_squaresAfter_12 wd_934 cv_X3_sets X3_sets_ok rfl rfl ⟨Nat.le_of_ble_eq_true rfl, Nat.le_of_ble_eq_true rfl⟩ (Nat.le_of_ble_eq_true rfl) ⟨rfl, rfl⟩ ⟨Nat.le_of_ble_eq_true rfl, Nat.le_of_ble_eq_true rfl⟩ H (fun v102 h101 H => ?_)
    refine go_icmp_ge (pc := 15) (tgt := 68) dX3_squaresAfter_15 (by decide) H (fun H => ?_) (fun H => ?_)
    · refine go_aload_n (pc := 68) dX3_squaresAfter_68 rfl rfl ?_
      refine go_getR (pc := 69) dX3_squaresAfter_69 fl_X3_14 H (fun v103 H => ?_)
      refine go_getI (pc := 72) dX3_squaresAfter_72 fl_X3_35 H (fun v104 H => ?_)
      exact go_iret (pc := 75) dX3_squaresAfter_75 rfl ⟨Nat.le_of_ble_eq_true rfl, Nat.le_of_ble_eq_true rfl⟩ H
    · refine go_aload_n (pc := 18) dX3_squaresAfter_18 rfl rfl ?_
      refine go_getR (pc := 19) dX3_squaresAfter_19 fl_X3_20 H (fun v105 H => ?_)
      refine go_aload_n (pc := 22) dX3_squaresAfter_22 rfl rfl ?_
      refine go_aload_n (pc := 23) dX3_squaresAfter_23 rfl rfl ?_
      refine go_iload_n (pc := 24) dX3_squaresAfter_24 rfl rfl ?_
      refine go_cVr (pc := 25) (Mz := M_X3_supposing) (as := [.ref a1, .int a3]) (a := a0) (st := [.ref v105]) dX3_squaresAfter_25 wd_938 cv_X3_supposing X3_supposing_ok rfl rfl ⟨Nat.le_of_ble_eq_true rfl, Nat.le_of_ble_eq_true rfl⟩ (Nat.le_of_ble_eq_true rfl) ⟨rfl, rfl⟩ ⟨Nat.le_of_ble_eq_true rfl, Nat.le_of_ble_eq_true rfl⟩ H (fun v107 h106 H => ?_)
      refine go_iload_n (pc := 28) dX3_squaresAfter_28 rfl rfl ?_
      refine go_cVr (pc := 29) (Mz := M_X6_sailFor) (as := [.ref v107, .int a2]) (a := v105) (st := []) dX3_squaresAfter_29 wd_960 cv_X6_sailFor X6_sailFor_ok rfl rfl ⟨Nat.le_of_ble_eq_true rfl, Nat.le_of_ble_eq_true rfl⟩ (Nat.le_of_ble_eq_true rfl) ⟨rfl, rfl⟩ ⟨Nat.le_of_ble_eq_true rfl, Nat.le_of_ble_eq_true rfl⟩ H (fun v109 h108 H => ?_)
      refine go_cVi (pc := 32) (Mz := M_X7_inSquare) (as := []) (a := v109) (st := []) dX3_squaresAfter_32 wd_961 cv_X7_inSquare X7_inSquare_ok rfl rfl ⟨Nat.le_of_ble_eq_true rfl, Nat.le_of_ble_eq_true rfl⟩ (Nat.le_of_ble_eq_true rfl) ⟨rfl, rfl⟩ ⟨Nat.le_of_ble_eq_true rfl, Nat.le_of_ble_eq_true rfl⟩ H (fun v111 h110 H => ?_)
      refine go_istore (pc := 35) (L' := [some (.ref a0), some (.ref a1), some (.int a2), some (.int a3), some (.int v111)]) dX3_squaresAfter_35 (Nat.le_of_ble_eq_true rfl) rfl ?_
      refine go_aload_n (pc := 37) dX3_squaresAfter_37 rfl rfl ?_
      refine go_getR (pc := 38) dX3_squaresAfter_38 fl_X3_14 H (fun v112 H => ?_)
      refine go_iconst (pc := 41) (v := 0) dX3_squaresAfter_41 (by decide) ?_
      refine go_iload (pc := 42) dX3_squaresAfter_42 rfl ?_
      refine go_cVi (pc := 44) (Mz := M_X8_holds) (as := [.int 0, .int v111]) (a := v112) (st := []) dX3_squaresAfter_44 wd_962 cv_X8_holds X8_holds_ok rfl rfl ⟨Nat.le_of_ble_eq_true rfl, Nat.le_of_ble_eq_true rfl⟩ (Nat.le_of_ble_eq_true rfl) ⟨rfl, rfl⟩ ⟨Nat.le_of_ble_eq_true rfl, Nat.le_of_ble_eq_true rfl⟩ H (fun v114 h113 H => ?_)
      refine go_if_ne (pc := 47) (tgt := 62) dX3_squaresAfter_47 (by decide) H (fun H => ?_) (fun H => ?_)
      · exact Go.weak (L' := [some (.ref a0), some (.ref a1), some (.int a2), some (.int a3), none]) ⟨rfl, ⟨rfl, ⟨rfl, ⟨rfl, trivial⟩⟩⟩⟩ (X3_squaresAfter_B62_ok _ hrc10 a0 a1 a2 a3 h113 H)
      · refine go_aload_n (pc := 50) dX3_squaresAfter_50 rfl rfl ?_
        refine go_getR (pc := 51) dX3_squaresAfter_51 fl_X3_14 H (fun v115 H => ?_)
        refine go_iload (pc := 54) dX3_squaresAfter_54 rfl ?_
        refine go_iconst (pc := 56) (v := 0) dX3_squaresAfter_56 (by decide) ?_
        refine go_iconst (pc := 57) (v := 0) dX3_squaresAfter_57 (by decide) ?_
        refine go_iconst (pc := 58) (v := 0) dX3_squaresAfter_58 (by decide) ?_
        refine go_cVv (pc := 59) (Mz := M_X8_add) (as := [.int v111, .int 0, .int 0, .int 0]) (a := v115) (st := []) dX3_squaresAfter_59 wd_963 cv_X8_add X8_add_ok rfl rfl ⟨Nat.le_of_ble_eq_true rfl, Nat.le_of_ble_eq_true rfl⟩ (Nat.le_of_ble_eq_true rfl) ⟨rfl, rfl⟩ ⟨Nat.le_of_ble_eq_true rfl, Nat.le_of_ble_eq_true rfl⟩ H (fun h116 H => ?_)
        exact Go.weak (L' := [some (.ref a0), some (.ref a1), some (.int a2), some (.int a3), none]) ⟨rfl, ⟨rfl, ⟨rfl, ⟨rfl, trivial⟩⟩⟩⟩ (X3_squaresAfter_B62_ok _ hrc10 a0 a1 a2 a3 h116 H)

def X3_squaresAfter (a0 : Nat) (a1 : Nat) (a2 : Int32) (h : Hp) : Option (Int32 × Hp) :=
  (gR h a0 3 1).bind fun v1 =>
  (pF h v1 8 3 (.int 0)).bind fun h2 =>
  X3_squaresAfter_L10 5000 a0 a1 a2 0 h2
theorem X3_squaresAfter_ok {a0 : Nat} {a1 : Nat} {a2 : Int32} {h h' : Hp} {r : Int32} (H : X3_squaresAfter a0 a1 a2 h = some (r, h')) : Con M_X3_squaresAfter [.ref a0, .ref a1, .int a2] h (some (.int r)) h' := by
  refine con_of_go (by decide) 2 (L := [some (.ref a0), some (.ref a1), some (.int a2), none, none]) rfl (Nat.le_of_ble_eq_true rfl) ?_
  unfold X3_squaresAfter at H
  refine go_aload_n (pc := 0) dX3_squaresAfter_0 rfl rfl ?_
  refine go_getR (pc := 1) dX3_squaresAfter_1 fl_X3_14 H (fun v1 H => ?_)
  refine go_iconst (pc := 4) (v := 0) dX3_squaresAfter_4 (by decide) ?_
  refine go_putI (pc := 5) dX3_squaresAfter_5 fs_X3_35 H (fun h2 H => ?_)
  refine go_iconst (pc := 8) (v := 0) dX3_squaresAfter_8 (by decide) ?_
  refine go_istore_n (pc := 9) (L' := [some (.ref a0), some (.ref a1), some (.int a2), some (.int 0), none]) dX3_squaresAfter_9 rfl (Nat.le_of_ble_eq_true rfl) rfl ?_
  exact Go.weak (L' := [some (.ref a0), some (.ref a1), some (.int a2), some (.int 0), none]) ⟨rfl, ⟨rfl, ⟨rfl, ⟨rfl, trivial⟩⟩⟩⟩ (X3_squaresAfter_L10_ok 5000 a0 a1 a2 0 h2 H)

def M_X3_strikingSets : MD := (yX3_strikingSets, cX3_strikingSets, 5, (some .int), 4, 95, 0, 0)
theorem cv_X3_strikingSets : CVo M_X3_strikingSets 1 3 := ⟨⟨wd_971, wd_119, ⟨by decide, by decide⟩, by decide +kernel⟩, wd_969, wd_970, _, rfl, rfl⟩
def X3_strikingSets_B47 (rc4 : Nat → Nat → Int32 → Int32 → Hp → Option (Int32 × Hp)) (a0 : Nat) (a1 : Nat) (a2 : Int32) (a3 : Int32) (h : Hp) : Option (Int32 × Hp) :=
  rc4 a0 a1 a2 (a3 + 1) h
theorem X3_strikingSets_B47_ok {hh h' : Hp} {r : Int32}  (rc4 : Nat → Nat → Int32 → Int32 → Hp → Option (Int32 × Hp)) (hrc4 : ∀ (a0 : Nat) (a1 : Nat) (a2 : Int32) (a3 : Int32) (h : Hp), rc4 a0 a1 a2 a3 h = some (r, h') → Go (PM M_X3_strikingSets hh (some (.int r)) h') M_X3_strikingSets 4 [some (.ref a0), some (.ref a1), some (.int a2), some (.int a3), none] [] h 0 0) (a0 : Nat) (a1 : Nat) (a2 : Int32) (a3 : Int32) (h : Hp) (H : X3_strikingSets_B47 rc4 a0 a1 a2 a3 h = some (r, h')) : Go (PM M_X3_strikingSets hh (some (.int r)) h') M_X3_strikingSets 47 [some (.ref a0), some (.ref a1), some (.int a2), some (.int a3), none] [] h 0 0 := by
  unfold X3_strikingSets_B47 at H
  refine go_iinc (pc := 47) (v := a3 + 1) (L' := [some (.ref a0), some (.ref a1), some (.int a2), some (.int (a3 + 1)), none]) dX3_strikingSets_47 rfl rfl (Nat.le_of_ble_eq_true rfl) rfl ?_
  refine go_goto (pc := 50) (tgt := 4) dX3_strikingSets_50 (by decide) ?_
  exact Go.weak (L' := [some (.ref a0), some (.ref a1), some (.int a2), some (.int (a3 + 1)), none]) ⟨rfl, ⟨rfl, ⟨rfl, ⟨rfl, trivial⟩⟩⟩⟩ (hrc4 a0 a1 a2 (a3 + 1) h H)

def X3_strikingSets_L4_s (rc4 : Nat → Nat → Int32 → Int32 → Hp → Option (Int32 × Hp)) (a0 : Nat) (a1 : Nat) (a2 : Int32) (a3 : Int32) (h : Hp) : Option (Int32 × Hp) :=
  cV h a0 3 (X3_sets a0 h) fun v102 h101 =>
  if v102 ≤ a3 then (
    some (a2, h101))
  else (
    cV h101 a0 3 (X3_supposing a0 a1 a3 h101) fun v104 h103 =>
    (gR h103 a0 3 0).bind fun v105 =>
    cVv h103 v105 6 (X6_reckon v105 v104 h103) fun h106 =>
    (gR h106 a0 3 0).bind fun v107 =>
    cV h106 v107 6 (X6_firstStrike v107 v104 0 h106) fun v109 h108 =>
    if v109 = (-2) then (
      X3_strikingSets_B47 rc4 a0 a1 a2 a3 h108)
    else (
      X3_strikingSets_B47 rc4 a0 a1 (a2 + 1) a3 h108))
def X3_strikingSets_L4 (q : Nat) : Nat → Nat → Int32 → Int32 → Hp → Option (Int32 × Hp) := loopN (fun _ _ _ _ _ => none) (X3_strikingSets_L4_s) q
theorem X3_strikingSets_L4_ok {hh h' : Hp} {r : Int32}  : ∀ (q : Nat) (a0 : Nat) (a1 : Nat) (a2 : Int32) (a3 : Int32) (h : Hp), X3_strikingSets_L4 q a0 a1 a2 a3 h = some (r, h') → Go (PM M_X3_strikingSets hh (some (.int r)) h') M_X3_strikingSets 4 [some (.ref a0), some (.ref a1), some (.int a2), some (.int a3), none] [] h 0 0 := by
  intro q
  induction q with
  | zero => intro a0 a1 a2 a3 h H; cases H
  | succ q hrc4 =>
    intro a0 a1 a2 a3 h H
    replace H : X3_strikingSets_L4_s (X3_strikingSets_L4 q) a0 a1 a2 a3 h = some (r, h') := H
    unfold X3_strikingSets_L4_s at H
    refine go_iload_n (pc := 4) dX3_strikingSets_4 rfl rfl ?_
    refine go_aload_n (pc := 5) dX3_strikingSets_5 rfl rfl ?_
    refine go_cVi (pc := 6) (Mz := M_X3_sets) (as := []) (a := a0) (st := [.int a3]) dX3_strikingSets_6 wd_934 cv_X3_sets X3_sets_ok rfl rfl ⟨Nat.le_of_ble_eq_true rfl, Nat.le_of_ble_eq_true rfl⟩ (Nat.le_of_ble_eq_true rfl) ⟨rfl, rfl⟩ ⟨Nat.le_of_ble_eq_true rfl, Nat.le_of_ble_eq_true rfl⟩ H (fun v102 h101 H => ?_)
    refine go_icmp_ge (pc := 9) (tgt := 53) dX3_strikingSets_9 (by decide) H (fun H => ?_) (fun H => ?_)
    · refine go_iload_n (pc := 53) dX3_strikingSets_53 rfl rfl ?_
      exact go_iret (pc := 54) dX3_strikingSets_54 rfl ⟨Nat.le_of_ble_eq_true rfl, Nat.le_of_ble_eq_true rfl⟩ H
    · refine go_aload_n (pc := 12) dX3_strikingSets_12 rfl rfl ?_
      refine go_aload_n (pc := 13) dX3_strikingSets_13 rfl rfl ?_
      refine go_iload_n (pc := 14) dX3_strikingSets_14 rfl rfl ?_
      refine go_cVr (pc := 15) (Mz := M_X3_supposing) (as := [.ref a1, .int a3]) (a := a0) (st := []) dX3_strikingSets_15 wd_938 cv_X3_supposing X3_supposing_ok rfl rfl ⟨Nat.le_of_ble_eq_true rfl, Nat.le_of_ble_eq_true rfl⟩ (Nat.le_of_ble_eq_true rfl) ⟨rfl, rfl⟩ ⟨Nat.le_of_ble_eq_true rfl, Nat.le_of_ble_eq_true rfl⟩ H (fun v104 h103 H => ?_)
      refine go_astore (pc := 18) (L' := [some (.ref a0), some (.ref a1), some (.int a2), some (.int a3), some (.ref v104)]) dX3_strikingSets_18 (Nat.le_of_ble_eq_true rfl) rfl ?_
      refine go_aload_n (pc := 20) dX3_strikingSets_20 rfl rfl ?_
      refine go_getR (pc := 21) dX3_strikingSets_21 fl_X3_20 H (fun v105 H => ?_)
      refine go_aload (pc := 24) dX3_strikingSets_24 rfl ?_
      refine go_cVv (pc := 26) (Mz := M_X6_reckon) (as := [.ref v104]) (a := v105) (st := []) dX3_strikingSets_26 wd_972 cv_X6_reckon X6_reckon_ok rfl rfl ⟨Nat.le_of_ble_eq_true rfl, Nat.le_of_ble_eq_true rfl⟩ (Nat.le_of_ble_eq_true rfl) ⟨rfl, rfl⟩ ⟨Nat.le_of_ble_eq_true rfl, Nat.le_of_ble_eq_true rfl⟩ H (fun h106 H => ?_)
      refine go_aload_n (pc := 29) dX3_strikingSets_29 rfl rfl ?_
      refine go_getR (pc := 30) dX3_strikingSets_30 fl_X3_20 H (fun v107 H => ?_)
      refine go_aload (pc := 33) dX3_strikingSets_33 rfl ?_
      refine go_iconst (pc := 35) (v := 0) dX3_strikingSets_35 (by decide) ?_
      refine go_cVi (pc := 36) (Mz := M_X6_firstStrike) (as := [.ref v104, .int 0]) (a := v107) (st := []) dX3_strikingSets_36 wd_973 cv_X6_firstStrike X6_firstStrike_ok rfl rfl ⟨Nat.le_of_ble_eq_true rfl, Nat.le_of_ble_eq_true rfl⟩ (Nat.le_of_ble_eq_true rfl) ⟨rfl, rfl⟩ ⟨Nat.le_of_ble_eq_true rfl, Nat.le_of_ble_eq_true rfl⟩ H (fun v109 h108 H => ?_)
      refine go_bipush (pc := 39) (v := (-2)) dX3_strikingSets_39 (by decide) ?_
      refine go_icmp_eq (pc := 41) (tgt := 47) dX3_strikingSets_41 (by decide) H (fun H => ?_) (fun H => ?_)
      · exact Go.weak (L' := [some (.ref a0), some (.ref a1), some (.int a2), some (.int a3), none]) ⟨rfl, ⟨rfl, ⟨rfl, ⟨rfl, trivial⟩⟩⟩⟩ (X3_strikingSets_B47_ok _ hrc4 a0 a1 a2 a3 h108 H)
      · refine go_iinc (pc := 44) (v := a2 + 1) (L' := [some (.ref a0), some (.ref a1), some (.int (a2 + 1)), some (.int a3), some (.ref v104)]) dX3_strikingSets_44 rfl rfl (Nat.le_of_ble_eq_true rfl) rfl ?_
        exact Go.weak (L' := [some (.ref a0), some (.ref a1), some (.int (a2 + 1)), some (.int a3), none]) ⟨rfl, ⟨rfl, ⟨rfl, ⟨rfl, trivial⟩⟩⟩⟩ (X3_strikingSets_B47_ok _ hrc4 a0 a1 (a2 + 1) a3 h108 H)

def X3_strikingSets (a0 : Nat) (a1 : Nat) (h : Hp) : Option (Int32 × Hp) :=
  X3_strikingSets_L4 5000 a0 a1 0 0 h
theorem X3_strikingSets_ok {a0 : Nat} {a1 : Nat} {h h' : Hp} {r : Int32} (H : X3_strikingSets a0 a1 h = some (r, h')) : Con M_X3_strikingSets [.ref a0, .ref a1] h (some (.int r)) h' := by
  refine con_of_go (by decide) 3 (L := [some (.ref a0), some (.ref a1), none, none, none]) rfl (Nat.le_of_ble_eq_true rfl) ?_
  unfold X3_strikingSets at H
  refine go_iconst (pc := 0) (v := 0) dX3_strikingSets_0 (by decide) ?_
  refine go_istore_n (pc := 1) (L' := [some (.ref a0), some (.ref a1), some (.int 0), none, none]) dX3_strikingSets_1 rfl (Nat.le_of_ble_eq_true rfl) rfl ?_
  refine go_iconst (pc := 2) (v := 0) dX3_strikingSets_2 (by decide) ?_
  refine go_istore_n (pc := 3) (L' := [some (.ref a0), some (.ref a1), some (.int 0), some (.int 0), none]) dX3_strikingSets_3 rfl (Nat.le_of_ble_eq_true rfl) rfl ?_
  exact Go.weak (L' := [some (.ref a0), some (.ref a1), some (.int 0), some (.int 0), none]) ⟨rfl, ⟨rfl, ⟨rfl, ⟨rfl, trivial⟩⟩⟩⟩ (X3_strikingSets_L4_ok 5000 a0 a1 0 0 h H)

def M_X3_isSafeBy : MD := (yX3_isSafeBy, cX3_isSafeBy, 6, (some .boolean), 4, 95, 0, 0)
theorem cv_X3_isSafeBy : CVo M_X3_isSafeBy 3 3 := ⟨⟨wd_1024, wd_119, ⟨by decide, by decide⟩, by decide +kernel⟩, wd_1022, wd_1023, _, rfl, rfl⟩
def X3_isSafeBy_L3_s (rc3 : Nat → Nat → Int32 → Int32 → Int32 → Hp → Option (Int32 × Hp)) (a0 : Nat) (a1 : Nat) (a2 : Int32) (a3 : Int32) (a4 : Int32) (h : Hp) : Option (Int32 × Hp) :=
  cV h a0 3 (X3_sets a0 h) fun v102 h101 =>
  if v102 ≤ a4 then (
    rZ 1 h101)
  else (
    cV h101 a0 3 (X3_supposing a0 a1 a4 h101) fun v104 h103 =>
    (gR h103 v104 4 0).bind fun v105 =>
    cVv h103 v105 8 (X8_put v105 a2 1 a3 h103) fun h106 =>
    (gR h106 a0 3 0).bind fun v107 =>
    cVv h106 v107 6 (X6_reckon v107 v104 h106) fun h108 =>
    (gR h108 a0 3 0).bind fun v109 =>
    cV h108 v109 6 (X6_firstStrike v109 v104 0 h108) fun v111 h110 =>
    if v111 = (-2) then (
      rc3 a0 a1 a2 a3 (a4 + 1) h110)
    else (
      rZ 0 h110))
def X3_isSafeBy_L3 (q : Nat) : Nat → Nat → Int32 → Int32 → Int32 → Hp → Option (Int32 × Hp) := loopN (fun _ _ _ _ _ _ => none) (X3_isSafeBy_L3_s) q
theorem X3_isSafeBy_L3_ok {hh h' : Hp} {r : Int32}  : ∀ (q : Nat) (a0 : Nat) (a1 : Nat) (a2 : Int32) (a3 : Int32) (a4 : Int32) (h : Hp), X3_isSafeBy_L3 q a0 a1 a2 a3 a4 h = some (r, h') → Go (PM M_X3_isSafeBy hh (some (.int r)) h') M_X3_isSafeBy 3 [some (.ref a0), some (.ref a1), some (.int a2), some (.int a3), some (.int a4), none] [] h 0 0 := by
  intro q
  induction q with
  | zero => intro a0 a1 a2 a3 a4 h H; cases H
  | succ q hrc3 =>
    intro a0 a1 a2 a3 a4 h H
    replace H : X3_isSafeBy_L3_s (X3_isSafeBy_L3 q) a0 a1 a2 a3 a4 h = some (r, h') := H
    unfold X3_isSafeBy_L3_s at H
    refine go_iload (pc := 3) dX3_isSafeBy_3 rfl ?_
    refine go_aload_n (pc := 5) dX3_isSafeBy_5 rfl rfl ?_
    refine go_cVi (pc := 6) (Mz := M_X3_sets) (as := []) (a := a0) (st := [.int a4]) dX3_isSafeBy_6 wd_934 cv_X3_sets X3_sets_ok rfl rfl ⟨Nat.le_of_ble_eq_true rfl, Nat.le_of_ble_eq_true rfl⟩ (Nat.le_of_ble_eq_true rfl) ⟨rfl, rfl⟩ ⟨Nat.le_of_ble_eq_true rfl, Nat.le_of_ble_eq_true rfl⟩ H (fun v102 h101 H => ?_)
    refine go_icmp_ge (pc := 9) (tgt := 64) dX3_isSafeBy_9 (by decide) H (fun H => ?_) (fun H => ?_)
    · refine go_iconst (pc := 64) (v := 1) dX3_isSafeBy_64 (by decide) ?_
      exact go_zret (pc := 65) dX3_isSafeBy_65 rfl ⟨Nat.le_of_ble_eq_true rfl, Nat.le_of_ble_eq_true rfl⟩ H
    · refine go_aload_n (pc := 12) dX3_isSafeBy_12 rfl rfl ?_
      refine go_aload_n (pc := 13) dX3_isSafeBy_13 rfl rfl ?_
      refine go_iload (pc := 14) dX3_isSafeBy_14 rfl ?_
      refine go_cVr (pc := 16) (Mz := M_X3_supposing) (as := [.ref a1, .int a4]) (a := a0) (st := []) dX3_isSafeBy_16 wd_938 cv_X3_supposing X3_supposing_ok rfl rfl ⟨Nat.le_of_ble_eq_true rfl, Nat.le_of_ble_eq_true rfl⟩ (Nat.le_of_ble_eq_true rfl) ⟨rfl, rfl⟩ ⟨Nat.le_of_ble_eq_true rfl, Nat.le_of_ble_eq_true rfl⟩ H (fun v104 h103 H => ?_)
      refine go_astore (pc := 19) (L' := [some (.ref a0), some (.ref a1), some (.int a2), some (.int a3), some (.int a4), some (.ref v104)]) dX3_isSafeBy_19 (Nat.le_of_ble_eq_true rfl) rfl ?_
      refine go_aload (pc := 21) dX3_isSafeBy_21 rfl ?_
      refine go_getR (pc := 23) dX3_isSafeBy_23 fl_X3_100 H (fun v105 H => ?_)
      refine go_iload_n (pc := 26) dX3_isSafeBy_26 rfl rfl ?_
      refine go_iconst (pc := 27) (v := 1) dX3_isSafeBy_27 (by decide) ?_
      refine go_iload_n (pc := 28) dX3_isSafeBy_28 rfl rfl ?_
      refine go_cVv (pc := 29) (Mz := M_X8_put) (as := [.int a2, .int 1, .int a3]) (a := v105) (st := []) dX3_isSafeBy_29 wd_959 cv_X8_put X8_put_ok rfl rfl ⟨Nat.le_of_ble_eq_true rfl, Nat.le_of_ble_eq_true rfl⟩ (Nat.le_of_ble_eq_true rfl) ⟨rfl, rfl⟩ ⟨Nat.le_of_ble_eq_true rfl, Nat.le_of_ble_eq_true rfl⟩ H (fun h106 H => ?_)
      refine go_aload_n (pc := 32) dX3_isSafeBy_32 rfl rfl ?_
      refine go_getR (pc := 33) dX3_isSafeBy_33 fl_X3_20 H (fun v107 H => ?_)
      refine go_aload (pc := 36) dX3_isSafeBy_36 rfl ?_
      refine go_cVv (pc := 38) (Mz := M_X6_reckon) (as := [.ref v104]) (a := v107) (st := []) dX3_isSafeBy_38 wd_972 cv_X6_reckon X6_reckon_ok rfl rfl ⟨Nat.le_of_ble_eq_true rfl, Nat.le_of_ble_eq_true rfl⟩ (Nat.le_of_ble_eq_true rfl) ⟨rfl, rfl⟩ ⟨Nat.le_of_ble_eq_true rfl, Nat.le_of_ble_eq_true rfl⟩ H (fun h108 H => ?_)
      refine go_aload_n (pc := 41) dX3_isSafeBy_41 rfl rfl ?_
      refine go_getR (pc := 42) dX3_isSafeBy_42 fl_X3_20 H (fun v109 H => ?_)
      refine go_aload (pc := 45) dX3_isSafeBy_45 rfl ?_
      refine go_iconst (pc := 47) (v := 0) dX3_isSafeBy_47 (by decide) ?_
      refine go_cVi (pc := 48) (Mz := M_X6_firstStrike) (as := [.ref v104, .int 0]) (a := v109) (st := []) dX3_isSafeBy_48 wd_973 cv_X6_firstStrike X6_firstStrike_ok rfl rfl ⟨Nat.le_of_ble_eq_true rfl, Nat.le_of_ble_eq_true rfl⟩ (Nat.le_of_ble_eq_true rfl) ⟨rfl, rfl⟩ ⟨Nat.le_of_ble_eq_true rfl, Nat.le_of_ble_eq_true rfl⟩ H (fun v111 h110 H => ?_)
      refine go_bipush (pc := 51) (v := (-2)) dX3_isSafeBy_51 (by decide) ?_
      refine go_icmp_eq (pc := 53) (tgt := 58) dX3_isSafeBy_53 (by decide) H (fun H => ?_) (fun H => ?_)
      · refine go_iinc (pc := 58) (v := a4 + 1) (L' := [some (.ref a0), some (.ref a1), some (.int a2), some (.int a3), some (.int (a4 + 1)), some (.ref v104)]) dX3_isSafeBy_58 rfl rfl (Nat.le_of_ble_eq_true rfl) rfl ?_
        refine go_goto (pc := 61) (tgt := 3) dX3_isSafeBy_61 (by decide) ?_
        exact Go.weak (L' := [some (.ref a0), some (.ref a1), some (.int a2), some (.int a3), some (.int (a4 + 1)), none]) ⟨rfl, ⟨rfl, ⟨rfl, ⟨rfl, ⟨rfl, trivial⟩⟩⟩⟩⟩ (hrc3 a0 a1 a2 a3 (a4 + 1) h110 H)
      · refine go_iconst (pc := 56) (v := 0) dX3_isSafeBy_56 (by decide) ?_
        exact go_zret (pc := 57) dX3_isSafeBy_57 rfl ⟨Nat.le_of_ble_eq_true rfl, Nat.le_of_ble_eq_true rfl⟩ H

def X3_isSafeBy (a0 : Nat) (a1 : Nat) (a2 : Int32) (a3 : Int32) (h : Hp) : Option (Int32 × Hp) :=
  X3_isSafeBy_L3 5000 a0 a1 a2 a3 0 h
theorem X3_isSafeBy_ok {a0 : Nat} {a1 : Nat} {a2 : Int32} {a3 : Int32} {h h' : Hp} {r : Int32} (H : X3_isSafeBy a0 a1 a2 a3 h = some (r, h')) : Con M_X3_isSafeBy [.ref a0, .ref a1, .int a2, .int a3] h (some (.int r)) h' := by
  refine con_of_go (by decide) 2 (L := [some (.ref a0), some (.ref a1), some (.int a2), some (.int a3), none, none]) rfl (Nat.le_of_ble_eq_true rfl) ?_
  unfold X3_isSafeBy at H
  refine go_iconst (pc := 0) (v := 0) dX3_isSafeBy_0 (by decide) ?_
  refine go_istore (pc := 1) (L' := [some (.ref a0), some (.ref a1), some (.int a2), some (.int a3), some (.int 0), none]) dX3_isSafeBy_1 (Nat.le_of_ble_eq_true rfl) rfl ?_
  exact Go.weak (L' := [some (.ref a0), some (.ref a1), some (.int a2), some (.int a3), some (.int 0), none]) ⟨rfl, ⟨rfl, ⟨rfl, ⟨rfl, ⟨rfl, trivial⟩⟩⟩⟩⟩ (X3_isSafeBy_L3_ok 5000 a0 a1 a2 a3 0 h H)

def M_X3_firstMisfit : MD := (yX3_firstMisfit, cX3_firstMisfit, 5, (some .int), 4, 93, 0, 0)
theorem cv_X3_firstMisfit : CVo M_X3_firstMisfit 1 3 := ⟨⟨wd_1049, wd_119, ⟨by decide, by decide⟩, by decide +kernel⟩, wd_1047, wd_1048, _, rfl, rfl⟩
def X3_firstMisfit_L28_s (rc28 : Nat → Nat → Nat → Int32 → Hp → Option (Int32 × Hp)) (a0 : Nat) (a2 : Nat) (a3 : Nat) (a4 : Int32) (h : Hp) : Option (Int32 × Hp) :=
  (gI h a2 8 3).bind fun v101 =>
  if v101 ≤ a4 then (
    some ((-2), h))
  else (
    (gR h a0 3 0).bind fun v102 =>
    cV h a2 8 (X8_cell a2 a4 0 h) fun v104 h103 =>
    cVv h103 v102 6 (X6_sail v102 a3 0 v104 h103) fun h105 =>
    (gR h105 a0 3 0).bind fun v106 =>
    (gR h105 v106 6 0).bind fun v107 =>
    cV h105 v107 7 (X7_inSquare v107 h105) fun v109 h108 =>
    cV h108 a2 8 (X8_cell a2 a4 1 h108) fun v111 h110 =>
    if v109 = v111 then (
      rc28 a0 a2 a3 (a4 + 1) h110)
    else (
      some (a4, h110)))
def X3_firstMisfit_L28 (q : Nat) : Nat → Nat → Nat → Int32 → Hp → Option (Int32 × Hp) := loopN (fun _ _ _ _ _ => none) (X3_firstMisfit_L28_s) q
theorem X3_firstMisfit_L28_ok {hh h' : Hp} {r : Int32}  : ∀ (q : Nat) (a0 : Nat) (a2 : Nat) (a3 : Nat) (a4 : Int32) (h : Hp), X3_firstMisfit_L28 q a0 a2 a3 a4 h = some (r, h') → Go (PM M_X3_firstMisfit hh (some (.int r)) h') M_X3_firstMisfit 28 [some (.ref a0), none, some (.ref a2), some (.ref a3), some (.int a4)] [] h 0 0 := by
  intro q
  induction q with
  | zero => intro a0 a2 a3 a4 h H; cases H
  | succ q hrc28 =>
    intro a0 a2 a3 a4 h H
    replace H : X3_firstMisfit_L28_s (X3_firstMisfit_L28 q) a0 a2 a3 a4 h = some (r, h') := H
    unfold X3_firstMisfit_L28_s at H
    refine go_iload (pc := 28) dX3_firstMisfit_28 rfl ?_
    refine go_aload_n (pc := 30) dX3_firstMisfit_30 rfl rfl ?_
    refine go_getI (pc := 31) dX3_firstMisfit_31 fl_X3_35 H (fun v101 H => ?_)
    refine go_icmp_ge (pc := 34) (tgt := 82) dX3_firstMisfit_34 (by decide) H (fun H => ?_) (fun H => ?_)
    · refine go_bipush (pc := 82) (v := (-2)) dX3_firstMisfit_82 (by decide) ?_
      exact go_iret (pc := 84) dX3_firstMisfit_84 rfl ⟨Nat.le_of_ble_eq_true rfl, Nat.le_of_ble_eq_true rfl⟩ H
    · refine go_aload_n (pc := 37) dX3_firstMisfit_37 rfl rfl ?_
      refine go_getR (pc := 38) dX3_firstMisfit_38 fl_X3_20 H (fun v102 H => ?_)
      refine go_aload_n (pc := 41) dX3_firstMisfit_41 rfl rfl ?_
      refine go_iconst (pc := 42) (v := 0) dX3_firstMisfit_42 (by decide) ?_
      refine go_aload_n (pc := 43) dX3_firstMisfit_43 rfl rfl ?_
      refine go_iload (pc := 44) dX3_firstMisfit_44 rfl ?_
      refine go_iconst (pc := 46) (v := 0) dX3_firstMisfit_46 (by decide) ?_
      refine go_cVi (pc := 47) (Mz := M_X8_cell) (as := [.int a4, .int 0]) (a := a2) (st := [.int 0, .ref a3, .ref v102]) dX3_firstMisfit_47 wd_958 cv_X8_cell X8_cell_ok rfl rfl ⟨Nat.le_of_ble_eq_true rfl, Nat.le_of_ble_eq_true rfl⟩ (Nat.le_of_ble_eq_true rfl) ⟨rfl, rfl⟩ ⟨Nat.le_of_ble_eq_true rfl, Nat.le_of_ble_eq_true rfl⟩ H (fun v104 h103 H => ?_)
      refine go_cVv (pc := 50) (Mz := M_X6_sail) (as := [.ref a3, .int 0, .int v104]) (a := v102) (st := []) dX3_firstMisfit_50 wd_1055 cv_X6_sail X6_sail_ok rfl rfl ⟨Nat.le_of_ble_eq_true rfl, Nat.le_of_ble_eq_true rfl⟩ (Nat.le_of_ble_eq_true rfl) ⟨rfl, rfl⟩ ⟨Nat.le_of_ble_eq_true rfl, Nat.le_of_ble_eq_true rfl⟩ H (fun h105 H => ?_)
      refine go_aload_n (pc := 53) dX3_firstMisfit_53 rfl rfl ?_
      refine go_getR (pc := 54) dX3_firstMisfit_54 fl_X3_20 H (fun v106 H => ?_)
      refine go_getR (pc := 57) dX3_firstMisfit_57 fl_X3_114 H (fun v107 H => ?_)
      refine go_cVi (pc := 60) (Mz := M_X7_inSquare) (as := []) (a := v107) (st := []) dX3_firstMisfit_60 wd_961 cv_X7_inSquare X7_inSquare_ok rfl rfl ⟨Nat.le_of_ble_eq_true rfl, Nat.le_of_ble_eq_true rfl⟩ (Nat.le_of_ble_eq_true rfl) ⟨rfl, rfl⟩ ⟨Nat.le_of_ble_eq_true rfl, Nat.le_of_ble_eq_true rfl⟩ H (fun v109 h108 H => ?_)
      refine go_aload_n (pc := 63) dX3_firstMisfit_63 rfl rfl ?_
      refine go_iload (pc := 64) dX3_firstMisfit_64 rfl ?_
      refine go_iconst (pc := 66) (v := 1) dX3_firstMisfit_66 (by decide) ?_
      refine go_cVi (pc := 67) (Mz := M_X8_cell) (as := [.int a4, .int 1]) (a := a2) (st := [.int v109]) dX3_firstMisfit_67 wd_958 cv_X8_cell X8_cell_ok rfl rfl ⟨Nat.le_of_ble_eq_true rfl, Nat.le_of_ble_eq_true rfl⟩ (Nat.le_of_ble_eq_true rfl) ⟨rfl, rfl⟩ ⟨Nat.le_of_ble_eq_true rfl, Nat.le_of_ble_eq_true rfl⟩ H (fun v111 h110 H => ?_)
      refine go_icmp_eq (pc := 70) (tgt := 76) dX3_firstMisfit_70 (by decide) H (fun H => ?_) (fun H => ?_)
      · refine go_iinc (pc := 76) (v := a4 + 1) (L' := [some (.ref a0), none, some (.ref a2), some (.ref a3), some (.int (a4 + 1))]) dX3_firstMisfit_76 rfl rfl (Nat.le_of_ble_eq_true rfl) rfl ?_
        refine go_goto (pc := 79) (tgt := 28) dX3_firstMisfit_79 (by decide) ?_
        exact Go.weak (L' := [some (.ref a0), none, some (.ref a2), some (.ref a3), some (.int (a4 + 1))]) ⟨rfl, ⟨rfl, ⟨rfl, ⟨rfl, trivial⟩⟩⟩⟩ (hrc28 a0 a2 a3 (a4 + 1) h110 H)
      · refine go_iload (pc := 73) dX3_firstMisfit_73 rfl ?_
        exact go_iret (pc := 75) dX3_firstMisfit_75 rfl ⟨Nat.le_of_ble_eq_true rfl, Nat.le_of_ble_eq_true rfl⟩ H

def X3_firstMisfit (a0 : Nat) (a1 : Int32) (h : Hp) : Option (Int32 × Hp) :=
  (gR h a0 3 0).bind fun v1 =>
  (gR h v1 6 3).bind fun v2 =>
  (gR h v2 9 6).bind fun v3 =>
  cV h a0 3 (X3_asTold a0 a1 h) fun v5 h4 =>
  (gR h4 a0 3 0).bind fun v6 =>
  cVv h4 v6 6 (X6_reckon v6 v5 h4) fun h7 =>
  X3_firstMisfit_L28 5000 a0 v3 v5 0 h7
theorem X3_firstMisfit_ok {a0 : Nat} {a1 : Int32} {h h' : Hp} {r : Int32} (H : X3_firstMisfit a0 a1 h = some (r, h')) : Con M_X3_firstMisfit [.ref a0, .int a1] h (some (.int r)) h' := by
  refine con_of_go (by decide) 3 (L := [some (.ref a0), some (.int a1), none, none, none]) rfl (Nat.le_of_ble_eq_true rfl) ?_
  unfold X3_firstMisfit at H
  refine go_aload_n (pc := 0) dX3_firstMisfit_0 rfl rfl ?_
  refine go_getR (pc := 1) dX3_firstMisfit_1 fl_X3_20 H (fun v1 H => ?_)
  refine go_getR (pc := 4) dX3_firstMisfit_4 fl_X3_24 H (fun v2 H => ?_)
  refine go_getR (pc := 7) dX3_firstMisfit_7 fl_X3_103 H (fun v3 H => ?_)
  refine go_astore_n (pc := 10) (L' := [some (.ref a0), some (.int a1), some (.ref v3), none, none]) dX3_firstMisfit_10 rfl (Nat.le_of_ble_eq_true rfl) rfl ?_
  refine go_aload_n (pc := 11) dX3_firstMisfit_11 rfl rfl ?_
  refine go_iload_n (pc := 12) dX3_firstMisfit_12 rfl rfl ?_
  refine go_cVr (pc := 13) (Mz := M_X3_asTold) (as := [.int a1]) (a := a0) (st := []) dX3_firstMisfit_13 wd_1050 cv_X3_asTold X3_asTold_ok rfl rfl ⟨Nat.le_of_ble_eq_true rfl, Nat.le_of_ble_eq_true rfl⟩ (Nat.le_of_ble_eq_true rfl) ⟨rfl, rfl⟩ ⟨Nat.le_of_ble_eq_true rfl, Nat.le_of_ble_eq_true rfl⟩ H (fun v5 h4 H => ?_)
  refine go_astore_n (pc := 16) (L' := [some (.ref a0), some (.int a1), some (.ref v3), some (.ref v5), none]) dX3_firstMisfit_16 rfl (Nat.le_of_ble_eq_true rfl) rfl ?_
  refine go_aload_n (pc := 17) dX3_firstMisfit_17 rfl rfl ?_
  refine go_getR (pc := 18) dX3_firstMisfit_18 fl_X3_20 H (fun v6 H => ?_)
  refine go_aload_n (pc := 21) dX3_firstMisfit_21 rfl rfl ?_
  refine go_cVv (pc := 22) (Mz := M_X6_reckon) (as := [.ref v5]) (a := v6) (st := []) dX3_firstMisfit_22 wd_972 cv_X6_reckon X6_reckon_ok rfl rfl ⟨Nat.le_of_ble_eq_true rfl, Nat.le_of_ble_eq_true rfl⟩ (Nat.le_of_ble_eq_true rfl) ⟨rfl, rfl⟩ ⟨Nat.le_of_ble_eq_true rfl, Nat.le_of_ble_eq_true rfl⟩ H (fun h7 H => ?_)
  refine go_iconst (pc := 25) (v := 0) dX3_firstMisfit_25 (by decide) ?_
  refine go_istore (pc := 26) (L' := [some (.ref a0), some (.int a1), some (.ref v3), some (.ref v5), some (.int 0)]) dX3_firstMisfit_26 (Nat.le_of_ble_eq_true rfl) rfl ?_
  exact Go.weak (L' := [some (.ref a0), none, some (.ref v3), some (.ref v5), some (.int 0)]) ⟨rfl, ⟨rfl, ⟨rfl, ⟨rfl, trivial⟩⟩⟩⟩ (X3_firstMisfit_L28_ok 5000 a0 v3 v5 0 h7 H)

def M_X3_fittingSets : MD := (yX3_fittingSets, cX3_fittingSets, 3, (some .int), 5, 117, 0, 0)
theorem cv_X3_fittingSets : CVo M_X3_fittingSets 0 3 := ⟨⟨wd_1045, wd_119, ⟨by decide, by decide⟩, by decide +kernel⟩, wd_1043, wd_1044, _, rfl, rfl⟩
def X3_fittingSets_B28 (rc4 : Nat → Int32 → Int32 → Hp → Option (Int32 × Hp)) (a0 : Nat) (a1 : Int32) (a2 : Int32) (h : Hp) : Option (Int32 × Hp) :=
  rc4 a0 a1 (a2 + 1) h
theorem X3_fittingSets_B28_ok {hh h' : Hp} {r : Int32}  (rc4 : Nat → Int32 → Int32 → Hp → Option (Int32 × Hp)) (hrc4 : ∀ (a0 : Nat) (a1 : Int32) (a2 : Int32) (h : Hp), rc4 a0 a1 a2 h = some (r, h') → Go (PM M_X3_fittingSets hh (some (.int r)) h') M_X3_fittingSets 4 [some (.ref a0), some (.int a1), some (.int a2)] [] h 0 0) (a0 : Nat) (a1 : Int32) (a2 : Int32) (h : Hp) (H : X3_fittingSets_B28 rc4 a0 a1 a2 h = some (r, h')) : Go (PM M_X3_fittingSets hh (some (.int r)) h') M_X3_fittingSets 28 [some (.ref a0), some (.int a1), some (.int a2)] [] h 0 0 := by
  unfold X3_fittingSets_B28 at H
  refine go_iinc (pc := 28) (v := a2 + 1) (L' := [some (.ref a0), some (.int a1), some (.int (a2 + 1))]) dX3_fittingSets_28 rfl rfl (Nat.le_of_ble_eq_true rfl) rfl ?_
  refine go_goto (pc := 31) (tgt := 4) dX3_fittingSets_31 (by decide) ?_
  exact Go.weak (L' := [some (.ref a0), some (.int a1), some (.int (a2 + 1))]) ⟨rfl, ⟨rfl, ⟨rfl, trivial⟩⟩⟩ (hrc4 a0 a1 (a2 + 1) h H)

def X3_fittingSets_L4_s (rc4 : Nat → Int32 → Int32 → Hp → Option (Int32 × Hp)) (a0 : Nat) (a1 : Int32) (a2 : Int32) (h : Hp) : Option (Int32 × Hp) :=
  cV h a0 3 (X3_sets a0 h) fun v102 h101 =>
  if v102 ≤ a2 then (
    some (a1, h101))
  else (
    cV h101 a0 3 (X3_firstMisfit a0 a2 h101) fun v104 h103 =>
    if v104 = (-2) then (
      pin (a1 ||| ((1 : Int32) <<< (a2 &&& 31))) fun v105 =>
      X3_fittingSets_B28 rc4 a0 v105 a2 h103)
    else (
      X3_fittingSets_B28 rc4 a0 a1 a2 h103))
def X3_fittingSets_L4 (q : Nat) : Nat → Int32 → Int32 → Hp → Option (Int32 × Hp) := loopN (fun _ _ _ _ => none) (X3_fittingSets_L4_s) q
theorem X3_fittingSets_L4_ok {hh h' : Hp} {r : Int32}  : ∀ (q : Nat) (a0 : Nat) (a1 : Int32) (a2 : Int32) (h : Hp), X3_fittingSets_L4 q a0 a1 a2 h = some (r, h') → Go (PM M_X3_fittingSets hh (some (.int r)) h') M_X3_fittingSets 4 [some (.ref a0), some (.int a1), some (.int a2)] [] h 0 0 := by
  intro q
  induction q with
  | zero => intro a0 a1 a2 h H; cases H
  | succ q hrc4 =>
    intro a0 a1 a2 h H
    replace H : X3_fittingSets_L4_s (X3_fittingSets_L4 q) a0 a1 a2 h = some (r, h') := H
    unfold X3_fittingSets_L4_s at H
    refine go_iload_n (pc := 4) dX3_fittingSets_4 rfl rfl ?_
    refine go_aload_n (pc := 5) dX3_fittingSets_5 rfl rfl ?_
    refine go_cVi (pc := 6) (Mz := M_X3_sets) (as := []) (a := a0) (st := [.int a2]) dX3_fittingSets_6 wd_934 cv_X3_sets X3_sets_ok rfl rfl ⟨Nat.le_of_ble_eq_true rfl, Nat.le_of_ble_eq_true rfl⟩ (Nat.le_of_ble_eq_true rfl) ⟨rfl, rfl⟩ ⟨Nat.le_of_ble_eq_true rfl, Nat.le_of_ble_eq_true rfl⟩ H (fun v102 h101 H => ?_)
    refine go_icmp_ge (pc := 9) (tgt := 34) dX3_fittingSets_9 (by decide) H (fun H => ?_) (fun H => ?_)
    · refine go_iload_n (pc := 34) dX3_fittingSets_34 rfl rfl ?_
      exact go_iret (pc := 35) dX3_fittingSets_35 rfl ⟨Nat.le_of_ble_eq_true rfl, Nat.le_of_ble_eq_true rfl⟩ H
    · refine go_aload_n (pc := 12) dX3_fittingSets_12 rfl rfl ?_
      refine go_iload_n (pc := 13) dX3_fittingSets_13 rfl rfl ?_
      refine go_cVi (pc := 14) (Mz := M_X3_firstMisfit) (as := [.int a2]) (a := a0) (st := []) dX3_fittingSets_14 wd_1046 cv_X3_firstMisfit X3_firstMisfit_ok rfl rfl ⟨Nat.le_of_ble_eq_true rfl, Nat.le_of_ble_eq_true rfl⟩ (Nat.le_of_ble_eq_true rfl) ⟨rfl, rfl⟩ ⟨Nat.le_of_ble_eq_true rfl, Nat.le_of_ble_eq_true rfl⟩ H (fun v104 h103 H => ?_)
      refine go_bipush (pc := 17) (v := (-2)) dX3_fittingSets_17 (by decide) ?_
      refine go_icmp_ne (pc := 19) (tgt := 28) dX3_fittingSets_19 (by decide) H (fun H => ?_) (fun H => ?_)
      · exact Go.weak (L' := [some (.ref a0), some (.int a1), some (.int a2)]) ⟨rfl, ⟨rfl, ⟨rfl, trivial⟩⟩⟩ (X3_fittingSets_B28_ok _ hrc4 a0 a1 a2 h103 H)
      · refine go_iload_n (pc := 22) dX3_fittingSets_22 rfl rfl ?_
        refine go_iconst (pc := 23) (v := 1) dX3_fittingSets_23 (by decide) ?_
        refine go_iload_n (pc := 24) dX3_fittingSets_24 rfl rfl ?_
        refine go_ishl (pc := 25) dX3_fittingSets_25 ?_
        refine go_ior (pc := 26) dX3_fittingSets_26 ?_
        refine go_pin H (fun v105 H => ?_)
        refine go_istore_n (pc := 27) (L' := [some (.ref a0), some (.int v105), some (.int a2)]) dX3_fittingSets_27 rfl (Nat.le_of_ble_eq_true rfl) rfl ?_
        exact Go.weak (L' := [some (.ref a0), some (.int v105), some (.int a2)]) ⟨rfl, ⟨rfl, ⟨rfl, trivial⟩⟩⟩ (X3_fittingSets_B28_ok _ hrc4 a0 v105 a2 h103 H)

def X3_fittingSets (a0 : Nat) (h : Hp) : Option (Int32 × Hp) :=
  X3_fittingSets_L4 5000 a0 0 0 h
theorem X3_fittingSets_ok {a0 : Nat} {h h' : Hp} {r : Int32} (H : X3_fittingSets a0 h = some (r, h')) : Con M_X3_fittingSets [.ref a0] h (some (.int r)) h' := by
  refine con_of_go (by decide) 2 (L := [some (.ref a0), none, none]) rfl (Nat.le_of_ble_eq_true rfl) ?_
  unfold X3_fittingSets at H
  refine go_iconst (pc := 0) (v := 0) dX3_fittingSets_0 (by decide) ?_
  refine go_istore_n (pc := 1) (L' := [some (.ref a0), some (.int 0), none]) dX3_fittingSets_1 rfl (Nat.le_of_ble_eq_true rfl) rfl ?_
  refine go_iconst (pc := 2) (v := 0) dX3_fittingSets_2 (by decide) ?_
  refine go_istore_n (pc := 3) (L' := [some (.ref a0), some (.int 0), some (.int 0)]) dX3_fittingSets_3 rfl (Nat.le_of_ble_eq_true rfl) rfl ?_
  exact Go.weak (L' := [some (.ref a0), some (.int 0), some (.int 0)]) ⟨rfl, ⟨rfl, ⟨rfl, trivial⟩⟩⟩ (X3_fittingSets_L4_ok 5000 a0 0 0 h H)

def M_X3_fitOf : MD := (yX3_fitOf, cX3_fitOf, 5, (some .int), 1, 20, 0, 0)
theorem cv_X3_fitOf : CVo M_X3_fitOf 2 3 := ⟨⟨wd_1064, wd_119, ⟨by decide, by decide⟩, by decide +kernel⟩, wd_1062, wd_1063, _, rfl, rfl⟩
def X3_fitOf_B37 (rc5 : Nat → Int32 → Int32 → Int32 → Hp → Option (Int32 × Hp)) (a0 : Nat) (a1 : Int32) (a3 : Int32) (a4 : Int32) (h : Hp) : Option (Int32 × Hp) :=
  rc5 a0 a1 a3 (a4 + 1) h
theorem X3_fitOf_B37_ok {hh h' : Hp} {r : Int32}  (rc5 : Nat → Int32 → Int32 → Int32 → Hp → Option (Int32 × Hp)) (hrc5 : ∀ (a0 : Nat) (a1 : Int32) (a3 : Int32) (a4 : Int32) (h : Hp), rc5 a0 a1 a3 a4 h = some (r, h') → Go (PM M_X3_fitOf hh (some (.int r)) h') M_X3_fitOf 5 [some (.ref a0), some (.int a1), none, some (.int a3), some (.int a4)] [] h 0 0) (a0 : Nat) (a1 : Int32) (a3 : Int32) (a4 : Int32) (h : Hp) (H : X3_fitOf_B37 rc5 a0 a1 a3 a4 h = some (r, h')) : Go (PM M_X3_fitOf hh (some (.int r)) h') M_X3_fitOf 37 [some (.ref a0), some (.int a1), none, some (.int a3), some (.int a4)] [] h 0 0 := by
  unfold X3_fitOf_B37 at H
  refine go_iinc (pc := 37) (v := a4 + 1) (L' := [some (.ref a0), some (.int a1), none, some (.int a3), some (.int (a4 + 1))]) dX3_fitOf_37 rfl rfl (Nat.le_of_ble_eq_true rfl) rfl ?_
  refine go_goto (pc := 40) (tgt := 5) dX3_fitOf_40 (by decide) ?_
  exact Go.weak (L' := [some (.ref a0), some (.int a1), none, some (.int a3), some (.int (a4 + 1))]) ⟨rfl, ⟨rfl, ⟨rfl, ⟨rfl, trivial⟩⟩⟩⟩ (hrc5 a0 a1 a3 (a4 + 1) h H)

def X3_fitOf_L5_s (rc5 : Nat → Int32 → Int32 → Int32 → Hp → Option (Int32 × Hp)) (a0 : Nat) (a1 : Int32) (a3 : Int32) (a4 : Int32) (h : Hp) : Option (Int32 × Hp) :=
  cV h a0 3 (X3_sets a0 h) fun v102 h101 =>
  if v102 ≤ a4 then (
    some ((-1), h101))
  else (
    if a3 < 0 then (
      some ((-1), h101))
    else (
      if ((a1 >>> (a4 &&& 31)) &&& 1) = 0 then (
        X3_fitOf_B37 rc5 a0 a1 a3 a4 h101)
      else (
        if a3 = 0 then (
          some (a4, h101))
        else (
          X3_fitOf_B37 rc5 a0 a1 (a3 + (-1)) a4 h101))))
def X3_fitOf_L5 (q : Nat) : Nat → Int32 → Int32 → Int32 → Hp → Option (Int32 × Hp) := loopN (fun _ _ _ _ _ => none) (X3_fitOf_L5_s) q
theorem X3_fitOf_L5_ok {hh h' : Hp} {r : Int32}  : ∀ (q : Nat) (a0 : Nat) (a1 : Int32) (a3 : Int32) (a4 : Int32) (h : Hp), X3_fitOf_L5 q a0 a1 a3 a4 h = some (r, h') → Go (PM M_X3_fitOf hh (some (.int r)) h') M_X3_fitOf 5 [some (.ref a0), some (.int a1), none, some (.int a3), some (.int a4)] [] h 0 0 := by
  intro q
  induction q with
  | zero => intro a0 a1 a3 a4 h H; cases H
  | succ q hrc5 =>
    intro a0 a1 a3 a4 h H
    replace H : X3_fitOf_L5_s (X3_fitOf_L5 q) a0 a1 a3 a4 h = some (r, h') := H
    unfold X3_fitOf_L5_s at H
    refine go_iload (pc := 5) dX3_fitOf_5 rfl ?_
    refine go_aload_n (pc := 7) dX3_fitOf_7 rfl rfl ?_
    refine go_cVi (pc := 8) (Mz := M_X3_sets) (as := []) (a := a0) (st := [.int a4]) dX3_fitOf_8 wd_934 cv_X3_sets X3_sets_ok rfl rfl ⟨Nat.le_of_ble_eq_true rfl, Nat.le_of_ble_eq_true rfl⟩ (Nat.le_of_ble_eq_true rfl) ⟨rfl, rfl⟩ ⟨Nat.le_of_ble_eq_true rfl, Nat.le_of_ble_eq_true rfl⟩ H (fun v102 h101 H => ?_)
    refine go_icmp_ge (pc := 11) (tgt := 43) dX3_fitOf_11 (by decide) H (fun H => ?_) (fun H => ?_)
    · refine go_iconst (pc := 43) (v := (-1)) dX3_fitOf_43 (by decide) ?_
      exact go_iret (pc := 44) dX3_fitOf_44 rfl ⟨Nat.le_of_ble_eq_true rfl, Nat.le_of_ble_eq_true rfl⟩ H
    · refine go_iload_n (pc := 14) dX3_fitOf_14 rfl rfl ?_
      refine go_if_lt (pc := 15) (tgt := 43) dX3_fitOf_15 (by decide) H (fun H => ?_) (fun H => ?_)
      · refine go_iconst (pc := 43) (v := (-1)) dX3_fitOf_43 (by decide) ?_
        exact go_iret (pc := 44) dX3_fitOf_44 rfl ⟨Nat.le_of_ble_eq_true rfl, Nat.le_of_ble_eq_true rfl⟩ H
      · refine go_iload_n (pc := 18) dX3_fitOf_18 rfl rfl ?_
        refine go_iload (pc := 19) dX3_fitOf_19 rfl ?_
        refine go_ishr (pc := 21) dX3_fitOf_21 ?_
        refine go_iconst (pc := 22) (v := 1) dX3_fitOf_22 (by decide) ?_
        refine go_iand (pc := 23) dX3_fitOf_23 ?_
        refine go_if_eq (pc := 24) (tgt := 37) dX3_fitOf_24 (by decide) H (fun H => ?_) (fun H => ?_)
        · exact Go.weak (L' := [some (.ref a0), some (.int a1), none, some (.int a3), some (.int a4)]) ⟨rfl, ⟨rfl, ⟨rfl, ⟨rfl, trivial⟩⟩⟩⟩ (X3_fitOf_B37_ok _ hrc5 a0 a1 a3 a4 h101 H)
        · refine go_iload_n (pc := 27) dX3_fitOf_27 rfl rfl ?_
          refine go_if_ne (pc := 28) (tgt := 34) dX3_fitOf_28 (by decide) H (fun H => ?_) (fun H => ?_)
          · refine go_iinc (pc := 34) (v := a3 + (-1)) (L' := [some (.ref a0), some (.int a1), none, some (.int (a3 + (-1))), some (.int a4)]) dX3_fitOf_34 rfl rfl (Nat.le_of_ble_eq_true rfl) rfl ?_
            exact Go.weak (L' := [some (.ref a0), some (.int a1), none, some (.int (a3 + (-1))), some (.int a4)]) ⟨rfl, ⟨rfl, ⟨rfl, ⟨rfl, trivial⟩⟩⟩⟩ (X3_fitOf_B37_ok _ hrc5 a0 a1 (a3 + (-1)) a4 h101 H)
          · refine go_iload (pc := 31) dX3_fitOf_31 rfl ?_
            exact go_iret (pc := 33) dX3_fitOf_33 rfl ⟨Nat.le_of_ble_eq_true rfl, Nat.le_of_ble_eq_true rfl⟩ H

def X3_fitOf (a0 : Nat) (a1 : Int32) (a2 : Int32) (h : Hp) : Option (Int32 × Hp) :=
  X3_fitOf_L5 5000 a0 a1 a2 0 h
theorem X3_fitOf_ok {a0 : Nat} {a1 : Int32} {a2 : Int32} {h h' : Hp} {r : Int32} (H : X3_fitOf a0 a1 a2 h = some (r, h')) : Con M_X3_fitOf [.ref a0, .int a1, .int a2] h (some (.int r)) h' := by
  refine con_of_go (by decide) 2 (L := [some (.ref a0), some (.int a1), some (.int a2), none, none]) rfl (Nat.le_of_ble_eq_true rfl) ?_
  unfold X3_fitOf at H
  refine go_iload_n (pc := 0) dX3_fitOf_0 rfl rfl ?_
  refine go_istore_n (pc := 1) (L' := [some (.ref a0), some (.int a1), some (.int a2), some (.int a2), none]) dX3_fitOf_1 rfl (Nat.le_of_ble_eq_true rfl) rfl ?_
  refine go_iconst (pc := 2) (v := 0) dX3_fitOf_2 (by decide) ?_
  refine go_istore (pc := 3) (L' := [some (.ref a0), some (.int a1), some (.int a2), some (.int a2), some (.int 0)]) dX3_fitOf_3 (Nat.le_of_ble_eq_true rfl) rfl ?_
  exact Go.weak (L' := [some (.ref a0), some (.int a1), none, some (.int a2), some (.int 0)]) ⟨rfl, ⟨rfl, ⟨rfl, ⟨rfl, trivial⟩⟩⟩⟩ (X3_fitOf_L5_ok 5000 a0 a1 a2 0 h H)

def M_X3_boysInSome : MD := (yX3_boysInSome, cX3_boysInSome, 4, (some .int), 1, 20, 0, 0)
theorem cv_X3_boysInSome : CVo M_X3_boysInSome 1 3 := ⟨⟨wd_1072, wd_119, ⟨by decide, by decide⟩, by decide +kernel⟩, wd_1070, wd_1071, _, rfl, rfl⟩
def X3_boysInSome_B24 (rc4 : Nat → Int32 → Int32 → Int32 → Hp → Option (Int32 × Hp)) (a0 : Nat) (a1 : Int32) (a2 : Int32) (a3 : Int32) (h : Hp) : Option (Int32 × Hp) :=
  rc4 a0 a1 a2 (a3 + 1) h
theorem X3_boysInSome_B24_ok {hh h' : Hp} {r : Int32}  (rc4 : Nat → Int32 → Int32 → Int32 → Hp → Option (Int32 × Hp)) (hrc4 : ∀ (a0 : Nat) (a1 : Int32) (a2 : Int32) (a3 : Int32) (h : Hp), rc4 a0 a1 a2 a3 h = some (r, h') → Go (PM M_X3_boysInSome hh (some (.int r)) h') M_X3_boysInSome 4 [some (.ref a0), some (.int a1), some (.int a2), some (.int a3)] [] h 0 0) (a0 : Nat) (a1 : Int32) (a2 : Int32) (a3 : Int32) (h : Hp) (H : X3_boysInSome_B24 rc4 a0 a1 a2 a3 h = some (r, h')) : Go (PM M_X3_boysInSome hh (some (.int r)) h') M_X3_boysInSome 24 [some (.ref a0), some (.int a1), some (.int a2), some (.int a3)] [] h 0 0 := by
  unfold X3_boysInSome_B24 at H
  refine go_iinc (pc := 24) (v := a3 + 1) (L' := [some (.ref a0), some (.int a1), some (.int a2), some (.int (a3 + 1))]) dX3_boysInSome_24 rfl rfl (Nat.le_of_ble_eq_true rfl) rfl ?_
  refine go_goto (pc := 27) (tgt := 4) dX3_boysInSome_27 (by decide) ?_
  exact Go.weak (L' := [some (.ref a0), some (.int a1), some (.int a2), some (.int (a3 + 1))]) ⟨rfl, ⟨rfl, ⟨rfl, ⟨rfl, trivial⟩⟩⟩⟩ (hrc4 a0 a1 a2 (a3 + 1) h H)

def X3_boysInSome_L4_s (rc4 : Nat → Int32 → Int32 → Int32 → Hp → Option (Int32 × Hp)) (a0 : Nat) (a1 : Int32) (a2 : Int32) (a3 : Int32) (h : Hp) : Option (Int32 × Hp) :=
  cV h a0 3 (X3_sets a0 h) fun v102 h101 =>
  if v102 ≤ a3 then (
    some (a2, h101))
  else (
    if ((a1 >>> (a3 &&& 31)) &&& 1) = 0 then (
      X3_boysInSome_B24 rc4 a0 a1 a2 a3 h101)
    else (
      pin (a2 ||| a3) fun v103 =>
      X3_boysInSome_B24 rc4 a0 a1 v103 a3 h101))
def X3_boysInSome_L4 (q : Nat) : Nat → Int32 → Int32 → Int32 → Hp → Option (Int32 × Hp) := loopN (fun _ _ _ _ _ => none) (X3_boysInSome_L4_s) q
theorem X3_boysInSome_L4_ok {hh h' : Hp} {r : Int32}  : ∀ (q : Nat) (a0 : Nat) (a1 : Int32) (a2 : Int32) (a3 : Int32) (h : Hp), X3_boysInSome_L4 q a0 a1 a2 a3 h = some (r, h') → Go (PM M_X3_boysInSome hh (some (.int r)) h') M_X3_boysInSome 4 [some (.ref a0), some (.int a1), some (.int a2), some (.int a3)] [] h 0 0 := by
  intro q
  induction q with
  | zero => intro a0 a1 a2 a3 h H; cases H
  | succ q hrc4 =>
    intro a0 a1 a2 a3 h H
    replace H : X3_boysInSome_L4_s (X3_boysInSome_L4 q) a0 a1 a2 a3 h = some (r, h') := H
    unfold X3_boysInSome_L4_s at H
    refine go_iload_n (pc := 4) dX3_boysInSome_4 rfl rfl ?_
    refine go_aload_n (pc := 5) dX3_boysInSome_5 rfl rfl ?_
    refine go_cVi (pc := 6) (Mz := M_X3_sets) (as := []) (a := a0) (st := [.int a3]) dX3_boysInSome_6 wd_934 cv_X3_sets X3_sets_ok rfl rfl ⟨Nat.le_of_ble_eq_true rfl, Nat.le_of_ble_eq_true rfl⟩ (Nat.le_of_ble_eq_true rfl) ⟨rfl, rfl⟩ ⟨Nat.le_of_ble_eq_true rfl, Nat.le_of_ble_eq_true rfl⟩ H (fun v102 h101 H => ?_)
    refine go_icmp_ge (pc := 9) (tgt := 30) dX3_boysInSome_9 (by decide) H (fun H => ?_) (fun H => ?_)
    · refine go_iload_n (pc := 30) dX3_boysInSome_30 rfl rfl ?_
      exact go_iret (pc := 31) dX3_boysInSome_31 rfl ⟨Nat.le_of_ble_eq_true rfl, Nat.le_of_ble_eq_true rfl⟩ H
    · refine go_iload_n (pc := 12) dX3_boysInSome_12 rfl rfl ?_
      refine go_iload_n (pc := 13) dX3_boysInSome_13 rfl rfl ?_
      refine go_ishr (pc := 14) dX3_boysInSome_14 ?_
      refine go_iconst (pc := 15) (v := 1) dX3_boysInSome_15 (by decide) ?_
      refine go_iand (pc := 16) dX3_boysInSome_16 ?_
      refine go_if_eq (pc := 17) (tgt := 24) dX3_boysInSome_17 (by decide) H (fun H => ?_) (fun H => ?_)
      · exact Go.weak (L' := [some (.ref a0), some (.int a1), some (.int a2), some (.int a3)]) ⟨rfl, ⟨rfl, ⟨rfl, ⟨rfl, trivial⟩⟩⟩⟩ (X3_boysInSome_B24_ok _ hrc4 a0 a1 a2 a3 h101 H)
      · refine go_iload_n (pc := 20) dX3_boysInSome_20 rfl rfl ?_
        refine go_iload_n (pc := 21) dX3_boysInSome_21 rfl rfl ?_
        refine go_ior (pc := 22) dX3_boysInSome_22 ?_
        refine go_pin H (fun v103 H => ?_)
        refine go_istore_n (pc := 23) (L' := [some (.ref a0), some (.int a1), some (.int v103), some (.int a3)]) dX3_boysInSome_23 rfl (Nat.le_of_ble_eq_true rfl) rfl ?_
        exact Go.weak (L' := [some (.ref a0), some (.int a1), some (.int v103), some (.int a3)]) ⟨rfl, ⟨rfl, ⟨rfl, ⟨rfl, trivial⟩⟩⟩⟩ (X3_boysInSome_B24_ok _ hrc4 a0 a1 v103 a3 h101 H)

def X3_boysInSome (a0 : Nat) (a1 : Int32) (h : Hp) : Option (Int32 × Hp) :=
  X3_boysInSome_L4 5000 a0 a1 0 0 h
theorem X3_boysInSome_ok {a0 : Nat} {a1 : Int32} {h h' : Hp} {r : Int32} (H : X3_boysInSome a0 a1 h = some (r, h')) : Con M_X3_boysInSome [.ref a0, .int a1] h (some (.int r)) h' := by
  refine con_of_go (by decide) 2 (L := [some (.ref a0), some (.int a1), none, none]) rfl (Nat.le_of_ble_eq_true rfl) ?_
  unfold X3_boysInSome at H
  refine go_iconst (pc := 0) (v := 0) dX3_boysInSome_0 (by decide) ?_
  refine go_istore_n (pc := 1) (L' := [some (.ref a0), some (.int a1), some (.int 0), none]) dX3_boysInSome_1 rfl (Nat.le_of_ble_eq_true rfl) rfl ?_
  refine go_iconst (pc := 2) (v := 0) dX3_boysInSome_2 (by decide) ?_
  refine go_istore_n (pc := 3) (L' := [some (.ref a0), some (.int a1), some (.int 0), some (.int 0)]) dX3_boysInSome_3 rfl (Nat.le_of_ble_eq_true rfl) rfl ?_
  exact Go.weak (L' := [some (.ref a0), some (.int a1), some (.int 0), some (.int 0)]) ⟨rfl, ⟨rfl, ⟨rfl, ⟨rfl, trivial⟩⟩⟩⟩ (X3_boysInSome_L4_ok 5000 a0 a1 0 0 h H)

def M_X3_boysInAll : MD := (yX3_boysInAll, cX3_boysInAll, 4, (some .int), 1, 20, 0, 0)
theorem cv_X3_boysInAll : CVo M_X3_boysInAll 1 3 := ⟨⟨wd_1080, wd_119, ⟨by decide, by decide⟩, by decide +kernel⟩, wd_1078, wd_1079, _, rfl, rfl⟩
def X3_boysInAll_B37 (rc17 : Nat → Int32 → Int32 → Int32 → Hp → Option (Int32 × Hp)) (a0 : Nat) (a1 : Int32) (a2 : Int32) (a3 : Int32) (h : Hp) : Option (Int32 × Hp) :=
  rc17 a0 a1 a2 (a3 + 1) h
theorem X3_boysInAll_B37_ok {hh h' : Hp} {r : Int32}  (rc17 : Nat → Int32 → Int32 → Int32 → Hp → Option (Int32 × Hp)) (hrc17 : ∀ (a0 : Nat) (a1 : Int32) (a2 : Int32) (a3 : Int32) (h : Hp), rc17 a0 a1 a2 a3 h = some (r, h') → Go (PM M_X3_boysInAll hh (some (.int r)) h') M_X3_boysInAll 17 [some (.ref a0), some (.int a1), some (.int a2), some (.int a3)] [] h 0 0) (a0 : Nat) (a1 : Int32) (a2 : Int32) (a3 : Int32) (h : Hp) (H : X3_boysInAll_B37 rc17 a0 a1 a2 a3 h = some (r, h')) : Go (PM M_X3_boysInAll hh (some (.int r)) h') M_X3_boysInAll 37 [some (.ref a0), some (.int a1), some (.int a2), some (.int a3)] [] h 0 0 := by
  unfold X3_boysInAll_B37 at H
  refine go_iinc (pc := 37) (v := a3 + 1) (L' := [some (.ref a0), some (.int a1), some (.int a2), some (.int (a3 + 1))]) dX3_boysInAll_37 rfl rfl (Nat.le_of_ble_eq_true rfl) rfl ?_
  refine go_goto (pc := 40) (tgt := 17) dX3_boysInAll_40 (by decide) ?_
  exact Go.weak (L' := [some (.ref a0), some (.int a1), some (.int a2), some (.int (a3 + 1))]) ⟨rfl, ⟨rfl, ⟨rfl, ⟨rfl, trivial⟩⟩⟩⟩ (hrc17 a0 a1 a2 (a3 + 1) h H)

def X3_boysInAll_L17_s (rc17 : Nat → Int32 → Int32 → Int32 → Hp → Option (Int32 × Hp)) (a0 : Nat) (a1 : Int32) (a2 : Int32) (a3 : Int32) (h : Hp) : Option (Int32 × Hp) :=
  cV h a0 3 (X3_sets a0 h) fun v202 h201 =>
  if v202 ≤ a3 then (
    some (a2, h201))
  else (
    if ((a1 >>> (a3 &&& 31)) &&& 1) = 0 then (
      X3_boysInAll_B37 rc17 a0 a1 a2 a3 h201)
    else (
      pin (a2 &&& a3) fun v203 =>
      X3_boysInAll_B37 rc17 a0 a1 v203 a3 h201))
def X3_boysInAll_L17 (q : Nat) : Nat → Int32 → Int32 → Int32 → Hp → Option (Int32 × Hp) := loopN (fun _ _ _ _ _ => none) (X3_boysInAll_L17_s) q
theorem X3_boysInAll_L17_ok {hh h' : Hp} {r : Int32}  : ∀ (q : Nat) (a0 : Nat) (a1 : Int32) (a2 : Int32) (a3 : Int32) (h : Hp), X3_boysInAll_L17 q a0 a1 a2 a3 h = some (r, h') → Go (PM M_X3_boysInAll hh (some (.int r)) h') M_X3_boysInAll 17 [some (.ref a0), some (.int a1), some (.int a2), some (.int a3)] [] h 0 0 := by
  intro q
  induction q with
  | zero => intro a0 a1 a2 a3 h H; cases H
  | succ q hrc17 =>
    intro a0 a1 a2 a3 h H
    replace H : X3_boysInAll_L17_s (X3_boysInAll_L17 q) a0 a1 a2 a3 h = some (r, h') := H
    unfold X3_boysInAll_L17_s at H
    refine go_iload_n (pc := 17) dX3_boysInAll_17 rfl rfl ?_
    refine go_aload_n (pc := 18) dX3_boysInAll_18 rfl rfl ?_
    refine go_cVi (pc := 19) (Mz := M_X3_sets) (as := []) (a := a0) (st := [.int a3]) dX3_boysInAll_19 wd_934 cv_X3_sets X3_sets_ok rfl rfl ⟨Nat.le_of_ble_eq_true rfl, Nat.le_of_ble_eq_true rfl⟩ (Nat.le_of_ble_eq_true rfl) ⟨rfl, rfl⟩ ⟨Nat.le_of_ble_eq_true rfl, Nat.le_of_ble_eq_true rfl⟩ H (fun v202 h201 H => ?_)
    refine go_icmp_ge (pc := 22) (tgt := 43) dX3_boysInAll_22 (by decide) H (fun H => ?_) (fun H => ?_)
    · refine go_iload_n (pc := 43) dX3_boysInAll_43 rfl rfl ?_
      exact go_iret (pc := 44) dX3_boysInAll_44 rfl ⟨Nat.le_of_ble_eq_true rfl, Nat.le_of_ble_eq_true rfl⟩ H
    · refine go_iload_n (pc := 25) dX3_boysInAll_25 rfl rfl ?_
      refine go_iload_n (pc := 26) dX3_boysInAll_26 rfl rfl ?_
      refine go_ishr (pc := 27) dX3_boysInAll_27 ?_
      refine go_iconst (pc := 28) (v := 1) dX3_boysInAll_28 (by decide) ?_
      refine go_iand (pc := 29) dX3_boysInAll_29 ?_
      refine go_if_eq (pc := 30) (tgt := 37) dX3_boysInAll_30 (by decide) H (fun H => ?_) (fun H => ?_)
      · exact Go.weak (L' := [some (.ref a0), some (.int a1), some (.int a2), some (.int a3)]) ⟨rfl, ⟨rfl, ⟨rfl, ⟨rfl, trivial⟩⟩⟩⟩ (X3_boysInAll_B37_ok _ hrc17 a0 a1 a2 a3 h201 H)
      · refine go_iload_n (pc := 33) dX3_boysInAll_33 rfl rfl ?_
        refine go_iload_n (pc := 34) dX3_boysInAll_34 rfl rfl ?_
        refine go_iand (pc := 35) dX3_boysInAll_35 ?_
        refine go_pin H (fun v203 H => ?_)
        refine go_istore_n (pc := 36) (L' := [some (.ref a0), some (.int a1), some (.int v203), some (.int a3)]) dX3_boysInAll_36 rfl (Nat.le_of_ble_eq_true rfl) rfl ?_
        exact Go.weak (L' := [some (.ref a0), some (.int a1), some (.int v203), some (.int a3)]) ⟨rfl, ⟨rfl, ⟨rfl, ⟨rfl, trivial⟩⟩⟩⟩ (X3_boysInAll_B37_ok _ hrc17 a0 a1 v203 a3 h201 H)

def X3_boysInAll_B14 (a0 : Nat) (a1 : Int32) (s0 : Int32) (h : Hp) : Option (Int32 × Hp) :=
  X3_boysInAll_L17 5000 a0 a1 s0 0 h
theorem X3_boysInAll_B14_ok {hh h' : Hp} {r : Int32}  (a0 : Nat) (a1 : Int32) (s0 : Int32) (h : Hp) (H : X3_boysInAll_B14 a0 a1 s0 h = some (r, h')) : Go (PM M_X3_boysInAll hh (some (.int r)) h') M_X3_boysInAll 14 [some (.ref a0), some (.int a1), none, none] [.int s0] h 0 0 := by
  unfold X3_boysInAll_B14 at H
  refine go_istore_n (pc := 14) (L' := [some (.ref a0), some (.int a1), some (.int s0), none]) dX3_boysInAll_14 rfl (Nat.le_of_ble_eq_true rfl) rfl ?_
  refine go_iconst (pc := 15) (v := 0) dX3_boysInAll_15 (by decide) ?_
  refine go_istore_n (pc := 16) (L' := [some (.ref a0), some (.int a1), some (.int s0), some (.int 0)]) dX3_boysInAll_16 rfl (Nat.le_of_ble_eq_true rfl) rfl ?_
  exact Go.weak (L' := [some (.ref a0), some (.int a1), some (.int s0), some (.int 0)]) ⟨rfl, ⟨rfl, ⟨rfl, ⟨rfl, trivial⟩⟩⟩⟩ (X3_boysInAll_L17_ok 5000 a0 a1 s0 0 h H)

def X3_boysInAll (a0 : Nat) (a1 : Int32) (h : Hp) : Option (Int32 × Hp) :=
  if a1 = 0 then (
    X3_boysInAll_B14 a0 a1 0 h)
  else (
    cV h a0 3 (X3_sets a0 h) fun v2 h1 =>
    X3_boysInAll_B14 a0 a1 (v2 - 1) h1)
theorem X3_boysInAll_ok {a0 : Nat} {a1 : Int32} {h h' : Hp} {r : Int32} (H : X3_boysInAll a0 a1 h = some (r, h')) : Con M_X3_boysInAll [.ref a0, .int a1] h (some (.int r)) h' := by
  refine con_of_go (by decide) 2 (L := [some (.ref a0), some (.int a1), none, none]) rfl (Nat.le_of_ble_eq_true rfl) ?_
  unfold X3_boysInAll at H
  refine go_iload_n (pc := 0) dX3_boysInAll_0 rfl rfl ?_
  refine go_if_ne (pc := 1) (tgt := 8) dX3_boysInAll_1 (by decide) H (fun H => ?_) (fun H => ?_)
  · refine go_aload_n (pc := 8) dX3_boysInAll_8 rfl rfl ?_
    refine go_cVi (pc := 9) (Mz := M_X3_sets) (as := []) (a := a0) (st := []) dX3_boysInAll_9 wd_934 cv_X3_sets X3_sets_ok rfl rfl ⟨Nat.le_of_ble_eq_true rfl, Nat.le_of_ble_eq_true rfl⟩ (Nat.le_of_ble_eq_true rfl) ⟨rfl, rfl⟩ ⟨Nat.le_of_ble_eq_true rfl, Nat.le_of_ble_eq_true rfl⟩ H (fun v2 h1 H => ?_)
    refine go_iconst (pc := 12) (v := 1) dX3_boysInAll_12 (by decide) ?_
    refine go_isub (pc := 13) dX3_boysInAll_13 ?_
    exact Go.weak (L' := [some (.ref a0), some (.int a1), none, none]) ⟨rfl, ⟨rfl, trivial⟩⟩ (X3_boysInAll_B14_ok a0 a1 (v2 - 1) h1 H)
  · refine go_iconst (pc := 4) (v := 0) dX3_boysInAll_4 (by decide) ?_
    refine go_goto (pc := 5) (tgt := 14) dX3_boysInAll_5 (by decide) ?_
    exact Go.weak (L' := [some (.ref a0), some (.int a1), none, none]) ⟨rfl, ⟨rfl, trivial⟩⟩ (X3_boysInAll_B14_ok a0 a1 0 h H)

def M_X3_mostLeft : MD := (yX3_mostLeft, cX3_mostLeft, 7, (some .int), 4, 93, 0, 0)
theorem cv_X3_mostLeft : CVo M_X3_mostLeft 2 3 := ⟨⟨wd_1092, wd_119, ⟨by decide, by decide⟩, by decide +kernel⟩, wd_1090, wd_1091, _, rfl, rfl⟩
def X3_mostLeft_B144 (rc84 : Nat → Int32 → Int32 → Hp → Option (Int32 × Hp)) (rc102 : Nat → Int32 → Int32 → Int32 → Int32 → Hp → Option (Int32 × Hp)) (a0 : Nat) (a3 : Int32) (a4 : Int32) (a6 : Int32) (s0 : Int32) (s1 : Int32) (h : Hp) : Option (Int32 × Hp) :=
  pin (s0 + s1) fun v401 =>
  rc102 a0 a3 a4 v401 (a6 + 1) h
theorem X3_mostLeft_B144_ok {hh h' : Hp} {r : Int32}  (rc84 : Nat → Int32 → Int32 → Hp → Option (Int32 × Hp)) (rc102 : Nat → Int32 → Int32 → Int32 → Int32 → Hp → Option (Int32 × Hp)) (hrc84 : ∀ (a0 : Nat) (a3 : Int32) (a4 : Int32) (h : Hp), rc84 a0 a3 a4 h = some (r, h') → Go (PM M_X3_mostLeft hh (some (.int r)) h') M_X3_mostLeft 84 [some (.ref a0), none, none, some (.int a3), some (.int a4), none, none] [] h 0 0) (hrc102 : ∀ (a0 : Nat) (a3 : Int32) (a4 : Int32) (a5 : Int32) (a6 : Int32) (h : Hp), rc102 a0 a3 a4 a5 a6 h = some (r, h') → Go (PM M_X3_mostLeft hh (some (.int r)) h') M_X3_mostLeft 102 [some (.ref a0), none, none, some (.int a3), some (.int a4), some (.int a5), some (.int a6)] [] h 0 0) (a0 : Nat) (a3 : Int32) (a4 : Int32) (a6 : Int32) (s0 : Int32) (s1 : Int32) (h : Hp) (H : X3_mostLeft_B144 rc84 rc102 a0 a3 a4 a6 s0 s1 h = some (r, h')) : Go (PM M_X3_mostLeft hh (some (.int r)) h') M_X3_mostLeft 144 [some (.ref a0), none, none, some (.int a3), some (.int a4), none, some (.int a6)] [.int s1, .int s0] h 0 0 := by
  unfold X3_mostLeft_B144 at H
  refine go_iadd (pc := 144) dX3_mostLeft_144 ?_
  refine go_pin H (fun v401 H => ?_)
  refine go_istore (pc := 145) (L' := [some (.ref a0), none, none, some (.int a3), some (.int a4), some (.int v401), some (.int a6)]) dX3_mostLeft_145 (Nat.le_of_ble_eq_true rfl) rfl ?_
  refine go_iinc (pc := 147) (v := a6 + 1) (L' := [some (.ref a0), none, none, some (.int a3), some (.int a4), some (.int v401), some (.int (a6 + 1))]) dX3_mostLeft_147 rfl rfl (Nat.le_of_ble_eq_true rfl) rfl ?_
  refine go_goto (pc := 150) (tgt := 102) dX3_mostLeft_150 (by decide) ?_
  exact Go.weak (L' := [some (.ref a0), none, none, some (.int a3), some (.int a4), some (.int v401), some (.int (a6 + 1))]) ⟨rfl, ⟨rfl, ⟨rfl, ⟨rfl, ⟨rfl, trivial⟩⟩⟩⟩⟩ (hrc102 a0 a3 a4 v401 (a6 + 1) h H)

def X3_mostLeft_L102_s (rc84 : Nat → Int32 → Int32 → Hp → Option (Int32 × Hp)) (rc102 : Nat → Int32 → Int32 → Int32 → Int32 → Hp → Option (Int32 × Hp)) (a0 : Nat) (a3 : Int32) (a4 : Int32) (a5 : Int32) (a6 : Int32) (h : Hp) : Option (Int32 × Hp) :=
  (gR h a0 3 1).bind fun v301 =>
  (gI h v301 8 3).bind fun v302 =>
  if v302 ≤ a6 then (
    bd (J9_max_7cf53 a3 a5 h) fun v304 h303 =>
    rc84 a0 v304 (a4 + 1) h303)
  else (
    (gR h a0 3 1).bind fun v305 =>
    cV h v305 8 (X8_cell v305 a4 0 h) fun v307 h306 =>
    (gR h306 a0 3 1).bind fun v308 =>
    cV h306 v308 8 (X8_cell v308 a6 0 h306) fun v310 h309 =>
    if v307 = v310 then (
      X3_mostLeft_B144 rc84 rc102 a0 a3 a4 a6 a5 1 h309)
    else (
      X3_mostLeft_B144 rc84 rc102 a0 a3 a4 a6 a5 0 h309))
def X3_mostLeft_L102 (rc84 : Nat → Int32 → Int32 → Hp → Option (Int32 × Hp)) (q : Nat) : Nat → Int32 → Int32 → Int32 → Int32 → Hp → Option (Int32 × Hp) := loopN (fun _ _ _ _ _ _ => none) (X3_mostLeft_L102_s rc84) q
theorem X3_mostLeft_L102_ok {hh h' : Hp} {r : Int32}  (rc84 : Nat → Int32 → Int32 → Hp → Option (Int32 × Hp)) (hrc84 : ∀ (a0 : Nat) (a3 : Int32) (a4 : Int32) (h : Hp), rc84 a0 a3 a4 h = some (r, h') → Go (PM M_X3_mostLeft hh (some (.int r)) h') M_X3_mostLeft 84 [some (.ref a0), none, none, some (.int a3), some (.int a4), none, none] [] h 0 0) : ∀ (q : Nat) (a0 : Nat) (a3 : Int32) (a4 : Int32) (a5 : Int32) (a6 : Int32) (h : Hp), X3_mostLeft_L102 rc84 q a0 a3 a4 a5 a6 h = some (r, h') → Go (PM M_X3_mostLeft hh (some (.int r)) h') M_X3_mostLeft 102 [some (.ref a0), none, none, some (.int a3), some (.int a4), some (.int a5), some (.int a6)] [] h 0 0 := by
  intro q
  induction q with
  | zero => intro a0 a3 a4 a5 a6 h H; cases H
  | succ q hrc102 =>
    intro a0 a3 a4 a5 a6 h H
    replace H : X3_mostLeft_L102_s rc84 (X3_mostLeft_L102 rc84 q) a0 a3 a4 a5 a6 h = some (r, h') := H
    unfold X3_mostLeft_L102_s at H
    refine go_iload (pc := 102) dX3_mostLeft_102 rfl ?_
    refine go_aload_n (pc := 104) dX3_mostLeft_104 rfl rfl ?_
    refine go_getR (pc := 105) dX3_mostLeft_105 fl_X3_14 H (fun v301 H => ?_)
    refine go_getI (pc := 108) dX3_mostLeft_108 fl_X3_35 H (fun v302 H => ?_)
    refine go_icmp_ge (pc := 111) (tgt := 153) dX3_mostLeft_111 (by decide) H (fun H => ?_) (fun H => ?_)
    · refine go_iload_n (pc := 153) dX3_mostLeft_153 rfl rfl ?_
      refine go_iload (pc := 154) dX3_mostLeft_154 rfl ?_
      refine go_cSi (pc := 156) (Mz := M_J9_max_7cf53) (as := [.int a3, .int a5]) (st := []) dX3_mostLeft_156 wd_1093 cs_J9_max_7cf53 J9_max_7cf53_ok rfl rfl ⟨Nat.le_of_ble_eq_true rfl, Nat.le_of_ble_eq_true rfl⟩ (Nat.le_of_ble_eq_true rfl) ⟨rfl, rfl⟩ ⟨Nat.le_of_ble_eq_true rfl, Nat.le_of_ble_eq_true rfl⟩ H (fun v304 h303 H => ?_)
      refine go_istore_n (pc := 159) (L' := [some (.ref a0), none, none, some (.int v304), some (.int a4), some (.int a5), some (.int a6)]) dX3_mostLeft_159 rfl (Nat.le_of_ble_eq_true rfl) rfl ?_
      refine go_iinc (pc := 160) (v := a4 + 1) (L' := [some (.ref a0), none, none, some (.int v304), some (.int (a4 + 1)), some (.int a5), some (.int a6)]) dX3_mostLeft_160 rfl rfl (Nat.le_of_ble_eq_true rfl) rfl ?_
      refine go_goto (pc := 163) (tgt := 84) dX3_mostLeft_163 (by decide) ?_
      exact Go.weak (L' := [some (.ref a0), none, none, some (.int v304), some (.int (a4 + 1)), none, none]) ⟨rfl, ⟨rfl, ⟨rfl, trivial⟩⟩⟩ (hrc84 a0 v304 (a4 + 1) h303 H)
    · refine go_iload (pc := 114) dX3_mostLeft_114 rfl ?_
      refine go_aload_n (pc := 116) dX3_mostLeft_116 rfl rfl ?_
      refine go_getR (pc := 117) dX3_mostLeft_117 fl_X3_14 H (fun v305 H => ?_)
      refine go_iload (pc := 120) dX3_mostLeft_120 rfl ?_
      refine go_iconst (pc := 122) (v := 0) dX3_mostLeft_122 (by decide) ?_
      refine go_cVi (pc := 123) (Mz := M_X8_cell) (as := [.int a4, .int 0]) (a := v305) (st := [.int a5]) dX3_mostLeft_123 wd_958 cv_X8_cell X8_cell_ok rfl rfl ⟨Nat.le_of_ble_eq_true rfl, Nat.le_of_ble_eq_true rfl⟩ (Nat.le_of_ble_eq_true rfl) ⟨rfl, rfl⟩ ⟨Nat.le_of_ble_eq_true rfl, Nat.le_of_ble_eq_true rfl⟩ H (fun v307 h306 H => ?_)
      refine go_aload_n (pc := 126) dX3_mostLeft_126 rfl rfl ?_
      refine go_getR (pc := 127) dX3_mostLeft_127 fl_X3_14 H (fun v308 H => ?_)
      refine go_iload (pc := 130) dX3_mostLeft_130 rfl ?_
      refine go_iconst (pc := 132) (v := 0) dX3_mostLeft_132 (by decide) ?_
      refine go_cVi (pc := 133) (Mz := M_X8_cell) (as := [.int a6, .int 0]) (a := v308) (st := [.int v307, .int a5]) dX3_mostLeft_133 wd_958 cv_X8_cell X8_cell_ok rfl rfl ⟨Nat.le_of_ble_eq_true rfl, Nat.le_of_ble_eq_true rfl⟩ (Nat.le_of_ble_eq_true rfl) ⟨rfl, rfl⟩ ⟨Nat.le_of_ble_eq_true rfl, Nat.le_of_ble_eq_true rfl⟩ H (fun v310 h309 H => ?_)
      refine go_icmp_ne (pc := 136) (tgt := 143) dX3_mostLeft_136 (by decide) H (fun H => ?_) (fun H => ?_)
      · refine go_iconst (pc := 143) (v := 0) dX3_mostLeft_143 (by decide) ?_
        exact Go.weak (L' := [some (.ref a0), none, none, some (.int a3), some (.int a4), none, some (.int a6)]) ⟨rfl, ⟨rfl, ⟨rfl, ⟨rfl, trivial⟩⟩⟩⟩ (X3_mostLeft_B144_ok _ _ hrc84 hrc102 a0 a3 a4 a6 a5 0 h309 H)
      · refine go_iconst (pc := 139) (v := 1) dX3_mostLeft_139 (by decide) ?_
        refine go_goto (pc := 140) (tgt := 144) dX3_mostLeft_140 (by decide) ?_
        exact Go.weak (L' := [some (.ref a0), none, none, some (.int a3), some (.int a4), none, some (.int a6)]) ⟨rfl, ⟨rfl, ⟨rfl, ⟨rfl, trivial⟩⟩⟩⟩ (X3_mostLeft_B144_ok _ _ hrc84 hrc102 a0 a3 a4 a6 a5 1 h309 H)

def X3_mostLeft_L84_s (rc84 : Nat → Int32 → Int32 → Hp → Option (Int32 × Hp)) (a0 : Nat) (a3 : Int32) (a4 : Int32) (h : Hp) : Option (Int32 × Hp) :=
  (gR h a0 3 1).bind fun v201 =>
  (gI h v201 8 3).bind fun v202 =>
  if v202 ≤ a4 then (
    some (a3, h))
  else (
    X3_mostLeft_L102 rc84 5000 a0 a3 a4 0 0 h)
def X3_mostLeft_L84 (q : Nat) : Nat → Int32 → Int32 → Hp → Option (Int32 × Hp) := loopN (fun _ _ _ _ => none) (X3_mostLeft_L84_s) q
theorem X3_mostLeft_L84_ok {hh h' : Hp} {r : Int32}  : ∀ (q : Nat) (a0 : Nat) (a3 : Int32) (a4 : Int32) (h : Hp), X3_mostLeft_L84 q a0 a3 a4 h = some (r, h') → Go (PM M_X3_mostLeft hh (some (.int r)) h') M_X3_mostLeft 84 [some (.ref a0), none, none, some (.int a3), some (.int a4), none, none] [] h 0 0 := by
  intro q
  induction q with
  | zero => intro a0 a3 a4 h H; cases H
  | succ q hrc84 =>
    intro a0 a3 a4 h H
    replace H : X3_mostLeft_L84_s (X3_mostLeft_L84 q) a0 a3 a4 h = some (r, h') := H
    unfold X3_mostLeft_L84_s at H
    refine go_iload (pc := 84) dX3_mostLeft_84 rfl ?_
    refine go_aload_n (pc := 86) dX3_mostLeft_86 rfl rfl ?_
    refine go_getR (pc := 87) dX3_mostLeft_87 fl_X3_14 H (fun v201 H => ?_)
    refine go_getI (pc := 90) dX3_mostLeft_90 fl_X3_35 H (fun v202 H => ?_)
    refine go_icmp_ge (pc := 93) (tgt := 166) dX3_mostLeft_93 (by decide) H (fun H => ?_) (fun H => ?_)
    · refine go_iload_n (pc := 166) dX3_mostLeft_166 rfl rfl ?_
      exact go_iret (pc := 167) dX3_mostLeft_167 rfl ⟨Nat.le_of_ble_eq_true rfl, Nat.le_of_ble_eq_true rfl⟩ H
    · refine go_iconst (pc := 96) (v := 0) dX3_mostLeft_96 (by decide) ?_
      refine go_istore (pc := 97) (L' := [some (.ref a0), none, none, some (.int a3), some (.int a4), some (.int 0), none]) dX3_mostLeft_97 (Nat.le_of_ble_eq_true rfl) rfl ?_
      refine go_iconst (pc := 99) (v := 0) dX3_mostLeft_99 (by decide) ?_
      refine go_istore (pc := 100) (L' := [some (.ref a0), none, none, some (.int a3), some (.int a4), some (.int 0), some (.int 0)]) dX3_mostLeft_100 (Nat.le_of_ble_eq_true rfl) rfl ?_
      exact Go.weak (L' := [some (.ref a0), none, none, some (.int a3), some (.int a4), some (.int 0), some (.int 0)]) ⟨rfl, ⟨rfl, ⟨rfl, ⟨rfl, ⟨rfl, trivial⟩⟩⟩⟩⟩ (X3_mostLeft_L102_ok _ hrc84 5000 a0 a3 a4 0 0 h H)

def X3_mostLeft_B73 (rc10 : Nat → Int32 → Int32 → Int32 → Hp → Option (Int32 × Hp)) (a0 : Nat) (a1 : Int32) (a2 : Int32) (a3 : Int32) (h : Hp) : Option (Int32 × Hp) :=
  rc10 a0 a1 a2 (a3 + 1) h
theorem X3_mostLeft_B73_ok {hh h' : Hp} {r : Int32}  (rc10 : Nat → Int32 → Int32 → Int32 → Hp → Option (Int32 × Hp)) (hrc10 : ∀ (a0 : Nat) (a1 : Int32) (a2 : Int32) (a3 : Int32) (h : Hp), rc10 a0 a1 a2 a3 h = some (r, h') → Go (PM M_X3_mostLeft hh (some (.int r)) h') M_X3_mostLeft 10 [some (.ref a0), some (.int a1), some (.int a2), some (.int a3), none, none, none] [] h 0 0) (a0 : Nat) (a1 : Int32) (a2 : Int32) (a3 : Int32) (h : Hp) (H : X3_mostLeft_B73 rc10 a0 a1 a2 a3 h = some (r, h')) : Go (PM M_X3_mostLeft hh (some (.int r)) h') M_X3_mostLeft 73 [some (.ref a0), some (.int a1), some (.int a2), some (.int a3), none, none, none] [] h 0 0 := by
  unfold X3_mostLeft_B73 at H
  refine go_iinc (pc := 73) (v := a3 + 1) (L' := [some (.ref a0), some (.int a1), some (.int a2), some (.int (a3 + 1)), none, none, none]) dX3_mostLeft_73 rfl rfl (Nat.le_of_ble_eq_true rfl) rfl ?_
  refine go_goto (pc := 76) (tgt := 10) dX3_mostLeft_76 (by decide) ?_
  exact Go.weak (L' := [some (.ref a0), some (.int a1), some (.int a2), some (.int (a3 + 1)), none, none, none]) ⟨rfl, ⟨rfl, ⟨rfl, ⟨rfl, trivial⟩⟩⟩⟩ (hrc10 a0 a1 a2 (a3 + 1) h H)

def X3_mostLeft_L10_s (rc10 : Nat → Int32 → Int32 → Int32 → Hp → Option (Int32 × Hp)) (a0 : Nat) (a1 : Int32) (a2 : Int32) (a3 : Int32) (h : Hp) : Option (Int32 × Hp) :=
  cV h a0 3 (X3_sets a0 h) fun v102 h101 =>
  if v102 ≤ a3 then (
    X3_mostLeft_L84 5000 a0 0 0 h101)
  else (
    if ((a1 >>> (a3 &&& 31)) &&& 1) = 0 then (
      X3_mostLeft_B73 rc10 a0 a1 a2 a3 h101)
    else (
      cV h101 a0 3 (X3_asTold a0 a3 h101) fun v104 h103 =>
      (gR h103 a0 3 0).bind fun v105 =>
      cVv h103 v105 6 (X6_reckon v105 v104 h103) fun h106 =>
      (gR h106 a0 3 0).bind fun v107 =>
      cVv h106 v107 6 (X6_sail v107 v104 0 a2 h106) fun h108 =>
      (gR h108 a0 3 1).bind fun v109 =>
      (gR h108 a0 3 0).bind fun v110 =>
      (gR h108 v110 6 0).bind fun v111 =>
      cV h108 v111 7 (X7_inSquare v111 h108) fun v113 h112 =>
      cVv h112 v109 8 (X8_add v109 v113 0 0 0 h112) fun h114 =>
      X3_mostLeft_B73 rc10 a0 a1 a2 a3 h114))
def X3_mostLeft_L10 (q : Nat) : Nat → Int32 → Int32 → Int32 → Hp → Option (Int32 × Hp) := loopN (fun _ _ _ _ _ => none) (X3_mostLeft_L10_s) q
theorem X3_mostLeft_L10_ok {hh h' : Hp} {r : Int32}  : ∀ (q : Nat) (a0 : Nat) (a1 : Int32) (a2 : Int32) (a3 : Int32) (h : Hp), X3_mostLeft_L10 q a0 a1 a2 a3 h = some (r, h') → Go (PM M_X3_mostLeft hh (some (.int r)) h') M_X3_mostLeft 10 [some (.ref a0), some (.int a1), some (.int a2), some (.int a3), none, none, none] [] h 0 0 := by
  intro q
  induction q with
  | zero => intro a0 a1 a2 a3 h H; cases H
  | succ q hrc10 =>
    intro a0 a1 a2 a3 h H
    replace H : X3_mostLeft_L10_s (X3_mostLeft_L10 q) a0 a1 a2 a3 h = some (r, h') := H
    unfold X3_mostLeft_L10_s at H
    refine go_iload_n (pc := 10) dX3_mostLeft_10 rfl rfl ?_
    refine go_aload_n (pc := 11) dX3_mostLeft_11 rfl rfl ?_
    refine go_cVi (pc := 12) (Mz := M_X3_sets) (as := []) (a := a0) (st := [.int a3]) dX3_mostLeft_12 wd_934 cv_X3_sets X3_sets_ok rfl rfl ⟨Nat.le_of_ble_eq_true rfl, Nat.le_of_ble_eq_true rfl⟩ (Nat.le_of_ble_eq_true rfl) ⟨rfl, rfl⟩ ⟨Nat.le_of_ble_eq_true rfl, Nat.le_of_ble_eq_true rfl⟩ H (fun v102 h101 H => ?_)
    refine go_icmp_ge (pc := 15) (tgt := 79) dX3_mostLeft_15 (by decide) H (fun H => ?_) (fun H => ?_)
    · refine go_iconst (pc := 79) (v := 0) dX3_mostLeft_79 (by decide) ?_
      refine go_istore_n (pc := 80) (L' := [some (.ref a0), some (.int a1), some (.int a2), some (.int 0), none, none, none]) dX3_mostLeft_80 rfl (Nat.le_of_ble_eq_true rfl) rfl ?_
      refine go_iconst (pc := 81) (v := 0) dX3_mostLeft_81 (by decide) ?_
      refine go_istore (pc := 82) (L' := [some (.ref a0), some (.int a1), some (.int a2), some (.int 0), some (.int 0), none, none]) dX3_mostLeft_82 (Nat.le_of_ble_eq_true rfl) rfl ?_
      exact Go.weak (L' := [some (.ref a0), none, none, some (.int 0), some (.int 0), none, none]) ⟨rfl, ⟨rfl, ⟨rfl, trivial⟩⟩⟩ (X3_mostLeft_L84_ok 5000 a0 0 0 h101 H)
    · refine go_iload_n (pc := 18) dX3_mostLeft_18 rfl rfl ?_
      refine go_iload_n (pc := 19) dX3_mostLeft_19 rfl rfl ?_
      refine go_ishr (pc := 20) dX3_mostLeft_20 ?_
      refine go_iconst (pc := 21) (v := 1) dX3_mostLeft_21 (by decide) ?_
      refine go_iand (pc := 22) dX3_mostLeft_22 ?_
      refine go_if_eq (pc := 23) (tgt := 73) dX3_mostLeft_23 (by decide) H (fun H => ?_) (fun H => ?_)
      · exact Go.weak (L' := [some (.ref a0), some (.int a1), some (.int a2), some (.int a3), none, none, none]) ⟨rfl, ⟨rfl, ⟨rfl, ⟨rfl, trivial⟩⟩⟩⟩ (X3_mostLeft_B73_ok _ hrc10 a0 a1 a2 a3 h101 H)
      · refine go_aload_n (pc := 26) dX3_mostLeft_26 rfl rfl ?_
        refine go_iload_n (pc := 27) dX3_mostLeft_27 rfl rfl ?_
        refine go_cVr (pc := 28) (Mz := M_X3_asTold) (as := [.int a3]) (a := a0) (st := []) dX3_mostLeft_28 wd_1050 cv_X3_asTold X3_asTold_ok rfl rfl ⟨Nat.le_of_ble_eq_true rfl, Nat.le_of_ble_eq_true rfl⟩ (Nat.le_of_ble_eq_true rfl) ⟨rfl, rfl⟩ ⟨Nat.le_of_ble_eq_true rfl, Nat.le_of_ble_eq_true rfl⟩ H (fun v104 h103 H => ?_)
        refine go_astore (pc := 31) (L' := [some (.ref a0), some (.int a1), some (.int a2), some (.int a3), some (.ref v104), none, none]) dX3_mostLeft_31 (Nat.le_of_ble_eq_true rfl) rfl ?_
        refine go_aload_n (pc := 33) dX3_mostLeft_33 rfl rfl ?_
        refine go_getR (pc := 34) dX3_mostLeft_34 fl_X3_20 H (fun v105 H => ?_)
        refine go_aload (pc := 37) dX3_mostLeft_37 rfl ?_
        refine go_cVv (pc := 39) (Mz := M_X6_reckon) (as := [.ref v104]) (a := v105) (st := []) dX3_mostLeft_39 wd_972 cv_X6_reckon X6_reckon_ok rfl rfl ⟨Nat.le_of_ble_eq_true rfl, Nat.le_of_ble_eq_true rfl⟩ (Nat.le_of_ble_eq_true rfl) ⟨rfl, rfl⟩ ⟨Nat.le_of_ble_eq_true rfl, Nat.le_of_ble_eq_true rfl⟩ H (fun h106 H => ?_)
        refine go_aload_n (pc := 42) dX3_mostLeft_42 rfl rfl ?_
        refine go_getR (pc := 43) dX3_mostLeft_43 fl_X3_20 H (fun v107 H => ?_)
        refine go_aload (pc := 46) dX3_mostLeft_46 rfl ?_
        refine go_iconst (pc := 48) (v := 0) dX3_mostLeft_48 (by decide) ?_
        refine go_iload_n (pc := 49) dX3_mostLeft_49 rfl rfl ?_
        refine go_cVv (pc := 50) (Mz := M_X6_sail) (as := [.ref v104, .int 0, .int a2]) (a := v107) (st := []) dX3_mostLeft_50 wd_1055 cv_X6_sail X6_sail_ok rfl rfl ⟨Nat.le_of_ble_eq_true rfl, Nat.le_of_ble_eq_true rfl⟩ (Nat.le_of_ble_eq_true rfl) ⟨rfl, rfl⟩ ⟨Nat.le_of_ble_eq_true rfl, Nat.le_of_ble_eq_true rfl⟩ H (fun h108 H => ?_)
        refine go_aload_n (pc := 53) dX3_mostLeft_53 rfl rfl ?_
        refine go_getR (pc := 54) dX3_mostLeft_54 fl_X3_14 H (fun v109 H => ?_)
        refine go_aload_n (pc := 57) dX3_mostLeft_57 rfl rfl ?_
        refine go_getR (pc := 58) dX3_mostLeft_58 fl_X3_20 H (fun v110 H => ?_)
        refine go_getR (pc := 61) dX3_mostLeft_61 fl_X3_114 H (fun v111 H => ?_)
        refine go_cVi (pc := 64) (Mz := M_X7_inSquare) (as := []) (a := v111) (st := [.ref v109]) dX3_mostLeft_64 wd_961 cv_X7_inSquare X7_inSquare_ok rfl rfl ⟨Nat.le_of_ble_eq_true rfl, Nat.le_of_ble_eq_true rfl⟩ (Nat.le_of_ble_eq_true rfl) ⟨rfl, rfl⟩ ⟨Nat.le_of_ble_eq_true rfl, Nat.le_of_ble_eq_true rfl⟩ H (fun v113 h112 H => ?_)
        refine go_iconst (pc := 67) (v := 0) dX3_mostLeft_67 (by decide) ?_
        refine go_iconst (pc := 68) (v := 0) dX3_mostLeft_68 (by decide) ?_
        refine go_iconst (pc := 69) (v := 0) dX3_mostLeft_69 (by decide) ?_
        refine go_cVv (pc := 70) (Mz := M_X8_add) (as := [.int v113, .int 0, .int 0, .int 0]) (a := v109) (st := []) dX3_mostLeft_70 wd_963 cv_X8_add X8_add_ok rfl rfl ⟨Nat.le_of_ble_eq_true rfl, Nat.le_of_ble_eq_true rfl⟩ (Nat.le_of_ble_eq_true rfl) ⟨rfl, rfl⟩ ⟨Nat.le_of_ble_eq_true rfl, Nat.le_of_ble_eq_true rfl⟩ H (fun h114 H => ?_)
        exact Go.weak (L' := [some (.ref a0), some (.int a1), some (.int a2), some (.int a3), none, none, none]) ⟨rfl, ⟨rfl, ⟨rfl, ⟨rfl, trivial⟩⟩⟩⟩ (X3_mostLeft_B73_ok _ hrc10 a0 a1 a2 a3 h114 H)

def X3_mostLeft (a0 : Nat) (a1 : Int32) (a2 : Int32) (h : Hp) : Option (Int32 × Hp) :=
  (gR h a0 3 1).bind fun v1 =>
  (pF h v1 8 3 (.int 0)).bind fun h2 =>
  X3_mostLeft_L10 5000 a0 a1 a2 0 h2
theorem X3_mostLeft_ok {a0 : Nat} {a1 : Int32} {a2 : Int32} {h h' : Hp} {r : Int32} (H : X3_mostLeft a0 a1 a2 h = some (r, h')) : Con M_X3_mostLeft [.ref a0, .int a1, .int a2] h (some (.int r)) h' := by
  refine con_of_go (by decide) 4 (L := [some (.ref a0), some (.int a1), some (.int a2), none, none, none, none]) rfl (Nat.le_of_ble_eq_true rfl) ?_
  unfold X3_mostLeft at H
  refine go_aload_n (pc := 0) dX3_mostLeft_0 rfl rfl ?_
  refine go_getR (pc := 1) dX3_mostLeft_1 fl_X3_14 H (fun v1 H => ?_)
  refine go_iconst (pc := 4) (v := 0) dX3_mostLeft_4 (by decide) ?_
  refine go_putI (pc := 5) dX3_mostLeft_5 fs_X3_35 H (fun h2 H => ?_)
  refine go_iconst (pc := 8) (v := 0) dX3_mostLeft_8 (by decide) ?_
  refine go_istore_n (pc := 9) (L' := [some (.ref a0), some (.int a1), some (.int a2), some (.int 0), none, none, none]) dX3_mostLeft_9 rfl (Nat.le_of_ble_eq_true rfl) rfl ?_
  exact Go.weak (L' := [some (.ref a0), some (.int a1), some (.int a2), some (.int 0), none, none, none]) ⟨rfl, ⟨rfl, ⟨rfl, ⟨rfl, trivial⟩⟩⟩⟩ (X3_mostLeft_L10_ok 5000 a0 a1 a2 0 h2 H)

def M_X3_bestFix : MD := (yX3_bestFix, cX3_bestFix, 6, (some .int), 5, 119, 0, 0)
theorem cv_X3_bestFix : CVo M_X3_bestFix 1 3 := ⟨⟨wd_1088, wd_119, ⟨by decide, by decide⟩, by decide +kernel⟩, wd_1086, wd_1087, _, rfl, rfl⟩
def X3_bestFix_B57 (rc8 : Nat → Int32 → Int32 → Int32 → Int32 → Hp → Option (Int32 × Hp)) (a0 : Nat) (a1 : Int32) (a2 : Int32) (a3 : Int32) (a4 : Int32) (h : Hp) : Option (Int32 × Hp) :=
  rc8 a0 a1 a2 a3 (a4 + 1) h
theorem X3_bestFix_B57_ok {hh h' : Hp} {r : Int32}  (rc8 : Nat → Int32 → Int32 → Int32 → Int32 → Hp → Option (Int32 × Hp)) (hrc8 : ∀ (a0 : Nat) (a1 : Int32) (a2 : Int32) (a3 : Int32) (a4 : Int32) (h : Hp), rc8 a0 a1 a2 a3 a4 h = some (r, h') → Go (PM M_X3_bestFix hh (some (.int r)) h') M_X3_bestFix 8 [some (.ref a0), some (.int a1), some (.int a2), some (.int a3), some (.int a4), none] [] h 0 0) (a0 : Nat) (a1 : Int32) (a2 : Int32) (a3 : Int32) (a4 : Int32) (h : Hp) (H : X3_bestFix_B57 rc8 a0 a1 a2 a3 a4 h = some (r, h')) : Go (PM M_X3_bestFix hh (some (.int r)) h') M_X3_bestFix 57 [some (.ref a0), some (.int a1), some (.int a2), some (.int a3), some (.int a4), none] [] h 0 0 := by
  unfold X3_bestFix_B57 at H
  refine go_iinc (pc := 57) (v := a4 + 1) (L' := [some (.ref a0), some (.int a1), some (.int a2), some (.int a3), some (.int (a4 + 1)), none]) dX3_bestFix_57 rfl rfl (Nat.le_of_ble_eq_true rfl) rfl ?_
  refine go_goto (pc := 60) (tgt := 8) dX3_bestFix_60 (by decide) ?_
  exact Go.weak (L' := [some (.ref a0), some (.int a1), some (.int a2), some (.int a3), some (.int (a4 + 1)), none]) ⟨rfl, ⟨rfl, ⟨rfl, ⟨rfl, ⟨rfl, trivial⟩⟩⟩⟩⟩ (hrc8 a0 a1 a2 a3 (a4 + 1) h H)

def X3_bestFix_B51 (rc8 : Nat → Int32 → Int32 → Int32 → Int32 → Hp → Option (Int32 × Hp)) (a0 : Nat) (a1 : Int32) (a4 : Int32) (a5 : Int32) (h : Hp) : Option (Int32 × Hp) :=
  X3_bestFix_B57 rc8 a0 a1 a4 a5 a4 h
theorem X3_bestFix_B51_ok {hh h' : Hp} {r : Int32}  (rc8 : Nat → Int32 → Int32 → Int32 → Int32 → Hp → Option (Int32 × Hp)) (hrc8 : ∀ (a0 : Nat) (a1 : Int32) (a2 : Int32) (a3 : Int32) (a4 : Int32) (h : Hp), rc8 a0 a1 a2 a3 a4 h = some (r, h') → Go (PM M_X3_bestFix hh (some (.int r)) h') M_X3_bestFix 8 [some (.ref a0), some (.int a1), some (.int a2), some (.int a3), some (.int a4), none] [] h 0 0) (a0 : Nat) (a1 : Int32) (a4 : Int32) (a5 : Int32) (h : Hp) (H : X3_bestFix_B51 rc8 a0 a1 a4 a5 h = some (r, h')) : Go (PM M_X3_bestFix hh (some (.int r)) h') M_X3_bestFix 51 [some (.ref a0), some (.int a1), none, none, some (.int a4), some (.int a5)] [] h 0 0 := by
  unfold X3_bestFix_B51 at H
  refine go_iload (pc := 51) dX3_bestFix_51 rfl ?_
  refine go_istore_n (pc := 53) (L' := [some (.ref a0), some (.int a1), some (.int a4), none, some (.int a4), some (.int a5)]) dX3_bestFix_53 rfl (Nat.le_of_ble_eq_true rfl) rfl ?_
  refine go_iload (pc := 54) dX3_bestFix_54 rfl ?_
  refine go_istore_n (pc := 56) (L' := [some (.ref a0), some (.int a1), some (.int a4), some (.int a5), some (.int a4), some (.int a5)]) dX3_bestFix_56 rfl (Nat.le_of_ble_eq_true rfl) rfl ?_
  exact Go.weak (L' := [some (.ref a0), some (.int a1), some (.int a4), some (.int a5), some (.int a4), none]) ⟨rfl, ⟨rfl, ⟨rfl, ⟨rfl, ⟨rfl, trivial⟩⟩⟩⟩⟩ (X3_bestFix_B57_ok _ hrc8 a0 a1 a4 a5 a4 h H)

def X3_bestFix_L8_s (rc8 : Nat → Int32 → Int32 → Int32 → Int32 → Hp → Option (Int32 × Hp)) (a0 : Nat) (a1 : Int32) (a2 : Int32) (a3 : Int32) (a4 : Int32) (h : Hp) : Option (Int32 × Hp) :=
  if a1 = 0 then (
    some (a2, h))
  else (
    (gR h a0 3 0).bind fun v101 =>
    (gR h v101 6 3).bind fun v102 =>
    (gR h v102 9 2).bind fun v103 =>
    (gI h v103 8 3).bind fun v104 =>
    if v104 < a4 then (
      some (a2, h))
    else (
      cV h a0 3 (X3_mostLeft a0 a1 a4 h) fun v106 h105 =>
      if a2 = (-2) then (
        X3_bestFix_B51 rc8 a0 a1 a4 v106 h105)
      else (
        if a3 ≤ v106 then (
          X3_bestFix_B57 rc8 a0 a1 a2 a3 a4 h105)
        else (
          X3_bestFix_B51 rc8 a0 a1 a4 v106 h105))))
def X3_bestFix_L8 (q : Nat) : Nat → Int32 → Int32 → Int32 → Int32 → Hp → Option (Int32 × Hp) := loopN (fun _ _ _ _ _ _ => none) (X3_bestFix_L8_s) q
theorem X3_bestFix_L8_ok {hh h' : Hp} {r : Int32}  : ∀ (q : Nat) (a0 : Nat) (a1 : Int32) (a2 : Int32) (a3 : Int32) (a4 : Int32) (h : Hp), X3_bestFix_L8 q a0 a1 a2 a3 a4 h = some (r, h') → Go (PM M_X3_bestFix hh (some (.int r)) h') M_X3_bestFix 8 [some (.ref a0), some (.int a1), some (.int a2), some (.int a3), some (.int a4), none] [] h 0 0 := by
  intro q
  induction q with
  | zero => intro a0 a1 a2 a3 a4 h H; cases H
  | succ q hrc8 =>
    intro a0 a1 a2 a3 a4 h H
    replace H : X3_bestFix_L8_s (X3_bestFix_L8 q) a0 a1 a2 a3 a4 h = some (r, h') := H
    unfold X3_bestFix_L8_s at H
    refine go_iload_n (pc := 8) dX3_bestFix_8 rfl rfl ?_
    refine go_if_eq (pc := 9) (tgt := 63) dX3_bestFix_9 (by decide) H (fun H => ?_) (fun H => ?_)
    · refine go_iload_n (pc := 63) dX3_bestFix_63 rfl rfl ?_
      exact go_iret (pc := 64) dX3_bestFix_64 rfl ⟨Nat.le_of_ble_eq_true rfl, Nat.le_of_ble_eq_true rfl⟩ H
    · refine go_iload (pc := 12) dX3_bestFix_12 rfl ?_
      refine go_aload_n (pc := 14) dX3_bestFix_14 rfl rfl ?_
      refine go_getR (pc := 15) dX3_bestFix_15 fl_X3_20 H (fun v101 H => ?_)
      refine go_getR (pc := 18) dX3_bestFix_18 fl_X3_24 H (fun v102 H => ?_)
      refine go_getR (pc := 21) dX3_bestFix_21 fl_X3_122 H (fun v103 H => ?_)
      refine go_getI (pc := 24) dX3_bestFix_24 fl_X3_35 H (fun v104 H => ?_)
      refine go_icmp_gt (pc := 27) (tgt := 63) dX3_bestFix_27 (by decide) H (fun H => ?_) (fun H => ?_)
      · refine go_iload_n (pc := 63) dX3_bestFix_63 rfl rfl ?_
        exact go_iret (pc := 64) dX3_bestFix_64 rfl ⟨Nat.le_of_ble_eq_true rfl, Nat.le_of_ble_eq_true rfl⟩ H
      · refine go_aload_n (pc := 30) dX3_bestFix_30 rfl rfl ?_
        refine go_iload_n (pc := 31) dX3_bestFix_31 rfl rfl ?_
        refine go_iload (pc := 32) dX3_bestFix_32 rfl ?_
        refine go_cVi (pc := 34) (Mz := M_X3_mostLeft) (as := [.int a1, .int a4]) (a := a0) (st := []) dX3_bestFix_34 wd_1089 cv_X3_mostLeft X3_mostLeft_ok rfl rfl ⟨Nat.le_of_ble_eq_true rfl, Nat.le_of_ble_eq_true rfl⟩ (Nat.le_of_ble_eq_true rfl) ⟨rfl, rfl⟩ ⟨Nat.le_of_ble_eq_true rfl, Nat.le_of_ble_eq_true rfl⟩ H (fun v106 h105 H => ?_)
        refine go_istore (pc := 37) (L' := [some (.ref a0), some (.int a1), some (.int a2), some (.int a3), some (.int a4), some (.int v106)]) dX3_bestFix_37 (Nat.le_of_ble_eq_true rfl) rfl ?_
        refine go_iload_n (pc := 39) dX3_bestFix_39 rfl rfl ?_
        refine go_bipush (pc := 40) (v := (-2)) dX3_bestFix_40 (by decide) ?_
        refine go_icmp_eq (pc := 42) (tgt := 51) dX3_bestFix_42 (by decide) H (fun H => ?_) (fun H => ?_)
        · exact Go.weak (L' := [some (.ref a0), some (.int a1), none, none, some (.int a4), some (.int v106)]) ⟨rfl, ⟨rfl, ⟨rfl, ⟨rfl, trivial⟩⟩⟩⟩ (X3_bestFix_B51_ok _ hrc8 a0 a1 a4 v106 h105 H)
        · refine go_iload (pc := 45) dX3_bestFix_45 rfl ?_
          refine go_iload_n (pc := 47) dX3_bestFix_47 rfl rfl ?_
          refine go_icmp_ge (pc := 48) (tgt := 57) dX3_bestFix_48 (by decide) H (fun H => ?_) (fun H => ?_)
          · exact Go.weak (L' := [some (.ref a0), some (.int a1), some (.int a2), some (.int a3), some (.int a4), none]) ⟨rfl, ⟨rfl, ⟨rfl, ⟨rfl, ⟨rfl, trivial⟩⟩⟩⟩⟩ (X3_bestFix_B57_ok _ hrc8 a0 a1 a2 a3 a4 h105 H)
          · exact Go.weak (L' := [some (.ref a0), some (.int a1), none, none, some (.int a4), some (.int v106)]) ⟨rfl, ⟨rfl, ⟨rfl, ⟨rfl, trivial⟩⟩⟩⟩ (X3_bestFix_B51_ok _ hrc8 a0 a1 a4 v106 h105 H)

def X3_bestFix (a0 : Nat) (a1 : Int32) (h : Hp) : Option (Int32 × Hp) :=
  X3_bestFix_L8 5000 a0 a1 (-2) 0 0 h
theorem X3_bestFix_ok {a0 : Nat} {a1 : Int32} {h h' : Hp} {r : Int32} (H : X3_bestFix a0 a1 h = some (r, h')) : Con M_X3_bestFix [.ref a0, .int a1] h (some (.int r)) h' := by
  refine con_of_go (by decide) 4 (L := [some (.ref a0), some (.int a1), none, none, none, none]) rfl (Nat.le_of_ble_eq_true rfl) ?_
  unfold X3_bestFix at H
  refine go_bipush (pc := 0) (v := (-2)) dX3_bestFix_0 (by decide) ?_
  refine go_istore_n (pc := 2) (L' := [some (.ref a0), some (.int a1), some (.int (-2)), none, none, none]) dX3_bestFix_2 rfl (Nat.le_of_ble_eq_true rfl) rfl ?_
  refine go_iconst (pc := 3) (v := 0) dX3_bestFix_3 (by decide) ?_
  refine go_istore_n (pc := 4) (L' := [some (.ref a0), some (.int a1), some (.int (-2)), some (.int 0), none, none]) dX3_bestFix_4 rfl (Nat.le_of_ble_eq_true rfl) rfl ?_
  refine go_iconst (pc := 5) (v := 0) dX3_bestFix_5 (by decide) ?_
  refine go_istore (pc := 6) (L' := [some (.ref a0), some (.int a1), some (.int (-2)), some (.int 0), some (.int 0), none]) dX3_bestFix_6 (Nat.le_of_ble_eq_true rfl) rfl ?_
  exact Go.weak (L' := [some (.ref a0), some (.int a1), some (.int (-2)), some (.int 0), some (.int 0), none]) ⟨rfl, ⟨rfl, ⟨rfl, ⟨rfl, ⟨rfl, trivial⟩⟩⟩⟩⟩ (X3_bestFix_L8_ok 5000 a0 a1 (-2) 0 0 h H)
