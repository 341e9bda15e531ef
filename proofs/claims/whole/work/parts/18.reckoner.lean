/-! 18.reckoner: written by wip/whole/gen/all.py -/
theorem dX6_init_0 : decode cX6_init 0 = .ok (.aload_n 0, 1) := by decide +kernel
theorem dX6_init_1 : decode cX6_init 1 = .ok (.invokespecial 3, 3) := by decide +kernel
theorem dX6_init_4 : decode cX6_init 4 = .ok (.aload_n 0, 1) := by decide +kernel
theorem dX6_init_5 : decode cX6_init 5 = .ok (.new 9, 3) := by decide +kernel
theorem dX6_init_8 : decode cX6_init 8 = .ok (.dup, 1) := by decide +kernel
theorem dX6_init_9 : decode cX6_init 9 = .ok (.invokespecial 11, 3) := by decide +kernel
theorem dX6_init_12 : decode cX6_init 12 = .ok (.putfield 12, 3) := by decide +kernel
theorem dX6_init_15 : decode cX6_init 15 = .ok (.aload_n 0, 1) := by decide +kernel
theorem dX6_init_16 : decode cX6_init 16 = .ok (.new 18, 3) := by decide +kernel
theorem dX6_init_19 : decode cX6_init 19 = .ok (.dup, 1) := by decide +kernel
theorem dX6_init_20 : decode cX6_init 20 = .ok (.bipush 12, 2) := by decide +kernel
theorem dX6_init_22 : decode cX6_init 22 = .ok (.iconst 1, 1) := by decide +kernel
theorem dX6_init_23 : decode cX6_init 23 = .ok (.invokespecial 20, 3) := by decide +kernel
theorem dX6_init_26 : decode cX6_init 26 = .ok (.putfield 23, 3) := by decide +kernel
theorem dX6_init_29 : decode cX6_init 29 = .ok (.aload_n 0, 1) := by decide +kernel
theorem dX6_init_30 : decode cX6_init 30 = .ok (.new 27, 3) := by decide +kernel
theorem dX6_init_33 : decode cX6_init 33 = .ok (.dup, 1) := by decide +kernel
theorem dX6_init_34 : decode cX6_init 34 = .ok (.invokespecial 29, 3) := by decide +kernel
theorem dX6_init_37 : decode cX6_init 37 = .ok (.putfield 30, 3) := by decide +kernel
theorem dX6_init_40 : decode cX6_init 40 = .ok (.aload_n 0, 1) := by decide +kernel
theorem dX6_init_41 : decode cX6_init 41 = .ok (.aload_n 1, 1) := by decide +kernel
theorem dX6_init_42 : decode cX6_init 42 = .ok (.putfield 34, 3) := by decide +kernel
theorem dX6_init_45 : decode cX6_init 45 = .ok (.return_, 1) := by decide +kernel
theorem dX6_trialOf_0 : decode cX6_trialOf 0 = .ok (.aload_n 0, 1) := by decide +kernel
theorem dX6_trialOf_1 : decode cX6_trialOf 1 = .ok (.getfield 30, 3) := by decide +kernel
theorem dX6_trialOf_4 : decode cX6_trialOf 4 = .ok (.aload_n 1, 1) := by decide +kernel
theorem dX6_trialOf_5 : decode cX6_trialOf 5 = .ok (.invokevirtual 38, 3) := by decide +kernel
theorem dX6_trialOf_8 : decode cX6_trialOf 8 = .ok (.aload_n 0, 1) := by decide +kernel
theorem dX6_trialOf_9 : decode cX6_trialOf 9 = .ok (.getfield 30, 3) := by decide +kernel
theorem dX6_trialOf_12 : decode cX6_trialOf 12 = .ok (.areturn, 1) := by decide +kernel
theorem dX6_looksIn_0 : decode cX6_looksIn 0 = .ok (.aload_n 1, 1) := by decide +kernel
theorem dX6_looksIn_1 : decode cX6_looksIn 1 = .ok (.getfield 42, 3) := by decide +kernel
theorem dX6_looksIn_4 : decode cX6_looksIn 4 = .ok (.iload_n 2, 1) := by decide +kernel
theorem dX6_looksIn_5 : decode cX6_looksIn 5 = .ok (.iconst 2, 1) := by decide +kernel
theorem dX6_looksIn_6 : decode cX6_looksIn 6 = .ok (.invokevirtual 45, 3) := by decide +kernel
theorem dX6_looksIn_9 : decode cX6_looksIn 9 = .ok (.ifCond .eq 7, 3) := by decide +kernel
theorem dX6_looksIn_12 : decode cX6_looksIn 12 = .ok (.sipush 255, 3) := by decide +kernel
theorem dX6_looksIn_15 : decode cX6_looksIn 15 = .ok (.ireturn, 1) := by decide +kernel
theorem dX6_looksIn_16 : decode cX6_looksIn 16 = .ok (.aload_n 0, 1) := by decide +kernel
theorem dX6_looksIn_17 : decode cX6_looksIn 17 = .ok (.getfield 34, 3) := by decide +kernel
theorem dX6_looksIn_20 : decode cX6_looksIn 20 = .ok (.getfield 49, 3) := by decide +kernel
theorem dX6_looksIn_23 : decode cX6_looksIn 23 = .ok (.aload_n 0, 1) := by decide +kernel
theorem dX6_looksIn_24 : decode cX6_looksIn 24 = .ok (.getfield 34, 3) := by decide +kernel
theorem dX6_looksIn_27 : decode cX6_looksIn 27 = .ok (.getfield 54, 3) := by decide +kernel
theorem dX6_looksIn_30 : decode cX6_looksIn 30 = .ok (.iload_n 2, 1) := by decide +kernel
theorem dX6_looksIn_31 : decode cX6_looksIn 31 = .ok (.iconst 1, 1) := by decide +kernel
theorem dX6_looksIn_32 : decode cX6_looksIn 32 = .ok (.invokevirtual 45, 3) := by decide +kernel
theorem dX6_looksIn_35 : decode cX6_looksIn 35 = .ok (.iconst 1, 1) := by decide +kernel
theorem dX6_looksIn_36 : decode cX6_looksIn 36 = .ok (.invokevirtual 45, 3) := by decide +kernel
theorem dX6_looksIn_39 : decode cX6_looksIn 39 = .ok (.ireturn, 1) := by decide +kernel
theorem dX6_earlyIn_0 : decode cX6_earlyIn 0 = .ok (.aload_n 1, 1) := by decide +kernel
theorem dX6_earlyIn_1 : decode cX6_earlyIn 1 = .ok (.getfield 42, 3) := by decide +kernel
theorem dX6_earlyIn_4 : decode cX6_earlyIn 4 = .ok (.iload_n 2, 1) := by decide +kernel
theorem dX6_earlyIn_5 : decode cX6_earlyIn 5 = .ok (.iconst 0, 1) := by decide +kernel
theorem dX6_earlyIn_6 : decode cX6_earlyIn 6 = .ok (.invokevirtual 45, 3) := by decide +kernel
theorem dX6_earlyIn_9 : decode cX6_earlyIn 9 = .ok (.istore 4, 2) := by decide +kernel
theorem dX6_earlyIn_11 : decode cX6_earlyIn 11 = .ok (.aload_n 0, 1) := by decide +kernel
theorem dX6_earlyIn_12 : decode cX6_earlyIn 12 = .ok (.getfield 34, 3) := by decide +kernel
theorem dX6_earlyIn_15 : decode cX6_earlyIn 15 = .ok (.getfield 63, 3) := by decide +kernel
theorem dX6_earlyIn_18 : decode cX6_earlyIn 18 = .ok (.iload 4, 2) := by decide +kernel
theorem dX6_earlyIn_20 : decode cX6_earlyIn 20 = .ok (.iconst 0, 1) := by decide +kernel
theorem dX6_earlyIn_21 : decode cX6_earlyIn 21 = .ok (.invokevirtual 45, 3) := by decide +kernel
theorem dX6_earlyIn_24 : decode cX6_earlyIn 24 = .ok (.istore 5, 2) := by decide +kernel
theorem dX6_earlyIn_26 : decode cX6_earlyIn 26 = .ok (.aload_n 1, 1) := by decide +kernel
theorem dX6_earlyIn_27 : decode cX6_earlyIn 27 = .ok (.getfield 66, 3) := by decide +kernel
theorem dX6_earlyIn_30 : decode cX6_earlyIn 30 = .ok (.iload 4, 2) := by decide +kernel
theorem dX6_earlyIn_32 : decode cX6_earlyIn 32 = .ok (.iconst 0, 1) := by decide +kernel
theorem dX6_earlyIn_33 : decode cX6_earlyIn 33 = .ok (.invokevirtual 45, 3) := by decide +kernel
theorem dX6_earlyIn_36 : decode cX6_earlyIn 36 = .ok (.istore 6, 2) := by decide +kernel
theorem dX6_earlyIn_38 : decode cX6_earlyIn 38 = .ok (.iload 5, 2) := by decide +kernel
theorem dX6_earlyIn_40 : decode cX6_earlyIn 40 = .ok (.ifCond .ne 5, 3) := by decide +kernel
theorem dX6_earlyIn_43 : decode cX6_earlyIn 43 = .ok (.iconst 0, 1) := by decide +kernel
theorem dX6_earlyIn_44 : decode cX6_earlyIn 44 = .ok (.ireturn, 1) := by decide +kernel
theorem dX6_earlyIn_45 : decode cX6_earlyIn 45 = .ok (.iload_n 3, 1) := by decide +kernel
theorem dX6_earlyIn_46 : decode cX6_earlyIn 46 = .ok (.ifCond .ne 6, 3) := by decide +kernel
theorem dX6_earlyIn_49 : decode cX6_earlyIn 49 = .ok (.iload 6, 2) := by decide +kernel
theorem dX6_earlyIn_51 : decode cX6_earlyIn 51 = .ok (.ireturn, 1) := by decide +kernel
theorem dX6_earlyIn_52 : decode cX6_earlyIn 52 = .ok (.iload 5, 2) := by decide +kernel
theorem dX6_earlyIn_54 : decode cX6_earlyIn 54 = .ok (.iconst 2, 1) := by decide +kernel
theorem dX6_earlyIn_55 : decode cX6_earlyIn 55 = .ok (.if_icmp .ne 10, 3) := by decide +kernel
theorem dX6_earlyIn_58 : decode cX6_earlyIn 58 = .ok (.iload 6, 2) := by decide +kernel
theorem dX6_earlyIn_60 : decode cX6_earlyIn 60 = .ok (.iconst 2, 1) := by decide +kernel
theorem dX6_earlyIn_61 : decode cX6_earlyIn 61 = .ok (.idiv, 1) := by decide +kernel
theorem dX6_earlyIn_62 : decode cX6_earlyIn 62 = .ok (.goto 4, 3) := by decide +kernel
theorem dX6_earlyIn_65 : decode cX6_earlyIn 65 = .ok (.iconst 0, 1) := by decide +kernel
theorem dX6_earlyIn_66 : decode cX6_earlyIn 66 = .ok (.ireturn, 1) := by decide +kernel
theorem dX6_turned_0 : decode cX6_turned 0 = .ok (.aload_n 0, 1) := by decide +kernel
theorem dX6_turned_1 : decode cX6_turned 1 = .ok (.aload_n 1, 1) := by decide +kernel
theorem dX6_turned_2 : decode cX6_turned 2 = .ok (.iload_n 2, 1) := by decide +kernel
theorem dX6_turned_3 : decode cX6_turned 3 = .ok (.aload_n 0, 1) := by decide +kernel
theorem dX6_turned_4 : decode cX6_turned 4 = .ok (.aload_n 1, 1) := by decide +kernel
theorem dX6_turned_5 : decode cX6_turned 5 = .ok (.iload_n 2, 1) := by decide +kernel
theorem dX6_turned_6 : decode cX6_turned 6 = .ok (.invokevirtual 55, 3) := by decide +kernel
theorem dX6_turned_9 : decode cX6_turned 9 = .ok (.iload_n 3, 1) := by decide +kernel
theorem dX6_turned_10 : decode cX6_turned 10 = .ok (.iconst 1, 1) := by decide +kernel
theorem dX6_turned_11 : decode cX6_turned 11 = .ok (.isub, 1) := by decide +kernel
theorem dX6_turned_12 : decode cX6_turned 12 = .ok (.ishr, 1) := by decide +kernel
theorem dX6_turned_13 : decode cX6_turned 13 = .ok (.iconst 1, 1) := by decide +kernel
theorem dX6_turned_14 : decode cX6_turned 14 = .ok (.iand, 1) := by decide +kernel
theorem dX6_turned_15 : decode cX6_turned 15 = .ok (.ifCond .eq 7, 3) := by decide +kernel
theorem dX6_turned_18 : decode cX6_turned 18 = .ok (.iconst 1, 1) := by decide +kernel
theorem dX6_turned_19 : decode cX6_turned 19 = .ok (.goto 4, 3) := by decide +kernel
theorem dX6_turned_22 : decode cX6_turned 22 = .ok (.iconst 0, 1) := by decide +kernel
theorem dX6_turned_23 : decode cX6_turned 23 = .ok (.invokevirtual 59, 3) := by decide +kernel
theorem dX6_turned_26 : decode cX6_turned 26 = .ok (.ireturn, 1) := by decide +kernel
theorem dX6_stolenIn_0 : decode cX6_stolenIn 0 = .ok (.aload_n 0, 1) := by decide +kernel
theorem dX6_stolenIn_1 : decode cX6_stolenIn 1 = .ok (.aload_n 1, 1) := by decide +kernel
theorem dX6_stolenIn_2 : decode cX6_stolenIn 2 = .ok (.iload_n 2, 1) := by decide +kernel
theorem dX6_stolenIn_3 : decode cX6_stolenIn 3 = .ok (.invokevirtual 55, 3) := by decide +kernel
theorem dX6_stolenIn_6 : decode cX6_stolenIn 6 = .ok (.invokestatic 69, 3) := by decide +kernel
theorem dX6_stolenIn_9 : decode cX6_stolenIn 9 = .ok (.istore_n 3, 1) := by decide +kernel
theorem dX6_stolenIn_10 : decode cX6_stolenIn 10 = .ok (.iload_n 3, 1) := by decide +kernel
theorem dX6_stolenIn_11 : decode cX6_stolenIn 11 = .ok (.aload_n 0, 1) := by decide +kernel
theorem dX6_stolenIn_12 : decode cX6_stolenIn 12 = .ok (.aload_n 1, 1) := by decide +kernel
theorem dX6_stolenIn_13 : decode cX6_stolenIn 13 = .ok (.iload_n 2, 1) := by decide +kernel
theorem dX6_stolenIn_14 : decode cX6_stolenIn 14 = .ok (.iconst 1, 1) := by decide +kernel
theorem dX6_stolenIn_15 : decode cX6_stolenIn 15 = .ok (.invokevirtual 59, 3) := by decide +kernel
theorem dX6_stolenIn_18 : decode cX6_stolenIn 18 = .ok (.imul, 1) := by decide +kernel
theorem dX6_stolenIn_19 : decode cX6_stolenIn 19 = .ok (.bipush 8, 2) := by decide +kernel
theorem dX6_stolenIn_21 : decode cX6_stolenIn 21 = .ok (.iload_n 3, 1) := by decide +kernel
theorem dX6_stolenIn_22 : decode cX6_stolenIn 22 = .ok (.isub, 1) := by decide +kernel
theorem dX6_stolenIn_23 : decode cX6_stolenIn 23 = .ok (.aload_n 0, 1) := by decide +kernel
theorem dX6_stolenIn_24 : decode cX6_stolenIn 24 = .ok (.aload_n 1, 1) := by decide +kernel
theorem dX6_stolenIn_25 : decode cX6_stolenIn 25 = .ok (.iload_n 2, 1) := by decide +kernel
theorem dX6_stolenIn_26 : decode cX6_stolenIn 26 = .ok (.iconst 0, 1) := by decide +kernel
theorem dX6_stolenIn_27 : decode cX6_stolenIn 27 = .ok (.invokevirtual 59, 3) := by decide +kernel
theorem dX6_stolenIn_30 : decode cX6_stolenIn 30 = .ok (.imul, 1) := by decide +kernel
theorem dX6_stolenIn_31 : decode cX6_stolenIn 31 = .ok (.iadd, 1) := by decide +kernel
theorem dX6_stolenIn_32 : decode cX6_stolenIn 32 = .ok (.ireturn, 1) := by decide +kernel
theorem dX6_stolenOf_0 : decode cX6_stolenOf 0 = .ok (.iconst 0, 1) := by decide +kernel
theorem dX6_stolenOf_1 : decode cX6_stolenOf 1 = .ok (.istore_n 3, 1) := by decide +kernel
theorem dX6_stolenOf_2 : decode cX6_stolenOf 2 = .ok (.iconst 0, 1) := by decide +kernel
theorem dX6_stolenOf_3 : decode cX6_stolenOf 3 = .ok (.istore 4, 2) := by decide +kernel
theorem dX6_stolenOf_5 : decode cX6_stolenOf 5 = .ok (.iload 4, 2) := by decide +kernel
theorem dX6_stolenOf_7 : decode cX6_stolenOf 7 = .ok (.aload_n 0, 1) := by decide +kernel
theorem dX6_stolenOf_8 : decode cX6_stolenOf 8 = .ok (.getfield 34, 3) := by decide +kernel
theorem dX6_stolenOf_11 : decode cX6_stolenOf 11 = .ok (.getfield 54, 3) := by decide +kernel
theorem dX6_stolenOf_14 : decode cX6_stolenOf 14 = .ok (.getfield 75, 3) := by decide +kernel
theorem dX6_stolenOf_17 : decode cX6_stolenOf 17 = .ok (.if_icmp .ge 33, 3) := by decide +kernel
theorem dX6_stolenOf_20 : decode cX6_stolenOf 20 = .ok (.aload_n 1, 1) := by decide +kernel
theorem dX6_stolenOf_21 : decode cX6_stolenOf 21 = .ok (.getfield 42, 3) := by decide +kernel
theorem dX6_stolenOf_24 : decode cX6_stolenOf 24 = .ok (.iload 4, 2) := by decide +kernel
theorem dX6_stolenOf_26 : decode cX6_stolenOf 26 = .ok (.iconst 0, 1) := by decide +kernel
theorem dX6_stolenOf_27 : decode cX6_stolenOf 27 = .ok (.invokevirtual 45, 3) := by decide +kernel
theorem dX6_stolenOf_30 : decode cX6_stolenOf 30 = .ok (.iload_n 2, 1) := by decide +kernel
theorem dX6_stolenOf_31 : decode cX6_stolenOf 31 = .ok (.if_icmp .ne 13, 3) := by decide +kernel
theorem dX6_stolenOf_34 : decode cX6_stolenOf 34 = .ok (.iload_n 3, 1) := by decide +kernel
theorem dX6_stolenOf_35 : decode cX6_stolenOf 35 = .ok (.aload_n 0, 1) := by decide +kernel
theorem dX6_stolenOf_36 : decode cX6_stolenOf 36 = .ok (.aload_n 1, 1) := by decide +kernel
theorem dX6_stolenOf_37 : decode cX6_stolenOf 37 = .ok (.iload 4, 2) := by decide +kernel
theorem dX6_stolenOf_39 : decode cX6_stolenOf 39 = .ok (.invokevirtual 79, 3) := by decide +kernel
theorem dX6_stolenOf_42 : decode cX6_stolenOf 42 = .ok (.iadd, 1) := by decide +kernel
theorem dX6_stolenOf_43 : decode cX6_stolenOf 43 = .ok (.istore_n 3, 1) := by decide +kernel
theorem dX6_stolenOf_44 : decode cX6_stolenOf 44 = .ok (.iinc 4 1, 3) := by decide +kernel
theorem dX6_stolenOf_47 : decode cX6_stolenOf 47 = .ok (.goto (-42), 3) := by decide +kernel
theorem dX6_stolenOf_50 : decode cX6_stolenOf 50 = .ok (.iload_n 3, 1) := by decide +kernel
theorem dX6_stolenOf_51 : decode cX6_stolenOf 51 = .ok (.ireturn, 1) := by decide +kernel
theorem dX6_reckon_0 : decode cX6_reckon 0 = .ok (.iconst 0, 1) := by decide +kernel
theorem dX6_reckon_1 : decode cX6_reckon 1 = .ok (.istore_n 2, 1) := by decide +kernel
theorem dX6_reckon_2 : decode cX6_reckon 2 = .ok (.iload_n 2, 1) := by decide +kernel
theorem dX6_reckon_3 : decode cX6_reckon 3 = .ok (.aload_n 0, 1) := by decide +kernel
theorem dX6_reckon_4 : decode cX6_reckon 4 = .ok (.getfield 34, 3) := by decide +kernel
theorem dX6_reckon_7 : decode cX6_reckon 7 = .ok (.getfield 54, 3) := by decide +kernel
theorem dX6_reckon_10 : decode cX6_reckon 10 = .ok (.getfield 75, 3) := by decide +kernel
theorem dX6_reckon_13 : decode cX6_reckon 13 = .ok (.if_icmp .ge 24, 3) := by decide +kernel
theorem dX6_reckon_16 : decode cX6_reckon 16 = .ok (.aload_n 0, 1) := by decide +kernel
theorem dX6_reckon_17 : decode cX6_reckon 17 = .ok (.getfield 23, 3) := by decide +kernel
theorem dX6_reckon_20 : decode cX6_reckon 20 = .ok (.iload_n 2, 1) := by decide +kernel
theorem dX6_reckon_21 : decode cX6_reckon 21 = .ok (.iconst 0, 1) := by decide +kernel
theorem dX6_reckon_22 : decode cX6_reckon 22 = .ok (.aload_n 0, 1) := by decide +kernel
theorem dX6_reckon_23 : decode cX6_reckon 23 = .ok (.aload_n 1, 1) := by decide +kernel
theorem dX6_reckon_24 : decode cX6_reckon 24 = .ok (.iload_n 2, 1) := by decide +kernel
theorem dX6_reckon_25 : decode cX6_reckon 25 = .ok (.invokevirtual 79, 3) := by decide +kernel
theorem dX6_reckon_28 : decode cX6_reckon 28 = .ok (.invokevirtual 82, 3) := by decide +kernel
theorem dX6_reckon_31 : decode cX6_reckon 31 = .ok (.iinc 2 1, 3) := by decide +kernel
theorem dX6_reckon_34 : decode cX6_reckon 34 = .ok (.goto (-32), 3) := by decide +kernel
theorem dX6_reckon_37 : decode cX6_reckon 37 = .ok (.return_, 1) := by decide +kernel
theorem dX6_isIdle_0 : decode cX6_isIdle 0 = .ok (.aload_n 0, 1) := by decide +kernel
theorem dX6_isIdle_1 : decode cX6_isIdle 1 = .ok (.bipush 75, 2) := by decide +kernel
theorem dX6_isIdle_3 : decode cX6_isIdle 3 = .ok (.aload_n 0, 1) := by decide +kernel
theorem dX6_isIdle_4 : decode cX6_isIdle 4 = .ok (.getfield 93, 3) := by decide +kernel
theorem dX6_isIdle_7 : decode cX6_isIdle 7 = .ok (.imul, 1) := by decide +kernel
theorem dX6_isIdle_8 : decode cX6_isIdle 8 = .ok (.bipush 74, 2) := by decide +kernel
theorem dX6_isIdle_10 : decode cX6_isIdle 10 = .ok (.iadd, 1) := by decide +kernel
theorem dX6_isIdle_11 : decode cX6_isIdle 11 = .ok (.ldc 96, 2) := by decide +kernel
theorem dX6_isIdle_13 : decode cX6_isIdle 13 = .ok (.irem, 1) := by decide +kernel
theorem dX6_isIdle_14 : decode cX6_isIdle 14 = .ok (.putfield 93, 3) := by decide +kernel
theorem dX6_isIdle_17 : decode cX6_isIdle 17 = .ok (.aload_n 0, 1) := by decide +kernel
theorem dX6_isIdle_18 : decode cX6_isIdle 18 = .ok (.getfield 93, 3) := by decide +kernel
theorem dX6_isIdle_21 : decode cX6_isIdle 21 = .ok (.bipush 100, 2) := by decide +kernel
theorem dX6_isIdle_23 : decode cX6_isIdle 23 = .ok (.irem, 1) := by decide +kernel
theorem dX6_isIdle_24 : decode cX6_isIdle 24 = .ok (.aload_n 0, 1) := by decide +kernel
theorem dX6_isIdle_25 : decode cX6_isIdle 25 = .ok (.getfield 34, 3) := by decide +kernel
theorem dX6_isIdle_28 : decode cX6_isIdle 28 = .ok (.getfield 97, 3) := by decide +kernel
theorem dX6_isIdle_31 : decode cX6_isIdle 31 = .ok (.if_icmp .ge 7, 3) := by decide +kernel
theorem dX6_isIdle_34 : decode cX6_isIdle 34 = .ok (.iconst 1, 1) := by decide +kernel
theorem dX6_isIdle_35 : decode cX6_isIdle 35 = .ok (.goto 4, 3) := by decide +kernel
theorem dX6_isIdle_38 : decode cX6_isIdle 38 = .ok (.iconst 0, 1) := by decide +kernel
theorem dX6_isIdle_39 : decode cX6_isIdle 39 = .ok (.ireturn, 1) := by decide +kernel
theorem dX6_drawnIn_0 : decode cX6_drawnIn 0 = .ok (.aload_n 0, 1) := by decide +kernel
theorem dX6_drawnIn_1 : decode cX6_drawnIn 1 = .ok (.aload_n 1, 1) := by decide +kernel
theorem dX6_drawnIn_2 : decode cX6_drawnIn 2 = .ok (.iload_n 2, 1) := by decide +kernel
theorem dX6_drawnIn_3 : decode cX6_drawnIn 3 = .ok (.invokevirtual 55, 3) := by decide +kernel
theorem dX6_drawnIn_6 : decode cX6_drawnIn 6 = .ok (.istore_n 3, 1) := by decide +kernel
theorem dX6_drawnIn_7 : decode cX6_drawnIn 7 = .ok (.aload_n 0, 1) := by decide +kernel
theorem dX6_drawnIn_8 : decode cX6_drawnIn 8 = .ok (.aload_n 1, 1) := by decide +kernel
theorem dX6_drawnIn_9 : decode cX6_drawnIn 9 = .ok (.iload_n 2, 1) := by decide +kernel
theorem dX6_drawnIn_10 : decode cX6_drawnIn 10 = .ok (.iconst 1, 1) := by decide +kernel
theorem dX6_drawnIn_11 : decode cX6_drawnIn 11 = .ok (.invokevirtual 59, 3) := by decide +kernel
theorem dX6_drawnIn_14 : decode cX6_drawnIn 14 = .ok (.istore 4, 2) := by decide +kernel
theorem dX6_drawnIn_16 : decode cX6_drawnIn 16 = .ok (.aload_n 0, 1) := by decide +kernel
theorem dX6_drawnIn_17 : decode cX6_drawnIn 17 = .ok (.aload_n 1, 1) := by decide +kernel
theorem dX6_drawnIn_18 : decode cX6_drawnIn 18 = .ok (.iload_n 2, 1) := by decide +kernel
theorem dX6_drawnIn_19 : decode cX6_drawnIn 19 = .ok (.iconst 0, 1) := by decide +kernel
theorem dX6_drawnIn_20 : decode cX6_drawnIn 20 = .ok (.invokevirtual 59, 3) := by decide +kernel
theorem dX6_drawnIn_23 : decode cX6_drawnIn 23 = .ok (.istore 5, 2) := by decide +kernel
theorem dX6_drawnIn_25 : decode cX6_drawnIn 25 = .ok (.iconst 0, 1) := by decide +kernel
theorem dX6_drawnIn_26 : decode cX6_drawnIn 26 = .ok (.istore 6, 2) := by decide +kernel
theorem dX6_drawnIn_28 : decode cX6_drawnIn 28 = .ok (.iconst 0, 1) := by decide +kernel
theorem dX6_drawnIn_29 : decode cX6_drawnIn 29 = .ok (.istore 7, 2) := by decide +kernel
theorem dX6_drawnIn_31 : decode cX6_drawnIn 31 = .ok (.iload 7, 2) := by decide +kernel
theorem dX6_drawnIn_33 : decode cX6_drawnIn 33 = .ok (.bipush 8, 2) := by decide +kernel
theorem dX6_drawnIn_35 : decode cX6_drawnIn 35 = .ok (.if_icmp .ge 46, 3) := by decide +kernel
theorem dX6_drawnIn_38 : decode cX6_drawnIn 38 = .ok (.iload_n 3, 1) := by decide +kernel
theorem dX6_drawnIn_39 : decode cX6_drawnIn 39 = .ok (.iload 7, 2) := by decide +kernel
theorem dX6_drawnIn_41 : decode cX6_drawnIn 41 = .ok (.ishr, 1) := by decide +kernel
theorem dX6_drawnIn_42 : decode cX6_drawnIn 42 = .ok (.iconst 1, 1) := by decide +kernel
theorem dX6_drawnIn_43 : decode cX6_drawnIn 43 = .ok (.iand, 1) := by decide +kernel
theorem dX6_drawnIn_44 : decode cX6_drawnIn 44 = .ok (.ifCond .eq 8, 3) := by decide +kernel
theorem dX6_drawnIn_47 : decode cX6_drawnIn 47 = .ok (.iload 4, 2) := by decide +kernel
theorem dX6_drawnIn_49 : decode cX6_drawnIn 49 = .ok (.goto 5, 3) := by decide +kernel
theorem dX6_drawnIn_52 : decode cX6_drawnIn 52 = .ok (.iload 5, 2) := by decide +kernel
theorem dX6_drawnIn_54 : decode cX6_drawnIn 54 = .ok (.istore 8, 2) := by decide +kernel
theorem dX6_drawnIn_56 : decode cX6_drawnIn 56 = .ok (.iload 8, 2) := by decide +kernel
theorem dX6_drawnIn_58 : decode cX6_drawnIn 58 = .ok (.ifCond .le 17, 3) := by decide +kernel
theorem dX6_drawnIn_61 : decode cX6_drawnIn 61 = .ok (.aload_n 0, 1) := by decide +kernel
theorem dX6_drawnIn_62 : decode cX6_drawnIn 62 = .ok (.invokevirtual 89, 3) := by decide +kernel
theorem dX6_drawnIn_65 : decode cX6_drawnIn 65 = .ok (.ifCond .ne 10, 3) := by decide +kernel
theorem dX6_drawnIn_68 : decode cX6_drawnIn 68 = .ok (.iload 6, 2) := by decide +kernel
theorem dX6_drawnIn_70 : decode cX6_drawnIn 70 = .ok (.iload 8, 2) := by decide +kernel
theorem dX6_drawnIn_72 : decode cX6_drawnIn 72 = .ok (.iadd, 1) := by decide +kernel
theorem dX6_drawnIn_73 : decode cX6_drawnIn 73 = .ok (.istore 6, 2) := by decide +kernel
theorem dX6_drawnIn_75 : decode cX6_drawnIn 75 = .ok (.iinc 7 1, 3) := by decide +kernel
theorem dX6_drawnIn_78 : decode cX6_drawnIn 78 = .ok (.goto (-47), 3) := by decide +kernel
theorem dX6_drawnIn_81 : decode cX6_drawnIn 81 = .ok (.iload 6, 2) := by decide +kernel
theorem dX6_drawnIn_83 : decode cX6_drawnIn 83 = .ok (.ireturn, 1) := by decide +kernel
theorem dX6_drawIdle_0 : decode cX6_drawIdle 0 = .ok (.iconst 0, 1) := by decide +kernel
theorem dX6_drawIdle_1 : decode cX6_drawIdle 1 = .ok (.istore_n 2, 1) := by decide +kernel
theorem dX6_drawIdle_2 : decode cX6_drawIdle 2 = .ok (.iload_n 2, 1) := by decide +kernel
theorem dX6_drawIdle_3 : decode cX6_drawIdle 3 = .ok (.aload_n 0, 1) := by decide +kernel
theorem dX6_drawIdle_4 : decode cX6_drawIdle 4 = .ok (.getfield 34, 3) := by decide +kernel
theorem dX6_drawIdle_7 : decode cX6_drawIdle 7 = .ok (.getfield 54, 3) := by decide +kernel
theorem dX6_drawIdle_10 : decode cX6_drawIdle 10 = .ok (.getfield 75, 3) := by decide +kernel
theorem dX6_drawIdle_13 : decode cX6_drawIdle 13 = .ok (.if_icmp .ge 24, 3) := by decide +kernel
theorem dX6_drawIdle_16 : decode cX6_drawIdle 16 = .ok (.aload_n 0, 1) := by decide +kernel
theorem dX6_drawIdle_17 : decode cX6_drawIdle 17 = .ok (.getfield 23, 3) := by decide +kernel
theorem dX6_drawIdle_20 : decode cX6_drawIdle 20 = .ok (.iload_n 2, 1) := by decide +kernel
theorem dX6_drawIdle_21 : decode cX6_drawIdle 21 = .ok (.iconst 0, 1) := by decide +kernel
theorem dX6_drawIdle_22 : decode cX6_drawIdle 22 = .ok (.aload_n 0, 1) := by decide +kernel
theorem dX6_drawIdle_23 : decode cX6_drawIdle 23 = .ok (.aload_n 1, 1) := by decide +kernel
theorem dX6_drawIdle_24 : decode cX6_drawIdle 24 = .ok (.iload_n 2, 1) := by decide +kernel
theorem dX6_drawIdle_25 : decode cX6_drawIdle 25 = .ok (.invokevirtual 86, 3) := by decide +kernel
theorem dX6_drawIdle_28 : decode cX6_drawIdle 28 = .ok (.invokevirtual 82, 3) := by decide +kernel
theorem dX6_drawIdle_31 : decode cX6_drawIdle 31 = .ok (.iinc 2 1, 3) := by decide +kernel
theorem dX6_drawIdle_34 : decode cX6_drawIdle 34 = .ok (.goto (-32), 3) := by decide +kernel
theorem dX6_drawIdle_37 : decode cX6_drawIdle 37 = .ok (.return_, 1) := by decide +kernel
theorem dX6_lostBy_0 : decode cX6_lostBy 0 = .ok (.iconst 0, 1) := by decide +kernel
theorem dX6_lostBy_1 : decode cX6_lostBy 1 = .ok (.istore_n 2, 1) := by decide +kernel
theorem dX6_lostBy_2 : decode cX6_lostBy 2 = .ok (.iconst 0, 1) := by decide +kernel
theorem dX6_lostBy_3 : decode cX6_lostBy 3 = .ok (.istore_n 3, 1) := by decide +kernel
theorem dX6_lostBy_4 : decode cX6_lostBy 4 = .ok (.iload_n 3, 1) := by decide +kernel
theorem dX6_lostBy_5 : decode cX6_lostBy 5 = .ok (.iload_n 1, 1) := by decide +kernel
theorem dX6_lostBy_6 : decode cX6_lostBy 6 = .ok (.if_icmp .ge 21, 3) := by decide +kernel
theorem dX6_lostBy_9 : decode cX6_lostBy 9 = .ok (.iload_n 2, 1) := by decide +kernel
theorem dX6_lostBy_10 : decode cX6_lostBy 10 = .ok (.aload_n 0, 1) := by decide +kernel
theorem dX6_lostBy_11 : decode cX6_lostBy 11 = .ok (.getfield 23, 3) := by decide +kernel
theorem dX6_lostBy_14 : decode cX6_lostBy 14 = .ok (.iload_n 3, 1) := by decide +kernel
theorem dX6_lostBy_15 : decode cX6_lostBy 15 = .ok (.iconst 0, 1) := by decide +kernel
theorem dX6_lostBy_16 : decode cX6_lostBy 16 = .ok (.invokevirtual 45, 3) := by decide +kernel
theorem dX6_lostBy_19 : decode cX6_lostBy 19 = .ok (.iadd, 1) := by decide +kernel
theorem dX6_lostBy_20 : decode cX6_lostBy 20 = .ok (.istore_n 2, 1) := by decide +kernel
theorem dX6_lostBy_21 : decode cX6_lostBy 21 = .ok (.iinc 3 1, 3) := by decide +kernel
theorem dX6_lostBy_24 : decode cX6_lostBy 24 = .ok (.goto (-20), 3) := by decide +kernel
theorem dX6_lostBy_27 : decode cX6_lostBy 27 = .ok (.iload_n 2, 1) := by decide +kernel
theorem dX6_lostBy_28 : decode cX6_lostBy 28 = .ok (.ireturn, 1) := by decide +kernel
theorem dX6_isNoonSeen_0 : decode cX6_isNoonSeen 0 = .ok (.iconst 0, 1) := by decide +kernel
theorem dX6_isNoonSeen_1 : decode cX6_isNoonSeen 1 = .ok (.istore_n 3, 1) := by decide +kernel
theorem dX6_isNoonSeen_2 : decode cX6_isNoonSeen 2 = .ok (.iload_n 3, 1) := by decide +kernel
theorem dX6_isNoonSeen_3 : decode cX6_isNoonSeen 3 = .ok (.aload_n 0, 1) := by decide +kernel
theorem dX6_isNoonSeen_4 : decode cX6_isNoonSeen 4 = .ok (.getfield 34, 3) := by decide +kernel
theorem dX6_isNoonSeen_7 : decode cX6_isNoonSeen 7 = .ok (.getfield 126, 3) := by decide +kernel
theorem dX6_isNoonSeen_10 : decode cX6_isNoonSeen 10 = .ok (.getfield 75, 3) := by decide +kernel
theorem dX6_isNoonSeen_13 : decode cX6_isNoonSeen 13 = .ok (.if_icmp .ge 42, 3) := by decide +kernel
theorem dX6_isNoonSeen_16 : decode cX6_isNoonSeen 16 = .ok (.aload_n 0, 1) := by decide +kernel
theorem dX6_isNoonSeen_17 : decode cX6_isNoonSeen 17 = .ok (.getfield 34, 3) := by decide +kernel
theorem dX6_isNoonSeen_20 : decode cX6_isNoonSeen 20 = .ok (.getfield 126, 3) := by decide +kernel
theorem dX6_isNoonSeen_23 : decode cX6_isNoonSeen 23 = .ok (.iload_n 3, 1) := by decide +kernel
theorem dX6_isNoonSeen_24 : decode cX6_isNoonSeen 24 = .ok (.iconst 0, 1) := by decide +kernel
theorem dX6_isNoonSeen_25 : decode cX6_isNoonSeen 25 = .ok (.invokevirtual 45, 3) := by decide +kernel
theorem dX6_isNoonSeen_28 : decode cX6_isNoonSeen 28 = .ok (.iload_n 2, 1) := by decide +kernel
theorem dX6_isNoonSeen_29 : decode cX6_isNoonSeen 29 = .ok (.if_icmp .ne 20, 3) := by decide +kernel
theorem dX6_isNoonSeen_32 : decode cX6_isNoonSeen 32 = .ok (.aload_n 1, 1) := by decide +kernel
theorem dX6_isNoonSeen_33 : decode cX6_isNoonSeen 33 = .ok (.getfield 129, 3) := by decide +kernel
theorem dX6_isNoonSeen_36 : decode cX6_isNoonSeen 36 = .ok (.iload_n 3, 1) := by decide +kernel
theorem dX6_isNoonSeen_37 : decode cX6_isNoonSeen 37 = .ok (.ishr, 1) := by decide +kernel
theorem dX6_isNoonSeen_38 : decode cX6_isNoonSeen 38 = .ok (.iconst 1, 1) := by decide +kernel
theorem dX6_isNoonSeen_39 : decode cX6_isNoonSeen 39 = .ok (.iand, 1) := by decide +kernel
theorem dX6_isNoonSeen_40 : decode cX6_isNoonSeen 40 = .ok (.ifCond .eq 7, 3) := by decide +kernel
theorem dX6_isNoonSeen_43 : decode cX6_isNoonSeen 43 = .ok (.iconst 1, 1) := by decide +kernel
theorem dX6_isNoonSeen_44 : decode cX6_isNoonSeen 44 = .ok (.goto 4, 3) := by decide +kernel
theorem dX6_isNoonSeen_47 : decode cX6_isNoonSeen 47 = .ok (.iconst 0, 1) := by decide +kernel
theorem dX6_isNoonSeen_48 : decode cX6_isNoonSeen 48 = .ok (.ireturn, 1) := by decide +kernel
theorem dX6_isNoonSeen_49 : decode cX6_isNoonSeen 49 = .ok (.iinc 3 1, 3) := by decide +kernel
theorem dX6_isNoonSeen_52 : decode cX6_isNoonSeen 52 = .ok (.goto (-50), 3) := by decide +kernel
theorem dX6_isNoonSeen_55 : decode cX6_isNoonSeen 55 = .ok (.iconst 0, 1) := by decide +kernel
theorem dX6_isNoonSeen_56 : decode cX6_isNoonSeen 56 = .ok (.ireturn, 1) := by decide +kernel
theorem dX6_sail_0 : decode cX6_sail 0 = .ok (.iload_n 2, 1) := by decide +kernel
theorem dX6_sail_1 : decode cX6_sail 1 = .ok (.ifCond .ne 24, 3) := by decide +kernel
theorem dX6_sail_4 : decode cX6_sail 4 = .ok (.aload_n 0, 1) := by decide +kernel
theorem dX6_sail_5 : decode cX6_sail 5 = .ok (.getfield 12, 3) := by decide +kernel
theorem dX6_sail_8 : decode cX6_sail 8 = .ok (.aload_n 0, 1) := by decide +kernel
theorem dX6_sail_9 : decode cX6_sail 9 = .ok (.getfield 34, 3) := by decide +kernel
theorem dX6_sail_12 : decode cX6_sail 12 = .ok (.getfield 107, 3) := by decide +kernel
theorem dX6_sail_15 : decode cX6_sail 15 = .ok (.aload_n 0, 1) := by decide +kernel
theorem dX6_sail_16 : decode cX6_sail 16 = .ok (.getfield 34, 3) := by decide +kernel
theorem dX6_sail_19 : decode cX6_sail 19 = .ok (.getfield 110, 3) := by decide +kernel
theorem dX6_sail_22 : decode cX6_sail 22 = .ok (.invokevirtual 113, 3) := by decide +kernel
theorem dX6_sail_25 : decode cX6_sail 25 = .ok (.iload_n 2, 1) := by decide +kernel
theorem dX6_sail_26 : decode cX6_sail 26 = .ok (.istore 4, 2) := by decide +kernel
theorem dX6_sail_28 : decode cX6_sail 28 = .ok (.iload 4, 2) := by decide +kernel
theorem dX6_sail_30 : decode cX6_sail 30 = .ok (.iload_n 3, 1) := by decide +kernel
theorem dX6_sail_31 : decode cX6_sail 31 = .ok (.if_icmp .ge 87, 3) := by decide +kernel
theorem dX6_sail_34 : decode cX6_sail 34 = .ok (.aload_n 0, 1) := by decide +kernel
theorem dX6_sail_35 : decode cX6_sail 35 = .ok (.getfield 34, 3) := by decide +kernel
theorem dX6_sail_38 : decode cX6_sail 38 = .ok (.getfield 54, 3) := by decide +kernel
theorem dX6_sail_41 : decode cX6_sail 41 = .ok (.iload 4, 2) := by decide +kernel
theorem dX6_sail_43 : decode cX6_sail 43 = .ok (.iconst 3, 1) := by decide +kernel
theorem dX6_sail_44 : decode cX6_sail 44 = .ok (.invokevirtual 45, 3) := by decide +kernel
theorem dX6_sail_47 : decode cX6_sail 47 = .ok (.istore 5, 2) := by decide +kernel
theorem dX6_sail_49 : decode cX6_sail 49 = .ok (.sipush 240, 3) := by decide +kernel
theorem dX6_sail_52 : decode cX6_sail 52 = .ok (.aload_n 0, 1) := by decide +kernel
theorem dX6_sail_53 : decode cX6_sail 53 = .ok (.getfield 23, 3) := by decide +kernel
theorem dX6_sail_56 : decode cX6_sail 56 = .ok (.iload 4, 2) := by decide +kernel
theorem dX6_sail_58 : decode cX6_sail 58 = .ok (.iconst 0, 1) := by decide +kernel
theorem dX6_sail_59 : decode cX6_sail 59 = .ok (.invokevirtual 45, 3) := by decide +kernel
theorem dX6_sail_62 : decode cX6_sail 62 = .ok (.isub, 1) := by decide +kernel
theorem dX6_sail_63 : decode cX6_sail 63 = .ok (.istore 6, 2) := by decide +kernel
theorem dX6_sail_65 : decode cX6_sail 65 = .ok (.aload_n 0, 1) := by decide +kernel
theorem dX6_sail_66 : decode cX6_sail 66 = .ok (.getfield 12, 3) := by decide +kernel
theorem dX6_sail_69 : decode cX6_sail 69 = .ok (.aload_n 1, 1) := by decide +kernel
theorem dX6_sail_70 : decode cX6_sail 70 = .ok (.getfield 42, 3) := by decide +kernel
theorem dX6_sail_73 : decode cX6_sail 73 = .ok (.iload 4, 2) := by decide +kernel
theorem dX6_sail_75 : decode cX6_sail 75 = .ok (.iconst 1, 1) := by decide +kernel
theorem dX6_sail_76 : decode cX6_sail 76 = .ok (.invokevirtual 45, 3) := by decide +kernel
theorem dX6_sail_79 : decode cX6_sail 79 = .ok (.iload 6, 2) := by decide +kernel
theorem dX6_sail_81 : decode cX6_sail 81 = .ok (.iload 5, 2) := by decide +kernel
theorem dX6_sail_83 : decode cX6_sail 83 = .ok (.imul, 1) := by decide +kernel
theorem dX6_sail_84 : decode cX6_sail 84 = .ok (.sipush 240, 3) := by decide +kernel
theorem dX6_sail_87 : decode cX6_sail 87 = .ok (.iload 5, 2) := by decide +kernel
theorem dX6_sail_89 : decode cX6_sail 89 = .ok (.imul, 1) := by decide +kernel
theorem dX6_sail_90 : decode cX6_sail 90 = .ok (.invokevirtual 116, 3) := by decide +kernel
theorem dX6_sail_93 : decode cX6_sail 93 = .ok (.aload_n 0, 1) := by decide +kernel
theorem dX6_sail_94 : decode cX6_sail 94 = .ok (.aload_n 1, 1) := by decide +kernel
theorem dX6_sail_95 : decode cX6_sail 95 = .ok (.iload 4, 2) := by decide +kernel
theorem dX6_sail_97 : decode cX6_sail 97 = .ok (.iconst 1, 1) := by decide +kernel
theorem dX6_sail_98 : decode cX6_sail 98 = .ok (.iadd, 1) := by decide +kernel
theorem dX6_sail_99 : decode cX6_sail 99 = .ok (.invokevirtual 119, 3) := by decide +kernel
theorem dX6_sail_102 : decode cX6_sail 102 = .ok (.ifCond .eq 10, 3) := by decide +kernel
theorem dX6_sail_105 : decode cX6_sail 105 = .ok (.aload_n 0, 1) := by decide +kernel
theorem dX6_sail_106 : decode cX6_sail 106 = .ok (.getfield 12, 3) := by decide +kernel
theorem dX6_sail_109 : decode cX6_sail 109 = .ok (.invokevirtual 123, 3) := by decide +kernel
theorem dX6_sail_112 : decode cX6_sail 112 = .ok (.iinc 4 1, 3) := by decide +kernel
theorem dX6_sail_115 : decode cX6_sail 115 = .ok (.goto (-87), 3) := by decide +kernel
theorem dX6_sail_118 : decode cX6_sail 118 = .ok (.return_, 1) := by decide +kernel
theorem dX6_sailFor_0 : decode cX6_sailFor 0 = .ok (.aload_n 0, 1) := by decide +kernel
theorem dX6_sailFor_1 : decode cX6_sailFor 1 = .ok (.aload_n 1, 1) := by decide +kernel
theorem dX6_sailFor_2 : decode cX6_sailFor 2 = .ok (.invokevirtual 100, 3) := by decide +kernel
theorem dX6_sailFor_5 : decode cX6_sailFor 5 = .ok (.aload_n 0, 1) := by decide +kernel
theorem dX6_sailFor_6 : decode cX6_sailFor 6 = .ok (.aload_n 1, 1) := by decide +kernel
theorem dX6_sailFor_7 : decode cX6_sailFor 7 = .ok (.iconst 0, 1) := by decide +kernel
theorem dX6_sailFor_8 : decode cX6_sailFor 8 = .ok (.iload_n 2, 1) := by decide +kernel
theorem dX6_sailFor_9 : decode cX6_sailFor 9 = .ok (.invokevirtual 103, 3) := by decide +kernel
theorem dX6_sailFor_12 : decode cX6_sailFor 12 = .ok (.aload_n 0, 1) := by decide +kernel
theorem dX6_sailFor_13 : decode cX6_sailFor 13 = .ok (.getfield 12, 3) := by decide +kernel
theorem dX6_sailFor_16 : decode cX6_sailFor 16 = .ok (.areturn, 1) := by decide +kernel
theorem dX6_firstStrike_0 : decode cX6_firstStrike 0 = .ok (.iconst 0, 1) := by decide +kernel
theorem dX6_firstStrike_1 : decode cX6_firstStrike 1 = .ok (.istore_n 3, 1) := by decide +kernel
theorem dX6_firstStrike_2 : decode cX6_firstStrike 2 = .ok (.iload_n 3, 1) := by decide +kernel
theorem dX6_firstStrike_3 : decode cX6_firstStrike 3 = .ok (.aload_n 0, 1) := by decide +kernel
theorem dX6_firstStrike_4 : decode cX6_firstStrike 4 = .ok (.getfield 34, 3) := by decide +kernel
theorem dX6_firstStrike_7 : decode cX6_firstStrike 7 = .ok (.getfield 54, 3) := by decide +kernel
theorem dX6_firstStrike_10 : decode cX6_firstStrike 10 = .ok (.getfield 75, 3) := by decide +kernel
theorem dX6_firstStrike_13 : decode cX6_firstStrike 13 = .ok (.if_icmp .gt 63, 3) := by decide +kernel
theorem dX6_firstStrike_16 : decode cX6_firstStrike 16 = .ok (.aload_n 0, 1) := by decide +kernel
theorem dX6_firstStrike_17 : decode cX6_firstStrike 17 = .ok (.aload_n 1, 1) := by decide +kernel
theorem dX6_firstStrike_18 : decode cX6_firstStrike 18 = .ok (.iload_n 3, 1) := by decide +kernel
theorem dX6_firstStrike_19 : decode cX6_firstStrike 19 = .ok (.iconst 1, 1) := by decide +kernel
theorem dX6_firstStrike_20 : decode cX6_firstStrike 20 = .ok (.isub, 1) := by decide +kernel
theorem dX6_firstStrike_21 : decode cX6_firstStrike 21 = .ok (.iconst 0, 1) := by decide +kernel
theorem dX6_firstStrike_22 : decode cX6_firstStrike 22 = .ok (.invokestatic 132, 3) := by decide +kernel
theorem dX6_firstStrike_25 : decode cX6_firstStrike 25 = .ok (.iload_n 3, 1) := by decide +kernel
theorem dX6_firstStrike_26 : decode cX6_firstStrike 26 = .ok (.invokevirtual 103, 3) := by decide +kernel
theorem dX6_firstStrike_29 : decode cX6_firstStrike 29 = .ok (.iload_n 2, 1) := by decide +kernel
theorem dX6_firstStrike_30 : decode cX6_firstStrike 30 = .ok (.ifCond .eq 13, 3) := by decide +kernel
theorem dX6_firstStrike_33 : decode cX6_firstStrike 33 = .ok (.aload_n 0, 1) := by decide +kernel
theorem dX6_firstStrike_34 : decode cX6_firstStrike 34 = .ok (.getfield 12, 3) := by decide +kernel
theorem dX6_firstStrike_37 : decode cX6_firstStrike 37 = .ok (.invokevirtual 137, 3) := by decide +kernel
theorem dX6_firstStrike_40 : decode cX6_firstStrike 40 = .ok (.goto 10, 3) := by decide +kernel
theorem dX6_firstStrike_43 : decode cX6_firstStrike 43 = .ok (.aload_n 0, 1) := by decide +kernel
theorem dX6_firstStrike_44 : decode cX6_firstStrike 44 = .ok (.getfield 12, 3) := by decide +kernel
theorem dX6_firstStrike_47 : decode cX6_firstStrike 47 = .ok (.invokevirtual 141, 3) := by decide +kernel
theorem dX6_firstStrike_50 : decode cX6_firstStrike 50 = .ok (.istore 4, 2) := by decide +kernel
theorem dX6_firstStrike_52 : decode cX6_firstStrike 52 = .ok (.aload_n 0, 1) := by decide +kernel
theorem dX6_firstStrike_53 : decode cX6_firstStrike 53 = .ok (.getfield 34, 3) := by decide +kernel
theorem dX6_firstStrike_56 : decode cX6_firstStrike 56 = .ok (.getfield 144, 3) := by decide +kernel
theorem dX6_firstStrike_59 : decode cX6_firstStrike 59 = .ok (.iconst 0, 1) := by decide +kernel
theorem dX6_firstStrike_60 : decode cX6_firstStrike 60 = .ok (.iload 4, 2) := by decide +kernel
theorem dX6_firstStrike_62 : decode cX6_firstStrike 62 = .ok (.invokevirtual 147, 3) := by decide +kernel
theorem dX6_firstStrike_65 : decode cX6_firstStrike 65 = .ok (.ifCond .eq 5, 3) := by decide +kernel
theorem dX6_firstStrike_68 : decode cX6_firstStrike 68 = .ok (.iload_n 3, 1) := by decide +kernel
theorem dX6_firstStrike_69 : decode cX6_firstStrike 69 = .ok (.ireturn, 1) := by decide +kernel
theorem dX6_firstStrike_70 : decode cX6_firstStrike 70 = .ok (.iinc 3 1, 3) := by decide +kernel
theorem dX6_firstStrike_73 : decode cX6_firstStrike 73 = .ok (.goto (-71), 3) := by decide +kernel
theorem dX6_firstStrike_76 : decode cX6_firstStrike 76 = .ok (.bipush (-2), 2) := by decide +kernel
theorem dX6_firstStrike_78 : decode cX6_firstStrike 78 = .ok (.ireturn, 1) := by decide +kernel
def M_X6_init : MD := (yX6_init, cX6_init, 2, none, 3, 63, 8, 163)
theorem ci_X6_init : CIo M_X6_init 1 := ⟨⟨wd_351, wd_116, ⟨by decide, by decide⟩, by decide +kernel⟩, wd_350, rfl, rfl⟩
def X6_init (a0 : Nat) (a1 : Nat) (h : Hp) : Option (Hp) :=
  pin (nw h (.inr (7, [.int 0, .int 0, .int 0, .int 0]))) fun h1 =>
  (X7_init h.1 h1).bind fun h2 =>
  (pF h2 a0 6 0 (.ref h.1)).bind fun h3 =>
  pin (nw h3 (.inr (8, [.int 0, .int 0, .null, .int 0]))) fun h4 =>
  (X8_init h3.1 12 1 h4).bind fun h5 =>
  (pF h5 a0 6 1 (.ref h3.1)).bind fun h6 =>
  pin (nw h6 (.inr (4, [.null, .null, .int 0]))) fun h7 =>
  (X4_init h6.1 h7).bind fun h8 =>
  (pF h8 a0 6 2 (.ref h6.1)).bind fun h9 =>
  (pF h9 a0 6 3 (.ref a1)).bind fun h10 =>
  some h10
theorem X6_init_ok {a0 : Nat} {a1 : Nat} {h h' : Hp} (H : X6_init a0 a1 h = some h') : Con M_X6_init [.ref a0, .ref a1] h none h' := by
  refine con_of_go (by decide) 0 (L := [some (.ref a0), some (.ref a1)]) rfl (Nat.le_of_ble_eq_true rfl) ?_
  unfold X6_init at H
  refine go_aload_n (pc := 0) dX6_init_0 rfl rfl ?_
  refine go_objInit (pc := 1) dX6_init_1 wd_352 wd_137 wd_138 (Nat.le_of_ble_eq_true rfl) (Nat.le_of_ble_eq_true rfl) ?_
  refine go_aload_n (pc := 4) dX6_init_4 rfl rfl ?_
  refine go_new (pc := 5) dX6_init_5 nl_X6_9 (Nat.le_of_ble_eq_true rfl) (Nat.le_of_ble_eq_true rfl) ?_
  refine go_pinH H (fun h1 H => ?_)
  refine go_dup (pc := 8) dX6_init_8 rfl ?_
  refine go_cINv (host := "GlassWatch") (pc := 9) (Mz := M_X7_init) (as := []) (a := h.1) (st := [.ref h.1, .ref a0]) dX6_init_9 (by decide +kernel) ci_X7_init X7_init_ok rfl rfl ⟨Nat.le_of_ble_eq_true rfl, Nat.le_of_ble_eq_true rfl⟩ (Nat.le_of_ble_eq_true rfl) ⟨Nat.le_of_ble_eq_true rfl, Nat.le_of_ble_eq_true rfl⟩ H (fun h2 H => ?_)
  refine go_putRF (pc := 12) dX6_init_12 fs_X6_12 ⟨rfl, _, rfl, rfl⟩ H (fun h3 H => ?_)
  refine go_aload_n (pc := 15) dX6_init_15 rfl rfl ?_
  refine go_new (pc := 16) dX6_init_16 nl_X6_18 (Nat.le_of_ble_eq_true rfl) (Nat.le_of_ble_eq_true rfl) ?_
  refine go_pinH H (fun h4 H => ?_)
  refine go_dup (pc := 19) dX6_init_19 rfl ?_
  refine go_bipush (pc := 20) (v := 12) dX6_init_20 (by decide) ?_
  refine go_iconst (pc := 22) (v := 1) dX6_init_22 (by decide) ?_
  refine go_cIv (pc := 23) (Mz := M_X8_init) (as := [.int 12, .int 1]) (a := h3.1) (st := [.ref h3.1, .ref a0]) dX6_init_23 wd_377 ci_X8_init X8_init_ok rfl rfl ⟨Nat.le_of_ble_eq_true rfl, Nat.le_of_ble_eq_true rfl⟩ (Nat.le_of_ble_eq_true rfl) ⟨Nat.le_of_ble_eq_true rfl, Nat.le_of_ble_eq_true rfl⟩ H (fun h5 H => ?_)
  refine go_putRF (pc := 26) dX6_init_26 fs_X6_23 ⟨rfl, _, rfl, rfl⟩ H (fun h6 H => ?_)
  refine go_aload_n (pc := 29) dX6_init_29 rfl rfl ?_
  refine go_new (pc := 30) dX6_init_30 nl_X6_27 (Nat.le_of_ble_eq_true rfl) (Nat.le_of_ble_eq_true rfl) ?_
  refine go_pinH H (fun h7 H => ?_)
  refine go_dup (pc := 33) dX6_init_33 rfl ?_
  refine go_cINv (host := "GlassWatch") (pc := 34) (Mz := M_X4_init) (as := []) (a := h6.1) (st := [.ref h6.1, .ref a0]) dX6_init_34 (by decide +kernel) ci_X4_init X4_init_ok rfl rfl ⟨Nat.le_of_ble_eq_true rfl, Nat.le_of_ble_eq_true rfl⟩ (Nat.le_of_ble_eq_true rfl) ⟨Nat.le_of_ble_eq_true rfl, Nat.le_of_ble_eq_true rfl⟩ H (fun h8 H => ?_)
  refine go_putRF (pc := 37) dX6_init_37 fs_X6_30 ⟨rfl, _, rfl, rfl⟩ H (fun h9 H => ?_)
  refine go_aload_n (pc := 40) dX6_init_40 rfl rfl ?_
  refine go_aload_n (pc := 41) dX6_init_41 rfl rfl ?_
  refine go_putR (pc := 42) dX6_init_42 fs_X6_34 H (fun h10 H => ?_)
  exact go_vret (pc := 45) dX6_init_45 rfl ⟨Nat.le_of_ble_eq_true rfl, Nat.le_of_ble_eq_true rfl⟩ H

def M_X6_trialOf : MD := (yX6_trialOf, cX6_trialOf, 2, (some (.object "GlassWatch$Keeping")), 2, 43, 0, 0)
theorem cv_X6_trialOf : CVo M_X6_trialOf 1 6 := ⟨⟨wd_945, wd_116, ⟨by decide, by decide⟩, by decide +kernel⟩, wd_943, wd_944, _, rfl, rfl⟩
def X6_trialOf (a0 : Nat) (a1 : Nat) (h : Hp) : Option (Nat × Hp) :=
  (gR h a0 6 2).bind fun v1 =>
  cVv h v1 4 (X4_copyFrom v1 a1 h) fun h2 =>
  (gR h2 a0 6 2).bind fun v3 =>
  some (v3, h2)
theorem X6_trialOf_ok {a0 : Nat} {a1 : Nat} {h h' : Hp} {r : Nat} (H : X6_trialOf a0 a1 h = some (r, h')) : Con M_X6_trialOf [.ref a0, .ref a1] h (some (.ref r)) h' := by
  refine con_of_go (by decide) 0 (L := [some (.ref a0), some (.ref a1)]) rfl (Nat.le_of_ble_eq_true rfl) ?_
  unfold X6_trialOf at H
  refine go_aload_n (pc := 0) dX6_trialOf_0 rfl rfl ?_
  refine go_getR (pc := 1) dX6_trialOf_1 fl_X6_30 H (fun v1 H => ?_)
  refine go_aload_n (pc := 4) dX6_trialOf_4 rfl rfl ?_
  refine go_cVv (pc := 5) (Mz := M_X4_copyFrom) (as := [.ref a1]) (a := v1) (st := []) dX6_trialOf_5 wd_946 cv_X4_copyFrom X4_copyFrom_ok rfl rfl ⟨Nat.le_of_ble_eq_true rfl, Nat.le_of_ble_eq_true rfl⟩ (Nat.le_of_ble_eq_true rfl) ⟨rfl, rfl⟩ ⟨Nat.le_of_ble_eq_true rfl, Nat.le_of_ble_eq_true rfl⟩ H (fun h2 H => ?_)
  refine go_aload_n (pc := 8) dX6_trialOf_8 rfl rfl ?_
  refine go_getR (pc := 9) dX6_trialOf_9 fl_X6_30 H (fun v3 H => ?_)
  exact go_aret (pc := 12) dX6_trialOf_12 rfl ⟨Nat.le_of_ble_eq_true rfl, Nat.le_of_ble_eq_true rfl⟩ H

def M_X6_looksIn : MD := (yX6_looksIn, cX6_looksIn, 3, (some .int), 1, 22, 0, 0)
theorem cv_X6_looksIn : CVo M_X6_looksIn 2 6 := ⟨⟨wd_757, wd_116, ⟨by decide, by decide⟩, by decide +kernel⟩, wd_755, wd_756, _, rfl, rfl⟩
def X6_looksIn (a0 : Nat) (a1 : Nat) (a2 : Int32) (h : Hp) : Option (Int32 × Hp) :=
  (gR h a1 4 0).bind fun v1 =>
  cV h v1 8 (X8_cell v1 a2 2 h) fun v3 h2 =>
  if v3 = 0 then (
    (gR h2 a0 6 3).bind fun v4 =>
    (gR h2 v4 9 1).bind fun v5 =>
    (gR h2 a0 6 3).bind fun v6 =>
    (gR h2 v6 9 2).bind fun v7 =>
    cV h2 v7 8 (X8_cell v7 a2 1 h2) fun v9 h8 =>
    cV h8 v5 8 (X8_cell v5 v9 1 h8) fun v11 h10 =>
    some (v11, h10))
  else (
    some (255, h2))
theorem X6_looksIn_ok {a0 : Nat} {a1 : Nat} {a2 : Int32} {h h' : Hp} {r : Int32} (H : X6_looksIn a0 a1 a2 h = some (r, h')) : Con M_X6_looksIn [.ref a0, .ref a1, .int a2] h (some (.int r)) h' := by
  refine con_of_go (by decide) 0 (L := [some (.ref a0), some (.ref a1), some (.int a2)]) rfl (Nat.le_of_ble_eq_true rfl) ?_
  unfold X6_looksIn at H
  refine go_aload_n (pc := 0) dX6_looksIn_0 rfl rfl ?_
  refine go_getR (pc := 1) dX6_looksIn_1 fl_X6_42 H (fun v1 H => ?_)
  refine go_iload_n (pc := 4) dX6_looksIn_4 rfl rfl ?_
  refine go_iconst (pc := 5) (v := 2) dX6_looksIn_5 (by decide) ?_
  refine go_cVi (pc := 6) (Mz := M_X8_cell) (as := [.int a2, .int 2]) (a := v1) (st := []) dX6_looksIn_6 wd_758 cv_X8_cell X8_cell_ok rfl rfl ⟨Nat.le_of_ble_eq_true rfl, Nat.le_of_ble_eq_true rfl⟩ (Nat.le_of_ble_eq_true rfl) ⟨rfl, rfl⟩ ⟨Nat.le_of_ble_eq_true rfl, Nat.le_of_ble_eq_true rfl⟩ H (fun v3 h2 H => ?_)
  refine go_if_eq (pc := 9) (tgt := 16) dX6_looksIn_9 (by decide) H (fun H => ?_) (fun H => ?_)
  · refine go_aload_n (pc := 16) dX6_looksIn_16 rfl rfl ?_
    refine go_getR (pc := 17) dX6_looksIn_17 fl_X6_34 H (fun v4 H => ?_)
    refine go_getR (pc := 20) dX6_looksIn_20 fl_X6_49 H (fun v5 H => ?_)
    refine go_aload_n (pc := 23) dX6_looksIn_23 rfl rfl ?_
    refine go_getR (pc := 24) dX6_looksIn_24 fl_X6_34 H (fun v6 H => ?_)
    refine go_getR (pc := 27) dX6_looksIn_27 fl_X6_54 H (fun v7 H => ?_)
    refine go_iload_n (pc := 30) dX6_looksIn_30 rfl rfl ?_
    refine go_iconst (pc := 31) (v := 1) dX6_looksIn_31 (by decide) ?_
    refine go_cVi (pc := 32) (Mz := M_X8_cell) (as := [.int a2, .int 1]) (a := v7) (st := [.ref v5]) dX6_looksIn_32 wd_758 cv_X8_cell X8_cell_ok rfl rfl ⟨Nat.le_of_ble_eq_true rfl, Nat.le_of_ble_eq_true rfl⟩ (Nat.le_of_ble_eq_true rfl) ⟨rfl, rfl⟩ ⟨Nat.le_of_ble_eq_true rfl, Nat.le_of_ble_eq_true rfl⟩ H (fun v9 h8 H => ?_)
    refine go_iconst (pc := 35) (v := 1) dX6_looksIn_35 (by decide) ?_
    refine go_cVi (pc := 36) (Mz := M_X8_cell) (as := [.int v9, .int 1]) (a := v5) (st := []) dX6_looksIn_36 wd_758 cv_X8_cell X8_cell_ok rfl rfl ⟨Nat.le_of_ble_eq_true rfl, Nat.le_of_ble_eq_true rfl⟩ (Nat.le_of_ble_eq_true rfl) ⟨rfl, rfl⟩ ⟨Nat.le_of_ble_eq_true rfl, Nat.le_of_ble_eq_true rfl⟩ H (fun v11 h10 H => ?_)
    exact go_iret (pc := 39) dX6_looksIn_39 rfl ⟨Nat.le_of_ble_eq_true rfl, Nat.le_of_ble_eq_true rfl⟩ H
  · refine go_sipush (pc := 12) (v := 255) dX6_looksIn_12 (by decide) ?_
    exact go_iret (pc := 15) dX6_looksIn_15 rfl ⟨Nat.le_of_ble_eq_true rfl, Nat.le_of_ble_eq_true rfl⟩ H

def M_X6_earlyIn : MD := (yX6_earlyIn, cX6_earlyIn, 7, (some .int), 1, 22, 0, 0)
theorem cv_X6_earlyIn : CVo M_X6_earlyIn 3 6 := ⟨⟨wd_789, wd_116, ⟨by decide, by decide⟩, by decide +kernel⟩, wd_788, wd_29, _, rfl, rfl⟩
def X6_earlyIn (a0 : Nat) (a1 : Nat) (a2 : Int32) (a3 : Int32) (h : Hp) : Option (Int32 × Hp) :=
  (gR h a1 4 0).bind fun v1 =>
  cV h v1 8 (X8_cell v1 a2 0 h) fun v3 h2 =>
  (gR h2 a0 6 3).bind fun v4 =>
  (gR h2 v4 9 0).bind fun v5 =>
  cV h2 v5 8 (X8_cell v5 v3 0 h2) fun v7 h6 =>
  (gR h6 a1 4 1).bind fun v8 =>
  cV h6 v8 8 (X8_cell v8 v3 0 h6) fun v10 h9 =>
  if v7 = 0 then (
    some (0, h9))
  else (
    if a3 = 0 then (
      some (v10, h9))
    else (
      if v7 = 2 then (
        some (v10 / 2, h9))
      else (
        some (0, h9))))
theorem X6_earlyIn_ok {a0 : Nat} {a1 : Nat} {a2 : Int32} {a3 : Int32} {h h' : Hp} {r : Int32} (H : X6_earlyIn a0 a1 a2 a3 h = some (r, h')) : Con M_X6_earlyIn [.ref a0, .ref a1, .int a2, .int a3] h (some (.int r)) h' := by
  refine con_of_go (by decide) 3 (L := [some (.ref a0), some (.ref a1), some (.int a2), some (.int a3), none, none, none]) rfl (Nat.le_of_ble_eq_true rfl) ?_
  unfold X6_earlyIn at H
  refine go_aload_n (pc := 0) dX6_earlyIn_0 rfl rfl ?_
  refine go_getR (pc := 1) dX6_earlyIn_1 fl_X6_42 H (fun v1 H => ?_)
  refine go_iload_n (pc := 4) dX6_earlyIn_4 rfl rfl ?_
  refine go_iconst (pc := 5) (v := 0) dX6_earlyIn_5 (by decide) ?_
  refine go_cVi (pc := 6) (Mz := M_X8_cell) (as := [.int a2, .int 0]) (a := v1) (st := []) dX6_earlyIn_6 wd_758 cv_X8_cell X8_cell_ok rfl rfl ⟨Nat.le_of_ble_eq_true rfl, Nat.le_of_ble_eq_true rfl⟩ (Nat.le_of_ble_eq_true rfl) ⟨rfl, rfl⟩ ⟨Nat.le_of_ble_eq_true rfl, Nat.le_of_ble_eq_true rfl⟩ H (fun v3 h2 H => ?_)
  refine go_istore (pc := 9) (L' := [some (.ref a0), some (.ref a1), some (.int a2), some (.int a3), some (.int v3), none, none]) dX6_earlyIn_9 (Nat.le_of_ble_eq_true rfl) rfl ?_
  refine go_aload_n (pc := 11) dX6_earlyIn_11 rfl rfl ?_
  refine go_getR (pc := 12) dX6_earlyIn_12 fl_X6_34 H (fun v4 H => ?_)
  refine go_getR (pc := 15) dX6_earlyIn_15 fl_X6_63 H (fun v5 H => ?_)
  refine go_iload (pc := 18) dX6_earlyIn_18 rfl ?_
  refine go_iconst (pc := 20) (v := 0) dX6_earlyIn_20 (by decide) ?_
  refine go_cVi (pc := 21) (Mz := M_X8_cell) (as := [.int v3, .int 0]) (a := v5) (st := []) dX6_earlyIn_21 wd_758 cv_X8_cell X8_cell_ok rfl rfl ⟨Nat.le_of_ble_eq_true rfl, Nat.le_of_ble_eq_true rfl⟩ (Nat.le_of_ble_eq_true rfl) ⟨rfl, rfl⟩ ⟨Nat.le_of_ble_eq_true rfl, Nat.le_of_ble_eq_true rfl⟩ H (fun v7 h6 H => ?_)
  refine go_istore (pc := 24) (L' := [some (.ref a0), some (.ref a1), some (.int a2), some (.int a3), some (.int v3), some (.int v7), none]) dX6_earlyIn_24 (Nat.le_of_ble_eq_true rfl) rfl ?_
  refine go_aload_n (pc := 26) dX6_earlyIn_26 rfl rfl ?_
  refine go_getR (pc := 27) dX6_earlyIn_27 fl_X6_66 H (fun v8 H => ?_)
  refine go_iload (pc := 30) dX6_earlyIn_30 rfl ?_
  refine go_iconst (pc := 32) (v := 0) dX6_earlyIn_32 (by decide) ?_
  refine go_cVi (pc := 33) (Mz := M_X8_cell) (as := [.int v3, .int 0]) (a := v8) (st := []) dX6_earlyIn_33 wd_758 cv_X8_cell X8_cell_ok rfl rfl ⟨Nat.le_of_ble_eq_true rfl, Nat.le_of_ble_eq_true rfl⟩ (Nat.le_of_ble_eq_true rfl) ⟨rfl, rfl⟩ ⟨Nat.le_of_ble_eq_true rfl, Nat.le_of_ble_eq_true rfl⟩ H (fun v10 h9 H => ?_)
  refine go_istore (pc := 36) (L' := [some (.ref a0), some (.ref a1), some (.int a2), some (.int a3), some (.int v3), some (.int v7), some (.int v10)]) dX6_earlyIn_36 (Nat.le_of_ble_eq_true rfl) rfl ?_
  refine go_iload (pc := 38) dX6_earlyIn_38 rfl ?_
  refine go_if_ne (pc := 40) (tgt := 45) dX6_earlyIn_40 (by decide) H (fun H => ?_) (fun H => ?_)
  · refine go_iload_n (pc := 45) dX6_earlyIn_45 rfl rfl ?_
    refine go_if_ne (pc := 46) (tgt := 52) dX6_earlyIn_46 (by decide) H (fun H => ?_) (fun H => ?_)
    · refine go_iload (pc := 52) dX6_earlyIn_52 rfl ?_
      refine go_iconst (pc := 54) (v := 2) dX6_earlyIn_54 (by decide) ?_
      refine go_icmp_ne (pc := 55) (tgt := 65) dX6_earlyIn_55 (by decide) H (fun H => ?_) (fun H => ?_)
      · refine go_iconst (pc := 65) (v := 0) dX6_earlyIn_65 (by decide) ?_
        exact go_iret (pc := 66) dX6_earlyIn_66 rfl ⟨Nat.le_of_ble_eq_true rfl, Nat.le_of_ble_eq_true rfl⟩ H
      · refine go_iload (pc := 58) dX6_earlyIn_58 rfl ?_
        refine go_iconst (pc := 60) (v := 2) dX6_earlyIn_60 (by decide) ?_
        refine go_idiv (pc := 61) dX6_earlyIn_61 (by decide) ?_
        refine go_goto (pc := 62) (tgt := 66) dX6_earlyIn_62 (by decide) ?_
        exact go_iret (pc := 66) dX6_earlyIn_66 rfl ⟨Nat.le_of_ble_eq_true rfl, Nat.le_of_ble_eq_true rfl⟩ H
    · refine go_iload (pc := 49) dX6_earlyIn_49 rfl ?_
      exact go_iret (pc := 51) dX6_earlyIn_51 rfl ⟨Nat.le_of_ble_eq_true rfl, Nat.le_of_ble_eq_true rfl⟩ H
  · refine go_iconst (pc := 43) (v := 0) dX6_earlyIn_43 (by decide) ?_
    exact go_iret (pc := 44) dX6_earlyIn_44 rfl ⟨Nat.le_of_ble_eq_true rfl, Nat.le_of_ble_eq_true rfl⟩ H

def M_X6_turned : MD := (yX6_turned, cX6_turned, 4, (some .int), 2, 48, 0, 0)
theorem cv_X6_turned : CVo M_X6_turned 3 6 := ⟨⟨wd_804, wd_116, ⟨by decide, by decide⟩, by decide +kernel⟩, wd_802, wd_803, _, rfl, rfl⟩
def X6_turned_B23 (s0 : Nat) (s1 : Nat) (s2 : Int32) (s3 : Int32) (h : Hp) : Option (Int32 × Hp) :=
  cV h s0 6 (X6_earlyIn s0 s1 s2 s3 h) fun v102 h101 =>
  some (v102, h101)
theorem X6_turned_B23_ok {hh h' : Hp} {r : Int32}  (s0 : Nat) (s1 : Nat) (s2 : Int32) (s3 : Int32) (h : Hp) (H : X6_turned_B23 s0 s1 s2 s3 h = some (r, h')) : Go (PM M_X6_turned hh (some (.int r)) h') M_X6_turned 23 [none, none, none, none] [.int s3, .int s2, .ref s1, .ref s0] h 0 0 := by
  unfold X6_turned_B23 at H
  refine go_cVi (pc := 23) (Mz := M_X6_earlyIn) (as := [.ref s1, .int s2, .int s3]) (a := s0) (st := []) dX6_turned_23 wd_786 cv_X6_earlyIn X6_earlyIn_ok rfl rfl ⟨Nat.le_of_ble_eq_true rfl, Nat.le_of_ble_eq_true rfl⟩ (Nat.le_of_ble_eq_true rfl) ⟨rfl, rfl⟩ ⟨Nat.le_of_ble_eq_true rfl, Nat.le_of_ble_eq_true rfl⟩ H (fun v102 h101 H => ?_)
  exact go_iret (pc := 26) dX6_turned_26 rfl ⟨Nat.le_of_ble_eq_true rfl, Nat.le_of_ble_eq_true rfl⟩ H

def X6_turned (a0 : Nat) (a1 : Nat) (a2 : Int32) (a3 : Int32) (h : Hp) : Option (Int32 × Hp) :=
  cV h a0 6 (X6_looksIn a0 a1 a2 h) fun v2 h1 =>
  if ((v2 >>> ((a3 - 1) &&& 31)) &&& 1) = 0 then (
    X6_turned_B23 a0 a1 a2 0 h1)
  else (
    X6_turned_B23 a0 a1 a2 1 h1)
theorem X6_turned_ok {a0 : Nat} {a1 : Nat} {a2 : Int32} {a3 : Int32} {h h' : Hp} {r : Int32} (H : X6_turned a0 a1 a2 a3 h = some (r, h')) : Con M_X6_turned [.ref a0, .ref a1, .int a2, .int a3] h (some (.int r)) h' := by
  refine con_of_go (by decide) 0 (L := [some (.ref a0), some (.ref a1), some (.int a2), some (.int a3)]) rfl (Nat.le_of_ble_eq_true rfl) ?_
  unfold X6_turned at H
  refine go_aload_n (pc := 0) dX6_turned_0 rfl rfl ?_
  refine go_aload_n (pc := 1) dX6_turned_1 rfl rfl ?_
  refine go_iload_n (pc := 2) dX6_turned_2 rfl rfl ?_
  refine go_aload_n (pc := 3) dX6_turned_3 rfl rfl ?_
  refine go_aload_n (pc := 4) dX6_turned_4 rfl rfl ?_
  refine go_iload_n (pc := 5) dX6_turned_5 rfl rfl ?_
  refine go_cVi (pc := 6) (Mz := M_X6_looksIn) (as := [.ref a1, .int a2]) (a := a0) (st := [.int a2, .ref a1, .ref a0]) dX6_turned_6 wd_779 cv_X6_looksIn X6_looksIn_ok rfl rfl ⟨Nat.le_of_ble_eq_true rfl, Nat.le_of_ble_eq_true rfl⟩ (Nat.le_of_ble_eq_true rfl) ⟨rfl, rfl⟩ ⟨Nat.le_of_ble_eq_true rfl, Nat.le_of_ble_eq_true rfl⟩ H (fun v2 h1 H => ?_)
  refine go_iload_n (pc := 9) dX6_turned_9 rfl rfl ?_
  refine go_iconst (pc := 10) (v := 1) dX6_turned_10 (by decide) ?_
  refine go_isub (pc := 11) dX6_turned_11 ?_
  refine go_ishr (pc := 12) dX6_turned_12 ?_
  refine go_iconst (pc := 13) (v := 1) dX6_turned_13 (by decide) ?_
  refine go_iand (pc := 14) dX6_turned_14 ?_
  refine go_if_eq (pc := 15) (tgt := 22) dX6_turned_15 (by decide) H (fun H => ?_) (fun H => ?_)
  · refine go_iconst (pc := 22) (v := 0) dX6_turned_22 (by decide) ?_
    exact Go.weak (L' := [none, none, none, none]) trivial (X6_turned_B23_ok a0 a1 a2 0 h1 H)
  · refine go_iconst (pc := 18) (v := 1) dX6_turned_18 (by decide) ?_
    refine go_goto (pc := 19) (tgt := 23) dX6_turned_19 (by decide) ?_
    exact Go.weak (L' := [none, none, none, none]) trivial (X6_turned_B23_ok a0 a1 a2 1 h1 H)

def M_X6_stolenIn : MD := (yX6_stolenIn, cX6_stolenIn, 4, (some .int), 2, 48, 0, 0)
theorem cv_X6_stolenIn : CVo M_X6_stolenIn 2 6 := ⟨⟨wd_778, wd_116, ⟨by decide, by decide⟩, by decide +kernel⟩, wd_776, wd_777, _, rfl, rfl⟩
def X6_stolenIn (a0 : Nat) (a1 : Nat) (a2 : Int32) (h : Hp) : Option (Int32 × Hp) :=
  cV h a0 6 (X6_looksIn a0 a1 a2 h) fun v2 h1 =>
  bd (J6_bitCount_0f7a4 v2 h1) fun v4 h3 =>
  cV h3 a0 6 (X6_earlyIn a0 a1 a2 1 h3) fun v6 h5 =>
  cV h5 a0 6 (X6_earlyIn a0 a1 a2 0 h5) fun v8 h7 =>
  some ((v4 * v6) + ((8 - v4) * v8), h7)
theorem X6_stolenIn_ok {a0 : Nat} {a1 : Nat} {a2 : Int32} {h h' : Hp} {r : Int32} (H : X6_stolenIn a0 a1 a2 h = some (r, h')) : Con M_X6_stolenIn [.ref a0, .ref a1, .int a2] h (some (.int r)) h' := by
  refine con_of_go (by decide) 1 (L := [some (.ref a0), some (.ref a1), some (.int a2), none]) rfl (Nat.le_of_ble_eq_true rfl) ?_
  unfold X6_stolenIn at H
  refine go_aload_n (pc := 0) dX6_stolenIn_0 rfl rfl ?_
  refine go_aload_n (pc := 1) dX6_stolenIn_1 rfl rfl ?_
  refine go_iload_n (pc := 2) dX6_stolenIn_2 rfl rfl ?_
  refine go_cVi (pc := 3) (Mz := M_X6_looksIn) (as := [.ref a1, .int a2]) (a := a0) (st := []) dX6_stolenIn_3 wd_779 cv_X6_looksIn X6_looksIn_ok rfl rfl ⟨Nat.le_of_ble_eq_true rfl, Nat.le_of_ble_eq_true rfl⟩ (Nat.le_of_ble_eq_true rfl) ⟨rfl, rfl⟩ ⟨Nat.le_of_ble_eq_true rfl, Nat.le_of_ble_eq_true rfl⟩ H (fun v2 h1 H => ?_)
  refine go_cSi (pc := 6) (Mz := M_J6_bitCount_0f7a4) (as := [.int v2]) (st := []) dX6_stolenIn_6 wd_780 cs_J6_bitCount_0f7a4 J6_bitCount_0f7a4_ok rfl rfl ⟨Nat.le_of_ble_eq_true rfl, Nat.le_of_ble_eq_true rfl⟩ (Nat.le_of_ble_eq_true rfl) ⟨rfl, rfl⟩ ⟨Nat.le_of_ble_eq_true rfl, Nat.le_of_ble_eq_true rfl⟩ H (fun v4 h3 H => ?_)
  refine go_istore_n (pc := 9) (L' := [some (.ref a0), some (.ref a1), some (.int a2), some (.int v4)]) dX6_stolenIn_9 rfl (Nat.le_of_ble_eq_true rfl) rfl ?_
  refine go_iload_n (pc := 10) dX6_stolenIn_10 rfl rfl ?_
  refine go_aload_n (pc := 11) dX6_stolenIn_11 rfl rfl ?_
  refine go_aload_n (pc := 12) dX6_stolenIn_12 rfl rfl ?_
  refine go_iload_n (pc := 13) dX6_stolenIn_13 rfl rfl ?_
  refine go_iconst (pc := 14) (v := 1) dX6_stolenIn_14 (by decide) ?_
  refine go_cVi (pc := 15) (Mz := M_X6_earlyIn) (as := [.ref a1, .int a2, .int 1]) (a := a0) (st := [.int v4]) dX6_stolenIn_15 wd_786 cv_X6_earlyIn X6_earlyIn_ok rfl rfl ⟨Nat.le_of_ble_eq_true rfl, Nat.le_of_ble_eq_true rfl⟩ (Nat.le_of_ble_eq_true rfl) ⟨rfl, rfl⟩ ⟨Nat.le_of_ble_eq_true rfl, Nat.le_of_ble_eq_true rfl⟩ H (fun v6 h5 H => ?_)
  refine go_imul (pc := 18) dX6_stolenIn_18 ?_
  refine go_bipush (pc := 19) (v := 8) dX6_stolenIn_19 (by decide) ?_
  refine go_iload_n (pc := 21) dX6_stolenIn_21 rfl rfl ?_
  refine go_isub (pc := 22) dX6_stolenIn_22 ?_
  refine go_aload_n (pc := 23) dX6_stolenIn_23 rfl rfl ?_
  refine go_aload_n (pc := 24) dX6_stolenIn_24 rfl rfl ?_
  refine go_iload_n (pc := 25) dX6_stolenIn_25 rfl rfl ?_
  refine go_iconst (pc := 26) (v := 0) dX6_stolenIn_26 (by decide) ?_
  refine go_cVi (pc := 27) (Mz := M_X6_earlyIn) (as := [.ref a1, .int a2, .int 0]) (a := a0) (st := [.int (8 - v4), .int (v4 * v6)]) dX6_stolenIn_27 wd_786 cv_X6_earlyIn X6_earlyIn_ok rfl rfl ⟨Nat.le_of_ble_eq_true rfl, Nat.le_of_ble_eq_true rfl⟩ (Nat.le_of_ble_eq_true rfl) ⟨rfl, rfl⟩ ⟨Nat.le_of_ble_eq_true rfl, Nat.le_of_ble_eq_true rfl⟩ H (fun v8 h7 H => ?_)
  refine go_imul (pc := 30) dX6_stolenIn_30 ?_
  refine go_iadd (pc := 31) dX6_stolenIn_31 ?_
  exact go_iret (pc := 32) dX6_stolenIn_32 rfl ⟨Nat.le_of_ble_eq_true rfl, Nat.le_of_ble_eq_true rfl⟩ H

def M_X6_stolenOf : MD := (yX6_stolenOf, cX6_stolenOf, 5, (some .int), 3, 71, 0, 0)
theorem cv_X6_stolenOf : CVo M_X6_stolenOf 2 6 := ⟨⟨wd_774, wd_116, ⟨by decide, by decide⟩, by decide +kernel⟩, wd_772, wd_773, _, rfl, rfl⟩
def X6_stolenOf_B44 (rc5 : Nat → Nat → Int32 → Int32 → Int32 → Hp → Option (Int32 × Hp)) (a0 : Nat) (a1 : Nat) (a2 : Int32) (a3 : Int32) (a4 : Int32) (h : Hp) : Option (Int32 × Hp) :=
  rc5 a0 a1 a2 a3 (a4 + 1) h
theorem X6_stolenOf_B44_ok {hh h' : Hp} {r : Int32}  (rc5 : Nat → Nat → Int32 → Int32 → Int32 → Hp → Option (Int32 × Hp)) (hrc5 : ∀ (a0 : Nat) (a1 : Nat) (a2 : Int32) (a3 : Int32) (a4 : Int32) (h : Hp), rc5 a0 a1 a2 a3 a4 h = some (r, h') → Go (PM M_X6_stolenOf hh (some (.int r)) h') M_X6_stolenOf 5 [some (.ref a0), some (.ref a1), some (.int a2), some (.int a3), some (.int a4)] [] h 0 0) (a0 : Nat) (a1 : Nat) (a2 : Int32) (a3 : Int32) (a4 : Int32) (h : Hp) (H : X6_stolenOf_B44 rc5 a0 a1 a2 a3 a4 h = some (r, h')) : Go (PM M_X6_stolenOf hh (some (.int r)) h') M_X6_stolenOf 44 [some (.ref a0), some (.ref a1), some (.int a2), some (.int a3), some (.int a4)] [] h 0 0 := by
  unfold X6_stolenOf_B44 at H
  refine go_iinc (pc := 44) (v := a4 + 1) (L' := [some (.ref a0), some (.ref a1), some (.int a2), some (.int a3), some (.int (a4 + 1))]) dX6_stolenOf_44 rfl rfl (Nat.le_of_ble_eq_true rfl) rfl ?_
  refine go_goto (pc := 47) (tgt := 5) dX6_stolenOf_47 (by decide) ?_
  exact Go.weak (L' := [some (.ref a0), some (.ref a1), some (.int a2), some (.int a3), some (.int (a4 + 1))]) ⟨rfl, ⟨rfl, ⟨rfl, ⟨rfl, ⟨rfl, trivial⟩⟩⟩⟩⟩ (hrc5 a0 a1 a2 a3 (a4 + 1) h H)

def X6_stolenOf_L5_s (rc5 : Nat → Nat → Int32 → Int32 → Int32 → Hp → Option (Int32 × Hp)) (a0 : Nat) (a1 : Nat) (a2 : Int32) (a3 : Int32) (a4 : Int32) (h : Hp) : Option (Int32 × Hp) :=
  (gR h a0 6 3).bind fun v101 =>
  (gR h v101 9 2).bind fun v102 =>
  (gI h v102 8 3).bind fun v103 =>
  if v103 ≤ a4 then (
    some (a3, h))
  else (
    (gR h a1 4 0).bind fun v104 =>
    cV h v104 8 (X8_cell v104 a4 0 h) fun v106 h105 =>
    if v106 = a2 then (
      cV h105 a0 6 (X6_stolenIn a0 a1 a4 h105) fun v108 h107 =>
      pin (a3 + v108) fun v109 =>
      X6_stolenOf_B44 rc5 a0 a1 a2 v109 a4 h107)
    else (
      X6_stolenOf_B44 rc5 a0 a1 a2 a3 a4 h105))
def X6_stolenOf_L5 (q : Nat) : Nat → Nat → Int32 → Int32 → Int32 → Hp → Option (Int32 × Hp) := loopN (fun _ _ _ _ _ _ => none) (X6_stolenOf_L5_s) q
theorem X6_stolenOf_L5_ok {hh h' : Hp} {r : Int32}  : ∀ (q : Nat) (a0 : Nat) (a1 : Nat) (a2 : Int32) (a3 : Int32) (a4 : Int32) (h : Hp), X6_stolenOf_L5 q a0 a1 a2 a3 a4 h = some (r, h') → Go (PM M_X6_stolenOf hh (some (.int r)) h') M_X6_stolenOf 5 [some (.ref a0), some (.ref a1), some (.int a2), some (.int a3), some (.int a4)] [] h 0 0 := by
  intro q
  induction q with
  | zero => intro a0 a1 a2 a3 a4 h H; cases H
  | succ q hrc5 =>
    intro a0 a1 a2 a3 a4 h H
    replace H : X6_stolenOf_L5_s (X6_stolenOf_L5 q) a0 a1 a2 a3 a4 h = some (r, h') := H
    unfold X6_stolenOf_L5_s at H
    refine go_iload (pc := 5) dX6_stolenOf_5 rfl ?_
    refine go_aload_n (pc := 7) dX6_stolenOf_7 rfl rfl ?_
    refine go_getR (pc := 8) dX6_stolenOf_8 fl_X6_34 H (fun v101 H => ?_)
    refine go_getR (pc := 11) dX6_stolenOf_11 fl_X6_54 H (fun v102 H => ?_)
    refine go_getI (pc := 14) dX6_stolenOf_14 fl_X6_75 H (fun v103 H => ?_)
    refine go_icmp_ge (pc := 17) (tgt := 50) dX6_stolenOf_17 (by decide) H (fun H => ?_) (fun H => ?_)
    · refine go_iload_n (pc := 50) dX6_stolenOf_50 rfl rfl ?_
      exact go_iret (pc := 51) dX6_stolenOf_51 rfl ⟨Nat.le_of_ble_eq_true rfl, Nat.le_of_ble_eq_true rfl⟩ H
    · refine go_aload_n (pc := 20) dX6_stolenOf_20 rfl rfl ?_
      refine go_getR (pc := 21) dX6_stolenOf_21 fl_X6_42 H (fun v104 H => ?_)
      refine go_iload (pc := 24) dX6_stolenOf_24 rfl ?_
      refine go_iconst (pc := 26) (v := 0) dX6_stolenOf_26 (by decide) ?_
      refine go_cVi (pc := 27) (Mz := M_X8_cell) (as := [.int a4, .int 0]) (a := v104) (st := []) dX6_stolenOf_27 wd_758 cv_X8_cell X8_cell_ok rfl rfl ⟨Nat.le_of_ble_eq_true rfl, Nat.le_of_ble_eq_true rfl⟩ (Nat.le_of_ble_eq_true rfl) ⟨rfl, rfl⟩ ⟨Nat.le_of_ble_eq_true rfl, Nat.le_of_ble_eq_true rfl⟩ H (fun v106 h105 H => ?_)
      refine go_iload_n (pc := 30) dX6_stolenOf_30 rfl rfl ?_
      refine go_icmp_ne (pc := 31) (tgt := 44) dX6_stolenOf_31 (by decide) H (fun H => ?_) (fun H => ?_)
      · exact Go.weak (L' := [some (.ref a0), some (.ref a1), some (.int a2), some (.int a3), some (.int a4)]) ⟨rfl, ⟨rfl, ⟨rfl, ⟨rfl, ⟨rfl, trivial⟩⟩⟩⟩⟩ (X6_stolenOf_B44_ok _ hrc5 a0 a1 a2 a3 a4 h105 H)
      · refine go_iload_n (pc := 34) dX6_stolenOf_34 rfl rfl ?_
        refine go_aload_n (pc := 35) dX6_stolenOf_35 rfl rfl ?_
        refine go_aload_n (pc := 36) dX6_stolenOf_36 rfl rfl ?_
        refine go_iload (pc := 37) dX6_stolenOf_37 rfl ?_
        refine go_cVi (pc := 39) (Mz := M_X6_stolenIn) (as := [.ref a1, .int a4]) (a := a0) (st := [.int a3]) dX6_stolenOf_39 wd_775 cv_X6_stolenIn X6_stolenIn_ok rfl rfl ⟨Nat.le_of_ble_eq_true rfl, Nat.le_of_ble_eq_true rfl⟩ (Nat.le_of_ble_eq_true rfl) ⟨rfl, rfl⟩ ⟨Nat.le_of_ble_eq_true rfl, Nat.le_of_ble_eq_true rfl⟩ H (fun v108 h107 H => ?_)
        refine go_iadd (pc := 42) dX6_stolenOf_42 ?_
        refine go_pin H (fun v109 H => ?_)
        refine go_istore_n (pc := 43) (L' := [some (.ref a0), some (.ref a1), some (.int a2), some (.int v109), some (.int a4)]) dX6_stolenOf_43 rfl (Nat.le_of_ble_eq_true rfl) rfl ?_
        exact Go.weak (L' := [some (.ref a0), some (.ref a1), some (.int a2), some (.int v109), some (.int a4)]) ⟨rfl, ⟨rfl, ⟨rfl, ⟨rfl, ⟨rfl, trivial⟩⟩⟩⟩⟩ (X6_stolenOf_B44_ok _ hrc5 a0 a1 a2 v109 a4 h107 H)

def X6_stolenOf (a0 : Nat) (a1 : Nat) (a2 : Int32) (h : Hp) : Option (Int32 × Hp) :=
  X6_stolenOf_L5 5000 a0 a1 a2 0 0 h
theorem X6_stolenOf_ok {a0 : Nat} {a1 : Nat} {a2 : Int32} {h h' : Hp} {r : Int32} (H : X6_stolenOf a0 a1 a2 h = some (r, h')) : Con M_X6_stolenOf [.ref a0, .ref a1, .int a2] h (some (.int r)) h' := by
  refine con_of_go (by decide) 2 (L := [some (.ref a0), some (.ref a1), some (.int a2), none, none]) rfl (Nat.le_of_ble_eq_true rfl) ?_
  unfold X6_stolenOf at H
  refine go_iconst (pc := 0) (v := 0) dX6_stolenOf_0 (by decide) ?_
  refine go_istore_n (pc := 1) (L' := [some (.ref a0), some (.ref a1), some (.int a2), some (.int 0), none]) dX6_stolenOf_1 rfl (Nat.le_of_ble_eq_true rfl) rfl ?_
  refine go_iconst (pc := 2) (v := 0) dX6_stolenOf_2 (by decide) ?_
  refine go_istore (pc := 3) (L' := [some (.ref a0), some (.ref a1), some (.int a2), some (.int 0), some (.int 0)]) dX6_stolenOf_3 (Nat.le_of_ble_eq_true rfl) rfl ?_
  exact Go.weak (L' := [some (.ref a0), some (.ref a1), some (.int a2), some (.int 0), some (.int 0)]) ⟨rfl, ⟨rfl, ⟨rfl, ⟨rfl, ⟨rfl, trivial⟩⟩⟩⟩⟩ (X6_stolenOf_L5_ok 5000 a0 a1 a2 0 0 h H)

def M_X6_reckon : MD := (yX6_reckon, cX6_reckon, 3, none, 3, 71, 0, 0)
theorem cv_X6_reckon : CVo M_X6_reckon 1 6 := ⟨⟨wd_821, wd_116, ⟨by decide, by decide⟩, by decide +kernel⟩, wd_819, wd_820, _, rfl, rfl⟩
def X6_reckon_L2_s (rc2 : Nat → Nat → Int32 → Hp → Option (Hp)) (a0 : Nat) (a1 : Nat) (a2 : Int32) (h : Hp) : Option (Hp) :=
  (gR h a0 6 3).bind fun v101 =>
  (gR h v101 9 2).bind fun v102 =>
  (gI h v102 8 3).bind fun v103 =>
  if v103 ≤ a2 then (
    some h)
  else (
    (gR h a0 6 1).bind fun v104 =>
    cV h a0 6 (X6_stolenIn a0 a1 a2 h) fun v106 h105 =>
    cVv h105 v104 8 (X8_put v104 a2 0 v106 h105) fun h107 =>
    rc2 a0 a1 (a2 + 1) h107)
def X6_reckon_L2 (q : Nat) : Nat → Nat → Int32 → Hp → Option (Hp) := loopN (fun _ _ _ _ => none) (X6_reckon_L2_s) q
theorem X6_reckon_L2_ok {hh h' : Hp}  : ∀ (q : Nat) (a0 : Nat) (a1 : Nat) (a2 : Int32) (h : Hp), X6_reckon_L2 q a0 a1 a2 h = some h' → Go (PM M_X6_reckon hh none h') M_X6_reckon 2 [some (.ref a0), some (.ref a1), some (.int a2)] [] h 0 0 := by
  intro q
  induction q with
  | zero => intro a0 a1 a2 h H; cases H
  | succ q hrc2 =>
    intro a0 a1 a2 h H
    replace H : X6_reckon_L2_s (X6_reckon_L2 q) a0 a1 a2 h = some h' := H
    unfold X6_reckon_L2_s at H
    refine go_iload_n (pc := 2) dX6_reckon_2 rfl rfl ?_
    refine go_aload_n (pc := 3) dX6_reckon_3 rfl rfl ?_
    refine go_getR (pc := 4) dX6_reckon_4 fl_X6_34 H (fun v101 H => ?_)
    refine go_getR (pc := 7) dX6_reckon_7 fl_X6_54 H (fun v102 H => ?_)
    refine go_getI (pc := 10) dX6_reckon_10 fl_X6_75 H (fun v103 H => ?_)
    refine go_icmp_ge (pc := 13) (tgt := 37) dX6_reckon_13 (by decide) H (fun H => ?_) (fun H => ?_)
    · exact go_vret (pc := 37) dX6_reckon_37 rfl ⟨Nat.le_of_ble_eq_true rfl, Nat.le_of_ble_eq_true rfl⟩ H
    · refine go_aload_n (pc := 16) dX6_reckon_16 rfl rfl ?_
      refine go_getR (pc := 17) dX6_reckon_17 fl_X6_23 H (fun v104 H => ?_)
      refine go_iload_n (pc := 20) dX6_reckon_20 rfl rfl ?_
      refine go_iconst (pc := 21) (v := 0) dX6_reckon_21 (by decide) ?_
      refine go_aload_n (pc := 22) dX6_reckon_22 rfl rfl ?_
      refine go_aload_n (pc := 23) dX6_reckon_23 rfl rfl ?_
      refine go_iload_n (pc := 24) dX6_reckon_24 rfl rfl ?_
      refine go_cVi (pc := 25) (Mz := M_X6_stolenIn) (as := [.ref a1, .int a2]) (a := a0) (st := [.int 0, .int a2, .ref v104]) dX6_reckon_25 wd_775 cv_X6_stolenIn X6_stolenIn_ok rfl rfl ⟨Nat.le_of_ble_eq_true rfl, Nat.le_of_ble_eq_true rfl⟩ (Nat.le_of_ble_eq_true rfl) ⟨rfl, rfl⟩ ⟨Nat.le_of_ble_eq_true rfl, Nat.le_of_ble_eq_true rfl⟩ H (fun v106 h105 H => ?_)
      refine go_cVv (pc := 28) (Mz := M_X8_put) (as := [.int a2, .int 0, .int v106]) (a := v104) (st := []) dX6_reckon_28 wd_822 cv_X8_put X8_put_ok rfl rfl ⟨Nat.le_of_ble_eq_true rfl, Nat.le_of_ble_eq_true rfl⟩ (Nat.le_of_ble_eq_true rfl) ⟨rfl, rfl⟩ ⟨Nat.le_of_ble_eq_true rfl, Nat.le_of_ble_eq_true rfl⟩ H (fun h107 H => ?_)
      refine go_iinc (pc := 31) (v := a2 + 1) (L' := [some (.ref a0), some (.ref a1), some (.int (a2 + 1))]) dX6_reckon_31 rfl rfl (Nat.le_of_ble_eq_true rfl) rfl ?_
      refine go_goto (pc := 34) (tgt := 2) dX6_reckon_34 (by decide) ?_
      exact Go.weak (L' := [some (.ref a0), some (.ref a1), some (.int (a2 + 1))]) ⟨rfl, ⟨rfl, ⟨rfl, trivial⟩⟩⟩ (hrc2 a0 a1 (a2 + 1) h107 H)

def X6_reckon (a0 : Nat) (a1 : Nat) (h : Hp) : Option (Hp) :=
  X6_reckon_L2 5000 a0 a1 0 h
theorem X6_reckon_ok {a0 : Nat} {a1 : Nat} {h h' : Hp} (H : X6_reckon a0 a1 h = some h') : Con M_X6_reckon [.ref a0, .ref a1] h none h' := by
  refine con_of_go (by decide) 1 (L := [some (.ref a0), some (.ref a1), none]) rfl (Nat.le_of_ble_eq_true rfl) ?_
  unfold X6_reckon at H
  refine go_iconst (pc := 0) (v := 0) dX6_reckon_0 (by decide) ?_
  refine go_istore_n (pc := 1) (L' := [some (.ref a0), some (.ref a1), some (.int 0)]) dX6_reckon_1 rfl (Nat.le_of_ble_eq_true rfl) rfl ?_
  exact Go.weak (L' := [some (.ref a0), some (.ref a1), some (.int 0)]) ⟨rfl, ⟨rfl, ⟨rfl, trivial⟩⟩⟩ (X6_reckon_L2_ok 5000 a0 a1 0 h H)

def M_X6_isIdle : MD := (yX6_isIdle, cX6_isIdle, 1, (some .boolean), 0, 0, 0, 0)
theorem cv_X6_isIdle : CVo M_X6_isIdle 0 6 := ⟨⟨wd_1190, wd_116, ⟨by decide, by decide⟩, by decide +kernel⟩, wd_1189, wd_44, _, rfl, rfl⟩
def X6_isIdle (a0 : Nat) (h : Hp) : Option (Int32 × Hp) :=
  (gI h a0 6 4).bind fun v1 =>
  (pF h a0 6 4 (.int (((75 * v1) + 74) - ((75 * v1) + 74) / 65537 * 65537))).bind fun h2 =>
  (gI h2 a0 6 4).bind fun v3 =>
  (gR h2 a0 6 3).bind fun v4 =>
  (gI h2 v4 9 11).bind fun v5 =>
  if v5 ≤ (v3 - v3 / 100 * 100) then (
    rZ 0 h2)
  else (
    rZ 1 h2)
theorem X6_isIdle_ok {a0 : Nat} {h h' : Hp} {r : Int32} (H : X6_isIdle a0 h = some (r, h')) : Con M_X6_isIdle [.ref a0] h (some (.int r)) h' := by
  refine con_of_go (by decide) 0 (L := [some (.ref a0)]) rfl (Nat.le_of_ble_eq_true rfl) ?_
  unfold X6_isIdle at H
  refine go_aload_n (pc := 0) dX6_isIdle_0 rfl rfl ?_
  refine go_bipush (pc := 1) (v := 75) dX6_isIdle_1 (by decide) ?_
  refine go_aload_n (pc := 3) dX6_isIdle_3 rfl rfl ?_
  refine go_getI (pc := 4) dX6_isIdle_4 fl_X6_93 H (fun v1 H => ?_)
  refine go_imul (pc := 7) dX6_isIdle_7 ?_
  refine go_bipush (pc := 8) (v := 74) dX6_isIdle_8 (by decide) ?_
  refine go_iadd (pc := 10) dX6_isIdle_10 ?_
  refine go_ldc (pc := 11) (v := 65537) dX6_isIdle_11 wd_1191 ?_
  refine go_irem (pc := 13) dX6_isIdle_13 (by decide) ?_
  refine go_putI (pc := 14) dX6_isIdle_14 fs_X6_93 H (fun h2 H => ?_)
  refine go_aload_n (pc := 17) dX6_isIdle_17 rfl rfl ?_
  refine go_getI (pc := 18) dX6_isIdle_18 fl_X6_93 H (fun v3 H => ?_)
  refine go_bipush (pc := 21) (v := 100) dX6_isIdle_21 (by decide) ?_
  refine go_irem (pc := 23) dX6_isIdle_23 (by decide) ?_
  refine go_aload_n (pc := 24) dX6_isIdle_24 rfl rfl ?_
  refine go_getR (pc := 25) dX6_isIdle_25 fl_X6_34 H (fun v4 H => ?_)
  refine go_getI (pc := 28) dX6_isIdle_28 fl_X6_97 H (fun v5 H => ?_)
  refine go_icmp_ge (pc := 31) (tgt := 38) dX6_isIdle_31 (by decide) H (fun H => ?_) (fun H => ?_)
  · refine go_iconst (pc := 38) (v := 0) dX6_isIdle_38 (by decide) ?_
    exact go_zret (pc := 39) dX6_isIdle_39 rfl ⟨Nat.le_of_ble_eq_true rfl, Nat.le_of_ble_eq_true rfl⟩ H
  · refine go_iconst (pc := 34) (v := 1) dX6_isIdle_34 (by decide) ?_
    refine go_goto (pc := 35) (tgt := 39) dX6_isIdle_35 (by decide) ?_
    exact go_zret (pc := 39) dX6_isIdle_39 rfl ⟨Nat.le_of_ble_eq_true rfl, Nat.le_of_ble_eq_true rfl⟩ H

def M_X6_drawnIn : MD := (yX6_drawnIn, cX6_drawnIn, 9, (some .int), 2, 48, 0, 0)
theorem cv_X6_drawnIn : CVo M_X6_drawnIn 2 6 := ⟨⟨wd_1186, wd_116, ⟨by decide, by decide⟩, by decide +kernel⟩, wd_1185, wd_43, _, rfl, rfl⟩
def X6_drawnIn_B75 (rc31 : Nat → Int32 → Int32 → Int32 → Int32 → Int32 → Hp → Option (Int32 × Hp)) (a0 : Nat) (a3 : Int32) (a4 : Int32) (a5 : Int32) (a6 : Int32) (a7 : Int32) (h : Hp) : Option (Int32 × Hp) :=
  rc31 a0 a3 a4 a5 a6 (a7 + 1) h
theorem X6_drawnIn_B75_ok {hh h' : Hp} {r : Int32}  (rc31 : Nat → Int32 → Int32 → Int32 → Int32 → Int32 → Hp → Option (Int32 × Hp)) (hrc31 : ∀ (a0 : Nat) (a3 : Int32) (a4 : Int32) (a5 : Int32) (a6 : Int32) (a7 : Int32) (h : Hp), rc31 a0 a3 a4 a5 a6 a7 h = some (r, h') → Go (PM M_X6_drawnIn hh (some (.int r)) h') M_X6_drawnIn 31 [some (.ref a0), none, none, some (.int a3), some (.int a4), some (.int a5), some (.int a6), some (.int a7), none] [] h 0 0) (a0 : Nat) (a3 : Int32) (a4 : Int32) (a5 : Int32) (a6 : Int32) (a7 : Int32) (h : Hp) (H : X6_drawnIn_B75 rc31 a0 a3 a4 a5 a6 a7 h = some (r, h')) : Go (PM M_X6_drawnIn hh (some (.int r)) h') M_X6_drawnIn 75 [some (.ref a0), none, none, some (.int a3), some (.int a4), some (.int a5), some (.int a6), some (.int a7), none] [] h 0 0 := by
  unfold X6_drawnIn_B75 at H
  refine go_iinc (pc := 75) (v := a7 + 1) (L' := [some (.ref a0), none, none, some (.int a3), some (.int a4), some (.int a5), some (.int a6), some (.int (a7 + 1)), none]) dX6_drawnIn_75 rfl rfl (Nat.le_of_ble_eq_true rfl) rfl ?_
  refine go_goto (pc := 78) (tgt := 31) dX6_drawnIn_78 (by decide) ?_
  exact Go.weak (L' := [some (.ref a0), none, none, some (.int a3), some (.int a4), some (.int a5), some (.int a6), some (.int (a7 + 1)), none]) ⟨rfl, ⟨rfl, ⟨rfl, ⟨rfl, ⟨rfl, ⟨rfl, trivial⟩⟩⟩⟩⟩⟩ (hrc31 a0 a3 a4 a5 a6 (a7 + 1) h H)

def X6_drawnIn_B54 (rc31 : Nat → Int32 → Int32 → Int32 → Int32 → Int32 → Hp → Option (Int32 × Hp)) (a0 : Nat) (a3 : Int32) (a4 : Int32) (a5 : Int32) (a6 : Int32) (a7 : Int32) (s0 : Int32) (h : Hp) : Option (Int32 × Hp) :=
  if s0 ≤ 0 then (
    X6_drawnIn_B75 rc31 a0 a3 a4 a5 a6 a7 h)
  else (
    cV h a0 6 (X6_isIdle a0 h) fun v202 h201 =>
    if v202 = 0 then (
      pin (a6 + s0) fun v203 =>
      X6_drawnIn_B75 rc31 a0 a3 a4 a5 v203 a7 h201)
    else (
      X6_drawnIn_B75 rc31 a0 a3 a4 a5 a6 a7 h201))
theorem X6_drawnIn_B54_ok {hh h' : Hp} {r : Int32}  (rc31 : Nat → Int32 → Int32 → Int32 → Int32 → Int32 → Hp → Option (Int32 × Hp)) (hrc31 : ∀ (a0 : Nat) (a3 : Int32) (a4 : Int32) (a5 : Int32) (a6 : Int32) (a7 : Int32) (h : Hp), rc31 a0 a3 a4 a5 a6 a7 h = some (r, h') → Go (PM M_X6_drawnIn hh (some (.int r)) h') M_X6_drawnIn 31 [some (.ref a0), none, none, some (.int a3), some (.int a4), some (.int a5), some (.int a6), some (.int a7), none] [] h 0 0) (a0 : Nat) (a3 : Int32) (a4 : Int32) (a5 : Int32) (a6 : Int32) (a7 : Int32) (s0 : Int32) (h : Hp) (H : X6_drawnIn_B54 rc31 a0 a3 a4 a5 a6 a7 s0 h = some (r, h')) : Go (PM M_X6_drawnIn hh (some (.int r)) h') M_X6_drawnIn 54 [some (.ref a0), none, none, some (.int a3), some (.int a4), some (.int a5), some (.int a6), some (.int a7), none] [.int s0] h 0 0 := by
  unfold X6_drawnIn_B54 at H
  refine go_istore (pc := 54) (L' := [some (.ref a0), none, none, some (.int a3), some (.int a4), some (.int a5), some (.int a6), some (.int a7), some (.int s0)]) dX6_drawnIn_54 (Nat.le_of_ble_eq_true rfl) rfl ?_
  refine go_iload (pc := 56) dX6_drawnIn_56 rfl ?_
  refine go_if_le (pc := 58) (tgt := 75) dX6_drawnIn_58 (by decide) H (fun H => ?_) (fun H => ?_)
  · exact Go.weak (L' := [some (.ref a0), none, none, some (.int a3), some (.int a4), some (.int a5), some (.int a6), some (.int a7), none]) ⟨rfl, ⟨rfl, ⟨rfl, ⟨rfl, ⟨rfl, ⟨rfl, trivial⟩⟩⟩⟩⟩⟩ (X6_drawnIn_B75_ok _ hrc31 a0 a3 a4 a5 a6 a7 h H)
  · refine go_aload_n (pc := 61) dX6_drawnIn_61 rfl rfl ?_
    refine go_cVi (pc := 62) (Mz := M_X6_isIdle) (as := []) (a := a0) (st := []) dX6_drawnIn_62 wd_1187 cv_X6_isIdle X6_isIdle_ok rfl rfl ⟨Nat.le_of_ble_eq_true rfl, Nat.le_of_ble_eq_true rfl⟩ (Nat.le_of_ble_eq_true rfl) ⟨rfl, rfl⟩ ⟨Nat.le_of_ble_eq_true rfl, Nat.le_of_ble_eq_true rfl⟩ H (fun v202 h201 H => ?_)
    refine go_if_ne (pc := 65) (tgt := 75) dX6_drawnIn_65 (by decide) H (fun H => ?_) (fun H => ?_)
    · exact Go.weak (L' := [some (.ref a0), none, none, some (.int a3), some (.int a4), some (.int a5), some (.int a6), some (.int a7), none]) ⟨rfl, ⟨rfl, ⟨rfl, ⟨rfl, ⟨rfl, ⟨rfl, trivial⟩⟩⟩⟩⟩⟩ (X6_drawnIn_B75_ok _ hrc31 a0 a3 a4 a5 a6 a7 h201 H)
    · refine go_iload (pc := 68) dX6_drawnIn_68 rfl ?_
      refine go_iload (pc := 70) dX6_drawnIn_70 rfl ?_
      refine go_iadd (pc := 72) dX6_drawnIn_72 ?_
      refine go_pin H (fun v203 H => ?_)
      refine go_istore (pc := 73) (L' := [some (.ref a0), none, none, some (.int a3), some (.int a4), some (.int a5), some (.int v203), some (.int a7), some (.int s0)]) dX6_drawnIn_73 (Nat.le_of_ble_eq_true rfl) rfl ?_
      exact Go.weak (L' := [some (.ref a0), none, none, some (.int a3), some (.int a4), some (.int a5), some (.int v203), some (.int a7), none]) ⟨rfl, ⟨rfl, ⟨rfl, ⟨rfl, ⟨rfl, ⟨rfl, trivial⟩⟩⟩⟩⟩⟩ (X6_drawnIn_B75_ok _ hrc31 a0 a3 a4 a5 v203 a7 h201 H)

def X6_drawnIn_L31_s (rc31 : Nat → Int32 → Int32 → Int32 → Int32 → Int32 → Hp → Option (Int32 × Hp)) (a0 : Nat) (a3 : Int32) (a4 : Int32) (a5 : Int32) (a6 : Int32) (a7 : Int32) (h : Hp) : Option (Int32 × Hp) :=
  if 8 ≤ a7 then (
    some (a6, h))
  else (
    if ((a3 >>> (a7 &&& 31)) &&& 1) = 0 then (
      X6_drawnIn_B54 rc31 a0 a3 a4 a5 a6 a7 a5 h)
    else (
      X6_drawnIn_B54 rc31 a0 a3 a4 a5 a6 a7 a4 h))
def X6_drawnIn_L31 (q : Nat) : Nat → Int32 → Int32 → Int32 → Int32 → Int32 → Hp → Option (Int32 × Hp) := loopN (fun _ _ _ _ _ _ _ => none) (X6_drawnIn_L31_s) q
theorem X6_drawnIn_L31_ok {hh h' : Hp} {r : Int32}  : ∀ (q : Nat) (a0 : Nat) (a3 : Int32) (a4 : Int32) (a5 : Int32) (a6 : Int32) (a7 : Int32) (h : Hp), X6_drawnIn_L31 q a0 a3 a4 a5 a6 a7 h = some (r, h') → Go (PM M_X6_drawnIn hh (some (.int r)) h') M_X6_drawnIn 31 [some (.ref a0), none, none, some (.int a3), some (.int a4), some (.int a5), some (.int a6), some (.int a7), none] [] h 0 0 := by
  intro q
  induction q with
  | zero => intro a0 a3 a4 a5 a6 a7 h H; cases H
  | succ q hrc31 =>
    intro a0 a3 a4 a5 a6 a7 h H
    replace H : X6_drawnIn_L31_s (X6_drawnIn_L31 q) a0 a3 a4 a5 a6 a7 h = some (r, h') := H
    unfold X6_drawnIn_L31_s at H
    refine go_iload (pc := 31) dX6_drawnIn_31 rfl ?_
    refine go_bipush (pc := 33) (v := 8) dX6_drawnIn_33 (by decide) ?_
    refine go_icmp_ge (pc := 35) (tgt := 81) dX6_drawnIn_35 (by decide) H (fun H => ?_) (fun H => ?_)
    · refine go_iload (pc := 81) dX6_drawnIn_81 rfl ?_
      exact go_iret (pc := 83) dX6_drawnIn_83 rfl ⟨Nat.le_of_ble_eq_true rfl, Nat.le_of_ble_eq_true rfl⟩ H
    · refine go_iload_n (pc := 38) dX6_drawnIn_38 rfl rfl ?_
      refine go_iload (pc := 39) dX6_drawnIn_39 rfl ?_
      refine go_ishr (pc := 41) dX6_drawnIn_41 ?_
      refine go_iconst (pc := 42) (v := 1) dX6_drawnIn_42 (by decide) ?_
      refine go_iand (pc := 43) dX6_drawnIn_43 ?_
      refine go_if_eq (pc := 44) (tgt := 52) dX6_drawnIn_44 (by decide) H (fun H => ?_) (fun H => ?_)
      · refine go_iload (pc := 52) dX6_drawnIn_52 rfl ?_
        exact Go.weak (L' := [some (.ref a0), none, none, some (.int a3), some (.int a4), some (.int a5), some (.int a6), some (.int a7), none]) ⟨rfl, ⟨rfl, ⟨rfl, ⟨rfl, ⟨rfl, ⟨rfl, trivial⟩⟩⟩⟩⟩⟩ (X6_drawnIn_B54_ok _ hrc31 a0 a3 a4 a5 a6 a7 a5 h H)
      · refine go_iload (pc := 47) dX6_drawnIn_47 rfl ?_
        refine go_goto (pc := 49) (tgt := 54) dX6_drawnIn_49 (by decide) ?_
        exact Go.weak (L' := [some (.ref a0), none, none, some (.int a3), some (.int a4), some (.int a5), some (.int a6), some (.int a7), none]) ⟨rfl, ⟨rfl, ⟨rfl, ⟨rfl, ⟨rfl, ⟨rfl, trivial⟩⟩⟩⟩⟩⟩ (X6_drawnIn_B54_ok _ hrc31 a0 a3 a4 a5 a6 a7 a4 h H)

def X6_drawnIn (a0 : Nat) (a1 : Nat) (a2 : Int32) (h : Hp) : Option (Int32 × Hp) :=
  cV h a0 6 (X6_looksIn a0 a1 a2 h) fun v2 h1 =>
  cV h1 a0 6 (X6_earlyIn a0 a1 a2 1 h1) fun v4 h3 =>
  cV h3 a0 6 (X6_earlyIn a0 a1 a2 0 h3) fun v6 h5 =>
  X6_drawnIn_L31 5000 a0 v2 v4 v6 0 0 h5
theorem X6_drawnIn_ok {a0 : Nat} {a1 : Nat} {a2 : Int32} {h h' : Hp} {r : Int32} (H : X6_drawnIn a0 a1 a2 h = some (r, h')) : Con M_X6_drawnIn [.ref a0, .ref a1, .int a2] h (some (.int r)) h' := by
  refine con_of_go (by decide) 6 (L := [some (.ref a0), some (.ref a1), some (.int a2), none, none, none, none, none, none]) rfl (Nat.le_of_ble_eq_true rfl) ?_
  unfold X6_drawnIn at H
  refine go_aload_n (pc := 0) dX6_drawnIn_0 rfl rfl ?_
  refine go_aload_n (pc := 1) dX6_drawnIn_1 rfl rfl ?_
  refine go_iload_n (pc := 2) dX6_drawnIn_2 rfl rfl ?_
  refine go_cVi (pc := 3) (Mz := M_X6_looksIn) (as := [.ref a1, .int a2]) (a := a0) (st := []) dX6_drawnIn_3 wd_779 cv_X6_looksIn X6_looksIn_ok rfl rfl ⟨Nat.le_of_ble_eq_true rfl, Nat.le_of_ble_eq_true rfl⟩ (Nat.le_of_ble_eq_true rfl) ⟨rfl, rfl⟩ ⟨Nat.le_of_ble_eq_true rfl, Nat.le_of_ble_eq_true rfl⟩ H (fun v2 h1 H => ?_)
  refine go_istore_n (pc := 6) (L' := [some (.ref a0), some (.ref a1), some (.int a2), some (.int v2), none, none, none, none, none]) dX6_drawnIn_6 rfl (Nat.le_of_ble_eq_true rfl) rfl ?_
  refine go_aload_n (pc := 7) dX6_drawnIn_7 rfl rfl ?_
  refine go_aload_n (pc := 8) dX6_drawnIn_8 rfl rfl ?_
  refine go_iload_n (pc := 9) dX6_drawnIn_9 rfl rfl ?_
  refine go_iconst (pc := 10) (v := 1) dX6_drawnIn_10 (by decide) ?_
  refine go_cVi (pc := 11) (Mz := M_X6_earlyIn) (as := [.ref a1, .int a2, .int 1]) (a := a0) (st := []) dX6_drawnIn_11 wd_786 cv_X6_earlyIn X6_earlyIn_ok rfl rfl ⟨Nat.le_of_ble_eq_true rfl, Nat.le_of_ble_eq_true rfl⟩ (Nat.le_of_ble_eq_true rfl) ⟨rfl, rfl⟩ ⟨Nat.le_of_ble_eq_true rfl, Nat.le_of_ble_eq_true rfl⟩ H (fun v4 h3 H => ?_)
  refine go_istore (pc := 14) (L' := [some (.ref a0), some (.ref a1), some (.int a2), some (.int v2), some (.int v4), none, none, none, none]) dX6_drawnIn_14 (Nat.le_of_ble_eq_true rfl) rfl ?_
  refine go_aload_n (pc := 16) dX6_drawnIn_16 rfl rfl ?_
  refine go_aload_n (pc := 17) dX6_drawnIn_17 rfl rfl ?_
  refine go_iload_n (pc := 18) dX6_drawnIn_18 rfl rfl ?_
  refine go_iconst (pc := 19) (v := 0) dX6_drawnIn_19 (by decide) ?_
  refine go_cVi (pc := 20) (Mz := M_X6_earlyIn) (as := [.ref a1, .int a2, .int 0]) (a := a0) (st := []) dX6_drawnIn_20 wd_786 cv_X6_earlyIn X6_earlyIn_ok rfl rfl ⟨Nat.le_of_ble_eq_true rfl, Nat.le_of_ble_eq_true rfl⟩ (Nat.le_of_ble_eq_true rfl) ⟨rfl, rfl⟩ ⟨Nat.le_of_ble_eq_true rfl, Nat.le_of_ble_eq_true rfl⟩ H (fun v6 h5 H => ?_)
  refine go_istore (pc := 23) (L' := [some (.ref a0), some (.ref a1), some (.int a2), some (.int v2), some (.int v4), some (.int v6), none, none, none]) dX6_drawnIn_23 (Nat.le_of_ble_eq_true rfl) rfl ?_
  refine go_iconst (pc := 25) (v := 0) dX6_drawnIn_25 (by decide) ?_
  refine go_istore (pc := 26) (L' := [some (.ref a0), some (.ref a1), some (.int a2), some (.int v2), some (.int v4), some (.int v6), some (.int 0), none, none]) dX6_drawnIn_26 (Nat.le_of_ble_eq_true rfl) rfl ?_
  refine go_iconst (pc := 28) (v := 0) dX6_drawnIn_28 (by decide) ?_
  refine go_istore (pc := 29) (L' := [some (.ref a0), some (.ref a1), some (.int a2), some (.int v2), some (.int v4), some (.int v6), some (.int 0), some (.int 0), none]) dX6_drawnIn_29 (Nat.le_of_ble_eq_true rfl) rfl ?_
  exact Go.weak (L' := [some (.ref a0), none, none, some (.int v2), some (.int v4), some (.int v6), some (.int 0), some (.int 0), none]) ⟨rfl, ⟨rfl, ⟨rfl, ⟨rfl, ⟨rfl, ⟨rfl, trivial⟩⟩⟩⟩⟩⟩ (X6_drawnIn_L31_ok 5000 a0 v2 v4 v6 0 0 h5 H)

def M_X6_drawIdle : MD := (yX6_drawIdle, cX6_drawIdle, 3, none, 3, 76, 0, 0)
theorem cv_X6_drawIdle : CVo M_X6_drawIdle 1 6 := ⟨⟨wd_1182, wd_116, ⟨by decide, by decide⟩, by decide +kernel⟩, wd_1180, wd_1181, _, rfl, rfl⟩
def X6_drawIdle_L2_s (rc2 : Nat → Nat → Int32 → Hp → Option (Hp)) (a0 : Nat) (a1 : Nat) (a2 : Int32) (h : Hp) : Option (Hp) :=
  (gR h a0 6 3).bind fun v101 =>
  (gR h v101 9 2).bind fun v102 =>
  (gI h v102 8 3).bind fun v103 =>
  if v103 ≤ a2 then (
    some h)
  else (
    (gR h a0 6 1).bind fun v104 =>
    cV h a0 6 (X6_drawnIn a0 a1 a2 h) fun v106 h105 =>
    cVv h105 v104 8 (X8_put v104 a2 0 v106 h105) fun h107 =>
    rc2 a0 a1 (a2 + 1) h107)
def X6_drawIdle_L2 (q : Nat) : Nat → Nat → Int32 → Hp → Option (Hp) := loopN (fun _ _ _ _ => none) (X6_drawIdle_L2_s) q
theorem X6_drawIdle_L2_ok {hh h' : Hp}  : ∀ (q : Nat) (a0 : Nat) (a1 : Nat) (a2 : Int32) (h : Hp), X6_drawIdle_L2 q a0 a1 a2 h = some h' → Go (PM M_X6_drawIdle hh none h') M_X6_drawIdle 2 [some (.ref a0), some (.ref a1), some (.int a2)] [] h 0 0 := by
  intro q
  induction q with
  | zero => intro a0 a1 a2 h H; cases H
  | succ q hrc2 =>
    intro a0 a1 a2 h H
    replace H : X6_drawIdle_L2_s (X6_drawIdle_L2 q) a0 a1 a2 h = some h' := H
    unfold X6_drawIdle_L2_s at H
    refine go_iload_n (pc := 2) dX6_drawIdle_2 rfl rfl ?_
    refine go_aload_n (pc := 3) dX6_drawIdle_3 rfl rfl ?_
    refine go_getR (pc := 4) dX6_drawIdle_4 fl_X6_34 H (fun v101 H => ?_)
    refine go_getR (pc := 7) dX6_drawIdle_7 fl_X6_54 H (fun v102 H => ?_)
    refine go_getI (pc := 10) dX6_drawIdle_10 fl_X6_75 H (fun v103 H => ?_)
    refine go_icmp_ge (pc := 13) (tgt := 37) dX6_drawIdle_13 (by decide) H (fun H => ?_) (fun H => ?_)
    · exact go_vret (pc := 37) dX6_drawIdle_37 rfl ⟨Nat.le_of_ble_eq_true rfl, Nat.le_of_ble_eq_true rfl⟩ H
    · refine go_aload_n (pc := 16) dX6_drawIdle_16 rfl rfl ?_
      refine go_getR (pc := 17) dX6_drawIdle_17 fl_X6_23 H (fun v104 H => ?_)
      refine go_iload_n (pc := 20) dX6_drawIdle_20 rfl rfl ?_
      refine go_iconst (pc := 21) (v := 0) dX6_drawIdle_21 (by decide) ?_
      refine go_aload_n (pc := 22) dX6_drawIdle_22 rfl rfl ?_
      refine go_aload_n (pc := 23) dX6_drawIdle_23 rfl rfl ?_
      refine go_iload_n (pc := 24) dX6_drawIdle_24 rfl rfl ?_
      refine go_cVi (pc := 25) (Mz := M_X6_drawnIn) (as := [.ref a1, .int a2]) (a := a0) (st := [.int 0, .int a2, .ref v104]) dX6_drawIdle_25 wd_1183 cv_X6_drawnIn X6_drawnIn_ok rfl rfl ⟨Nat.le_of_ble_eq_true rfl, Nat.le_of_ble_eq_true rfl⟩ (Nat.le_of_ble_eq_true rfl) ⟨rfl, rfl⟩ ⟨Nat.le_of_ble_eq_true rfl, Nat.le_of_ble_eq_true rfl⟩ H (fun v106 h105 H => ?_)
      refine go_cVv (pc := 28) (Mz := M_X8_put) (as := [.int a2, .int 0, .int v106]) (a := v104) (st := []) dX6_drawIdle_28 wd_822 cv_X8_put X8_put_ok rfl rfl ⟨Nat.le_of_ble_eq_true rfl, Nat.le_of_ble_eq_true rfl⟩ (Nat.le_of_ble_eq_true rfl) ⟨rfl, rfl⟩ ⟨Nat.le_of_ble_eq_true rfl, Nat.le_of_ble_eq_true rfl⟩ H (fun h107 H => ?_)
      refine go_iinc (pc := 31) (v := a2 + 1) (L' := [some (.ref a0), some (.ref a1), some (.int (a2 + 1))]) dX6_drawIdle_31 rfl rfl (Nat.le_of_ble_eq_true rfl) rfl ?_
      refine go_goto (pc := 34) (tgt := 2) dX6_drawIdle_34 (by decide) ?_
      exact Go.weak (L' := [some (.ref a0), some (.ref a1), some (.int (a2 + 1))]) ⟨rfl, ⟨rfl, ⟨rfl, trivial⟩⟩⟩ (hrc2 a0 a1 (a2 + 1) h107 H)

def X6_drawIdle (a0 : Nat) (a1 : Nat) (h : Hp) : Option (Hp) :=
  X6_drawIdle_L2 5000 a0 a1 0 h
theorem X6_drawIdle_ok {a0 : Nat} {a1 : Nat} {h h' : Hp} (H : X6_drawIdle a0 a1 h = some h') : Con M_X6_drawIdle [.ref a0, .ref a1] h none h' := by
  refine con_of_go (by decide) 1 (L := [some (.ref a0), some (.ref a1), none]) rfl (Nat.le_of_ble_eq_true rfl) ?_
  unfold X6_drawIdle at H
  refine go_iconst (pc := 0) (v := 0) dX6_drawIdle_0 (by decide) ?_
  refine go_istore_n (pc := 1) (L' := [some (.ref a0), some (.ref a1), some (.int 0)]) dX6_drawIdle_1 rfl (Nat.le_of_ble_eq_true rfl) rfl ?_
  exact Go.weak (L' := [some (.ref a0), some (.ref a1), some (.int 0)]) ⟨rfl, ⟨rfl, ⟨rfl, trivial⟩⟩⟩ (X6_drawIdle_L2_ok 5000 a0 a1 0 h H)

def M_X6_lostBy : MD := (yX6_lostBy, cX6_lostBy, 4, (some .int), 1, 22, 0, 0)
theorem cv_X6_lostBy : CVo M_X6_lostBy 1 6 := ⟨⟨wd_826, wd_116, ⟨by decide, by decide⟩, by decide +kernel⟩, wd_824, wd_825, _, rfl, rfl⟩
def X6_lostBy_L4_s (rc4 : Nat → Int32 → Int32 → Int32 → Hp → Option (Int32 × Hp)) (a0 : Nat) (a1 : Int32) (a2 : Int32) (a3 : Int32) (h : Hp) : Option (Int32 × Hp) :=
  if a1 ≤ a3 then (
    some (a2, h))
  else (
    (gR h a0 6 1).bind fun v101 =>
    cV h v101 8 (X8_cell v101 a3 0 h) fun v103 h102 =>
    pin (a2 + v103) fun v104 =>
    rc4 a0 a1 v104 (a3 + 1) h102)
def X6_lostBy_L4 (q : Nat) : Nat → Int32 → Int32 → Int32 → Hp → Option (Int32 × Hp) := loopN (fun _ _ _ _ _ => none) (X6_lostBy_L4_s) q
theorem X6_lostBy_L4_ok {hh h' : Hp} {r : Int32}  : ∀ (q : Nat) (a0 : Nat) (a1 : Int32) (a2 : Int32) (a3 : Int32) (h : Hp), X6_lostBy_L4 q a0 a1 a2 a3 h = some (r, h') → Go (PM M_X6_lostBy hh (some (.int r)) h') M_X6_lostBy 4 [some (.ref a0), some (.int a1), some (.int a2), some (.int a3)] [] h 0 0 := by
  intro q
  induction q with
  | zero => intro a0 a1 a2 a3 h H; cases H
  | succ q hrc4 =>
    intro a0 a1 a2 a3 h H
    replace H : X6_lostBy_L4_s (X6_lostBy_L4 q) a0 a1 a2 a3 h = some (r, h') := H
    unfold X6_lostBy_L4_s at H
    refine go_iload_n (pc := 4) dX6_lostBy_4 rfl rfl ?_
    refine go_iload_n (pc := 5) dX6_lostBy_5 rfl rfl ?_
    refine go_icmp_ge (pc := 6) (tgt := 27) dX6_lostBy_6 (by decide) H (fun H => ?_) (fun H => ?_)
    · refine go_iload_n (pc := 27) dX6_lostBy_27 rfl rfl ?_
      exact go_iret (pc := 28) dX6_lostBy_28 rfl ⟨Nat.le_of_ble_eq_true rfl, Nat.le_of_ble_eq_true rfl⟩ H
    · refine go_iload_n (pc := 9) dX6_lostBy_9 rfl rfl ?_
      refine go_aload_n (pc := 10) dX6_lostBy_10 rfl rfl ?_
      refine go_getR (pc := 11) dX6_lostBy_11 fl_X6_23 H (fun v101 H => ?_)
      refine go_iload_n (pc := 14) dX6_lostBy_14 rfl rfl ?_
      refine go_iconst (pc := 15) (v := 0) dX6_lostBy_15 (by decide) ?_
      refine go_cVi (pc := 16) (Mz := M_X8_cell) (as := [.int a3, .int 0]) (a := v101) (st := [.int a2]) dX6_lostBy_16 wd_758 cv_X8_cell X8_cell_ok rfl rfl ⟨Nat.le_of_ble_eq_true rfl, Nat.le_of_ble_eq_true rfl⟩ (Nat.le_of_ble_eq_true rfl) ⟨rfl, rfl⟩ ⟨Nat.le_of_ble_eq_true rfl, Nat.le_of_ble_eq_true rfl⟩ H (fun v103 h102 H => ?_)
      refine go_iadd (pc := 19) dX6_lostBy_19 ?_
      refine go_pin H (fun v104 H => ?_)
      refine go_istore_n (pc := 20) (L' := [some (.ref a0), some (.int a1), some (.int v104), some (.int a3)]) dX6_lostBy_20 rfl (Nat.le_of_ble_eq_true rfl) rfl ?_
      refine go_iinc (pc := 21) (v := a3 + 1) (L' := [some (.ref a0), some (.int a1), some (.int v104), some (.int (a3 + 1))]) dX6_lostBy_21 rfl rfl (Nat.le_of_ble_eq_true rfl) rfl ?_
      refine go_goto (pc := 24) (tgt := 4) dX6_lostBy_24 (by decide) ?_
      exact Go.weak (L' := [some (.ref a0), some (.int a1), some (.int v104), some (.int (a3 + 1))]) ⟨rfl, ⟨rfl, ⟨rfl, ⟨rfl, trivial⟩⟩⟩⟩ (hrc4 a0 a1 v104 (a3 + 1) h102 H)

def X6_lostBy (a0 : Nat) (a1 : Int32) (h : Hp) : Option (Int32 × Hp) :=
  X6_lostBy_L4 5000 a0 a1 0 0 h
theorem X6_lostBy_ok {a0 : Nat} {a1 : Int32} {h h' : Hp} {r : Int32} (H : X6_lostBy a0 a1 h = some (r, h')) : Con M_X6_lostBy [.ref a0, .int a1] h (some (.int r)) h' := by
  refine con_of_go (by decide) 2 (L := [some (.ref a0), some (.int a1), none, none]) rfl (Nat.le_of_ble_eq_true rfl) ?_
  unfold X6_lostBy at H
  refine go_iconst (pc := 0) (v := 0) dX6_lostBy_0 (by decide) ?_
  refine go_istore_n (pc := 1) (L' := [some (.ref a0), some (.int a1), some (.int 0), none]) dX6_lostBy_1 rfl (Nat.le_of_ble_eq_true rfl) rfl ?_
  refine go_iconst (pc := 2) (v := 0) dX6_lostBy_2 (by decide) ?_
  refine go_istore_n (pc := 3) (L' := [some (.ref a0), some (.int a1), some (.int 0), some (.int 0)]) dX6_lostBy_3 rfl (Nat.le_of_ble_eq_true rfl) rfl ?_
  exact Go.weak (L' := [some (.ref a0), some (.int a1), some (.int 0), some (.int 0)]) ⟨rfl, ⟨rfl, ⟨rfl, ⟨rfl, trivial⟩⟩⟩⟩ (X6_lostBy_L4_ok 5000 a0 a1 0 0 h H)

def M_X6_isNoonSeen : MD := (yX6_isNoonSeen, cX6_isNoonSeen, 4, (some .boolean), 1, 22, 0, 0)
theorem cv_X6_isNoonSeen : CVo M_X6_isNoonSeen 2 6 := ⟨⟨wd_864, wd_116, ⟨by decide, by decide⟩, by decide +kernel⟩, wd_863, wd_32, _, rfl, rfl⟩
def X6_isNoonSeen_L2_s (rc2 : Nat → Nat → Int32 → Int32 → Hp → Option (Int32 × Hp)) (a0 : Nat) (a1 : Nat) (a2 : Int32) (a3 : Int32) (h : Hp) : Option (Int32 × Hp) :=
  (gR h a0 6 3).bind fun v101 =>
  (gR h v101 9 3).bind fun v102 =>
  (gI h v102 8 3).bind fun v103 =>
  if v103 ≤ a3 then (
    rZ 0 h)
  else (
    (gR h a0 6 3).bind fun v104 =>
    (gR h v104 9 3).bind fun v105 =>
    cV h v105 8 (X8_cell v105 a3 0 h) fun v107 h106 =>
    if v107 = a2 then (
      (gI h106 a1 4 2).bind fun v108 =>
      if ((v108 >>> (a3 &&& 31)) &&& 1) = 0 then (
        rZ 0 h106)
      else (
        rZ 1 h106))
    else (
      rc2 a0 a1 a2 (a3 + 1) h106))
def X6_isNoonSeen_L2 (q : Nat) : Nat → Nat → Int32 → Int32 → Hp → Option (Int32 × Hp) := loopN (fun _ _ _ _ _ => none) (X6_isNoonSeen_L2_s) q
theorem X6_isNoonSeen_L2_ok {hh h' : Hp} {r : Int32}  : ∀ (q : Nat) (a0 : Nat) (a1 : Nat) (a2 : Int32) (a3 : Int32) (h : Hp), X6_isNoonSeen_L2 q a0 a1 a2 a3 h = some (r, h') → Go (PM M_X6_isNoonSeen hh (some (.int r)) h') M_X6_isNoonSeen 2 [some (.ref a0), some (.ref a1), some (.int a2), some (.int a3)] [] h 0 0 := by
  intro q
  induction q with
  | zero => intro a0 a1 a2 a3 h H; cases H
  | succ q hrc2 =>
    intro a0 a1 a2 a3 h H
    replace H : X6_isNoonSeen_L2_s (X6_isNoonSeen_L2 q) a0 a1 a2 a3 h = some (r, h') := H
    unfold X6_isNoonSeen_L2_s at H
    refine go_iload_n (pc := 2) dX6_isNoonSeen_2 rfl rfl ?_
    refine go_aload_n (pc := 3) dX6_isNoonSeen_3 rfl rfl ?_
    refine go_getR (pc := 4) dX6_isNoonSeen_4 fl_X6_34 H (fun v101 H => ?_)
    refine go_getR (pc := 7) dX6_isNoonSeen_7 fl_X6_126 H (fun v102 H => ?_)
    refine go_getI (pc := 10) dX6_isNoonSeen_10 fl_X6_75 H (fun v103 H => ?_)
    refine go_icmp_ge (pc := 13) (tgt := 55) dX6_isNoonSeen_13 (by decide) H (fun H => ?_) (fun H => ?_)
    · refine go_iconst (pc := 55) (v := 0) dX6_isNoonSeen_55 (by decide) ?_
      exact go_zret (pc := 56) dX6_isNoonSeen_56 rfl ⟨Nat.le_of_ble_eq_true rfl, Nat.le_of_ble_eq_true rfl⟩ H
    · refine go_aload_n (pc := 16) dX6_isNoonSeen_16 rfl rfl ?_
      refine go_getR (pc := 17) dX6_isNoonSeen_17 fl_X6_34 H (fun v104 H => ?_)
      refine go_getR (pc := 20) dX6_isNoonSeen_20 fl_X6_126 H (fun v105 H => ?_)
      refine go_iload_n (pc := 23) dX6_isNoonSeen_23 rfl rfl ?_
      refine go_iconst (pc := 24) (v := 0) dX6_isNoonSeen_24 (by decide) ?_
      refine go_cVi (pc := 25) (Mz := M_X8_cell) (as := [.int a3, .int 0]) (a := v105) (st := []) dX6_isNoonSeen_25 wd_758 cv_X8_cell X8_cell_ok rfl rfl ⟨Nat.le_of_ble_eq_true rfl, Nat.le_of_ble_eq_true rfl⟩ (Nat.le_of_ble_eq_true rfl) ⟨rfl, rfl⟩ ⟨Nat.le_of_ble_eq_true rfl, Nat.le_of_ble_eq_true rfl⟩ H (fun v107 h106 H => ?_)
      refine go_iload_n (pc := 28) dX6_isNoonSeen_28 rfl rfl ?_
      refine go_icmp_ne (pc := 29) (tgt := 49) dX6_isNoonSeen_29 (by decide) H (fun H => ?_) (fun H => ?_)
      · refine go_iinc (pc := 49) (v := a3 + 1) (L' := [some (.ref a0), some (.ref a1), some (.int a2), some (.int (a3 + 1))]) dX6_isNoonSeen_49 rfl rfl (Nat.le_of_ble_eq_true rfl) rfl ?_
        refine go_goto (pc := 52) (tgt := 2) dX6_isNoonSeen_52 (by decide) ?_
        exact Go.weak (L' := [some (.ref a0), some (.ref a1), some (.int a2), some (.int (a3 + 1))]) ⟨rfl, ⟨rfl, ⟨rfl, ⟨rfl, trivial⟩⟩⟩⟩ (hrc2 a0 a1 a2 (a3 + 1) h106 H)
      · refine go_aload_n (pc := 32) dX6_isNoonSeen_32 rfl rfl ?_
        refine go_getI (pc := 33) dX6_isNoonSeen_33 fl_X6_129 H (fun v108 H => ?_)
        refine go_iload_n (pc := 36) dX6_isNoonSeen_36 rfl rfl ?_
        refine go_ishr (pc := 37) dX6_isNoonSeen_37 ?_
        refine go_iconst (pc := 38) (v := 1) dX6_isNoonSeen_38 (by decide) ?_
        refine go_iand (pc := 39) dX6_isNoonSeen_39 ?_
        refine go_if_eq (pc := 40) (tgt := 47) dX6_isNoonSeen_40 (by decide) H (fun H => ?_) (fun H => ?_)
        · refine go_iconst (pc := 47) (v := 0) dX6_isNoonSeen_47 (by decide) ?_
          exact go_zret (pc := 48) dX6_isNoonSeen_48 rfl ⟨Nat.le_of_ble_eq_true rfl, Nat.le_of_ble_eq_true rfl⟩ H
        · refine go_iconst (pc := 43) (v := 1) dX6_isNoonSeen_43 (by decide) ?_
          refine go_goto (pc := 44) (tgt := 48) dX6_isNoonSeen_44 (by decide) ?_
          exact go_zret (pc := 48) dX6_isNoonSeen_48 rfl ⟨Nat.le_of_ble_eq_true rfl, Nat.le_of_ble_eq_true rfl⟩ H

def X6_isNoonSeen (a0 : Nat) (a1 : Nat) (a2 : Int32) (h : Hp) : Option (Int32 × Hp) :=
  X6_isNoonSeen_L2 5000 a0 a1 a2 0 h
theorem X6_isNoonSeen_ok {a0 : Nat} {a1 : Nat} {a2 : Int32} {h h' : Hp} {r : Int32} (H : X6_isNoonSeen a0 a1 a2 h = some (r, h')) : Con M_X6_isNoonSeen [.ref a0, .ref a1, .int a2] h (some (.int r)) h' := by
  refine con_of_go (by decide) 1 (L := [some (.ref a0), some (.ref a1), some (.int a2), none]) rfl (Nat.le_of_ble_eq_true rfl) ?_
  unfold X6_isNoonSeen at H
  refine go_iconst (pc := 0) (v := 0) dX6_isNoonSeen_0 (by decide) ?_
  refine go_istore_n (pc := 1) (L' := [some (.ref a0), some (.ref a1), some (.int a2), some (.int 0)]) dX6_isNoonSeen_1 rfl (Nat.le_of_ble_eq_true rfl) rfl ?_
  exact Go.weak (L' := [some (.ref a0), some (.ref a1), some (.int a2), some (.int 0)]) ⟨rfl, ⟨rfl, ⟨rfl, ⟨rfl, trivial⟩⟩⟩⟩ (X6_isNoonSeen_L2_ok 5000 a0 a1 a2 0 h H)

def M_X6_sail : MD := (yX6_sail, cX6_sail, 7, none, 2, 45, 0, 0)
theorem cv_X6_sail : CVo M_X6_sail 3 6 := ⟨⟨wd_852, wd_116, ⟨by decide, by decide⟩, by decide +kernel⟩, wd_850, wd_851, _, rfl, rfl⟩
def X6_sail_B112 (rc28 : Nat → Nat → Int32 → Int32 → Hp → Option (Hp)) (a0 : Nat) (a1 : Nat) (a3 : Int32) (a4 : Int32) (h : Hp) : Option (Hp) :=
  rc28 a0 a1 a3 (a4 + 1) h
theorem X6_sail_B112_ok {hh h' : Hp}  (rc28 : Nat → Nat → Int32 → Int32 → Hp → Option (Hp)) (hrc28 : ∀ (a0 : Nat) (a1 : Nat) (a3 : Int32) (a4 : Int32) (h : Hp), rc28 a0 a1 a3 a4 h = some h' → Go (PM M_X6_sail hh none h') M_X6_sail 28 [some (.ref a0), some (.ref a1), none, some (.int a3), some (.int a4), none, none] [] h 0 0) (a0 : Nat) (a1 : Nat) (a3 : Int32) (a4 : Int32) (h : Hp) (H : X6_sail_B112 rc28 a0 a1 a3 a4 h = some h') : Go (PM M_X6_sail hh none h') M_X6_sail 112 [some (.ref a0), some (.ref a1), none, some (.int a3), some (.int a4), none, none] [] h 0 0 := by
  unfold X6_sail_B112 at H
  refine go_iinc (pc := 112) (v := a4 + 1) (L' := [some (.ref a0), some (.ref a1), none, some (.int a3), some (.int (a4 + 1)), none, none]) dX6_sail_112 rfl rfl (Nat.le_of_ble_eq_true rfl) rfl ?_
  refine go_goto (pc := 115) (tgt := 28) dX6_sail_115 (by decide) ?_
  exact Go.weak (L' := [some (.ref a0), some (.ref a1), none, some (.int a3), some (.int (a4 + 1)), none, none]) ⟨rfl, ⟨rfl, ⟨rfl, ⟨rfl, trivial⟩⟩⟩⟩ (hrc28 a0 a1 a3 (a4 + 1) h H)

def X6_sail_L28_s (rc28 : Nat → Nat → Int32 → Int32 → Hp → Option (Hp)) (a0 : Nat) (a1 : Nat) (a3 : Int32) (a4 : Int32) (h : Hp) : Option (Hp) :=
  if a3 ≤ a4 then (
    some h)
  else (
    (gR h a0 6 3).bind fun v201 =>
    (gR h v201 9 2).bind fun v202 =>
    cV h v202 8 (X8_cell v202 a4 3 h) fun v204 h203 =>
    (gR h203 a0 6 1).bind fun v205 =>
    cV h203 v205 8 (X8_cell v205 a4 0 h203) fun v207 h206 =>
    pin (240 - v207) fun v208 =>
    (gR h206 a0 6 0).bind fun v209 =>
    (gR h206 a1 4 0).bind fun v210 =>
    cV h206 v210 8 (X8_cell v210 a4 1 h206) fun v212 h211 =>
    cVv h211 v209 7 (X7_go v209 v212 (v208 * v204) (240 * v204) h211) fun h213 =>
    cV h213 a0 6 (X6_isNoonSeen a0 a1 (a4 + 1) h213) fun v215 h214 =>
    if v215 = 0 then (
      X6_sail_B112 rc28 a0 a1 a3 a4 h214)
    else (
      (gR h214 a0 6 0).bind fun v216 =>
      cVv h214 v216 7 (X7_seeNoon v216 h214) fun h217 =>
      X6_sail_B112 rc28 a0 a1 a3 a4 h217))
def X6_sail_L28 (q : Nat) : Nat → Nat → Int32 → Int32 → Hp → Option (Hp) := loopN (fun _ _ _ _ _ => none) (X6_sail_L28_s) q
theorem X6_sail_L28_ok {hh h' : Hp}  : ∀ (q : Nat) (a0 : Nat) (a1 : Nat) (a3 : Int32) (a4 : Int32) (h : Hp), X6_sail_L28 q a0 a1 a3 a4 h = some h' → Go (PM M_X6_sail hh none h') M_X6_sail 28 [some (.ref a0), some (.ref a1), none, some (.int a3), some (.int a4), none, none] [] h 0 0 := by
  intro q
  induction q with
  | zero => intro a0 a1 a3 a4 h H; cases H
  | succ q hrc28 =>
    intro a0 a1 a3 a4 h H
    replace H : X6_sail_L28_s (X6_sail_L28 q) a0 a1 a3 a4 h = some h' := H
    unfold X6_sail_L28_s at H
    refine go_iload (pc := 28) dX6_sail_28 rfl ?_
    refine go_iload_n (pc := 30) dX6_sail_30 rfl rfl ?_
    refine go_icmp_ge (pc := 31) (tgt := 118) dX6_sail_31 (by decide) H (fun H => ?_) (fun H => ?_)
    · exact go_vret (pc := 118) dX6_sail_118 rfl ⟨Nat.le_of_ble_eq_true rfl, Nat.le_of_ble_eq_true rfl⟩ H
    · refine go_aload_n (pc := 34) dX6_sail_34 rfl rfl ?_
      refine go_getR (pc := 35) dX6_sail_35 fl_X6_34 H (fun v201 H => ?_)
      refine go_getR (pc := 38) dX6_sail_38 fl_X6_54 H (fun v202 H => ?_)
      refine go_iload (pc := 41) dX6_sail_41 rfl ?_
      refine go_iconst (pc := 43) (v := 3) dX6_sail_43 (by decide) ?_
      refine go_cVi (pc := 44) (Mz := M_X8_cell) (as := [.int a4, .int 3]) (a := v202) (st := []) dX6_sail_44 wd_758 cv_X8_cell X8_cell_ok rfl rfl ⟨Nat.le_of_ble_eq_true rfl, Nat.le_of_ble_eq_true rfl⟩ (Nat.le_of_ble_eq_true rfl) ⟨rfl, rfl⟩ ⟨Nat.le_of_ble_eq_true rfl, Nat.le_of_ble_eq_true rfl⟩ H (fun v204 h203 H => ?_)
      refine go_istore (pc := 47) (L' := [some (.ref a0), some (.ref a1), none, some (.int a3), some (.int a4), some (.int v204), none]) dX6_sail_47 (Nat.le_of_ble_eq_true rfl) rfl ?_
      refine go_sipush (pc := 49) (v := 240) dX6_sail_49 (by decide) ?_
      refine go_aload_n (pc := 52) dX6_sail_52 rfl rfl ?_
      refine go_getR (pc := 53) dX6_sail_53 fl_X6_23 H (fun v205 H => ?_)
      refine go_iload (pc := 56) dX6_sail_56 rfl ?_
      refine go_iconst (pc := 58) (v := 0) dX6_sail_58 (by decide) ?_
      refine go_cVi (pc := 59) (Mz := M_X8_cell) (as := [.int a4, .int 0]) (a := v205) (st := [.int 240]) dX6_sail_59 wd_758 cv_X8_cell X8_cell_ok rfl rfl ⟨Nat.le_of_ble_eq_true rfl, Nat.le_of_ble_eq_true rfl⟩ (Nat.le_of_ble_eq_true rfl) ⟨rfl, rfl⟩ ⟨Nat.le_of_ble_eq_true rfl, Nat.le_of_ble_eq_true rfl⟩ H (fun v207 h206 H => ?_)
      refine go_isub (pc := 62) dX6_sail_62 ?_
      refine go_pin H (fun v208 H => ?_)
      refine go_istore (pc := 63) (L' := [some (.ref a0), some (.ref a1), none, some (.int a3), some (.int a4), some (.int v204), some (.int v208)]) dX6_sail_63 (Nat.le_of_ble_eq_true rfl) rfl ?_
      refine go_aload_n (pc := 65) dX6_sail_65 rfl rfl ?_
      refine go_getR (pc := 66) dX6_sail_66 fl_X6_12 H (fun v209 H => ?_)
      refine go_aload_n (pc := 69) dX6_sail_69 rfl rfl ?_
      refine go_getR (pc := 70) dX6_sail_70 fl_X6_42 H (fun v210 H => ?_)
      refine go_iload (pc := 73) dX6_sail_73 rfl ?_
      refine go_iconst (pc := 75) (v := 1) dX6_sail_75 (by decide) ?_
      refine go_cVi (pc := 76) (Mz := M_X8_cell) (as := [.int a4, .int 1]) (a := v210) (st := [.ref v209]) dX6_sail_76 wd_758 cv_X8_cell X8_cell_ok rfl rfl ⟨Nat.le_of_ble_eq_true rfl, Nat.le_of_ble_eq_true rfl⟩ (Nat.le_of_ble_eq_true rfl) ⟨rfl, rfl⟩ ⟨Nat.le_of_ble_eq_true rfl, Nat.le_of_ble_eq_true rfl⟩ H (fun v212 h211 H => ?_)
      refine go_iload (pc := 79) dX6_sail_79 rfl ?_
      refine go_iload (pc := 81) dX6_sail_81 rfl ?_
      refine go_imul (pc := 83) dX6_sail_83 ?_
      refine go_sipush (pc := 84) (v := 240) dX6_sail_84 (by decide) ?_
      refine go_iload (pc := 87) dX6_sail_87 rfl ?_
      refine go_imul (pc := 89) dX6_sail_89 ?_
      refine go_cVv (pc := 90) (Mz := M_X7_go) (as := [.int v212, .int (v208 * v204), .int (240 * v204)]) (a := v209) (st := []) dX6_sail_90 wd_857 cv_X7_go X7_go_ok rfl rfl ⟨Nat.le_of_ble_eq_true rfl, Nat.le_of_ble_eq_true rfl⟩ (Nat.le_of_ble_eq_true rfl) ⟨rfl, rfl⟩ ⟨Nat.le_of_ble_eq_true rfl, Nat.le_of_ble_eq_true rfl⟩ H (fun h213 H => ?_)
      refine go_aload_n (pc := 93) dX6_sail_93 rfl rfl ?_
      refine go_aload_n (pc := 94) dX6_sail_94 rfl rfl ?_
      refine go_iload (pc := 95) dX6_sail_95 rfl ?_
      refine go_iconst (pc := 97) (v := 1) dX6_sail_97 (by decide) ?_
      refine go_iadd (pc := 98) dX6_sail_98 ?_
      refine go_cVi (pc := 99) (Mz := M_X6_isNoonSeen) (as := [.ref a1, .int (a4 + 1)]) (a := a0) (st := []) dX6_sail_99 wd_861 cv_X6_isNoonSeen X6_isNoonSeen_ok rfl rfl ⟨Nat.le_of_ble_eq_true rfl, Nat.le_of_ble_eq_true rfl⟩ (Nat.le_of_ble_eq_true rfl) ⟨rfl, rfl⟩ ⟨Nat.le_of_ble_eq_true rfl, Nat.le_of_ble_eq_true rfl⟩ H (fun v215 h214 H => ?_)
      refine go_if_eq (pc := 102) (tgt := 112) dX6_sail_102 (by decide) H (fun H => ?_) (fun H => ?_)
      · exact Go.weak (L' := [some (.ref a0), some (.ref a1), none, some (.int a3), some (.int a4), none, none]) ⟨rfl, ⟨rfl, ⟨rfl, ⟨rfl, trivial⟩⟩⟩⟩ (X6_sail_B112_ok _ hrc28 a0 a1 a3 a4 h214 H)
      · refine go_aload_n (pc := 105) dX6_sail_105 rfl rfl ?_
        refine go_getR (pc := 106) dX6_sail_106 fl_X6_12 H (fun v216 H => ?_)
        refine go_cVv (pc := 109) (Mz := M_X7_seeNoon) (as := []) (a := v216) (st := []) dX6_sail_109 wd_865 cv_X7_seeNoon X7_seeNoon_ok rfl rfl ⟨Nat.le_of_ble_eq_true rfl, Nat.le_of_ble_eq_true rfl⟩ (Nat.le_of_ble_eq_true rfl) ⟨rfl, rfl⟩ ⟨Nat.le_of_ble_eq_true rfl, Nat.le_of_ble_eq_true rfl⟩ H (fun h217 H => ?_)
        exact Go.weak (L' := [some (.ref a0), some (.ref a1), none, some (.int a3), some (.int a4), none, none]) ⟨rfl, ⟨rfl, ⟨rfl, ⟨rfl, trivial⟩⟩⟩⟩ (X6_sail_B112_ok _ hrc28 a0 a1 a3 a4 h217 H)

def X6_sail_B25 (a0 : Nat) (a1 : Nat) (a2 : Int32) (a3 : Int32) (h : Hp) : Option (Hp) :=
  X6_sail_L28 5000 a0 a1 a3 a2 h
theorem X6_sail_B25_ok {hh h' : Hp}  (a0 : Nat) (a1 : Nat) (a2 : Int32) (a3 : Int32) (h : Hp) (H : X6_sail_B25 a0 a1 a2 a3 h = some h') : Go (PM M_X6_sail hh none h') M_X6_sail 25 [some (.ref a0), some (.ref a1), some (.int a2), some (.int a3), none, none, none] [] h 0 0 := by
  unfold X6_sail_B25 at H
  refine go_iload_n (pc := 25) dX6_sail_25 rfl rfl ?_
  refine go_istore (pc := 26) (L' := [some (.ref a0), some (.ref a1), some (.int a2), some (.int a3), some (.int a2), none, none]) dX6_sail_26 (Nat.le_of_ble_eq_true rfl) rfl ?_
  exact Go.weak (L' := [some (.ref a0), some (.ref a1), none, some (.int a3), some (.int a2), none, none]) ⟨rfl, ⟨rfl, ⟨rfl, ⟨rfl, trivial⟩⟩⟩⟩ (X6_sail_L28_ok 5000 a0 a1 a3 a2 h H)

def X6_sail (a0 : Nat) (a1 : Nat) (a2 : Int32) (a3 : Int32) (h : Hp) : Option (Hp) :=
  if a2 = 0 then (
    (gR h a0 6 0).bind fun v1 =>
    (gR h a0 6 3).bind fun v2 =>
    (gI h v2 9 8).bind fun v3 =>
    (gR h a0 6 3).bind fun v4 =>
    (gI h v4 9 9).bind fun v5 =>
    cVv h v1 7 (X7_setOut v1 v3 v5 h) fun h6 =>
    X6_sail_B25 a0 a1 a2 a3 h6)
  else (
    X6_sail_B25 a0 a1 a2 a3 h)
theorem X6_sail_ok {a0 : Nat} {a1 : Nat} {a2 : Int32} {a3 : Int32} {h h' : Hp} (H : X6_sail a0 a1 a2 a3 h = some h') : Con M_X6_sail [.ref a0, .ref a1, .int a2, .int a3] h none h' := by
  refine con_of_go (by decide) 3 (L := [some (.ref a0), some (.ref a1), some (.int a2), some (.int a3), none, none, none]) rfl (Nat.le_of_ble_eq_true rfl) ?_
  unfold X6_sail at H
  refine go_iload_n (pc := 0) dX6_sail_0 rfl rfl ?_
  refine go_if_ne (pc := 1) (tgt := 25) dX6_sail_1 (by decide) H (fun H => ?_) (fun H => ?_)
  · exact Go.weak (L' := [some (.ref a0), some (.ref a1), some (.int a2), some (.int a3), none, none, none]) ⟨rfl, ⟨rfl, ⟨rfl, ⟨rfl, trivial⟩⟩⟩⟩ (X6_sail_B25_ok a0 a1 a2 a3 h H)
  · refine go_aload_n (pc := 4) dX6_sail_4 rfl rfl ?_
    refine go_getR (pc := 5) dX6_sail_5 fl_X6_12 H (fun v1 H => ?_)
    refine go_aload_n (pc := 8) dX6_sail_8 rfl rfl ?_
    refine go_getR (pc := 9) dX6_sail_9 fl_X6_34 H (fun v2 H => ?_)
    refine go_getI (pc := 12) dX6_sail_12 fl_X6_107 H (fun v3 H => ?_)
    refine go_aload_n (pc := 15) dX6_sail_15 rfl rfl ?_
    refine go_getR (pc := 16) dX6_sail_16 fl_X6_34 H (fun v4 H => ?_)
    refine go_getI (pc := 19) dX6_sail_19 fl_X6_110 H (fun v5 H => ?_)
    refine go_cVv (pc := 22) (Mz := M_X7_setOut) (as := [.int v3, .int v5]) (a := v1) (st := []) dX6_sail_22 wd_853 cv_X7_setOut X7_setOut_ok rfl rfl ⟨Nat.le_of_ble_eq_true rfl, Nat.le_of_ble_eq_true rfl⟩ (Nat.le_of_ble_eq_true rfl) ⟨rfl, rfl⟩ ⟨Nat.le_of_ble_eq_true rfl, Nat.le_of_ble_eq_true rfl⟩ H (fun h6 H => ?_)
    exact Go.weak (L' := [some (.ref a0), some (.ref a1), some (.int a2), some (.int a3), none, none, none]) ⟨rfl, ⟨rfl, ⟨rfl, ⟨rfl, trivial⟩⟩⟩⟩ (X6_sail_B25_ok a0 a1 a2 a3 h6 H)

def M_X6_sailFor : MD := (yX6_sailFor, cX6_sailFor, 3, (some (.object "GlassWatch$Ship")), 4, 93, 0, 0)
theorem cv_X6_sailFor : CVo M_X6_sailFor 2 6 := ⟨⟨wd_847, wd_116, ⟨by decide, by decide⟩, by decide +kernel⟩, wd_845, wd_846, _, rfl, rfl⟩
def X6_sailFor (a0 : Nat) (a1 : Nat) (a2 : Int32) (h : Hp) : Option (Nat × Hp) :=
  cVv h a0 6 (X6_reckon a0 a1 h) fun h1 =>
  cVv h1 a0 6 (X6_sail a0 a1 0 a2 h1) fun h2 =>
  (gR h2 a0 6 0).bind fun v3 =>
  some (v3, h2)
theorem X6_sailFor_ok {a0 : Nat} {a1 : Nat} {a2 : Int32} {h h' : Hp} {r : Nat} (H : X6_sailFor a0 a1 a2 h = some (r, h')) : Con M_X6_sailFor [.ref a0, .ref a1, .int a2] h (some (.ref r)) h' := by
  refine con_of_go (by decide) 0 (L := [some (.ref a0), some (.ref a1), some (.int a2)]) rfl (Nat.le_of_ble_eq_true rfl) ?_
  unfold X6_sailFor at H
  refine go_aload_n (pc := 0) dX6_sailFor_0 rfl rfl ?_
  refine go_aload_n (pc := 1) dX6_sailFor_1 rfl rfl ?_
  refine go_cVv (pc := 2) (Mz := M_X6_reckon) (as := [.ref a1]) (a := a0) (st := []) dX6_sailFor_2 wd_848 cv_X6_reckon X6_reckon_ok rfl rfl ⟨Nat.le_of_ble_eq_true rfl, Nat.le_of_ble_eq_true rfl⟩ (Nat.le_of_ble_eq_true rfl) ⟨rfl, rfl⟩ ⟨Nat.le_of_ble_eq_true rfl, Nat.le_of_ble_eq_true rfl⟩ H (fun h1 H => ?_)
  refine go_aload_n (pc := 5) dX6_sailFor_5 rfl rfl ?_
  refine go_aload_n (pc := 6) dX6_sailFor_6 rfl rfl ?_
  refine go_iconst (pc := 7) (v := 0) dX6_sailFor_7 (by decide) ?_
  refine go_iload_n (pc := 8) dX6_sailFor_8 rfl rfl ?_
  refine go_cVv (pc := 9) (Mz := M_X6_sail) (as := [.ref a1, .int 0, .int a2]) (a := a0) (st := []) dX6_sailFor_9 wd_849 cv_X6_sail X6_sail_ok rfl rfl ⟨Nat.le_of_ble_eq_true rfl, Nat.le_of_ble_eq_true rfl⟩ (Nat.le_of_ble_eq_true rfl) ⟨rfl, rfl⟩ ⟨Nat.le_of_ble_eq_true rfl, Nat.le_of_ble_eq_true rfl⟩ H (fun h2 H => ?_)
  refine go_aload_n (pc := 12) dX6_sailFor_12 rfl rfl ?_
  refine go_getR (pc := 13) dX6_sailFor_13 fl_X6_12 H (fun v3 H => ?_)
  exact go_aret (pc := 16) dX6_sailFor_16 rfl ⟨Nat.le_of_ble_eq_true rfl, Nat.le_of_ble_eq_true rfl⟩ H

def M_X6_firstStrike : MD := (yX6_firstStrike, cX6_firstStrike, 5, (some .int), 3, 71, 0, 0)
theorem cv_X6_firstStrike : CVo M_X6_firstStrike 2 6 := ⟨⟨wd_917, wd_116, ⟨by decide, by decide⟩, by decide +kernel⟩, wd_915, wd_916, _, rfl, rfl⟩
def X6_firstStrike_B50 (rc2 : Nat → Nat → Int32 → Int32 → Hp → Option (Int32 × Hp)) (a0 : Nat) (a1 : Nat) (a2 : Int32) (a3 : Int32) (s0 : Int32) (h : Hp) : Option (Int32 × Hp) :=
  (gR h a0 6 3).bind fun v201 =>
  (gR h v201 9 4).bind fun v202 =>
  cV h v202 8 (X8_holds v202 0 s0 h) fun v204 h203 =>
  if v204 = 0 then (
    rc2 a0 a1 a2 (a3 + 1) h203)
  else (
    some (a3, h203))
theorem X6_firstStrike_B50_ok {hh h' : Hp} {r : Int32}  (rc2 : Nat → Nat → Int32 → Int32 → Hp → Option (Int32 × Hp)) (hrc2 : ∀ (a0 : Nat) (a1 : Nat) (a2 : Int32) (a3 : Int32) (h : Hp), rc2 a0 a1 a2 a3 h = some (r, h') → Go (PM M_X6_firstStrike hh (some (.int r)) h') M_X6_firstStrike 2 [some (.ref a0), some (.ref a1), some (.int a2), some (.int a3), none] [] h 0 0) (a0 : Nat) (a1 : Nat) (a2 : Int32) (a3 : Int32) (s0 : Int32) (h : Hp) (H : X6_firstStrike_B50 rc2 a0 a1 a2 a3 s0 h = some (r, h')) : Go (PM M_X6_firstStrike hh (some (.int r)) h') M_X6_firstStrike 50 [some (.ref a0), some (.ref a1), some (.int a2), some (.int a3), none] [.int s0] h 0 0 := by
  unfold X6_firstStrike_B50 at H
  refine go_istore (pc := 50) (L' := [some (.ref a0), some (.ref a1), some (.int a2), some (.int a3), some (.int s0)]) dX6_firstStrike_50 (Nat.le_of_ble_eq_true rfl) rfl ?_
  refine go_aload_n (pc := 52) dX6_firstStrike_52 rfl rfl ?_
  refine go_getR (pc := 53) dX6_firstStrike_53 fl_X6_34 H (fun v201 H => ?_)
  refine go_getR (pc := 56) dX6_firstStrike_56 fl_X6_144 H (fun v202 H => ?_)
  refine go_iconst (pc := 59) (v := 0) dX6_firstStrike_59 (by decide) ?_
  refine go_iload (pc := 60) dX6_firstStrike_60 rfl ?_
  refine go_cVi (pc := 62) (Mz := M_X8_holds) (as := [.int 0, .int s0]) (a := v202) (st := []) dX6_firstStrike_62 wd_921 cv_X8_holds X8_holds_ok rfl rfl ⟨Nat.le_of_ble_eq_true rfl, Nat.le_of_ble_eq_true rfl⟩ (Nat.le_of_ble_eq_true rfl) ⟨rfl, rfl⟩ ⟨Nat.le_of_ble_eq_true rfl, Nat.le_of_ble_eq_true rfl⟩ H (fun v204 h203 H => ?_)
  refine go_if_eq (pc := 65) (tgt := 70) dX6_firstStrike_65 (by decide) H (fun H => ?_) (fun H => ?_)
  · refine go_iinc (pc := 70) (v := a3 + 1) (L' := [some (.ref a0), some (.ref a1), some (.int a2), some (.int (a3 + 1)), some (.int s0)]) dX6_firstStrike_70 rfl rfl (Nat.le_of_ble_eq_true rfl) rfl ?_
    refine go_goto (pc := 73) (tgt := 2) dX6_firstStrike_73 (by decide) ?_
    exact Go.weak (L' := [some (.ref a0), some (.ref a1), some (.int a2), some (.int (a3 + 1)), none]) ⟨rfl, ⟨rfl, ⟨rfl, ⟨rfl, trivial⟩⟩⟩⟩ (hrc2 a0 a1 a2 (a3 + 1) h203 H)
  · refine go_iload_n (pc := 68) dX6_firstStrike_68 rfl rfl ?_
    exact go_iret (pc := 69) dX6_firstStrike_69 rfl ⟨Nat.le_of_ble_eq_true rfl, Nat.le_of_ble_eq_true rfl⟩ H

def X6_firstStrike_L2_s (rc2 : Nat → Nat → Int32 → Int32 → Hp → Option (Int32 × Hp)) (a0 : Nat) (a1 : Nat) (a2 : Int32) (a3 : Int32) (h : Hp) : Option (Int32 × Hp) :=
  (gR h a0 6 3).bind fun v101 =>
  (gR h v101 9 2).bind fun v102 =>
  (gI h v102 8 3).bind fun v103 =>
  if v103 < a3 then (
    some ((-2), h))
  else (
    bd (J9_max_7cf53 (a3 - 1) 0 h) fun v105 h104 =>
    cVv h104 a0 6 (X6_sail a0 a1 v105 a3 h104) fun h106 =>
    if a2 = 0 then (
      (gR h106 a0 6 0).bind fun v107 =>
      cV h106 v107 7 (X7_inSquare v107 h106) fun v109 h108 =>
      X6_firstStrike_B50 rc2 a0 a1 a2 a3 v109 h108)
    else (
      (gR h106 a0 6 0).bind fun v110 =>
      cV h106 v110 7 (X7_thoughtInSquare v110 h106) fun v112 h111 =>
      X6_firstStrike_B50 rc2 a0 a1 a2 a3 v112 h111))
def X6_firstStrike_L2 (q : Nat) : Nat → Nat → Int32 → Int32 → Hp → Option (Int32 × Hp) := loopN (fun _ _ _ _ _ => none) (X6_firstStrike_L2_s) q
theorem X6_firstStrike_L2_ok {hh h' : Hp} {r : Int32}  : ∀ (q : Nat) (a0 : Nat) (a1 : Nat) (a2 : Int32) (a3 : Int32) (h : Hp), X6_firstStrike_L2 q a0 a1 a2 a3 h = some (r, h') → Go (PM M_X6_firstStrike hh (some (.int r)) h') M_X6_firstStrike 2 [some (.ref a0), some (.ref a1), some (.int a2), some (.int a3), none] [] h 0 0 := by
  intro q
  induction q with
  | zero => intro a0 a1 a2 a3 h H; cases H
  | succ q hrc2 =>
    intro a0 a1 a2 a3 h H
    replace H : X6_firstStrike_L2_s (X6_firstStrike_L2 q) a0 a1 a2 a3 h = some (r, h') := H
    unfold X6_firstStrike_L2_s at H
    refine go_iload_n (pc := 2) dX6_firstStrike_2 rfl rfl ?_
    refine go_aload_n (pc := 3) dX6_firstStrike_3 rfl rfl ?_
    refine go_getR (pc := 4) dX6_firstStrike_4 fl_X6_34 H (fun v101 H => ?_)
    refine go_getR (pc := 7) dX6_firstStrike_7 fl_X6_54 H (fun v102 H => ?_)
    refine go_getI (pc := 10) dX6_firstStrike_10 fl_X6_75 H (fun v103 H => ?_)
    refine go_icmp_gt (pc := 13) (tgt := 76) dX6_firstStrike_13 (by decide) H (fun H => ?_) (fun H => ?_)
    · refine go_bipush (pc := 76) (v := (-2)) dX6_firstStrike_76 (by decide) ?_
      exact go_iret (pc := 78) dX6_firstStrike_78 rfl ⟨Nat.le_of_ble_eq_true rfl, Nat.le_of_ble_eq_true rfl⟩ H
    · refine go_aload_n (pc := 16) dX6_firstStrike_16 rfl rfl ?_
      refine go_aload_n (pc := 17) dX6_firstStrike_17 rfl rfl ?_
      refine go_iload_n (pc := 18) dX6_firstStrike_18 rfl rfl ?_
      refine go_iconst (pc := 19) (v := 1) dX6_firstStrike_19 (by decide) ?_
      refine go_isub (pc := 20) dX6_firstStrike_20 ?_
      refine go_iconst (pc := 21) (v := 0) dX6_firstStrike_21 (by decide) ?_
      refine go_cSi (pc := 22) (Mz := M_J9_max_7cf53) (as := [.int (a3 - 1), .int 0]) (st := [.ref a1, .ref a0]) dX6_firstStrike_22 wd_918 cs_J9_max_7cf53 J9_max_7cf53_ok rfl rfl ⟨Nat.le_of_ble_eq_true rfl, Nat.le_of_ble_eq_true rfl⟩ (Nat.le_of_ble_eq_true rfl) ⟨rfl, rfl⟩ ⟨Nat.le_of_ble_eq_true rfl, Nat.le_of_ble_eq_true rfl⟩ H (fun v105 h104 H => ?_)
      refine go_iload_n (pc := 25) dX6_firstStrike_25 rfl rfl ?_
      refine go_cVv (pc := 26) (Mz := M_X6_sail) (as := [.ref a1, .int v105, .int a3]) (a := a0) (st := []) dX6_firstStrike_26 wd_849 cv_X6_sail X6_sail_ok rfl rfl ⟨Nat.le_of_ble_eq_true rfl, Nat.le_of_ble_eq_true rfl⟩ (Nat.le_of_ble_eq_true rfl) ⟨rfl, rfl⟩ ⟨Nat.le_of_ble_eq_true rfl, Nat.le_of_ble_eq_true rfl⟩ H (fun h106 H => ?_)
      refine go_iload_n (pc := 29) dX6_firstStrike_29 rfl rfl ?_
      refine go_if_eq (pc := 30) (tgt := 43) dX6_firstStrike_30 (by decide) H (fun H => ?_) (fun H => ?_)
      · refine go_aload_n (pc := 43) dX6_firstStrike_43 rfl rfl ?_
        refine go_getR (pc := 44) dX6_firstStrike_44 fl_X6_12 H (fun v107 H => ?_)
        refine go_cVi (pc := 47) (Mz := M_X7_inSquare) (as := []) (a := v107) (st := []) dX6_firstStrike_47 wd_920 cv_X7_inSquare X7_inSquare_ok rfl rfl ⟨Nat.le_of_ble_eq_true rfl, Nat.le_of_ble_eq_true rfl⟩ (Nat.le_of_ble_eq_true rfl) ⟨rfl, rfl⟩ ⟨Nat.le_of_ble_eq_true rfl, Nat.le_of_ble_eq_true rfl⟩ H (fun v109 h108 H => ?_)
        exact Go.weak (L' := [some (.ref a0), some (.ref a1), some (.int a2), some (.int a3), none]) ⟨rfl, ⟨rfl, ⟨rfl, ⟨rfl, trivial⟩⟩⟩⟩ (X6_firstStrike_B50_ok _ hrc2 a0 a1 a2 a3 v109 h108 H)
      · refine go_aload_n (pc := 33) dX6_firstStrike_33 rfl rfl ?_
        refine go_getR (pc := 34) dX6_firstStrike_34 fl_X6_12 H (fun v110 H => ?_)
        refine go_cVi (pc := 37) (Mz := M_X7_thoughtInSquare) (as := []) (a := v110) (st := []) dX6_firstStrike_37 wd_919 cv_X7_thoughtInSquare X7_thoughtInSquare_ok rfl rfl ⟨Nat.le_of_ble_eq_true rfl, Nat.le_of_ble_eq_true rfl⟩ (Nat.le_of_ble_eq_true rfl) ⟨rfl, rfl⟩ ⟨Nat.le_of_ble_eq_true rfl, Nat.le_of_ble_eq_true rfl⟩ H (fun v112 h111 H => ?_)
        refine go_goto (pc := 40) (tgt := 50) dX6_firstStrike_40 (by decide) ?_
        exact Go.weak (L' := [some (.ref a0), some (.ref a1), some (.int a2), some (.int a3), none]) ⟨rfl, ⟨rfl, ⟨rfl, ⟨rfl, trivial⟩⟩⟩⟩ (X6_firstStrike_B50_ok _ hrc2 a0 a1 a2 a3 v112 h111 H)

def X6_firstStrike (a0 : Nat) (a1 : Nat) (a2 : Int32) (h : Hp) : Option (Int32 × Hp) :=
  X6_firstStrike_L2 5000 a0 a1 a2 0 h
theorem X6_firstStrike_ok {a0 : Nat} {a1 : Nat} {a2 : Int32} {h h' : Hp} {r : Int32} (H : X6_firstStrike a0 a1 a2 h = some (r, h')) : Con M_X6_firstStrike [.ref a0, .ref a1, .int a2] h (some (.int r)) h' := by
  refine con_of_go (by decide) 2 (L := [some (.ref a0), some (.ref a1), some (.int a2), none, none]) rfl (Nat.le_of_ble_eq_true rfl) ?_
  unfold X6_firstStrike at H
  refine go_iconst (pc := 0) (v := 0) dX6_firstStrike_0 (by decide) ?_
  refine go_istore_n (pc := 1) (L' := [some (.ref a0), some (.ref a1), some (.int a2), some (.int 0), none]) dX6_firstStrike_1 rfl (Nat.le_of_ble_eq_true rfl) rfl ?_
  exact Go.weak (L' := [some (.ref a0), some (.ref a1), some (.int a2), some (.int 0), none]) ⟨rfl, ⟨rfl, ⟨rfl, ⟨rfl, trivial⟩⟩⟩⟩ (X6_firstStrike_L2_ok 5000 a0 a1 a2 0 h H)
