/-! 22.glass: written by wip/whole/gen/all.py -/
theorem dX10_init_0 : decode cX10_init 0 = .ok (.aload_n 0, 1) := by decide +kernel
theorem dX10_init_1 : decode cX10_init 1 = .ok (.invokespecial 3, 3) := by decide +kernel
theorem dX10_init_4 : decode cX10_init 4 = .ok (.aload_n 0, 1) := by decide +kernel
theorem dX10_init_5 : decode cX10_init 5 = .ok (.sipush 900, 3) := by decide +kernel
theorem dX10_init_8 : decode cX10_init 8 = .ok (.newarray .byte, 2) := by decide +kernel
theorem dX10_init_10 : decode cX10_init 10 = .ok (.putfield 9, 3) := by decide +kernel
theorem dX10_init_13 : decode cX10_init 13 = .ok (.aload_n 0, 1) := by decide +kernel
theorem dX10_init_14 : decode cX10_init 14 = .ok (.new 13, 3) := by decide +kernel
theorem dX10_init_17 : decode cX10_init 17 = .ok (.dup, 1) := by decide +kernel
theorem dX10_init_18 : decode cX10_init 18 = .ok (.invokespecial 15, 3) := by decide +kernel
theorem dX10_init_21 : decode cX10_init 21 = .ok (.putfield 16, 3) := by decide +kernel
theorem dX10_init_24 : decode cX10_init 24 = .ok (.aload_n 0, 1) := by decide +kernel
theorem dX10_init_25 : decode cX10_init 25 = .ok (.new 13, 3) := by decide +kernel
theorem dX10_init_28 : decode cX10_init 28 = .ok (.dup, 1) := by decide +kernel
theorem dX10_init_29 : decode cX10_init 29 = .ok (.invokespecial 15, 3) := by decide +kernel
theorem dX10_init_32 : decode cX10_init 32 = .ok (.putfield 20, 3) := by decide +kernel
theorem dX10_init_35 : decode cX10_init 35 = .ok (.aload_n 0, 1) := by decide +kernel
theorem dX10_init_36 : decode cX10_init 36 = .ok (.new 23, 3) := by decide +kernel
theorem dX10_init_39 : decode cX10_init 39 = .ok (.dup, 1) := by decide +kernel
theorem dX10_init_40 : decode cX10_init 40 = .ok (.aload_n 0, 1) := by decide +kernel
theorem dX10_init_41 : decode cX10_init 41 = .ok (.getfield 9, 3) := by decide +kernel
theorem dX10_init_44 : decode cX10_init 44 = .ok (.aload_n 0, 1) := by decide +kernel
theorem dX10_init_45 : decode cX10_init 45 = .ok (.getfield 20, 3) := by decide +kernel
theorem dX10_init_48 : decode cX10_init 48 = .ok (.invokespecial 25, 3) := by decide +kernel
theorem dX10_init_51 : decode cX10_init 51 = .ok (.putfield 28, 3) := by decide +kernel
theorem dX10_init_54 : decode cX10_init 54 = .ok (.aload_n 0, 1) := by decide +kernel
theorem dX10_init_55 : decode cX10_init 55 = .ok (.new 32, 3) := by decide +kernel
theorem dX10_init_58 : decode cX10_init 58 = .ok (.dup, 1) := by decide +kernel
theorem dX10_init_59 : decode cX10_init 59 = .ok (.invokespecial 34, 3) := by decide +kernel
theorem dX10_init_62 : decode cX10_init 62 = .ok (.putfield 35, 3) := by decide +kernel
theorem dX10_init_65 : decode cX10_init 65 = .ok (.aload_n 0, 1) := by decide +kernel
theorem dX10_init_66 : decode cX10_init 66 = .ok (.iconst 3, 1) := by decide +kernel
theorem dX10_init_67 : decode cX10_init 67 = .ok (.anewarray 32, 3) := by decide +kernel
theorem dX10_init_70 : decode cX10_init 70 = .ok (.putfield 39, 3) := by decide +kernel
theorem dX10_init_73 : decode cX10_init 73 = .ok (.iconst 0, 1) := by decide +kernel
theorem dX10_init_74 : decode cX10_init 74 = .ok (.istore_n 1, 1) := by decide +kernel
theorem dX10_init_75 : decode cX10_init 75 = .ok (.iload_n 1, 1) := by decide +kernel
theorem dX10_init_76 : decode cX10_init 76 = .ok (.aload_n 0, 1) := by decide +kernel
theorem dX10_init_77 : decode cX10_init 77 = .ok (.getfield 39, 3) := by decide +kernel
theorem dX10_init_80 : decode cX10_init 80 = .ok (.arraylength, 1) := by decide +kernel
theorem dX10_init_81 : decode cX10_init 81 = .ok (.if_icmp .ge 22, 3) := by decide +kernel
theorem dX10_init_84 : decode cX10_init 84 = .ok (.aload_n 0, 1) := by decide +kernel
theorem dX10_init_85 : decode cX10_init 85 = .ok (.getfield 39, 3) := by decide +kernel
theorem dX10_init_88 : decode cX10_init 88 = .ok (.iload_n 1, 1) := by decide +kernel
theorem dX10_init_89 : decode cX10_init 89 = .ok (.new 32, 3) := by decide +kernel
theorem dX10_init_92 : decode cX10_init 92 = .ok (.dup, 1) := by decide +kernel
theorem dX10_init_93 : decode cX10_init 93 = .ok (.invokespecial 34, 3) := by decide +kernel
theorem dX10_init_96 : decode cX10_init 96 = .ok (.aastore, 1) := by decide +kernel
theorem dX10_init_97 : decode cX10_init 97 = .ok (.iinc 1 1, 3) := by decide +kernel
theorem dX10_init_100 : decode cX10_init 100 = .ok (.goto (-25), 3) := by decide +kernel
theorem dX10_init_103 : decode cX10_init 103 = .ok (.aload_n 0, 1) := by decide +kernel
theorem dX10_init_104 : decode cX10_init 104 = .ok (.new 43, 3) := by decide +kernel
theorem dX10_init_107 : decode cX10_init 107 = .ok (.dup, 1) := by decide +kernel
theorem dX10_init_108 : decode cX10_init 108 = .ok (.invokespecial 45, 3) := by decide +kernel
theorem dX10_init_111 : decode cX10_init 111 = .ok (.putfield 46, 3) := by decide +kernel
theorem dX10_init_114 : decode cX10_init 114 = .ok (.aload_n 0, 1) := by decide +kernel
theorem dX10_init_115 : decode cX10_init 115 = .ok (.new 50, 3) := by decide +kernel
theorem dX10_init_118 : decode cX10_init 118 = .ok (.dup, 1) := by decide +kernel
theorem dX10_init_119 : decode cX10_init 119 = .ok (.aload_n 0, 1) := by decide +kernel
theorem dX10_init_120 : decode cX10_init 120 = .ok (.getfield 16, 3) := by decide +kernel
theorem dX10_init_123 : decode cX10_init 123 = .ok (.invokespecial 52, 3) := by decide +kernel
theorem dX10_init_126 : decode cX10_init 126 = .ok (.putfield 55, 3) := by decide +kernel
theorem dX10_init_129 : decode cX10_init 129 = .ok (.aload_n 0, 1) := by decide +kernel
theorem dX10_init_130 : decode cX10_init 130 = .ok (.new 59, 3) := by decide +kernel
theorem dX10_init_133 : decode cX10_init 133 = .ok (.dup, 1) := by decide +kernel
theorem dX10_init_134 : decode cX10_init 134 = .ok (.aload_n 0, 1) := by decide +kernel
theorem dX10_init_135 : decode cX10_init 135 = .ok (.getfield 55, 3) := by decide +kernel
theorem dX10_init_138 : decode cX10_init 138 = .ok (.invokespecial 61, 3) := by decide +kernel
theorem dX10_init_141 : decode cX10_init 141 = .ok (.putfield 64, 3) := by decide +kernel
theorem dX10_init_144 : decode cX10_init 144 = .ok (.aload_n 0, 1) := by decide +kernel
theorem dX10_init_145 : decode cX10_init 145 = .ok (.new 68, 3) := by decide +kernel
theorem dX10_init_148 : decode cX10_init 148 = .ok (.dup, 1) := by decide +kernel
theorem dX10_init_149 : decode cX10_init 149 = .ok (.aload_n 0, 1) := by decide +kernel
theorem dX10_init_150 : decode cX10_init 150 = .ok (.getfield 55, 3) := by decide +kernel
theorem dX10_init_153 : decode cX10_init 153 = .ok (.invokespecial 70, 3) := by decide +kernel
theorem dX10_init_156 : decode cX10_init 156 = .ok (.putfield 71, 3) := by decide +kernel
theorem dX10_init_159 : decode cX10_init 159 = .ok (.aload_n 0, 1) := by decide +kernel
theorem dX10_init_160 : decode cX10_init 160 = .ok (.new 75, 3) := by decide +kernel
theorem dX10_init_163 : decode cX10_init 163 = .ok (.dup, 1) := by decide +kernel
theorem dX10_init_164 : decode cX10_init 164 = .ok (.aload_n 0, 1) := by decide +kernel
theorem dX10_init_165 : decode cX10_init 165 = .ok (.getfield 55, 3) := by decide +kernel
theorem dX10_init_168 : decode cX10_init 168 = .ok (.invokespecial 77, 3) := by decide +kernel
theorem dX10_init_171 : decode cX10_init 171 = .ok (.putfield 78, 3) := by decide +kernel
theorem dX10_init_174 : decode cX10_init 174 = .ok (.return_, 1) := by decide +kernel
theorem dX10_putOnTape_0 : decode cX10_putOnTape 0 = .ok (.bipush 24, 2) := by decide +kernel
theorem dX10_putOnTape_2 : decode cX10_putOnTape 2 = .ok (.istore_n 2, 1) := by decide +kernel
theorem dX10_putOnTape_3 : decode cX10_putOnTape 3 = .ok (.iload_n 2, 1) := by decide +kernel
theorem dX10_putOnTape_4 : decode cX10_putOnTape 4 = .ok (.ifCond .lt 51, 3) := by decide +kernel
theorem dX10_putOnTape_7 : decode cX10_putOnTape 7 = .ok (.aload_n 0, 1) := by decide +kernel
theorem dX10_putOnTape_8 : decode cX10_putOnTape 8 = .ok (.getfield 82, 3) := by decide +kernel
theorem dX10_putOnTape_11 : decode cX10_putOnTape 11 = .ok (.ifCond .lt 38, 3) := by decide +kernel
theorem dX10_putOnTape_14 : decode cX10_putOnTape 14 = .ok (.aload_n 0, 1) := by decide +kernel
theorem dX10_putOnTape_15 : decode cX10_putOnTape 15 = .ok (.getfield 82, 3) := by decide +kernel
theorem dX10_putOnTape_18 : decode cX10_putOnTape 18 = .ok (.aload_n 0, 1) := by decide +kernel
theorem dX10_putOnTape_19 : decode cX10_putOnTape 19 = .ok (.getfield 9, 3) := by decide +kernel
theorem dX10_putOnTape_22 : decode cX10_putOnTape 22 = .ok (.arraylength, 1) := by decide +kernel
theorem dX10_putOnTape_23 : decode cX10_putOnTape 23 = .ok (.if_icmp .ge 26, 3) := by decide +kernel
theorem dX10_putOnTape_26 : decode cX10_putOnTape 26 = .ok (.aload_n 0, 1) := by decide +kernel
theorem dX10_putOnTape_27 : decode cX10_putOnTape 27 = .ok (.getfield 9, 3) := by decide +kernel
theorem dX10_putOnTape_30 : decode cX10_putOnTape 30 = .ok (.aload_n 0, 1) := by decide +kernel
theorem dX10_putOnTape_31 : decode cX10_putOnTape 31 = .ok (.getfield 82, 3) := by decide +kernel
theorem dX10_putOnTape_34 : decode cX10_putOnTape 34 = .ok (.iload_n 1, 1) := by decide +kernel
theorem dX10_putOnTape_35 : decode cX10_putOnTape 35 = .ok (.iload_n 2, 1) := by decide +kernel
theorem dX10_putOnTape_36 : decode cX10_putOnTape 36 = .ok (.ishr, 1) := by decide +kernel
theorem dX10_putOnTape_37 : decode cX10_putOnTape 37 = .ok (.i2b, 1) := by decide +kernel
theorem dX10_putOnTape_38 : decode cX10_putOnTape 38 = .ok (.bastore, 1) := by decide +kernel
theorem dX10_putOnTape_39 : decode cX10_putOnTape 39 = .ok (.aload_n 0, 1) := by decide +kernel
theorem dX10_putOnTape_40 : decode cX10_putOnTape 40 = .ok (.dup, 1) := by decide +kernel
theorem dX10_putOnTape_41 : decode cX10_putOnTape 41 = .ok (.getfield 82, 3) := by decide +kernel
theorem dX10_putOnTape_44 : decode cX10_putOnTape 44 = .ok (.iconst 1, 1) := by decide +kernel
theorem dX10_putOnTape_45 : decode cX10_putOnTape 45 = .ok (.iadd, 1) := by decide +kernel
theorem dX10_putOnTape_46 : decode cX10_putOnTape 46 = .ok (.putfield 82, 3) := by decide +kernel
theorem dX10_putOnTape_49 : decode cX10_putOnTape 49 = .ok (.iinc 2 (-8), 3) := by decide +kernel
theorem dX10_putOnTape_52 : decode cX10_putOnTape 52 = .ok (.goto (-49), 3) := by decide +kernel
theorem dX10_putOnTape_55 : decode cX10_putOnTape 55 = .ok (.return_, 1) := by decide +kernel
theorem dX10_feed_0 : decode cX10_feed 0 = .ok (.aload_n 0, 1) := by decide +kernel
theorem dX10_feed_1 : decode cX10_feed 1 = .ok (.getfield 82, 3) := by decide +kernel
theorem dX10_feed_4 : decode cX10_feed 4 = .ok (.bipush 20, 2) := by decide +kernel
theorem dX10_feed_6 : decode cX10_feed 6 = .ok (.iadd, 1) := by decide +kernel
theorem dX10_feed_7 : decode cX10_feed 7 = .ok (.sipush 900, 3) := by decide +kernel
theorem dX10_feed_10 : decode cX10_feed 10 = .ok (.if_icmp .le 5, 3) := by decide +kernel
theorem dX10_feed_13 : decode cX10_feed 13 = .ok (.iconst (-1), 1) := by decide +kernel
theorem dX10_feed_14 : decode cX10_feed 14 = .ok (.ireturn, 1) := by decide +kernel
theorem dX10_feed_15 : decode cX10_feed 15 = .ok (.aload_n 0, 1) := by decide +kernel
theorem dX10_feed_16 : decode cX10_feed 16 = .ok (.iload_n 1, 1) := by decide +kernel
theorem dX10_feed_17 : decode cX10_feed 17 = .ok (.invokevirtual 86, 3) := by decide +kernel
theorem dX10_feed_20 : decode cX10_feed 20 = .ok (.aload_n 0, 1) := by decide +kernel
theorem dX10_feed_21 : decode cX10_feed 21 = .ok (.iload_n 2, 1) := by decide +kernel
theorem dX10_feed_22 : decode cX10_feed 22 = .ok (.invokevirtual 86, 3) := by decide +kernel
theorem dX10_feed_25 : decode cX10_feed 25 = .ok (.aload_n 0, 1) := by decide +kernel
theorem dX10_feed_26 : decode cX10_feed 26 = .ok (.iload_n 3, 1) := by decide +kernel
theorem dX10_feed_27 : decode cX10_feed 27 = .ok (.invokevirtual 86, 3) := by decide +kernel
theorem dX10_feed_30 : decode cX10_feed 30 = .ok (.aload_n 0, 1) := by decide +kernel
theorem dX10_feed_31 : decode cX10_feed 31 = .ok (.iload 4, 2) := by decide +kernel
theorem dX10_feed_33 : decode cX10_feed 33 = .ok (.invokevirtual 86, 3) := by decide +kernel
theorem dX10_feed_36 : decode cX10_feed 36 = .ok (.aload_n 0, 1) := by decide +kernel
theorem dX10_feed_37 : decode cX10_feed 37 = .ok (.iload 5, 2) := by decide +kernel
theorem dX10_feed_39 : decode cX10_feed 39 = .ok (.invokevirtual 86, 3) := by decide +kernel
theorem dX10_feed_42 : decode cX10_feed 42 = .ok (.aload_n 0, 1) := by decide +kernel
theorem dX10_feed_43 : decode cX10_feed 43 = .ok (.getfield 82, 3) := by decide +kernel
theorem dX10_feed_46 : decode cX10_feed 46 = .ok (.ireturn, 1) := by decide +kernel
theorem dX10_isRefused_0 : decode cX10_isRefused 0 = .ok (.aload_n 0, 1) := by decide +kernel
theorem dX10_isRefused_1 : decode cX10_isRefused 1 = .ok (.iload_n 1, 1) := by decide +kernel
theorem dX10_isRefused_2 : decode cX10_isRefused 2 = .ok (.putfield 113, 3) := by decide +kernel
theorem dX10_isRefused_5 : decode cX10_isRefused 5 = .ok (.iload_n 1, 1) := by decide +kernel
theorem dX10_isRefused_6 : decode cX10_isRefused 6 = .ok (.ifCond .eq 7, 3) := by decide +kernel
theorem dX10_isRefused_9 : decode cX10_isRefused 9 = .ok (.iconst 1, 1) := by decide +kernel
theorem dX10_isRefused_10 : decode cX10_isRefused 10 = .ok (.goto 4, 3) := by decide +kernel
theorem dX10_isRefused_13 : decode cX10_isRefused 13 = .ok (.iconst 0, 1) := by decide +kernel
theorem dX10_isRefused_14 : decode cX10_isRefused 14 = .ok (.ireturn, 1) := by decide +kernel
theorem dX10_beginDraft_0 : decode cX10_beginDraft 0 = .ok (.aload_n 0, 1) := by decide +kernel
theorem dX10_beginDraft_1 : decode cX10_beginDraft 1 = .ok (.getfield 16, 3) := by decide +kernel
theorem dX10_beginDraft_4 : decode cX10_beginDraft 4 = .ok (.astore_n 1, 1) := by decide +kernel
theorem dX10_beginDraft_5 : decode cX10_beginDraft 5 = .ok (.aload_n 0, 1) := by decide +kernel
theorem dX10_beginDraft_6 : decode cX10_beginDraft 6 = .ok (.aload_n 0, 1) := by decide +kernel
theorem dX10_beginDraft_7 : decode cX10_beginDraft 7 = .ok (.getfield 20, 3) := by decide +kernel
theorem dX10_beginDraft_10 : decode cX10_beginDraft 10 = .ok (.putfield 16, 3) := by decide +kernel
theorem dX10_beginDraft_13 : decode cX10_beginDraft 13 = .ok (.aload_n 0, 1) := by decide +kernel
theorem dX10_beginDraft_14 : decode cX10_beginDraft 14 = .ok (.aload_n 1, 1) := by decide +kernel
theorem dX10_beginDraft_15 : decode cX10_beginDraft 15 = .ok (.putfield 20, 3) := by decide +kernel
theorem dX10_beginDraft_18 : decode cX10_beginDraft 18 = .ok (.aload_n 0, 1) := by decide +kernel
theorem dX10_beginDraft_19 : decode cX10_beginDraft 19 = .ok (.iconst 1, 1) := by decide +kernel
theorem dX10_beginDraft_20 : decode cX10_beginDraft 20 = .ok (.putfield 144, 3) := by decide +kernel
theorem dX10_beginDraft_23 : decode cX10_beginDraft 23 = .ok (.aload_n 0, 1) := by decide +kernel
theorem dX10_beginDraft_24 : decode cX10_beginDraft 24 = .ok (.getfield 55, 3) := by decide +kernel
theorem dX10_beginDraft_27 : decode cX10_beginDraft 27 = .ok (.aload_n 0, 1) := by decide +kernel
theorem dX10_beginDraft_28 : decode cX10_beginDraft 28 = .ok (.getfield 16, 3) := by decide +kernel
theorem dX10_beginDraft_31 : decode cX10_beginDraft 31 = .ok (.putfield 362, 3) := by decide +kernel
theorem dX10_beginDraft_34 : decode cX10_beginDraft 34 = .ok (.aload_n 0, 1) := by decide +kernel
theorem dX10_beginDraft_35 : decode cX10_beginDraft 35 = .ok (.getfield 35, 3) := by decide +kernel
theorem dX10_beginDraft_38 : decode cX10_beginDraft 38 = .ok (.aload_n 0, 1) := by decide +kernel
theorem dX10_beginDraft_39 : decode cX10_beginDraft 39 = .ok (.getfield 16, 3) := by decide +kernel
theorem dX10_beginDraft_42 : decode cX10_beginDraft 42 = .ok (.invokevirtual 365, 3) := by decide +kernel
theorem dX10_beginDraft_45 : decode cX10_beginDraft 45 = .ok (.aload_n 0, 1) := by decide +kernel
theorem dX10_beginDraft_46 : decode cX10_beginDraft 46 = .ok (.getfield 46, 3) := by decide +kernel
theorem dX10_beginDraft_49 : decode cX10_beginDraft 49 = .ok (.invokevirtual 339, 3) := by decide +kernel
theorem dX10_beginDraft_52 : decode cX10_beginDraft 52 = .ok (.aload_n 0, 1) := by decide +kernel
theorem dX10_beginDraft_53 : decode cX10_beginDraft 53 = .ok (.iconst 0, 1) := by decide +kernel
theorem dX10_beginDraft_54 : decode cX10_beginDraft 54 = .ok (.putfield 329, 3) := by decide +kernel
theorem dX10_beginDraft_57 : decode cX10_beginDraft 57 = .ok (.return_, 1) := by decide +kernel
theorem dX10_voyage_0 : decode cX10_voyage 0 = .ok (.aload_n 0, 1) := by decide +kernel
theorem dX10_voyage_1 : decode cX10_voyage 1 = .ok (.iload_n 1, 1) := by decide +kernel
theorem dX10_voyage_2 : decode cX10_voyage 2 = .ok (.ifCond .lt 11, 3) := by decide +kernel
theorem dX10_voyage_5 : decode cX10_voyage 5 = .ok (.iload_n 1, 1) := by decide +kernel
theorem dX10_voyage_6 : decode cX10_voyage 6 = .ok (.aload_n 0, 1) := by decide +kernel
theorem dX10_voyage_7 : decode cX10_voyage 7 = .ok (.getfield 82, 3) := by decide +kernel
theorem dX10_voyage_10 : decode cX10_voyage 10 = .ok (.if_icmp .le 7, 3) := by decide +kernel
theorem dX10_voyage_13 : decode cX10_voyage 13 = .ok (.iconst 2, 1) := by decide +kernel
theorem dX10_voyage_14 : decode cX10_voyage 14 = .ok (.goto 4, 3) := by decide +kernel
theorem dX10_voyage_17 : decode cX10_voyage 17 = .ok (.iconst 0, 1) := by decide +kernel
theorem dX10_voyage_18 : decode cX10_voyage 18 = .ok (.invokevirtual 90, 3) := by decide +kernel
theorem dX10_voyage_21 : decode cX10_voyage 21 = .ok (.ifCond .eq 5, 3) := by decide +kernel
theorem dX10_voyage_24 : decode cX10_voyage 24 = .ok (.iconst (-1), 1) := by decide +kernel
theorem dX10_voyage_25 : decode cX10_voyage 25 = .ok (.ireturn, 1) := by decide +kernel
theorem dX10_voyage_26 : decode cX10_voyage 26 = .ok (.aload_n 0, 1) := by decide +kernel
theorem dX10_voyage_27 : decode cX10_voyage 27 = .ok (.iconst 0, 1) := by decide +kernel
theorem dX10_voyage_28 : decode cX10_voyage 28 = .ok (.putfield 82, 3) := by decide +kernel
theorem dX10_voyage_31 : decode cX10_voyage 31 = .ok (.aload_n 0, 1) := by decide +kernel
theorem dX10_voyage_32 : decode cX10_voyage 32 = .ok (.getfield 28, 3) := by decide +kernel
theorem dX10_voyage_35 : decode cX10_voyage 35 = .ok (.iload_n 1, 1) := by decide +kernel
theorem dX10_voyage_36 : decode cX10_voyage 36 = .ok (.aload_n 0, 1) := by decide +kernel
theorem dX10_voyage_37 : decode cX10_voyage 37 = .ok (.getfield 20, 3) := by decide +kernel
theorem dX10_voyage_40 : decode cX10_voyage 40 = .ok (.invokevirtual 94, 3) := by decide +kernel
theorem dX10_voyage_43 : decode cX10_voyage 43 = .ok (.aload_n 0, 1) := by decide +kernel
theorem dX10_voyage_44 : decode cX10_voyage 44 = .ok (.aload_n 0, 1) := by decide +kernel
theorem dX10_voyage_45 : decode cX10_voyage 45 = .ok (.getfield 28, 3) := by decide +kernel
theorem dX10_voyage_48 : decode cX10_voyage 48 = .ok (.getfield 98, 3) := by decide +kernel
theorem dX10_voyage_51 : decode cX10_voyage 51 = .ok (.ifCond .ne 7, 3) := by decide +kernel
theorem dX10_voyage_54 : decode cX10_voyage 54 = .ok (.iconst 0, 1) := by decide +kernel
theorem dX10_voyage_55 : decode cX10_voyage 55 = .ok (.goto 4, 3) := by decide +kernel
theorem dX10_voyage_58 : decode cX10_voyage 58 = .ok (.iconst 4, 1) := by decide +kernel
theorem dX10_voyage_59 : decode cX10_voyage 59 = .ok (.invokevirtual 90, 3) := by decide +kernel
theorem dX10_voyage_62 : decode cX10_voyage 62 = .ok (.ifCond .eq 5, 3) := by decide +kernel
theorem dX10_voyage_65 : decode cX10_voyage 65 = .ok (.iconst (-1), 1) := by decide +kernel
theorem dX10_voyage_66 : decode cX10_voyage 66 = .ok (.ireturn, 1) := by decide +kernel
theorem dX10_voyage_67 : decode cX10_voyage 67 = .ok (.aload_n 0, 1) := by decide +kernel
theorem dX10_voyage_68 : decode cX10_voyage 68 = .ok (.invokevirtual 101, 3) := by decide +kernel
theorem dX10_voyage_71 : decode cX10_voyage 71 = .ok (.aload_n 0, 1) := by decide +kernel
theorem dX10_voyage_72 : decode cX10_voyage 72 = .ok (.getfield 16, 3) := by decide +kernel
theorem dX10_voyage_75 : decode cX10_voyage 75 = .ok (.getfield 104, 3) := by decide +kernel
theorem dX10_voyage_78 : decode cX10_voyage 78 = .ok (.getfield 108, 3) := by decide +kernel
theorem dX10_voyage_81 : decode cX10_voyage 81 = .ok (.ireturn, 1) := by decide +kernel
theorem dX10_fault_0 : decode cX10_fault 0 = .ok (.aload_n 0, 1) := by decide +kernel
theorem dX10_fault_1 : decode cX10_fault 1 = .ok (.getfield 28, 3) := by decide +kernel
theorem dX10_fault_4 : decode cX10_fault 4 = .ok (.getfield 98, 3) := by decide +kernel
theorem dX10_fault_7 : decode cX10_fault 7 = .ok (.ireturn, 1) := by decide +kernel
theorem dX10_where_0 : decode cX10_where 0 = .ok (.aload_n 0, 1) := by decide +kernel
theorem dX10_where_1 : decode cX10_where 1 = .ok (.getfield 113, 3) := by decide +kernel
theorem dX10_where_4 : decode cX10_where 4 = .ok (.iconst 4, 1) := by decide +kernel
theorem dX10_where_5 : decode cX10_where 5 = .ok (.if_icmp .ne 13, 3) := by decide +kernel
theorem dX10_where_8 : decode cX10_where 8 = .ok (.aload_n 0, 1) := by decide +kernel
theorem dX10_where_9 : decode cX10_where 9 = .ok (.getfield 28, 3) := by decide +kernel
theorem dX10_where_12 : decode cX10_where 12 = .ok (.getfield 116, 3) := by decide +kernel
theorem dX10_where_15 : decode cX10_where 15 = .ok (.goto 4, 3) := by decide +kernel
theorem dX10_where_18 : decode cX10_where 18 = .ok (.iconst (-1), 1) := by decide +kernel
theorem dX10_where_19 : decode cX10_where 19 = .ok (.ireturn, 1) := by decide +kernel
theorem dX10_hasWatch_0 : decode cX10_hasWatch 0 = .ok (.aload_n 0, 1) := by decide +kernel
theorem dX10_hasWatch_1 : decode cX10_hasWatch 1 = .ok (.getfield 144, 3) := by decide +kernel
theorem dX10_hasWatch_4 : decode cX10_hasWatch 4 = .ok (.ifCond .eq 25, 3) := by decide +kernel
theorem dX10_hasWatch_7 : decode cX10_hasWatch 7 = .ok (.iload_n 1, 1) := by decide +kernel
theorem dX10_hasWatch_8 : decode cX10_hasWatch 8 = .ok (.ifCond .lt 21, 3) := by decide +kernel
theorem dX10_hasWatch_11 : decode cX10_hasWatch 11 = .ok (.iload_n 1, 1) := by decide +kernel
theorem dX10_hasWatch_12 : decode cX10_hasWatch 12 = .ok (.aload_n 0, 1) := by decide +kernel
theorem dX10_hasWatch_13 : decode cX10_hasWatch 13 = .ok (.getfield 16, 3) := by decide +kernel
theorem dX10_hasWatch_16 : decode cX10_hasWatch 16 = .ok (.getfield 104, 3) := by decide +kernel
theorem dX10_hasWatch_19 : decode cX10_hasWatch 19 = .ok (.getfield 108, 3) := by decide +kernel
theorem dX10_hasWatch_22 : decode cX10_hasWatch 22 = .ok (.if_icmp .ge 7, 3) := by decide +kernel
theorem dX10_hasWatch_25 : decode cX10_hasWatch 25 = .ok (.iconst 1, 1) := by decide +kernel
theorem dX10_hasWatch_26 : decode cX10_hasWatch 26 = .ok (.goto 4, 3) := by decide +kernel
theorem dX10_hasWatch_29 : decode cX10_hasWatch 29 = .ok (.iconst 0, 1) := by decide +kernel
theorem dX10_hasWatch_30 : decode cX10_hasWatch 30 = .ok (.ireturn, 1) := by decide +kernel
theorem dX10_watch_0 : decode cX10_watch 0 = .ok (.aload_n 0, 1) := by decide +kernel
theorem dX10_watch_1 : decode cX10_watch 1 = .ok (.aload_n 0, 1) := by decide +kernel
theorem dX10_watch_2 : decode cX10_watch 2 = .ok (.iload_n 1, 1) := by decide +kernel
theorem dX10_watch_3 : decode cX10_watch 3 = .ok (.invokevirtual 119, 3) := by decide +kernel
theorem dX10_watch_6 : decode cX10_watch 6 = .ok (.ifCond .eq 16, 3) := by decide +kernel
theorem dX10_watch_9 : decode cX10_watch 9 = .ok (.iload_n 2, 1) := by decide +kernel
theorem dX10_watch_10 : decode cX10_watch 10 = .ok (.ifCond .lt 12, 3) := by decide +kernel
theorem dX10_watch_13 : decode cX10_watch 13 = .ok (.iload_n 2, 1) := by decide +kernel
theorem dX10_watch_14 : decode cX10_watch 14 = .ok (.iconst 5, 1) := by decide +kernel
theorem dX10_watch_15 : decode cX10_watch 15 = .ok (.if_icmp .gt 7, 3) := by decide +kernel
theorem dX10_watch_18 : decode cX10_watch 18 = .ok (.iconst 0, 1) := by decide +kernel
theorem dX10_watch_19 : decode cX10_watch 19 = .ok (.goto 4, 3) := by decide +kernel
theorem dX10_watch_22 : decode cX10_watch 22 = .ok (.iconst 1, 1) := by decide +kernel
theorem dX10_watch_23 : decode cX10_watch 23 = .ok (.invokevirtual 90, 3) := by decide +kernel
theorem dX10_watch_26 : decode cX10_watch 26 = .ok (.ifCond .eq 5, 3) := by decide +kernel
theorem dX10_watch_29 : decode cX10_watch 29 = .ok (.iconst (-1), 1) := by decide +kernel
theorem dX10_watch_30 : decode cX10_watch 30 = .ok (.ireturn, 1) := by decide +kernel
theorem dX10_watch_31 : decode cX10_watch 31 = .ok (.iload_n 2, 1) := by decide +kernel
theorem dX10_watch_32 : decode cX10_watch 32 = .ok (.tableswitch 101 0 4 #[36, 49, 62, 75, 88], 36) := by decide +kernel
theorem dX10_watch_68 : decode cX10_watch 68 = .ok (.aload_n 0, 1) := by decide +kernel
theorem dX10_watch_69 : decode cX10_watch 69 = .ok (.getfield 35, 3) := by decide +kernel
theorem dX10_watch_72 : decode cX10_watch 72 = .ok (.getfield 122, 3) := by decide +kernel
theorem dX10_watch_75 : decode cX10_watch 75 = .ok (.iload_n 1, 1) := by decide +kernel
theorem dX10_watch_76 : decode cX10_watch 76 = .ok (.iconst 0, 1) := by decide +kernel
theorem dX10_watch_77 : decode cX10_watch 77 = .ok (.invokevirtual 123, 3) := by decide +kernel
theorem dX10_watch_80 : decode cX10_watch 80 = .ok (.ireturn, 1) := by decide +kernel
theorem dX10_watch_81 : decode cX10_watch 81 = .ok (.aload_n 0, 1) := by decide +kernel
theorem dX10_watch_82 : decode cX10_watch 82 = .ok (.getfield 16, 3) := by decide +kernel
theorem dX10_watch_85 : decode cX10_watch 85 = .ok (.getfield 104, 3) := by decide +kernel
theorem dX10_watch_88 : decode cX10_watch 88 = .ok (.iload_n 1, 1) := by decide +kernel
theorem dX10_watch_89 : decode cX10_watch 89 = .ok (.iconst 1, 1) := by decide +kernel
theorem dX10_watch_90 : decode cX10_watch 90 = .ok (.invokevirtual 123, 3) := by decide +kernel
theorem dX10_watch_93 : decode cX10_watch 93 = .ok (.ireturn, 1) := by decide +kernel
theorem dX10_watch_94 : decode cX10_watch 94 = .ok (.aload_n 0, 1) := by decide +kernel
theorem dX10_watch_95 : decode cX10_watch 95 = .ok (.getfield 35, 3) := by decide +kernel
theorem dX10_watch_98 : decode cX10_watch 98 = .ok (.getfield 122, 3) := by decide +kernel
theorem dX10_watch_101 : decode cX10_watch 101 = .ok (.iload_n 1, 1) := by decide +kernel
theorem dX10_watch_102 : decode cX10_watch 102 = .ok (.iconst 1, 1) := by decide +kernel
theorem dX10_watch_103 : decode cX10_watch 103 = .ok (.invokevirtual 123, 3) := by decide +kernel
theorem dX10_watch_106 : decode cX10_watch 106 = .ok (.ireturn, 1) := by decide +kernel
theorem dX10_watch_107 : decode cX10_watch 107 = .ok (.aload_n 0, 1) := by decide +kernel
theorem dX10_watch_108 : decode cX10_watch 108 = .ok (.getfield 16, 3) := by decide +kernel
theorem dX10_watch_111 : decode cX10_watch 111 = .ok (.getfield 104, 3) := by decide +kernel
theorem dX10_watch_114 : decode cX10_watch 114 = .ok (.iload_n 1, 1) := by decide +kernel
theorem dX10_watch_115 : decode cX10_watch 115 = .ok (.iconst 3, 1) := by decide +kernel
theorem dX10_watch_116 : decode cX10_watch 116 = .ok (.invokevirtual 123, 3) := by decide +kernel
theorem dX10_watch_119 : decode cX10_watch 119 = .ok (.ireturn, 1) := by decide +kernel
theorem dX10_watch_120 : decode cX10_watch 120 = .ok (.aload_n 0, 1) := by decide +kernel
theorem dX10_watch_121 : decode cX10_watch 121 = .ok (.getfield 35, 3) := by decide +kernel
theorem dX10_watch_124 : decode cX10_watch 124 = .ok (.getfield 122, 3) := by decide +kernel
theorem dX10_watch_127 : decode cX10_watch 127 = .ok (.iload_n 1, 1) := by decide +kernel
theorem dX10_watch_128 : decode cX10_watch 128 = .ok (.iconst 2, 1) := by decide +kernel
theorem dX10_watch_129 : decode cX10_watch 129 = .ok (.invokevirtual 123, 3) := by decide +kernel
theorem dX10_watch_132 : decode cX10_watch 132 = .ok (.ireturn, 1) := by decide +kernel
theorem dX10_watch_133 : decode cX10_watch 133 = .ok (.aload_n 0, 1) := by decide +kernel
theorem dX10_watch_134 : decode cX10_watch 134 = .ok (.getfield 55, 3) := by decide +kernel
theorem dX10_watch_137 : decode cX10_watch 137 = .ok (.aload_n 0, 1) := by decide +kernel
theorem dX10_watch_138 : decode cX10_watch 138 = .ok (.getfield 35, 3) := by decide +kernel
theorem dX10_watch_141 : decode cX10_watch 141 = .ok (.iload_n 1, 1) := by decide +kernel
theorem dX10_watch_142 : decode cX10_watch 142 = .ok (.invokevirtual 127, 3) := by decide +kernel
theorem dX10_watch_145 : decode cX10_watch 145 = .ok (.ireturn, 1) := by decide +kernel
theorem dX10_hasBoy_0 : decode cX10_hasBoy 0 = .ok (.aload_n 0, 1) := by decide +kernel
theorem dX10_hasBoy_1 : decode cX10_hasBoy 1 = .ok (.getfield 144, 3) := by decide +kernel
theorem dX10_hasBoy_4 : decode cX10_hasBoy 4 = .ok (.ifCond .eq 25, 3) := by decide +kernel
theorem dX10_hasBoy_7 : decode cX10_hasBoy 7 = .ok (.iload_n 1, 1) := by decide +kernel
theorem dX10_hasBoy_8 : decode cX10_hasBoy 8 = .ok (.ifCond .lt 21, 3) := by decide +kernel
theorem dX10_hasBoy_11 : decode cX10_hasBoy 11 = .ok (.iload_n 1, 1) := by decide +kernel
theorem dX10_hasBoy_12 : decode cX10_hasBoy 12 = .ok (.aload_n 0, 1) := by decide +kernel
theorem dX10_hasBoy_13 : decode cX10_hasBoy 13 = .ok (.getfield 16, 3) := by decide +kernel
theorem dX10_hasBoy_16 : decode cX10_hasBoy 16 = .ok (.getfield 134, 3) := by decide +kernel
theorem dX10_hasBoy_19 : decode cX10_hasBoy 19 = .ok (.getfield 108, 3) := by decide +kernel
theorem dX10_hasBoy_22 : decode cX10_hasBoy 22 = .ok (.if_icmp .ge 7, 3) := by decide +kernel
theorem dX10_hasBoy_25 : decode cX10_hasBoy 25 = .ok (.iconst 1, 1) := by decide +kernel
theorem dX10_hasBoy_26 : decode cX10_hasBoy 26 = .ok (.goto 4, 3) := by decide +kernel
theorem dX10_hasBoy_29 : decode cX10_hasBoy 29 = .ok (.iconst 0, 1) := by decide +kernel
theorem dX10_hasBoy_30 : decode cX10_hasBoy 30 = .ok (.ireturn, 1) := by decide +kernel
theorem dX10_watchesWith_0 : decode cX10_watchesWith 0 = .ok (.iconst 0, 1) := by decide +kernel
theorem dX10_watchesWith_1 : decode cX10_watchesWith 1 = .ok (.istore 4, 2) := by decide +kernel
theorem dX10_watchesWith_3 : decode cX10_watchesWith 3 = .ok (.iconst 0, 1) := by decide +kernel
theorem dX10_watchesWith_4 : decode cX10_watchesWith 4 = .ok (.istore 5, 2) := by decide +kernel
theorem dX10_watchesWith_6 : decode cX10_watchesWith 6 = .ok (.iload 5, 2) := by decide +kernel
theorem dX10_watchesWith_8 : decode cX10_watchesWith 8 = .ok (.aload_n 0, 1) := by decide +kernel
theorem dX10_watchesWith_9 : decode cX10_watchesWith 9 = .ok (.getfield 16, 3) := by decide +kernel
theorem dX10_watchesWith_12 : decode cX10_watchesWith 12 = .ok (.getfield 104, 3) := by decide +kernel
theorem dX10_watchesWith_15 : decode cX10_watchesWith 15 = .ok (.getfield 108, 3) := by decide +kernel
theorem dX10_watchesWith_18 : decode cX10_watchesWith 18 = .ok (.if_icmp .ge 29, 3) := by decide +kernel
theorem dX10_watchesWith_21 : decode cX10_watchesWith 21 = .ok (.aload_n 1, 1) := by decide +kernel
theorem dX10_watchesWith_22 : decode cX10_watchesWith 22 = .ok (.iload 5, 2) := by decide +kernel
theorem dX10_watchesWith_24 : decode cX10_watchesWith 24 = .ok (.iload_n 2, 1) := by decide +kernel
theorem dX10_watchesWith_25 : decode cX10_watchesWith 25 = .ok (.invokevirtual 123, 3) := by decide +kernel
theorem dX10_watchesWith_28 : decode cX10_watchesWith 28 = .ok (.iload_n 3, 1) := by decide +kernel
theorem dX10_watchesWith_29 : decode cX10_watchesWith 29 = .ok (.if_icmp .ne 12, 3) := by decide +kernel
theorem dX10_watchesWith_32 : decode cX10_watchesWith 32 = .ok (.iload 4, 2) := by decide +kernel
theorem dX10_watchesWith_34 : decode cX10_watchesWith 34 = .ok (.iconst 1, 1) := by decide +kernel
theorem dX10_watchesWith_35 : decode cX10_watchesWith 35 = .ok (.iload 5, 2) := by decide +kernel
theorem dX10_watchesWith_37 : decode cX10_watchesWith 37 = .ok (.ishl, 1) := by decide +kernel
theorem dX10_watchesWith_38 : decode cX10_watchesWith 38 = .ok (.ior, 1) := by decide +kernel
theorem dX10_watchesWith_39 : decode cX10_watchesWith 39 = .ok (.istore 4, 2) := by decide +kernel
theorem dX10_watchesWith_41 : decode cX10_watchesWith 41 = .ok (.iinc 5 1, 3) := by decide +kernel
theorem dX10_watchesWith_44 : decode cX10_watchesWith 44 = .ok (.goto (-38), 3) := by decide +kernel
theorem dX10_watchesWith_47 : decode cX10_watchesWith 47 = .ok (.iload 4, 2) := by decide +kernel
theorem dX10_watchesWith_49 : decode cX10_watchesWith 49 = .ok (.ireturn, 1) := by decide +kernel
theorem dX10_boy_0 : decode cX10_boy 0 = .ok (.aload_n 0, 1) := by decide +kernel
theorem dX10_boy_1 : decode cX10_boy 1 = .ok (.aload_n 0, 1) := by decide +kernel
theorem dX10_boy_2 : decode cX10_boy 2 = .ok (.iload_n 1, 1) := by decide +kernel
theorem dX10_boy_3 : decode cX10_boy 3 = .ok (.invokevirtual 131, 3) := by decide +kernel
theorem dX10_boy_6 : decode cX10_boy 6 = .ok (.ifCond .eq 16, 3) := by decide +kernel
theorem dX10_boy_9 : decode cX10_boy 9 = .ok (.iload_n 2, 1) := by decide +kernel
theorem dX10_boy_10 : decode cX10_boy 10 = .ok (.ifCond .lt 12, 3) := by decide +kernel
theorem dX10_boy_13 : decode cX10_boy 13 = .ok (.iload_n 2, 1) := by decide +kernel
theorem dX10_boy_14 : decode cX10_boy 14 = .ok (.iconst 3, 1) := by decide +kernel
theorem dX10_boy_15 : decode cX10_boy 15 = .ok (.if_icmp .gt 7, 3) := by decide +kernel
theorem dX10_boy_18 : decode cX10_boy 18 = .ok (.iconst 0, 1) := by decide +kernel
theorem dX10_boy_19 : decode cX10_boy 19 = .ok (.goto 4, 3) := by decide +kernel
theorem dX10_boy_22 : decode cX10_boy 22 = .ok (.iconst 1, 1) := by decide +kernel
theorem dX10_boy_23 : decode cX10_boy 23 = .ok (.invokevirtual 90, 3) := by decide +kernel
theorem dX10_boy_26 : decode cX10_boy 26 = .ok (.ifCond .eq 5, 3) := by decide +kernel
theorem dX10_boy_29 : decode cX10_boy 29 = .ok (.iconst (-1), 1) := by decide +kernel
theorem dX10_boy_30 : decode cX10_boy 30 = .ok (.ireturn, 1) := by decide +kernel
theorem dX10_boy_31 : decode cX10_boy 31 = .ok (.iload_n 2, 1) := by decide +kernel
theorem dX10_boy_32 : decode cX10_boy 32 = .ok (.tableswitch 68 0 2 #[28, 41, 54], 28) := by decide +kernel
theorem dX10_boy_60 : decode cX10_boy 60 = .ok (.aload_n 0, 1) := by decide +kernel
theorem dX10_boy_61 : decode cX10_boy 61 = .ok (.getfield 16, 3) := by decide +kernel
theorem dX10_boy_64 : decode cX10_boy 64 = .ok (.getfield 134, 3) := by decide +kernel
theorem dX10_boy_67 : decode cX10_boy 67 = .ok (.iload_n 1, 1) := by decide +kernel
theorem dX10_boy_68 : decode cX10_boy 68 = .ok (.iconst 0, 1) := by decide +kernel
theorem dX10_boy_69 : decode cX10_boy 69 = .ok (.invokevirtual 123, 3) := by decide +kernel
theorem dX10_boy_72 : decode cX10_boy 72 = .ok (.ireturn, 1) := by decide +kernel
theorem dX10_boy_73 : decode cX10_boy 73 = .ok (.aload_n 0, 1) := by decide +kernel
theorem dX10_boy_74 : decode cX10_boy 74 = .ok (.getfield 16, 3) := by decide +kernel
theorem dX10_boy_77 : decode cX10_boy 77 = .ok (.getfield 134, 3) := by decide +kernel
theorem dX10_boy_80 : decode cX10_boy 80 = .ok (.iload_n 1, 1) := by decide +kernel
theorem dX10_boy_81 : decode cX10_boy 81 = .ok (.iconst 1, 1) := by decide +kernel
theorem dX10_boy_82 : decode cX10_boy 82 = .ok (.invokevirtual 123, 3) := by decide +kernel
theorem dX10_boy_85 : decode cX10_boy 85 = .ok (.ireturn, 1) := by decide +kernel
theorem dX10_boy_86 : decode cX10_boy 86 = .ok (.aload_n 0, 1) := by decide +kernel
theorem dX10_boy_87 : decode cX10_boy 87 = .ok (.aload_n 0, 1) := by decide +kernel
theorem dX10_boy_88 : decode cX10_boy 88 = .ok (.getfield 35, 3) := by decide +kernel
theorem dX10_boy_91 : decode cX10_boy 91 = .ok (.getfield 122, 3) := by decide +kernel
theorem dX10_boy_94 : decode cX10_boy 94 = .ok (.iconst 0, 1) := by decide +kernel
theorem dX10_boy_95 : decode cX10_boy 95 = .ok (.iload_n 1, 1) := by decide +kernel
theorem dX10_boy_96 : decode cX10_boy 96 = .ok (.invokevirtual 137, 3) := by decide +kernel
theorem dX10_boy_99 : decode cX10_boy 99 = .ok (.ireturn, 1) := by decide +kernel
theorem dX10_boy_100 : decode cX10_boy 100 = .ok (.aload_n 0, 1) := by decide +kernel
theorem dX10_boy_101 : decode cX10_boy 101 = .ok (.getfield 55, 3) := by decide +kernel
theorem dX10_boy_104 : decode cX10_boy 104 = .ok (.aload_n 0, 1) := by decide +kernel
theorem dX10_boy_105 : decode cX10_boy 105 = .ok (.getfield 35, 3) := by decide +kernel
theorem dX10_boy_108 : decode cX10_boy 108 = .ok (.iload_n 1, 1) := by decide +kernel
theorem dX10_boy_109 : decode cX10_boy 109 = .ok (.invokevirtual 141, 3) := by decide +kernel
theorem dX10_boy_112 : decode cX10_boy 112 = .ok (.ireturn, 1) := by decide +kernel
theorem dX10_officer_0 : decode cX10_officer 0 = .ok (.aload_n 0, 1) := by decide +kernel
theorem dX10_officer_1 : decode cX10_officer 1 = .ok (.getfield 144, 3) := by decide +kernel
theorem dX10_officer_4 : decode cX10_officer 4 = .ok (.ifCond .eq 25, 3) := by decide +kernel
theorem dX10_officer_7 : decode cX10_officer 7 = .ok (.iload_n 1, 1) := by decide +kernel
theorem dX10_officer_8 : decode cX10_officer 8 = .ok (.ifCond .lt 21, 3) := by decide +kernel
theorem dX10_officer_11 : decode cX10_officer 11 = .ok (.iload_n 1, 1) := by decide +kernel
theorem dX10_officer_12 : decode cX10_officer 12 = .ok (.aload_n 0, 1) := by decide +kernel
theorem dX10_officer_13 : decode cX10_officer 13 = .ok (.getfield 16, 3) := by decide +kernel
theorem dX10_officer_16 : decode cX10_officer 16 = .ok (.getfield 148, 3) := by decide +kernel
theorem dX10_officer_19 : decode cX10_officer 19 = .ok (.getfield 108, 3) := by decide +kernel
theorem dX10_officer_22 : decode cX10_officer 22 = .ok (.if_icmp .ge 7, 3) := by decide +kernel
theorem dX10_officer_25 : decode cX10_officer 25 = .ok (.iconst 1, 1) := by decide +kernel
theorem dX10_officer_26 : decode cX10_officer 26 = .ok (.goto 4, 3) := by decide +kernel
theorem dX10_officer_29 : decode cX10_officer 29 = .ok (.iconst 0, 1) := by decide +kernel
theorem dX10_officer_30 : decode cX10_officer 30 = .ok (.istore_n 3, 1) := by decide +kernel
theorem dX10_officer_31 : decode cX10_officer 31 = .ok (.aload_n 0, 1) := by decide +kernel
theorem dX10_officer_32 : decode cX10_officer 32 = .ok (.iload_n 3, 1) := by decide +kernel
theorem dX10_officer_33 : decode cX10_officer 33 = .ok (.ifCond .eq 16, 3) := by decide +kernel
theorem dX10_officer_36 : decode cX10_officer 36 = .ok (.iload_n 2, 1) := by decide +kernel
theorem dX10_officer_37 : decode cX10_officer 37 = .ok (.ifCond .eq 8, 3) := by decide +kernel
theorem dX10_officer_40 : decode cX10_officer 40 = .ok (.iload_n 2, 1) := by decide +kernel
theorem dX10_officer_41 : decode cX10_officer 41 = .ok (.iconst 1, 1) := by decide +kernel
theorem dX10_officer_42 : decode cX10_officer 42 = .ok (.if_icmp .ne 7, 3) := by decide +kernel
theorem dX10_officer_45 : decode cX10_officer 45 = .ok (.iconst 0, 1) := by decide +kernel
theorem dX10_officer_46 : decode cX10_officer 46 = .ok (.goto 4, 3) := by decide +kernel
theorem dX10_officer_49 : decode cX10_officer 49 = .ok (.iconst 1, 1) := by decide +kernel
theorem dX10_officer_50 : decode cX10_officer 50 = .ok (.invokevirtual 90, 3) := by decide +kernel
theorem dX10_officer_53 : decode cX10_officer 53 = .ok (.ifCond .eq 5, 3) := by decide +kernel
theorem dX10_officer_56 : decode cX10_officer 56 = .ok (.iconst (-1), 1) := by decide +kernel
theorem dX10_officer_57 : decode cX10_officer 57 = .ok (.ireturn, 1) := by decide +kernel
theorem dX10_officer_58 : decode cX10_officer 58 = .ok (.iload_n 2, 1) := by decide +kernel
theorem dX10_officer_59 : decode cX10_officer 59 = .ok (.ifCond .ne 18, 3) := by decide +kernel
theorem dX10_officer_62 : decode cX10_officer 62 = .ok (.aload_n 0, 1) := by decide +kernel
theorem dX10_officer_63 : decode cX10_officer 63 = .ok (.getfield 16, 3) := by decide +kernel
theorem dX10_officer_66 : decode cX10_officer 66 = .ok (.getfield 148, 3) := by decide +kernel
theorem dX10_officer_69 : decode cX10_officer 69 = .ok (.iload_n 1, 1) := by decide +kernel
theorem dX10_officer_70 : decode cX10_officer 70 = .ok (.iconst 0, 1) := by decide +kernel
theorem dX10_officer_71 : decode cX10_officer 71 = .ok (.invokevirtual 123, 3) := by decide +kernel
theorem dX10_officer_74 : decode cX10_officer 74 = .ok (.goto 16, 3) := by decide +kernel
theorem dX10_officer_77 : decode cX10_officer 77 = .ok (.aload_n 0, 1) := by decide +kernel
theorem dX10_officer_78 : decode cX10_officer 78 = .ok (.aload_n 0, 1) := by decide +kernel
theorem dX10_officer_79 : decode cX10_officer 79 = .ok (.getfield 16, 3) := by decide +kernel
theorem dX10_officer_82 : decode cX10_officer 82 = .ok (.getfield 104, 3) := by decide +kernel
theorem dX10_officer_85 : decode cX10_officer 85 = .ok (.iconst 1, 1) := by decide +kernel
theorem dX10_officer_86 : decode cX10_officer 86 = .ok (.iload_n 1, 1) := by decide +kernel
theorem dX10_officer_87 : decode cX10_officer 87 = .ok (.invokevirtual 137, 3) := by decide +kernel
theorem dX10_officer_90 : decode cX10_officer 90 = .ok (.ireturn, 1) := by decide +kernel
theorem dX10_whyNot_0 : decode cX10_whyNot 0 = .ok (.iload_n 0, 1) := by decide +kernel
theorem dX10_whyNot_1 : decode cX10_whyNot 1 = .ok (.ifCond .ne 7, 3) := by decide +kernel
theorem dX10_whyNot_4 : decode cX10_whyNot 4 = .ok (.iconst 1, 1) := by decide +kernel
theorem dX10_whyNot_5 : decode cX10_whyNot 5 = .ok (.goto 12, 3) := by decide +kernel
theorem dX10_whyNot_8 : decode cX10_whyNot 8 = .ok (.iload_n 1, 1) := by decide +kernel
theorem dX10_whyNot_9 : decode cX10_whyNot 9 = .ok (.ifCond .ne 7, 3) := by decide +kernel
theorem dX10_whyNot_12 : decode cX10_whyNot 12 = .ok (.iconst 2, 1) := by decide +kernel
theorem dX10_whyNot_13 : decode cX10_whyNot 13 = .ok (.goto 4, 3) := by decide +kernel
theorem dX10_whyNot_16 : decode cX10_whyNot 16 = .ok (.iconst 0, 1) := by decide +kernel
theorem dX10_whyNot_17 : decode cX10_whyNot 17 = .ok (.ireturn, 1) := by decide +kernel
theorem dX10_glass_0 : decode cX10_glass 0 = .ok (.aload_n 0, 1) := by decide +kernel
theorem dX10_glass_1 : decode cX10_glass 1 = .ok (.aload_n 0, 1) := by decide +kernel
theorem dX10_glass_2 : decode cX10_glass 2 = .ok (.iload_n 1, 1) := by decide +kernel
theorem dX10_glass_3 : decode cX10_glass 3 = .ok (.invokevirtual 119, 3) := by decide +kernel
theorem dX10_glass_6 : decode cX10_glass 6 = .ok (.iload_n 2, 1) := by decide +kernel
theorem dX10_glass_7 : decode cX10_glass 7 = .ok (.iconst 1, 1) := by decide +kernel
theorem dX10_glass_8 : decode cX10_glass 8 = .ok (.if_icmp .lt 13, 3) := by decide +kernel
theorem dX10_glass_11 : decode cX10_glass 11 = .ok (.iload_n 2, 1) := by decide +kernel
theorem dX10_glass_12 : decode cX10_glass 12 = .ok (.bipush 8, 2) := by decide +kernel
theorem dX10_glass_14 : decode cX10_glass 14 = .ok (.if_icmp .gt 7, 3) := by decide +kernel
theorem dX10_glass_17 : decode cX10_glass 17 = .ok (.iconst 1, 1) := by decide +kernel
theorem dX10_glass_18 : decode cX10_glass 18 = .ok (.goto 4, 3) := by decide +kernel
theorem dX10_glass_21 : decode cX10_glass 21 = .ok (.iconst 0, 1) := by decide +kernel
theorem dX10_glass_22 : decode cX10_glass 22 = .ok (.invokestatic 151, 3) := by decide +kernel
theorem dX10_glass_25 : decode cX10_glass 25 = .ok (.invokevirtual 90, 3) := by decide +kernel
theorem dX10_glass_28 : decode cX10_glass 28 = .ok (.ifCond .eq 5, 3) := by decide +kernel
theorem dX10_glass_31 : decode cX10_glass 31 = .ok (.iconst (-1), 1) := by decide +kernel
theorem dX10_glass_32 : decode cX10_glass 32 = .ok (.ireturn, 1) := by decide +kernel
theorem dX10_glass_33 : decode cX10_glass 33 = .ok (.aload_n 0, 1) := by decide +kernel
theorem dX10_glass_34 : decode cX10_glass 34 = .ok (.getfield 55, 3) := by decide +kernel
theorem dX10_glass_37 : decode cX10_glass 37 = .ok (.aload_n 0, 1) := by decide +kernel
theorem dX10_glass_38 : decode cX10_glass 38 = .ok (.getfield 35, 3) := by decide +kernel
theorem dX10_glass_41 : decode cX10_glass 41 = .ok (.iload_n 1, 1) := by decide +kernel
theorem dX10_glass_42 : decode cX10_glass 42 = .ok (.iload_n 2, 1) := by decide +kernel
theorem dX10_glass_43 : decode cX10_glass 43 = .ok (.invokevirtual 155, 3) := by decide +kernel
theorem dX10_glass_46 : decode cX10_glass 46 = .ok (.ireturn, 1) := by decide +kernel
theorem dX10_stolen_0 : decode cX10_stolen 0 = .ok (.aload_n 0, 1) := by decide +kernel
theorem dX10_stolen_1 : decode cX10_stolen 1 = .ok (.aload_n 0, 1) := by decide +kernel
theorem dX10_stolen_2 : decode cX10_stolen 2 = .ok (.iload_n 1, 1) := by decide +kernel
theorem dX10_stolen_3 : decode cX10_stolen 3 = .ok (.invokevirtual 119, 3) := by decide +kernel
theorem dX10_stolen_6 : decode cX10_stolen 6 = .ok (.ifCond .eq 7, 3) := by decide +kernel
theorem dX10_stolen_9 : decode cX10_stolen 9 = .ok (.iconst 0, 1) := by decide +kernel
theorem dX10_stolen_10 : decode cX10_stolen 10 = .ok (.goto 4, 3) := by decide +kernel
theorem dX10_stolen_13 : decode cX10_stolen 13 = .ok (.iconst 1, 1) := by decide +kernel
theorem dX10_stolen_14 : decode cX10_stolen 14 = .ok (.invokevirtual 90, 3) := by decide +kernel
theorem dX10_stolen_17 : decode cX10_stolen 17 = .ok (.ifCond .eq 5, 3) := by decide +kernel
theorem dX10_stolen_20 : decode cX10_stolen 20 = .ok (.iconst (-1), 1) := by decide +kernel
theorem dX10_stolen_21 : decode cX10_stolen 21 = .ok (.ireturn, 1) := by decide +kernel
theorem dX10_stolen_22 : decode cX10_stolen 22 = .ok (.aload_n 0, 1) := by decide +kernel
theorem dX10_stolen_23 : decode cX10_stolen 23 = .ok (.getfield 55, 3) := by decide +kernel
theorem dX10_stolen_26 : decode cX10_stolen 26 = .ok (.aload_n 0, 1) := by decide +kernel
theorem dX10_stolen_27 : decode cX10_stolen 27 = .ok (.getfield 35, 3) := by decide +kernel
theorem dX10_stolen_30 : decode cX10_stolen 30 = .ok (.iload_n 1, 1) := by decide +kernel
theorem dX10_stolen_31 : decode cX10_stolen 31 = .ok (.invokevirtual 159, 3) := by decide +kernel
theorem dX10_stolen_34 : decode cX10_stolen 34 = .ok (.ireturn, 1) := by decide +kernel
theorem dX10_whyNotAfter_0 : decode cX10_whyNotAfter 0 = .ok (.aload_n 0, 1) := by decide +kernel
theorem dX10_whyNotAfter_1 : decode cX10_whyNotAfter 1 = .ok (.getfield 144, 3) := by decide +kernel
theorem dX10_whyNotAfter_4 : decode cX10_whyNotAfter 4 = .ok (.iload_n 1, 1) := by decide +kernel
theorem dX10_whyNotAfter_5 : decode cX10_whyNotAfter 5 = .ok (.ifCond .lt 21, 3) := by decide +kernel
theorem dX10_whyNotAfter_8 : decode cX10_whyNotAfter 8 = .ok (.iload_n 1, 1) := by decide +kernel
theorem dX10_whyNotAfter_9 : decode cX10_whyNotAfter 9 = .ok (.aload_n 0, 1) := by decide +kernel
theorem dX10_whyNotAfter_10 : decode cX10_whyNotAfter 10 = .ok (.getfield 16, 3) := by decide +kernel
theorem dX10_whyNotAfter_13 : decode cX10_whyNotAfter 13 = .ok (.getfield 104, 3) := by decide +kernel
theorem dX10_whyNotAfter_16 : decode cX10_whyNotAfter 16 = .ok (.getfield 108, 3) := by decide +kernel
theorem dX10_whyNotAfter_19 : decode cX10_whyNotAfter 19 = .ok (.if_icmp .gt 7, 3) := by decide +kernel
theorem dX10_whyNotAfter_22 : decode cX10_whyNotAfter 22 = .ok (.iconst 1, 1) := by decide +kernel
theorem dX10_whyNotAfter_23 : decode cX10_whyNotAfter 23 = .ok (.goto 4, 3) := by decide +kernel
theorem dX10_whyNotAfter_26 : decode cX10_whyNotAfter 26 = .ok (.iconst 0, 1) := by decide +kernel
theorem dX10_whyNotAfter_27 : decode cX10_whyNotAfter 27 = .ok (.invokestatic 151, 3) := by decide +kernel
theorem dX10_whyNotAfter_30 : decode cX10_whyNotAfter 30 = .ok (.ireturn, 1) := by decide +kernel
theorem dX10_stolenBy_0 : decode cX10_stolenBy 0 = .ok (.aload_n 0, 1) := by decide +kernel
theorem dX10_stolenBy_1 : decode cX10_stolenBy 1 = .ok (.aload_n 0, 1) := by decide +kernel
theorem dX10_stolenBy_2 : decode cX10_stolenBy 2 = .ok (.iload_n 1, 1) := by decide +kernel
theorem dX10_stolenBy_3 : decode cX10_stolenBy 3 = .ok (.invokevirtual 162, 3) := by decide +kernel
theorem dX10_stolenBy_6 : decode cX10_stolenBy 6 = .ok (.invokevirtual 90, 3) := by decide +kernel
theorem dX10_stolenBy_9 : decode cX10_stolenBy 9 = .ok (.ifCond .eq 5, 3) := by decide +kernel
theorem dX10_stolenBy_12 : decode cX10_stolenBy 12 = .ok (.iconst (-1), 1) := by decide +kernel
theorem dX10_stolenBy_13 : decode cX10_stolenBy 13 = .ok (.ireturn, 1) := by decide +kernel
theorem dX10_stolenBy_14 : decode cX10_stolenBy 14 = .ok (.aload_n 0, 1) := by decide +kernel
theorem dX10_stolenBy_15 : decode cX10_stolenBy 15 = .ok (.getfield 55, 3) := by decide +kernel
theorem dX10_stolenBy_18 : decode cX10_stolenBy 18 = .ok (.aload_n 0, 1) := by decide +kernel
theorem dX10_stolenBy_19 : decode cX10_stolenBy 19 = .ok (.getfield 35, 3) := by decide +kernel
theorem dX10_stolenBy_22 : decode cX10_stolenBy 22 = .ok (.invokevirtual 166, 3) := by decide +kernel
theorem dX10_stolenBy_25 : decode cX10_stolenBy 25 = .ok (.aload_n 0, 1) := by decide +kernel
theorem dX10_stolenBy_26 : decode cX10_stolenBy 26 = .ok (.getfield 55, 3) := by decide +kernel
theorem dX10_stolenBy_29 : decode cX10_stolenBy 29 = .ok (.iload_n 1, 1) := by decide +kernel
theorem dX10_stolenBy_30 : decode cX10_stolenBy 30 = .ok (.invokevirtual 170, 3) := by decide +kernel
theorem dX10_stolenBy_33 : decode cX10_stolenBy 33 = .ok (.ireturn, 1) := by decide +kernel
theorem dX10_whyNotUnderWay_0 : decode cX10_whyNotUnderWay 0 = .ok (.aload_n 0, 1) := by decide +kernel
theorem dX10_whyNotUnderWay_1 : decode cX10_whyNotUnderWay 1 = .ok (.getfield 144, 3) := by decide +kernel
theorem dX10_whyNotUnderWay_4 : decode cX10_whyNotUnderWay 4 = .ok (.ifCond .eq 7, 3) := by decide +kernel
theorem dX10_whyNotUnderWay_7 : decode cX10_whyNotUnderWay 7 = .ok (.iconst 0, 1) := by decide +kernel
theorem dX10_whyNotUnderWay_8 : decode cX10_whyNotUnderWay 8 = .ok (.goto 4, 3) := by decide +kernel
theorem dX10_whyNotUnderWay_11 : decode cX10_whyNotUnderWay 11 = .ok (.iconst 1, 1) := by decide +kernel
theorem dX10_whyNotUnderWay_12 : decode cX10_whyNotUnderWay 12 = .ok (.ireturn, 1) := by decide +kernel
theorem dX10_thief_0 : decode cX10_thief 0 = .ok (.aload_n 0, 1) := by decide +kernel
theorem dX10_thief_1 : decode cX10_thief 1 = .ok (.aload_n 0, 1) := by decide +kernel
theorem dX10_thief_2 : decode cX10_thief 2 = .ok (.invokevirtual 173, 3) := by decide +kernel
theorem dX10_thief_5 : decode cX10_thief 5 = .ok (.invokevirtual 90, 3) := by decide +kernel
theorem dX10_thief_8 : decode cX10_thief 8 = .ok (.ifCond .eq 5, 3) := by decide +kernel
theorem dX10_thief_11 : decode cX10_thief 11 = .ok (.iconst (-1), 1) := by decide +kernel
theorem dX10_thief_12 : decode cX10_thief 12 = .ok (.ireturn, 1) := by decide +kernel
theorem dX10_thief_13 : decode cX10_thief 13 = .ok (.bipush (-2), 2) := by decide +kernel
theorem dX10_thief_15 : decode cX10_thief 15 = .ok (.istore_n 1, 1) := by decide +kernel
theorem dX10_thief_16 : decode cX10_thief 16 = .ok (.iconst (-1), 1) := by decide +kernel
theorem dX10_thief_17 : decode cX10_thief 17 = .ok (.istore_n 2, 1) := by decide +kernel
theorem dX10_thief_18 : decode cX10_thief 18 = .ok (.iconst 0, 1) := by decide +kernel
theorem dX10_thief_19 : decode cX10_thief 19 = .ok (.istore_n 3, 1) := by decide +kernel
theorem dX10_thief_20 : decode cX10_thief 20 = .ok (.iload_n 3, 1) := by decide +kernel
theorem dX10_thief_21 : decode cX10_thief 21 = .ok (.aload_n 0, 1) := by decide +kernel
theorem dX10_thief_22 : decode cX10_thief 22 = .ok (.getfield 16, 3) := by decide +kernel
theorem dX10_thief_25 : decode cX10_thief 25 = .ok (.getfield 134, 3) := by decide +kernel
theorem dX10_thief_28 : decode cX10_thief 28 = .ok (.getfield 108, 3) := by decide +kernel
theorem dX10_thief_31 : decode cX10_thief 31 = .ok (.if_icmp .ge 34, 3) := by decide +kernel
theorem dX10_thief_34 : decode cX10_thief 34 = .ok (.aload_n 0, 1) := by decide +kernel
theorem dX10_thief_35 : decode cX10_thief 35 = .ok (.getfield 55, 3) := by decide +kernel
theorem dX10_thief_38 : decode cX10_thief 38 = .ok (.aload_n 0, 1) := by decide +kernel
theorem dX10_thief_39 : decode cX10_thief 39 = .ok (.getfield 35, 3) := by decide +kernel
theorem dX10_thief_42 : decode cX10_thief 42 = .ok (.iload_n 3, 1) := by decide +kernel
theorem dX10_thief_43 : decode cX10_thief 43 = .ok (.invokevirtual 141, 3) := by decide +kernel
theorem dX10_thief_46 : decode cX10_thief 46 = .ok (.istore 4, 2) := by decide +kernel
theorem dX10_thief_48 : decode cX10_thief 48 = .ok (.iload 4, 2) := by decide +kernel
theorem dX10_thief_50 : decode cX10_thief 50 = .ok (.iload_n 2, 1) := by decide +kernel
theorem dX10_thief_51 : decode cX10_thief 51 = .ok (.if_icmp .le 8, 3) := by decide +kernel
theorem dX10_thief_54 : decode cX10_thief 54 = .ok (.iload_n 3, 1) := by decide +kernel
theorem dX10_thief_55 : decode cX10_thief 55 = .ok (.istore_n 1, 1) := by decide +kernel
theorem dX10_thief_56 : decode cX10_thief 56 = .ok (.iload 4, 2) := by decide +kernel
theorem dX10_thief_58 : decode cX10_thief 58 = .ok (.istore_n 2, 1) := by decide +kernel
theorem dX10_thief_59 : decode cX10_thief 59 = .ok (.iinc 3 1, 3) := by decide +kernel
theorem dX10_thief_62 : decode cX10_thief 62 = .ok (.goto (-42), 3) := by decide +kernel
theorem dX10_thief_65 : decode cX10_thief 65 = .ok (.iload_n 1, 1) := by decide +kernel
theorem dX10_thief_66 : decode cX10_thief 66 = .ok (.ireturn, 1) := by decide +kernel
theorem dX10_lostWatch_0 : decode cX10_lostWatch 0 = .ok (.aload_n 0, 1) := by decide +kernel
theorem dX10_lostWatch_1 : decode cX10_lostWatch 1 = .ok (.aload_n 0, 1) := by decide +kernel
theorem dX10_lostWatch_2 : decode cX10_lostWatch 2 = .ok (.invokevirtual 173, 3) := by decide +kernel
theorem dX10_lostWatch_5 : decode cX10_lostWatch 5 = .ok (.invokevirtual 90, 3) := by decide +kernel
theorem dX10_lostWatch_8 : decode cX10_lostWatch 8 = .ok (.ifCond .eq 5, 3) := by decide +kernel
theorem dX10_lostWatch_11 : decode cX10_lostWatch 11 = .ok (.iconst (-1), 1) := by decide +kernel
theorem dX10_lostWatch_12 : decode cX10_lostWatch 12 = .ok (.ireturn, 1) := by decide +kernel
theorem dX10_lostWatch_13 : decode cX10_lostWatch 13 = .ok (.iconst 0, 1) := by decide +kernel
theorem dX10_lostWatch_14 : decode cX10_lostWatch 14 = .ok (.istore_n 1, 1) := by decide +kernel
theorem dX10_lostWatch_15 : decode cX10_lostWatch 15 = .ok (.iconst 0, 1) := by decide +kernel
theorem dX10_lostWatch_16 : decode cX10_lostWatch 16 = .ok (.istore_n 2, 1) := by decide +kernel
theorem dX10_lostWatch_17 : decode cX10_lostWatch 17 = .ok (.iload_n 2, 1) := by decide +kernel
theorem dX10_lostWatch_18 : decode cX10_lostWatch 18 = .ok (.aload_n 0, 1) := by decide +kernel
theorem dX10_lostWatch_19 : decode cX10_lostWatch 19 = .ok (.getfield 16, 3) := by decide +kernel
theorem dX10_lostWatch_22 : decode cX10_lostWatch 22 = .ok (.getfield 104, 3) := by decide +kernel
theorem dX10_lostWatch_25 : decode cX10_lostWatch 25 = .ok (.getfield 108, 3) := by decide +kernel
theorem dX10_lostWatch_28 : decode cX10_lostWatch 28 = .ok (.if_icmp .ge 33, 3) := by decide +kernel
theorem dX10_lostWatch_31 : decode cX10_lostWatch 31 = .ok (.iload_n 1, 1) := by decide +kernel
theorem dX10_lostWatch_32 : decode cX10_lostWatch 32 = .ok (.aload_n 0, 1) := by decide +kernel
theorem dX10_lostWatch_33 : decode cX10_lostWatch 33 = .ok (.getfield 55, 3) := by decide +kernel
theorem dX10_lostWatch_36 : decode cX10_lostWatch 36 = .ok (.aload_n 0, 1) := by decide +kernel
theorem dX10_lostWatch_37 : decode cX10_lostWatch 37 = .ok (.getfield 35, 3) := by decide +kernel
theorem dX10_lostWatch_40 : decode cX10_lostWatch 40 = .ok (.iload_n 2, 1) := by decide +kernel
theorem dX10_lostWatch_41 : decode cX10_lostWatch 41 = .ok (.invokevirtual 159, 3) := by decide +kernel
theorem dX10_lostWatch_44 : decode cX10_lostWatch 44 = .ok (.iadd, 1) := by decide +kernel
theorem dX10_lostWatch_45 : decode cX10_lostWatch 45 = .ok (.istore_n 1, 1) := by decide +kernel
theorem dX10_lostWatch_46 : decode cX10_lostWatch 46 = .ok (.iload_n 1, 1) := by decide +kernel
theorem dX10_lostWatch_47 : decode cX10_lostWatch 47 = .ok (.sipush 240, 3) := by decide +kernel
theorem dX10_lostWatch_50 : decode cX10_lostWatch 50 = .ok (.if_icmp .lt 5, 3) := by decide +kernel
theorem dX10_lostWatch_53 : decode cX10_lostWatch 53 = .ok (.iload_n 2, 1) := by decide +kernel
theorem dX10_lostWatch_54 : decode cX10_lostWatch 54 = .ok (.ireturn, 1) := by decide +kernel
theorem dX10_lostWatch_55 : decode cX10_lostWatch 55 = .ok (.iinc 2 1, 3) := by decide +kernel
theorem dX10_lostWatch_58 : decode cX10_lostWatch 58 = .ok (.goto (-41), 3) := by decide +kernel
theorem dX10_lostWatch_61 : decode cX10_lostWatch 61 = .ok (.bipush (-2), 2) := by decide +kernel
theorem dX10_lostWatch_63 : decode cX10_lostWatch 63 = .ok (.ireturn, 1) := by decide +kernel
theorem dX10_at_0 : decode cX10_at 0 = .ok (.aload_n 0, 1) := by decide +kernel
theorem dX10_at_1 : decode cX10_at 1 = .ok (.aload_n 0, 1) := by decide +kernel
theorem dX10_at_2 : decode cX10_at 2 = .ok (.iload_n 1, 1) := by decide +kernel
theorem dX10_at_3 : decode cX10_at 3 = .ok (.invokevirtual 162, 3) := by decide +kernel
theorem dX10_at_6 : decode cX10_at 6 = .ok (.invokevirtual 90, 3) := by decide +kernel
theorem dX10_at_9 : decode cX10_at 9 = .ok (.ifCond .eq 6, 3) := by decide +kernel
theorem dX10_at_12 : decode cX10_at 12 = .ok (.ldc 177, 2) := by decide +kernel
theorem dX10_at_14 : decode cX10_at 14 = .ok (.ireturn, 1) := by decide +kernel
theorem dX10_at_15 : decode cX10_at 15 = .ok (.aload_n 0, 1) := by decide +kernel
theorem dX10_at_16 : decode cX10_at 16 = .ok (.getfield 55, 3) := by decide +kernel
theorem dX10_at_19 : decode cX10_at 19 = .ok (.aload_n 0, 1) := by decide +kernel
theorem dX10_at_20 : decode cX10_at 20 = .ok (.getfield 35, 3) := by decide +kernel
theorem dX10_at_23 : decode cX10_at 23 = .ok (.iload_n 1, 1) := by decide +kernel
theorem dX10_at_24 : decode cX10_at 24 = .ok (.invokevirtual 178, 3) := by decide +kernel
theorem dX10_at_27 : decode cX10_at 27 = .ok (.astore_n 3, 1) := by decide +kernel
theorem dX10_at_28 : decode cX10_at 28 = .ok (.iload_n 2, 1) := by decide +kernel
theorem dX10_at_29 : decode cX10_at 29 = .ok (.ifCond .eq 10, 3) := by decide +kernel
theorem dX10_at_32 : decode cX10_at 32 = .ok (.aload_n 3, 1) := by decide +kernel
theorem dX10_at_33 : decode cX10_at 33 = .ok (.getfield 182, 3) := by decide +kernel
theorem dX10_at_36 : decode cX10_at 36 = .ok (.goto 7, 3) := by decide +kernel
theorem dX10_at_39 : decode cX10_at 39 = .ok (.aload_n 3, 1) := by decide +kernel
theorem dX10_at_40 : decode cX10_at 40 = .ok (.getfield 187, 3) := by decide +kernel
theorem dX10_at_43 : decode cX10_at 43 = .ok (.ireturn, 1) := by decide +kernel
theorem dX10_thought_0 : decode cX10_thought 0 = .ok (.aload_n 0, 1) := by decide +kernel
theorem dX10_thought_1 : decode cX10_thought 1 = .ok (.aload_n 0, 1) := by decide +kernel
theorem dX10_thought_2 : decode cX10_thought 2 = .ok (.iload_n 1, 1) := by decide +kernel
theorem dX10_thought_3 : decode cX10_thought 3 = .ok (.invokevirtual 162, 3) := by decide +kernel
theorem dX10_thought_6 : decode cX10_thought 6 = .ok (.invokevirtual 90, 3) := by decide +kernel
theorem dX10_thought_9 : decode cX10_thought 9 = .ok (.ifCond .eq 6, 3) := by decide +kernel
theorem dX10_thought_12 : decode cX10_thought 12 = .ok (.ldc 177, 2) := by decide +kernel
theorem dX10_thought_14 : decode cX10_thought 14 = .ok (.ireturn, 1) := by decide +kernel
theorem dX10_thought_15 : decode cX10_thought 15 = .ok (.aload_n 0, 1) := by decide +kernel
theorem dX10_thought_16 : decode cX10_thought 16 = .ok (.getfield 55, 3) := by decide +kernel
theorem dX10_thought_19 : decode cX10_thought 19 = .ok (.aload_n 0, 1) := by decide +kernel
theorem dX10_thought_20 : decode cX10_thought 20 = .ok (.getfield 35, 3) := by decide +kernel
theorem dX10_thought_23 : decode cX10_thought 23 = .ok (.iload_n 1, 1) := by decide +kernel
theorem dX10_thought_24 : decode cX10_thought 24 = .ok (.invokevirtual 178, 3) := by decide +kernel
theorem dX10_thought_27 : decode cX10_thought 27 = .ok (.astore_n 3, 1) := by decide +kernel
theorem dX10_thought_28 : decode cX10_thought 28 = .ok (.iload_n 2, 1) := by decide +kernel
theorem dX10_thought_29 : decode cX10_thought 29 = .ok (.ifCond .eq 10, 3) := by decide +kernel
theorem dX10_thought_32 : decode cX10_thought 32 = .ok (.aload_n 3, 1) := by decide +kernel
theorem dX10_thought_33 : decode cX10_thought 33 = .ok (.getfield 190, 3) := by decide +kernel
theorem dX10_thought_36 : decode cX10_thought 36 = .ok (.goto 7, 3) := by decide +kernel
theorem dX10_thought_39 : decode cX10_thought 39 = .ok (.aload_n 3, 1) := by decide +kernel
theorem dX10_thought_40 : decode cX10_thought 40 = .ok (.getfield 193, 3) := by decide +kernel
theorem dX10_thought_43 : decode cX10_thought 43 = .ok (.ireturn, 1) := by decide +kernel
theorem dX10_error_0 : decode cX10_error 0 = .ok (.aload_n 0, 1) := by decide +kernel
theorem dX10_error_1 : decode cX10_error 1 = .ok (.aload_n 0, 1) := by decide +kernel
theorem dX10_error_2 : decode cX10_error 2 = .ok (.iload_n 1, 1) := by decide +kernel
theorem dX10_error_3 : decode cX10_error 3 = .ok (.invokevirtual 162, 3) := by decide +kernel
theorem dX10_error_6 : decode cX10_error 6 = .ok (.invokevirtual 90, 3) := by decide +kernel
theorem dX10_error_9 : decode cX10_error 9 = .ok (.ifCond .eq 5, 3) := by decide +kernel
theorem dX10_error_12 : decode cX10_error 12 = .ok (.iconst (-1), 1) := by decide +kernel
theorem dX10_error_13 : decode cX10_error 13 = .ok (.ireturn, 1) := by decide +kernel
theorem dX10_error_14 : decode cX10_error 14 = .ok (.aload_n 0, 1) := by decide +kernel
theorem dX10_error_15 : decode cX10_error 15 = .ok (.getfield 55, 3) := by decide +kernel
theorem dX10_error_18 : decode cX10_error 18 = .ok (.aload_n 0, 1) := by decide +kernel
theorem dX10_error_19 : decode cX10_error 19 = .ok (.getfield 35, 3) := by decide +kernel
theorem dX10_error_22 : decode cX10_error 22 = .ok (.iload_n 1, 1) := by decide +kernel
theorem dX10_error_23 : decode cX10_error 23 = .ok (.invokevirtual 178, 3) := by decide +kernel
theorem dX10_error_26 : decode cX10_error 26 = .ok (.invokevirtual 196, 3) := by decide +kernel
theorem dX10_error_29 : decode cX10_error 29 = .ok (.ireturn, 1) := by decide +kernel
theorem dX10_worst_0 : decode cX10_worst 0 = .ok (.aload_n 0, 1) := by decide +kernel
theorem dX10_worst_1 : decode cX10_worst 1 = .ok (.aload_n 0, 1) := by decide +kernel
theorem dX10_worst_2 : decode cX10_worst 2 = .ok (.invokevirtual 173, 3) := by decide +kernel
theorem dX10_worst_5 : decode cX10_worst 5 = .ok (.invokevirtual 90, 3) := by decide +kernel
theorem dX10_worst_8 : decode cX10_worst 8 = .ok (.ifCond .eq 5, 3) := by decide +kernel
theorem dX10_worst_11 : decode cX10_worst 11 = .ok (.iconst (-1), 1) := by decide +kernel
theorem dX10_worst_12 : decode cX10_worst 12 = .ok (.ireturn, 1) := by decide +kernel
theorem dX10_worst_13 : decode cX10_worst 13 = .ok (.iconst 0, 1) := by decide +kernel
theorem dX10_worst_14 : decode cX10_worst 14 = .ok (.istore_n 1, 1) := by decide +kernel
theorem dX10_worst_15 : decode cX10_worst 15 = .ok (.iconst 0, 1) := by decide +kernel
theorem dX10_worst_16 : decode cX10_worst 16 = .ok (.istore_n 2, 1) := by decide +kernel
theorem dX10_worst_17 : decode cX10_worst 17 = .ok (.aload_n 0, 1) := by decide +kernel
theorem dX10_worst_18 : decode cX10_worst 18 = .ok (.getfield 55, 3) := by decide +kernel
theorem dX10_worst_21 : decode cX10_worst 21 = .ok (.aload_n 0, 1) := by decide +kernel
theorem dX10_worst_22 : decode cX10_worst 22 = .ok (.getfield 35, 3) := by decide +kernel
theorem dX10_worst_25 : decode cX10_worst 25 = .ok (.invokevirtual 166, 3) := by decide +kernel
theorem dX10_worst_28 : decode cX10_worst 28 = .ok (.iconst 0, 1) := by decide +kernel
theorem dX10_worst_29 : decode cX10_worst 29 = .ok (.istore_n 3, 1) := by decide +kernel
theorem dX10_worst_30 : decode cX10_worst 30 = .ok (.iload_n 3, 1) := by decide +kernel
theorem dX10_worst_31 : decode cX10_worst 31 = .ok (.aload_n 0, 1) := by decide +kernel
theorem dX10_worst_32 : decode cX10_worst 32 = .ok (.getfield 16, 3) := by decide +kernel
theorem dX10_worst_35 : decode cX10_worst 35 = .ok (.getfield 104, 3) := by decide +kernel
theorem dX10_worst_38 : decode cX10_worst 38 = .ok (.getfield 108, 3) := by decide +kernel
theorem dX10_worst_41 : decode cX10_worst 41 = .ok (.if_icmp .gt 51, 3) := by decide +kernel
theorem dX10_worst_44 : decode cX10_worst 44 = .ok (.aload_n 0, 1) := by decide +kernel
theorem dX10_worst_45 : decode cX10_worst 45 = .ok (.getfield 55, 3) := by decide +kernel
theorem dX10_worst_48 : decode cX10_worst 48 = .ok (.aload_n 0, 1) := by decide +kernel
theorem dX10_worst_49 : decode cX10_worst 49 = .ok (.getfield 35, 3) := by decide +kernel
theorem dX10_worst_52 : decode cX10_worst 52 = .ok (.iload_n 3, 1) := by decide +kernel
theorem dX10_worst_53 : decode cX10_worst 53 = .ok (.iconst 1, 1) := by decide +kernel
theorem dX10_worst_54 : decode cX10_worst 54 = .ok (.isub, 1) := by decide +kernel
theorem dX10_worst_55 : decode cX10_worst 55 = .ok (.iconst 0, 1) := by decide +kernel
theorem dX10_worst_56 : decode cX10_worst 56 = .ok (.invokestatic 199, 3) := by decide +kernel
theorem dX10_worst_59 : decode cX10_worst 59 = .ok (.iload_n 3, 1) := by decide +kernel
theorem dX10_worst_60 : decode cX10_worst 60 = .ok (.invokevirtual 204, 3) := by decide +kernel
theorem dX10_worst_63 : decode cX10_worst 63 = .ok (.aload_n 0, 1) := by decide +kernel
theorem dX10_worst_64 : decode cX10_worst 64 = .ok (.getfield 55, 3) := by decide +kernel
theorem dX10_worst_67 : decode cX10_worst 67 = .ok (.getfield 208, 3) := by decide +kernel
theorem dX10_worst_70 : decode cX10_worst 70 = .ok (.invokevirtual 196, 3) := by decide +kernel
theorem dX10_worst_73 : decode cX10_worst 73 = .ok (.istore 4, 2) := by decide +kernel
theorem dX10_worst_75 : decode cX10_worst 75 = .ok (.iload 4, 2) := by decide +kernel
theorem dX10_worst_77 : decode cX10_worst 77 = .ok (.iload_n 2, 1) := by decide +kernel
theorem dX10_worst_78 : decode cX10_worst 78 = .ok (.if_icmp .le 8, 3) := by decide +kernel
theorem dX10_worst_81 : decode cX10_worst 81 = .ok (.iload_n 3, 1) := by decide +kernel
theorem dX10_worst_82 : decode cX10_worst 82 = .ok (.istore_n 1, 1) := by decide +kernel
theorem dX10_worst_83 : decode cX10_worst 83 = .ok (.iload 4, 2) := by decide +kernel
theorem dX10_worst_85 : decode cX10_worst 85 = .ok (.istore_n 2, 1) := by decide +kernel
theorem dX10_worst_86 : decode cX10_worst 86 = .ok (.iinc 3 1, 3) := by decide +kernel
theorem dX10_worst_89 : decode cX10_worst 89 = .ok (.goto (-59), 3) := by decide +kernel
theorem dX10_worst_92 : decode cX10_worst 92 = .ok (.iload_n 1, 1) := by decide +kernel
theorem dX10_worst_93 : decode cX10_worst 93 = .ok (.ireturn, 1) := by decide +kernel
theorem dX10_square_0 : decode cX10_square 0 = .ok (.aload_n 0, 1) := by decide +kernel
theorem dX10_square_1 : decode cX10_square 1 = .ok (.aload_n 0, 1) := by decide +kernel
theorem dX10_square_2 : decode cX10_square 2 = .ok (.iload_n 1, 1) := by decide +kernel
theorem dX10_square_3 : decode cX10_square 3 = .ok (.invokevirtual 162, 3) := by decide +kernel
theorem dX10_square_6 : decode cX10_square 6 = .ok (.invokevirtual 90, 3) := by decide +kernel
theorem dX10_square_9 : decode cX10_square 9 = .ok (.ifCond .eq 5, 3) := by decide +kernel
theorem dX10_square_12 : decode cX10_square 12 = .ok (.iconst (-1), 1) := by decide +kernel
theorem dX10_square_13 : decode cX10_square 13 = .ok (.ireturn, 1) := by decide +kernel
theorem dX10_square_14 : decode cX10_square 14 = .ok (.aload_n 0, 1) := by decide +kernel
theorem dX10_square_15 : decode cX10_square 15 = .ok (.getfield 55, 3) := by decide +kernel
theorem dX10_square_18 : decode cX10_square 18 = .ok (.aload_n 0, 1) := by decide +kernel
theorem dX10_square_19 : decode cX10_square 19 = .ok (.getfield 35, 3) := by decide +kernel
theorem dX10_square_22 : decode cX10_square 22 = .ok (.iload_n 1, 1) := by decide +kernel
theorem dX10_square_23 : decode cX10_square 23 = .ok (.invokevirtual 178, 3) := by decide +kernel
theorem dX10_square_26 : decode cX10_square 26 = .ok (.invokevirtual 212, 3) := by decide +kernel
theorem dX10_square_29 : decode cX10_square 29 = .ok (.ireturn, 1) := by decide +kernel
theorem dX10_squareThought_0 : decode cX10_squareThought 0 = .ok (.aload_n 0, 1) := by decide +kernel
theorem dX10_squareThought_1 : decode cX10_squareThought 1 = .ok (.aload_n 0, 1) := by decide +kernel
theorem dX10_squareThought_2 : decode cX10_squareThought 2 = .ok (.iload_n 1, 1) := by decide +kernel
theorem dX10_squareThought_3 : decode cX10_squareThought 3 = .ok (.invokevirtual 162, 3) := by decide +kernel
theorem dX10_squareThought_6 : decode cX10_squareThought 6 = .ok (.invokevirtual 90, 3) := by decide +kernel
theorem dX10_squareThought_9 : decode cX10_squareThought 9 = .ok (.ifCond .eq 5, 3) := by decide +kernel
theorem dX10_squareThought_12 : decode cX10_squareThought 12 = .ok (.iconst (-1), 1) := by decide +kernel
theorem dX10_squareThought_13 : decode cX10_squareThought 13 = .ok (.ireturn, 1) := by decide +kernel
theorem dX10_squareThought_14 : decode cX10_squareThought 14 = .ok (.aload_n 0, 1) := by decide +kernel
theorem dX10_squareThought_15 : decode cX10_squareThought 15 = .ok (.getfield 55, 3) := by decide +kernel
theorem dX10_squareThought_18 : decode cX10_squareThought 18 = .ok (.aload_n 0, 1) := by decide +kernel
theorem dX10_squareThought_19 : decode cX10_squareThought 19 = .ok (.getfield 35, 3) := by decide +kernel
theorem dX10_squareThought_22 : decode cX10_squareThought 22 = .ok (.iload_n 1, 1) := by decide +kernel
theorem dX10_squareThought_23 : decode cX10_squareThought 23 = .ok (.invokevirtual 178, 3) := by decide +kernel
theorem dX10_squareThought_26 : decode cX10_squareThought 26 = .ok (.invokevirtual 215, 3) := by decide +kernel
theorem dX10_squareThought_29 : decode cX10_squareThought 29 = .ok (.ireturn, 1) := by decide +kernel
theorem dX10_strikes_0 : decode cX10_strikes 0 = .ok (.aload_n 0, 1) := by decide +kernel
theorem dX10_strikes_1 : decode cX10_strikes 1 = .ok (.aload_n 0, 1) := by decide +kernel
theorem dX10_strikes_2 : decode cX10_strikes 2 = .ok (.invokevirtual 173, 3) := by decide +kernel
theorem dX10_strikes_5 : decode cX10_strikes 5 = .ok (.invokevirtual 90, 3) := by decide +kernel
theorem dX10_strikes_8 : decode cX10_strikes 8 = .ok (.ifCond .eq 5, 3) := by decide +kernel
theorem dX10_strikes_11 : decode cX10_strikes 11 = .ok (.iconst (-1), 1) := by decide +kernel
theorem dX10_strikes_12 : decode cX10_strikes 12 = .ok (.ireturn, 1) := by decide +kernel
theorem dX10_strikes_13 : decode cX10_strikes 13 = .ok (.aload_n 0, 1) := by decide +kernel
theorem dX10_strikes_14 : decode cX10_strikes 14 = .ok (.getfield 55, 3) := by decide +kernel
theorem dX10_strikes_17 : decode cX10_strikes 17 = .ok (.aload_n 0, 1) := by decide +kernel
theorem dX10_strikes_18 : decode cX10_strikes 18 = .ok (.getfield 35, 3) := by decide +kernel
theorem dX10_strikes_21 : decode cX10_strikes 21 = .ok (.invokevirtual 166, 3) := by decide +kernel
theorem dX10_strikes_24 : decode cX10_strikes 24 = .ok (.aload_n 0, 1) := by decide +kernel
theorem dX10_strikes_25 : decode cX10_strikes 25 = .ok (.getfield 55, 3) := by decide +kernel
theorem dX10_strikes_28 : decode cX10_strikes 28 = .ok (.aload_n 0, 1) := by decide +kernel
theorem dX10_strikes_29 : decode cX10_strikes 29 = .ok (.getfield 35, 3) := by decide +kernel
theorem dX10_strikes_32 : decode cX10_strikes 32 = .ok (.iconst 0, 1) := by decide +kernel
theorem dX10_strikes_33 : decode cX10_strikes 33 = .ok (.invokevirtual 218, 3) := by decide +kernel
theorem dX10_strikes_36 : decode cX10_strikes 36 = .ok (.ireturn, 1) := by decide +kernel
theorem dX10_feared_0 : decode cX10_feared 0 = .ok (.aload_n 0, 1) := by decide +kernel
theorem dX10_feared_1 : decode cX10_feared 1 = .ok (.aload_n 0, 1) := by decide +kernel
theorem dX10_feared_2 : decode cX10_feared 2 = .ok (.invokevirtual 173, 3) := by decide +kernel
theorem dX10_feared_5 : decode cX10_feared 5 = .ok (.invokevirtual 90, 3) := by decide +kernel
theorem dX10_feared_8 : decode cX10_feared 8 = .ok (.ifCond .eq 5, 3) := by decide +kernel
theorem dX10_feared_11 : decode cX10_feared 11 = .ok (.iconst (-1), 1) := by decide +kernel
theorem dX10_feared_12 : decode cX10_feared 12 = .ok (.ireturn, 1) := by decide +kernel
theorem dX10_feared_13 : decode cX10_feared 13 = .ok (.aload_n 0, 1) := by decide +kernel
theorem dX10_feared_14 : decode cX10_feared 14 = .ok (.getfield 55, 3) := by decide +kernel
theorem dX10_feared_17 : decode cX10_feared 17 = .ok (.aload_n 0, 1) := by decide +kernel
theorem dX10_feared_18 : decode cX10_feared 18 = .ok (.getfield 35, 3) := by decide +kernel
theorem dX10_feared_21 : decode cX10_feared 21 = .ok (.invokevirtual 166, 3) := by decide +kernel
theorem dX10_feared_24 : decode cX10_feared 24 = .ok (.aload_n 0, 1) := by decide +kernel
theorem dX10_feared_25 : decode cX10_feared 25 = .ok (.getfield 55, 3) := by decide +kernel
theorem dX10_feared_28 : decode cX10_feared 28 = .ok (.aload_n 0, 1) := by decide +kernel
theorem dX10_feared_29 : decode cX10_feared 29 = .ok (.getfield 35, 3) := by decide +kernel
theorem dX10_feared_32 : decode cX10_feared 32 = .ok (.iconst 1, 1) := by decide +kernel
theorem dX10_feared_33 : decode cX10_feared 33 = .ok (.invokevirtual 218, 3) := by decide +kernel
theorem dX10_feared_36 : decode cX10_feared 36 = .ok (.ireturn, 1) := by decide +kernel
theorem dX10_canBe_0 : decode cX10_canBe 0 = .ok (.aload_n 0, 1) := by decide +kernel
theorem dX10_canBe_1 : decode cX10_canBe 1 = .ok (.aload_n 0, 1) := by decide +kernel
theorem dX10_canBe_2 : decode cX10_canBe 2 = .ok (.iload_n 1, 1) := by decide +kernel
theorem dX10_canBe_3 : decode cX10_canBe 3 = .ok (.invokevirtual 162, 3) := by decide +kernel
theorem dX10_canBe_6 : decode cX10_canBe 6 = .ok (.invokevirtual 90, 3) := by decide +kernel
theorem dX10_canBe_9 : decode cX10_canBe 9 = .ok (.ifCond .eq 5, 3) := by decide +kernel
theorem dX10_canBe_12 : decode cX10_canBe 12 = .ok (.iconst (-1), 1) := by decide +kernel
theorem dX10_canBe_13 : decode cX10_canBe 13 = .ok (.ireturn, 1) := by decide +kernel
theorem dX10_canBe_14 : decode cX10_canBe 14 = .ok (.aload_n 0, 1) := by decide +kernel
theorem dX10_canBe_15 : decode cX10_canBe 15 = .ok (.getfield 71, 3) := by decide +kernel
theorem dX10_canBe_18 : decode cX10_canBe 18 = .ok (.aload_n 0, 1) := by decide +kernel
theorem dX10_canBe_19 : decode cX10_canBe 19 = .ok (.getfield 35, 3) := by decide +kernel
theorem dX10_canBe_22 : decode cX10_canBe 22 = .ok (.iload_n 1, 1) := by decide +kernel
theorem dX10_canBe_23 : decode cX10_canBe 23 = .ok (.invokevirtual 222, 3) := by decide +kernel
theorem dX10_canBe_26 : decode cX10_canBe 26 = .ok (.ireturn, 1) := by decide +kernel
theorem dX10_perils_0 : decode cX10_perils 0 = .ok (.aload_n 0, 1) := by decide +kernel
theorem dX10_perils_1 : decode cX10_perils 1 = .ok (.aload_n 0, 1) := by decide +kernel
theorem dX10_perils_2 : decode cX10_perils 2 = .ok (.invokevirtual 173, 3) := by decide +kernel
theorem dX10_perils_5 : decode cX10_perils 5 = .ok (.invokevirtual 90, 3) := by decide +kernel
theorem dX10_perils_8 : decode cX10_perils 8 = .ok (.ifCond .eq 5, 3) := by decide +kernel
theorem dX10_perils_11 : decode cX10_perils 11 = .ok (.iconst (-1), 1) := by decide +kernel
theorem dX10_perils_12 : decode cX10_perils 12 = .ok (.ireturn, 1) := by decide +kernel
theorem dX10_perils_13 : decode cX10_perils 13 = .ok (.aload_n 0, 1) := by decide +kernel
theorem dX10_perils_14 : decode cX10_perils 14 = .ok (.getfield 71, 3) := by decide +kernel
theorem dX10_perils_17 : decode cX10_perils 17 = .ok (.aload_n 0, 1) := by decide +kernel
theorem dX10_perils_18 : decode cX10_perils 18 = .ok (.getfield 35, 3) := by decide +kernel
theorem dX10_perils_21 : decode cX10_perils 21 = .ok (.invokevirtual 225, 3) := by decide +kernel
theorem dX10_perils_24 : decode cX10_perils 24 = .ok (.ireturn, 1) := by decide +kernel
theorem dX10_attendFor_0 : decode cX10_attendFor 0 = .ok (.aload_n 0, 1) := by decide +kernel
theorem dX10_attendFor_1 : decode cX10_attendFor 1 = .ok (.aload_n 0, 1) := by decide +kernel
theorem dX10_attendFor_2 : decode cX10_attendFor 2 = .ok (.getfield 144, 3) := by decide +kernel
theorem dX10_attendFor_5 : decode cX10_attendFor 5 = .ok (.iload_n 1, 1) := by decide +kernel
theorem dX10_attendFor_6 : decode cX10_attendFor 6 = .ok (.ifCond .lt 14, 3) := by decide +kernel
theorem dX10_attendFor_9 : decode cX10_attendFor 9 = .ok (.iload_n 1, 1) := by decide +kernel
theorem dX10_attendFor_10 : decode cX10_attendFor 10 = .ok (.sipush 999, 3) := by decide +kernel
theorem dX10_attendFor_13 : decode cX10_attendFor 13 = .ok (.if_icmp .gt 7, 3) := by decide +kernel
theorem dX10_attendFor_16 : decode cX10_attendFor 16 = .ok (.iconst 1, 1) := by decide +kernel
theorem dX10_attendFor_17 : decode cX10_attendFor 17 = .ok (.goto 4, 3) := by decide +kernel
theorem dX10_attendFor_20 : decode cX10_attendFor 20 = .ok (.iconst 0, 1) := by decide +kernel
theorem dX10_attendFor_21 : decode cX10_attendFor 21 = .ok (.invokestatic 151, 3) := by decide +kernel
theorem dX10_attendFor_24 : decode cX10_attendFor 24 = .ok (.invokevirtual 90, 3) := by decide +kernel
theorem dX10_attendFor_27 : decode cX10_attendFor 27 = .ok (.ifCond .eq 5, 3) := by decide +kernel
theorem dX10_attendFor_30 : decode cX10_attendFor 30 = .ok (.iconst (-1), 1) := by decide +kernel
theorem dX10_attendFor_31 : decode cX10_attendFor 31 = .ok (.ireturn, 1) := by decide +kernel
theorem dX10_attendFor_32 : decode cX10_attendFor 32 = .ok (.aload_n 0, 1) := by decide +kernel
theorem dX10_attendFor_33 : decode cX10_attendFor 33 = .ok (.getfield 64, 3) := by decide +kernel
theorem dX10_attendFor_36 : decode cX10_attendFor 36 = .ok (.aload_n 0, 1) := by decide +kernel
theorem dX10_attendFor_37 : decode cX10_attendFor 37 = .ok (.getfield 35, 3) := by decide +kernel
theorem dX10_attendFor_40 : decode cX10_attendFor 40 = .ok (.iload_n 1, 1) := by decide +kernel
theorem dX10_attendFor_41 : decode cX10_attendFor 41 = .ok (.invokevirtual 229, 3) := by decide +kernel
theorem dX10_attendFor_44 : decode cX10_attendFor 44 = .ok (.ireturn, 1) := by decide +kernel
theorem dX10_stolenIf_0 : decode cX10_stolenIf 0 = .ok (.aload_n 0, 1) := by decide +kernel
theorem dX10_stolenIf_1 : decode cX10_stolenIf 1 = .ok (.aload_n 0, 1) := by decide +kernel
theorem dX10_stolenIf_2 : decode cX10_stolenIf 2 = .ok (.getfield 144, 3) := by decide +kernel
theorem dX10_stolenIf_5 : decode cX10_stolenIf 5 = .ok (.iload_n 1, 1) := by decide +kernel
theorem dX10_stolenIf_6 : decode cX10_stolenIf 6 = .ok (.ifCond .lt 23, 3) := by decide +kernel
theorem dX10_stolenIf_9 : decode cX10_stolenIf 9 = .ok (.iload_n 1, 1) := by decide +kernel
theorem dX10_stolenIf_10 : decode cX10_stolenIf 10 = .ok (.iconst 1, 1) := by decide +kernel
theorem dX10_stolenIf_11 : decode cX10_stolenIf 11 = .ok (.aload_n 0, 1) := by decide +kernel
theorem dX10_stolenIf_12 : decode cX10_stolenIf 12 = .ok (.getfield 16, 3) := by decide +kernel
theorem dX10_stolenIf_15 : decode cX10_stolenIf 15 = .ok (.getfield 104, 3) := by decide +kernel
theorem dX10_stolenIf_18 : decode cX10_stolenIf 18 = .ok (.getfield 108, 3) := by decide +kernel
theorem dX10_stolenIf_21 : decode cX10_stolenIf 21 = .ok (.ishl, 1) := by decide +kernel
theorem dX10_stolenIf_22 : decode cX10_stolenIf 22 = .ok (.if_icmp .ge 7, 3) := by decide +kernel
theorem dX10_stolenIf_25 : decode cX10_stolenIf 25 = .ok (.iconst 1, 1) := by decide +kernel
theorem dX10_stolenIf_26 : decode cX10_stolenIf 26 = .ok (.goto 4, 3) := by decide +kernel
theorem dX10_stolenIf_29 : decode cX10_stolenIf 29 = .ok (.iconst 0, 1) := by decide +kernel
theorem dX10_stolenIf_30 : decode cX10_stolenIf 30 = .ok (.invokestatic 151, 3) := by decide +kernel
theorem dX10_stolenIf_33 : decode cX10_stolenIf 33 = .ok (.invokevirtual 90, 3) := by decide +kernel
theorem dX10_stolenIf_36 : decode cX10_stolenIf 36 = .ok (.ifCond .eq 5, 3) := by decide +kernel
theorem dX10_stolenIf_39 : decode cX10_stolenIf 39 = .ok (.iconst (-1), 1) := by decide +kernel
theorem dX10_stolenIf_40 : decode cX10_stolenIf 40 = .ok (.ireturn, 1) := by decide +kernel
theorem dX10_stolenIf_41 : decode cX10_stolenIf 41 = .ok (.aload_n 0, 1) := by decide +kernel
theorem dX10_stolenIf_42 : decode cX10_stolenIf 42 = .ok (.getfield 64, 3) := by decide +kernel
theorem dX10_stolenIf_45 : decode cX10_stolenIf 45 = .ok (.aload_n 0, 1) := by decide +kernel
theorem dX10_stolenIf_46 : decode cX10_stolenIf 46 = .ok (.getfield 35, 3) := by decide +kernel
theorem dX10_stolenIf_49 : decode cX10_stolenIf 49 = .ok (.iload_n 1, 1) := by decide +kernel
theorem dX10_stolenIf_50 : decode cX10_stolenIf 50 = .ok (.invokevirtual 232, 3) := by decide +kernel
theorem dX10_stolenIf_53 : decode cX10_stolenIf 53 = .ok (.ireturn, 1) := by decide +kernel
theorem dX10_lookFirst_0 : decode cX10_lookFirst 0 = .ok (.aload_n 0, 1) := by decide +kernel
theorem dX10_lookFirst_1 : decode cX10_lookFirst 1 = .ok (.aload_n 0, 1) := by decide +kernel
theorem dX10_lookFirst_2 : decode cX10_lookFirst 2 = .ok (.invokevirtual 173, 3) := by decide +kernel
theorem dX10_lookFirst_5 : decode cX10_lookFirst 5 = .ok (.invokevirtual 90, 3) := by decide +kernel
theorem dX10_lookFirst_8 : decode cX10_lookFirst 8 = .ok (.ifCond .eq 5, 3) := by decide +kernel
theorem dX10_lookFirst_11 : decode cX10_lookFirst 11 = .ok (.iconst (-1), 1) := by decide +kernel
theorem dX10_lookFirst_12 : decode cX10_lookFirst 12 = .ok (.ireturn, 1) := by decide +kernel
theorem dX10_lookFirst_13 : decode cX10_lookFirst 13 = .ok (.aload_n 0, 1) := by decide +kernel
theorem dX10_lookFirst_14 : decode cX10_lookFirst 14 = .ok (.getfield 64, 3) := by decide +kernel
theorem dX10_lookFirst_17 : decode cX10_lookFirst 17 = .ok (.aload_n 0, 1) := by decide +kernel
theorem dX10_lookFirst_18 : decode cX10_lookFirst 18 = .ok (.getfield 35, 3) := by decide +kernel
theorem dX10_lookFirst_21 : decode cX10_lookFirst 21 = .ok (.invokevirtual 235, 3) := by decide +kernel
theorem dX10_lookFirst_24 : decode cX10_lookFirst 24 = .ok (.ireturn, 1) := by decide +kernel
theorem dX10_change_0 : decode cX10_change 0 = .ok (.aload_n 0, 1) := by decide +kernel
theorem dX10_change_1 : decode cX10_change 1 = .ok (.aload_n 0, 1) := by decide +kernel
theorem dX10_change_2 : decode cX10_change 2 = .ok (.invokevirtual 173, 3) := by decide +kernel
theorem dX10_change_5 : decode cX10_change 5 = .ok (.invokevirtual 90, 3) := by decide +kernel
theorem dX10_change_8 : decode cX10_change 8 = .ok (.ifCond .eq 5, 3) := by decide +kernel
theorem dX10_change_11 : decode cX10_change 11 = .ok (.iconst (-1), 1) := by decide +kernel
theorem dX10_change_12 : decode cX10_change 12 = .ok (.ireturn, 1) := by decide +kernel
theorem dX10_change_13 : decode cX10_change 13 = .ok (.iconst 0, 1) := by decide +kernel
theorem dX10_change_14 : decode cX10_change 14 = .ok (.istore_n 1, 1) := by decide +kernel
theorem dX10_change_15 : decode cX10_change 15 = .ok (.iload_n 1, 1) := by decide +kernel
theorem dX10_change_16 : decode cX10_change 16 = .ok (.aload_n 0, 1) := by decide +kernel
theorem dX10_change_17 : decode cX10_change 17 = .ok (.getfield 16, 3) := by decide +kernel
theorem dX10_change_20 : decode cX10_change 20 = .ok (.getfield 104, 3) := by decide +kernel
theorem dX10_change_23 : decode cX10_change 23 = .ok (.getfield 108, 3) := by decide +kernel
theorem dX10_change_26 : decode cX10_change 26 = .ok (.if_icmp .ge 45, 3) := by decide +kernel
theorem dX10_change_29 : decode cX10_change 29 = .ok (.iconst 0, 1) := by decide +kernel
theorem dX10_change_30 : decode cX10_change 30 = .ok (.istore_n 2, 1) := by decide +kernel
theorem dX10_change_31 : decode cX10_change 31 = .ok (.iload_n 2, 1) := by decide +kernel
theorem dX10_change_32 : decode cX10_change 32 = .ok (.iconst 4, 1) := by decide +kernel
theorem dX10_change_33 : decode cX10_change 33 = .ok (.if_icmp .ge 32, 3) := by decide +kernel
theorem dX10_change_36 : decode cX10_change 36 = .ok (.aload_n 0, 1) := by decide +kernel
theorem dX10_change_37 : decode cX10_change 37 = .ok (.getfield 71, 3) := by decide +kernel
theorem dX10_change_40 : decode cX10_change 40 = .ok (.aload_n 0, 1) := by decide +kernel
theorem dX10_change_41 : decode cX10_change 41 = .ok (.getfield 35, 3) := by decide +kernel
theorem dX10_change_44 : decode cX10_change 44 = .ok (.iload_n 1, 1) := by decide +kernel
theorem dX10_change_45 : decode cX10_change 45 = .ok (.iload_n 2, 1) := by decide +kernel
theorem dX10_change_46 : decode cX10_change 46 = .ok (.invokevirtual 238, 3) := by decide +kernel
theorem dX10_change_49 : decode cX10_change 49 = .ok (.ifCond .eq 10, 3) := by decide +kernel
theorem dX10_change_52 : decode cX10_change 52 = .ok (.bipush 10, 2) := by decide +kernel
theorem dX10_change_54 : decode cX10_change 54 = .ok (.iload_n 1, 1) := by decide +kernel
theorem dX10_change_55 : decode cX10_change 55 = .ok (.imul, 1) := by decide +kernel
theorem dX10_change_56 : decode cX10_change 56 = .ok (.iload_n 2, 1) := by decide +kernel
theorem dX10_change_57 : decode cX10_change 57 = .ok (.iadd, 1) := by decide +kernel
theorem dX10_change_58 : decode cX10_change 58 = .ok (.ireturn, 1) := by decide +kernel
theorem dX10_change_59 : decode cX10_change 59 = .ok (.iinc 2 1, 3) := by decide +kernel
theorem dX10_change_62 : decode cX10_change 62 = .ok (.goto (-31), 3) := by decide +kernel
theorem dX10_change_65 : decode cX10_change 65 = .ok (.iinc 1 1, 3) := by decide +kernel
theorem dX10_change_68 : decode cX10_change 68 = .ok (.goto (-53), 3) := by decide +kernel
theorem dX10_change_71 : decode cX10_change 71 = .ok (.bipush (-2), 2) := by decide +kernel
theorem dX10_change_73 : decode cX10_change 73 = .ok (.ireturn, 1) := by decide +kernel
theorem dX10_isCourse_0 : decode cX10_isCourse 0 = .ok (.iload_n 0, 1) := by decide +kernel
theorem dX10_isCourse_1 : decode cX10_isCourse 1 = .ok (.ifCond .lt 12, 3) := by decide +kernel
theorem dX10_isCourse_4 : decode cX10_isCourse 4 = .ok (.iload_n 0, 1) := by decide +kernel
theorem dX10_isCourse_5 : decode cX10_isCourse 5 = .ok (.iconst 4, 1) := by decide +kernel
theorem dX10_isCourse_6 : decode cX10_isCourse 6 = .ok (.if_icmp .ge 7, 3) := by decide +kernel
theorem dX10_isCourse_9 : decode cX10_isCourse 9 = .ok (.iconst 1, 1) := by decide +kernel
theorem dX10_isCourse_10 : decode cX10_isCourse 10 = .ok (.goto 4, 3) := by decide +kernel
theorem dX10_isCourse_13 : decode cX10_isCourse 13 = .ok (.iconst 0, 1) := by decide +kernel
theorem dX10_isCourse_14 : decode cX10_isCourse 14 = .ok (.ireturn, 1) := by decide +kernel
theorem dX10_strikesIf_0 : decode cX10_strikesIf 0 = .ok (.aload_n 0, 1) := by decide +kernel
theorem dX10_strikesIf_1 : decode cX10_strikesIf 1 = .ok (.aload_n 0, 1) := by decide +kernel
theorem dX10_strikesIf_2 : decode cX10_strikesIf 2 = .ok (.iload_n 1, 1) := by decide +kernel
theorem dX10_strikesIf_3 : decode cX10_strikesIf 3 = .ok (.invokevirtual 119, 3) := by decide +kernel
theorem dX10_strikesIf_6 : decode cX10_strikesIf 6 = .ok (.iload_n 2, 1) := by decide +kernel
theorem dX10_strikesIf_7 : decode cX10_strikesIf 7 = .ok (.invokestatic 242, 3) := by decide +kernel
theorem dX10_strikesIf_10 : decode cX10_strikesIf 10 = .ok (.invokestatic 151, 3) := by decide +kernel
theorem dX10_strikesIf_13 : decode cX10_strikesIf 13 = .ok (.invokevirtual 90, 3) := by decide +kernel
theorem dX10_strikesIf_16 : decode cX10_strikesIf 16 = .ok (.ifCond .eq 5, 3) := by decide +kernel
theorem dX10_strikesIf_19 : decode cX10_strikesIf 19 = .ok (.iconst (-1), 1) := by decide +kernel
theorem dX10_strikesIf_20 : decode cX10_strikesIf 20 = .ok (.ireturn, 1) := by decide +kernel
theorem dX10_strikesIf_21 : decode cX10_strikesIf 21 = .ok (.aload_n 0, 1) := by decide +kernel
theorem dX10_strikesIf_22 : decode cX10_strikesIf 22 = .ok (.getfield 55, 3) := by decide +kernel
theorem dX10_strikesIf_25 : decode cX10_strikesIf 25 = .ok (.aload_n 0, 1) := by decide +kernel
theorem dX10_strikesIf_26 : decode cX10_strikesIf 26 = .ok (.getfield 35, 3) := by decide +kernel
theorem dX10_strikesIf_29 : decode cX10_strikesIf 29 = .ok (.invokevirtual 245, 3) := by decide +kernel
theorem dX10_strikesIf_32 : decode cX10_strikesIf 32 = .ok (.astore_n 3, 1) := by decide +kernel
theorem dX10_strikesIf_33 : decode cX10_strikesIf 33 = .ok (.aload_n 3, 1) := by decide +kernel
theorem dX10_strikesIf_34 : decode cX10_strikesIf 34 = .ok (.getfield 122, 3) := by decide +kernel
theorem dX10_strikesIf_37 : decode cX10_strikesIf 37 = .ok (.iload_n 1, 1) := by decide +kernel
theorem dX10_strikesIf_38 : decode cX10_strikesIf 38 = .ok (.iconst 1, 1) := by decide +kernel
theorem dX10_strikesIf_39 : decode cX10_strikesIf 39 = .ok (.iload_n 2, 1) := by decide +kernel
theorem dX10_strikesIf_40 : decode cX10_strikesIf 40 = .ok (.invokevirtual 249, 3) := by decide +kernel
theorem dX10_strikesIf_43 : decode cX10_strikesIf 43 = .ok (.aload_n 0, 1) := by decide +kernel
theorem dX10_strikesIf_44 : decode cX10_strikesIf 44 = .ok (.getfield 55, 3) := by decide +kernel
theorem dX10_strikesIf_47 : decode cX10_strikesIf 47 = .ok (.aload_n 3, 1) := by decide +kernel
theorem dX10_strikesIf_48 : decode cX10_strikesIf 48 = .ok (.invokevirtual 166, 3) := by decide +kernel
theorem dX10_strikesIf_51 : decode cX10_strikesIf 51 = .ok (.aload_n 0, 1) := by decide +kernel
theorem dX10_strikesIf_52 : decode cX10_strikesIf 52 = .ok (.getfield 55, 3) := by decide +kernel
theorem dX10_strikesIf_55 : decode cX10_strikesIf 55 = .ok (.aload_n 3, 1) := by decide +kernel
theorem dX10_strikesIf_56 : decode cX10_strikesIf 56 = .ok (.iconst 0, 1) := by decide +kernel
theorem dX10_strikesIf_57 : decode cX10_strikesIf 57 = .ok (.invokevirtual 218, 3) := by decide +kernel
theorem dX10_strikesIf_60 : decode cX10_strikesIf 60 = .ok (.ireturn, 1) := by decide +kernel
theorem dX10_relief_0 : decode cX10_relief 0 = .ok (.aload_n 0, 1) := by decide +kernel
theorem dX10_relief_1 : decode cX10_relief 1 = .ok (.aload_n 0, 1) := by decide +kernel
theorem dX10_relief_2 : decode cX10_relief 2 = .ok (.iload_n 1, 1) := by decide +kernel
theorem dX10_relief_3 : decode cX10_relief 3 = .ok (.invokevirtual 119, 3) := by decide +kernel
theorem dX10_relief_6 : decode cX10_relief 6 = .ok (.ifCond .eq 7, 3) := by decide +kernel
theorem dX10_relief_9 : decode cX10_relief 9 = .ok (.iconst 0, 1) := by decide +kernel
theorem dX10_relief_10 : decode cX10_relief 10 = .ok (.goto 4, 3) := by decide +kernel
theorem dX10_relief_13 : decode cX10_relief 13 = .ok (.iconst 1, 1) := by decide +kernel
theorem dX10_relief_14 : decode cX10_relief 14 = .ok (.invokevirtual 90, 3) := by decide +kernel
theorem dX10_relief_17 : decode cX10_relief 17 = .ok (.ifCond .eq 5, 3) := by decide +kernel
theorem dX10_relief_20 : decode cX10_relief 20 = .ok (.iconst (-1), 1) := by decide +kernel
theorem dX10_relief_21 : decode cX10_relief 21 = .ok (.ireturn, 1) := by decide +kernel
theorem dX10_relief_22 : decode cX10_relief 22 = .ok (.aload_n 0, 1) := by decide +kernel
theorem dX10_relief_23 : decode cX10_relief 23 = .ok (.getfield 55, 3) := by decide +kernel
theorem dX10_relief_26 : decode cX10_relief 26 = .ok (.aload_n 0, 1) := by decide +kernel
theorem dX10_relief_27 : decode cX10_relief 27 = .ok (.getfield 35, 3) := by decide +kernel
theorem dX10_relief_30 : decode cX10_relief 30 = .ok (.invokevirtual 245, 3) := by decide +kernel
theorem dX10_relief_33 : decode cX10_relief 33 = .ok (.astore_n 2, 1) := by decide +kernel
theorem dX10_relief_34 : decode cX10_relief 34 = .ok (.iconst (-1), 1) := by decide +kernel
theorem dX10_relief_35 : decode cX10_relief 35 = .ok (.istore_n 3, 1) := by decide +kernel
theorem dX10_relief_36 : decode cX10_relief 36 = .ok (.iconst 0, 1) := by decide +kernel
theorem dX10_relief_37 : decode cX10_relief 37 = .ok (.istore 4, 2) := by decide +kernel
theorem dX10_relief_39 : decode cX10_relief 39 = .ok (.iconst 0, 1) := by decide +kernel
theorem dX10_relief_40 : decode cX10_relief 40 = .ok (.istore 5, 2) := by decide +kernel
theorem dX10_relief_42 : decode cX10_relief 42 = .ok (.iload 5, 2) := by decide +kernel
theorem dX10_relief_44 : decode cX10_relief 44 = .ok (.aload_n 0, 1) := by decide +kernel
theorem dX10_relief_45 : decode cX10_relief 45 = .ok (.getfield 16, 3) := by decide +kernel
theorem dX10_relief_48 : decode cX10_relief 48 = .ok (.getfield 134, 3) := by decide +kernel
theorem dX10_relief_51 : decode cX10_relief 51 = .ok (.getfield 108, 3) := by decide +kernel
theorem dX10_relief_54 : decode cX10_relief 54 = .ok (.if_icmp .ge 50, 3) := by decide +kernel
theorem dX10_relief_57 : decode cX10_relief 57 = .ok (.aload_n 2, 1) := by decide +kernel
theorem dX10_relief_58 : decode cX10_relief 58 = .ok (.getfield 122, 3) := by decide +kernel
theorem dX10_relief_61 : decode cX10_relief 61 = .ok (.iload_n 1, 1) := by decide +kernel
theorem dX10_relief_62 : decode cX10_relief 62 = .ok (.iconst 0, 1) := by decide +kernel
theorem dX10_relief_63 : decode cX10_relief 63 = .ok (.iload 5, 2) := by decide +kernel
theorem dX10_relief_65 : decode cX10_relief 65 = .ok (.invokevirtual 249, 3) := by decide +kernel
theorem dX10_relief_68 : decode cX10_relief 68 = .ok (.aload_n 0, 1) := by decide +kernel
theorem dX10_relief_69 : decode cX10_relief 69 = .ok (.getfield 55, 3) := by decide +kernel
theorem dX10_relief_72 : decode cX10_relief 72 = .ok (.aload_n 2, 1) := by decide +kernel
theorem dX10_relief_73 : decode cX10_relief 73 = .ok (.iload_n 1, 1) := by decide +kernel
theorem dX10_relief_74 : decode cX10_relief 74 = .ok (.invokevirtual 159, 3) := by decide +kernel
theorem dX10_relief_77 : decode cX10_relief 77 = .ok (.istore 6, 2) := by decide +kernel
theorem dX10_relief_79 : decode cX10_relief 79 = .ok (.iload_n 3, 1) := by decide +kernel
theorem dX10_relief_80 : decode cX10_relief 80 = .ok (.iconst (-1), 1) := by decide +kernel
theorem dX10_relief_81 : decode cX10_relief 81 = .ok (.if_icmp .eq 10, 3) := by decide +kernel
theorem dX10_relief_84 : decode cX10_relief 84 = .ok (.iload 6, 2) := by decide +kernel
theorem dX10_relief_86 : decode cX10_relief 86 = .ok (.iload 4, 2) := by decide +kernel
theorem dX10_relief_88 : decode cX10_relief 88 = .ok (.if_icmp .ge 10, 3) := by decide +kernel
theorem dX10_relief_91 : decode cX10_relief 91 = .ok (.iload 5, 2) := by decide +kernel
theorem dX10_relief_93 : decode cX10_relief 93 = .ok (.istore_n 3, 1) := by decide +kernel
theorem dX10_relief_94 : decode cX10_relief 94 = .ok (.iload 6, 2) := by decide +kernel
theorem dX10_relief_96 : decode cX10_relief 96 = .ok (.istore 4, 2) := by decide +kernel
theorem dX10_relief_98 : decode cX10_relief 98 = .ok (.iinc 5 1, 3) := by decide +kernel
theorem dX10_relief_101 : decode cX10_relief 101 = .ok (.goto (-59), 3) := by decide +kernel
theorem dX10_relief_104 : decode cX10_relief 104 = .ok (.iload_n 3, 1) := by decide +kernel
theorem dX10_relief_105 : decode cX10_relief 105 = .ok (.ireturn, 1) := by decide +kernel
theorem dX10_fits_0 : decode cX10_fits 0 = .ok (.aload_n 0, 1) := by decide +kernel
theorem dX10_fits_1 : decode cX10_fits 1 = .ok (.aload_n 0, 1) := by decide +kernel
theorem dX10_fits_2 : decode cX10_fits 2 = .ok (.invokevirtual 173, 3) := by decide +kernel
theorem dX10_fits_5 : decode cX10_fits 5 = .ok (.invokevirtual 90, 3) := by decide +kernel
theorem dX10_fits_8 : decode cX10_fits 8 = .ok (.ifCond .eq 5, 3) := by decide +kernel
theorem dX10_fits_11 : decode cX10_fits 11 = .ok (.iconst (-1), 1) := by decide +kernel
theorem dX10_fits_12 : decode cX10_fits 12 = .ok (.ireturn, 1) := by decide +kernel
theorem dX10_fits_13 : decode cX10_fits 13 = .ok (.aload_n 0, 1) := by decide +kernel
theorem dX10_fits_14 : decode cX10_fits 14 = .ok (.getfield 71, 3) := by decide +kernel
theorem dX10_fits_17 : decode cX10_fits 17 = .ok (.invokevirtual 253, 3) := by decide +kernel
theorem dX10_fits_20 : decode cX10_fits 20 = .ok (.invokestatic 256, 3) := by decide +kernel
theorem dX10_fits_23 : decode cX10_fits 23 = .ok (.ireturn, 1) := by decide +kernel
theorem dX10_fitAt_0 : decode cX10_fitAt 0 = .ok (.aload_n 0, 1) := by decide +kernel
theorem dX10_fitAt_1 : decode cX10_fitAt 1 = .ok (.getfield 144, 3) := by decide +kernel
theorem dX10_fitAt_4 : decode cX10_fitAt 4 = .ok (.ifCond .eq 21, 3) := by decide +kernel
theorem dX10_fitAt_7 : decode cX10_fitAt 7 = .ok (.aload_n 0, 1) := by decide +kernel
theorem dX10_fitAt_8 : decode cX10_fitAt 8 = .ok (.getfield 71, 3) := by decide +kernel
theorem dX10_fitAt_11 : decode cX10_fitAt 11 = .ok (.aload_n 0, 1) := by decide +kernel
theorem dX10_fitAt_12 : decode cX10_fitAt 12 = .ok (.getfield 71, 3) := by decide +kernel
theorem dX10_fitAt_15 : decode cX10_fitAt 15 = .ok (.invokevirtual 253, 3) := by decide +kernel
theorem dX10_fitAt_18 : decode cX10_fitAt 18 = .ok (.iload_n 1, 1) := by decide +kernel
theorem dX10_fitAt_19 : decode cX10_fitAt 19 = .ok (.invokevirtual 261, 3) := by decide +kernel
theorem dX10_fitAt_22 : decode cX10_fitAt 22 = .ok (.goto 4, 3) := by decide +kernel
theorem dX10_fitAt_25 : decode cX10_fitAt 25 = .ok (.iconst (-1), 1) := by decide +kernel
theorem dX10_fitAt_26 : decode cX10_fitAt 26 = .ok (.istore_n 2, 1) := by decide +kernel
theorem dX10_fitAt_27 : decode cX10_fitAt 27 = .ok (.aload_n 0, 1) := by decide +kernel
theorem dX10_fitAt_28 : decode cX10_fitAt 28 = .ok (.iload_n 2, 1) := by decide +kernel
theorem dX10_fitAt_29 : decode cX10_fitAt 29 = .ok (.iconst (-1), 1) := by decide +kernel
theorem dX10_fitAt_30 : decode cX10_fitAt 30 = .ok (.if_icmp .ne 7, 3) := by decide +kernel
theorem dX10_fitAt_33 : decode cX10_fitAt 33 = .ok (.iconst 1, 1) := by decide +kernel
theorem dX10_fitAt_34 : decode cX10_fitAt 34 = .ok (.goto 4, 3) := by decide +kernel
theorem dX10_fitAt_37 : decode cX10_fitAt 37 = .ok (.iconst 0, 1) := by decide +kernel
theorem dX10_fitAt_38 : decode cX10_fitAt 38 = .ok (.invokevirtual 90, 3) := by decide +kernel
theorem dX10_fitAt_41 : decode cX10_fitAt 41 = .ok (.ifCond .eq 7, 3) := by decide +kernel
theorem dX10_fitAt_44 : decode cX10_fitAt 44 = .ok (.iconst (-1), 1) := by decide +kernel
theorem dX10_fitAt_45 : decode cX10_fitAt 45 = .ok (.goto 4, 3) := by decide +kernel
theorem dX10_fitAt_48 : decode cX10_fitAt 48 = .ok (.iload_n 2, 1) := by decide +kernel
theorem dX10_fitAt_49 : decode cX10_fitAt 49 = .ok (.ireturn, 1) := by decide +kernel
theorem dX10_could_0 : decode cX10_could 0 = .ok (.aload_n 0, 1) := by decide +kernel
theorem dX10_could_1 : decode cX10_could 1 = .ok (.aload_n 0, 1) := by decide +kernel
theorem dX10_could_2 : decode cX10_could 2 = .ok (.invokevirtual 173, 3) := by decide +kernel
theorem dX10_could_5 : decode cX10_could 5 = .ok (.invokevirtual 90, 3) := by decide +kernel
theorem dX10_could_8 : decode cX10_could 8 = .ok (.ifCond .eq 5, 3) := by decide +kernel
theorem dX10_could_11 : decode cX10_could 11 = .ok (.iconst (-1), 1) := by decide +kernel
theorem dX10_could_12 : decode cX10_could 12 = .ok (.ireturn, 1) := by decide +kernel
theorem dX10_could_13 : decode cX10_could 13 = .ok (.aload_n 0, 1) := by decide +kernel
theorem dX10_could_14 : decode cX10_could 14 = .ok (.getfield 71, 3) := by decide +kernel
theorem dX10_could_17 : decode cX10_could 17 = .ok (.aload_n 0, 1) := by decide +kernel
theorem dX10_could_18 : decode cX10_could 18 = .ok (.getfield 71, 3) := by decide +kernel
theorem dX10_could_21 : decode cX10_could 21 = .ok (.invokevirtual 253, 3) := by decide +kernel
theorem dX10_could_24 : decode cX10_could 24 = .ok (.invokevirtual 264, 3) := by decide +kernel
theorem dX10_could_27 : decode cX10_could 27 = .ok (.ireturn, 1) := by decide +kernel
theorem dX10_surely_0 : decode cX10_surely 0 = .ok (.aload_n 0, 1) := by decide +kernel
theorem dX10_surely_1 : decode cX10_surely 1 = .ok (.aload_n 0, 1) := by decide +kernel
theorem dX10_surely_2 : decode cX10_surely 2 = .ok (.invokevirtual 173, 3) := by decide +kernel
theorem dX10_surely_5 : decode cX10_surely 5 = .ok (.invokevirtual 90, 3) := by decide +kernel
theorem dX10_surely_8 : decode cX10_surely 8 = .ok (.ifCond .eq 5, 3) := by decide +kernel
theorem dX10_surely_11 : decode cX10_surely 11 = .ok (.iconst (-1), 1) := by decide +kernel
theorem dX10_surely_12 : decode cX10_surely 12 = .ok (.ireturn, 1) := by decide +kernel
theorem dX10_surely_13 : decode cX10_surely 13 = .ok (.aload_n 0, 1) := by decide +kernel
theorem dX10_surely_14 : decode cX10_surely 14 = .ok (.getfield 71, 3) := by decide +kernel
theorem dX10_surely_17 : decode cX10_surely 17 = .ok (.aload_n 0, 1) := by decide +kernel
theorem dX10_surely_18 : decode cX10_surely 18 = .ok (.getfield 71, 3) := by decide +kernel
theorem dX10_surely_21 : decode cX10_surely 21 = .ok (.invokevirtual 253, 3) := by decide +kernel
theorem dX10_surely_24 : decode cX10_surely 24 = .ok (.invokevirtual 267, 3) := by decide +kernel
theorem dX10_surely_27 : decode cX10_surely 27 = .ok (.ireturn, 1) := by decide +kernel
theorem dX10_fix_0 : decode cX10_fix 0 = .ok (.aload_n 0, 1) := by decide +kernel
theorem dX10_fix_1 : decode cX10_fix 1 = .ok (.aload_n 0, 1) := by decide +kernel
theorem dX10_fix_2 : decode cX10_fix 2 = .ok (.invokevirtual 173, 3) := by decide +kernel
theorem dX10_fix_5 : decode cX10_fix 5 = .ok (.invokevirtual 90, 3) := by decide +kernel
theorem dX10_fix_8 : decode cX10_fix 8 = .ok (.ifCond .eq 5, 3) := by decide +kernel
theorem dX10_fix_11 : decode cX10_fix 11 = .ok (.iconst (-1), 1) := by decide +kernel
theorem dX10_fix_12 : decode cX10_fix 12 = .ok (.ireturn, 1) := by decide +kernel
theorem dX10_fix_13 : decode cX10_fix 13 = .ok (.aload_n 0, 1) := by decide +kernel
theorem dX10_fix_14 : decode cX10_fix 14 = .ok (.getfield 71, 3) := by decide +kernel
theorem dX10_fix_17 : decode cX10_fix 17 = .ok (.aload_n 0, 1) := by decide +kernel
theorem dX10_fix_18 : decode cX10_fix 18 = .ok (.getfield 71, 3) := by decide +kernel
theorem dX10_fix_21 : decode cX10_fix 21 = .ok (.invokevirtual 253, 3) := by decide +kernel
theorem dX10_fix_24 : decode cX10_fix 24 = .ok (.invokevirtual 270, 3) := by decide +kernel
theorem dX10_fix_27 : decode cX10_fix 27 = .ok (.ireturn, 1) := by decide +kernel
theorem dX10_fixLeaves_0 : decode cX10_fixLeaves 0 = .ok (.aload_n 0, 1) := by decide +kernel
theorem dX10_fixLeaves_1 : decode cX10_fixLeaves 1 = .ok (.aload_n 0, 1) := by decide +kernel
theorem dX10_fixLeaves_2 : decode cX10_fixLeaves 2 = .ok (.invokevirtual 173, 3) := by decide +kernel
theorem dX10_fixLeaves_5 : decode cX10_fixLeaves 5 = .ok (.invokevirtual 90, 3) := by decide +kernel
theorem dX10_fixLeaves_8 : decode cX10_fixLeaves 8 = .ok (.ifCond .eq 5, 3) := by decide +kernel
theorem dX10_fixLeaves_11 : decode cX10_fixLeaves 11 = .ok (.iconst (-1), 1) := by decide +kernel
theorem dX10_fixLeaves_12 : decode cX10_fixLeaves 12 = .ok (.ireturn, 1) := by decide +kernel
theorem dX10_fixLeaves_13 : decode cX10_fixLeaves 13 = .ok (.aload_n 0, 1) := by decide +kernel
theorem dX10_fixLeaves_14 : decode cX10_fixLeaves 14 = .ok (.getfield 71, 3) := by decide +kernel
theorem dX10_fixLeaves_17 : decode cX10_fixLeaves 17 = .ok (.invokevirtual 253, 3) := by decide +kernel
theorem dX10_fixLeaves_20 : decode cX10_fixLeaves 20 = .ok (.istore_n 1, 1) := by decide +kernel
theorem dX10_fixLeaves_21 : decode cX10_fixLeaves 21 = .ok (.iload_n 1, 1) := by decide +kernel
theorem dX10_fixLeaves_22 : decode cX10_fixLeaves 22 = .ok (.ifCond .ne 8, 3) := by decide +kernel
theorem dX10_fixLeaves_25 : decode cX10_fixLeaves 25 = .ok (.bipush (-2), 2) := by decide +kernel
theorem dX10_fixLeaves_27 : decode cX10_fixLeaves 27 = .ok (.goto 19, 3) := by decide +kernel
theorem dX10_fixLeaves_30 : decode cX10_fixLeaves 30 = .ok (.aload_n 0, 1) := by decide +kernel
theorem dX10_fixLeaves_31 : decode cX10_fixLeaves 31 = .ok (.getfield 71, 3) := by decide +kernel
theorem dX10_fixLeaves_34 : decode cX10_fixLeaves 34 = .ok (.iload_n 1, 1) := by decide +kernel
theorem dX10_fixLeaves_35 : decode cX10_fixLeaves 35 = .ok (.aload_n 0, 1) := by decide +kernel
theorem dX10_fixLeaves_36 : decode cX10_fixLeaves 36 = .ok (.getfield 71, 3) := by decide +kernel
theorem dX10_fixLeaves_39 : decode cX10_fixLeaves 39 = .ok (.iload_n 1, 1) := by decide +kernel
theorem dX10_fixLeaves_40 : decode cX10_fixLeaves 40 = .ok (.invokevirtual 270, 3) := by decide +kernel
theorem dX10_fixLeaves_43 : decode cX10_fixLeaves 43 = .ok (.invokevirtual 273, 3) := by decide +kernel
theorem dX10_fixLeaves_46 : decode cX10_fixLeaves 46 = .ok (.ireturn, 1) := by decide +kernel
theorem dX10_judge_0 : decode cX10_judge 0 = .ok (.aload_n 0, 1) := by decide +kernel
theorem dX10_judge_1 : decode cX10_judge 1 = .ok (.aload_n 0, 1) := by decide +kernel
theorem dX10_judge_2 : decode cX10_judge 2 = .ok (.invokevirtual 173, 3) := by decide +kernel
theorem dX10_judge_5 : decode cX10_judge 5 = .ok (.invokevirtual 90, 3) := by decide +kernel
theorem dX10_judge_8 : decode cX10_judge 8 = .ok (.ifCond .eq 5, 3) := by decide +kernel
theorem dX10_judge_11 : decode cX10_judge 11 = .ok (.iconst (-1), 1) := by decide +kernel
theorem dX10_judge_12 : decode cX10_judge 12 = .ok (.ireturn, 1) := by decide +kernel
theorem dX10_judge_13 : decode cX10_judge 13 = .ok (.aload_n 0, 1) := by decide +kernel
theorem dX10_judge_14 : decode cX10_judge 14 = .ok (.getfield 71, 3) := by decide +kernel
theorem dX10_judge_17 : decode cX10_judge 17 = .ok (.iconst 0, 1) := by decide +kernel
theorem dX10_judge_18 : decode cX10_judge 18 = .ok (.invokevirtual 276, 3) := by decide +kernel
theorem dX10_judge_21 : decode cX10_judge 21 = .ok (.ireturn, 1) := by decide +kernel
theorem dX10_odds_0 : decode cX10_odds 0 = .ok (.aload_n 0, 1) := by decide +kernel
theorem dX10_odds_1 : decode cX10_odds 1 = .ok (.iload_n 1, 1) := by decide +kernel
theorem dX10_odds_2 : decode cX10_odds 2 = .ok (.invokevirtual 162, 3) := by decide +kernel
theorem dX10_odds_5 : decode cX10_odds 5 = .ok (.istore 4, 2) := by decide +kernel
theorem dX10_odds_7 : decode cX10_odds 7 = .ok (.iload_n 2, 1) := by decide +kernel
theorem dX10_odds_8 : decode cX10_odds 8 = .ok (.ifCond .lt 14, 3) := by decide +kernel
theorem dX10_odds_11 : decode cX10_odds 11 = .ok (.iload_n 2, 1) := by decide +kernel
theorem dX10_odds_12 : decode cX10_odds 12 = .ok (.sipush 30000, 3) := by decide +kernel
theorem dX10_odds_15 : decode cX10_odds 15 = .ok (.if_icmp .gt 7, 3) := by decide +kernel
theorem dX10_odds_18 : decode cX10_odds 18 = .ok (.iconst 1, 1) := by decide +kernel
theorem dX10_odds_19 : decode cX10_odds 19 = .ok (.goto 4, 3) := by decide +kernel
theorem dX10_odds_22 : decode cX10_odds 22 = .ok (.iconst 0, 1) := by decide +kernel
theorem dX10_odds_23 : decode cX10_odds 23 = .ok (.istore 5, 2) := by decide +kernel
theorem dX10_odds_25 : decode cX10_odds 25 = .ok (.aload_n 0, 1) := by decide +kernel
theorem dX10_odds_26 : decode cX10_odds 26 = .ok (.iload 4, 2) := by decide +kernel
theorem dX10_odds_28 : decode cX10_odds 28 = .ok (.ifCond .ne 12, 3) := by decide +kernel
theorem dX10_odds_31 : decode cX10_odds 31 = .ok (.iload 5, 2) := by decide +kernel
theorem dX10_odds_33 : decode cX10_odds 33 = .ok (.ifCond .ne 7, 3) := by decide +kernel
theorem dX10_odds_36 : decode cX10_odds 36 = .ok (.iconst 2, 1) := by decide +kernel
theorem dX10_odds_37 : decode cX10_odds 37 = .ok (.goto 5, 3) := by decide +kernel
theorem dX10_odds_40 : decode cX10_odds 40 = .ok (.iload 4, 2) := by decide +kernel
theorem dX10_odds_42 : decode cX10_odds 42 = .ok (.invokevirtual 90, 3) := by decide +kernel
theorem dX10_odds_45 : decode cX10_odds 45 = .ok (.ifCond .eq 7, 3) := by decide +kernel
theorem dX10_odds_48 : decode cX10_odds 48 = .ok (.ldc2_w 279, 3) := by decide +kernel
theorem dX10_odds_51 : decode cX10_odds 51 = .ok (.lreturn, 1) := by decide +kernel
theorem dX10_odds_52 : decode cX10_odds 52 = .ok (.aload_n 0, 1) := by decide +kernel
theorem dX10_odds_53 : decode cX10_odds 53 = .ok (.getfield 78, 3) := by decide +kernel
theorem dX10_odds_56 : decode cX10_odds 56 = .ok (.aload_n 0, 1) := by decide +kernel
theorem dX10_odds_57 : decode cX10_odds 57 = .ok (.getfield 35, 3) := by decide +kernel
theorem dX10_odds_60 : decode cX10_odds 60 = .ok (.iload_n 1, 1) := by decide +kernel
theorem dX10_odds_61 : decode cX10_odds 61 = .ok (.iload_n 2, 1) := by decide +kernel
theorem dX10_odds_62 : decode cX10_odds 62 = .ok (.invokevirtual 281, 3) := by decide +kernel
theorem dX10_odds_65 : decode cX10_odds 65 = .ok (.iload_n 3, 1) := by decide +kernel
theorem dX10_odds_66 : decode cX10_odds 66 = .ok (.ifCond .eq 13, 3) := by decide +kernel
theorem dX10_odds_69 : decode cX10_odds 69 = .ok (.aload_n 0, 1) := by decide +kernel
theorem dX10_odds_70 : decode cX10_odds 70 = .ok (.getfield 78, 3) := by decide +kernel
theorem dX10_odds_73 : decode cX10_odds 73 = .ok (.getfield 284, 3) := by decide +kernel
theorem dX10_odds_76 : decode cX10_odds 76 = .ok (.goto 10, 3) := by decide +kernel
theorem dX10_odds_79 : decode cX10_odds 79 = .ok (.aload_n 0, 1) := by decide +kernel
theorem dX10_odds_80 : decode cX10_odds 80 = .ok (.getfield 78, 3) := by decide +kernel
theorem dX10_odds_83 : decode cX10_odds 83 = .ok (.getfield 288, 3) := by decide +kernel
theorem dX10_odds_86 : decode cX10_odds 86 = .ok (.lreturn, 1) := by decide +kernel
theorem dX10_mean_0 : decode cX10_mean 0 = .ok (.aload_n 0, 1) := by decide +kernel
theorem dX10_mean_1 : decode cX10_mean 1 = .ok (.aload_n 0, 1) := by decide +kernel
theorem dX10_mean_2 : decode cX10_mean 2 = .ok (.iload_n 1, 1) := by decide +kernel
theorem dX10_mean_3 : decode cX10_mean 3 = .ok (.invokevirtual 162, 3) := by decide +kernel
theorem dX10_mean_6 : decode cX10_mean 6 = .ok (.invokevirtual 90, 3) := by decide +kernel
theorem dX10_mean_9 : decode cX10_mean 9 = .ok (.ifCond .eq 7, 3) := by decide +kernel
theorem dX10_mean_12 : decode cX10_mean 12 = .ok (.ldc2_w 279, 3) := by decide +kernel
theorem dX10_mean_15 : decode cX10_mean 15 = .ok (.lreturn, 1) := by decide +kernel
theorem dX10_mean_16 : decode cX10_mean 16 = .ok (.aload_n 0, 1) := by decide +kernel
theorem dX10_mean_17 : decode cX10_mean 17 = .ok (.getfield 78, 3) := by decide +kernel
theorem dX10_mean_20 : decode cX10_mean 20 = .ok (.aload_n 0, 1) := by decide +kernel
theorem dX10_mean_21 : decode cX10_mean 21 = .ok (.getfield 35, 3) := by decide +kernel
theorem dX10_mean_24 : decode cX10_mean 24 = .ok (.iload_n 1, 1) := by decide +kernel
theorem dX10_mean_25 : decode cX10_mean 25 = .ok (.invokevirtual 291, 3) := by decide +kernel
theorem dX10_mean_28 : decode cX10_mean 28 = .ok (.iload_n 2, 1) := by decide +kernel
theorem dX10_mean_29 : decode cX10_mean 29 = .ok (.ifCond .eq 13, 3) := by decide +kernel
theorem dX10_mean_32 : decode cX10_mean 32 = .ok (.aload_n 0, 1) := by decide +kernel
theorem dX10_mean_33 : decode cX10_mean 33 = .ok (.getfield 78, 3) := by decide +kernel
theorem dX10_mean_36 : decode cX10_mean 36 = .ok (.getfield 284, 3) := by decide +kernel
theorem dX10_mean_39 : decode cX10_mean 39 = .ok (.goto 10, 3) := by decide +kernel
theorem dX10_mean_42 : decode cX10_mean 42 = .ok (.aload_n 0, 1) := by decide +kernel
theorem dX10_mean_43 : decode cX10_mean 43 = .ok (.getfield 78, 3) := by decide +kernel
theorem dX10_mean_46 : decode cX10_mean 46 = .ok (.getfield 288, 3) := by decide +kernel
theorem dX10_mean_49 : decode cX10_mean 49 = .ok (.lreturn, 1) := by decide +kernel
theorem dX10_dearest_0 : decode cX10_dearest 0 = .ok (.aload_n 0, 1) := by decide +kernel
theorem dX10_dearest_1 : decode cX10_dearest 1 = .ok (.aload_n 0, 1) := by decide +kernel
theorem dX10_dearest_2 : decode cX10_dearest 2 = .ok (.invokevirtual 173, 3) := by decide +kernel
theorem dX10_dearest_5 : decode cX10_dearest 5 = .ok (.invokevirtual 90, 3) := by decide +kernel
theorem dX10_dearest_8 : decode cX10_dearest 8 = .ok (.ifCond .eq 5, 3) := by decide +kernel
theorem dX10_dearest_11 : decode cX10_dearest 11 = .ok (.iconst (-1), 1) := by decide +kernel
theorem dX10_dearest_12 : decode cX10_dearest 12 = .ok (.ireturn, 1) := by decide +kernel
theorem dX10_dearest_13 : decode cX10_dearest 13 = .ok (.aload_n 0, 1) := by decide +kernel
theorem dX10_dearest_14 : decode cX10_dearest 14 = .ok (.getfield 78, 3) := by decide +kernel
theorem dX10_dearest_17 : decode cX10_dearest 17 = .ok (.aload_n 0, 1) := by decide +kernel
theorem dX10_dearest_18 : decode cX10_dearest 18 = .ok (.getfield 35, 3) := by decide +kernel
theorem dX10_dearest_21 : decode cX10_dearest 21 = .ok (.invokevirtual 295, 3) := by decide +kernel
theorem dX10_dearest_24 : decode cX10_dearest 24 = .ok (.ireturn, 1) := by decide +kernel
theorem dX10_isPort_0 : decode cX10_isPort 0 = .ok (.iload_n 0, 1) := by decide +kernel
theorem dX10_isPort_1 : decode cX10_isPort 1 = .ok (.ifCond .lt 13, 3) := by decide +kernel
theorem dX10_isPort_4 : decode cX10_isPort 4 = .ok (.iload_n 0, 1) := by decide +kernel
theorem dX10_isPort_5 : decode cX10_isPort 5 = .ok (.bipush 9, 2) := by decide +kernel
theorem dX10_isPort_7 : decode cX10_isPort 7 = .ok (.if_icmp .gt 7, 3) := by decide +kernel
theorem dX10_isPort_10 : decode cX10_isPort 10 = .ok (.iconst 1, 1) := by decide +kernel
theorem dX10_isPort_11 : decode cX10_isPort 11 = .ok (.goto 4, 3) := by decide +kernel
theorem dX10_isPort_14 : decode cX10_isPort 14 = .ok (.iconst 0, 1) := by decide +kernel
theorem dX10_isPort_15 : decode cX10_isPort 15 = .ok (.ireturn, 1) := by decide +kernel
theorem dX10_shareOf_0 : decode cX10_shareOf 0 = .ok (.iload_n 1, 1) := by decide +kernel
theorem dX10_shareOf_1 : decode cX10_shareOf 1 = .ok (.ifCond .eq 15, 3) := by decide +kernel
theorem dX10_shareOf_4 : decode cX10_shareOf 4 = .ok (.iload_n 2, 1) := by decide +kernel
theorem dX10_shareOf_5 : decode cX10_shareOf 5 = .ok (.ifCond .eq 9, 3) := by decide +kernel
theorem dX10_shareOf_8 : decode cX10_shareOf 8 = .ok (.iconst 3, 1) := by decide +kernel
theorem dX10_shareOf_9 : decode cX10_shareOf 9 = .ok (.iload_n 0, 1) := by decide +kernel
theorem dX10_shareOf_10 : decode cX10_shareOf 10 = .ok (.isub, 1) := by decide +kernel
theorem dX10_shareOf_11 : decode cX10_shareOf 11 = .ok (.goto 4, 3) := by decide +kernel
theorem dX10_shareOf_14 : decode cX10_shareOf 14 = .ok (.iconst 2, 1) := by decide +kernel
theorem dX10_shareOf_15 : decode cX10_shareOf 15 = .ok (.ireturn, 1) := by decide +kernel
theorem dX10_shareOf_16 : decode cX10_shareOf 16 = .ok (.iload_n 2, 1) := by decide +kernel
theorem dX10_shareOf_17 : decode cX10_shareOf 17 = .ok (.ifCond .eq 7, 3) := by decide +kernel
theorem dX10_shareOf_20 : decode cX10_shareOf 20 = .ok (.iconst (-1), 1) := by decide +kernel
theorem dX10_shareOf_21 : decode cX10_shareOf 21 = .ok (.goto 4, 3) := by decide +kernel
theorem dX10_shareOf_24 : decode cX10_shareOf 24 = .ok (.iconst 1, 1) := by decide +kernel
theorem dX10_shareOf_25 : decode cX10_shareOf 25 = .ok (.ireturn, 1) := by decide +kernel
theorem dX10_steals_0 : decode cX10_steals 0 = .ok (.aload_n 0, 1) := by decide +kernel
theorem dX10_steals_1 : decode cX10_steals 1 = .ok (.aload_n 0, 1) := by decide +kernel
theorem dX10_steals_2 : decode cX10_steals 2 = .ok (.getfield 144, 3) := by decide +kernel
theorem dX10_steals_5 : decode cX10_steals 5 = .ok (.iload_n 1, 1) := by decide +kernel
theorem dX10_steals_6 : decode cX10_steals 6 = .ok (.invokestatic 298, 3) := by decide +kernel
theorem dX10_steals_9 : decode cX10_steals 9 = .ok (.invokestatic 151, 3) := by decide +kernel
theorem dX10_steals_12 : decode cX10_steals 12 = .ok (.invokevirtual 90, 3) := by decide +kernel
theorem dX10_steals_15 : decode cX10_steals 15 = .ok (.ifCond .eq 6, 3) := by decide +kernel
theorem dX10_steals_18 : decode cX10_steals 18 = .ok (.bipush (-100), 2) := by decide +kernel
theorem dX10_steals_20 : decode cX10_steals 20 = .ok (.ireturn, 1) := by decide +kernel
theorem dX10_steals_21 : decode cX10_steals 21 = .ok (.iload 4, 2) := by decide +kernel
theorem dX10_steals_23 : decode cX10_steals 23 = .ok (.ifCond .eq 12, 3) := by decide +kernel
theorem dX10_steals_26 : decode cX10_steals 26 = .ok (.iload_n 1, 1) := by decide +kernel
theorem dX10_steals_27 : decode cX10_steals 27 = .ok (.iload_n 3, 1) := by decide +kernel
theorem dX10_steals_28 : decode cX10_steals 28 = .ok (.iload_n 2, 1) := by decide +kernel
theorem dX10_steals_29 : decode cX10_steals 29 = .ok (.invokestatic 301, 3) := by decide +kernel
theorem dX10_steals_32 : decode cX10_steals 32 = .ok (.goto 9, 3) := by decide +kernel
theorem dX10_steals_35 : decode cX10_steals 35 = .ok (.iload_n 1, 1) := by decide +kernel
theorem dX10_steals_36 : decode cX10_steals 36 = .ok (.iload_n 2, 1) := by decide +kernel
theorem dX10_steals_37 : decode cX10_steals 37 = .ok (.iload_n 3, 1) := by decide +kernel
theorem dX10_steals_38 : decode cX10_steals 38 = .ok (.invokestatic 301, 3) := by decide +kernel
theorem dX10_steals_41 : decode cX10_steals 41 = .ok (.ireturn, 1) := by decide +kernel
theorem dX10_isRest_0 : decode cX10_isRest 0 = .ok (.iload_n 1, 1) := by decide +kernel
theorem dX10_isRest_1 : decode cX10_isRest 1 = .ok (.iconst 2, 1) := by decide +kernel
theorem dX10_isRest_2 : decode cX10_isRest 2 = .ok (.iand, 1) := by decide +kernel
theorem dX10_isRest_3 : decode cX10_isRest 3 = .ok (.ifCond .eq 7, 3) := by decide +kernel
theorem dX10_isRest_6 : decode cX10_isRest 6 = .ok (.iconst 1, 1) := by decide +kernel
theorem dX10_isRest_7 : decode cX10_isRest 7 = .ok (.goto 4, 3) := by decide +kernel
theorem dX10_isRest_10 : decode cX10_isRest 10 = .ok (.iconst 0, 1) := by decide +kernel
theorem dX10_isRest_11 : decode cX10_isRest 11 = .ok (.istore_n 2, 1) := by decide +kernel
theorem dX10_isRest_12 : decode cX10_isRest 12 = .ok (.iload_n 1, 1) := by decide +kernel
theorem dX10_isRest_13 : decode cX10_isRest 13 = .ok (.iconst 1, 1) := by decide +kernel
theorem dX10_isRest_14 : decode cX10_isRest 14 = .ok (.iand, 1) := by decide +kernel
theorem dX10_isRest_15 : decode cX10_isRest 15 = .ok (.ifCond .eq 7, 3) := by decide +kernel
theorem dX10_isRest_18 : decode cX10_isRest 18 = .ok (.iconst 1, 1) := by decide +kernel
theorem dX10_isRest_19 : decode cX10_isRest 19 = .ok (.goto 4, 3) := by decide +kernel
theorem dX10_isRest_22 : decode cX10_isRest 22 = .ok (.iconst 0, 1) := by decide +kernel
theorem dX10_isRest_23 : decode cX10_isRest 23 = .ok (.istore_n 3, 1) := by decide +kernel
theorem dX10_isRest_24 : decode cX10_isRest 24 = .ok (.iload_n 0, 1) := by decide +kernel
theorem dX10_isRest_25 : decode cX10_isRest 25 = .ok (.iload_n 2, 1) := by decide +kernel
theorem dX10_isRest_26 : decode cX10_isRest 26 = .ok (.iload_n 3, 1) := by decide +kernel
theorem dX10_isRest_27 : decode cX10_isRest 27 = .ok (.invokestatic 301, 3) := by decide +kernel
theorem dX10_isRest_30 : decode cX10_isRest 30 = .ok (.iload_n 0, 1) := by decide +kernel
theorem dX10_isRest_31 : decode cX10_isRest 31 = .ok (.iload_n 2, 1) := by decide +kernel
theorem dX10_isRest_32 : decode cX10_isRest 32 = .ok (.ifCond .ne 7, 3) := by decide +kernel
theorem dX10_isRest_35 : decode cX10_isRest 35 = .ok (.iconst 1, 1) := by decide +kernel
theorem dX10_isRest_36 : decode cX10_isRest 36 = .ok (.goto 4, 3) := by decide +kernel
theorem dX10_isRest_39 : decode cX10_isRest 39 = .ok (.iconst 0, 1) := by decide +kernel
theorem dX10_isRest_40 : decode cX10_isRest 40 = .ok (.iload_n 3, 1) := by decide +kernel
theorem dX10_isRest_41 : decode cX10_isRest 41 = .ok (.invokestatic 301, 3) := by decide +kernel
theorem dX10_isRest_44 : decode cX10_isRest 44 = .ok (.if_icmp .lt 30, 3) := by decide +kernel
theorem dX10_isRest_47 : decode cX10_isRest 47 = .ok (.iload_n 0, 1) := by decide +kernel
theorem dX10_isRest_48 : decode cX10_isRest 48 = .ok (.iload_n 3, 1) := by decide +kernel
theorem dX10_isRest_49 : decode cX10_isRest 49 = .ok (.iload_n 2, 1) := by decide +kernel
theorem dX10_isRest_50 : decode cX10_isRest 50 = .ok (.invokestatic 301, 3) := by decide +kernel
theorem dX10_isRest_53 : decode cX10_isRest 53 = .ok (.iload_n 0, 1) := by decide +kernel
theorem dX10_isRest_54 : decode cX10_isRest 54 = .ok (.iload_n 3, 1) := by decide +kernel
theorem dX10_isRest_55 : decode cX10_isRest 55 = .ok (.ifCond .ne 7, 3) := by decide +kernel
theorem dX10_isRest_58 : decode cX10_isRest 58 = .ok (.iconst 1, 1) := by decide +kernel
theorem dX10_isRest_59 : decode cX10_isRest 59 = .ok (.goto 4, 3) := by decide +kernel
theorem dX10_isRest_62 : decode cX10_isRest 62 = .ok (.iconst 0, 1) := by decide +kernel
theorem dX10_isRest_63 : decode cX10_isRest 63 = .ok (.iload_n 2, 1) := by decide +kernel
theorem dX10_isRest_64 : decode cX10_isRest 64 = .ok (.invokestatic 301, 3) := by decide +kernel
theorem dX10_isRest_67 : decode cX10_isRest 67 = .ok (.if_icmp .lt 7, 3) := by decide +kernel
theorem dX10_isRest_70 : decode cX10_isRest 70 = .ok (.iconst 1, 1) := by decide +kernel
theorem dX10_isRest_71 : decode cX10_isRest 71 = .ok (.goto 4, 3) := by decide +kernel
theorem dX10_isRest_74 : decode cX10_isRest 74 = .ok (.iconst 0, 1) := by decide +kernel
theorem dX10_isRest_75 : decode cX10_isRest 75 = .ok (.ireturn, 1) := by decide +kernel
theorem dX10_rests_0 : decode cX10_rests 0 = .ok (.aload_n 0, 1) := by decide +kernel
theorem dX10_rests_1 : decode cX10_rests 1 = .ok (.aload_n 0, 1) := by decide +kernel
theorem dX10_rests_2 : decode cX10_rests 2 = .ok (.getfield 144, 3) := by decide +kernel
theorem dX10_rests_5 : decode cX10_rests 5 = .ok (.iload_n 1, 1) := by decide +kernel
theorem dX10_rests_6 : decode cX10_rests 6 = .ok (.invokestatic 298, 3) := by decide +kernel
theorem dX10_rests_9 : decode cX10_rests 9 = .ok (.invokestatic 151, 3) := by decide +kernel
theorem dX10_rests_12 : decode cX10_rests 12 = .ok (.invokevirtual 90, 3) := by decide +kernel
theorem dX10_rests_15 : decode cX10_rests 15 = .ok (.ifCond .eq 5, 3) := by decide +kernel
theorem dX10_rests_18 : decode cX10_rests 18 = .ok (.iconst (-1), 1) := by decide +kernel
theorem dX10_rests_19 : decode cX10_rests 19 = .ok (.ireturn, 1) := by decide +kernel
theorem dX10_rests_20 : decode cX10_rests 20 = .ok (.iconst 0, 1) := by decide +kernel
theorem dX10_rests_21 : decode cX10_rests 21 = .ok (.istore_n 2, 1) := by decide +kernel
theorem dX10_rests_22 : decode cX10_rests 22 = .ok (.iconst 0, 1) := by decide +kernel
theorem dX10_rests_23 : decode cX10_rests 23 = .ok (.istore_n 3, 1) := by decide +kernel
theorem dX10_rests_24 : decode cX10_rests 24 = .ok (.iload_n 3, 1) := by decide +kernel
theorem dX10_rests_25 : decode cX10_rests 25 = .ok (.iconst 4, 1) := by decide +kernel
theorem dX10_rests_26 : decode cX10_rests 26 = .ok (.if_icmp .ge 20, 3) := by decide +kernel
theorem dX10_rests_29 : decode cX10_rests 29 = .ok (.iload_n 1, 1) := by decide +kernel
theorem dX10_rests_30 : decode cX10_rests 30 = .ok (.iload_n 3, 1) := by decide +kernel
theorem dX10_rests_31 : decode cX10_rests 31 = .ok (.invokestatic 305, 3) := by decide +kernel
theorem dX10_rests_34 : decode cX10_rests 34 = .ok (.ifCond .eq 6, 3) := by decide +kernel
theorem dX10_rests_37 : decode cX10_rests 37 = .ok (.iinc 2 1, 3) := by decide +kernel
theorem dX10_rests_40 : decode cX10_rests 40 = .ok (.iinc 3 1, 3) := by decide +kernel
theorem dX10_rests_43 : decode cX10_rests 43 = .ok (.goto (-19), 3) := by decide +kernel
theorem dX10_rests_46 : decode cX10_rests 46 = .ok (.iload_n 2, 1) := by decide +kernel
theorem dX10_rests_47 : decode cX10_rests 47 = .ok (.ireturn, 1) := by decide +kernel
theorem dX10_rest_0 : decode cX10_rest 0 = .ok (.aload_n 0, 1) := by decide +kernel
theorem dX10_rest_1 : decode cX10_rest 1 = .ok (.aload_n 0, 1) := by decide +kernel
theorem dX10_rest_2 : decode cX10_rest 2 = .ok (.getfield 144, 3) := by decide +kernel
theorem dX10_rest_5 : decode cX10_rest 5 = .ok (.iload_n 1, 1) := by decide +kernel
theorem dX10_rest_6 : decode cX10_rest 6 = .ok (.invokestatic 298, 3) := by decide +kernel
theorem dX10_rest_9 : decode cX10_rest 9 = .ok (.invokestatic 151, 3) := by decide +kernel
theorem dX10_rest_12 : decode cX10_rest 12 = .ok (.invokevirtual 90, 3) := by decide +kernel
theorem dX10_rest_15 : decode cX10_rest 15 = .ok (.ifCond .eq 5, 3) := by decide +kernel
theorem dX10_rest_18 : decode cX10_rest 18 = .ok (.iconst (-1), 1) := by decide +kernel
theorem dX10_rest_19 : decode cX10_rest 19 = .ok (.ireturn, 1) := by decide +kernel
theorem dX10_rest_20 : decode cX10_rest 20 = .ok (.iconst 0, 1) := by decide +kernel
theorem dX10_rest_21 : decode cX10_rest 21 = .ok (.istore_n 2, 1) := by decide +kernel
theorem dX10_rest_22 : decode cX10_rest 22 = .ok (.iload_n 2, 1) := by decide +kernel
theorem dX10_rest_23 : decode cX10_rest 23 = .ok (.iconst 4, 1) := by decide +kernel
theorem dX10_rest_24 : decode cX10_rest 24 = .ok (.if_icmp .ge 28, 3) := by decide +kernel
theorem dX10_rest_27 : decode cX10_rest 27 = .ok (.iload_n 1, 1) := by decide +kernel
theorem dX10_rest_28 : decode cX10_rest 28 = .ok (.iload_n 2, 1) := by decide +kernel
theorem dX10_rest_29 : decode cX10_rest 29 = .ok (.invokestatic 305, 3) := by decide +kernel
theorem dX10_rest_32 : decode cX10_rest 32 = .ok (.ifCond .eq 14, 3) := by decide +kernel
theorem dX10_rest_35 : decode cX10_rest 35 = .ok (.bipush 10, 2) := by decide +kernel
theorem dX10_rest_37 : decode cX10_rest 37 = .ok (.iload_n 2, 1) := by decide +kernel
theorem dX10_rest_38 : decode cX10_rest 38 = .ok (.iconst 1, 1) := by decide +kernel
theorem dX10_rest_39 : decode cX10_rest 39 = .ok (.ishr, 1) := by decide +kernel
theorem dX10_rest_40 : decode cX10_rest 40 = .ok (.imul, 1) := by decide +kernel
theorem dX10_rest_41 : decode cX10_rest 41 = .ok (.iload_n 2, 1) := by decide +kernel
theorem dX10_rest_42 : decode cX10_rest 42 = .ok (.iconst 1, 1) := by decide +kernel
theorem dX10_rest_43 : decode cX10_rest 43 = .ok (.iand, 1) := by decide +kernel
theorem dX10_rest_44 : decode cX10_rest 44 = .ok (.iadd, 1) := by decide +kernel
theorem dX10_rest_45 : decode cX10_rest 45 = .ok (.ireturn, 1) := by decide +kernel
theorem dX10_rest_46 : decode cX10_rest 46 = .ok (.iinc 2 1, 3) := by decide +kernel
theorem dX10_rest_49 : decode cX10_rest 49 = .ok (.goto (-27), 3) := by decide +kernel
theorem dX10_rest_52 : decode cX10_rest 52 = .ok (.bipush (-2), 2) := by decide +kernel
theorem dX10_rest_54 : decode cX10_rest 54 = .ok (.ireturn, 1) := by decide +kernel
theorem dX10_whyNotDrawn_0 : decode cX10_whyNotDrawn 0 = .ok (.aload_n 0, 1) := by decide +kernel
theorem dX10_whyNotDrawn_1 : decode cX10_whyNotDrawn 1 = .ok (.getfield 144, 3) := by decide +kernel
theorem dX10_whyNotDrawn_4 : decode cX10_whyNotDrawn 4 = .ok (.iload_n 1, 1) := by decide +kernel
theorem dX10_whyNotDrawn_5 : decode cX10_whyNotDrawn 5 = .ok (.ifCond .lt 23, 3) := by decide +kernel
theorem dX10_whyNotDrawn_8 : decode cX10_whyNotDrawn 8 = .ok (.iload_n 1, 1) := by decide +kernel
theorem dX10_whyNotDrawn_9 : decode cX10_whyNotDrawn 9 = .ok (.ldc_w 368, 3) := by decide +kernel
theorem dX10_whyNotDrawn_12 : decode cX10_whyNotDrawn 12 = .ok (.if_icmp .ge 16, 3) := by decide +kernel
theorem dX10_whyNotDrawn_15 : decode cX10_whyNotDrawn 15 = .ok (.iload_n 2, 1) := by decide +kernel
theorem dX10_whyNotDrawn_16 : decode cX10_whyNotDrawn 16 = .ok (.ifCond .lt 12, 3) := by decide +kernel
theorem dX10_whyNotDrawn_19 : decode cX10_whyNotDrawn 19 = .ok (.iload_n 2, 1) := by decide +kernel
theorem dX10_whyNotDrawn_20 : decode cX10_whyNotDrawn 20 = .ok (.iload_n 3, 1) := by decide +kernel
theorem dX10_whyNotDrawn_21 : decode cX10_whyNotDrawn 21 = .ok (.if_icmp .gt 7, 3) := by decide +kernel
theorem dX10_whyNotDrawn_24 : decode cX10_whyNotDrawn 24 = .ok (.iconst 1, 1) := by decide +kernel
theorem dX10_whyNotDrawn_25 : decode cX10_whyNotDrawn 25 = .ok (.goto 4, 3) := by decide +kernel
theorem dX10_whyNotDrawn_28 : decode cX10_whyNotDrawn 28 = .ok (.iconst 0, 1) := by decide +kernel
theorem dX10_whyNotDrawn_29 : decode cX10_whyNotDrawn 29 = .ok (.invokestatic 151, 3) := by decide +kernel
theorem dX10_whyNotDrawn_32 : decode cX10_whyNotDrawn 32 = .ok (.ireturn, 1) := by decide +kernel
theorem dX10_idled_0 : decode cX10_idled 0 = .ok (.aload_n 0, 1) := by decide +kernel
theorem dX10_idled_1 : decode cX10_idled 1 = .ok (.aload_n 0, 1) := by decide +kernel
theorem dX10_idled_2 : decode cX10_idled 2 = .ok (.iload_n 1, 1) := by decide +kernel
theorem dX10_idled_3 : decode cX10_idled 3 = .ok (.iload_n 2, 1) := by decide +kernel
theorem dX10_idled_4 : decode cX10_idled 4 = .ok (.aload_n 0, 1) := by decide +kernel
theorem dX10_idled_5 : decode cX10_idled 5 = .ok (.getfield 16, 3) := by decide +kernel
theorem dX10_idled_8 : decode cX10_idled 8 = .ok (.getfield 104, 3) := by decide +kernel
theorem dX10_idled_11 : decode cX10_idled 11 = .ok (.getfield 108, 3) := by decide +kernel
theorem dX10_idled_14 : decode cX10_idled 14 = .ok (.invokevirtual 309, 3) := by decide +kernel
theorem dX10_idled_17 : decode cX10_idled 17 = .ok (.invokevirtual 90, 3) := by decide +kernel
theorem dX10_idled_20 : decode cX10_idled 20 = .ok (.ifCond .eq 5, 3) := by decide +kernel
theorem dX10_idled_23 : decode cX10_idled 23 = .ok (.iconst (-1), 1) := by decide +kernel
theorem dX10_idled_24 : decode cX10_idled 24 = .ok (.ireturn, 1) := by decide +kernel
theorem dX10_idled_25 : decode cX10_idled 25 = .ok (.aload_n 0, 1) := by decide +kernel
theorem dX10_idled_26 : decode cX10_idled 26 = .ok (.getfield 55, 3) := by decide +kernel
theorem dX10_idled_29 : decode cX10_idled 29 = .ok (.iload_n 1, 1) := by decide +kernel
theorem dX10_idled_30 : decode cX10_idled 30 = .ok (.putfield 313, 3) := by decide +kernel
theorem dX10_idled_33 : decode cX10_idled 33 = .ok (.aload_n 0, 1) := by decide +kernel
theorem dX10_idled_34 : decode cX10_idled 34 = .ok (.getfield 55, 3) := by decide +kernel
theorem dX10_idled_37 : decode cX10_idled 37 = .ok (.aload_n 0, 1) := by decide +kernel
theorem dX10_idled_38 : decode cX10_idled 38 = .ok (.getfield 35, 3) := by decide +kernel
theorem dX10_idled_41 : decode cX10_idled 41 = .ok (.invokevirtual 316, 3) := by decide +kernel
theorem dX10_idled_44 : decode cX10_idled 44 = .ok (.aload_n 0, 1) := by decide +kernel
theorem dX10_idled_45 : decode cX10_idled 45 = .ok (.getfield 55, 3) := by decide +kernel
theorem dX10_idled_48 : decode cX10_idled 48 = .ok (.iload_n 2, 1) := by decide +kernel
theorem dX10_idled_49 : decode cX10_idled 49 = .ok (.invokevirtual 170, 3) := by decide +kernel
theorem dX10_idled_52 : decode cX10_idled 52 = .ok (.ireturn, 1) := by decide +kernel
theorem dX10_squareBy_0 : decode cX10_squareBy 0 = .ok (.aload_n 0, 1) := by decide +kernel
theorem dX10_squareBy_1 : decode cX10_squareBy 1 = .ok (.aload_n 0, 1) := by decide +kernel
theorem dX10_squareBy_2 : decode cX10_squareBy 2 = .ok (.iload_n 1, 1) := by decide +kernel
theorem dX10_squareBy_3 : decode cX10_squareBy 3 = .ok (.iload_n 2, 1) := by decide +kernel
theorem dX10_squareBy_4 : decode cX10_squareBy 4 = .ok (.aload_n 0, 1) := by decide +kernel
theorem dX10_squareBy_5 : decode cX10_squareBy 5 = .ok (.getfield 16, 3) := by decide +kernel
theorem dX10_squareBy_8 : decode cX10_squareBy 8 = .ok (.getfield 104, 3) := by decide +kernel
theorem dX10_squareBy_11 : decode cX10_squareBy 11 = .ok (.getfield 108, 3) := by decide +kernel
theorem dX10_squareBy_14 : decode cX10_squareBy 14 = .ok (.invokevirtual 309, 3) := by decide +kernel
theorem dX10_squareBy_17 : decode cX10_squareBy 17 = .ok (.invokevirtual 90, 3) := by decide +kernel
theorem dX10_squareBy_20 : decode cX10_squareBy 20 = .ok (.ifCond .eq 5, 3) := by decide +kernel
theorem dX10_squareBy_23 : decode cX10_squareBy 23 = .ok (.iconst (-1), 1) := by decide +kernel
theorem dX10_squareBy_24 : decode cX10_squareBy 24 = .ok (.ireturn, 1) := by decide +kernel
theorem dX10_squareBy_25 : decode cX10_squareBy 25 = .ok (.aload_n 0, 1) := by decide +kernel
theorem dX10_squareBy_26 : decode cX10_squareBy 26 = .ok (.getfield 55, 3) := by decide +kernel
theorem dX10_squareBy_29 : decode cX10_squareBy 29 = .ok (.iload_n 1, 1) := by decide +kernel
theorem dX10_squareBy_30 : decode cX10_squareBy 30 = .ok (.putfield 313, 3) := by decide +kernel
theorem dX10_squareBy_33 : decode cX10_squareBy 33 = .ok (.aload_n 0, 1) := by decide +kernel
theorem dX10_squareBy_34 : decode cX10_squareBy 34 = .ok (.getfield 55, 3) := by decide +kernel
theorem dX10_squareBy_37 : decode cX10_squareBy 37 = .ok (.aload_n 0, 1) := by decide +kernel
theorem dX10_squareBy_38 : decode cX10_squareBy 38 = .ok (.getfield 35, 3) := by decide +kernel
theorem dX10_squareBy_41 : decode cX10_squareBy 41 = .ok (.invokevirtual 316, 3) := by decide +kernel
theorem dX10_squareBy_44 : decode cX10_squareBy 44 = .ok (.aload_n 0, 1) := by decide +kernel
theorem dX10_squareBy_45 : decode cX10_squareBy 45 = .ok (.getfield 55, 3) := by decide +kernel
theorem dX10_squareBy_48 : decode cX10_squareBy 48 = .ok (.aload_n 0, 1) := by decide +kernel
theorem dX10_squareBy_49 : decode cX10_squareBy 49 = .ok (.getfield 35, 3) := by decide +kernel
theorem dX10_squareBy_52 : decode cX10_squareBy 52 = .ok (.iconst 0, 1) := by decide +kernel
theorem dX10_squareBy_53 : decode cX10_squareBy 53 = .ok (.iload_n 2, 1) := by decide +kernel
theorem dX10_squareBy_54 : decode cX10_squareBy 54 = .ok (.invokevirtual 204, 3) := by decide +kernel
theorem dX10_squareBy_57 : decode cX10_squareBy 57 = .ok (.aload_n 0, 1) := by decide +kernel
theorem dX10_squareBy_58 : decode cX10_squareBy 58 = .ok (.getfield 55, 3) := by decide +kernel
theorem dX10_squareBy_61 : decode cX10_squareBy 61 = .ok (.getfield 208, 3) := by decide +kernel
theorem dX10_squareBy_64 : decode cX10_squareBy 64 = .ok (.invokevirtual 212, 3) := by decide +kernel
theorem dX10_squareBy_67 : decode cX10_squareBy 67 = .ok (.ireturn, 1) := by decide +kernel
theorem dX10_wrecks_0 : decode cX10_wrecks 0 = .ok (.aload_n 0, 1) := by decide +kernel
theorem dX10_wrecks_1 : decode cX10_wrecks 1 = .ok (.aload_n 0, 1) := by decide +kernel
theorem dX10_wrecks_2 : decode cX10_wrecks 2 = .ok (.iload_n 1, 1) := by decide +kernel
theorem dX10_wrecks_3 : decode cX10_wrecks 3 = .ok (.iload_n 2, 1) := by decide +kernel
theorem dX10_wrecks_4 : decode cX10_wrecks 4 = .ok (.bipush 20, 2) := by decide +kernel
theorem dX10_wrecks_6 : decode cX10_wrecks 6 = .ok (.invokevirtual 309, 3) := by decide +kernel
theorem dX10_wrecks_9 : decode cX10_wrecks 9 = .ok (.invokevirtual 90, 3) := by decide +kernel
theorem dX10_wrecks_12 : decode cX10_wrecks 12 = .ok (.ifCond .eq 5, 3) := by decide +kernel
theorem dX10_wrecks_15 : decode cX10_wrecks 15 = .ok (.iconst (-1), 1) := by decide +kernel
theorem dX10_wrecks_16 : decode cX10_wrecks 16 = .ok (.ireturn, 1) := by decide +kernel
theorem dX10_wrecks_17 : decode cX10_wrecks 17 = .ok (.iconst 0, 1) := by decide +kernel
theorem dX10_wrecks_18 : decode cX10_wrecks 18 = .ok (.istore_n 3, 1) := by decide +kernel
theorem dX10_wrecks_19 : decode cX10_wrecks 19 = .ok (.aload_n 0, 1) := by decide +kernel
theorem dX10_wrecks_20 : decode cX10_wrecks 20 = .ok (.getfield 55, 3) := by decide +kernel
theorem dX10_wrecks_23 : decode cX10_wrecks 23 = .ok (.iload_n 1, 1) := by decide +kernel
theorem dX10_wrecks_24 : decode cX10_wrecks 24 = .ok (.putfield 313, 3) := by decide +kernel
theorem dX10_wrecks_27 : decode cX10_wrecks 27 = .ok (.iconst 0, 1) := by decide +kernel
theorem dX10_wrecks_28 : decode cX10_wrecks 28 = .ok (.istore 4, 2) := by decide +kernel
theorem dX10_wrecks_30 : decode cX10_wrecks 30 = .ok (.iload 4, 2) := by decide +kernel
theorem dX10_wrecks_32 : decode cX10_wrecks 32 = .ok (.iload_n 2, 1) := by decide +kernel
theorem dX10_wrecks_33 : decode cX10_wrecks 33 = .ok (.if_icmp .ge 40, 3) := by decide +kernel
theorem dX10_wrecks_36 : decode cX10_wrecks 36 = .ok (.aload_n 0, 1) := by decide +kernel
theorem dX10_wrecks_37 : decode cX10_wrecks 37 = .ok (.getfield 55, 3) := by decide +kernel
theorem dX10_wrecks_40 : decode cX10_wrecks 40 = .ok (.aload_n 0, 1) := by decide +kernel
theorem dX10_wrecks_41 : decode cX10_wrecks 41 = .ok (.getfield 35, 3) := by decide +kernel
theorem dX10_wrecks_44 : decode cX10_wrecks 44 = .ok (.invokevirtual 316, 3) := by decide +kernel
theorem dX10_wrecks_47 : decode cX10_wrecks 47 = .ok (.aload_n 0, 1) := by decide +kernel
theorem dX10_wrecks_48 : decode cX10_wrecks 48 = .ok (.getfield 55, 3) := by decide +kernel
theorem dX10_wrecks_51 : decode cX10_wrecks 51 = .ok (.aload_n 0, 1) := by decide +kernel
theorem dX10_wrecks_52 : decode cX10_wrecks 52 = .ok (.getfield 35, 3) := by decide +kernel
theorem dX10_wrecks_55 : decode cX10_wrecks 55 = .ok (.iconst 0, 1) := by decide +kernel
theorem dX10_wrecks_56 : decode cX10_wrecks 56 = .ok (.invokevirtual 218, 3) := by decide +kernel
theorem dX10_wrecks_59 : decode cX10_wrecks 59 = .ok (.bipush (-2), 2) := by decide +kernel
theorem dX10_wrecks_61 : decode cX10_wrecks 61 = .ok (.if_icmp .eq 6, 3) := by decide +kernel
theorem dX10_wrecks_64 : decode cX10_wrecks 64 = .ok (.iinc 3 1, 3) := by decide +kernel
theorem dX10_wrecks_67 : decode cX10_wrecks 67 = .ok (.iinc 4 1, 3) := by decide +kernel
theorem dX10_wrecks_70 : decode cX10_wrecks 70 = .ok (.goto (-40), 3) := by decide +kernel
theorem dX10_wrecks_73 : decode cX10_wrecks 73 = .ok (.iload_n 3, 1) := by decide +kernel
theorem dX10_wrecks_74 : decode cX10_wrecks 74 = .ok (.ireturn, 1) := by decide +kernel
theorem dX10_attend_0 : decode cX10_attend 0 = .ok (.aload_n 0, 1) := by decide +kernel
theorem dX10_attend_1 : decode cX10_attend 1 = .ok (.aload_n 0, 1) := by decide +kernel
theorem dX10_attend_2 : decode cX10_attend 2 = .ok (.iload_n 1, 1) := by decide +kernel
theorem dX10_attend_3 : decode cX10_attend 3 = .ok (.invokevirtual 119, 3) := by decide +kernel
theorem dX10_attend_6 : decode cX10_attend 6 = .ok (.ifCond .eq 7, 3) := by decide +kernel
theorem dX10_attend_9 : decode cX10_attend 9 = .ok (.iconst 0, 1) := by decide +kernel
theorem dX10_attend_10 : decode cX10_attend 10 = .ok (.goto 4, 3) := by decide +kernel
theorem dX10_attend_13 : decode cX10_attend 13 = .ok (.iconst 1, 1) := by decide +kernel
theorem dX10_attend_14 : decode cX10_attend 14 = .ok (.invokevirtual 90, 3) := by decide +kernel
theorem dX10_attend_17 : decode cX10_attend 17 = .ok (.ifCond .eq 5, 3) := by decide +kernel
theorem dX10_attend_20 : decode cX10_attend 20 = .ok (.iconst (-1), 1) := by decide +kernel
theorem dX10_attend_21 : decode cX10_attend 21 = .ok (.ireturn, 1) := by decide +kernel
theorem dX10_attend_22 : decode cX10_attend 22 = .ok (.iconst 1, 1) := by decide +kernel
theorem dX10_attend_23 : decode cX10_attend 23 = .ok (.aload_n 0, 1) := by decide +kernel
theorem dX10_attend_24 : decode cX10_attend 24 = .ok (.getfield 35, 3) := by decide +kernel
theorem dX10_attend_27 : decode cX10_attend 27 = .ok (.getfield 122, 3) := by decide +kernel
theorem dX10_attend_30 : decode cX10_attend 30 = .ok (.iload_n 1, 1) := by decide +kernel
theorem dX10_attend_31 : decode cX10_attend 31 = .ok (.iconst 2, 1) := by decide +kernel
theorem dX10_attend_32 : decode cX10_attend 32 = .ok (.invokevirtual 123, 3) := by decide +kernel
theorem dX10_attend_35 : decode cX10_attend 35 = .ok (.isub, 1) := by decide +kernel
theorem dX10_attend_36 : decode cX10_attend 36 = .ok (.istore_n 2, 1) := by decide +kernel
theorem dX10_attend_37 : decode cX10_attend 37 = .ok (.aload_n 0, 1) := by decide +kernel
theorem dX10_attend_38 : decode cX10_attend 38 = .ok (.getfield 46, 3) := by decide +kernel
theorem dX10_attend_41 : decode cX10_attend 41 = .ok (.aload_n 0, 1) := by decide +kernel
theorem dX10_attend_42 : decode cX10_attend 42 = .ok (.getfield 35, 3) := by decide +kernel
theorem dX10_attend_45 : decode cX10_attend 45 = .ok (.iload_n 1, 1) := by decide +kernel
theorem dX10_attend_46 : decode cX10_attend 46 = .ok (.iconst 2, 1) := by decide +kernel
theorem dX10_attend_47 : decode cX10_attend 47 = .ok (.iload_n 2, 1) := by decide +kernel
theorem dX10_attend_48 : decode cX10_attend 48 = .ok (.invokevirtual 319, 3) := by decide +kernel
theorem dX10_attend_51 : decode cX10_attend 51 = .ok (.iload_n 2, 1) := by decide +kernel
theorem dX10_attend_52 : decode cX10_attend 52 = .ok (.ireturn, 1) := by decide +kernel
theorem dX10_steer_0 : decode cX10_steer 0 = .ok (.aload_n 0, 1) := by decide +kernel
theorem dX10_steer_1 : decode cX10_steer 1 = .ok (.iload_n 1, 1) := by decide +kernel
theorem dX10_steer_2 : decode cX10_steer 2 = .ok (.invokevirtual 119, 3) := by decide +kernel
theorem dX10_steer_5 : decode cX10_steer 5 = .ok (.iload_n 2, 1) := by decide +kernel
theorem dX10_steer_6 : decode cX10_steer 6 = .ok (.invokestatic 242, 3) := by decide +kernel
theorem dX10_steer_9 : decode cX10_steer 9 = .ok (.invokestatic 151, 3) := by decide +kernel
theorem dX10_steer_12 : decode cX10_steer 12 = .ok (.istore_n 3, 1) := by decide +kernel
theorem dX10_steer_13 : decode cX10_steer 13 = .ok (.aload_n 0, 1) := by decide +kernel
theorem dX10_steer_14 : decode cX10_steer 14 = .ok (.getfield 35, 3) := by decide +kernel
theorem dX10_steer_17 : decode cX10_steer 17 = .ok (.getfield 122, 3) := by decide +kernel
theorem dX10_steer_20 : decode cX10_steer 20 = .ok (.iload_n 1, 1) := by decide +kernel
theorem dX10_steer_21 : decode cX10_steer 21 = .ok (.iconst 1, 1) := by decide +kernel
theorem dX10_steer_22 : decode cX10_steer 22 = .ok (.invokevirtual 123, 3) := by decide +kernel
theorem dX10_steer_25 : decode cX10_steer 25 = .ok (.iload_n 2, 1) := by decide +kernel
theorem dX10_steer_26 : decode cX10_steer 26 = .ok (.if_icmp .ne 7, 3) := by decide +kernel
theorem dX10_steer_29 : decode cX10_steer 29 = .ok (.iconst 1, 1) := by decide +kernel
theorem dX10_steer_30 : decode cX10_steer 30 = .ok (.goto 4, 3) := by decide +kernel
theorem dX10_steer_33 : decode cX10_steer 33 = .ok (.iconst 0, 1) := by decide +kernel
theorem dX10_steer_34 : decode cX10_steer 34 = .ok (.istore 4, 2) := by decide +kernel
theorem dX10_steer_36 : decode cX10_steer 36 = .ok (.aload_n 0, 1) := by decide +kernel
theorem dX10_steer_37 : decode cX10_steer 37 = .ok (.iload_n 3, 1) := by decide +kernel
theorem dX10_steer_38 : decode cX10_steer 38 = .ok (.ifCond .ne 12, 3) := by decide +kernel
theorem dX10_steer_41 : decode cX10_steer 41 = .ok (.iload 4, 2) := by decide +kernel
theorem dX10_steer_43 : decode cX10_steer 43 = .ok (.ifCond .eq 7, 3) := by decide +kernel
theorem dX10_steer_46 : decode cX10_steer 46 = .ok (.iconst 5, 1) := by decide +kernel
theorem dX10_steer_47 : decode cX10_steer 47 = .ok (.goto 4, 3) := by decide +kernel
theorem dX10_steer_50 : decode cX10_steer 50 = .ok (.iload_n 3, 1) := by decide +kernel
theorem dX10_steer_51 : decode cX10_steer 51 = .ok (.invokevirtual 90, 3) := by decide +kernel
theorem dX10_steer_54 : decode cX10_steer 54 = .ok (.ifCond .eq 5, 3) := by decide +kernel
theorem dX10_steer_57 : decode cX10_steer 57 = .ok (.iconst 0, 1) := by decide +kernel
theorem dX10_steer_58 : decode cX10_steer 58 = .ok (.ireturn, 1) := by decide +kernel
theorem dX10_steer_59 : decode cX10_steer 59 = .ok (.aload_n 0, 1) := by decide +kernel
theorem dX10_steer_60 : decode cX10_steer 60 = .ok (.getfield 46, 3) := by decide +kernel
theorem dX10_steer_63 : decode cX10_steer 63 = .ok (.aload_n 0, 1) := by decide +kernel
theorem dX10_steer_64 : decode cX10_steer 64 = .ok (.getfield 35, 3) := by decide +kernel
theorem dX10_steer_67 : decode cX10_steer 67 = .ok (.iload_n 1, 1) := by decide +kernel
theorem dX10_steer_68 : decode cX10_steer 68 = .ok (.iconst 1, 1) := by decide +kernel
theorem dX10_steer_69 : decode cX10_steer 69 = .ok (.iload_n 2, 1) := by decide +kernel
theorem dX10_steer_70 : decode cX10_steer 70 = .ok (.invokevirtual 319, 3) := by decide +kernel
theorem dX10_steer_73 : decode cX10_steer 73 = .ok (.iconst 1, 1) := by decide +kernel
theorem dX10_steer_74 : decode cX10_steer 74 = .ok (.ireturn, 1) := by decide +kernel
theorem dX10_relieve_0 : decode cX10_relieve 0 = .ok (.aload_n 0, 1) := by decide +kernel
theorem dX10_relieve_1 : decode cX10_relieve 1 = .ok (.iload_n 1, 1) := by decide +kernel
theorem dX10_relieve_2 : decode cX10_relieve 2 = .ok (.invokevirtual 119, 3) := by decide +kernel
theorem dX10_relieve_5 : decode cX10_relieve 5 = .ok (.ifCond .eq 15, 3) := by decide +kernel
theorem dX10_relieve_8 : decode cX10_relieve 8 = .ok (.aload_n 0, 1) := by decide +kernel
theorem dX10_relieve_9 : decode cX10_relieve 9 = .ok (.iload_n 2, 1) := by decide +kernel
theorem dX10_relieve_10 : decode cX10_relieve 10 = .ok (.invokevirtual 131, 3) := by decide +kernel
theorem dX10_relieve_13 : decode cX10_relieve 13 = .ok (.ifCond .eq 7, 3) := by decide +kernel
theorem dX10_relieve_16 : decode cX10_relieve 16 = .ok (.iconst 1, 1) := by decide +kernel
theorem dX10_relieve_17 : decode cX10_relieve 17 = .ok (.goto 4, 3) := by decide +kernel
theorem dX10_relieve_20 : decode cX10_relieve 20 = .ok (.iconst 0, 1) := by decide +kernel
theorem dX10_relieve_21 : decode cX10_relieve 21 = .ok (.istore_n 3, 1) := by decide +kernel
theorem dX10_relieve_22 : decode cX10_relieve 22 = .ok (.aload_n 0, 1) := by decide +kernel
theorem dX10_relieve_23 : decode cX10_relieve 23 = .ok (.getfield 35, 3) := by decide +kernel
theorem dX10_relieve_26 : decode cX10_relieve 26 = .ok (.getfield 122, 3) := by decide +kernel
theorem dX10_relieve_29 : decode cX10_relieve 29 = .ok (.iload_n 1, 1) := by decide +kernel
theorem dX10_relieve_30 : decode cX10_relieve 30 = .ok (.iconst 0, 1) := by decide +kernel
theorem dX10_relieve_31 : decode cX10_relieve 31 = .ok (.invokevirtual 123, 3) := by decide +kernel
theorem dX10_relieve_34 : decode cX10_relieve 34 = .ok (.iload_n 2, 1) := by decide +kernel
theorem dX10_relieve_35 : decode cX10_relieve 35 = .ok (.if_icmp .ne 7, 3) := by decide +kernel
theorem dX10_relieve_38 : decode cX10_relieve 38 = .ok (.iconst 1, 1) := by decide +kernel
theorem dX10_relieve_39 : decode cX10_relieve 39 = .ok (.goto 4, 3) := by decide +kernel
theorem dX10_relieve_42 : decode cX10_relieve 42 = .ok (.iconst 0, 1) := by decide +kernel
theorem dX10_relieve_43 : decode cX10_relieve 43 = .ok (.istore 4, 2) := by decide +kernel
theorem dX10_relieve_45 : decode cX10_relieve 45 = .ok (.aload_n 0, 1) := by decide +kernel
theorem dX10_relieve_46 : decode cX10_relieve 46 = .ok (.iload_n 3, 1) := by decide +kernel
theorem dX10_relieve_47 : decode cX10_relieve 47 = .ok (.ifCond .ne 7, 3) := by decide +kernel
theorem dX10_relieve_50 : decode cX10_relieve 50 = .ok (.iconst 1, 1) := by decide +kernel
theorem dX10_relieve_51 : decode cX10_relieve 51 = .ok (.goto 13, 3) := by decide +kernel
theorem dX10_relieve_54 : decode cX10_relieve 54 = .ok (.iload 4, 2) := by decide +kernel
theorem dX10_relieve_56 : decode cX10_relieve 56 = .ok (.ifCond .eq 7, 3) := by decide +kernel
theorem dX10_relieve_59 : decode cX10_relieve 59 = .ok (.iconst 5, 1) := by decide +kernel
theorem dX10_relieve_60 : decode cX10_relieve 60 = .ok (.goto 4, 3) := by decide +kernel
theorem dX10_relieve_63 : decode cX10_relieve 63 = .ok (.iconst 0, 1) := by decide +kernel
theorem dX10_relieve_64 : decode cX10_relieve 64 = .ok (.invokevirtual 90, 3) := by decide +kernel
theorem dX10_relieve_67 : decode cX10_relieve 67 = .ok (.ifCond .eq 5, 3) := by decide +kernel
theorem dX10_relieve_70 : decode cX10_relieve 70 = .ok (.iconst (-1), 1) := by decide +kernel
theorem dX10_relieve_71 : decode cX10_relieve 71 = .ok (.ireturn, 1) := by decide +kernel
theorem dX10_relieve_72 : decode cX10_relieve 72 = .ok (.aload_n 0, 1) := by decide +kernel
theorem dX10_relieve_73 : decode cX10_relieve 73 = .ok (.getfield 46, 3) := by decide +kernel
theorem dX10_relieve_76 : decode cX10_relieve 76 = .ok (.aload_n 0, 1) := by decide +kernel
theorem dX10_relieve_77 : decode cX10_relieve 77 = .ok (.getfield 35, 3) := by decide +kernel
theorem dX10_relieve_80 : decode cX10_relieve 80 = .ok (.iload_n 1, 1) := by decide +kernel
theorem dX10_relieve_81 : decode cX10_relieve 81 = .ok (.iconst 0, 1) := by decide +kernel
theorem dX10_relieve_82 : decode cX10_relieve 82 = .ok (.iload_n 2, 1) := by decide +kernel
theorem dX10_relieve_83 : decode cX10_relieve 83 = .ok (.invokevirtual 319, 3) := by decide +kernel
theorem dX10_relieve_86 : decode cX10_relieve 86 = .ok (.aload_n 0, 1) := by decide +kernel
theorem dX10_relieve_87 : decode cX10_relieve 87 = .ok (.getfield 55, 3) := by decide +kernel
theorem dX10_relieve_90 : decode cX10_relieve 90 = .ok (.aload_n 0, 1) := by decide +kernel
theorem dX10_relieve_91 : decode cX10_relieve 91 = .ok (.getfield 35, 3) := by decide +kernel
theorem dX10_relieve_94 : decode cX10_relieve 94 = .ok (.iload_n 1, 1) := by decide +kernel
theorem dX10_relieve_95 : decode cX10_relieve 95 = .ok (.invokevirtual 159, 3) := by decide +kernel
theorem dX10_relieve_98 : decode cX10_relieve 98 = .ok (.ireturn, 1) := by decide +kernel
theorem dX10_undo_0 : decode cX10_undo 0 = .ok (.aload_n 0, 1) := by decide +kernel
theorem dX10_undo_1 : decode cX10_undo 1 = .ok (.aload_n 0, 1) := by decide +kernel
theorem dX10_undo_2 : decode cX10_undo 2 = .ok (.getfield 46, 3) := by decide +kernel
theorem dX10_undo_5 : decode cX10_undo 5 = .ok (.getfield 323, 3) := by decide +kernel
theorem dX10_undo_8 : decode cX10_undo 8 = .ok (.ifCond .ne 8, 3) := by decide +kernel
theorem dX10_undo_11 : decode cX10_undo 11 = .ok (.bipush 6, 2) := by decide +kernel
theorem dX10_undo_13 : decode cX10_undo 13 = .ok (.goto 4, 3) := by decide +kernel
theorem dX10_undo_16 : decode cX10_undo 16 = .ok (.iconst 0, 1) := by decide +kernel
theorem dX10_undo_17 : decode cX10_undo 17 = .ok (.invokevirtual 90, 3) := by decide +kernel
theorem dX10_undo_20 : decode cX10_undo 20 = .ok (.ifCond .eq 5, 3) := by decide +kernel
theorem dX10_undo_23 : decode cX10_undo 23 = .ok (.iconst 0, 1) := by decide +kernel
theorem dX10_undo_24 : decode cX10_undo 24 = .ok (.ireturn, 1) := by decide +kernel
theorem dX10_undo_25 : decode cX10_undo 25 = .ok (.aload_n 0, 1) := by decide +kernel
theorem dX10_undo_26 : decode cX10_undo 26 = .ok (.getfield 46, 3) := by decide +kernel
theorem dX10_undo_29 : decode cX10_undo 29 = .ok (.aload_n 0, 1) := by decide +kernel
theorem dX10_undo_30 : decode cX10_undo 30 = .ok (.getfield 35, 3) := by decide +kernel
theorem dX10_undo_33 : decode cX10_undo 33 = .ok (.invokevirtual 326, 3) := by decide +kernel
theorem dX10_undo_36 : decode cX10_undo 36 = .ok (.iconst 1, 1) := by decide +kernel
theorem dX10_undo_37 : decode cX10_undo 37 = .ok (.ireturn, 1) := by decide +kernel
theorem dX10_imageOf_0 : decode cX10_imageOf 0 = .ok (.iload_n 1, 1) := by decide +kernel
theorem dX10_imageOf_1 : decode cX10_imageOf 1 = .ok (.ifCond .lt 21, 3) := by decide +kernel
theorem dX10_imageOf_4 : decode cX10_imageOf 4 = .ok (.iload_n 1, 1) := by decide +kernel
theorem dX10_imageOf_5 : decode cX10_imageOf 5 = .ok (.aload_n 0, 1) := by decide +kernel
theorem dX10_imageOf_6 : decode cX10_imageOf 6 = .ok (.getfield 39, 3) := by decide +kernel
theorem dX10_imageOf_9 : decode cX10_imageOf 9 = .ok (.arraylength, 1) := by decide +kernel
theorem dX10_imageOf_10 : decode cX10_imageOf 10 = .ok (.if_icmp .ge 12, 3) := by decide +kernel
theorem dX10_imageOf_13 : decode cX10_imageOf 13 = .ok (.aload_n 0, 1) := by decide +kernel
theorem dX10_imageOf_14 : decode cX10_imageOf 14 = .ok (.getfield 39, 3) := by decide +kernel
theorem dX10_imageOf_17 : decode cX10_imageOf 17 = .ok (.iload_n 1, 1) := by decide +kernel
theorem dX10_imageOf_18 : decode cX10_imageOf 18 = .ok (.aaload, 1) := by decide +kernel
theorem dX10_imageOf_19 : decode cX10_imageOf 19 = .ok (.goto 4, 3) := by decide +kernel
theorem dX10_imageOf_22 : decode cX10_imageOf 22 = .ok (.aconst_null, 1) := by decide +kernel
theorem dX10_imageOf_23 : decode cX10_imageOf 23 = .ok (.areturn, 1) := by decide +kernel
theorem dX10_image_0 : decode cX10_image 0 = .ok (.aload_n 0, 1) := by decide +kernel
theorem dX10_image_1 : decode cX10_image 1 = .ok (.aload_n 0, 1) := by decide +kernel
theorem dX10_image_2 : decode cX10_image 2 = .ok (.getfield 329, 3) := by decide +kernel
theorem dX10_image_5 : decode cX10_image 5 = .ok (.invokevirtual 332, 3) := by decide +kernel
theorem dX10_image_8 : decode cX10_image 8 = .ok (.astore_n 1, 1) := by decide +kernel
theorem dX10_image_9 : decode cX10_image 9 = .ok (.aload_n 0, 1) := by decide +kernel
theorem dX10_image_10 : decode cX10_image 10 = .ok (.aload_n 0, 1) := by decide +kernel
theorem dX10_image_11 : decode cX10_image 11 = .ok (.getfield 144, 3) := by decide +kernel
theorem dX10_image_14 : decode cX10_image 14 = .ok (.ifCond .ne 7, 3) := by decide +kernel
theorem dX10_image_17 : decode cX10_image 17 = .ok (.iconst 1, 1) := by decide +kernel
theorem dX10_image_18 : decode cX10_image 18 = .ok (.goto 12, 3) := by decide +kernel
theorem dX10_image_21 : decode cX10_image 21 = .ok (.aload_n 1, 1) := by decide +kernel
theorem dX10_image_22 : decode cX10_image 22 = .ok (.ifnonnull 7, 3) := by decide +kernel
theorem dX10_image_25 : decode cX10_image 25 = .ok (.iconst 3, 1) := by decide +kernel
theorem dX10_image_26 : decode cX10_image 26 = .ok (.goto 4, 3) := by decide +kernel
theorem dX10_image_29 : decode cX10_image 29 = .ok (.iconst 0, 1) := by decide +kernel
theorem dX10_image_30 : decode cX10_image 30 = .ok (.invokevirtual 90, 3) := by decide +kernel
theorem dX10_image_33 : decode cX10_image 33 = .ok (.ifCond .ne 7, 3) := by decide +kernel
theorem dX10_image_36 : decode cX10_image 36 = .ok (.aload_n 1, 1) := by decide +kernel
theorem dX10_image_37 : decode cX10_image 37 = .ok (.ifnonnull 5, 3) := by decide +kernel
theorem dX10_image_40 : decode cX10_image 40 = .ok (.iconst (-1), 1) := by decide +kernel
theorem dX10_image_41 : decode cX10_image 41 = .ok (.ireturn, 1) := by decide +kernel
theorem dX10_image_42 : decode cX10_image 42 = .ok (.aload_n 1, 1) := by decide +kernel
theorem dX10_image_43 : decode cX10_image 43 = .ok (.aload_n 0, 1) := by decide +kernel
theorem dX10_image_44 : decode cX10_image 44 = .ok (.getfield 35, 3) := by decide +kernel
theorem dX10_image_47 : decode cX10_image 47 = .ok (.invokevirtual 336, 3) := by decide +kernel
theorem dX10_image_50 : decode cX10_image 50 = .ok (.aload_n 0, 1) := by decide +kernel
theorem dX10_image_51 : decode cX10_image 51 = .ok (.dup, 1) := by decide +kernel
theorem dX10_image_52 : decode cX10_image 52 = .ok (.getfield 329, 3) := by decide +kernel
theorem dX10_image_55 : decode cX10_image 55 = .ok (.iconst 1, 1) := by decide +kernel
theorem dX10_image_56 : decode cX10_image 56 = .ok (.iadd, 1) := by decide +kernel
theorem dX10_image_57 : decode cX10_image 57 = .ok (.putfield 329, 3) := by decide +kernel
theorem dX10_image_60 : decode cX10_image 60 = .ok (.aload_n 0, 1) := by decide +kernel
theorem dX10_image_61 : decode cX10_image 61 = .ok (.getfield 329, 3) := by decide +kernel
theorem dX10_image_64 : decode cX10_image 64 = .ok (.iconst 1, 1) := by decide +kernel
theorem dX10_image_65 : decode cX10_image 65 = .ok (.isub, 1) := by decide +kernel
theorem dX10_image_66 : decode cX10_image 66 = .ok (.ireturn, 1) := by decide +kernel
theorem dX10_back_0 : decode cX10_back 0 = .ok (.iload_n 1, 1) := by decide +kernel
theorem dX10_back_1 : decode cX10_back 1 = .ok (.aload_n 0, 1) := by decide +kernel
theorem dX10_back_2 : decode cX10_back 2 = .ok (.getfield 329, 3) := by decide +kernel
theorem dX10_back_5 : decode cX10_back 5 = .ok (.if_icmp .ge 11, 3) := by decide +kernel
theorem dX10_back_8 : decode cX10_back 8 = .ok (.aload_n 0, 1) := by decide +kernel
theorem dX10_back_9 : decode cX10_back 9 = .ok (.iload_n 1, 1) := by decide +kernel
theorem dX10_back_10 : decode cX10_back 10 = .ok (.invokevirtual 332, 3) := by decide +kernel
theorem dX10_back_13 : decode cX10_back 13 = .ok (.goto 4, 3) := by decide +kernel
theorem dX10_back_16 : decode cX10_back 16 = .ok (.aconst_null, 1) := by decide +kernel
theorem dX10_back_17 : decode cX10_back 17 = .ok (.astore_n 2, 1) := by decide +kernel
theorem dX10_back_18 : decode cX10_back 18 = .ok (.aload_n 0, 1) := by decide +kernel
theorem dX10_back_19 : decode cX10_back 19 = .ok (.aload_n 2, 1) := by decide +kernel
theorem dX10_back_20 : decode cX10_back 20 = .ok (.ifnonnull 7, 3) := by decide +kernel
theorem dX10_back_23 : decode cX10_back 23 = .ok (.iconst 1, 1) := by decide +kernel
theorem dX10_back_24 : decode cX10_back 24 = .ok (.goto 4, 3) := by decide +kernel
theorem dX10_back_27 : decode cX10_back 27 = .ok (.iconst 0, 1) := by decide +kernel
theorem dX10_back_28 : decode cX10_back 28 = .ok (.invokevirtual 90, 3) := by decide +kernel
theorem dX10_back_31 : decode cX10_back 31 = .ok (.ifCond .ne 7, 3) := by decide +kernel
theorem dX10_back_34 : decode cX10_back 34 = .ok (.aload_n 2, 1) := by decide +kernel
theorem dX10_back_35 : decode cX10_back 35 = .ok (.ifnonnull 5, 3) := by decide +kernel
theorem dX10_back_38 : decode cX10_back 38 = .ok (.iconst 0, 1) := by decide +kernel
theorem dX10_back_39 : decode cX10_back 39 = .ok (.ireturn, 1) := by decide +kernel
theorem dX10_back_40 : decode cX10_back 40 = .ok (.aload_n 0, 1) := by decide +kernel
theorem dX10_back_41 : decode cX10_back 41 = .ok (.getfield 35, 3) := by decide +kernel
theorem dX10_back_44 : decode cX10_back 44 = .ok (.aload_n 2, 1) := by decide +kernel
theorem dX10_back_45 : decode cX10_back 45 = .ok (.invokevirtual 336, 3) := by decide +kernel
theorem dX10_back_48 : decode cX10_back 48 = .ok (.aload_n 0, 1) := by decide +kernel
theorem dX10_back_49 : decode cX10_back 49 = .ok (.getfield 46, 3) := by decide +kernel
theorem dX10_back_52 : decode cX10_back 52 = .ok (.invokevirtual 339, 3) := by decide +kernel
theorem dX10_back_55 : decode cX10_back 55 = .ok (.iconst 1, 1) := by decide +kernel
theorem dX10_back_56 : decode cX10_back 56 = .ok (.ireturn, 1) := by decide +kernel
theorem dX10_size_0 : decode cX10_size 0 = .ok (.iload_n 1, 1) := by decide +kernel
theorem dX10_size_1 : decode cX10_size 1 = .ok (.tableswitch 174 0 11 #[63, 71, 79, 90, 101, 112, 123, 134, 145, 156, 164, 169], 63) := by decide +kernel
theorem dX10_size_64 : decode cX10_size 64 = .ok (.aload_n 0, 1) := by decide +kernel
theorem dX10_size_65 : decode cX10_size 65 = .ok (.getfield 16, 3) := by decide +kernel
theorem dX10_size_68 : decode cX10_size 68 = .ok (.getfield 345, 3) := by decide +kernel
theorem dX10_size_71 : decode cX10_size 71 = .ok (.ireturn, 1) := by decide +kernel
theorem dX10_size_72 : decode cX10_size 72 = .ok (.aload_n 0, 1) := by decide +kernel
theorem dX10_size_73 : decode cX10_size 73 = .ok (.getfield 16, 3) := by decide +kernel
theorem dX10_size_76 : decode cX10_size 76 = .ok (.getfield 347, 3) := by decide +kernel
theorem dX10_size_79 : decode cX10_size 79 = .ok (.ireturn, 1) := by decide +kernel
theorem dX10_size_80 : decode cX10_size 80 = .ok (.aload_n 0, 1) := by decide +kernel
theorem dX10_size_81 : decode cX10_size 81 = .ok (.getfield 16, 3) := by decide +kernel
theorem dX10_size_84 : decode cX10_size 84 = .ok (.getfield 134, 3) := by decide +kernel
theorem dX10_size_87 : decode cX10_size 87 = .ok (.getfield 108, 3) := by decide +kernel
theorem dX10_size_90 : decode cX10_size 90 = .ok (.ireturn, 1) := by decide +kernel
theorem dX10_size_91 : decode cX10_size 91 = .ok (.aload_n 0, 1) := by decide +kernel
theorem dX10_size_92 : decode cX10_size 92 = .ok (.getfield 16, 3) := by decide +kernel
theorem dX10_size_95 : decode cX10_size 95 = .ok (.getfield 148, 3) := by decide +kernel
theorem dX10_size_98 : decode cX10_size 98 = .ok (.getfield 108, 3) := by decide +kernel
theorem dX10_size_101 : decode cX10_size 101 = .ok (.ireturn, 1) := by decide +kernel
theorem dX10_size_102 : decode cX10_size 102 = .ok (.aload_n 0, 1) := by decide +kernel
theorem dX10_size_103 : decode cX10_size 103 = .ok (.getfield 16, 3) := by decide +kernel
theorem dX10_size_106 : decode cX10_size 106 = .ok (.getfield 104, 3) := by decide +kernel
theorem dX10_size_109 : decode cX10_size 109 = .ok (.getfield 108, 3) := by decide +kernel
theorem dX10_size_112 : decode cX10_size 112 = .ok (.ireturn, 1) := by decide +kernel
theorem dX10_size_113 : decode cX10_size 113 = .ok (.aload_n 0, 1) := by decide +kernel
theorem dX10_size_114 : decode cX10_size 114 = .ok (.getfield 16, 3) := by decide +kernel
theorem dX10_size_117 : decode cX10_size 117 = .ok (.getfield 350, 3) := by decide +kernel
theorem dX10_size_120 : decode cX10_size 120 = .ok (.getfield 108, 3) := by decide +kernel
theorem dX10_size_123 : decode cX10_size 123 = .ok (.ireturn, 1) := by decide +kernel
theorem dX10_size_124 : decode cX10_size 124 = .ok (.aload_n 0, 1) := by decide +kernel
theorem dX10_size_125 : decode cX10_size 125 = .ok (.getfield 16, 3) := by decide +kernel
theorem dX10_size_128 : decode cX10_size 128 = .ok (.getfield 353, 3) := by decide +kernel
theorem dX10_size_131 : decode cX10_size 131 = .ok (.getfield 108, 3) := by decide +kernel
theorem dX10_size_134 : decode cX10_size 134 = .ok (.ireturn, 1) := by decide +kernel
theorem dX10_size_135 : decode cX10_size 135 = .ok (.aload_n 0, 1) := by decide +kernel
theorem dX10_size_136 : decode cX10_size 136 = .ok (.getfield 16, 3) := by decide +kernel
theorem dX10_size_139 : decode cX10_size 139 = .ok (.getfield 356, 3) := by decide +kernel
theorem dX10_size_142 : decode cX10_size 142 = .ok (.getfield 108, 3) := by decide +kernel
theorem dX10_size_145 : decode cX10_size 145 = .ok (.ireturn, 1) := by decide +kernel
theorem dX10_size_146 : decode cX10_size 146 = .ok (.aload_n 0, 1) := by decide +kernel
theorem dX10_size_147 : decode cX10_size 147 = .ok (.getfield 16, 3) := by decide +kernel
theorem dX10_size_150 : decode cX10_size 150 = .ok (.getfield 359, 3) := by decide +kernel
theorem dX10_size_153 : decode cX10_size 153 = .ok (.getfield 108, 3) := by decide +kernel
theorem dX10_size_156 : decode cX10_size 156 = .ok (.ireturn, 1) := by decide +kernel
theorem dX10_size_157 : decode cX10_size 157 = .ok (.aload_n 0, 1) := by decide +kernel
theorem dX10_size_158 : decode cX10_size 158 = .ok (.getfield 46, 3) := by decide +kernel
theorem dX10_size_161 : decode cX10_size 161 = .ok (.getfield 323, 3) := by decide +kernel
theorem dX10_size_164 : decode cX10_size 164 = .ok (.ireturn, 1) := by decide +kernel
theorem dX10_size_165 : decode cX10_size 165 = .ok (.aload_n 0, 1) := by decide +kernel
theorem dX10_size_166 : decode cX10_size 166 = .ok (.getfield 329, 3) := by decide +kernel
theorem dX10_size_169 : decode cX10_size 169 = .ok (.ireturn, 1) := by decide +kernel
theorem dX10_size_170 : decode cX10_size 170 = .ok (.aload_n 0, 1) := by decide +kernel
theorem dX10_size_171 : decode cX10_size 171 = .ok (.getfield 82, 3) := by decide +kernel
theorem dX10_size_174 : decode cX10_size 174 = .ok (.ireturn, 1) := by decide +kernel
theorem dX10_size_175 : decode cX10_size 175 = .ok (.iconst (-1), 1) := by decide +kernel
theorem dX10_size_176 : decode cX10_size 176 = .ok (.ireturn, 1) := by decide +kernel
theorem dX10_trouble_0 : decode cX10_trouble 0 = .ok (.aload_n 0, 1) := by decide +kernel
theorem dX10_trouble_1 : decode cX10_trouble 1 = .ok (.getfield 113, 3) := by decide +kernel
theorem dX10_trouble_4 : decode cX10_trouble 4 = .ok (.ireturn, 1) := by decide +kernel
def M_X10_init : MD := (yX10_init, cX10_init, 2, none, 4, 84, 74, 2439)
theorem ci_X10_init : CIo M_X10_init 0 := ⟨⟨wd_135, wd_109, ⟨by decide, by decide⟩, by decide +kernel⟩, wd_134, rfl, rfl⟩
def X10_init (a0 : Nat) (h : Hp) : Option (Hp) :=
  if (900 : Int32) < 0 ∨ Int32.toNatClampNeg 900 ≠ 900 then none else
  pin (nw h (.inl (0, 900, .inl (fun _ => 0)))) fun h1 =>
  (pF h1 a0 10 0 (.ref h.1)).bind fun h2 =>
  pin (nw h2 (.inr (9, [.null, .null, .null, .null, .null, .null, .null, .int 0, .int 0, .int 0, .int 0, .int 0]))) fun h3 =>
  (X9_init h2.1 h3).bind fun h4 =>
  (pF h4 a0 10 9 (.ref h2.1)).bind fun h5 =>
  pin (nw h5 (.inr (9, [.null, .null, .null, .null, .null, .null, .null, .int 0, .int 0, .int 0, .int 0, .int 0]))) fun h6 =>
  (X9_init h5.1 h6).bind fun h7 =>
  (pF h7 a0 10 10 (.ref h5.1)).bind fun h8 =>
  pin (nw h8 (.inr (5, [.null, .null, .null, .null, .int 0, .int 0, .int 0, .int 0, .long 0, .int 0, .int 0, .int 0, .int 0]))) fun h9 =>
  (gR h9 a0 10 0).bind fun v10 =>
  (gR h9 a0 10 10).bind fun v11 =>
  (X5_init h8.1 v10 v11 h9).bind fun h12 =>
  (pF h12 a0 10 1 (.ref h8.1)).bind fun h13 =>
  pin (nw h13 (.inr (4, [.null, .null, .int 0]))) fun h14 =>
  (X4_init h13.1 h14).bind fun h15 =>
  (pF h15 a0 10 2 (.ref h13.1)).bind fun h16 =>
  if (3 : Int32) < 0 ∨ Int32.toNatClampNeg 3 ≠ 3 then none else
  pin (nw h16 (.inl (3, 3, .inr (.inr (.inr (.inr (fun _ => none))))))) fun h17 =>
  (pF h17 a0 10 3 (.ref h16.1)).bind fun h18 =>
  (gR h18 a0 10 3).bind fun v19 =>
  (aN h18 v19).bind fun v20 =>
  if v20 ≤ 0 then (
    pin (nw h18 (.inr (0, [.null, .int 0, .int 0]))) fun h21 =>
    (X0_init h18.1 h21).bind fun h22 =>
    (pF h22 a0 10 4 (.ref h18.1)).bind fun h23 =>
    pin (nw h23 (.inr (6, [.null, .null, .null, .null, .int 0]))) fun h24 =>
    (gR h24 a0 10 9).bind fun v25 =>
    (X6_init h23.1 v25 h24).bind fun h26 =>
    (pF h26 a0 10 5 (.ref h23.1)).bind fun h27 =>
    pin (nw h27 (.inr (1, [.null, .null]))) fun h28 =>
    (gR h28 a0 10 5).bind fun v29 =>
    (X1_init h27.1 v29 h28).bind fun h30 =>
    (pF h30 a0 10 6 (.ref h27.1)).bind fun h31 =>
    pin (nw h31 (.inr (3, [.null, .null]))) fun h32 =>
    (gR h32 a0 10 5).bind fun v33 =>
    (X3_init h31.1 v33 h32).bind fun h34 =>
    (pF h34 a0 10 7 (.ref h31.1)).bind fun h35 =>
    pin (nw h35 (.inr (2, [.null, .long 0, .long 0]))) fun h36 =>
    (gR h36 a0 10 5).bind fun v37 =>
    (X2_init h35.1 v37 h36).bind fun h38 =>
    (pF h38 a0 10 8 (.ref h35.1)).bind fun h39 =>
    some h39)
  else (
    (gR h18 a0 10 3).bind fun v40 =>
    pin (nw h18 (.inr (4, [.null, .null, .int 0]))) fun h41 =>
    (X4_init h18.1 h41).bind fun h42 =>
    (sR h42 v40 0 h18.1).bind fun h43 =>
    (gR h43 a0 10 3).bind fun v44 =>
    (aN h43 v44).bind fun v45 =>
    if v45 ≤ (0 + 1) then (
      pin (nw h43 (.inr (0, [.null, .int 0, .int 0]))) fun h46 =>
      (X0_init h43.1 h46).bind fun h47 =>
      (pF h47 a0 10 4 (.ref h43.1)).bind fun h48 =>
      pin (nw h48 (.inr (6, [.null, .null, .null, .null, .int 0]))) fun h49 =>
      (gR h49 a0 10 9).bind fun v50 =>
      (X6_init h48.1 v50 h49).bind fun h51 =>
      (pF h51 a0 10 5 (.ref h48.1)).bind fun h52 =>
      pin (nw h52 (.inr (1, [.null, .null]))) fun h53 =>
      (gR h53 a0 10 5).bind fun v54 =>
      (X1_init h52.1 v54 h53).bind fun h55 =>
      (pF h55 a0 10 6 (.ref h52.1)).bind fun h56 =>
      pin (nw h56 (.inr (3, [.null, .null]))) fun h57 =>
      (gR h57 a0 10 5).bind fun v58 =>
      (X3_init h56.1 v58 h57).bind fun h59 =>
      (pF h59 a0 10 7 (.ref h56.1)).bind fun h60 =>
      pin (nw h60 (.inr (2, [.null, .long 0, .long 0]))) fun h61 =>
      (gR h61 a0 10 5).bind fun v62 =>
      (X2_init h60.1 v62 h61).bind fun h63 =>
      (pF h63 a0 10 8 (.ref h60.1)).bind fun h64 =>
      some h64)
    else (
      (gR h43 a0 10 3).bind fun v65 =>
      pin (nw h43 (.inr (4, [.null, .null, .int 0]))) fun h66 =>
      (X4_init h43.1 h66).bind fun h67 =>
      (sR h67 v65 (0 + 1) h43.1).bind fun h68 =>
      (gR h68 a0 10 3).bind fun v69 =>
      (aN h68 v69).bind fun v70 =>
      if v70 ≤ ((0 + 1) + 1) then (
        pin (nw h68 (.inr (0, [.null, .int 0, .int 0]))) fun h71 =>
        (X0_init h68.1 h71).bind fun h72 =>
        (pF h72 a0 10 4 (.ref h68.1)).bind fun h73 =>
        pin (nw h73 (.inr (6, [.null, .null, .null, .null, .int 0]))) fun h74 =>
        (gR h74 a0 10 9).bind fun v75 =>
        (X6_init h73.1 v75 h74).bind fun h76 =>
        (pF h76 a0 10 5 (.ref h73.1)).bind fun h77 =>
        pin (nw h77 (.inr (1, [.null, .null]))) fun h78 =>
        (gR h78 a0 10 5).bind fun v79 =>
        (X1_init h77.1 v79 h78).bind fun h80 =>
        (pF h80 a0 10 6 (.ref h77.1)).bind fun h81 =>
        pin (nw h81 (.inr (3, [.null, .null]))) fun h82 =>
        (gR h82 a0 10 5).bind fun v83 =>
        (X3_init h81.1 v83 h82).bind fun h84 =>
        (pF h84 a0 10 7 (.ref h81.1)).bind fun h85 =>
        pin (nw h85 (.inr (2, [.null, .long 0, .long 0]))) fun h86 =>
        (gR h86 a0 10 5).bind fun v87 =>
        (X2_init h85.1 v87 h86).bind fun h88 =>
        (pF h88 a0 10 8 (.ref h85.1)).bind fun h89 =>
        some h89)
      else (
        (gR h68 a0 10 3).bind fun v90 =>
        pin (nw h68 (.inr (4, [.null, .null, .int 0]))) fun h91 =>
        (X4_init h68.1 h91).bind fun h92 =>
        (sR h92 v90 ((0 + 1) + 1) h68.1).bind fun h93 =>
        (gR h93 a0 10 3).bind fun v94 =>
        (aN h93 v94).bind fun v95 =>
        if v95 ≤ (((0 + 1) + 1) + 1) then (
          pin (nw h93 (.inr (0, [.null, .int 0, .int 0]))) fun h96 =>
          (X0_init h93.1 h96).bind fun h97 =>
          (pF h97 a0 10 4 (.ref h93.1)).bind fun h98 =>
          pin (nw h98 (.inr (6, [.null, .null, .null, .null, .int 0]))) fun h99 =>
          (gR h99 a0 10 9).bind fun v100 =>
          (X6_init h98.1 v100 h99).bind fun h101 =>
          (pF h101 a0 10 5 (.ref h98.1)).bind fun h102 =>
          pin (nw h102 (.inr (1, [.null, .null]))) fun h103 =>
          (gR h103 a0 10 5).bind fun v104 =>
          (X1_init h102.1 v104 h103).bind fun h105 =>
          (pF h105 a0 10 6 (.ref h102.1)).bind fun h106 =>
          pin (nw h106 (.inr (3, [.null, .null]))) fun h107 =>
          (gR h107 a0 10 5).bind fun v108 =>
          (X3_init h106.1 v108 h107).bind fun h109 =>
          (pF h109 a0 10 7 (.ref h106.1)).bind fun h110 =>
          pin (nw h110 (.inr (2, [.null, .long 0, .long 0]))) fun h111 =>
          (gR h111 a0 10 5).bind fun v112 =>
          (X2_init h110.1 v112 h111).bind fun h113 =>
          (pF h113 a0 10 8 (.ref h110.1)).bind fun h114 =>
          some h114)
        else (
          (gR h93 a0 10 3).bind fun v115 =>
          pin (nw h93 (.inr (4, [.null, .null, .int 0]))) fun h116 =>
          (X4_init h93.1 h116).bind fun h117 =>
          (sR h117 v115 (((0 + 1) + 1) + 1) h93.1).bind fun h118 =>
          none))))
theorem X10_init_ok {a0 : Nat} {h h' : Hp} (H : X10_init a0 h = some h') : Con M_X10_init [.ref a0] h none h' := by
  refine con_of_go (by decide) 1 (L := [some (.ref a0), none]) rfl (Nat.le_of_ble_eq_true rfl) ?_
  unfold X10_init at H
  refine go_aload_n (pc := 0) dX10_init_0 rfl rfl ?_
  refine go_objInit (pc := 1) dX10_init_1 wd_136 wd_137 wd_138 (Nat.le_of_ble_eq_true rfl) (Nat.le_of_ble_eq_true rfl) ?_
  refine go_aload_n (pc := 4) dX10_init_4 rfl rfl ?_
  refine go_sipush (pc := 5) (v := 900) dX10_init_5 (by decide) ?_
  refine go_newB (pc := 8) (N := 900) dX10_init_8 wd_175 H (Nat.le_of_ble_eq_true rfl) (Nat.le_of_ble_eq_true rfl) (Nat.le_of_ble_eq_true rfl) (fun H => ?_)
  refine go_pinH H (fun h1 H => ?_)
  refine go_putAF (pc := 10) dX10_init_10 fs_X10_9 ⟨rfl, _, rfl, rfl⟩ H (fun h2 H => ?_)
  refine go_aload_n (pc := 13) dX10_init_13 rfl rfl ?_
  refine go_new (pc := 14) dX10_init_14 nl_X10_13 (Nat.le_of_ble_eq_true rfl) (Nat.le_of_ble_eq_true rfl) ?_
  refine go_pinH H (fun h3 H => ?_)
  refine go_dup (pc := 17) dX10_init_17 rfl ?_
  refine go_cINv (host := "GlassWatch") (pc := 18) (Mz := M_X9_init) (as := []) (a := h2.1) (st := [.ref h2.1, .ref a0]) dX10_init_18 (by decide +kernel) ci_X9_init X9_init_ok rfl rfl ⟨Nat.le_of_ble_eq_true rfl, Nat.le_of_ble_eq_true rfl⟩ (Nat.le_of_ble_eq_true rfl) ⟨Nat.le_of_ble_eq_true rfl, Nat.le_of_ble_eq_true rfl⟩ H (fun h4 H => ?_)
  refine go_putR (pc := 21) dX10_init_21 fs_X10_16 H (fun h5 H => ?_)
  refine go_aload_n (pc := 24) dX10_init_24 rfl rfl ?_
  refine go_new (pc := 25) dX10_init_25 nl_X10_13 (Nat.le_of_ble_eq_true rfl) (Nat.le_of_ble_eq_true rfl) ?_
  refine go_pinH H (fun h6 H => ?_)
  refine go_dup (pc := 28) dX10_init_28 rfl ?_
  refine go_cINv (host := "GlassWatch") (pc := 29) (Mz := M_X9_init) (as := []) (a := h5.1) (st := [.ref h5.1, .ref a0]) dX10_init_29 (by decide +kernel) ci_X9_init X9_init_ok rfl rfl ⟨Nat.le_of_ble_eq_true rfl, Nat.le_of_ble_eq_true rfl⟩ (Nat.le_of_ble_eq_true rfl) ⟨Nat.le_of_ble_eq_true rfl, Nat.le_of_ble_eq_true rfl⟩ H (fun h7 H => ?_)
  refine go_putR (pc := 32) dX10_init_32 fs_X10_20 H (fun h8 H => ?_)
  refine go_aload_n (pc := 35) dX10_init_35 rfl rfl ?_
  refine go_new (pc := 36) dX10_init_36 nl_X10_23 (Nat.le_of_ble_eq_true rfl) (Nat.le_of_ble_eq_true rfl) ?_
  refine go_pinH H (fun h9 H => ?_)
  refine go_dup (pc := 39) dX10_init_39 rfl ?_
  refine go_aload_n (pc := 40) dX10_init_40 rfl rfl ?_
  refine go_getR (pc := 41) dX10_init_41 fl_X10_9 H (fun v10 H => ?_)
  refine go_aload_n (pc := 44) dX10_init_44 rfl rfl ?_
  refine go_getR (pc := 45) dX10_init_45 fl_X10_20 H (fun v11 H => ?_)
  refine go_cIv (pc := 48) (Mz := M_X5_init) (as := [.ref v10, .ref v11]) (a := h8.1) (st := [.ref h8.1, .ref a0]) dX10_init_48 wd_254 ci_X5_init X5_init_ok rfl rfl ⟨Nat.le_of_ble_eq_true rfl, Nat.le_of_ble_eq_true rfl⟩ (Nat.le_of_ble_eq_true rfl) ⟨Nat.le_of_ble_eq_true rfl, Nat.le_of_ble_eq_true rfl⟩ H (fun h12 H => ?_)
  refine go_putRF (pc := 51) dX10_init_51 fs_X10_28 ⟨rfl, _, rfl, rfl⟩ H (fun h13 H => ?_)
  refine go_aload_n (pc := 54) dX10_init_54 rfl rfl ?_
  refine go_new (pc := 55) dX10_init_55 nl_X10_32 (Nat.le_of_ble_eq_true rfl) (Nat.le_of_ble_eq_true rfl) ?_
  refine go_pinH H (fun h14 H => ?_)
  refine go_dup (pc := 58) dX10_init_58 rfl ?_
  refine go_cINv (host := "GlassWatch") (pc := 59) (Mz := M_X4_init) (as := []) (a := h13.1) (st := [.ref h13.1, .ref a0]) dX10_init_59 (by decide +kernel) ci_X4_init X4_init_ok rfl rfl ⟨Nat.le_of_ble_eq_true rfl, Nat.le_of_ble_eq_true rfl⟩ (Nat.le_of_ble_eq_true rfl) ⟨Nat.le_of_ble_eq_true rfl, Nat.le_of_ble_eq_true rfl⟩ H (fun h15 H => ?_)
  refine go_putRF (pc := 62) dX10_init_62 fs_X10_35 ⟨rfl, _, rfl, rfl⟩ H (fun h16 H => ?_)
  refine go_aload_n (pc := 65) dX10_init_65 rfl rfl ?_
  refine go_iconst (pc := 66) (v := 3) dX10_init_66 (by decide) ?_
  refine go_newA (pc := 67) (N := 3) dX10_init_67 wd_301 H (Nat.le_of_ble_eq_true rfl) (Nat.le_of_ble_eq_true rfl) (Nat.le_of_ble_eq_true rfl) (fun H => ?_)
  refine go_pinH H (fun h17 H => ?_)
  refine go_putAF (pc := 70) dX10_init_70 fs_X10_39 ⟨rfl, _, rfl, rfl⟩ H (fun h18 H => ?_)
  refine go_iconst (pc := 73) (v := 0) dX10_init_73 (by decide) ?_
  refine go_istore_n (pc := 74) (L' := [some (.ref a0), some (.int 0)]) dX10_init_74 rfl (Nat.le_of_ble_eq_true rfl) rfl ?_
  refine go_iload_n (pc := 75) dX10_init_75 rfl rfl ?_
  refine go_aload_n (pc := 76) dX10_init_76 rfl rfl ?_
  refine go_getR (pc := 77) dX10_init_77 fl_X10_39 H (fun v19 H => ?_)
  refine go_alen (pc := 80) dX10_init_80 H (fun v20 H => ?_)
  refine go_icmp_ge (pc := 81) (tgt := 103) dX10_init_81 (by decide) H (fun H => ?_) (fun H => ?_)
  · refine go_aload_n (pc := 103) dX10_init_103 rfl rfl ?_
    refine go_new (pc := 104) dX10_init_104 nl_X10_43 (Nat.le_of_ble_eq_true rfl) (Nat.le_of_ble_eq_true rfl) ?_
    refine go_pinH H (fun h21 H => ?_)
    refine go_dup (pc := 107) dX10_init_107 rfl ?_
    refine go_cINv (host := "GlassWatch") (pc := 108) (Mz := M_X0_init) (as := []) (a := h18.1) (st := [.ref h18.1, .ref a0]) dX10_init_108 (by decide +kernel) ci_X0_init X0_init_ok rfl rfl ⟨Nat.le_of_ble_eq_true rfl, Nat.le_of_ble_eq_true rfl⟩ (Nat.le_of_ble_eq_true rfl) ⟨Nat.le_of_ble_eq_true rfl, Nat.le_of_ble_eq_true rfl⟩ H (fun h22 H => ?_)
    refine go_putRF (pc := 111) dX10_init_111 fs_X10_46 ⟨rfl, _, rfl, rfl⟩ H (fun h23 H => ?_)
    refine go_aload_n (pc := 114) dX10_init_114 rfl rfl ?_
    refine go_new (pc := 115) dX10_init_115 nl_X10_50 (Nat.le_of_ble_eq_true rfl) (Nat.le_of_ble_eq_true rfl) ?_
    refine go_pinH H (fun h24 H => ?_)
    refine go_dup (pc := 118) dX10_init_118 rfl ?_
    refine go_aload_n (pc := 119) dX10_init_119 rfl rfl ?_
    refine go_getR (pc := 120) dX10_init_120 fl_X10_16 H (fun v25 H => ?_)
    refine go_cIv (pc := 123) (Mz := M_X6_init) (as := [.ref v25]) (a := h23.1) (st := [.ref h23.1, .ref a0]) dX10_init_123 wd_349 ci_X6_init X6_init_ok rfl rfl ⟨Nat.le_of_ble_eq_true rfl, Nat.le_of_ble_eq_true rfl⟩ (Nat.le_of_ble_eq_true rfl) ⟨Nat.le_of_ble_eq_true rfl, Nat.le_of_ble_eq_true rfl⟩ H (fun h26 H => ?_)
    refine go_putRF (pc := 126) dX10_init_126 fs_X10_55 ⟨rfl, _, rfl, rfl⟩ H (fun h27 H => ?_)
    refine go_aload_n (pc := 129) dX10_init_129 rfl rfl ?_
    refine go_new (pc := 130) dX10_init_130 nl_X10_59 (Nat.le_of_ble_eq_true rfl) (Nat.le_of_ble_eq_true rfl) ?_
    refine go_pinH H (fun h28 H => ?_)
    refine go_dup (pc := 133) dX10_init_133 rfl ?_
    refine go_aload_n (pc := 134) dX10_init_134 rfl rfl ?_
    refine go_getR (pc := 135) dX10_init_135 fl_X10_55 H (fun v29 H => ?_)
    refine go_cIv (pc := 138) (Mz := M_X1_init) (as := [.ref v29]) (a := h27.1) (st := [.ref h27.1, .ref a0]) dX10_init_138 wd_407 ci_X1_init X1_init_ok rfl rfl ⟨Nat.le_of_ble_eq_true rfl, Nat.le_of_ble_eq_true rfl⟩ (Nat.le_of_ble_eq_true rfl) ⟨Nat.le_of_ble_eq_true rfl, Nat.le_of_ble_eq_true rfl⟩ H (fun h30 H => ?_)
    refine go_putRF (pc := 141) dX10_init_141 fs_X10_64 ⟨rfl, _, rfl, rfl⟩ H (fun h31 H => ?_)
    refine go_aload_n (pc := 144) dX10_init_144 rfl rfl ?_
    refine go_new (pc := 145) dX10_init_145 nl_X10_68 (Nat.le_of_ble_eq_true rfl) (Nat.le_of_ble_eq_true rfl) ?_
    refine go_pinH H (fun h32 H => ?_)
    refine go_dup (pc := 148) dX10_init_148 rfl ?_
    refine go_aload_n (pc := 149) dX10_init_149 rfl rfl ?_
    refine go_getR (pc := 150) dX10_init_150 fl_X10_55 H (fun v33 H => ?_)
    refine go_cIv (pc := 153) (Mz := M_X3_init) (as := [.ref v33]) (a := h31.1) (st := [.ref h31.1, .ref a0]) dX10_init_153 wd_422 ci_X3_init X3_init_ok rfl rfl ⟨Nat.le_of_ble_eq_true rfl, Nat.le_of_ble_eq_true rfl⟩ (Nat.le_of_ble_eq_true rfl) ⟨Nat.le_of_ble_eq_true rfl, Nat.le_of_ble_eq_true rfl⟩ H (fun h34 H => ?_)
    refine go_putRF (pc := 156) dX10_init_156 fs_X10_71 ⟨rfl, _, rfl, rfl⟩ H (fun h35 H => ?_)
    refine go_aload_n (pc := 159) dX10_init_159 rfl rfl ?_
    refine go_new (pc := 160) dX10_init_160 nl_X10_75 (Nat.le_of_ble_eq_true rfl) (Nat.le_of_ble_eq_true rfl) ?_
    refine go_pinH H (fun h36 H => ?_)
    refine go_dup (pc := 163) dX10_init_163 rfl ?_
    refine go_aload_n (pc := 164) dX10_init_164 rfl rfl ?_
    refine go_getR (pc := 165) dX10_init_165 fl_X10_55 H (fun v37 H => ?_)
    refine go_cIv (pc := 168) (Mz := M_X2_init) (as := [.ref v37]) (a := h35.1) (st := [.ref h35.1, .ref a0]) dX10_init_168 wd_437 ci_X2_init X2_init_ok rfl rfl ⟨Nat.le_of_ble_eq_true rfl, Nat.le_of_ble_eq_true rfl⟩ (Nat.le_of_ble_eq_true rfl) ⟨Nat.le_of_ble_eq_true rfl, Nat.le_of_ble_eq_true rfl⟩ H (fun h38 H => ?_)
    refine go_putRF (pc := 171) dX10_init_171 fs_X10_78 ⟨rfl, _, rfl, rfl⟩ H (fun h39 H => ?_)
    exact go_vret (pc := 174) dX10_init_174 rfl ⟨Nat.le_of_ble_eq_true rfl, Nat.le_of_ble_eq_true rfl⟩ H
  · refine go_aload_n (pc := 84) dX10_init_84 rfl rfl ?_
    refine go_getR (pc := 85) dX10_init_85 fl_X10_39 H (fun v40 H => ?_)
    refine go_iload_n (pc := 88) dX10_init_88 rfl rfl ?_
    refine go_new (pc := 89) dX10_init_89 nl_X10_32 (Nat.le_of_ble_eq_true rfl) (Nat.le_of_ble_eq_true rfl) ?_
    refine go_pinH H (fun h41 H => ?_)
    refine go_dup (pc := 92) dX10_init_92 rfl ?_
    refine go_cINv (host := "GlassWatch") (pc := 93) (Mz := M_X4_init) (as := []) (a := h18.1) (st := [.ref h18.1, .int 0, .ref v40]) dX10_init_93 (by decide +kernel) ci_X4_init X4_init_ok rfl rfl ⟨Nat.le_of_ble_eq_true rfl, Nat.le_of_ble_eq_true rfl⟩ (Nat.le_of_ble_eq_true rfl) ⟨Nat.le_of_ble_eq_true rfl, Nat.le_of_ble_eq_true rfl⟩ H (fun h42 H => ?_)
    refine go_aastore (pc := 96) dX10_init_96 H (fun h43 H => ?_)
    refine go_iinc (pc := 97) (v := 0 + 1) (L' := [some (.ref a0), some (.int (0 + 1))]) dX10_init_97 rfl rfl (Nat.le_of_ble_eq_true rfl) rfl ?_
    refine go_goto (pc := 100) (tgt := 75) dX10_init_100 (by decide) ?_
    refine go_iload_n (pc := 75) dX10_init_75 rfl rfl ?_
    refine go_aload_n (pc := 76) dX10_init_76 rfl rfl ?_
    refine go_getR (pc := 77) dX10_init_77 fl_X10_39 H (fun v44 H => ?_)
    refine go_alen (pc := 80) dX10_init_80 H (fun v45 H => ?_)
    refine go_icmp_ge (pc := 81) (tgt := 103) dX10_init_81 (by decide) H (fun H => ?_) (fun H => ?_)
    · refine go_aload_n (pc := 103) dX10_init_103 rfl rfl ?_
      refine go_new (pc := 104) dX10_init_104 nl_X10_43 (Nat.le_of_ble_eq_true rfl) (Nat.le_of_ble_eq_true rfl) ?_
      refine go_pinH H (fun h46 H => ?_)
      refine go_dup (pc := 107) dX10_init_107 rfl ?_
      refine go_cINv (host := "GlassWatch") (pc := 108) (Mz := M_X0_init) (as := []) (a := h43.1) (st := [.ref h43.1, .ref a0]) dX10_init_108 (by decide +kernel) ci_X0_init X0_init_ok rfl rfl ⟨Nat.le_of_ble_eq_true rfl, Nat.le_of_ble_eq_true rfl⟩ (Nat.le_of_ble_eq_true rfl) ⟨Nat.le_of_ble_eq_true rfl, Nat.le_of_ble_eq_true rfl⟩ H (fun h47 H => ?_)
      refine go_putRF (pc := 111) dX10_init_111 fs_X10_46 ⟨rfl, _, rfl, rfl⟩ H (fun h48 H => ?_)
      refine go_aload_n (pc := 114) dX10_init_114 rfl rfl ?_
      refine go_new (pc := 115) dX10_init_115 nl_X10_50 (Nat.le_of_ble_eq_true rfl) (Nat.le_of_ble_eq_true rfl) ?_
      refine go_pinH H (fun h49 H => ?_)
      refine go_dup (pc := 118) dX10_init_118 rfl ?_
      refine go_aload_n (pc := 119) dX10_init_119 rfl rfl ?_
      refine go_getR (pc := 120) dX10_init_120 fl_X10_16 H (fun v50 H => ?_)
      refine go_cIv (pc := 123) (Mz := M_X6_init) (as := [.ref v50]) (a := h48.1) (st := [.ref h48.1, .ref a0]) dX10_init_123 wd_349 ci_X6_init X6_init_ok rfl rfl ⟨Nat.le_of_ble_eq_true rfl, Nat.le_of_ble_eq_true rfl⟩ (Nat.le_of_ble_eq_true rfl) ⟨Nat.le_of_ble_eq_true rfl, Nat.le_of_ble_eq_true rfl⟩ H (fun h51 H => ?_)
      refine go_putRF (pc := 126) dX10_init_126 fs_X10_55 ⟨rfl, _, rfl, rfl⟩ H (fun h52 H => ?_)
      refine go_aload_n (pc := 129) dX10_init_129 rfl rfl ?_
      refine go_new (pc := 130) dX10_init_130 nl_X10_59 (Nat.le_of_ble_eq_true rfl) (Nat.le_of_ble_eq_true rfl) ?_
      refine go_pinH H (fun h53 H => ?_)
      refine go_dup (pc := 133) dX10_init_133 rfl ?_
      refine go_aload_n (pc := 134) dX10_init_134 rfl rfl ?_
      refine go_getR (pc := 135) dX10_init_135 fl_X10_55 H (fun v54 H => ?_)
      refine go_cIv (pc := 138) (Mz := M_X1_init) (as := [.ref v54]) (a := h52.1) (st := [.ref h52.1, .ref a0]) dX10_init_138 wd_407 ci_X1_init X1_init_ok rfl rfl ⟨Nat.le_of_ble_eq_true rfl, Nat.le_of_ble_eq_true rfl⟩ (Nat.le_of_ble_eq_true rfl) ⟨Nat.le_of_ble_eq_true rfl, Nat.le_of_ble_eq_true rfl⟩ H (fun h55 H => ?_)
      refine go_putRF (pc := 141) dX10_init_141 fs_X10_64 ⟨rfl, _, rfl, rfl⟩ H (fun h56 H => ?_)
      refine go_aload_n (pc := 144) dX10_init_144 rfl rfl ?_
      refine go_new (pc := 145) dX10_init_145 nl_X10_68 (Nat.le_of_ble_eq_true rfl) (Nat.le_of_ble_eq_true rfl) ?_
      refine go_pinH H (fun h57 H => ?_)
      refine go_dup (pc := 148) dX10_init_148 rfl ?_
      refine go_aload_n (pc := 149) dX10_init_149 rfl rfl ?_
      refine go_getR (pc := 150) dX10_init_150 fl_X10_55 H (fun v58 H => ?_)
      refine go_cIv (pc := 153) (Mz := M_X3_init) (as := [.ref v58]) (a := h56.1) (st := [.ref h56.1, .ref a0]) dX10_init_153 wd_422 ci_X3_init X3_init_ok rfl rfl ⟨Nat.le_of_ble_eq_true rfl, Nat.le_of_ble_eq_true rfl⟩ (Nat.le_of_ble_eq_true rfl) ⟨Nat.le_of_ble_eq_true rfl, Nat.le_of_ble_eq_true rfl⟩ H (fun h59 H => ?_)
      refine go_putRF (pc := 156) dX10_init_156 fs_X10_71 ⟨rfl, _, rfl, rfl⟩ H (fun h60 H => ?_)
      refine go_aload_n (pc := 159) dX10_init_159 rfl rfl ?_
      refine go_new (pc := 160) dX10_init_160 nl_X10_75 (Nat.le_of_ble_eq_true rfl) (Nat.le_of_ble_eq_true rfl) ?_
      refine go_pinH H (fun h61 H => ?_)
      refine go_dup (pc := 163) dX10_init_163 rfl ?_
      refine go_aload_n (pc := 164) dX10_init_164 rfl rfl ?_
      refine go_getR (pc := 165) dX10_init_165 fl_X10_55 H (fun v62 H => ?_)
      refine go_cIv (pc := 168) (Mz := M_X2_init) (as := [.ref v62]) (a := h60.1) (st := [.ref h60.1, .ref a0]) dX10_init_168 wd_437 ci_X2_init X2_init_ok rfl rfl ⟨Nat.le_of_ble_eq_true rfl, Nat.le_of_ble_eq_true rfl⟩ (Nat.le_of_ble_eq_true rfl) ⟨Nat.le_of_ble_eq_true rfl, Nat.le_of_ble_eq_true rfl⟩ H (fun h63 H => ?_)
      refine go_putRF (pc := 171) dX10_init_171 fs_X10_78 ⟨rfl, _, rfl, rfl⟩ H (fun h64 H => ?_)
      exact go_vret (pc := 174) dX10_init_174 rfl ⟨Nat.le_of_ble_eq_true rfl, Nat.le_of_ble_eq_true rfl⟩ H
    · refine go_aload_n (pc := 84) dX10_init_84 rfl rfl ?_
      refine go_getR (pc := 85) dX10_init_85 fl_X10_39 H (fun v65 H => ?_)
      refine go_iload_n (pc := 88) dX10_init_88 rfl rfl ?_
      refine go_new (pc := 89) dX10_init_89 nl_X10_32 (Nat.le_of_ble_eq_true rfl) (Nat.le_of_ble_eq_true rfl) ?_
      refine go_pinH H (fun h66 H => ?_)
      refine go_dup (pc := 92) dX10_init_92 rfl ?_
      refine go_cINv (host := "GlassWatch") (pc := 93) (Mz := M_X4_init) (as := []) (a := h43.1) (st := [.ref h43.1, .int (0 + 1), .ref v65]) dX10_init_93 (by decide +kernel) ci_X4_init X4_init_ok rfl rfl ⟨Nat.le_of_ble_eq_true rfl, Nat.le_of_ble_eq_true rfl⟩ (Nat.le_of_ble_eq_true rfl) ⟨Nat.le_of_ble_eq_true rfl, Nat.le_of_ble_eq_true rfl⟩ H (fun h67 H => ?_)
      refine go_aastore (pc := 96) dX10_init_96 H (fun h68 H => ?_)
      refine go_iinc (pc := 97) (v := (0 + 1) + 1) (L' := [some (.ref a0), some (.int ((0 + 1) + 1))]) dX10_init_97 rfl rfl (Nat.le_of_ble_eq_true rfl) rfl ?_
      refine go_goto (pc := 100) (tgt := 75) dX10_init_100 (by decide) ?_
      refine go_iload_n (pc := 75) dX10_init_75 rfl rfl ?_
      refine go_aload_n (pc := 76) dX10_init_76 rfl rfl ?_
      refine go_getR (pc := 77) dX10_init_77 fl_X10_39 H (fun v69 H => ?_)
      refine go_alen (pc := 80) dX10_init_80 H (fun v70 H => ?_)
      refine go_icmp_ge (pc := 81) (tgt := 103) dX10_init_81 (by decide) H (fun H => ?_) (fun H => ?_)
      · refine go_aload_n (pc := 103) dX10_init_103 rfl rfl ?_
        refine go_new (pc := 104) dX10_init_104 nl_X10_43 (Nat.le_of_ble_eq_true rfl) (Nat.le_of_ble_eq_true rfl) ?_
        refine go_pinH H (fun h71 H => ?_)
        refine go_dup (pc := 107) dX10_init_107 rfl ?_
        refine go_cINv (host := "GlassWatch") (pc := 108) (Mz := M_X0_init) (as := []) (a := h68.1) (st := [.ref h68.1, .ref a0]) dX10_init_108 (by decide +kernel) ci_X0_init X0_init_ok rfl rfl ⟨Nat.le_of_ble_eq_true rfl, Nat.le_of_ble_eq_true rfl⟩ (Nat.le_of_ble_eq_true rfl) ⟨Nat.le_of_ble_eq_true rfl, Nat.le_of_ble_eq_true rfl⟩ H (fun h72 H => ?_)
        refine go_putRF (pc := 111) dX10_init_111 fs_X10_46 ⟨rfl, _, rfl, rfl⟩ H (fun h73 H => ?_)
        refine go_aload_n (pc := 114) dX10_init_114 rfl rfl ?_
        refine go_new (pc := 115) dX10_init_115 nl_X10_50 (Nat.le_of_ble_eq_true rfl) (Nat.le_of_ble_eq_true rfl) ?_
        refine go_pinH H (fun h74 H => ?_)
        refine go_dup (pc := 118) dX10_init_118 rfl ?_
        refine go_aload_n (pc := 119) dX10_init_119 rfl rfl ?_
        refine go_getR (pc := 120) dX10_init_120 fl_X10_16 H (fun v75 H => ?_)
        refine go_cIv (pc := 123) (Mz := M_X6_init) (as := [.ref v75]) (a := h73.1) (st := [.ref h73.1, .ref a0]) dX10_init_123 wd_349 ci_X6_init X6_init_ok rfl rfl ⟨Nat.le_of_ble_eq_true rfl, Nat.le_of_ble_eq_true rfl⟩ (Nat.le_of_ble_eq_true rfl) ⟨Nat.le_of_ble_eq_true rfl, Nat.le_of_ble_eq_true rfl⟩ H (fun h76 H => ?_)
        refine go_putRF (pc := 126) dX10_init_126 fs_X10_55 ⟨rfl, _, rfl, rfl⟩ H (fun h77 H => ?_)
        refine go_aload_n (pc := 129) dX10_init_129 rfl rfl ?_
        refine go_new (pc := 130) dX10_init_130 nl_X10_59 (Nat.le_of_ble_eq_true rfl) (Nat.le_of_ble_eq_true rfl) ?_
        refine go_pinH H (fun h78 H => ?_)
        refine go_dup (pc := 133) dX10_init_133 rfl ?_
        refine go_aload_n (pc := 134) dX10_init_134 rfl rfl ?_
        refine go_getR (pc := 135) dX10_init_135 fl_X10_55 H (fun v79 H => ?_)
        refine go_cIv (pc := 138) (Mz := M_X1_init) (as := [.ref v79]) (a := h77.1) (st := [.ref h77.1, .ref a0]) dX10_init_138 wd_407 ci_X1_init X1_init_ok rfl rfl ⟨Nat.le_of_ble_eq_true rfl, Nat.le_of_ble_eq_true rfl⟩ (Nat.le_of_ble_eq_true rfl) ⟨Nat.le_of_ble_eq_true rfl, Nat.le_of_ble_eq_true rfl⟩ H (fun h80 H => ?_)
        refine go_putRF (pc := 141) dX10_init_141 fs_X10_64 ⟨rfl, _, rfl, rfl⟩ H (fun h81 H => ?_)
        refine go_aload_n (pc := 144) dX10_init_144 rfl rfl ?_
        refine go_new (pc := 145) dX10_init_145 nl_X10_68 (Nat.le_of_ble_eq_true rfl) (Nat.le_of_ble_eq_true rfl) ?_
        refine go_pinH H (fun h82 H => ?_)
        refine go_dup (pc := 148) dX10_init_148 rfl ?_
        refine go_aload_n (pc := 149) dX10_init_149 rfl rfl ?_
        refine go_getR (pc := 150) dX10_init_150 fl_X10_55 H (fun v83 H => ?_)
        refine go_cIv (pc := 153) (Mz := M_X3_init) (as := [.ref v83]) (a := h81.1) (st := [.ref h81.1, .ref a0]) dX10_init_153 wd_422 ci_X3_init X3_init_ok rfl rfl ⟨Nat.le_of_ble_eq_true rfl, Nat.le_of_ble_eq_true rfl⟩ (Nat.le_of_ble_eq_true rfl) ⟨Nat.le_of_ble_eq_true rfl, Nat.le_of_ble_eq_true rfl⟩ H (fun h84 H => ?_)
        refine go_putRF (pc := 156) dX10_init_156 fs_X10_71 ⟨rfl, _, rfl, rfl⟩ H (fun h85 H => ?_)
        refine go_aload_n (pc := 159) dX10_init_159 rfl rfl ?_
        refine go_new (pc := 160) dX10_init_160 nl_X10_75 (Nat.le_of_ble_eq_true rfl) (Nat.le_of_ble_eq_true rfl) ?_
        refine go_pinH H (fun h86 H => ?_)
        refine go_dup (pc := 163) dX10_init_163 rfl ?_
        refine go_aload_n (pc := 164) dX10_init_164 rfl rfl ?_
        refine go_getR (pc := 165) dX10_init_165 fl_X10_55 H (fun v87 H => ?_)
        refine go_cIv (pc := 168) (Mz := M_X2_init) (as := [.ref v87]) (a := h85.1) (st := [.ref h85.1, .ref a0]) dX10_init_168 wd_437 ci_X2_init X2_init_ok rfl rfl ⟨Nat.le_of_ble_eq_true rfl, Nat.le_of_ble_eq_true rfl⟩ (Nat.le_of_ble_eq_true rfl) ⟨Nat.le_of_ble_eq_true rfl, Nat.le_of_ble_eq_true rfl⟩ H (fun h88 H => ?_)
        refine go_putRF (pc := 171) dX10_init_171 fs_X10_78 ⟨rfl, _, rfl, rfl⟩ H (fun h89 H => ?_)
        exact go_vret (pc := 174) dX10_init_174 rfl ⟨Nat.le_of_ble_eq_true rfl, Nat.le_of_ble_eq_true rfl⟩ H
      · refine go_aload_n (pc := 84) dX10_init_84 rfl rfl ?_
        refine go_getR (pc := 85) dX10_init_85 fl_X10_39 H (fun v90 H => ?_)
        refine go_iload_n (pc := 88) dX10_init_88 rfl rfl ?_
        refine go_new (pc := 89) dX10_init_89 nl_X10_32 (Nat.le_of_ble_eq_true rfl) (Nat.le_of_ble_eq_true rfl) ?_
        refine go_pinH H (fun h91 H => ?_)
        refine go_dup (pc := 92) dX10_init_92 rfl ?_
        refine go_cINv (host := "GlassWatch") (pc := 93) (Mz := M_X4_init) (as := []) (a := h68.1) (st := [.ref h68.1, .int ((0 + 1) + 1), .ref v90]) dX10_init_93 (by decide +kernel) ci_X4_init X4_init_ok rfl rfl ⟨Nat.le_of_ble_eq_true rfl, Nat.le_of_ble_eq_true rfl⟩ (Nat.le_of_ble_eq_true rfl) ⟨Nat.le_of_ble_eq_true rfl, Nat.le_of_ble_eq_true rfl⟩ H (fun h92 H => ?_)
        refine go_aastore (pc := 96) dX10_init_96 H (fun h93 H => ?_)
        refine go_iinc (pc := 97) (v := ((0 + 1) + 1) + 1) (L' := [some (.ref a0), some (.int (((0 + 1) + 1) + 1))]) dX10_init_97 rfl rfl (Nat.le_of_ble_eq_true rfl) rfl ?_
        refine go_goto (pc := 100) (tgt := 75) dX10_init_100 (by decide) ?_
        refine go_iload_n (pc := 75) dX10_init_75 rfl rfl ?_
        refine go_aload_n (pc := 76) dX10_init_76 rfl rfl ?_
        refine go_getR (pc := 77) dX10_init_77 fl_X10_39 H (fun v94 H => ?_)
        refine go_alen (pc := 80) dX10_init_80 H (fun v95 H => ?_)
        refine go_icmp_ge (pc := 81) (tgt := 103) dX10_init_81 (by decide) H (fun H => ?_) (fun H => ?_)
        · refine go_aload_n (pc := 103) dX10_init_103 rfl rfl ?_
          refine go_new (pc := 104) dX10_init_104 nl_X10_43 (Nat.le_of_ble_eq_true rfl) (Nat.le_of_ble_eq_true rfl) ?_
          refine go_pinH H (fun h96 H => ?_)
          refine go_dup (pc := 107) dX10_init_107 rfl ?_
          refine go_cINv (host := "GlassWatch") (pc := 108) (Mz := M_X0_init) (as := []) (a := h93.1) (st := [.ref h93.1, .ref a0]) dX10_init_108 (by decide +kernel) ci_X0_init X0_init_ok rfl rfl ⟨Nat.le_of_ble_eq_true rfl, Nat.le_of_ble_eq_true rfl⟩ (Nat.le_of_ble_eq_true rfl) ⟨Nat.le_of_ble_eq_true rfl, Nat.le_of_ble_eq_true rfl⟩ H (fun h97 H => ?_)
          refine go_putRF (pc := 111) dX10_init_111 fs_X10_46 ⟨rfl, _, rfl, rfl⟩ H (fun h98 H => ?_)
          refine go_aload_n (pc := 114) dX10_init_114 rfl rfl ?_
          refine go_new (pc := 115) dX10_init_115 nl_X10_50 (Nat.le_of_ble_eq_true rfl) (Nat.le_of_ble_eq_true rfl) ?_
          refine go_pinH H (fun h99 H => ?_)
          refine go_dup (pc := 118) dX10_init_118 rfl ?_
          refine go_aload_n (pc := 119) dX10_init_119 rfl rfl ?_
          refine go_getR (pc := 120) dX10_init_120 fl_X10_16 H (fun v100 H => ?_)
          refine go_cIv (pc := 123) (Mz := M_X6_init) (as := [.ref v100]) (a := h98.1) (st := [.ref h98.1, .ref a0]) dX10_init_123 wd_349 ci_X6_init X6_init_ok rfl rfl ⟨Nat.le_of_ble_eq_true rfl, Nat.le_of_ble_eq_true rfl⟩ (Nat.le_of_ble_eq_true rfl) ⟨Nat.le_of_ble_eq_true rfl, Nat.le_of_ble_eq_true rfl⟩ H (fun h101 H => ?_)
          refine go_putRF (pc := 126) dX10_init_126 fs_X10_55 ⟨rfl, _, rfl, rfl⟩ H (fun h102 H => ?_)
          refine go_aload_n (pc := 129) dX10_init_129 rfl rfl ?_
          refine go_new (pc := 130) dX10_init_130 nl_X10_59 (Nat.le_of_ble_eq_true rfl) (Nat.le_of_ble_eq_true rfl) ?_
          refine go_pinH H (fun h103 H => ?_)
          refine go_dup (pc := 133) dX10_init_133 rfl ?_
          refine go_aload_n (pc := 134) dX10_init_134 rfl rfl ?_
          refine go_getR (pc := 135) dX10_init_135 fl_X10_55 H (fun v104 H => ?_)
          refine go_cIv (pc := 138) (Mz := M_X1_init) (as := [.ref v104]) (a := h102.1) (st := [.ref h102.1, .ref a0]) dX10_init_138 wd_407 ci_X1_init X1_init_ok rfl rfl ⟨Nat.le_of_ble_eq_true rfl, Nat.le_of_ble_eq_true rfl⟩ (Nat.le_of_ble_eq_true rfl) ⟨Nat.le_of_ble_eq_true rfl, Nat.le_of_ble_eq_true rfl⟩ H (fun h105 H => ?_)
          refine go_putRF (pc := 141) dX10_init_141 fs_X10_64 ⟨rfl, _, rfl, rfl⟩ H (fun h106 H => ?_)
          refine go_aload_n (pc := 144) dX10_init_144 rfl rfl ?_
          refine go_new (pc := 145) dX10_init_145 nl_X10_68 (Nat.le_of_ble_eq_true rfl) (Nat.le_of_ble_eq_true rfl) ?_
          refine go_pinH H (fun h107 H => ?_)
          refine go_dup (pc := 148) dX10_init_148 rfl ?_
          refine go_aload_n (pc := 149) dX10_init_149 rfl rfl ?_
          refine go_getR (pc := 150) dX10_init_150 fl_X10_55 H (fun v108 H => ?_)
          refine go_cIv (pc := 153) (Mz := M_X3_init) (as := [.ref v108]) (a := h106.1) (st := [.ref h106.1, .ref a0]) dX10_init_153 wd_422 ci_X3_init X3_init_ok rfl rfl ⟨Nat.le_of_ble_eq_true rfl, Nat.le_of_ble_eq_true rfl⟩ (Nat.le_of_ble_eq_true rfl) ⟨Nat.le_of_ble_eq_true rfl, Nat.le_of_ble_eq_true rfl⟩ H (fun h109 H => ?_)
          refine go_putRF (pc := 156) dX10_init_156 fs_X10_71 ⟨rfl, _, rfl, rfl⟩ H (fun h110 H => ?_)
          refine go_aload_n (pc := 159) dX10_init_159 rfl rfl ?_
          refine go_new (pc := 160) dX10_init_160 nl_X10_75 (Nat.le_of_ble_eq_true rfl) (Nat.le_of_ble_eq_true rfl) ?_
          refine go_pinH H (fun h111 H => ?_)
          refine go_dup (pc := 163) dX10_init_163 rfl ?_
          refine go_aload_n (pc := 164) dX10_init_164 rfl rfl ?_
          refine go_getR (pc := 165) dX10_init_165 fl_X10_55 H (fun v112 H => ?_)
          refine go_cIv (pc := 168) (Mz := M_X2_init) (as := [.ref v112]) (a := h110.1) (st := [.ref h110.1, .ref a0]) dX10_init_168 wd_437 ci_X2_init X2_init_ok rfl rfl ⟨Nat.le_of_ble_eq_true rfl, Nat.le_of_ble_eq_true rfl⟩ (Nat.le_of_ble_eq_true rfl) ⟨Nat.le_of_ble_eq_true rfl, Nat.le_of_ble_eq_true rfl⟩ H (fun h113 H => ?_)
          refine go_putRF (pc := 171) dX10_init_171 fs_X10_78 ⟨rfl, _, rfl, rfl⟩ H (fun h114 H => ?_)
          exact go_vret (pc := 174) dX10_init_174 rfl ⟨Nat.le_of_ble_eq_true rfl, Nat.le_of_ble_eq_true rfl⟩ H
        · refine go_aload_n (pc := 84) dX10_init_84 rfl rfl ?_
          refine go_getR (pc := 85) dX10_init_85 fl_X10_39 H (fun v115 H => ?_)
          refine go_iload_n (pc := 88) dX10_init_88 rfl rfl ?_
          refine go_new (pc := 89) dX10_init_89 nl_X10_32 (Nat.le_of_ble_eq_true rfl) (Nat.le_of_ble_eq_true rfl) ?_
          refine go_pinH H (fun h116 H => ?_)
          refine go_dup (pc := 92) dX10_init_92 rfl ?_
          refine go_cINv (host := "GlassWatch") (pc := 93) (Mz := M_X4_init) (as := []) (a := h93.1) (st := [.ref h93.1, .int (((0 + 1) + 1) + 1), .ref v115]) dX10_init_93 (by decide +kernel) ci_X4_init X4_init_ok rfl rfl ⟨Nat.le_of_ble_eq_true rfl, Nat.le_of_ble_eq_true rfl⟩ (Nat.le_of_ble_eq_true rfl) ⟨Nat.le_of_ble_eq_true rfl, Nat.le_of_ble_eq_true rfl⟩ H (fun h117 H => ?_)
          refine go_aastore (pc := 96) dX10_init_96 H (fun h118 H => ?_)
          refine go_iinc (pc := 97) (v := (((0 + 1) + 1) + 1) + 1) (L' := [some (.ref a0), some (.int ((((0 + 1) + 1) + 1) + 1))]) dX10_init_97 rfl rfl (Nat.le_of_ble_eq_true rfl) rfl ?_
          refine go_goto (pc := 100) (tgt := 75) dX10_init_100 (by decide) ?_
          cases H

def M_X10_putOnTape : MD := (yX10_putOnTape, cX10_putOnTape, 3, none, 0, 0, 0, 0)
theorem cv_X10_putOnTape : CVo M_X10_putOnTape 1 10 := ⟨⟨wd_506, wd_109, ⟨by decide, by decide⟩, by decide +kernel⟩, wd_505, wd_0, _, rfl, rfl⟩
def X10_putOnTape_B49 (rc3 : Nat → Int32 → Int32 → Hp → Option (Hp)) (a0 : Nat) (a1 : Int32) (a2 : Int32) (h : Hp) : Option (Hp) :=
  rc3 a0 a1 (a2 + (-8)) h
theorem X10_putOnTape_B49_ok {hh h' : Hp}  (rc3 : Nat → Int32 → Int32 → Hp → Option (Hp)) (hrc3 : ∀ (a0 : Nat) (a1 : Int32) (a2 : Int32) (h : Hp), rc3 a0 a1 a2 h = some h' → Go (PM M_X10_putOnTape hh none h') M_X10_putOnTape 3 [some (.ref a0), some (.int a1), some (.int a2)] [] h 0 0) (a0 : Nat) (a1 : Int32) (a2 : Int32) (h : Hp) (H : X10_putOnTape_B49 rc3 a0 a1 a2 h = some h') : Go (PM M_X10_putOnTape hh none h') M_X10_putOnTape 49 [some (.ref a0), some (.int a1), some (.int a2)] [] h 0 0 := by
  unfold X10_putOnTape_B49 at H
  refine go_iinc (pc := 49) (v := a2 + (-8)) (L' := [some (.ref a0), some (.int a1), some (.int (a2 + (-8)))]) dX10_putOnTape_49 rfl rfl (Nat.le_of_ble_eq_true rfl) rfl ?_
  refine go_goto (pc := 52) (tgt := 3) dX10_putOnTape_52 (by decide) ?_
  exact Go.weak (L' := [some (.ref a0), some (.int a1), some (.int (a2 + (-8)))]) ⟨rfl, ⟨rfl, ⟨rfl, trivial⟩⟩⟩ (hrc3 a0 a1 (a2 + (-8)) h H)

def X10_putOnTape_L3_s (rc3 : Nat → Int32 → Int32 → Hp → Option (Hp)) (a0 : Nat) (a1 : Int32) (a2 : Int32) (h : Hp) : Option (Hp) :=
  if a2 < 0 then (
    some h)
  else (
    (gI h a0 10 12).bind fun v101 =>
    if v101 < 0 then (
      X10_putOnTape_B49 rc3 a0 a1 a2 h)
    else (
      (gI h a0 10 12).bind fun v102 =>
      (gR h a0 10 0).bind fun v103 =>
      (aN h v103).bind fun v104 =>
      if v104 ≤ v102 then (
        X10_putOnTape_B49 rc3 a0 a1 a2 h)
      else (
        (gR h a0 10 0).bind fun v105 =>
        (gI h a0 10 12).bind fun v106 =>
        (sB h v105 v106 ((Int32.toInt8 (a1 >>> (a2 &&& 31))).toInt32)).bind fun h107 =>
        (gI h107 a0 10 12).bind fun v108 =>
        (pF h107 a0 10 12 (.int (v108 + 1))).bind fun h109 =>
        X10_putOnTape_B49 rc3 a0 a1 a2 h109)))
def X10_putOnTape_L3 (q : Nat) : Nat → Int32 → Int32 → Hp → Option (Hp) := loopN (fun _ _ _ _ => none) (X10_putOnTape_L3_s) q
theorem X10_putOnTape_L3_ok {hh h' : Hp}  : ∀ (q : Nat) (a0 : Nat) (a1 : Int32) (a2 : Int32) (h : Hp), X10_putOnTape_L3 q a0 a1 a2 h = some h' → Go (PM M_X10_putOnTape hh none h') M_X10_putOnTape 3 [some (.ref a0), some (.int a1), some (.int a2)] [] h 0 0 := by
  intro q
  induction q with
  | zero => intro a0 a1 a2 h H; cases H
  | succ q hrc3 =>
    intro a0 a1 a2 h H
    replace H : X10_putOnTape_L3_s (X10_putOnTape_L3 q) a0 a1 a2 h = some h' := H
    unfold X10_putOnTape_L3_s at H
    refine go_iload_n (pc := 3) dX10_putOnTape_3 rfl rfl ?_
    refine go_if_lt (pc := 4) (tgt := 55) dX10_putOnTape_4 (by decide) H (fun H => ?_) (fun H => ?_)
    · exact go_vret (pc := 55) dX10_putOnTape_55 rfl ⟨Nat.le_of_ble_eq_true rfl, Nat.le_of_ble_eq_true rfl⟩ H
    · refine go_aload_n (pc := 7) dX10_putOnTape_7 rfl rfl ?_
      refine go_getI (pc := 8) dX10_putOnTape_8 fl_X10_82 H (fun v101 H => ?_)
      refine go_if_lt (pc := 11) (tgt := 49) dX10_putOnTape_11 (by decide) H (fun H => ?_) (fun H => ?_)
      · exact Go.weak (L' := [some (.ref a0), some (.int a1), some (.int a2)]) ⟨rfl, ⟨rfl, ⟨rfl, trivial⟩⟩⟩ (X10_putOnTape_B49_ok _ hrc3 a0 a1 a2 h H)
      · refine go_aload_n (pc := 14) dX10_putOnTape_14 rfl rfl ?_
        refine go_getI (pc := 15) dX10_putOnTape_15 fl_X10_82 H (fun v102 H => ?_)
        refine go_aload_n (pc := 18) dX10_putOnTape_18 rfl rfl ?_
        refine go_getR (pc := 19) dX10_putOnTape_19 fl_X10_9 H (fun v103 H => ?_)
        refine go_alen (pc := 22) dX10_putOnTape_22 H (fun v104 H => ?_)
        refine go_icmp_ge (pc := 23) (tgt := 49) dX10_putOnTape_23 (by decide) H (fun H => ?_) (fun H => ?_)
        · exact Go.weak (L' := [some (.ref a0), some (.int a1), some (.int a2)]) ⟨rfl, ⟨rfl, ⟨rfl, trivial⟩⟩⟩ (X10_putOnTape_B49_ok _ hrc3 a0 a1 a2 h H)
        · refine go_aload_n (pc := 26) dX10_putOnTape_26 rfl rfl ?_
          refine go_getR (pc := 27) dX10_putOnTape_27 fl_X10_9 H (fun v105 H => ?_)
          refine go_aload_n (pc := 30) dX10_putOnTape_30 rfl rfl ?_
          refine go_getI (pc := 31) dX10_putOnTape_31 fl_X10_82 H (fun v106 H => ?_)
          refine go_iload_n (pc := 34) dX10_putOnTape_34 rfl rfl ?_
          refine go_iload_n (pc := 35) dX10_putOnTape_35 rfl rfl ?_
          refine go_ishr (pc := 36) dX10_putOnTape_36 ?_
          refine go_i2b (pc := 37) dX10_putOnTape_37 ?_
          refine go_bastore (pc := 38) dX10_putOnTape_38 H (fun h107 H => ?_)
          refine go_aload_n (pc := 39) dX10_putOnTape_39 rfl rfl ?_
          refine go_dup (pc := 40) dX10_putOnTape_40 rfl ?_
          refine go_getI (pc := 41) dX10_putOnTape_41 fl_X10_82 H (fun v108 H => ?_)
          refine go_iconst (pc := 44) (v := 1) dX10_putOnTape_44 (by decide) ?_
          refine go_iadd (pc := 45) dX10_putOnTape_45 ?_
          refine go_putI (pc := 46) dX10_putOnTape_46 fs_X10_82 H (fun h109 H => ?_)
          exact Go.weak (L' := [some (.ref a0), some (.int a1), some (.int a2)]) ⟨rfl, ⟨rfl, ⟨rfl, trivial⟩⟩⟩ (X10_putOnTape_B49_ok _ hrc3 a0 a1 a2 h109 H)

def X10_putOnTape (a0 : Nat) (a1 : Int32) (h : Hp) : Option (Hp) :=
  X10_putOnTape_L3 5000 a0 a1 24 h
theorem X10_putOnTape_ok {a0 : Nat} {a1 : Int32} {h h' : Hp} (H : X10_putOnTape a0 a1 h = some h') : Con M_X10_putOnTape [.ref a0, .int a1] h none h' := by
  refine con_of_go (by decide) 1 (L := [some (.ref a0), some (.int a1), none]) rfl (Nat.le_of_ble_eq_true rfl) ?_
  unfold X10_putOnTape at H
  refine go_bipush (pc := 0) (v := 24) dX10_putOnTape_0 (by decide) ?_
  refine go_istore_n (pc := 2) (L' := [some (.ref a0), some (.int a1), some (.int 24)]) dX10_putOnTape_2 rfl (Nat.le_of_ble_eq_true rfl) rfl ?_
  exact Go.weak (L' := [some (.ref a0), some (.int a1), some (.int 24)]) ⟨rfl, ⟨rfl, ⟨rfl, trivial⟩⟩⟩ (X10_putOnTape_L3_ok 5000 a0 a1 24 h H)

def M_X10_feed : MD := (yX10_feed, cX10_feed, 6, (some .int), 1, 22, 0, 0)
theorem cv_X10_feed : CVo M_X10_feed 5 10 := ⟨⟨wd_502, wd_109, ⟨by decide, by decide⟩, by decide +kernel⟩, wd_500, wd_501, _, rfl, rfl⟩
def X10_feed (a0 : Nat) (a1 : Int32) (a2 : Int32) (a3 : Int32) (a4 : Int32) (a5 : Int32) (h : Hp) : Option (Int32 × Hp) :=
  (gI h a0 10 12).bind fun v1 =>
  if (v1 + 20) ≤ 900 then (
    cVv h a0 10 (X10_putOnTape a0 a1 h) fun h2 =>
    cVv h2 a0 10 (X10_putOnTape a0 a2 h2) fun h3 =>
    cVv h3 a0 10 (X10_putOnTape a0 a3 h3) fun h4 =>
    cVv h4 a0 10 (X10_putOnTape a0 a4 h4) fun h5 =>
    cVv h5 a0 10 (X10_putOnTape a0 a5 h5) fun h6 =>
    (gI h6 a0 10 12).bind fun v7 =>
    some (v7, h6))
  else (
    some ((-1), h))
theorem X10_feed_ok {a0 : Nat} {a1 : Int32} {a2 : Int32} {a3 : Int32} {a4 : Int32} {a5 : Int32} {h h' : Hp} {r : Int32} (H : X10_feed a0 a1 a2 a3 a4 a5 h = some (r, h')) : Con M_X10_feed [.ref a0, .int a1, .int a2, .int a3, .int a4, .int a5] h (some (.int r)) h' := by
  refine con_of_go (by decide) 0 (L := [some (.ref a0), some (.int a1), some (.int a2), some (.int a3), some (.int a4), some (.int a5)]) rfl (Nat.le_of_ble_eq_true rfl) ?_
  unfold X10_feed at H
  refine go_aload_n (pc := 0) dX10_feed_0 rfl rfl ?_
  refine go_getI (pc := 1) dX10_feed_1 fl_X10_82 H (fun v1 H => ?_)
  refine go_bipush (pc := 4) (v := 20) dX10_feed_4 (by decide) ?_
  refine go_iadd (pc := 6) dX10_feed_6 ?_
  refine go_sipush (pc := 7) (v := 900) dX10_feed_7 (by decide) ?_
  refine go_icmp_le (pc := 10) (tgt := 15) dX10_feed_10 (by decide) H (fun H => ?_) (fun H => ?_)
  · refine go_aload_n (pc := 15) dX10_feed_15 rfl rfl ?_
    refine go_iload_n (pc := 16) dX10_feed_16 rfl rfl ?_
    refine go_cVv (pc := 17) (Mz := M_X10_putOnTape) (as := [.int a1]) (a := a0) (st := []) dX10_feed_17 wd_503 cv_X10_putOnTape X10_putOnTape_ok rfl rfl ⟨Nat.le_of_ble_eq_true rfl, Nat.le_of_ble_eq_true rfl⟩ (Nat.le_of_ble_eq_true rfl) ⟨rfl, rfl⟩ ⟨Nat.le_of_ble_eq_true rfl, Nat.le_of_ble_eq_true rfl⟩ H (fun h2 H => ?_)
    refine go_aload_n (pc := 20) dX10_feed_20 rfl rfl ?_
    refine go_iload_n (pc := 21) dX10_feed_21 rfl rfl ?_
    refine go_cVv (pc := 22) (Mz := M_X10_putOnTape) (as := [.int a2]) (a := a0) (st := []) dX10_feed_22 wd_503 cv_X10_putOnTape X10_putOnTape_ok rfl rfl ⟨Nat.le_of_ble_eq_true rfl, Nat.le_of_ble_eq_true rfl⟩ (Nat.le_of_ble_eq_true rfl) ⟨rfl, rfl⟩ ⟨Nat.le_of_ble_eq_true rfl, Nat.le_of_ble_eq_true rfl⟩ H (fun h3 H => ?_)
    refine go_aload_n (pc := 25) dX10_feed_25 rfl rfl ?_
    refine go_iload_n (pc := 26) dX10_feed_26 rfl rfl ?_
    refine go_cVv (pc := 27) (Mz := M_X10_putOnTape) (as := [.int a3]) (a := a0) (st := []) dX10_feed_27 wd_503 cv_X10_putOnTape X10_putOnTape_ok rfl rfl ⟨Nat.le_of_ble_eq_true rfl, Nat.le_of_ble_eq_true rfl⟩ (Nat.le_of_ble_eq_true rfl) ⟨rfl, rfl⟩ ⟨Nat.le_of_ble_eq_true rfl, Nat.le_of_ble_eq_true rfl⟩ H (fun h4 H => ?_)
    refine go_aload_n (pc := 30) dX10_feed_30 rfl rfl ?_
    refine go_iload (pc := 31) dX10_feed_31 rfl ?_
    refine go_cVv (pc := 33) (Mz := M_X10_putOnTape) (as := [.int a4]) (a := a0) (st := []) dX10_feed_33 wd_503 cv_X10_putOnTape X10_putOnTape_ok rfl rfl ⟨Nat.le_of_ble_eq_true rfl, Nat.le_of_ble_eq_true rfl⟩ (Nat.le_of_ble_eq_true rfl) ⟨rfl, rfl⟩ ⟨Nat.le_of_ble_eq_true rfl, Nat.le_of_ble_eq_true rfl⟩ H (fun h5 H => ?_)
    refine go_aload_n (pc := 36) dX10_feed_36 rfl rfl ?_
    refine go_iload (pc := 37) dX10_feed_37 rfl ?_
    refine go_cVv (pc := 39) (Mz := M_X10_putOnTape) (as := [.int a5]) (a := a0) (st := []) dX10_feed_39 wd_503 cv_X10_putOnTape X10_putOnTape_ok rfl rfl ⟨Nat.le_of_ble_eq_true rfl, Nat.le_of_ble_eq_true rfl⟩ (Nat.le_of_ble_eq_true rfl) ⟨rfl, rfl⟩ ⟨Nat.le_of_ble_eq_true rfl, Nat.le_of_ble_eq_true rfl⟩ H (fun h6 H => ?_)
    refine go_aload_n (pc := 42) dX10_feed_42 rfl rfl ?_
    refine go_getI (pc := 43) dX10_feed_43 fl_X10_82 H (fun v7 H => ?_)
    exact go_iret (pc := 46) dX10_feed_46 rfl ⟨Nat.le_of_ble_eq_true rfl, Nat.le_of_ble_eq_true rfl⟩ H
  · refine go_iconst (pc := 13) (v := (-1)) dX10_feed_13 (by decide) ?_
    exact go_iret (pc := 14) dX10_feed_14 rfl ⟨Nat.le_of_ble_eq_true rfl, Nat.le_of_ble_eq_true rfl⟩ H

def M_X10_isRefused : MD := (yX10_isRefused, cX10_isRefused, 2, (some .boolean), 0, 0, 0, 0)
theorem cv_X10_isRefused : CVo M_X10_isRefused 1 10 := ⟨⟨wd_514, wd_109, ⟨by decide, by decide⟩, by decide +kernel⟩, wd_513, wd_1, _, rfl, rfl⟩
def X10_isRefused (a0 : Nat) (a1 : Int32) (h : Hp) : Option (Int32 × Hp) :=
  (pF h a0 10 14 (.int a1)).bind fun h1 =>
  if a1 = 0 then (
    rZ 0 h1)
  else (
    rZ 1 h1)
theorem X10_isRefused_ok {a0 : Nat} {a1 : Int32} {h h' : Hp} {r : Int32} (H : X10_isRefused a0 a1 h = some (r, h')) : Con M_X10_isRefused [.ref a0, .int a1] h (some (.int r)) h' := by
  refine con_of_go (by decide) 0 (L := [some (.ref a0), some (.int a1)]) rfl (Nat.le_of_ble_eq_true rfl) ?_
  unfold X10_isRefused at H
  refine go_aload_n (pc := 0) dX10_isRefused_0 rfl rfl ?_
  refine go_iload_n (pc := 1) dX10_isRefused_1 rfl rfl ?_
  refine go_putI (pc := 2) dX10_isRefused_2 fs_X10_113 H (fun h1 H => ?_)
  refine go_iload_n (pc := 5) dX10_isRefused_5 rfl rfl ?_
  refine go_if_eq (pc := 6) (tgt := 13) dX10_isRefused_6 (by decide) H (fun H => ?_) (fun H => ?_)
  · refine go_iconst (pc := 13) (v := 0) dX10_isRefused_13 (by decide) ?_
    exact go_zret (pc := 14) dX10_isRefused_14 rfl ⟨Nat.le_of_ble_eq_true rfl, Nat.le_of_ble_eq_true rfl⟩ H
  · refine go_iconst (pc := 9) (v := 1) dX10_isRefused_9 (by decide) ?_
    refine go_goto (pc := 10) (tgt := 14) dX10_isRefused_10 (by decide) ?_
    exact go_zret (pc := 14) dX10_isRefused_14 rfl ⟨Nat.le_of_ble_eq_true rfl, Nat.le_of_ble_eq_true rfl⟩ H

def M_X10_beginDraft : MD := (yX10_beginDraft, cX10_beginDraft, 2, none, 2, 45, 0, 0)
theorem cv_X10_beginDraft : CVo M_X10_beginDraft 0 10 := ⟨⟨wd_726, wd_109, ⟨by decide, by decide⟩, by decide +kernel⟩, wd_725, wd_25, _, rfl, rfl⟩
def X10_beginDraft (a0 : Nat) (h : Hp) : Option (Hp) :=
  (gR h a0 10 9).bind fun v1 =>
  (gR h a0 10 10).bind fun v2 =>
  (pF h a0 10 9 (.ref v2)).bind fun h3 =>
  (pF h3 a0 10 10 (.ref v1)).bind fun h4 =>
  (pZ h4 a0 10 11 1).bind fun h5 =>
  (gR h5 a0 10 5).bind fun v6 =>
  (gR h5 a0 10 9).bind fun v7 =>
  (pF h5 v6 6 3 (.ref v7)).bind fun h8 =>
  (gR h8 a0 10 2).bind fun v9 =>
  (gR h8 a0 10 9).bind fun v10 =>
  cVv h8 v9 4 (X4_setAsTold v9 v10 h8) fun h11 =>
  (gR h11 a0 10 4).bind fun v12 =>
  cVv h11 v12 0 (X0_forget v12 h11) fun h13 =>
  (pF h13 a0 10 13 (.int 0)).bind fun h14 =>
  some h14
theorem X10_beginDraft_ok {a0 : Nat} {h h' : Hp} (H : X10_beginDraft a0 h = some h') : Con M_X10_beginDraft [.ref a0] h none h' := by
  refine con_of_go (by decide) 1 (L := [some (.ref a0), none]) rfl (Nat.le_of_ble_eq_true rfl) ?_
  unfold X10_beginDraft at H
  refine go_aload_n (pc := 0) dX10_beginDraft_0 rfl rfl ?_
  refine go_getR (pc := 1) dX10_beginDraft_1 fl_X10_16 H (fun v1 H => ?_)
  refine go_astore_n (pc := 4) (L' := [some (.ref a0), some (.ref v1)]) dX10_beginDraft_4 rfl (Nat.le_of_ble_eq_true rfl) rfl ?_
  refine go_aload_n (pc := 5) dX10_beginDraft_5 rfl rfl ?_
  refine go_aload_n (pc := 6) dX10_beginDraft_6 rfl rfl ?_
  refine go_getR (pc := 7) dX10_beginDraft_7 fl_X10_20 H (fun v2 H => ?_)
  refine go_putR (pc := 10) dX10_beginDraft_10 fs_X10_16 H (fun h3 H => ?_)
  refine go_aload_n (pc := 13) dX10_beginDraft_13 rfl rfl ?_
  refine go_aload_n (pc := 14) dX10_beginDraft_14 rfl rfl ?_
  refine go_putR (pc := 15) dX10_beginDraft_15 fs_X10_20 H (fun h4 H => ?_)
  refine go_aload_n (pc := 18) dX10_beginDraft_18 rfl rfl ?_
  refine go_iconst (pc := 19) (v := 1) dX10_beginDraft_19 (by decide) ?_
  refine go_putZ (pc := 20) dX10_beginDraft_20 fs_X10_144 H (fun h5 H => ?_)
  refine go_aload_n (pc := 23) dX10_beginDraft_23 rfl rfl ?_
  refine go_getR (pc := 24) dX10_beginDraft_24 fl_X10_55 H (fun v6 H => ?_)
  refine go_aload_n (pc := 27) dX10_beginDraft_27 rfl rfl ?_
  refine go_getR (pc := 28) dX10_beginDraft_28 fl_X10_16 H (fun v7 H => ?_)
  refine go_putR (pc := 31) dX10_beginDraft_31 fs_X10_362 H (fun h8 H => ?_)
  refine go_aload_n (pc := 34) dX10_beginDraft_34 rfl rfl ?_
  refine go_getR (pc := 35) dX10_beginDraft_35 fl_X10_35 H (fun v9 H => ?_)
  refine go_aload_n (pc := 38) dX10_beginDraft_38 rfl rfl ?_
  refine go_getR (pc := 39) dX10_beginDraft_39 fl_X10_16 H (fun v10 H => ?_)
  refine go_cVv (pc := 42) (Mz := M_X4_setAsTold) (as := [.ref v10]) (a := v9) (st := []) dX10_beginDraft_42 wd_727 cv_X4_setAsTold X4_setAsTold_ok rfl rfl ⟨Nat.le_of_ble_eq_true rfl, Nat.le_of_ble_eq_true rfl⟩ (Nat.le_of_ble_eq_true rfl) ⟨rfl, rfl⟩ ⟨Nat.le_of_ble_eq_true rfl, Nat.le_of_ble_eq_true rfl⟩ H (fun h11 H => ?_)
  refine go_aload_n (pc := 45) dX10_beginDraft_45 rfl rfl ?_
  refine go_getR (pc := 46) dX10_beginDraft_46 fl_X10_46 H (fun v12 H => ?_)
  refine go_cVv (pc := 49) (Mz := M_X0_forget) (as := []) (a := v12) (st := []) dX10_beginDraft_49 wd_733 cv_X0_forget X0_forget_ok rfl rfl ⟨Nat.le_of_ble_eq_true rfl, Nat.le_of_ble_eq_true rfl⟩ (Nat.le_of_ble_eq_true rfl) ⟨rfl, rfl⟩ ⟨Nat.le_of_ble_eq_true rfl, Nat.le_of_ble_eq_true rfl⟩ H (fun h13 H => ?_)
  refine go_aload_n (pc := 52) dX10_beginDraft_52 rfl rfl ?_
  refine go_iconst (pc := 53) (v := 0) dX10_beginDraft_53 (by decide) ?_
  refine go_putI (pc := 54) dX10_beginDraft_54 fs_X10_329 H (fun h14 H => ?_)
  exact go_vret (pc := 57) dX10_beginDraft_57 rfl ⟨Nat.le_of_ble_eq_true rfl, Nat.le_of_ble_eq_true rfl⟩ H

def M_X10_voyage : MD := (yX10_voyage, cX10_voyage, 2, (some .int), 10, 218, 0, 0)
theorem cv_X10_voyage : CVo M_X10_voyage 1 10 := ⟨⟨wd_510, wd_109, ⟨by decide, by decide⟩, by decide +kernel⟩, wd_508, wd_509, _, rfl, rfl⟩
def X10_voyage_B59 (a0 : Nat) (s0 : Nat) (s1 : Int32) (h : Hp) : Option (Int32 × Hp) :=
  cV h s0 10 (X10_isRefused s0 s1 h) fun v302 h301 =>
  if v302 = 0 then (
    cVv h301 a0 10 (X10_beginDraft a0 h301) fun h303 =>
    (gR h303 a0 10 9).bind fun v304 =>
    (gR h303 v304 9 2).bind fun v305 =>
    (gI h303 v305 8 3).bind fun v306 =>
    some (v306, h303))
  else (
    some ((-1), h301))
theorem X10_voyage_B59_ok {hh h' : Hp} {r : Int32}  (a0 : Nat) (s0 : Nat) (s1 : Int32) (h : Hp) (H : X10_voyage_B59 a0 s0 s1 h = some (r, h')) : Go (PM M_X10_voyage hh (some (.int r)) h') M_X10_voyage 59 [some (.ref a0), none] [.int s1, .ref s0] h 0 0 := by
  unfold X10_voyage_B59 at H
  refine go_cVi (pc := 59) (Mz := M_X10_isRefused) (as := [.int s1]) (a := s0) (st := []) dX10_voyage_59 wd_511 cv_X10_isRefused X10_isRefused_ok rfl rfl ⟨Nat.le_of_ble_eq_true rfl, Nat.le_of_ble_eq_true rfl⟩ (Nat.le_of_ble_eq_true rfl) ⟨rfl, rfl⟩ ⟨Nat.le_of_ble_eq_true rfl, Nat.le_of_ble_eq_true rfl⟩ H (fun v302 h301 H => ?_)
  refine go_if_eq (pc := 62) (tgt := 67) dX10_voyage_62 (by decide) H (fun H => ?_) (fun H => ?_)
  · refine go_aload_n (pc := 67) dX10_voyage_67 rfl rfl ?_
    refine go_cVv (pc := 68) (Mz := M_X10_beginDraft) (as := []) (a := a0) (st := []) dX10_voyage_68 wd_723 cv_X10_beginDraft X10_beginDraft_ok rfl rfl ⟨Nat.le_of_ble_eq_true rfl, Nat.le_of_ble_eq_true rfl⟩ (Nat.le_of_ble_eq_true rfl) ⟨rfl, rfl⟩ ⟨Nat.le_of_ble_eq_true rfl, Nat.le_of_ble_eq_true rfl⟩ H (fun h303 H => ?_)
    refine go_aload_n (pc := 71) dX10_voyage_71 rfl rfl ?_
    refine go_getR (pc := 72) dX10_voyage_72 fl_X10_16 H (fun v304 H => ?_)
    refine go_getR (pc := 75) dX10_voyage_75 fl_X10_104 H (fun v305 H => ?_)
    refine go_getI (pc := 78) dX10_voyage_78 fl_X10_108 H (fun v306 H => ?_)
    exact go_iret (pc := 81) dX10_voyage_81 rfl ⟨Nat.le_of_ble_eq_true rfl, Nat.le_of_ble_eq_true rfl⟩ H
  · refine go_iconst (pc := 65) (v := (-1)) dX10_voyage_65 (by decide) ?_
    exact go_iret (pc := 66) dX10_voyage_66 rfl ⟨Nat.le_of_ble_eq_true rfl, Nat.le_of_ble_eq_true rfl⟩ H

def X10_voyage_B18 (a0 : Nat) (a1 : Int32) (s0 : Nat) (s1 : Int32) (h : Hp) : Option (Int32 × Hp) :=
  cV h s0 10 (X10_isRefused s0 s1 h) fun v202 h201 =>
  if v202 = 0 then (
    (pF h201 a0 10 12 (.int 0)).bind fun h203 =>
    (gR h203 a0 10 1).bind fun v204 =>
    (gR h203 a0 10 10).bind fun v205 =>
    cVv h203 v204 5 (X5_read v204 a1 v205 h203) fun h206 =>
    (gR h206 a0 10 1).bind fun v207 =>
    (gI h206 v207 5 11).bind fun v208 =>
    if v208 = 0 then (
      X10_voyage_B59 a0 a0 0 h206)
    else (
      X10_voyage_B59 a0 a0 4 h206))
  else (
    some ((-1), h201))
theorem X10_voyage_B18_ok {hh h' : Hp} {r : Int32}  (a0 : Nat) (a1 : Int32) (s0 : Nat) (s1 : Int32) (h : Hp) (H : X10_voyage_B18 a0 a1 s0 s1 h = some (r, h')) : Go (PM M_X10_voyage hh (some (.int r)) h') M_X10_voyage 18 [some (.ref a0), some (.int a1)] [.int s1, .ref s0] h 0 0 := by
  unfold X10_voyage_B18 at H
  refine go_cVi (pc := 18) (Mz := M_X10_isRefused) (as := [.int s1]) (a := s0) (st := []) dX10_voyage_18 wd_511 cv_X10_isRefused X10_isRefused_ok rfl rfl ⟨Nat.le_of_ble_eq_true rfl, Nat.le_of_ble_eq_true rfl⟩ (Nat.le_of_ble_eq_true rfl) ⟨rfl, rfl⟩ ⟨Nat.le_of_ble_eq_true rfl, Nat.le_of_ble_eq_true rfl⟩ H (fun v202 h201 H => ?_)
  refine go_if_eq (pc := 21) (tgt := 26) dX10_voyage_21 (by decide) H (fun H => ?_) (fun H => ?_)
  · refine go_aload_n (pc := 26) dX10_voyage_26 rfl rfl ?_
    refine go_iconst (pc := 27) (v := 0) dX10_voyage_27 (by decide) ?_
    refine go_putI (pc := 28) dX10_voyage_28 fs_X10_82 H (fun h203 H => ?_)
    refine go_aload_n (pc := 31) dX10_voyage_31 rfl rfl ?_
    refine go_getR (pc := 32) dX10_voyage_32 fl_X10_28 H (fun v204 H => ?_)
    refine go_iload_n (pc := 35) dX10_voyage_35 rfl rfl ?_
    refine go_aload_n (pc := 36) dX10_voyage_36 rfl rfl ?_
    refine go_getR (pc := 37) dX10_voyage_37 fl_X10_20 H (fun v205 H => ?_)
    refine go_cVv (pc := 40) (Mz := M_X5_read) (as := [.int a1, .ref v205]) (a := v204) (st := []) dX10_voyage_40 wd_515 cv_X5_read X5_read_ok rfl rfl ⟨Nat.le_of_ble_eq_true rfl, Nat.le_of_ble_eq_true rfl⟩ (Nat.le_of_ble_eq_true rfl) ⟨rfl, rfl⟩ ⟨Nat.le_of_ble_eq_true rfl, Nat.le_of_ble_eq_true rfl⟩ H (fun h206 H => ?_)
    refine go_aload_n (pc := 43) dX10_voyage_43 rfl rfl ?_
    refine go_aload_n (pc := 44) dX10_voyage_44 rfl rfl ?_
    refine go_getR (pc := 45) dX10_voyage_45 fl_X10_28 H (fun v207 H => ?_)
    refine go_getI (pc := 48) dX10_voyage_48 fl_X10_98 H (fun v208 H => ?_)
    refine go_if_ne (pc := 51) (tgt := 58) dX10_voyage_51 (by decide) H (fun H => ?_) (fun H => ?_)
    · refine go_iconst (pc := 58) (v := 4) dX10_voyage_58 (by decide) ?_
      exact Go.weak (L' := [some (.ref a0), none]) ⟨rfl, trivial⟩ (X10_voyage_B59_ok a0 a0 4 h206 H)
    · refine go_iconst (pc := 54) (v := 0) dX10_voyage_54 (by decide) ?_
      refine go_goto (pc := 55) (tgt := 59) dX10_voyage_55 (by decide) ?_
      exact Go.weak (L' := [some (.ref a0), none]) ⟨rfl, trivial⟩ (X10_voyage_B59_ok a0 a0 0 h206 H)
  · refine go_iconst (pc := 24) (v := (-1)) dX10_voyage_24 (by decide) ?_
    exact go_iret (pc := 25) dX10_voyage_25 rfl ⟨Nat.le_of_ble_eq_true rfl, Nat.le_of_ble_eq_true rfl⟩ H

def X10_voyage_B13 (a0 : Nat) (a1 : Int32) (s0 : Nat) (h : Hp) : Option (Int32 × Hp) :=
  X10_voyage_B18 a0 a1 s0 2 h
theorem X10_voyage_B13_ok {hh h' : Hp} {r : Int32}  (a0 : Nat) (a1 : Int32) (s0 : Nat) (h : Hp) (H : X10_voyage_B13 a0 a1 s0 h = some (r, h')) : Go (PM M_X10_voyage hh (some (.int r)) h') M_X10_voyage 13 [some (.ref a0), some (.int a1)] [.ref s0] h 0 0 := by
  unfold X10_voyage_B13 at H
  refine go_iconst (pc := 13) (v := 2) dX10_voyage_13 (by decide) ?_
  refine go_goto (pc := 14) (tgt := 18) dX10_voyage_14 (by decide) ?_
  exact Go.weak (L' := [some (.ref a0), some (.int a1)]) ⟨rfl, ⟨rfl, trivial⟩⟩ (X10_voyage_B18_ok a0 a1 s0 2 h H)

def X10_voyage (a0 : Nat) (a1 : Int32) (h : Hp) : Option (Int32 × Hp) :=
  if a1 < 0 then (
    X10_voyage_B13 a0 a1 a0 h)
  else (
    (gI h a0 10 12).bind fun v1 =>
    if a1 ≤ v1 then (
      X10_voyage_B18 a0 a1 a0 0 h)
    else (
      X10_voyage_B13 a0 a1 a0 h))
theorem X10_voyage_ok {a0 : Nat} {a1 : Int32} {h h' : Hp} {r : Int32} (H : X10_voyage a0 a1 h = some (r, h')) : Con M_X10_voyage [.ref a0, .int a1] h (some (.int r)) h' := by
  refine con_of_go (by decide) 0 (L := [some (.ref a0), some (.int a1)]) rfl (Nat.le_of_ble_eq_true rfl) ?_
  unfold X10_voyage at H
  refine go_aload_n (pc := 0) dX10_voyage_0 rfl rfl ?_
  refine go_iload_n (pc := 1) dX10_voyage_1 rfl rfl ?_
  refine go_if_lt (pc := 2) (tgt := 13) dX10_voyage_2 (by decide) H (fun H => ?_) (fun H => ?_)
  · exact Go.weak (L' := [some (.ref a0), some (.int a1)]) ⟨rfl, ⟨rfl, trivial⟩⟩ (X10_voyage_B13_ok a0 a1 a0 h H)
  · refine go_iload_n (pc := 5) dX10_voyage_5 rfl rfl ?_
    refine go_aload_n (pc := 6) dX10_voyage_6 rfl rfl ?_
    refine go_getI (pc := 7) dX10_voyage_7 fl_X10_82 H (fun v1 H => ?_)
    refine go_icmp_le (pc := 10) (tgt := 17) dX10_voyage_10 (by decide) H (fun H => ?_) (fun H => ?_)
    · refine go_iconst (pc := 17) (v := 0) dX10_voyage_17 (by decide) ?_
      exact Go.weak (L' := [some (.ref a0), some (.int a1)]) ⟨rfl, ⟨rfl, trivial⟩⟩ (X10_voyage_B18_ok a0 a1 a0 0 h H)
    · exact Go.weak (L' := [some (.ref a0), some (.int a1)]) ⟨rfl, ⟨rfl, trivial⟩⟩ (X10_voyage_B13_ok a0 a1 a0 h H)

def M_X10_fault : MD := (yX10_fault, cX10_fault, 1, (some .int), 0, 0, 0, 0)
theorem cv_X10_fault : CVo M_X10_fault 0 10 := ⟨⟨wd_740, wd_109, ⟨by decide, by decide⟩, by decide +kernel⟩, wd_738, wd_739, _, rfl, rfl⟩
def X10_fault (a0 : Nat) (h : Hp) : Option (Int32 × Hp) :=
  (gR h a0 10 1).bind fun v1 =>
  (gI h v1 5 11).bind fun v2 =>
  some (v2, h)
theorem X10_fault_ok {a0 : Nat} {h h' : Hp} {r : Int32} (H : X10_fault a0 h = some (r, h')) : Con M_X10_fault [.ref a0] h (some (.int r)) h' := by
  refine con_of_go (by decide) 0 (L := [some (.ref a0)]) rfl (Nat.le_of_ble_eq_true rfl) ?_
  unfold X10_fault at H
  refine go_aload_n (pc := 0) dX10_fault_0 rfl rfl ?_
  refine go_getR (pc := 1) dX10_fault_1 fl_X10_28 H (fun v1 H => ?_)
  refine go_getI (pc := 4) dX10_fault_4 fl_X10_98 H (fun v2 H => ?_)
  exact go_iret (pc := 7) dX10_fault_7 rfl ⟨Nat.le_of_ble_eq_true rfl, Nat.le_of_ble_eq_true rfl⟩ H

def M_X10_where : MD := (yX10_where, cX10_where, 1, (some .int), 0, 0, 0, 0)
theorem cv_X10_where : CVo M_X10_where 0 10 := ⟨⟨wd_744, wd_109, ⟨by decide, by decide⟩, by decide +kernel⟩, wd_742, wd_743, _, rfl, rfl⟩
def X10_where (a0 : Nat) (h : Hp) : Option (Int32 × Hp) :=
  (gI h a0 10 14).bind fun v1 =>
  if v1 = 4 then (
    (gR h a0 10 1).bind fun v2 =>
    (gI h v2 5 12).bind fun v3 =>
    some (v3, h))
  else (
    some ((-1), h))
theorem X10_where_ok {a0 : Nat} {h h' : Hp} {r : Int32} (H : X10_where a0 h = some (r, h')) : Con M_X10_where [.ref a0] h (some (.int r)) h' := by
  refine con_of_go (by decide) 0 (L := [some (.ref a0)]) rfl (Nat.le_of_ble_eq_true rfl) ?_
  unfold X10_where at H
  refine go_aload_n (pc := 0) dX10_where_0 rfl rfl ?_
  refine go_getI (pc := 1) dX10_where_1 fl_X10_113 H (fun v1 H => ?_)
  refine go_iconst (pc := 4) (v := 4) dX10_where_4 (by decide) ?_
  refine go_icmp_ne (pc := 5) (tgt := 18) dX10_where_5 (by decide) H (fun H => ?_) (fun H => ?_)
  · refine go_iconst (pc := 18) (v := (-1)) dX10_where_18 (by decide) ?_
    exact go_iret (pc := 19) dX10_where_19 rfl ⟨Nat.le_of_ble_eq_true rfl, Nat.le_of_ble_eq_true rfl⟩ H
  · refine go_aload_n (pc := 8) dX10_where_8 rfl rfl ?_
    refine go_getR (pc := 9) dX10_where_9 fl_X10_28 H (fun v2 H => ?_)
    refine go_getI (pc := 12) dX10_where_12 fl_X10_116 H (fun v3 H => ?_)
    refine go_goto (pc := 15) (tgt := 19) dX10_where_15 (by decide) ?_
    exact go_iret (pc := 19) dX10_where_19 rfl ⟨Nat.le_of_ble_eq_true rfl, Nat.le_of_ble_eq_true rfl⟩ H

def M_X10_hasWatch : MD := (yX10_hasWatch, cX10_hasWatch, 2, (some .boolean), 0, 0, 0, 0)
theorem cv_X10_hasWatch : CVo M_X10_hasWatch 1 10 := ⟨⟨wd_752, wd_109, ⟨by decide, by decide⟩, by decide +kernel⟩, wd_751, wd_26, _, rfl, rfl⟩
def X10_hasWatch (a0 : Nat) (a1 : Int32) (h : Hp) : Option (Int32 × Hp) :=
  (gI h a0 10 11).bind fun v1 =>
  if v1 = 0 then (
    rZ 0 h)
  else (
    if a1 < 0 then (
      rZ 0 h)
    else (
      (gR h a0 10 9).bind fun v2 =>
      (gR h v2 9 2).bind fun v3 =>
      (gI h v3 8 3).bind fun v4 =>
      if v4 ≤ a1 then (
        rZ 0 h)
      else (
        rZ 1 h)))
theorem X10_hasWatch_ok {a0 : Nat} {a1 : Int32} {h h' : Hp} {r : Int32} (H : X10_hasWatch a0 a1 h = some (r, h')) : Con M_X10_hasWatch [.ref a0, .int a1] h (some (.int r)) h' := by
  refine con_of_go (by decide) 0 (L := [some (.ref a0), some (.int a1)]) rfl (Nat.le_of_ble_eq_true rfl) ?_
  unfold X10_hasWatch at H
  refine go_aload_n (pc := 0) dX10_hasWatch_0 rfl rfl ?_
  refine go_getI (pc := 1) dX10_hasWatch_1 fl_X10_144 H (fun v1 H => ?_)
  refine go_if_eq (pc := 4) (tgt := 29) dX10_hasWatch_4 (by decide) H (fun H => ?_) (fun H => ?_)
  · refine go_iconst (pc := 29) (v := 0) dX10_hasWatch_29 (by decide) ?_
    exact go_zret (pc := 30) dX10_hasWatch_30 rfl ⟨Nat.le_of_ble_eq_true rfl, Nat.le_of_ble_eq_true rfl⟩ H
  · refine go_iload_n (pc := 7) dX10_hasWatch_7 rfl rfl ?_
    refine go_if_lt (pc := 8) (tgt := 29) dX10_hasWatch_8 (by decide) H (fun H => ?_) (fun H => ?_)
    · refine go_iconst (pc := 29) (v := 0) dX10_hasWatch_29 (by decide) ?_
      exact go_zret (pc := 30) dX10_hasWatch_30 rfl ⟨Nat.le_of_ble_eq_true rfl, Nat.le_of_ble_eq_true rfl⟩ H
    · refine go_iload_n (pc := 11) dX10_hasWatch_11 rfl rfl ?_
      refine go_aload_n (pc := 12) dX10_hasWatch_12 rfl rfl ?_
      refine go_getR (pc := 13) dX10_hasWatch_13 fl_X10_16 H (fun v2 H => ?_)
      refine go_getR (pc := 16) dX10_hasWatch_16 fl_X10_104 H (fun v3 H => ?_)
      refine go_getI (pc := 19) dX10_hasWatch_19 fl_X10_108 H (fun v4 H => ?_)
      refine go_icmp_ge (pc := 22) (tgt := 29) dX10_hasWatch_22 (by decide) H (fun H => ?_) (fun H => ?_)
      · refine go_iconst (pc := 29) (v := 0) dX10_hasWatch_29 (by decide) ?_
        exact go_zret (pc := 30) dX10_hasWatch_30 rfl ⟨Nat.le_of_ble_eq_true rfl, Nat.le_of_ble_eq_true rfl⟩ H
      · refine go_iconst (pc := 25) (v := 1) dX10_hasWatch_25 (by decide) ?_
        refine go_goto (pc := 26) (tgt := 30) dX10_hasWatch_26 (by decide) ?_
        exact go_zret (pc := 30) dX10_hasWatch_30 rfl ⟨Nat.le_of_ble_eq_true rfl, Nat.le_of_ble_eq_true rfl⟩ H

def M_X10_watch : MD := (yX10_watch, cX10_watch, 3, (some .int), 2, 44, 0, 0)
theorem cv_X10_watch : CVo M_X10_watch 2 10 := ⟨⟨wd_748, wd_109, ⟨by decide, by decide⟩, by decide +kernel⟩, wd_746, wd_747, _, rfl, rfl⟩
def X10_watch_B23 (a0 : Nat) (a1 : Int32) (a2 : Int32) (s0 : Nat) (s1 : Int32) (h : Hp) : Option (Int32 × Hp) :=
  cV h s0 10 (X10_isRefused s0 s1 h) fun v202 h201 =>
  if v202 = 0 then (
    if a2 = 0 then (
      (gR h201 a0 10 2).bind fun v203 =>
      (gR h201 v203 4 0).bind fun v204 =>
      cV h201 v204 8 (X8_cell v204 a1 0 h201) fun v206 h205 =>
      some (v206, h205))
    else if a2 = 1 then (
      (gR h201 a0 10 9).bind fun v207 =>
      (gR h201 v207 9 2).bind fun v208 =>
      cV h201 v208 8 (X8_cell v208 a1 1 h201) fun v210 h209 =>
      some (v210, h209))
    else if a2 = 2 then (
      (gR h201 a0 10 2).bind fun v211 =>
      (gR h201 v211 4 0).bind fun v212 =>
      cV h201 v212 8 (X8_cell v212 a1 1 h201) fun v214 h213 =>
      some (v214, h213))
    else if a2 = 3 then (
      (gR h201 a0 10 9).bind fun v215 =>
      (gR h201 v215 9 2).bind fun v216 =>
      cV h201 v216 8 (X8_cell v216 a1 3 h201) fun v218 h217 =>
      some (v218, h217))
    else if a2 = 4 then (
      (gR h201 a0 10 2).bind fun v219 =>
      (gR h201 v219 4 0).bind fun v220 =>
      cV h201 v220 8 (X8_cell v220 a1 2 h201) fun v222 h221 =>
      some (v222, h221))
    else (
      (gR h201 a0 10 5).bind fun v223 =>
      (gR h201 a0 10 2).bind fun v224 =>
      cV h201 v223 6 (X6_looksIn v223 v224 a1 h201) fun v226 h225 =>
      some (v226, h225)))
  else (
    some ((-1), h201))
theorem X10_watch_B23_ok {hh h' : Hp} {r : Int32}  (a0 : Nat) (a1 : Int32) (a2 : Int32) (s0 : Nat) (s1 : Int32) (h : Hp) (H : X10_watch_B23 a0 a1 a2 s0 s1 h = some (r, h')) : Go (PM M_X10_watch hh (some (.int r)) h') M_X10_watch 23 [some (.ref a0), some (.int a1), some (.int a2)] [.int s1, .ref s0] h 0 0 := by
  unfold X10_watch_B23 at H
  refine go_cVi (pc := 23) (Mz := M_X10_isRefused) (as := [.int s1]) (a := s0) (st := []) dX10_watch_23 wd_511 cv_X10_isRefused X10_isRefused_ok rfl rfl ⟨Nat.le_of_ble_eq_true rfl, Nat.le_of_ble_eq_true rfl⟩ (Nat.le_of_ble_eq_true rfl) ⟨rfl, rfl⟩ ⟨Nat.le_of_ble_eq_true rfl, Nat.le_of_ble_eq_true rfl⟩ H (fun v202 h201 H => ?_)
  refine go_if_eq (pc := 26) (tgt := 31) dX10_watch_26 (by decide) H (fun H => ?_) (fun H => ?_)
  · refine go_iload_n (pc := 31) dX10_watch_31 rfl rfl ?_
    by_cases c0 : a2 = 0
    · rw [if_pos c0] at H
      refine go_tabIn (pc := 32) (off := 36) (tgt := 68) dX10_watch_32 (by rw [c0]; decide) (by rw [c0]; decide) (by rw [c0]; decide) (by decide) ?_
      refine go_aload_n (pc := 68) dX10_watch_68 rfl rfl ?_
      refine go_getR (pc := 69) dX10_watch_69 fl_X10_35 H (fun v203 H => ?_)
      refine go_getR (pc := 72) dX10_watch_72 fl_X10_122 H (fun v204 H => ?_)
      refine go_iload_n (pc := 75) dX10_watch_75 rfl rfl ?_
      refine go_iconst (pc := 76) (v := 0) dX10_watch_76 (by decide) ?_
      refine go_cVi (pc := 77) (Mz := M_X8_cell) (as := [.int a1, .int 0]) (a := v204) (st := []) dX10_watch_77 wd_753 cv_X8_cell X8_cell_ok rfl rfl ⟨Nat.le_of_ble_eq_true rfl, Nat.le_of_ble_eq_true rfl⟩ (Nat.le_of_ble_eq_true rfl) ⟨rfl, rfl⟩ ⟨Nat.le_of_ble_eq_true rfl, Nat.le_of_ble_eq_true rfl⟩ H (fun v206 h205 H => ?_)
      exact go_iret (pc := 80) dX10_watch_80 rfl ⟨Nat.le_of_ble_eq_true rfl, Nat.le_of_ble_eq_true rfl⟩ H
    rw [if_neg c0] at H
    by_cases c1 : a2 = 1
    · rw [if_pos c1] at H
      refine go_tabIn (pc := 32) (off := 49) (tgt := 81) dX10_watch_32 (by rw [c1]; decide) (by rw [c1]; decide) (by rw [c1]; decide) (by decide) ?_
      refine go_aload_n (pc := 81) dX10_watch_81 rfl rfl ?_
      refine go_getR (pc := 82) dX10_watch_82 fl_X10_16 H (fun v207 H => ?_)
      refine go_getR (pc := 85) dX10_watch_85 fl_X10_104 H (fun v208 H => ?_)
      refine go_iload_n (pc := 88) dX10_watch_88 rfl rfl ?_
      refine go_iconst (pc := 89) (v := 1) dX10_watch_89 (by decide) ?_
      refine go_cVi (pc := 90) (Mz := M_X8_cell) (as := [.int a1, .int 1]) (a := v208) (st := []) dX10_watch_90 wd_753 cv_X8_cell X8_cell_ok rfl rfl ⟨Nat.le_of_ble_eq_true rfl, Nat.le_of_ble_eq_true rfl⟩ (Nat.le_of_ble_eq_true rfl) ⟨rfl, rfl⟩ ⟨Nat.le_of_ble_eq_true rfl, Nat.le_of_ble_eq_true rfl⟩ H (fun v210 h209 H => ?_)
      exact go_iret (pc := 93) dX10_watch_93 rfl ⟨Nat.le_of_ble_eq_true rfl, Nat.le_of_ble_eq_true rfl⟩ H
    rw [if_neg c1] at H
    by_cases c2 : a2 = 2
    · rw [if_pos c2] at H
      refine go_tabIn (pc := 32) (off := 62) (tgt := 94) dX10_watch_32 (by rw [c2]; decide) (by rw [c2]; decide) (by rw [c2]; decide) (by decide) ?_
      refine go_aload_n (pc := 94) dX10_watch_94 rfl rfl ?_
      refine go_getR (pc := 95) dX10_watch_95 fl_X10_35 H (fun v211 H => ?_)
      refine go_getR (pc := 98) dX10_watch_98 fl_X10_122 H (fun v212 H => ?_)
      refine go_iload_n (pc := 101) dX10_watch_101 rfl rfl ?_
      refine go_iconst (pc := 102) (v := 1) dX10_watch_102 (by decide) ?_
      refine go_cVi (pc := 103) (Mz := M_X8_cell) (as := [.int a1, .int 1]) (a := v212) (st := []) dX10_watch_103 wd_753 cv_X8_cell X8_cell_ok rfl rfl ⟨Nat.le_of_ble_eq_true rfl, Nat.le_of_ble_eq_true rfl⟩ (Nat.le_of_ble_eq_true rfl) ⟨rfl, rfl⟩ ⟨Nat.le_of_ble_eq_true rfl, Nat.le_of_ble_eq_true rfl⟩ H (fun v214 h213 H => ?_)
      exact go_iret (pc := 106) dX10_watch_106 rfl ⟨Nat.le_of_ble_eq_true rfl, Nat.le_of_ble_eq_true rfl⟩ H
    rw [if_neg c2] at H
    by_cases c3 : a2 = 3
    · rw [if_pos c3] at H
      refine go_tabIn (pc := 32) (off := 75) (tgt := 107) dX10_watch_32 (by rw [c3]; decide) (by rw [c3]; decide) (by rw [c3]; decide) (by decide) ?_
      refine go_aload_n (pc := 107) dX10_watch_107 rfl rfl ?_
      refine go_getR (pc := 108) dX10_watch_108 fl_X10_16 H (fun v215 H => ?_)
      refine go_getR (pc := 111) dX10_watch_111 fl_X10_104 H (fun v216 H => ?_)
      refine go_iload_n (pc := 114) dX10_watch_114 rfl rfl ?_
      refine go_iconst (pc := 115) (v := 3) dX10_watch_115 (by decide) ?_
      refine go_cVi (pc := 116) (Mz := M_X8_cell) (as := [.int a1, .int 3]) (a := v216) (st := []) dX10_watch_116 wd_753 cv_X8_cell X8_cell_ok rfl rfl ⟨Nat.le_of_ble_eq_true rfl, Nat.le_of_ble_eq_true rfl⟩ (Nat.le_of_ble_eq_true rfl) ⟨rfl, rfl⟩ ⟨Nat.le_of_ble_eq_true rfl, Nat.le_of_ble_eq_true rfl⟩ H (fun v218 h217 H => ?_)
      exact go_iret (pc := 119) dX10_watch_119 rfl ⟨Nat.le_of_ble_eq_true rfl, Nat.le_of_ble_eq_true rfl⟩ H
    rw [if_neg c3] at H
    by_cases c4 : a2 = 4
    · rw [if_pos c4] at H
      refine go_tabIn (pc := 32) (off := 88) (tgt := 120) dX10_watch_32 (by rw [c4]; decide) (by rw [c4]; decide) (by rw [c4]; decide) (by decide) ?_
      refine go_aload_n (pc := 120) dX10_watch_120 rfl rfl ?_
      refine go_getR (pc := 121) dX10_watch_121 fl_X10_35 H (fun v219 H => ?_)
      refine go_getR (pc := 124) dX10_watch_124 fl_X10_122 H (fun v220 H => ?_)
      refine go_iload_n (pc := 127) dX10_watch_127 rfl rfl ?_
      refine go_iconst (pc := 128) (v := 2) dX10_watch_128 (by decide) ?_
      refine go_cVi (pc := 129) (Mz := M_X8_cell) (as := [.int a1, .int 2]) (a := v220) (st := []) dX10_watch_129 wd_753 cv_X8_cell X8_cell_ok rfl rfl ⟨Nat.le_of_ble_eq_true rfl, Nat.le_of_ble_eq_true rfl⟩ (Nat.le_of_ble_eq_true rfl) ⟨rfl, rfl⟩ ⟨Nat.le_of_ble_eq_true rfl, Nat.le_of_ble_eq_true rfl⟩ H (fun v222 h221 H => ?_)
      exact go_iret (pc := 132) dX10_watch_132 rfl ⟨Nat.le_of_ble_eq_true rfl, Nat.le_of_ble_eq_true rfl⟩ H
    rw [if_neg c4] at H
    refine go_tabOut (pc := 32) (tgt := 133) dX10_watch_32 (by have z0 : a2.toInt ≠ 0 := i32_ne c0; have z1 : a2.toInt ≠ 1 := i32_ne c1; have z2 : a2.toInt ≠ 2 := i32_ne c2; have z3 : a2.toInt ≠ 3 := i32_ne c3; have z4 : a2.toInt ≠ 4 := i32_ne c4; omega) (by decide) ?_
    refine go_aload_n (pc := 133) dX10_watch_133 rfl rfl ?_
    refine go_getR (pc := 134) dX10_watch_134 fl_X10_55 H (fun v223 H => ?_)
    refine go_aload_n (pc := 137) dX10_watch_137 rfl rfl ?_
    refine go_getR (pc := 138) dX10_watch_138 fl_X10_35 H (fun v224 H => ?_)
    refine go_iload_n (pc := 141) dX10_watch_141 rfl rfl ?_
    refine go_cVi (pc := 142) (Mz := M_X6_looksIn) (as := [.ref v224, .int a1]) (a := v223) (st := []) dX10_watch_142 wd_754 cv_X6_looksIn X6_looksIn_ok rfl rfl ⟨Nat.le_of_ble_eq_true rfl, Nat.le_of_ble_eq_true rfl⟩ (Nat.le_of_ble_eq_true rfl) ⟨rfl, rfl⟩ ⟨Nat.le_of_ble_eq_true rfl, Nat.le_of_ble_eq_true rfl⟩ H (fun v226 h225 H => ?_)
    exact go_iret (pc := 145) dX10_watch_145 rfl ⟨Nat.le_of_ble_eq_true rfl, Nat.le_of_ble_eq_true rfl⟩ H
  · refine go_iconst (pc := 29) (v := (-1)) dX10_watch_29 (by decide) ?_
    exact go_iret (pc := 30) dX10_watch_30 rfl ⟨Nat.le_of_ble_eq_true rfl, Nat.le_of_ble_eq_true rfl⟩ H

def X10_watch_B22 (a0 : Nat) (a1 : Int32) (a2 : Int32) (s0 : Nat) (h : Hp) : Option (Int32 × Hp) :=
  X10_watch_B23 a0 a1 a2 s0 1 h
theorem X10_watch_B22_ok {hh h' : Hp} {r : Int32}  (a0 : Nat) (a1 : Int32) (a2 : Int32) (s0 : Nat) (h : Hp) (H : X10_watch_B22 a0 a1 a2 s0 h = some (r, h')) : Go (PM M_X10_watch hh (some (.int r)) h') M_X10_watch 22 [some (.ref a0), some (.int a1), some (.int a2)] [.ref s0] h 0 0 := by
  unfold X10_watch_B22 at H
  refine go_iconst (pc := 22) (v := 1) dX10_watch_22 (by decide) ?_
  exact Go.weak (L' := [some (.ref a0), some (.int a1), some (.int a2)]) ⟨rfl, ⟨rfl, ⟨rfl, trivial⟩⟩⟩ (X10_watch_B23_ok a0 a1 a2 s0 1 h H)

def X10_watch (a0 : Nat) (a1 : Int32) (a2 : Int32) (h : Hp) : Option (Int32 × Hp) :=
  cV h a0 10 (X10_hasWatch a0 a1 h) fun v2 h1 =>
  if v2 = 0 then (
    X10_watch_B22 a0 a1 a2 a0 h1)
  else (
    if a2 < 0 then (
      X10_watch_B22 a0 a1 a2 a0 h1)
    else (
      if 5 < a2 then (
        X10_watch_B22 a0 a1 a2 a0 h1)
      else (
        X10_watch_B23 a0 a1 a2 a0 0 h1)))
theorem X10_watch_ok {a0 : Nat} {a1 : Int32} {a2 : Int32} {h h' : Hp} {r : Int32} (H : X10_watch a0 a1 a2 h = some (r, h')) : Con M_X10_watch [.ref a0, .int a1, .int a2] h (some (.int r)) h' := by
  refine con_of_go (by decide) 0 (L := [some (.ref a0), some (.int a1), some (.int a2)]) rfl (Nat.le_of_ble_eq_true rfl) ?_
  unfold X10_watch at H
  refine go_aload_n (pc := 0) dX10_watch_0 rfl rfl ?_
  refine go_aload_n (pc := 1) dX10_watch_1 rfl rfl ?_
  refine go_iload_n (pc := 2) dX10_watch_2 rfl rfl ?_
  refine go_cVi (pc := 3) (Mz := M_X10_hasWatch) (as := [.int a1]) (a := a0) (st := [.ref a0]) dX10_watch_3 wd_749 cv_X10_hasWatch X10_hasWatch_ok rfl rfl ⟨Nat.le_of_ble_eq_true rfl, Nat.le_of_ble_eq_true rfl⟩ (Nat.le_of_ble_eq_true rfl) ⟨rfl, rfl⟩ ⟨Nat.le_of_ble_eq_true rfl, Nat.le_of_ble_eq_true rfl⟩ H (fun v2 h1 H => ?_)
  refine go_if_eq (pc := 6) (tgt := 22) dX10_watch_6 (by decide) H (fun H => ?_) (fun H => ?_)
  · exact Go.weak (L' := [some (.ref a0), some (.int a1), some (.int a2)]) ⟨rfl, ⟨rfl, ⟨rfl, trivial⟩⟩⟩ (X10_watch_B22_ok a0 a1 a2 a0 h1 H)
  · refine go_iload_n (pc := 9) dX10_watch_9 rfl rfl ?_
    refine go_if_lt (pc := 10) (tgt := 22) dX10_watch_10 (by decide) H (fun H => ?_) (fun H => ?_)
    · exact Go.weak (L' := [some (.ref a0), some (.int a1), some (.int a2)]) ⟨rfl, ⟨rfl, ⟨rfl, trivial⟩⟩⟩ (X10_watch_B22_ok a0 a1 a2 a0 h1 H)
    · refine go_iload_n (pc := 13) dX10_watch_13 rfl rfl ?_
      refine go_iconst (pc := 14) (v := 5) dX10_watch_14 (by decide) ?_
      refine go_icmp_gt (pc := 15) (tgt := 22) dX10_watch_15 (by decide) H (fun H => ?_) (fun H => ?_)
      · exact Go.weak (L' := [some (.ref a0), some (.int a1), some (.int a2)]) ⟨rfl, ⟨rfl, ⟨rfl, trivial⟩⟩⟩ (X10_watch_B22_ok a0 a1 a2 a0 h1 H)
      · refine go_iconst (pc := 18) (v := 0) dX10_watch_18 (by decide) ?_
        refine go_goto (pc := 19) (tgt := 23) dX10_watch_19 (by decide) ?_
        exact Go.weak (L' := [some (.ref a0), some (.int a1), some (.int a2)]) ⟨rfl, ⟨rfl, ⟨rfl, trivial⟩⟩⟩ (X10_watch_B23_ok a0 a1 a2 a0 0 h1 H)

def M_X10_hasBoy : MD := (yX10_hasBoy, cX10_hasBoy, 2, (some .boolean), 0, 0, 0, 0)
theorem cv_X10_hasBoy : CVo M_X10_hasBoy 1 10 := ⟨⟨wd_766, wd_109, ⟨by decide, by decide⟩, by decide +kernel⟩, wd_765, wd_27, _, rfl, rfl⟩
def X10_hasBoy (a0 : Nat) (a1 : Int32) (h : Hp) : Option (Int32 × Hp) :=
  (gI h a0 10 11).bind fun v1 =>
  if v1 = 0 then (
    rZ 0 h)
  else (
    if a1 < 0 then (
      rZ 0 h)
    else (
      (gR h a0 10 9).bind fun v2 =>
      (gR h v2 9 0).bind fun v3 =>
      (gI h v3 8 3).bind fun v4 =>
      if v4 ≤ a1 then (
        rZ 0 h)
      else (
        rZ 1 h)))
theorem X10_hasBoy_ok {a0 : Nat} {a1 : Int32} {h h' : Hp} {r : Int32} (H : X10_hasBoy a0 a1 h = some (r, h')) : Con M_X10_hasBoy [.ref a0, .int a1] h (some (.int r)) h' := by
  refine con_of_go (by decide) 0 (L := [some (.ref a0), some (.int a1)]) rfl (Nat.le_of_ble_eq_true rfl) ?_
  unfold X10_hasBoy at H
  refine go_aload_n (pc := 0) dX10_hasBoy_0 rfl rfl ?_
  refine go_getI (pc := 1) dX10_hasBoy_1 fl_X10_144 H (fun v1 H => ?_)
  refine go_if_eq (pc := 4) (tgt := 29) dX10_hasBoy_4 (by decide) H (fun H => ?_) (fun H => ?_)
  · refine go_iconst (pc := 29) (v := 0) dX10_hasBoy_29 (by decide) ?_
    exact go_zret (pc := 30) dX10_hasBoy_30 rfl ⟨Nat.le_of_ble_eq_true rfl, Nat.le_of_ble_eq_true rfl⟩ H
  · refine go_iload_n (pc := 7) dX10_hasBoy_7 rfl rfl ?_
    refine go_if_lt (pc := 8) (tgt := 29) dX10_hasBoy_8 (by decide) H (fun H => ?_) (fun H => ?_)
    · refine go_iconst (pc := 29) (v := 0) dX10_hasBoy_29 (by decide) ?_
      exact go_zret (pc := 30) dX10_hasBoy_30 rfl ⟨Nat.le_of_ble_eq_true rfl, Nat.le_of_ble_eq_true rfl⟩ H
    · refine go_iload_n (pc := 11) dX10_hasBoy_11 rfl rfl ?_
      refine go_aload_n (pc := 12) dX10_hasBoy_12 rfl rfl ?_
      refine go_getR (pc := 13) dX10_hasBoy_13 fl_X10_16 H (fun v2 H => ?_)
      refine go_getR (pc := 16) dX10_hasBoy_16 fl_X10_134 H (fun v3 H => ?_)
      refine go_getI (pc := 19) dX10_hasBoy_19 fl_X10_108 H (fun v4 H => ?_)
      refine go_icmp_ge (pc := 22) (tgt := 29) dX10_hasBoy_22 (by decide) H (fun H => ?_) (fun H => ?_)
      · refine go_iconst (pc := 29) (v := 0) dX10_hasBoy_29 (by decide) ?_
        exact go_zret (pc := 30) dX10_hasBoy_30 rfl ⟨Nat.le_of_ble_eq_true rfl, Nat.le_of_ble_eq_true rfl⟩ H
      · refine go_iconst (pc := 25) (v := 1) dX10_hasBoy_25 (by decide) ?_
        refine go_goto (pc := 26) (tgt := 30) dX10_hasBoy_26 (by decide) ?_
        exact go_zret (pc := 30) dX10_hasBoy_30 rfl ⟨Nat.le_of_ble_eq_true rfl, Nat.le_of_ble_eq_true rfl⟩ H

def M_X10_watchesWith : MD := (yX10_watchesWith, cX10_watchesWith, 6, (some .int), 1, 22, 0, 0)
theorem cv_X10_watchesWith : CVo M_X10_watchesWith 3 10 := ⟨⟨wd_770, wd_109, ⟨by decide, by decide⟩, by decide +kernel⟩, wd_769, wd_28, _, rfl, rfl⟩
def X10_watchesWith_B41 (rc6 : Nat → Nat → Int32 → Int32 → Int32 → Int32 → Hp → Option (Int32 × Hp)) (a0 : Nat) (a1 : Nat) (a2 : Int32) (a3 : Int32) (a4 : Int32) (a5 : Int32) (h : Hp) : Option (Int32 × Hp) :=
  rc6 a0 a1 a2 a3 a4 (a5 + 1) h
theorem X10_watchesWith_B41_ok {hh h' : Hp} {r : Int32}  (rc6 : Nat → Nat → Int32 → Int32 → Int32 → Int32 → Hp → Option (Int32 × Hp)) (hrc6 : ∀ (a0 : Nat) (a1 : Nat) (a2 : Int32) (a3 : Int32) (a4 : Int32) (a5 : Int32) (h : Hp), rc6 a0 a1 a2 a3 a4 a5 h = some (r, h') → Go (PM M_X10_watchesWith hh (some (.int r)) h') M_X10_watchesWith 6 [some (.ref a0), some (.ref a1), some (.int a2), some (.int a3), some (.int a4), some (.int a5)] [] h 0 0) (a0 : Nat) (a1 : Nat) (a2 : Int32) (a3 : Int32) (a4 : Int32) (a5 : Int32) (h : Hp) (H : X10_watchesWith_B41 rc6 a0 a1 a2 a3 a4 a5 h = some (r, h')) : Go (PM M_X10_watchesWith hh (some (.int r)) h') M_X10_watchesWith 41 [some (.ref a0), some (.ref a1), some (.int a2), some (.int a3), some (.int a4), some (.int a5)] [] h 0 0 := by
  unfold X10_watchesWith_B41 at H
  refine go_iinc (pc := 41) (v := a5 + 1) (L' := [some (.ref a0), some (.ref a1), some (.int a2), some (.int a3), some (.int a4), some (.int (a5 + 1))]) dX10_watchesWith_41 rfl rfl (Nat.le_of_ble_eq_true rfl) rfl ?_
  refine go_goto (pc := 44) (tgt := 6) dX10_watchesWith_44 (by decide) ?_
  exact Go.weak (L' := [some (.ref a0), some (.ref a1), some (.int a2), some (.int a3), some (.int a4), some (.int (a5 + 1))]) ⟨rfl, ⟨rfl, ⟨rfl, ⟨rfl, ⟨rfl, ⟨rfl, trivial⟩⟩⟩⟩⟩⟩ (hrc6 a0 a1 a2 a3 a4 (a5 + 1) h H)

def X10_watchesWith_L6_s (rc6 : Nat → Nat → Int32 → Int32 → Int32 → Int32 → Hp → Option (Int32 × Hp)) (a0 : Nat) (a1 : Nat) (a2 : Int32) (a3 : Int32) (a4 : Int32) (a5 : Int32) (h : Hp) : Option (Int32 × Hp) :=
  (gR h a0 10 9).bind fun v101 =>
  (gR h v101 9 2).bind fun v102 =>
  (gI h v102 8 3).bind fun v103 =>
  if v103 ≤ a5 then (
    some (a4, h))
  else (
    cV h a1 8 (X8_cell a1 a5 a2 h) fun v105 h104 =>
    if v105 = a3 then (
      pin (a4 ||| ((1 : Int32) <<< (a5 &&& 31))) fun v106 =>
      X10_watchesWith_B41 rc6 a0 a1 a2 a3 v106 a5 h104)
    else (
      X10_watchesWith_B41 rc6 a0 a1 a2 a3 a4 a5 h104))
def X10_watchesWith_L6 (q : Nat) : Nat → Nat → Int32 → Int32 → Int32 → Int32 → Hp → Option (Int32 × Hp) := loopN (fun _ _ _ _ _ _ _ => none) (X10_watchesWith_L6_s) q
theorem X10_watchesWith_L6_ok {hh h' : Hp} {r : Int32}  : ∀ (q : Nat) (a0 : Nat) (a1 : Nat) (a2 : Int32) (a3 : Int32) (a4 : Int32) (a5 : Int32) (h : Hp), X10_watchesWith_L6 q a0 a1 a2 a3 a4 a5 h = some (r, h') → Go (PM M_X10_watchesWith hh (some (.int r)) h') M_X10_watchesWith 6 [some (.ref a0), some (.ref a1), some (.int a2), some (.int a3), some (.int a4), some (.int a5)] [] h 0 0 := by
  intro q
  induction q with
  | zero => intro a0 a1 a2 a3 a4 a5 h H; cases H
  | succ q hrc6 =>
    intro a0 a1 a2 a3 a4 a5 h H
    replace H : X10_watchesWith_L6_s (X10_watchesWith_L6 q) a0 a1 a2 a3 a4 a5 h = some (r, h') := H
    unfold X10_watchesWith_L6_s at H
    refine go_iload (pc := 6) dX10_watchesWith_6 rfl ?_
    refine go_aload_n (pc := 8) dX10_watchesWith_8 rfl rfl ?_
    refine go_getR (pc := 9) dX10_watchesWith_9 fl_X10_16 H (fun v101 H => ?_)
    refine go_getR (pc := 12) dX10_watchesWith_12 fl_X10_104 H (fun v102 H => ?_)
    refine go_getI (pc := 15) dX10_watchesWith_15 fl_X10_108 H (fun v103 H => ?_)
    refine go_icmp_ge (pc := 18) (tgt := 47) dX10_watchesWith_18 (by decide) H (fun H => ?_) (fun H => ?_)
    · refine go_iload (pc := 47) dX10_watchesWith_47 rfl ?_
      exact go_iret (pc := 49) dX10_watchesWith_49 rfl ⟨Nat.le_of_ble_eq_true rfl, Nat.le_of_ble_eq_true rfl⟩ H
    · refine go_aload_n (pc := 21) dX10_watchesWith_21 rfl rfl ?_
      refine go_iload (pc := 22) dX10_watchesWith_22 rfl ?_
      refine go_iload_n (pc := 24) dX10_watchesWith_24 rfl rfl ?_
      refine go_cVi (pc := 25) (Mz := M_X8_cell) (as := [.int a5, .int a2]) (a := a1) (st := []) dX10_watchesWith_25 wd_753 cv_X8_cell X8_cell_ok rfl rfl ⟨Nat.le_of_ble_eq_true rfl, Nat.le_of_ble_eq_true rfl⟩ (Nat.le_of_ble_eq_true rfl) ⟨rfl, rfl⟩ ⟨Nat.le_of_ble_eq_true rfl, Nat.le_of_ble_eq_true rfl⟩ H (fun v105 h104 H => ?_)
      refine go_iload_n (pc := 28) dX10_watchesWith_28 rfl rfl ?_
      refine go_icmp_ne (pc := 29) (tgt := 41) dX10_watchesWith_29 (by decide) H (fun H => ?_) (fun H => ?_)
      · exact Go.weak (L' := [some (.ref a0), some (.ref a1), some (.int a2), some (.int a3), some (.int a4), some (.int a5)]) ⟨rfl, ⟨rfl, ⟨rfl, ⟨rfl, ⟨rfl, ⟨rfl, trivial⟩⟩⟩⟩⟩⟩ (X10_watchesWith_B41_ok _ hrc6 a0 a1 a2 a3 a4 a5 h104 H)
      · refine go_iload (pc := 32) dX10_watchesWith_32 rfl ?_
        refine go_iconst (pc := 34) (v := 1) dX10_watchesWith_34 (by decide) ?_
        refine go_iload (pc := 35) dX10_watchesWith_35 rfl ?_
        refine go_ishl (pc := 37) dX10_watchesWith_37 ?_
        refine go_ior (pc := 38) dX10_watchesWith_38 ?_
        refine go_pin H (fun v106 H => ?_)
        refine go_istore (pc := 39) (L' := [some (.ref a0), some (.ref a1), some (.int a2), some (.int a3), some (.int v106), some (.int a5)]) dX10_watchesWith_39 (Nat.le_of_ble_eq_true rfl) rfl ?_
        exact Go.weak (L' := [some (.ref a0), some (.ref a1), some (.int a2), some (.int a3), some (.int v106), some (.int a5)]) ⟨rfl, ⟨rfl, ⟨rfl, ⟨rfl, ⟨rfl, ⟨rfl, trivial⟩⟩⟩⟩⟩⟩ (X10_watchesWith_B41_ok _ hrc6 a0 a1 a2 a3 v106 a5 h104 H)

def X10_watchesWith (a0 : Nat) (a1 : Nat) (a2 : Int32) (a3 : Int32) (h : Hp) : Option (Int32 × Hp) :=
  X10_watchesWith_L6 5000 a0 a1 a2 a3 0 0 h
theorem X10_watchesWith_ok {a0 : Nat} {a1 : Nat} {a2 : Int32} {a3 : Int32} {h h' : Hp} {r : Int32} (H : X10_watchesWith a0 a1 a2 a3 h = some (r, h')) : Con M_X10_watchesWith [.ref a0, .ref a1, .int a2, .int a3] h (some (.int r)) h' := by
  refine con_of_go (by decide) 2 (L := [some (.ref a0), some (.ref a1), some (.int a2), some (.int a3), none, none]) rfl (Nat.le_of_ble_eq_true rfl) ?_
  unfold X10_watchesWith at H
  refine go_iconst (pc := 0) (v := 0) dX10_watchesWith_0 (by decide) ?_
  refine go_istore (pc := 1) (L' := [some (.ref a0), some (.ref a1), some (.int a2), some (.int a3), some (.int 0), none]) dX10_watchesWith_1 (Nat.le_of_ble_eq_true rfl) rfl ?_
  refine go_iconst (pc := 3) (v := 0) dX10_watchesWith_3 (by decide) ?_
  refine go_istore (pc := 4) (L' := [some (.ref a0), some (.ref a1), some (.int a2), some (.int a3), some (.int 0), some (.int 0)]) dX10_watchesWith_4 (Nat.le_of_ble_eq_true rfl) rfl ?_
  exact Go.weak (L' := [some (.ref a0), some (.ref a1), some (.int a2), some (.int a3), some (.int 0), some (.int 0)]) ⟨rfl, ⟨rfl, ⟨rfl, ⟨rfl, ⟨rfl, ⟨rfl, trivial⟩⟩⟩⟩⟩⟩ (X10_watchesWith_L6_ok 5000 a0 a1 a2 a3 0 0 h H)

def M_X10_boy : MD := (yX10_boy, cX10_boy, 3, (some .int), 4, 95, 0, 0)
theorem cv_X10_boy : CVo M_X10_boy 2 10 := ⟨⟨wd_762, wd_109, ⟨by decide, by decide⟩, by decide +kernel⟩, wd_760, wd_761, _, rfl, rfl⟩
def X10_boy_B23 (a0 : Nat) (a1 : Int32) (a2 : Int32) (s0 : Nat) (s1 : Int32) (h : Hp) : Option (Int32 × Hp) :=
  cV h s0 10 (X10_isRefused s0 s1 h) fun v202 h201 =>
  if v202 = 0 then (
    if a2 = 0 then (
      (gR h201 a0 10 9).bind fun v203 =>
      (gR h201 v203 9 0).bind fun v204 =>
      cV h201 v204 8 (X8_cell v204 a1 0 h201) fun v206 h205 =>
      some (v206, h205))
    else if a2 = 1 then (
      (gR h201 a0 10 9).bind fun v207 =>
      (gR h201 v207 9 0).bind fun v208 =>
      cV h201 v208 8 (X8_cell v208 a1 1 h201) fun v210 h209 =>
      some (v210, h209))
    else if a2 = 2 then (
      (gR h201 a0 10 2).bind fun v211 =>
      (gR h201 v211 4 0).bind fun v212 =>
      cV h201 a0 10 (X10_watchesWith a0 v212 0 a1 h201) fun v214 h213 =>
      some (v214, h213))
    else (
      (gR h201 a0 10 5).bind fun v215 =>
      (gR h201 a0 10 2).bind fun v216 =>
      cV h201 v215 6 (X6_stolenOf v215 v216 a1 h201) fun v218 h217 =>
      some (v218, h217)))
  else (
    some ((-1), h201))
theorem X10_boy_B23_ok {hh h' : Hp} {r : Int32}  (a0 : Nat) (a1 : Int32) (a2 : Int32) (s0 : Nat) (s1 : Int32) (h : Hp) (H : X10_boy_B23 a0 a1 a2 s0 s1 h = some (r, h')) : Go (PM M_X10_boy hh (some (.int r)) h') M_X10_boy 23 [some (.ref a0), some (.int a1), some (.int a2)] [.int s1, .ref s0] h 0 0 := by
  unfold X10_boy_B23 at H
  refine go_cVi (pc := 23) (Mz := M_X10_isRefused) (as := [.int s1]) (a := s0) (st := []) dX10_boy_23 wd_511 cv_X10_isRefused X10_isRefused_ok rfl rfl ⟨Nat.le_of_ble_eq_true rfl, Nat.le_of_ble_eq_true rfl⟩ (Nat.le_of_ble_eq_true rfl) ⟨rfl, rfl⟩ ⟨Nat.le_of_ble_eq_true rfl, Nat.le_of_ble_eq_true rfl⟩ H (fun v202 h201 H => ?_)
  refine go_if_eq (pc := 26) (tgt := 31) dX10_boy_26 (by decide) H (fun H => ?_) (fun H => ?_)
  · refine go_iload_n (pc := 31) dX10_boy_31 rfl rfl ?_
    by_cases c0 : a2 = 0
    · rw [if_pos c0] at H
      refine go_tabIn (pc := 32) (off := 28) (tgt := 60) dX10_boy_32 (by rw [c0]; decide) (by rw [c0]; decide) (by rw [c0]; decide) (by decide) ?_
      refine go_aload_n (pc := 60) dX10_boy_60 rfl rfl ?_
      refine go_getR (pc := 61) dX10_boy_61 fl_X10_16 H (fun v203 H => ?_)
      refine go_getR (pc := 64) dX10_boy_64 fl_X10_134 H (fun v204 H => ?_)
      refine go_iload_n (pc := 67) dX10_boy_67 rfl rfl ?_
      refine go_iconst (pc := 68) (v := 0) dX10_boy_68 (by decide) ?_
      refine go_cVi (pc := 69) (Mz := M_X8_cell) (as := [.int a1, .int 0]) (a := v204) (st := []) dX10_boy_69 wd_753 cv_X8_cell X8_cell_ok rfl rfl ⟨Nat.le_of_ble_eq_true rfl, Nat.le_of_ble_eq_true rfl⟩ (Nat.le_of_ble_eq_true rfl) ⟨rfl, rfl⟩ ⟨Nat.le_of_ble_eq_true rfl, Nat.le_of_ble_eq_true rfl⟩ H (fun v206 h205 H => ?_)
      exact go_iret (pc := 72) dX10_boy_72 rfl ⟨Nat.le_of_ble_eq_true rfl, Nat.le_of_ble_eq_true rfl⟩ H
    rw [if_neg c0] at H
    by_cases c1 : a2 = 1
    · rw [if_pos c1] at H
      refine go_tabIn (pc := 32) (off := 41) (tgt := 73) dX10_boy_32 (by rw [c1]; decide) (by rw [c1]; decide) (by rw [c1]; decide) (by decide) ?_
      refine go_aload_n (pc := 73) dX10_boy_73 rfl rfl ?_
      refine go_getR (pc := 74) dX10_boy_74 fl_X10_16 H (fun v207 H => ?_)
      refine go_getR (pc := 77) dX10_boy_77 fl_X10_134 H (fun v208 H => ?_)
      refine go_iload_n (pc := 80) dX10_boy_80 rfl rfl ?_
      refine go_iconst (pc := 81) (v := 1) dX10_boy_81 (by decide) ?_
      refine go_cVi (pc := 82) (Mz := M_X8_cell) (as := [.int a1, .int 1]) (a := v208) (st := []) dX10_boy_82 wd_753 cv_X8_cell X8_cell_ok rfl rfl ⟨Nat.le_of_ble_eq_true rfl, Nat.le_of_ble_eq_true rfl⟩ (Nat.le_of_ble_eq_true rfl) ⟨rfl, rfl⟩ ⟨Nat.le_of_ble_eq_true rfl, Nat.le_of_ble_eq_true rfl⟩ H (fun v210 h209 H => ?_)
      exact go_iret (pc := 85) dX10_boy_85 rfl ⟨Nat.le_of_ble_eq_true rfl, Nat.le_of_ble_eq_true rfl⟩ H
    rw [if_neg c1] at H
    by_cases c2 : a2 = 2
    · rw [if_pos c2] at H
      refine go_tabIn (pc := 32) (off := 54) (tgt := 86) dX10_boy_32 (by rw [c2]; decide) (by rw [c2]; decide) (by rw [c2]; decide) (by decide) ?_
      refine go_aload_n (pc := 86) dX10_boy_86 rfl rfl ?_
      refine go_aload_n (pc := 87) dX10_boy_87 rfl rfl ?_
      refine go_getR (pc := 88) dX10_boy_88 fl_X10_35 H (fun v211 H => ?_)
      refine go_getR (pc := 91) dX10_boy_91 fl_X10_122 H (fun v212 H => ?_)
      refine go_iconst (pc := 94) (v := 0) dX10_boy_94 (by decide) ?_
      refine go_iload_n (pc := 95) dX10_boy_95 rfl rfl ?_
      refine go_cVi (pc := 96) (Mz := M_X10_watchesWith) (as := [.ref v212, .int 0, .int a1]) (a := a0) (st := []) dX10_boy_96 wd_767 cv_X10_watchesWith X10_watchesWith_ok rfl rfl ⟨Nat.le_of_ble_eq_true rfl, Nat.le_of_ble_eq_true rfl⟩ (Nat.le_of_ble_eq_true rfl) ⟨rfl, rfl⟩ ⟨Nat.le_of_ble_eq_true rfl, Nat.le_of_ble_eq_true rfl⟩ H (fun v214 h213 H => ?_)
      exact go_iret (pc := 99) dX10_boy_99 rfl ⟨Nat.le_of_ble_eq_true rfl, Nat.le_of_ble_eq_true rfl⟩ H
    rw [if_neg c2] at H
    refine go_tabOut (pc := 32) (tgt := 100) dX10_boy_32 (by have z0 : a2.toInt ≠ 0 := i32_ne c0; have z1 : a2.toInt ≠ 1 := i32_ne c1; have z2 : a2.toInt ≠ 2 := i32_ne c2; omega) (by decide) ?_
    refine go_aload_n (pc := 100) dX10_boy_100 rfl rfl ?_
    refine go_getR (pc := 101) dX10_boy_101 fl_X10_55 H (fun v215 H => ?_)
    refine go_aload_n (pc := 104) dX10_boy_104 rfl rfl ?_
    refine go_getR (pc := 105) dX10_boy_105 fl_X10_35 H (fun v216 H => ?_)
    refine go_iload_n (pc := 108) dX10_boy_108 rfl rfl ?_
    refine go_cVi (pc := 109) (Mz := M_X6_stolenOf) (as := [.ref v216, .int a1]) (a := v215) (st := []) dX10_boy_109 wd_771 cv_X6_stolenOf X6_stolenOf_ok rfl rfl ⟨Nat.le_of_ble_eq_true rfl, Nat.le_of_ble_eq_true rfl⟩ (Nat.le_of_ble_eq_true rfl) ⟨rfl, rfl⟩ ⟨Nat.le_of_ble_eq_true rfl, Nat.le_of_ble_eq_true rfl⟩ H (fun v218 h217 H => ?_)
    exact go_iret (pc := 112) dX10_boy_112 rfl ⟨Nat.le_of_ble_eq_true rfl, Nat.le_of_ble_eq_true rfl⟩ H
  · refine go_iconst (pc := 29) (v := (-1)) dX10_boy_29 (by decide) ?_
    exact go_iret (pc := 30) dX10_boy_30 rfl ⟨Nat.le_of_ble_eq_true rfl, Nat.le_of_ble_eq_true rfl⟩ H

def X10_boy_B22 (a0 : Nat) (a1 : Int32) (a2 : Int32) (s0 : Nat) (h : Hp) : Option (Int32 × Hp) :=
  X10_boy_B23 a0 a1 a2 s0 1 h
theorem X10_boy_B22_ok {hh h' : Hp} {r : Int32}  (a0 : Nat) (a1 : Int32) (a2 : Int32) (s0 : Nat) (h : Hp) (H : X10_boy_B22 a0 a1 a2 s0 h = some (r, h')) : Go (PM M_X10_boy hh (some (.int r)) h') M_X10_boy 22 [some (.ref a0), some (.int a1), some (.int a2)] [.ref s0] h 0 0 := by
  unfold X10_boy_B22 at H
  refine go_iconst (pc := 22) (v := 1) dX10_boy_22 (by decide) ?_
  exact Go.weak (L' := [some (.ref a0), some (.int a1), some (.int a2)]) ⟨rfl, ⟨rfl, ⟨rfl, trivial⟩⟩⟩ (X10_boy_B23_ok a0 a1 a2 s0 1 h H)

def X10_boy (a0 : Nat) (a1 : Int32) (a2 : Int32) (h : Hp) : Option (Int32 × Hp) :=
  cV h a0 10 (X10_hasBoy a0 a1 h) fun v2 h1 =>
  if v2 = 0 then (
    X10_boy_B22 a0 a1 a2 a0 h1)
  else (
    if a2 < 0 then (
      X10_boy_B22 a0 a1 a2 a0 h1)
    else (
      if 3 < a2 then (
        X10_boy_B22 a0 a1 a2 a0 h1)
      else (
        X10_boy_B23 a0 a1 a2 a0 0 h1)))
theorem X10_boy_ok {a0 : Nat} {a1 : Int32} {a2 : Int32} {h h' : Hp} {r : Int32} (H : X10_boy a0 a1 a2 h = some (r, h')) : Con M_X10_boy [.ref a0, .int a1, .int a2] h (some (.int r)) h' := by
  refine con_of_go (by decide) 0 (L := [some (.ref a0), some (.int a1), some (.int a2)]) rfl (Nat.le_of_ble_eq_true rfl) ?_
  unfold X10_boy at H
  refine go_aload_n (pc := 0) dX10_boy_0 rfl rfl ?_
  refine go_aload_n (pc := 1) dX10_boy_1 rfl rfl ?_
  refine go_iload_n (pc := 2) dX10_boy_2 rfl rfl ?_
  refine go_cVi (pc := 3) (Mz := M_X10_hasBoy) (as := [.int a1]) (a := a0) (st := [.ref a0]) dX10_boy_3 wd_763 cv_X10_hasBoy X10_hasBoy_ok rfl rfl ⟨Nat.le_of_ble_eq_true rfl, Nat.le_of_ble_eq_true rfl⟩ (Nat.le_of_ble_eq_true rfl) ⟨rfl, rfl⟩ ⟨Nat.le_of_ble_eq_true rfl, Nat.le_of_ble_eq_true rfl⟩ H (fun v2 h1 H => ?_)
  refine go_if_eq (pc := 6) (tgt := 22) dX10_boy_6 (by decide) H (fun H => ?_) (fun H => ?_)
  · exact Go.weak (L' := [some (.ref a0), some (.int a1), some (.int a2)]) ⟨rfl, ⟨rfl, ⟨rfl, trivial⟩⟩⟩ (X10_boy_B22_ok a0 a1 a2 a0 h1 H)
  · refine go_iload_n (pc := 9) dX10_boy_9 rfl rfl ?_
    refine go_if_lt (pc := 10) (tgt := 22) dX10_boy_10 (by decide) H (fun H => ?_) (fun H => ?_)
    · exact Go.weak (L' := [some (.ref a0), some (.int a1), some (.int a2)]) ⟨rfl, ⟨rfl, ⟨rfl, trivial⟩⟩⟩ (X10_boy_B22_ok a0 a1 a2 a0 h1 H)
    · refine go_iload_n (pc := 13) dX10_boy_13 rfl rfl ?_
      refine go_iconst (pc := 14) (v := 3) dX10_boy_14 (by decide) ?_
      refine go_icmp_gt (pc := 15) (tgt := 22) dX10_boy_15 (by decide) H (fun H => ?_) (fun H => ?_)
      · exact Go.weak (L' := [some (.ref a0), some (.int a1), some (.int a2)]) ⟨rfl, ⟨rfl, ⟨rfl, trivial⟩⟩⟩ (X10_boy_B22_ok a0 a1 a2 a0 h1 H)
      · refine go_iconst (pc := 18) (v := 0) dX10_boy_18 (by decide) ?_
        refine go_goto (pc := 19) (tgt := 23) dX10_boy_19 (by decide) ?_
        exact Go.weak (L' := [some (.ref a0), some (.int a1), some (.int a2)]) ⟨rfl, ⟨rfl, ⟨rfl, trivial⟩⟩⟩ (X10_boy_B23_ok a0 a1 a2 a0 0 h1 H)

def M_X10_officer : MD := (yX10_officer, cX10_officer, 4, (some .int), 2, 47, 0, 0)
theorem cv_X10_officer : CVo M_X10_officer 2 10 := ⟨⟨wd_793, wd_109, ⟨by decide, by decide⟩, by decide +kernel⟩, wd_791, wd_792, _, rfl, rfl⟩
def X10_officer_B50 (a0 : Nat) (a1 : Int32) (a2 : Int32) (s0 : Nat) (s1 : Int32) (h : Hp) : Option (Int32 × Hp) :=
  cV h s0 10 (X10_isRefused s0 s1 h) fun v402 h401 =>
  if v402 = 0 then (
    if a2 = 0 then (
      (gR h401 a0 10 9).bind fun v407 =>
      (gR h401 v407 9 1).bind fun v408 =>
      cV h401 v408 8 (X8_cell v408 a1 0 h401) fun v410 h409 =>
      some (v410, h409))
    else (
      (gR h401 a0 10 9).bind fun v403 =>
      (gR h401 v403 9 2).bind fun v404 =>
      cV h401 a0 10 (X10_watchesWith a0 v404 1 a1 h401) fun v406 h405 =>
      some (v406, h405)))
  else (
    some ((-1), h401))
theorem X10_officer_B50_ok {hh h' : Hp} {r : Int32}  (a0 : Nat) (a1 : Int32) (a2 : Int32) (s0 : Nat) (s1 : Int32) (h : Hp) (H : X10_officer_B50 a0 a1 a2 s0 s1 h = some (r, h')) : Go (PM M_X10_officer hh (some (.int r)) h') M_X10_officer 50 [some (.ref a0), some (.int a1), some (.int a2), none] [.int s1, .ref s0] h 0 0 := by
  unfold X10_officer_B50 at H
  refine go_cVi (pc := 50) (Mz := M_X10_isRefused) (as := [.int s1]) (a := s0) (st := []) dX10_officer_50 wd_511 cv_X10_isRefused X10_isRefused_ok rfl rfl ⟨Nat.le_of_ble_eq_true rfl, Nat.le_of_ble_eq_true rfl⟩ (Nat.le_of_ble_eq_true rfl) ⟨rfl, rfl⟩ ⟨Nat.le_of_ble_eq_true rfl, Nat.le_of_ble_eq_true rfl⟩ H (fun v402 h401 H => ?_)
  refine go_if_eq (pc := 53) (tgt := 58) dX10_officer_53 (by decide) H (fun H => ?_) (fun H => ?_)
  · refine go_iload_n (pc := 58) dX10_officer_58 rfl rfl ?_
    refine go_if_ne (pc := 59) (tgt := 77) dX10_officer_59 (by decide) H (fun H => ?_) (fun H => ?_)
    · refine go_aload_n (pc := 77) dX10_officer_77 rfl rfl ?_
      refine go_aload_n (pc := 78) dX10_officer_78 rfl rfl ?_
      refine go_getR (pc := 79) dX10_officer_79 fl_X10_16 H (fun v403 H => ?_)
      refine go_getR (pc := 82) dX10_officer_82 fl_X10_104 H (fun v404 H => ?_)
      refine go_iconst (pc := 85) (v := 1) dX10_officer_85 (by decide) ?_
      refine go_iload_n (pc := 86) dX10_officer_86 rfl rfl ?_
      refine go_cVi (pc := 87) (Mz := M_X10_watchesWith) (as := [.ref v404, .int 1, .int a1]) (a := a0) (st := []) dX10_officer_87 wd_767 cv_X10_watchesWith X10_watchesWith_ok rfl rfl ⟨Nat.le_of_ble_eq_true rfl, Nat.le_of_ble_eq_true rfl⟩ (Nat.le_of_ble_eq_true rfl) ⟨rfl, rfl⟩ ⟨Nat.le_of_ble_eq_true rfl, Nat.le_of_ble_eq_true rfl⟩ H (fun v406 h405 H => ?_)
      exact go_iret (pc := 90) dX10_officer_90 rfl ⟨Nat.le_of_ble_eq_true rfl, Nat.le_of_ble_eq_true rfl⟩ H
    · refine go_aload_n (pc := 62) dX10_officer_62 rfl rfl ?_
      refine go_getR (pc := 63) dX10_officer_63 fl_X10_16 H (fun v407 H => ?_)
      refine go_getR (pc := 66) dX10_officer_66 fl_X10_148 H (fun v408 H => ?_)
      refine go_iload_n (pc := 69) dX10_officer_69 rfl rfl ?_
      refine go_iconst (pc := 70) (v := 0) dX10_officer_70 (by decide) ?_
      refine go_cVi (pc := 71) (Mz := M_X8_cell) (as := [.int a1, .int 0]) (a := v408) (st := []) dX10_officer_71 wd_753 cv_X8_cell X8_cell_ok rfl rfl ⟨Nat.le_of_ble_eq_true rfl, Nat.le_of_ble_eq_true rfl⟩ (Nat.le_of_ble_eq_true rfl) ⟨rfl, rfl⟩ ⟨Nat.le_of_ble_eq_true rfl, Nat.le_of_ble_eq_true rfl⟩ H (fun v410 h409 H => ?_)
      refine go_goto (pc := 74) (tgt := 90) dX10_officer_74 (by decide) ?_
      exact go_iret (pc := 90) dX10_officer_90 rfl ⟨Nat.le_of_ble_eq_true rfl, Nat.le_of_ble_eq_true rfl⟩ H
  · refine go_iconst (pc := 56) (v := (-1)) dX10_officer_56 (by decide) ?_
    exact go_iret (pc := 57) dX10_officer_57 rfl ⟨Nat.le_of_ble_eq_true rfl, Nat.le_of_ble_eq_true rfl⟩ H

def X10_officer_B49 (a0 : Nat) (a1 : Int32) (a2 : Int32) (s0 : Nat) (h : Hp) : Option (Int32 × Hp) :=
  X10_officer_B50 a0 a1 a2 s0 1 h
theorem X10_officer_B49_ok {hh h' : Hp} {r : Int32}  (a0 : Nat) (a1 : Int32) (a2 : Int32) (s0 : Nat) (h : Hp) (H : X10_officer_B49 a0 a1 a2 s0 h = some (r, h')) : Go (PM M_X10_officer hh (some (.int r)) h') M_X10_officer 49 [some (.ref a0), some (.int a1), some (.int a2), none] [.ref s0] h 0 0 := by
  unfold X10_officer_B49 at H
  refine go_iconst (pc := 49) (v := 1) dX10_officer_49 (by decide) ?_
  exact Go.weak (L' := [some (.ref a0), some (.int a1), some (.int a2), none]) ⟨rfl, ⟨rfl, ⟨rfl, trivial⟩⟩⟩ (X10_officer_B50_ok a0 a1 a2 s0 1 h H)

def X10_officer_B45 (a0 : Nat) (a1 : Int32) (a2 : Int32) (s0 : Nat) (h : Hp) : Option (Int32 × Hp) :=
  X10_officer_B50 a0 a1 a2 s0 0 h
theorem X10_officer_B45_ok {hh h' : Hp} {r : Int32}  (a0 : Nat) (a1 : Int32) (a2 : Int32) (s0 : Nat) (h : Hp) (H : X10_officer_B45 a0 a1 a2 s0 h = some (r, h')) : Go (PM M_X10_officer hh (some (.int r)) h') M_X10_officer 45 [some (.ref a0), some (.int a1), some (.int a2), none] [.ref s0] h 0 0 := by
  unfold X10_officer_B45 at H
  refine go_iconst (pc := 45) (v := 0) dX10_officer_45 (by decide) ?_
  refine go_goto (pc := 46) (tgt := 50) dX10_officer_46 (by decide) ?_
  exact Go.weak (L' := [some (.ref a0), some (.int a1), some (.int a2), none]) ⟨rfl, ⟨rfl, ⟨rfl, trivial⟩⟩⟩ (X10_officer_B50_ok a0 a1 a2 s0 0 h H)

def X10_officer_B30 (a0 : Nat) (a1 : Int32) (a2 : Int32) (s0 : Int32) (h : Hp) : Option (Int32 × Hp) :=
  if s0 = 0 then (
    X10_officer_B49 a0 a1 a2 a0 h)
  else (
    if a2 = 0 then (
      X10_officer_B45 a0 a1 a2 a0 h)
    else (
      if a2 = 1 then (
        X10_officer_B45 a0 a1 a2 a0 h)
      else (
        X10_officer_B49 a0 a1 a2 a0 h)))
theorem X10_officer_B30_ok {hh h' : Hp} {r : Int32}  (a0 : Nat) (a1 : Int32) (a2 : Int32) (s0 : Int32) (h : Hp) (H : X10_officer_B30 a0 a1 a2 s0 h = some (r, h')) : Go (PM M_X10_officer hh (some (.int r)) h') M_X10_officer 30 [some (.ref a0), some (.int a1), some (.int a2), none] [.int s0] h 0 0 := by
  unfold X10_officer_B30 at H
  refine go_istore_n (pc := 30) (L' := [some (.ref a0), some (.int a1), some (.int a2), some (.int s0)]) dX10_officer_30 rfl (Nat.le_of_ble_eq_true rfl) rfl ?_
  refine go_aload_n (pc := 31) dX10_officer_31 rfl rfl ?_
  refine go_iload_n (pc := 32) dX10_officer_32 rfl rfl ?_
  refine go_if_eq (pc := 33) (tgt := 49) dX10_officer_33 (by decide) H (fun H => ?_) (fun H => ?_)
  · exact Go.weak (L' := [some (.ref a0), some (.int a1), some (.int a2), none]) ⟨rfl, ⟨rfl, ⟨rfl, trivial⟩⟩⟩ (X10_officer_B49_ok a0 a1 a2 a0 h H)
  · refine go_iload_n (pc := 36) dX10_officer_36 rfl rfl ?_
    refine go_if_eq (pc := 37) (tgt := 45) dX10_officer_37 (by decide) H (fun H => ?_) (fun H => ?_)
    · exact Go.weak (L' := [some (.ref a0), some (.int a1), some (.int a2), none]) ⟨rfl, ⟨rfl, ⟨rfl, trivial⟩⟩⟩ (X10_officer_B45_ok a0 a1 a2 a0 h H)
    · refine go_iload_n (pc := 40) dX10_officer_40 rfl rfl ?_
      refine go_iconst (pc := 41) (v := 1) dX10_officer_41 (by decide) ?_
      refine go_icmp_ne (pc := 42) (tgt := 49) dX10_officer_42 (by decide) H (fun H => ?_) (fun H => ?_)
      · exact Go.weak (L' := [some (.ref a0), some (.int a1), some (.int a2), none]) ⟨rfl, ⟨rfl, ⟨rfl, trivial⟩⟩⟩ (X10_officer_B49_ok a0 a1 a2 a0 h H)
      · exact Go.weak (L' := [some (.ref a0), some (.int a1), some (.int a2), none]) ⟨rfl, ⟨rfl, ⟨rfl, trivial⟩⟩⟩ (X10_officer_B45_ok a0 a1 a2 a0 h H)

def X10_officer_B29 (a0 : Nat) (a1 : Int32) (a2 : Int32) (h : Hp) : Option (Int32 × Hp) :=
  X10_officer_B30 a0 a1 a2 0 h
theorem X10_officer_B29_ok {hh h' : Hp} {r : Int32}  (a0 : Nat) (a1 : Int32) (a2 : Int32) (h : Hp) (H : X10_officer_B29 a0 a1 a2 h = some (r, h')) : Go (PM M_X10_officer hh (some (.int r)) h') M_X10_officer 29 [some (.ref a0), some (.int a1), some (.int a2), none] [] h 0 0 := by
  unfold X10_officer_B29 at H
  refine go_iconst (pc := 29) (v := 0) dX10_officer_29 (by decide) ?_
  exact Go.weak (L' := [some (.ref a0), some (.int a1), some (.int a2), none]) ⟨rfl, ⟨rfl, ⟨rfl, trivial⟩⟩⟩ (X10_officer_B30_ok a0 a1 a2 0 h H)

def X10_officer (a0 : Nat) (a1 : Int32) (a2 : Int32) (h : Hp) : Option (Int32 × Hp) :=
  (gI h a0 10 11).bind fun v1 =>
  if v1 = 0 then (
    X10_officer_B29 a0 a1 a2 h)
  else (
    if a1 < 0 then (
      X10_officer_B29 a0 a1 a2 h)
    else (
      (gR h a0 10 9).bind fun v2 =>
      (gR h v2 9 1).bind fun v3 =>
      (gI h v3 8 3).bind fun v4 =>
      if v4 ≤ a1 then (
        X10_officer_B29 a0 a1 a2 h)
      else (
        X10_officer_B30 a0 a1 a2 1 h)))
theorem X10_officer_ok {a0 : Nat} {a1 : Int32} {a2 : Int32} {h h' : Hp} {r : Int32} (H : X10_officer a0 a1 a2 h = some (r, h')) : Con M_X10_officer [.ref a0, .int a1, .int a2] h (some (.int r)) h' := by
  refine con_of_go (by decide) 1 (L := [some (.ref a0), some (.int a1), some (.int a2), none]) rfl (Nat.le_of_ble_eq_true rfl) ?_
  unfold X10_officer at H
  refine go_aload_n (pc := 0) dX10_officer_0 rfl rfl ?_
  refine go_getI (pc := 1) dX10_officer_1 fl_X10_144 H (fun v1 H => ?_)
  refine go_if_eq (pc := 4) (tgt := 29) dX10_officer_4 (by decide) H (fun H => ?_) (fun H => ?_)
  · exact Go.weak (L' := [some (.ref a0), some (.int a1), some (.int a2), none]) ⟨rfl, ⟨rfl, ⟨rfl, trivial⟩⟩⟩ (X10_officer_B29_ok a0 a1 a2 h H)
  · refine go_iload_n (pc := 7) dX10_officer_7 rfl rfl ?_
    refine go_if_lt (pc := 8) (tgt := 29) dX10_officer_8 (by decide) H (fun H => ?_) (fun H => ?_)
    · exact Go.weak (L' := [some (.ref a0), some (.int a1), some (.int a2), none]) ⟨rfl, ⟨rfl, ⟨rfl, trivial⟩⟩⟩ (X10_officer_B29_ok a0 a1 a2 h H)
    · refine go_iload_n (pc := 11) dX10_officer_11 rfl rfl ?_
      refine go_aload_n (pc := 12) dX10_officer_12 rfl rfl ?_
      refine go_getR (pc := 13) dX10_officer_13 fl_X10_16 H (fun v2 H => ?_)
      refine go_getR (pc := 16) dX10_officer_16 fl_X10_148 H (fun v3 H => ?_)
      refine go_getI (pc := 19) dX10_officer_19 fl_X10_108 H (fun v4 H => ?_)
      refine go_icmp_ge (pc := 22) (tgt := 29) dX10_officer_22 (by decide) H (fun H => ?_) (fun H => ?_)
      · exact Go.weak (L' := [some (.ref a0), some (.int a1), some (.int a2), none]) ⟨rfl, ⟨rfl, ⟨rfl, trivial⟩⟩⟩ (X10_officer_B29_ok a0 a1 a2 h H)
      · refine go_iconst (pc := 25) (v := 1) dX10_officer_25 (by decide) ?_
        refine go_goto (pc := 26) (tgt := 30) dX10_officer_26 (by decide) ?_
        exact Go.weak (L' := [some (.ref a0), some (.int a1), some (.int a2), none]) ⟨rfl, ⟨rfl, ⟨rfl, trivial⟩⟩⟩ (X10_officer_B30_ok a0 a1 a2 1 h H)

def M_X10_whyNot : MD := (yX10_whyNot, cX10_whyNot, 2, (some .int), 0, 0, 0, 0)
theorem cs_X10_whyNot : CSo M_X10_whyNot 2 := ⟨⟨wd_800, wd_109, ⟨by decide, by decide⟩, by decide +kernel⟩, wd_799⟩
def X10_whyNot (a0 : Int32) (a1 : Int32) (h : Hp) : Option (Int32 × Hp) :=
  if a0 = 0 then (
    some (1, h))
  else (
    if a1 = 0 then (
      some (2, h))
    else (
      some (0, h)))
theorem X10_whyNot_ok {a0 : Int32} {a1 : Int32} {h h' : Hp} {r : Int32} (H : X10_whyNot a0 a1 h = some (r, h')) : Con M_X10_whyNot [.int a0, .int a1] h (some (.int r)) h' := by
  refine con_of_go (by decide) 0 (L := [some (.int a0), some (.int a1)]) rfl (Nat.le_of_ble_eq_true rfl) ?_
  unfold X10_whyNot at H
  refine go_iload_n (pc := 0) dX10_whyNot_0 rfl rfl ?_
  refine go_if_ne (pc := 1) (tgt := 8) dX10_whyNot_1 (by decide) H (fun H => ?_) (fun H => ?_)
  · refine go_iload_n (pc := 8) dX10_whyNot_8 rfl rfl ?_
    refine go_if_ne (pc := 9) (tgt := 16) dX10_whyNot_9 (by decide) H (fun H => ?_) (fun H => ?_)
    · refine go_iconst (pc := 16) (v := 0) dX10_whyNot_16 (by decide) ?_
      exact go_iret (pc := 17) dX10_whyNot_17 rfl ⟨Nat.le_of_ble_eq_true rfl, Nat.le_of_ble_eq_true rfl⟩ H
    · refine go_iconst (pc := 12) (v := 2) dX10_whyNot_12 (by decide) ?_
      refine go_goto (pc := 13) (tgt := 17) dX10_whyNot_13 (by decide) ?_
      exact go_iret (pc := 17) dX10_whyNot_17 rfl ⟨Nat.le_of_ble_eq_true rfl, Nat.le_of_ble_eq_true rfl⟩ H
  · refine go_iconst (pc := 4) (v := 1) dX10_whyNot_4 (by decide) ?_
    refine go_goto (pc := 5) (tgt := 17) dX10_whyNot_5 (by decide) ?_
    exact go_iret (pc := 17) dX10_whyNot_17 rfl ⟨Nat.le_of_ble_eq_true rfl, Nat.le_of_ble_eq_true rfl⟩ H

def M_X10_glass : MD := (yX10_glass, cX10_glass, 3, (some .int), 3, 71, 0, 0)
theorem cv_X10_glass : CVo M_X10_glass 2 10 := ⟨⟨wd_797, wd_109, ⟨by decide, by decide⟩, by decide +kernel⟩, wd_795, wd_796, _, rfl, rfl⟩
def X10_glass_B22 (a0 : Nat) (a1 : Int32) (a2 : Int32) (s0 : Nat) (s1 : Int32) (s2 : Int32) (h : Hp) : Option (Int32 × Hp) :=
  bd (X10_whyNot s1 s2 h) fun v202 h201 =>
  cV h201 s0 10 (X10_isRefused s0 v202 h201) fun v204 h203 =>
  if v204 = 0 then (
    (gR h203 a0 10 5).bind fun v205 =>
    (gR h203 a0 10 2).bind fun v206 =>
    cV h203 v205 6 (X6_turned v205 v206 a1 a2 h203) fun v208 h207 =>
    some (v208, h207))
  else (
    some ((-1), h203))
theorem X10_glass_B22_ok {hh h' : Hp} {r : Int32}  (a0 : Nat) (a1 : Int32) (a2 : Int32) (s0 : Nat) (s1 : Int32) (s2 : Int32) (h : Hp) (H : X10_glass_B22 a0 a1 a2 s0 s1 s2 h = some (r, h')) : Go (PM M_X10_glass hh (some (.int r)) h') M_X10_glass 22 [some (.ref a0), some (.int a1), some (.int a2)] [.int s2, .int s1, .ref s0] h 0 0 := by
  unfold X10_glass_B22 at H
  refine go_cSi (pc := 22) (Mz := M_X10_whyNot) (as := [.int s1, .int s2]) (st := [.ref s0]) dX10_glass_22 wd_798 cs_X10_whyNot X10_whyNot_ok rfl rfl ⟨Nat.le_of_ble_eq_true rfl, Nat.le_of_ble_eq_true rfl⟩ (Nat.le_of_ble_eq_true rfl) ⟨rfl, rfl⟩ ⟨Nat.le_of_ble_eq_true rfl, Nat.le_of_ble_eq_true rfl⟩ H (fun v202 h201 H => ?_)
  refine go_cVi (pc := 25) (Mz := M_X10_isRefused) (as := [.int v202]) (a := s0) (st := []) dX10_glass_25 wd_511 cv_X10_isRefused X10_isRefused_ok rfl rfl ⟨Nat.le_of_ble_eq_true rfl, Nat.le_of_ble_eq_true rfl⟩ (Nat.le_of_ble_eq_true rfl) ⟨rfl, rfl⟩ ⟨Nat.le_of_ble_eq_true rfl, Nat.le_of_ble_eq_true rfl⟩ H (fun v204 h203 H => ?_)
  refine go_if_eq (pc := 28) (tgt := 33) dX10_glass_28 (by decide) H (fun H => ?_) (fun H => ?_)
  · refine go_aload_n (pc := 33) dX10_glass_33 rfl rfl ?_
    refine go_getR (pc := 34) dX10_glass_34 fl_X10_55 H (fun v205 H => ?_)
    refine go_aload_n (pc := 37) dX10_glass_37 rfl rfl ?_
    refine go_getR (pc := 38) dX10_glass_38 fl_X10_35 H (fun v206 H => ?_)
    refine go_iload_n (pc := 41) dX10_glass_41 rfl rfl ?_
    refine go_iload_n (pc := 42) dX10_glass_42 rfl rfl ?_
    refine go_cVi (pc := 43) (Mz := M_X6_turned) (as := [.ref v206, .int a1, .int a2]) (a := v205) (st := []) dX10_glass_43 wd_801 cv_X6_turned X6_turned_ok rfl rfl ⟨Nat.le_of_ble_eq_true rfl, Nat.le_of_ble_eq_true rfl⟩ (Nat.le_of_ble_eq_true rfl) ⟨rfl, rfl⟩ ⟨Nat.le_of_ble_eq_true rfl, Nat.le_of_ble_eq_true rfl⟩ H (fun v208 h207 H => ?_)
    exact go_iret (pc := 46) dX10_glass_46 rfl ⟨Nat.le_of_ble_eq_true rfl, Nat.le_of_ble_eq_true rfl⟩ H
  · refine go_iconst (pc := 31) (v := (-1)) dX10_glass_31 (by decide) ?_
    exact go_iret (pc := 32) dX10_glass_32 rfl ⟨Nat.le_of_ble_eq_true rfl, Nat.le_of_ble_eq_true rfl⟩ H

def X10_glass_B21 (a0 : Nat) (a1 : Int32) (a2 : Int32) (s0 : Nat) (s1 : Int32) (h : Hp) : Option (Int32 × Hp) :=
  X10_glass_B22 a0 a1 a2 s0 s1 0 h
theorem X10_glass_B21_ok {hh h' : Hp} {r : Int32}  (a0 : Nat) (a1 : Int32) (a2 : Int32) (s0 : Nat) (s1 : Int32) (h : Hp) (H : X10_glass_B21 a0 a1 a2 s0 s1 h = some (r, h')) : Go (PM M_X10_glass hh (some (.int r)) h') M_X10_glass 21 [some (.ref a0), some (.int a1), some (.int a2)] [.int s1, .ref s0] h 0 0 := by
  unfold X10_glass_B21 at H
  refine go_iconst (pc := 21) (v := 0) dX10_glass_21 (by decide) ?_
  exact Go.weak (L' := [some (.ref a0), some (.int a1), some (.int a2)]) ⟨rfl, ⟨rfl, ⟨rfl, trivial⟩⟩⟩ (X10_glass_B22_ok a0 a1 a2 s0 s1 0 h H)

def X10_glass (a0 : Nat) (a1 : Int32) (a2 : Int32) (h : Hp) : Option (Int32 × Hp) :=
  cV h a0 10 (X10_hasWatch a0 a1 h) fun v2 h1 =>
  if a2 < 1 then (
    X10_glass_B21 a0 a1 a2 a0 v2 h1)
  else (
    if 8 < a2 then (
      X10_glass_B21 a0 a1 a2 a0 v2 h1)
    else (
      X10_glass_B22 a0 a1 a2 a0 v2 1 h1))
theorem X10_glass_ok {a0 : Nat} {a1 : Int32} {a2 : Int32} {h h' : Hp} {r : Int32} (H : X10_glass a0 a1 a2 h = some (r, h')) : Con M_X10_glass [.ref a0, .int a1, .int a2] h (some (.int r)) h' := by
  refine con_of_go (by decide) 0 (L := [some (.ref a0), some (.int a1), some (.int a2)]) rfl (Nat.le_of_ble_eq_true rfl) ?_
  unfold X10_glass at H
  refine go_aload_n (pc := 0) dX10_glass_0 rfl rfl ?_
  refine go_aload_n (pc := 1) dX10_glass_1 rfl rfl ?_
  refine go_iload_n (pc := 2) dX10_glass_2 rfl rfl ?_
  refine go_cVi (pc := 3) (Mz := M_X10_hasWatch) (as := [.int a1]) (a := a0) (st := [.ref a0]) dX10_glass_3 wd_749 cv_X10_hasWatch X10_hasWatch_ok rfl rfl ⟨Nat.le_of_ble_eq_true rfl, Nat.le_of_ble_eq_true rfl⟩ (Nat.le_of_ble_eq_true rfl) ⟨rfl, rfl⟩ ⟨Nat.le_of_ble_eq_true rfl, Nat.le_of_ble_eq_true rfl⟩ H (fun v2 h1 H => ?_)
  refine go_iload_n (pc := 6) dX10_glass_6 rfl rfl ?_
  refine go_iconst (pc := 7) (v := 1) dX10_glass_7 (by decide) ?_
  refine go_icmp_lt (pc := 8) (tgt := 21) dX10_glass_8 (by decide) H (fun H => ?_) (fun H => ?_)
  · exact Go.weak (L' := [some (.ref a0), some (.int a1), some (.int a2)]) ⟨rfl, ⟨rfl, ⟨rfl, trivial⟩⟩⟩ (X10_glass_B21_ok a0 a1 a2 a0 v2 h1 H)
  · refine go_iload_n (pc := 11) dX10_glass_11 rfl rfl ?_
    refine go_bipush (pc := 12) (v := 8) dX10_glass_12 (by decide) ?_
    refine go_icmp_gt (pc := 14) (tgt := 21) dX10_glass_14 (by decide) H (fun H => ?_) (fun H => ?_)
    · exact Go.weak (L' := [some (.ref a0), some (.int a1), some (.int a2)]) ⟨rfl, ⟨rfl, ⟨rfl, trivial⟩⟩⟩ (X10_glass_B21_ok a0 a1 a2 a0 v2 h1 H)
    · refine go_iconst (pc := 17) (v := 1) dX10_glass_17 (by decide) ?_
      refine go_goto (pc := 18) (tgt := 22) dX10_glass_18 (by decide) ?_
      exact Go.weak (L' := [some (.ref a0), some (.int a1), some (.int a2)]) ⟨rfl, ⟨rfl, ⟨rfl, trivial⟩⟩⟩ (X10_glass_B22_ok a0 a1 a2 a0 v2 1 h1 H)

def M_X10_stolen : MD := (yX10_stolen, cX10_stolen, 2, (some .int), 3, 71, 0, 0)
theorem cv_X10_stolen : CVo M_X10_stolen 1 10 := ⟨⟨wd_808, wd_109, ⟨by decide, by decide⟩, by decide +kernel⟩, wd_806, wd_807, _, rfl, rfl⟩
def X10_stolen_B14 (a0 : Nat) (a1 : Int32) (s0 : Nat) (s1 : Int32) (h : Hp) : Option (Int32 × Hp) :=
  cV h s0 10 (X10_isRefused s0 s1 h) fun v102 h101 =>
  if v102 = 0 then (
    (gR h101 a0 10 5).bind fun v103 =>
    (gR h101 a0 10 2).bind fun v104 =>
    cV h101 v103 6 (X6_stolenIn v103 v104 a1 h101) fun v106 h105 =>
    some (v106, h105))
  else (
    some ((-1), h101))
theorem X10_stolen_B14_ok {hh h' : Hp} {r : Int32}  (a0 : Nat) (a1 : Int32) (s0 : Nat) (s1 : Int32) (h : Hp) (H : X10_stolen_B14 a0 a1 s0 s1 h = some (r, h')) : Go (PM M_X10_stolen hh (some (.int r)) h') M_X10_stolen 14 [some (.ref a0), some (.int a1)] [.int s1, .ref s0] h 0 0 := by
  unfold X10_stolen_B14 at H
  refine go_cVi (pc := 14) (Mz := M_X10_isRefused) (as := [.int s1]) (a := s0) (st := []) dX10_stolen_14 wd_511 cv_X10_isRefused X10_isRefused_ok rfl rfl ⟨Nat.le_of_ble_eq_true rfl, Nat.le_of_ble_eq_true rfl⟩ (Nat.le_of_ble_eq_true rfl) ⟨rfl, rfl⟩ ⟨Nat.le_of_ble_eq_true rfl, Nat.le_of_ble_eq_true rfl⟩ H (fun v102 h101 H => ?_)
  refine go_if_eq (pc := 17) (tgt := 22) dX10_stolen_17 (by decide) H (fun H => ?_) (fun H => ?_)
  · refine go_aload_n (pc := 22) dX10_stolen_22 rfl rfl ?_
    refine go_getR (pc := 23) dX10_stolen_23 fl_X10_55 H (fun v103 H => ?_)
    refine go_aload_n (pc := 26) dX10_stolen_26 rfl rfl ?_
    refine go_getR (pc := 27) dX10_stolen_27 fl_X10_35 H (fun v104 H => ?_)
    refine go_iload_n (pc := 30) dX10_stolen_30 rfl rfl ?_
    refine go_cVi (pc := 31) (Mz := M_X6_stolenIn) (as := [.ref v104, .int a1]) (a := v103) (st := []) dX10_stolen_31 wd_809 cv_X6_stolenIn X6_stolenIn_ok rfl rfl ⟨Nat.le_of_ble_eq_true rfl, Nat.le_of_ble_eq_true rfl⟩ (Nat.le_of_ble_eq_true rfl) ⟨rfl, rfl⟩ ⟨Nat.le_of_ble_eq_true rfl, Nat.le_of_ble_eq_true rfl⟩ H (fun v106 h105 H => ?_)
    exact go_iret (pc := 34) dX10_stolen_34 rfl ⟨Nat.le_of_ble_eq_true rfl, Nat.le_of_ble_eq_true rfl⟩ H
  · refine go_iconst (pc := 20) (v := (-1)) dX10_stolen_20 (by decide) ?_
    exact go_iret (pc := 21) dX10_stolen_21 rfl ⟨Nat.le_of_ble_eq_true rfl, Nat.le_of_ble_eq_true rfl⟩ H

def X10_stolen (a0 : Nat) (a1 : Int32) (h : Hp) : Option (Int32 × Hp) :=
  cV h a0 10 (X10_hasWatch a0 a1 h) fun v2 h1 =>
  if v2 = 0 then (
    X10_stolen_B14 a0 a1 a0 1 h1)
  else (
    X10_stolen_B14 a0 a1 a0 0 h1)
theorem X10_stolen_ok {a0 : Nat} {a1 : Int32} {h h' : Hp} {r : Int32} (H : X10_stolen a0 a1 h = some (r, h')) : Con M_X10_stolen [.ref a0, .int a1] h (some (.int r)) h' := by
  refine con_of_go (by decide) 0 (L := [some (.ref a0), some (.int a1)]) rfl (Nat.le_of_ble_eq_true rfl) ?_
  unfold X10_stolen at H
  refine go_aload_n (pc := 0) dX10_stolen_0 rfl rfl ?_
  refine go_aload_n (pc := 1) dX10_stolen_1 rfl rfl ?_
  refine go_iload_n (pc := 2) dX10_stolen_2 rfl rfl ?_
  refine go_cVi (pc := 3) (Mz := M_X10_hasWatch) (as := [.int a1]) (a := a0) (st := [.ref a0]) dX10_stolen_3 wd_749 cv_X10_hasWatch X10_hasWatch_ok rfl rfl ⟨Nat.le_of_ble_eq_true rfl, Nat.le_of_ble_eq_true rfl⟩ (Nat.le_of_ble_eq_true rfl) ⟨rfl, rfl⟩ ⟨Nat.le_of_ble_eq_true rfl, Nat.le_of_ble_eq_true rfl⟩ H (fun v2 h1 H => ?_)
  refine go_if_eq (pc := 6) (tgt := 13) dX10_stolen_6 (by decide) H (fun H => ?_) (fun H => ?_)
  · refine go_iconst (pc := 13) (v := 1) dX10_stolen_13 (by decide) ?_
    exact Go.weak (L' := [some (.ref a0), some (.int a1)]) ⟨rfl, ⟨rfl, trivial⟩⟩ (X10_stolen_B14_ok a0 a1 a0 1 h1 H)
  · refine go_iconst (pc := 9) (v := 0) dX10_stolen_9 (by decide) ?_
    refine go_goto (pc := 10) (tgt := 14) dX10_stolen_10 (by decide) ?_
    exact Go.weak (L' := [some (.ref a0), some (.int a1)]) ⟨rfl, ⟨rfl, trivial⟩⟩ (X10_stolen_B14_ok a0 a1 a0 0 h1 H)

def M_X10_whyNotAfter : MD := (yX10_whyNotAfter, cX10_whyNotAfter, 2, (some .int), 1, 21, 0, 0)
theorem cv_X10_whyNotAfter : CVo M_X10_whyNotAfter 1 10 := ⟨⟨wd_817, wd_109, ⟨by decide, by decide⟩, by decide +kernel⟩, wd_816, wd_30, _, rfl, rfl⟩
def X10_whyNotAfter_B27 (s0 : Int32) (s1 : Int32) (h : Hp) : Option (Int32 × Hp) :=
  bd (X10_whyNot s0 s1 h) fun v202 h201 =>
  some (v202, h201)
theorem X10_whyNotAfter_B27_ok {hh h' : Hp} {r : Int32}  (s0 : Int32) (s1 : Int32) (h : Hp) (H : X10_whyNotAfter_B27 s0 s1 h = some (r, h')) : Go (PM M_X10_whyNotAfter hh (some (.int r)) h') M_X10_whyNotAfter 27 [none, none] [.int s1, .int s0] h 0 0 := by
  unfold X10_whyNotAfter_B27 at H
  refine go_cSi (pc := 27) (Mz := M_X10_whyNot) (as := [.int s0, .int s1]) (st := []) dX10_whyNotAfter_27 wd_798 cs_X10_whyNot X10_whyNot_ok rfl rfl ⟨Nat.le_of_ble_eq_true rfl, Nat.le_of_ble_eq_true rfl⟩ (Nat.le_of_ble_eq_true rfl) ⟨rfl, rfl⟩ ⟨Nat.le_of_ble_eq_true rfl, Nat.le_of_ble_eq_true rfl⟩ H (fun v202 h201 H => ?_)
  exact go_iret (pc := 30) dX10_whyNotAfter_30 rfl ⟨Nat.le_of_ble_eq_true rfl, Nat.le_of_ble_eq_true rfl⟩ H

def X10_whyNotAfter_B26 (s0 : Int32) (h : Hp) : Option (Int32 × Hp) :=
  X10_whyNotAfter_B27 s0 0 h
theorem X10_whyNotAfter_B26_ok {hh h' : Hp} {r : Int32}  (s0 : Int32) (h : Hp) (H : X10_whyNotAfter_B26 s0 h = some (r, h')) : Go (PM M_X10_whyNotAfter hh (some (.int r)) h') M_X10_whyNotAfter 26 [none, none] [.int s0] h 0 0 := by
  unfold X10_whyNotAfter_B26 at H
  refine go_iconst (pc := 26) (v := 0) dX10_whyNotAfter_26 (by decide) ?_
  exact Go.weak (L' := [none, none]) trivial (X10_whyNotAfter_B27_ok s0 0 h H)

def X10_whyNotAfter (a0 : Nat) (a1 : Int32) (h : Hp) : Option (Int32 × Hp) :=
  (gI h a0 10 11).bind fun v1 =>
  if a1 < 0 then (
    X10_whyNotAfter_B26 v1 h)
  else (
    (gR h a0 10 9).bind fun v2 =>
    (gR h v2 9 2).bind fun v3 =>
    (gI h v3 8 3).bind fun v4 =>
    if v4 < a1 then (
      X10_whyNotAfter_B26 v1 h)
    else (
      X10_whyNotAfter_B27 v1 1 h))
theorem X10_whyNotAfter_ok {a0 : Nat} {a1 : Int32} {h h' : Hp} {r : Int32} (H : X10_whyNotAfter a0 a1 h = some (r, h')) : Con M_X10_whyNotAfter [.ref a0, .int a1] h (some (.int r)) h' := by
  refine con_of_go (by decide) 0 (L := [some (.ref a0), some (.int a1)]) rfl (Nat.le_of_ble_eq_true rfl) ?_
  unfold X10_whyNotAfter at H
  refine go_aload_n (pc := 0) dX10_whyNotAfter_0 rfl rfl ?_
  refine go_getI (pc := 1) dX10_whyNotAfter_1 fl_X10_144 H (fun v1 H => ?_)
  refine go_iload_n (pc := 4) dX10_whyNotAfter_4 rfl rfl ?_
  refine go_if_lt (pc := 5) (tgt := 26) dX10_whyNotAfter_5 (by decide) H (fun H => ?_) (fun H => ?_)
  · exact Go.weak (L' := [none, none]) trivial (X10_whyNotAfter_B26_ok v1 h H)
  · refine go_iload_n (pc := 8) dX10_whyNotAfter_8 rfl rfl ?_
    refine go_aload_n (pc := 9) dX10_whyNotAfter_9 rfl rfl ?_
    refine go_getR (pc := 10) dX10_whyNotAfter_10 fl_X10_16 H (fun v2 H => ?_)
    refine go_getR (pc := 13) dX10_whyNotAfter_13 fl_X10_104 H (fun v3 H => ?_)
    refine go_getI (pc := 16) dX10_whyNotAfter_16 fl_X10_108 H (fun v4 H => ?_)
    refine go_icmp_gt (pc := 19) (tgt := 26) dX10_whyNotAfter_19 (by decide) H (fun H => ?_) (fun H => ?_)
    · exact Go.weak (L' := [none, none]) trivial (X10_whyNotAfter_B26_ok v1 h H)
    · refine go_iconst (pc := 22) (v := 1) dX10_whyNotAfter_22 (by decide) ?_
      refine go_goto (pc := 23) (tgt := 27) dX10_whyNotAfter_23 (by decide) ?_
      exact Go.weak (L' := [none, none]) trivial (X10_whyNotAfter_B27_ok v1 1 h H)

def M_X10_stolenBy : MD := (yX10_stolenBy, cX10_stolenBy, 2, (some .int), 4, 93, 0, 0)
theorem cv_X10_stolenBy : CVo M_X10_stolenBy 1 10 := ⟨⟨wd_813, wd_109, ⟨by decide, by decide⟩, by decide +kernel⟩, wd_811, wd_812, _, rfl, rfl⟩
def X10_stolenBy (a0 : Nat) (a1 : Int32) (h : Hp) : Option (Int32 × Hp) :=
  cV h a0 10 (X10_whyNotAfter a0 a1 h) fun v2 h1 =>
  cV h1 a0 10 (X10_isRefused a0 v2 h1) fun v4 h3 =>
  if v4 = 0 then (
    (gR h3 a0 10 5).bind fun v5 =>
    (gR h3 a0 10 2).bind fun v6 =>
    cVv h3 v5 6 (X6_reckon v5 v6 h3) fun h7 =>
    (gR h7 a0 10 5).bind fun v8 =>
    cV h7 v8 6 (X6_lostBy v8 a1 h7) fun v10 h9 =>
    some (v10, h9))
  else (
    some ((-1), h3))
theorem X10_stolenBy_ok {a0 : Nat} {a1 : Int32} {h h' : Hp} {r : Int32} (H : X10_stolenBy a0 a1 h = some (r, h')) : Con M_X10_stolenBy [.ref a0, .int a1] h (some (.int r)) h' := by
  refine con_of_go (by decide) 0 (L := [some (.ref a0), some (.int a1)]) rfl (Nat.le_of_ble_eq_true rfl) ?_
  unfold X10_stolenBy at H
  refine go_aload_n (pc := 0) dX10_stolenBy_0 rfl rfl ?_
  refine go_aload_n (pc := 1) dX10_stolenBy_1 rfl rfl ?_
  refine go_iload_n (pc := 2) dX10_stolenBy_2 rfl rfl ?_
  refine go_cVi (pc := 3) (Mz := M_X10_whyNotAfter) (as := [.int a1]) (a := a0) (st := [.ref a0]) dX10_stolenBy_3 wd_814 cv_X10_whyNotAfter X10_whyNotAfter_ok rfl rfl ⟨Nat.le_of_ble_eq_true rfl, Nat.le_of_ble_eq_true rfl⟩ (Nat.le_of_ble_eq_true rfl) ⟨rfl, rfl⟩ ⟨Nat.le_of_ble_eq_true rfl, Nat.le_of_ble_eq_true rfl⟩ H (fun v2 h1 H => ?_)
  refine go_cVi (pc := 6) (Mz := M_X10_isRefused) (as := [.int v2]) (a := a0) (st := []) dX10_stolenBy_6 wd_511 cv_X10_isRefused X10_isRefused_ok rfl rfl ⟨Nat.le_of_ble_eq_true rfl, Nat.le_of_ble_eq_true rfl⟩ (Nat.le_of_ble_eq_true rfl) ⟨rfl, rfl⟩ ⟨Nat.le_of_ble_eq_true rfl, Nat.le_of_ble_eq_true rfl⟩ H (fun v4 h3 H => ?_)
  refine go_if_eq (pc := 9) (tgt := 14) dX10_stolenBy_9 (by decide) H (fun H => ?_) (fun H => ?_)
  · refine go_aload_n (pc := 14) dX10_stolenBy_14 rfl rfl ?_
    refine go_getR (pc := 15) dX10_stolenBy_15 fl_X10_55 H (fun v5 H => ?_)
    refine go_aload_n (pc := 18) dX10_stolenBy_18 rfl rfl ?_
    refine go_getR (pc := 19) dX10_stolenBy_19 fl_X10_35 H (fun v6 H => ?_)
    refine go_cVv (pc := 22) (Mz := M_X6_reckon) (as := [.ref v6]) (a := v5) (st := []) dX10_stolenBy_22 wd_818 cv_X6_reckon X6_reckon_ok rfl rfl ⟨Nat.le_of_ble_eq_true rfl, Nat.le_of_ble_eq_true rfl⟩ (Nat.le_of_ble_eq_true rfl) ⟨rfl, rfl⟩ ⟨Nat.le_of_ble_eq_true rfl, Nat.le_of_ble_eq_true rfl⟩ H (fun h7 H => ?_)
    refine go_aload_n (pc := 25) dX10_stolenBy_25 rfl rfl ?_
    refine go_getR (pc := 26) dX10_stolenBy_26 fl_X10_55 H (fun v8 H => ?_)
    refine go_iload_n (pc := 29) dX10_stolenBy_29 rfl rfl ?_
    refine go_cVi (pc := 30) (Mz := M_X6_lostBy) (as := [.int a1]) (a := v8) (st := []) dX10_stolenBy_30 wd_823 cv_X6_lostBy X6_lostBy_ok rfl rfl ⟨Nat.le_of_ble_eq_true rfl, Nat.le_of_ble_eq_true rfl⟩ (Nat.le_of_ble_eq_true rfl) ⟨rfl, rfl⟩ ⟨Nat.le_of_ble_eq_true rfl, Nat.le_of_ble_eq_true rfl⟩ H (fun v10 h9 H => ?_)
    exact go_iret (pc := 33) dX10_stolenBy_33 rfl ⟨Nat.le_of_ble_eq_true rfl, Nat.le_of_ble_eq_true rfl⟩ H
  · refine go_iconst (pc := 12) (v := (-1)) dX10_stolenBy_12 (by decide) ?_
    exact go_iret (pc := 13) dX10_stolenBy_13 rfl ⟨Nat.le_of_ble_eq_true rfl, Nat.le_of_ble_eq_true rfl⟩ H

def M_X10_whyNotUnderWay : MD := (yX10_whyNotUnderWay, cX10_whyNotUnderWay, 1, (some .int), 0, 0, 0, 0)
theorem cv_X10_whyNotUnderWay : CVo M_X10_whyNotUnderWay 0 10 := ⟨⟨wd_834, wd_109, ⟨by decide, by decide⟩, by decide +kernel⟩, wd_833, wd_31, _, rfl, rfl⟩
def X10_whyNotUnderWay (a0 : Nat) (h : Hp) : Option (Int32 × Hp) :=
  (gI h a0 10 11).bind fun v1 =>
  if v1 = 0 then (
    some (1, h))
  else (
    some (0, h))
theorem X10_whyNotUnderWay_ok {a0 : Nat} {h h' : Hp} {r : Int32} (H : X10_whyNotUnderWay a0 h = some (r, h')) : Con M_X10_whyNotUnderWay [.ref a0] h (some (.int r)) h' := by
  refine con_of_go (by decide) 0 (L := [some (.ref a0)]) rfl (Nat.le_of_ble_eq_true rfl) ?_
  unfold X10_whyNotUnderWay at H
  refine go_aload_n (pc := 0) dX10_whyNotUnderWay_0 rfl rfl ?_
  refine go_getI (pc := 1) dX10_whyNotUnderWay_1 fl_X10_144 H (fun v1 H => ?_)
  refine go_if_eq (pc := 4) (tgt := 11) dX10_whyNotUnderWay_4 (by decide) H (fun H => ?_) (fun H => ?_)
  · refine go_iconst (pc := 11) (v := 1) dX10_whyNotUnderWay_11 (by decide) ?_
    exact go_iret (pc := 12) dX10_whyNotUnderWay_12 rfl ⟨Nat.le_of_ble_eq_true rfl, Nat.le_of_ble_eq_true rfl⟩ H
  · refine go_iconst (pc := 7) (v := 0) dX10_whyNotUnderWay_7 (by decide) ?_
    refine go_goto (pc := 8) (tgt := 12) dX10_whyNotUnderWay_8 (by decide) ?_
    exact go_iret (pc := 12) dX10_whyNotUnderWay_12 rfl ⟨Nat.le_of_ble_eq_true rfl, Nat.le_of_ble_eq_true rfl⟩ H

def M_X10_thief : MD := (yX10_thief, cX10_thief, 5, (some .int), 4, 95, 0, 0)
theorem cv_X10_thief : CVo M_X10_thief 0 10 := ⟨⟨wd_830, wd_109, ⟨by decide, by decide⟩, by decide +kernel⟩, wd_828, wd_829, _, rfl, rfl⟩
def X10_thief_B59 (rc20 : Nat → Int32 → Int32 → Int32 → Hp → Option (Int32 × Hp)) (a0 : Nat) (a1 : Int32) (a2 : Int32) (a3 : Int32) (h : Hp) : Option (Int32 × Hp) :=
  rc20 a0 a1 a2 (a3 + 1) h
theorem X10_thief_B59_ok {hh h' : Hp} {r : Int32}  (rc20 : Nat → Int32 → Int32 → Int32 → Hp → Option (Int32 × Hp)) (hrc20 : ∀ (a0 : Nat) (a1 : Int32) (a2 : Int32) (a3 : Int32) (h : Hp), rc20 a0 a1 a2 a3 h = some (r, h') → Go (PM M_X10_thief hh (some (.int r)) h') M_X10_thief 20 [some (.ref a0), some (.int a1), some (.int a2), some (.int a3), none] [] h 0 0) (a0 : Nat) (a1 : Int32) (a2 : Int32) (a3 : Int32) (h : Hp) (H : X10_thief_B59 rc20 a0 a1 a2 a3 h = some (r, h')) : Go (PM M_X10_thief hh (some (.int r)) h') M_X10_thief 59 [some (.ref a0), some (.int a1), some (.int a2), some (.int a3), none] [] h 0 0 := by
  unfold X10_thief_B59 at H
  refine go_iinc (pc := 59) (v := a3 + 1) (L' := [some (.ref a0), some (.int a1), some (.int a2), some (.int (a3 + 1)), none]) dX10_thief_59 rfl rfl (Nat.le_of_ble_eq_true rfl) rfl ?_
  refine go_goto (pc := 62) (tgt := 20) dX10_thief_62 (by decide) ?_
  exact Go.weak (L' := [some (.ref a0), some (.int a1), some (.int a2), some (.int (a3 + 1)), none]) ⟨rfl, ⟨rfl, ⟨rfl, ⟨rfl, trivial⟩⟩⟩⟩ (hrc20 a0 a1 a2 (a3 + 1) h H)

def X10_thief_L20_s (rc20 : Nat → Int32 → Int32 → Int32 → Hp → Option (Int32 × Hp)) (a0 : Nat) (a1 : Int32) (a2 : Int32) (a3 : Int32) (h : Hp) : Option (Int32 × Hp) :=
  (gR h a0 10 9).bind fun v101 =>
  (gR h v101 9 0).bind fun v102 =>
  (gI h v102 8 3).bind fun v103 =>
  if v103 ≤ a3 then (
    some (a1, h))
  else (
    (gR h a0 10 5).bind fun v104 =>
    (gR h a0 10 2).bind fun v105 =>
    cV h v104 6 (X6_stolenOf v104 v105 a3 h) fun v107 h106 =>
    if v107 ≤ a2 then (
      X10_thief_B59 rc20 a0 a1 a2 a3 h106)
    else (
      X10_thief_B59 rc20 a0 a3 v107 a3 h106))
def X10_thief_L20 (q : Nat) : Nat → Int32 → Int32 → Int32 → Hp → Option (Int32 × Hp) := loopN (fun _ _ _ _ _ => none) (X10_thief_L20_s) q
theorem X10_thief_L20_ok {hh h' : Hp} {r : Int32}  : ∀ (q : Nat) (a0 : Nat) (a1 : Int32) (a2 : Int32) (a3 : Int32) (h : Hp), X10_thief_L20 q a0 a1 a2 a3 h = some (r, h') → Go (PM M_X10_thief hh (some (.int r)) h') M_X10_thief 20 [some (.ref a0), some (.int a1), some (.int a2), some (.int a3), none] [] h 0 0 := by
  intro q
  induction q with
  | zero => intro a0 a1 a2 a3 h H; cases H
  | succ q hrc20 =>
    intro a0 a1 a2 a3 h H
    replace H : X10_thief_L20_s (X10_thief_L20 q) a0 a1 a2 a3 h = some (r, h') := H
    unfold X10_thief_L20_s at H
    refine go_iload_n (pc := 20) dX10_thief_20 rfl rfl ?_
    refine go_aload_n (pc := 21) dX10_thief_21 rfl rfl ?_
    refine go_getR (pc := 22) dX10_thief_22 fl_X10_16 H (fun v101 H => ?_)
    refine go_getR (pc := 25) dX10_thief_25 fl_X10_134 H (fun v102 H => ?_)
    refine go_getI (pc := 28) dX10_thief_28 fl_X10_108 H (fun v103 H => ?_)
    refine go_icmp_ge (pc := 31) (tgt := 65) dX10_thief_31 (by decide) H (fun H => ?_) (fun H => ?_)
    · refine go_iload_n (pc := 65) dX10_thief_65 rfl rfl ?_
      exact go_iret (pc := 66) dX10_thief_66 rfl ⟨Nat.le_of_ble_eq_true rfl, Nat.le_of_ble_eq_true rfl⟩ H
    · refine go_aload_n (pc := 34) dX10_thief_34 rfl rfl ?_
      refine go_getR (pc := 35) dX10_thief_35 fl_X10_55 H (fun v104 H => ?_)
      refine go_aload_n (pc := 38) dX10_thief_38 rfl rfl ?_
      refine go_getR (pc := 39) dX10_thief_39 fl_X10_35 H (fun v105 H => ?_)
      refine go_iload_n (pc := 42) dX10_thief_42 rfl rfl ?_
      refine go_cVi (pc := 43) (Mz := M_X6_stolenOf) (as := [.ref v105, .int a3]) (a := v104) (st := []) dX10_thief_43 wd_771 cv_X6_stolenOf X6_stolenOf_ok rfl rfl ⟨Nat.le_of_ble_eq_true rfl, Nat.le_of_ble_eq_true rfl⟩ (Nat.le_of_ble_eq_true rfl) ⟨rfl, rfl⟩ ⟨Nat.le_of_ble_eq_true rfl, Nat.le_of_ble_eq_true rfl⟩ H (fun v107 h106 H => ?_)
      refine go_istore (pc := 46) (L' := [some (.ref a0), some (.int a1), some (.int a2), some (.int a3), some (.int v107)]) dX10_thief_46 (Nat.le_of_ble_eq_true rfl) rfl ?_
      refine go_iload (pc := 48) dX10_thief_48 rfl ?_
      refine go_iload_n (pc := 50) dX10_thief_50 rfl rfl ?_
      refine go_icmp_le (pc := 51) (tgt := 59) dX10_thief_51 (by decide) H (fun H => ?_) (fun H => ?_)
      · exact Go.weak (L' := [some (.ref a0), some (.int a1), some (.int a2), some (.int a3), none]) ⟨rfl, ⟨rfl, ⟨rfl, ⟨rfl, trivial⟩⟩⟩⟩ (X10_thief_B59_ok _ hrc20 a0 a1 a2 a3 h106 H)
      · refine go_iload_n (pc := 54) dX10_thief_54 rfl rfl ?_
        refine go_istore_n (pc := 55) (L' := [some (.ref a0), some (.int a3), some (.int a2), some (.int a3), some (.int v107)]) dX10_thief_55 rfl (Nat.le_of_ble_eq_true rfl) rfl ?_
        refine go_iload (pc := 56) dX10_thief_56 rfl ?_
        refine go_istore_n (pc := 58) (L' := [some (.ref a0), some (.int a3), some (.int v107), some (.int a3), some (.int v107)]) dX10_thief_58 rfl (Nat.le_of_ble_eq_true rfl) rfl ?_
        exact Go.weak (L' := [some (.ref a0), some (.int a3), some (.int v107), some (.int a3), none]) ⟨rfl, ⟨rfl, ⟨rfl, ⟨rfl, trivial⟩⟩⟩⟩ (X10_thief_B59_ok _ hrc20 a0 a3 v107 a3 h106 H)

def X10_thief (a0 : Nat) (h : Hp) : Option (Int32 × Hp) :=
  cV h a0 10 (X10_whyNotUnderWay a0 h) fun v2 h1 =>
  cV h1 a0 10 (X10_isRefused a0 v2 h1) fun v4 h3 =>
  if v4 = 0 then (
    X10_thief_L20 5000 a0 (-2) (-1) 0 h3)
  else (
    some ((-1), h3))
theorem X10_thief_ok {a0 : Nat} {h h' : Hp} {r : Int32} (H : X10_thief a0 h = some (r, h')) : Con M_X10_thief [.ref a0] h (some (.int r)) h' := by
  refine con_of_go (by decide) 4 (L := [some (.ref a0), none, none, none, none]) rfl (Nat.le_of_ble_eq_true rfl) ?_
  unfold X10_thief at H
  refine go_aload_n (pc := 0) dX10_thief_0 rfl rfl ?_
  refine go_aload_n (pc := 1) dX10_thief_1 rfl rfl ?_
  refine go_cVi (pc := 2) (Mz := M_X10_whyNotUnderWay) (as := []) (a := a0) (st := [.ref a0]) dX10_thief_2 wd_831 cv_X10_whyNotUnderWay X10_whyNotUnderWay_ok rfl rfl ⟨Nat.le_of_ble_eq_true rfl, Nat.le_of_ble_eq_true rfl⟩ (Nat.le_of_ble_eq_true rfl) ⟨rfl, rfl⟩ ⟨Nat.le_of_ble_eq_true rfl, Nat.le_of_ble_eq_true rfl⟩ H (fun v2 h1 H => ?_)
  refine go_cVi (pc := 5) (Mz := M_X10_isRefused) (as := [.int v2]) (a := a0) (st := []) dX10_thief_5 wd_511 cv_X10_isRefused X10_isRefused_ok rfl rfl ⟨Nat.le_of_ble_eq_true rfl, Nat.le_of_ble_eq_true rfl⟩ (Nat.le_of_ble_eq_true rfl) ⟨rfl, rfl⟩ ⟨Nat.le_of_ble_eq_true rfl, Nat.le_of_ble_eq_true rfl⟩ H (fun v4 h3 H => ?_)
  refine go_if_eq (pc := 8) (tgt := 13) dX10_thief_8 (by decide) H (fun H => ?_) (fun H => ?_)
  · refine go_bipush (pc := 13) (v := (-2)) dX10_thief_13 (by decide) ?_
    refine go_istore_n (pc := 15) (L' := [some (.ref a0), some (.int (-2)), none, none, none]) dX10_thief_15 rfl (Nat.le_of_ble_eq_true rfl) rfl ?_
    refine go_iconst (pc := 16) (v := (-1)) dX10_thief_16 (by decide) ?_
    refine go_istore_n (pc := 17) (L' := [some (.ref a0), some (.int (-2)), some (.int (-1)), none, none]) dX10_thief_17 rfl (Nat.le_of_ble_eq_true rfl) rfl ?_
    refine go_iconst (pc := 18) (v := 0) dX10_thief_18 (by decide) ?_
    refine go_istore_n (pc := 19) (L' := [some (.ref a0), some (.int (-2)), some (.int (-1)), some (.int 0), none]) dX10_thief_19 rfl (Nat.le_of_ble_eq_true rfl) rfl ?_
    exact Go.weak (L' := [some (.ref a0), some (.int (-2)), some (.int (-1)), some (.int 0), none]) ⟨rfl, ⟨rfl, ⟨rfl, ⟨rfl, trivial⟩⟩⟩⟩ (X10_thief_L20_ok 5000 a0 (-2) (-1) 0 h3 H)
  · refine go_iconst (pc := 11) (v := (-1)) dX10_thief_11 (by decide) ?_
    exact go_iret (pc := 12) dX10_thief_12 rfl ⟨Nat.le_of_ble_eq_true rfl, Nat.le_of_ble_eq_true rfl⟩ H

def M_X10_lostWatch : MD := (yX10_lostWatch, cX10_lostWatch, 3, (some .int), 3, 71, 0, 0)
theorem cv_X10_lostWatch : CVo M_X10_lostWatch 0 10 := ⟨⟨wd_838, wd_109, ⟨by decide, by decide⟩, by decide +kernel⟩, wd_836, wd_837, _, rfl, rfl⟩
def X10_lostWatch_L17_s (rc17 : Nat → Int32 → Int32 → Hp → Option (Int32 × Hp)) (a0 : Nat) (a1 : Int32) (a2 : Int32) (h : Hp) : Option (Int32 × Hp) :=
  (gR h a0 10 9).bind fun v101 =>
  (gR h v101 9 2).bind fun v102 =>
  (gI h v102 8 3).bind fun v103 =>
  if v103 ≤ a2 then (
    some ((-2), h))
  else (
    (gR h a0 10 5).bind fun v104 =>
    (gR h a0 10 2).bind fun v105 =>
    cV h v104 6 (X6_stolenIn v104 v105 a2 h) fun v107 h106 =>
    pin (a1 + v107) fun v108 =>
    if v108 < 240 then (
      rc17 a0 v108 (a2 + 1) h106)
    else (
      some (a2, h106)))
def X10_lostWatch_L17 (q : Nat) : Nat → Int32 → Int32 → Hp → Option (Int32 × Hp) := loopN (fun _ _ _ _ => none) (X10_lostWatch_L17_s) q
theorem X10_lostWatch_L17_ok {hh h' : Hp} {r : Int32}  : ∀ (q : Nat) (a0 : Nat) (a1 : Int32) (a2 : Int32) (h : Hp), X10_lostWatch_L17 q a0 a1 a2 h = some (r, h') → Go (PM M_X10_lostWatch hh (some (.int r)) h') M_X10_lostWatch 17 [some (.ref a0), some (.int a1), some (.int a2)] [] h 0 0 := by
  intro q
  induction q with
  | zero => intro a0 a1 a2 h H; cases H
  | succ q hrc17 =>
    intro a0 a1 a2 h H
    replace H : X10_lostWatch_L17_s (X10_lostWatch_L17 q) a0 a1 a2 h = some (r, h') := H
    unfold X10_lostWatch_L17_s at H
    refine go_iload_n (pc := 17) dX10_lostWatch_17 rfl rfl ?_
    refine go_aload_n (pc := 18) dX10_lostWatch_18 rfl rfl ?_
    refine go_getR (pc := 19) dX10_lostWatch_19 fl_X10_16 H (fun v101 H => ?_)
    refine go_getR (pc := 22) dX10_lostWatch_22 fl_X10_104 H (fun v102 H => ?_)
    refine go_getI (pc := 25) dX10_lostWatch_25 fl_X10_108 H (fun v103 H => ?_)
    refine go_icmp_ge (pc := 28) (tgt := 61) dX10_lostWatch_28 (by decide) H (fun H => ?_) (fun H => ?_)
    · refine go_bipush (pc := 61) (v := (-2)) dX10_lostWatch_61 (by decide) ?_
      exact go_iret (pc := 63) dX10_lostWatch_63 rfl ⟨Nat.le_of_ble_eq_true rfl, Nat.le_of_ble_eq_true rfl⟩ H
    · refine go_iload_n (pc := 31) dX10_lostWatch_31 rfl rfl ?_
      refine go_aload_n (pc := 32) dX10_lostWatch_32 rfl rfl ?_
      refine go_getR (pc := 33) dX10_lostWatch_33 fl_X10_55 H (fun v104 H => ?_)
      refine go_aload_n (pc := 36) dX10_lostWatch_36 rfl rfl ?_
      refine go_getR (pc := 37) dX10_lostWatch_37 fl_X10_35 H (fun v105 H => ?_)
      refine go_iload_n (pc := 40) dX10_lostWatch_40 rfl rfl ?_
      refine go_cVi (pc := 41) (Mz := M_X6_stolenIn) (as := [.ref v105, .int a2]) (a := v104) (st := [.int a1]) dX10_lostWatch_41 wd_809 cv_X6_stolenIn X6_stolenIn_ok rfl rfl ⟨Nat.le_of_ble_eq_true rfl, Nat.le_of_ble_eq_true rfl⟩ (Nat.le_of_ble_eq_true rfl) ⟨rfl, rfl⟩ ⟨Nat.le_of_ble_eq_true rfl, Nat.le_of_ble_eq_true rfl⟩ H (fun v107 h106 H => ?_)
      refine go_iadd (pc := 44) dX10_lostWatch_44 ?_
      refine go_pin H (fun v108 H => ?_)
      refine go_istore_n (pc := 45) (L' := [some (.ref a0), some (.int v108), some (.int a2)]) dX10_lostWatch_45 rfl (Nat.le_of_ble_eq_true rfl) rfl ?_
      refine go_iload_n (pc := 46) dX10_lostWatch_46 rfl rfl ?_
      refine go_sipush (pc := 47) (v := 240) dX10_lostWatch_47 (by decide) ?_
      refine go_icmp_lt (pc := 50) (tgt := 55) dX10_lostWatch_50 (by decide) H (fun H => ?_) (fun H => ?_)
      · refine go_iinc (pc := 55) (v := a2 + 1) (L' := [some (.ref a0), some (.int v108), some (.int (a2 + 1))]) dX10_lostWatch_55 rfl rfl (Nat.le_of_ble_eq_true rfl) rfl ?_
        refine go_goto (pc := 58) (tgt := 17) dX10_lostWatch_58 (by decide) ?_
        exact Go.weak (L' := [some (.ref a0), some (.int v108), some (.int (a2 + 1))]) ⟨rfl, ⟨rfl, ⟨rfl, trivial⟩⟩⟩ (hrc17 a0 v108 (a2 + 1) h106 H)
      · refine go_iload_n (pc := 53) dX10_lostWatch_53 rfl rfl ?_
        exact go_iret (pc := 54) dX10_lostWatch_54 rfl ⟨Nat.le_of_ble_eq_true rfl, Nat.le_of_ble_eq_true rfl⟩ H

def X10_lostWatch (a0 : Nat) (h : Hp) : Option (Int32 × Hp) :=
  cV h a0 10 (X10_whyNotUnderWay a0 h) fun v2 h1 =>
  cV h1 a0 10 (X10_isRefused a0 v2 h1) fun v4 h3 =>
  if v4 = 0 then (
    X10_lostWatch_L17 5000 a0 0 0 h3)
  else (
    some ((-1), h3))
theorem X10_lostWatch_ok {a0 : Nat} {h h' : Hp} {r : Int32} (H : X10_lostWatch a0 h = some (r, h')) : Con M_X10_lostWatch [.ref a0] h (some (.int r)) h' := by
  refine con_of_go (by decide) 2 (L := [some (.ref a0), none, none]) rfl (Nat.le_of_ble_eq_true rfl) ?_
  unfold X10_lostWatch at H
  refine go_aload_n (pc := 0) dX10_lostWatch_0 rfl rfl ?_
  refine go_aload_n (pc := 1) dX10_lostWatch_1 rfl rfl ?_
  refine go_cVi (pc := 2) (Mz := M_X10_whyNotUnderWay) (as := []) (a := a0) (st := [.ref a0]) dX10_lostWatch_2 wd_831 cv_X10_whyNotUnderWay X10_whyNotUnderWay_ok rfl rfl ⟨Nat.le_of_ble_eq_true rfl, Nat.le_of_ble_eq_true rfl⟩ (Nat.le_of_ble_eq_true rfl) ⟨rfl, rfl⟩ ⟨Nat.le_of_ble_eq_true rfl, Nat.le_of_ble_eq_true rfl⟩ H (fun v2 h1 H => ?_)
  refine go_cVi (pc := 5) (Mz := M_X10_isRefused) (as := [.int v2]) (a := a0) (st := []) dX10_lostWatch_5 wd_511 cv_X10_isRefused X10_isRefused_ok rfl rfl ⟨Nat.le_of_ble_eq_true rfl, Nat.le_of_ble_eq_true rfl⟩ (Nat.le_of_ble_eq_true rfl) ⟨rfl, rfl⟩ ⟨Nat.le_of_ble_eq_true rfl, Nat.le_of_ble_eq_true rfl⟩ H (fun v4 h3 H => ?_)
  refine go_if_eq (pc := 8) (tgt := 13) dX10_lostWatch_8 (by decide) H (fun H => ?_) (fun H => ?_)
  · refine go_iconst (pc := 13) (v := 0) dX10_lostWatch_13 (by decide) ?_
    refine go_istore_n (pc := 14) (L' := [some (.ref a0), some (.int 0), none]) dX10_lostWatch_14 rfl (Nat.le_of_ble_eq_true rfl) rfl ?_
    refine go_iconst (pc := 15) (v := 0) dX10_lostWatch_15 (by decide) ?_
    refine go_istore_n (pc := 16) (L' := [some (.ref a0), some (.int 0), some (.int 0)]) dX10_lostWatch_16 rfl (Nat.le_of_ble_eq_true rfl) rfl ?_
    exact Go.weak (L' := [some (.ref a0), some (.int 0), some (.int 0)]) ⟨rfl, ⟨rfl, ⟨rfl, trivial⟩⟩⟩ (X10_lostWatch_L17_ok 5000 a0 0 0 h3 H)
  · refine go_iconst (pc := 11) (v := (-1)) dX10_lostWatch_11 (by decide) ?_
    exact go_iret (pc := 12) dX10_lostWatch_12 rfl ⟨Nat.le_of_ble_eq_true rfl, Nat.le_of_ble_eq_true rfl⟩ H

def M_X10_at : MD := (yX10_at, cX10_at, 4, (some .int), 5, 115, 0, 0)
theorem cv_X10_at : CVo M_X10_at 2 10 := ⟨⟨wd_842, wd_109, ⟨by decide, by decide⟩, by decide +kernel⟩, wd_840, wd_841, _, rfl, rfl⟩
def X10_at (a0 : Nat) (a1 : Int32) (a2 : Int32) (h : Hp) : Option (Int32 × Hp) :=
  cV h a0 10 (X10_whyNotAfter a0 a1 h) fun v2 h1 =>
  cV h1 a0 10 (X10_isRefused a0 v2 h1) fun v4 h3 =>
  if v4 = 0 then (
    (gR h3 a0 10 5).bind fun v5 =>
    (gR h3 a0 10 2).bind fun v6 =>
    cV h3 v5 6 (X6_sailFor v5 v6 a1 h3) fun v8 h7 =>
    if a2 = 0 then (
      (gI h7 v8 7 0).bind fun v9 =>
      some (v9, h7))
    else (
      (gI h7 v8 7 1).bind fun v10 =>
      some (v10, h7)))
  else (
    some ((-1000000), h3))
theorem X10_at_ok {a0 : Nat} {a1 : Int32} {a2 : Int32} {h h' : Hp} {r : Int32} (H : X10_at a0 a1 a2 h = some (r, h')) : Con M_X10_at [.ref a0, .int a1, .int a2] h (some (.int r)) h' := by
  refine con_of_go (by decide) 1 (L := [some (.ref a0), some (.int a1), some (.int a2), none]) rfl (Nat.le_of_ble_eq_true rfl) ?_
  unfold X10_at at H
  refine go_aload_n (pc := 0) dX10_at_0 rfl rfl ?_
  refine go_aload_n (pc := 1) dX10_at_1 rfl rfl ?_
  refine go_iload_n (pc := 2) dX10_at_2 rfl rfl ?_
  refine go_cVi (pc := 3) (Mz := M_X10_whyNotAfter) (as := [.int a1]) (a := a0) (st := [.ref a0]) dX10_at_3 wd_814 cv_X10_whyNotAfter X10_whyNotAfter_ok rfl rfl ⟨Nat.le_of_ble_eq_true rfl, Nat.le_of_ble_eq_true rfl⟩ (Nat.le_of_ble_eq_true rfl) ⟨rfl, rfl⟩ ⟨Nat.le_of_ble_eq_true rfl, Nat.le_of_ble_eq_true rfl⟩ H (fun v2 h1 H => ?_)
  refine go_cVi (pc := 6) (Mz := M_X10_isRefused) (as := [.int v2]) (a := a0) (st := []) dX10_at_6 wd_511 cv_X10_isRefused X10_isRefused_ok rfl rfl ⟨Nat.le_of_ble_eq_true rfl, Nat.le_of_ble_eq_true rfl⟩ (Nat.le_of_ble_eq_true rfl) ⟨rfl, rfl⟩ ⟨Nat.le_of_ble_eq_true rfl, Nat.le_of_ble_eq_true rfl⟩ H (fun v4 h3 H => ?_)
  refine go_if_eq (pc := 9) (tgt := 15) dX10_at_9 (by decide) H (fun H => ?_) (fun H => ?_)
  · refine go_aload_n (pc := 15) dX10_at_15 rfl rfl ?_
    refine go_getR (pc := 16) dX10_at_16 fl_X10_55 H (fun v5 H => ?_)
    refine go_aload_n (pc := 19) dX10_at_19 rfl rfl ?_
    refine go_getR (pc := 20) dX10_at_20 fl_X10_35 H (fun v6 H => ?_)
    refine go_iload_n (pc := 23) dX10_at_23 rfl rfl ?_
    refine go_cVr (pc := 24) (Mz := M_X6_sailFor) (as := [.ref v6, .int a1]) (a := v5) (st := []) dX10_at_24 wd_844 cv_X6_sailFor X6_sailFor_ok rfl rfl ⟨Nat.le_of_ble_eq_true rfl, Nat.le_of_ble_eq_true rfl⟩ (Nat.le_of_ble_eq_true rfl) ⟨rfl, rfl⟩ ⟨Nat.le_of_ble_eq_true rfl, Nat.le_of_ble_eq_true rfl⟩ H (fun v8 h7 H => ?_)
    refine go_astore_n (pc := 27) (L' := [some (.ref a0), some (.int a1), some (.int a2), some (.ref v8)]) dX10_at_27 rfl (Nat.le_of_ble_eq_true rfl) rfl ?_
    refine go_iload_n (pc := 28) dX10_at_28 rfl rfl ?_
    refine go_if_eq (pc := 29) (tgt := 39) dX10_at_29 (by decide) H (fun H => ?_) (fun H => ?_)
    · refine go_aload_n (pc := 39) dX10_at_39 rfl rfl ?_
      refine go_getI (pc := 40) dX10_at_40 fl_X10_187 H (fun v9 H => ?_)
      exact go_iret (pc := 43) dX10_at_43 rfl ⟨Nat.le_of_ble_eq_true rfl, Nat.le_of_ble_eq_true rfl⟩ H
    · refine go_aload_n (pc := 32) dX10_at_32 rfl rfl ?_
      refine go_getI (pc := 33) dX10_at_33 fl_X10_182 H (fun v10 H => ?_)
      refine go_goto (pc := 36) (tgt := 43) dX10_at_36 (by decide) ?_
      exact go_iret (pc := 43) dX10_at_43 rfl ⟨Nat.le_of_ble_eq_true rfl, Nat.le_of_ble_eq_true rfl⟩ H
  · refine go_ldc (pc := 12) (v := (-1000000)) dX10_at_12 wd_843 ?_
    exact go_iret (pc := 14) dX10_at_14 rfl ⟨Nat.le_of_ble_eq_true rfl, Nat.le_of_ble_eq_true rfl⟩ H

def M_X10_thought : MD := (yX10_thought, cX10_thought, 4, (some .int), 5, 115, 0, 0)
theorem cv_X10_thought : CVo M_X10_thought 2 10 := ⟨⟨wd_872, wd_109, ⟨by decide, by decide⟩, by decide +kernel⟩, wd_870, wd_871, _, rfl, rfl⟩
def X10_thought (a0 : Nat) (a1 : Int32) (a2 : Int32) (h : Hp) : Option (Int32 × Hp) :=
  cV h a0 10 (X10_whyNotAfter a0 a1 h) fun v2 h1 =>
  cV h1 a0 10 (X10_isRefused a0 v2 h1) fun v4 h3 =>
  if v4 = 0 then (
    (gR h3 a0 10 5).bind fun v5 =>
    (gR h3 a0 10 2).bind fun v6 =>
    cV h3 v5 6 (X6_sailFor v5 v6 a1 h3) fun v8 h7 =>
    if a2 = 0 then (
      (gI h7 v8 7 2).bind fun v9 =>
      some (v9, h7))
    else (
      (gI h7 v8 7 3).bind fun v10 =>
      some (v10, h7)))
  else (
    some ((-1000000), h3))
theorem X10_thought_ok {a0 : Nat} {a1 : Int32} {a2 : Int32} {h h' : Hp} {r : Int32} (H : X10_thought a0 a1 a2 h = some (r, h')) : Con M_X10_thought [.ref a0, .int a1, .int a2] h (some (.int r)) h' := by
  refine con_of_go (by decide) 1 (L := [some (.ref a0), some (.int a1), some (.int a2), none]) rfl (Nat.le_of_ble_eq_true rfl) ?_
  unfold X10_thought at H
  refine go_aload_n (pc := 0) dX10_thought_0 rfl rfl ?_
  refine go_aload_n (pc := 1) dX10_thought_1 rfl rfl ?_
  refine go_iload_n (pc := 2) dX10_thought_2 rfl rfl ?_
  refine go_cVi (pc := 3) (Mz := M_X10_whyNotAfter) (as := [.int a1]) (a := a0) (st := [.ref a0]) dX10_thought_3 wd_814 cv_X10_whyNotAfter X10_whyNotAfter_ok rfl rfl ⟨Nat.le_of_ble_eq_true rfl, Nat.le_of_ble_eq_true rfl⟩ (Nat.le_of_ble_eq_true rfl) ⟨rfl, rfl⟩ ⟨Nat.le_of_ble_eq_true rfl, Nat.le_of_ble_eq_true rfl⟩ H (fun v2 h1 H => ?_)
  refine go_cVi (pc := 6) (Mz := M_X10_isRefused) (as := [.int v2]) (a := a0) (st := []) dX10_thought_6 wd_511 cv_X10_isRefused X10_isRefused_ok rfl rfl ⟨Nat.le_of_ble_eq_true rfl, Nat.le_of_ble_eq_true rfl⟩ (Nat.le_of_ble_eq_true rfl) ⟨rfl, rfl⟩ ⟨Nat.le_of_ble_eq_true rfl, Nat.le_of_ble_eq_true rfl⟩ H (fun v4 h3 H => ?_)
  refine go_if_eq (pc := 9) (tgt := 15) dX10_thought_9 (by decide) H (fun H => ?_) (fun H => ?_)
  · refine go_aload_n (pc := 15) dX10_thought_15 rfl rfl ?_
    refine go_getR (pc := 16) dX10_thought_16 fl_X10_55 H (fun v5 H => ?_)
    refine go_aload_n (pc := 19) dX10_thought_19 rfl rfl ?_
    refine go_getR (pc := 20) dX10_thought_20 fl_X10_35 H (fun v6 H => ?_)
    refine go_iload_n (pc := 23) dX10_thought_23 rfl rfl ?_
    refine go_cVr (pc := 24) (Mz := M_X6_sailFor) (as := [.ref v6, .int a1]) (a := v5) (st := []) dX10_thought_24 wd_844 cv_X6_sailFor X6_sailFor_ok rfl rfl ⟨Nat.le_of_ble_eq_true rfl, Nat.le_of_ble_eq_true rfl⟩ (Nat.le_of_ble_eq_true rfl) ⟨rfl, rfl⟩ ⟨Nat.le_of_ble_eq_true rfl, Nat.le_of_ble_eq_true rfl⟩ H (fun v8 h7 H => ?_)
    refine go_astore_n (pc := 27) (L' := [some (.ref a0), some (.int a1), some (.int a2), some (.ref v8)]) dX10_thought_27 rfl (Nat.le_of_ble_eq_true rfl) rfl ?_
    refine go_iload_n (pc := 28) dX10_thought_28 rfl rfl ?_
    refine go_if_eq (pc := 29) (tgt := 39) dX10_thought_29 (by decide) H (fun H => ?_) (fun H => ?_)
    · refine go_aload_n (pc := 39) dX10_thought_39 rfl rfl ?_
      refine go_getI (pc := 40) dX10_thought_40 fl_X10_193 H (fun v9 H => ?_)
      exact go_iret (pc := 43) dX10_thought_43 rfl ⟨Nat.le_of_ble_eq_true rfl, Nat.le_of_ble_eq_true rfl⟩ H
    · refine go_aload_n (pc := 32) dX10_thought_32 rfl rfl ?_
      refine go_getI (pc := 33) dX10_thought_33 fl_X10_190 H (fun v10 H => ?_)
      refine go_goto (pc := 36) (tgt := 43) dX10_thought_36 (by decide) ?_
      exact go_iret (pc := 43) dX10_thought_43 rfl ⟨Nat.le_of_ble_eq_true rfl, Nat.le_of_ble_eq_true rfl⟩ H
  · refine go_ldc (pc := 12) (v := (-1000000)) dX10_thought_12 wd_843 ?_
    exact go_iret (pc := 14) dX10_thought_14 rfl ⟨Nat.le_of_ble_eq_true rfl, Nat.le_of_ble_eq_true rfl⟩ H

def M_X10_error : MD := (yX10_error, cX10_error, 2, (some .int), 5, 115, 0, 0)
theorem cv_X10_error : CVo M_X10_error 1 10 := ⟨⟨wd_876, wd_109, ⟨by decide, by decide⟩, by decide +kernel⟩, wd_874, wd_875, _, rfl, rfl⟩
def X10_error (a0 : Nat) (a1 : Int32) (h : Hp) : Option (Int32 × Hp) :=
  cV h a0 10 (X10_whyNotAfter a0 a1 h) fun v2 h1 =>
  cV h1 a0 10 (X10_isRefused a0 v2 h1) fun v4 h3 =>
  if v4 = 0 then (
    (gR h3 a0 10 5).bind fun v5 =>
    (gR h3 a0 10 2).bind fun v6 =>
    cV h3 v5 6 (X6_sailFor v5 v6 a1 h3) fun v8 h7 =>
    cV h7 v8 7 (X7_apart v8 h7) fun v10 h9 =>
    some (v10, h9))
  else (
    some ((-1), h3))
theorem X10_error_ok {a0 : Nat} {a1 : Int32} {h h' : Hp} {r : Int32} (H : X10_error a0 a1 h = some (r, h')) : Con M_X10_error [.ref a0, .int a1] h (some (.int r)) h' := by
  refine con_of_go (by decide) 0 (L := [some (.ref a0), some (.int a1)]) rfl (Nat.le_of_ble_eq_true rfl) ?_
  unfold X10_error at H
  refine go_aload_n (pc := 0) dX10_error_0 rfl rfl ?_
  refine go_aload_n (pc := 1) dX10_error_1 rfl rfl ?_
  refine go_iload_n (pc := 2) dX10_error_2 rfl rfl ?_
  refine go_cVi (pc := 3) (Mz := M_X10_whyNotAfter) (as := [.int a1]) (a := a0) (st := [.ref a0]) dX10_error_3 wd_814 cv_X10_whyNotAfter X10_whyNotAfter_ok rfl rfl ⟨Nat.le_of_ble_eq_true rfl, Nat.le_of_ble_eq_true rfl⟩ (Nat.le_of_ble_eq_true rfl) ⟨rfl, rfl⟩ ⟨Nat.le_of_ble_eq_true rfl, Nat.le_of_ble_eq_true rfl⟩ H (fun v2 h1 H => ?_)
  refine go_cVi (pc := 6) (Mz := M_X10_isRefused) (as := [.int v2]) (a := a0) (st := []) dX10_error_6 wd_511 cv_X10_isRefused X10_isRefused_ok rfl rfl ⟨Nat.le_of_ble_eq_true rfl, Nat.le_of_ble_eq_true rfl⟩ (Nat.le_of_ble_eq_true rfl) ⟨rfl, rfl⟩ ⟨Nat.le_of_ble_eq_true rfl, Nat.le_of_ble_eq_true rfl⟩ H (fun v4 h3 H => ?_)
  refine go_if_eq (pc := 9) (tgt := 14) dX10_error_9 (by decide) H (fun H => ?_) (fun H => ?_)
  · refine go_aload_n (pc := 14) dX10_error_14 rfl rfl ?_
    refine go_getR (pc := 15) dX10_error_15 fl_X10_55 H (fun v5 H => ?_)
    refine go_aload_n (pc := 18) dX10_error_18 rfl rfl ?_
    refine go_getR (pc := 19) dX10_error_19 fl_X10_35 H (fun v6 H => ?_)
    refine go_iload_n (pc := 22) dX10_error_22 rfl rfl ?_
    refine go_cVr (pc := 23) (Mz := M_X6_sailFor) (as := [.ref v6, .int a1]) (a := v5) (st := []) dX10_error_23 wd_844 cv_X6_sailFor X6_sailFor_ok rfl rfl ⟨Nat.le_of_ble_eq_true rfl, Nat.le_of_ble_eq_true rfl⟩ (Nat.le_of_ble_eq_true rfl) ⟨rfl, rfl⟩ ⟨Nat.le_of_ble_eq_true rfl, Nat.le_of_ble_eq_true rfl⟩ H (fun v8 h7 H => ?_)
    refine go_cVi (pc := 26) (Mz := M_X7_apart) (as := []) (a := v8) (st := []) dX10_error_26 wd_877 cv_X7_apart X7_apart_ok rfl rfl ⟨Nat.le_of_ble_eq_true rfl, Nat.le_of_ble_eq_true rfl⟩ (Nat.le_of_ble_eq_true rfl) ⟨rfl, rfl⟩ ⟨Nat.le_of_ble_eq_true rfl, Nat.le_of_ble_eq_true rfl⟩ H (fun v10 h9 H => ?_)
    exact go_iret (pc := 29) dX10_error_29 rfl ⟨Nat.le_of_ble_eq_true rfl, Nat.le_of_ble_eq_true rfl⟩ H
  · refine go_iconst (pc := 12) (v := (-1)) dX10_error_12 (by decide) ?_
    exact go_iret (pc := 13) dX10_error_13 rfl ⟨Nat.le_of_ble_eq_true rfl, Nat.le_of_ble_eq_true rfl⟩ H

def M_X10_worst : MD := (yX10_worst, cX10_worst, 5, (some .int), 4, 93, 0, 0)
theorem cv_X10_worst : CVo M_X10_worst 0 10 := ⟨⟨wd_887, wd_109, ⟨by decide, by decide⟩, by decide +kernel⟩, wd_885, wd_886, _, rfl, rfl⟩
def X10_worst_B86 (rc30 : Nat → Int32 → Int32 → Int32 → Hp → Option (Int32 × Hp)) (a0 : Nat) (a1 : Int32) (a2 : Int32) (a3 : Int32) (h : Hp) : Option (Int32 × Hp) :=
  rc30 a0 a1 a2 (a3 + 1) h
theorem X10_worst_B86_ok {hh h' : Hp} {r : Int32}  (rc30 : Nat → Int32 → Int32 → Int32 → Hp → Option (Int32 × Hp)) (hrc30 : ∀ (a0 : Nat) (a1 : Int32) (a2 : Int32) (a3 : Int32) (h : Hp), rc30 a0 a1 a2 a3 h = some (r, h') → Go (PM M_X10_worst hh (some (.int r)) h') M_X10_worst 30 [some (.ref a0), some (.int a1), some (.int a2), some (.int a3), none] [] h 0 0) (a0 : Nat) (a1 : Int32) (a2 : Int32) (a3 : Int32) (h : Hp) (H : X10_worst_B86 rc30 a0 a1 a2 a3 h = some (r, h')) : Go (PM M_X10_worst hh (some (.int r)) h') M_X10_worst 86 [some (.ref a0), some (.int a1), some (.int a2), some (.int a3), none] [] h 0 0 := by
  unfold X10_worst_B86 at H
  refine go_iinc (pc := 86) (v := a3 + 1) (L' := [some (.ref a0), some (.int a1), some (.int a2), some (.int (a3 + 1)), none]) dX10_worst_86 rfl rfl (Nat.le_of_ble_eq_true rfl) rfl ?_
  refine go_goto (pc := 89) (tgt := 30) dX10_worst_89 (by decide) ?_
  exact Go.weak (L' := [some (.ref a0), some (.int a1), some (.int a2), some (.int (a3 + 1)), none]) ⟨rfl, ⟨rfl, ⟨rfl, ⟨rfl, trivial⟩⟩⟩⟩ (hrc30 a0 a1 a2 (a3 + 1) h H)

def X10_worst_L30_s (rc30 : Nat → Int32 → Int32 → Int32 → Hp → Option (Int32 × Hp)) (a0 : Nat) (a1 : Int32) (a2 : Int32) (a3 : Int32) (h : Hp) : Option (Int32 × Hp) :=
  (gR h a0 10 9).bind fun v101 =>
  (gR h v101 9 2).bind fun v102 =>
  (gI h v102 8 3).bind fun v103 =>
  if v103 < a3 then (
    some (a1, h))
  else (
    (gR h a0 10 5).bind fun v104 =>
    (gR h a0 10 2).bind fun v105 =>
    bd (J9_max_7cf53 (a3 - 1) 0 h) fun v107 h106 =>
    cVv h106 v104 6 (X6_sail v104 v105 v107 a3 h106) fun h108 =>
    (gR h108 a0 10 5).bind fun v109 =>
    (gR h108 v109 6 0).bind fun v110 =>
    cV h108 v110 7 (X7_apart v110 h108) fun v112 h111 =>
    if v112 ≤ a2 then (
      X10_worst_B86 rc30 a0 a1 a2 a3 h111)
    else (
      X10_worst_B86 rc30 a0 a3 v112 a3 h111))
def X10_worst_L30 (q : Nat) : Nat → Int32 → Int32 → Int32 → Hp → Option (Int32 × Hp) := loopN (fun _ _ _ _ _ => none) (X10_worst_L30_s) q
theorem X10_worst_L30_ok {hh h' : Hp} {r : Int32}  : ∀ (q : Nat) (a0 : Nat) (a1 : Int32) (a2 : Int32) (a3 : Int32) (h : Hp), X10_worst_L30 q a0 a1 a2 a3 h = some (r, h') → Go (PM M_X10_worst hh (some (.int r)) h') M_X10_worst 30 [some (.ref a0), some (.int a1), some (.int a2), some (.int a3), none] [] h 0 0 := by
  intro q
  induction q with
  | zero => intro a0 a1 a2 a3 h H; cases H
  | succ q hrc30 =>
    intro a0 a1 a2 a3 h H
    replace H : X10_worst_L30_s (X10_worst_L30 q) a0 a1 a2 a3 h = some (r, h') := H
    unfold X10_worst_L30_s at H
    refine go_iload_n (pc := 30) dX10_worst_30 rfl rfl ?_
    refine go_aload_n (pc := 31) dX10_worst_31 rfl rfl ?_
    refine go_getR (pc := 32) dX10_worst_32 fl_X10_16 H (fun v101 H => ?_)
    refine go_getR (pc := 35) dX10_worst_35 fl_X10_104 H (fun v102 H => ?_)
    refine go_getI (pc := 38) dX10_worst_38 fl_X10_108 H (fun v103 H => ?_)
    refine go_icmp_gt (pc := 41) (tgt := 92) dX10_worst_41 (by decide) H (fun H => ?_) (fun H => ?_)
    · refine go_iload_n (pc := 92) dX10_worst_92 rfl rfl ?_
      exact go_iret (pc := 93) dX10_worst_93 rfl ⟨Nat.le_of_ble_eq_true rfl, Nat.le_of_ble_eq_true rfl⟩ H
    · refine go_aload_n (pc := 44) dX10_worst_44 rfl rfl ?_
      refine go_getR (pc := 45) dX10_worst_45 fl_X10_55 H (fun v104 H => ?_)
      refine go_aload_n (pc := 48) dX10_worst_48 rfl rfl ?_
      refine go_getR (pc := 49) dX10_worst_49 fl_X10_35 H (fun v105 H => ?_)
      refine go_iload_n (pc := 52) dX10_worst_52 rfl rfl ?_
      refine go_iconst (pc := 53) (v := 1) dX10_worst_53 (by decide) ?_
      refine go_isub (pc := 54) dX10_worst_54 ?_
      refine go_iconst (pc := 55) (v := 0) dX10_worst_55 (by decide) ?_
      refine go_cSi (pc := 56) (Mz := M_J9_max_7cf53) (as := [.int (a3 - 1), .int 0]) (st := [.ref v105, .ref v104]) dX10_worst_56 wd_888 cs_J9_max_7cf53 J9_max_7cf53_ok rfl rfl ⟨Nat.le_of_ble_eq_true rfl, Nat.le_of_ble_eq_true rfl⟩ (Nat.le_of_ble_eq_true rfl) ⟨rfl, rfl⟩ ⟨Nat.le_of_ble_eq_true rfl, Nat.le_of_ble_eq_true rfl⟩ H (fun v107 h106 H => ?_)
      refine go_iload_n (pc := 59) dX10_worst_59 rfl rfl ?_
      refine go_cVv (pc := 60) (Mz := M_X6_sail) (as := [.ref v105, .int v107, .int a3]) (a := v104) (st := []) dX10_worst_60 wd_889 cv_X6_sail X6_sail_ok rfl rfl ⟨Nat.le_of_ble_eq_true rfl, Nat.le_of_ble_eq_true rfl⟩ (Nat.le_of_ble_eq_true rfl) ⟨rfl, rfl⟩ ⟨Nat.le_of_ble_eq_true rfl, Nat.le_of_ble_eq_true rfl⟩ H (fun h108 H => ?_)
      refine go_aload_n (pc := 63) dX10_worst_63 rfl rfl ?_
      refine go_getR (pc := 64) dX10_worst_64 fl_X10_55 H (fun v109 H => ?_)
      refine go_getR (pc := 67) dX10_worst_67 fl_X10_208 H (fun v110 H => ?_)
      refine go_cVi (pc := 70) (Mz := M_X7_apart) (as := []) (a := v110) (st := []) dX10_worst_70 wd_877 cv_X7_apart X7_apart_ok rfl rfl ⟨Nat.le_of_ble_eq_true rfl, Nat.le_of_ble_eq_true rfl⟩ (Nat.le_of_ble_eq_true rfl) ⟨rfl, rfl⟩ ⟨Nat.le_of_ble_eq_true rfl, Nat.le_of_ble_eq_true rfl⟩ H (fun v112 h111 H => ?_)
      refine go_istore (pc := 73) (L' := [some (.ref a0), some (.int a1), some (.int a2), some (.int a3), some (.int v112)]) dX10_worst_73 (Nat.le_of_ble_eq_true rfl) rfl ?_
      refine go_iload (pc := 75) dX10_worst_75 rfl ?_
      refine go_iload_n (pc := 77) dX10_worst_77 rfl rfl ?_
      refine go_icmp_le (pc := 78) (tgt := 86) dX10_worst_78 (by decide) H (fun H => ?_) (fun H => ?_)
      · exact Go.weak (L' := [some (.ref a0), some (.int a1), some (.int a2), some (.int a3), none]) ⟨rfl, ⟨rfl, ⟨rfl, ⟨rfl, trivial⟩⟩⟩⟩ (X10_worst_B86_ok _ hrc30 a0 a1 a2 a3 h111 H)
      · refine go_iload_n (pc := 81) dX10_worst_81 rfl rfl ?_
        refine go_istore_n (pc := 82) (L' := [some (.ref a0), some (.int a3), some (.int a2), some (.int a3), some (.int v112)]) dX10_worst_82 rfl (Nat.le_of_ble_eq_true rfl) rfl ?_
        refine go_iload (pc := 83) dX10_worst_83 rfl ?_
        refine go_istore_n (pc := 85) (L' := [some (.ref a0), some (.int a3), some (.int v112), some (.int a3), some (.int v112)]) dX10_worst_85 rfl (Nat.le_of_ble_eq_true rfl) rfl ?_
        exact Go.weak (L' := [some (.ref a0), some (.int a3), some (.int v112), some (.int a3), none]) ⟨rfl, ⟨rfl, ⟨rfl, ⟨rfl, trivial⟩⟩⟩⟩ (X10_worst_B86_ok _ hrc30 a0 a3 v112 a3 h111 H)

def X10_worst (a0 : Nat) (h : Hp) : Option (Int32 × Hp) :=
  cV h a0 10 (X10_whyNotUnderWay a0 h) fun v2 h1 =>
  cV h1 a0 10 (X10_isRefused a0 v2 h1) fun v4 h3 =>
  if v4 = 0 then (
    (gR h3 a0 10 5).bind fun v5 =>
    (gR h3 a0 10 2).bind fun v6 =>
    cVv h3 v5 6 (X6_reckon v5 v6 h3) fun h7 =>
    X10_worst_L30 5000 a0 0 0 0 h7)
  else (
    some ((-1), h3))
theorem X10_worst_ok {a0 : Nat} {h h' : Hp} {r : Int32} (H : X10_worst a0 h = some (r, h')) : Con M_X10_worst [.ref a0] h (some (.int r)) h' := by
  refine con_of_go (by decide) 4 (L := [some (.ref a0), none, none, none, none]) rfl (Nat.le_of_ble_eq_true rfl) ?_
  unfold X10_worst at H
  refine go_aload_n (pc := 0) dX10_worst_0 rfl rfl ?_
  refine go_aload_n (pc := 1) dX10_worst_1 rfl rfl ?_
  refine go_cVi (pc := 2) (Mz := M_X10_whyNotUnderWay) (as := []) (a := a0) (st := [.ref a0]) dX10_worst_2 wd_831 cv_X10_whyNotUnderWay X10_whyNotUnderWay_ok rfl rfl ⟨Nat.le_of_ble_eq_true rfl, Nat.le_of_ble_eq_true rfl⟩ (Nat.le_of_ble_eq_true rfl) ⟨rfl, rfl⟩ ⟨Nat.le_of_ble_eq_true rfl, Nat.le_of_ble_eq_true rfl⟩ H (fun v2 h1 H => ?_)
  refine go_cVi (pc := 5) (Mz := M_X10_isRefused) (as := [.int v2]) (a := a0) (st := []) dX10_worst_5 wd_511 cv_X10_isRefused X10_isRefused_ok rfl rfl ⟨Nat.le_of_ble_eq_true rfl, Nat.le_of_ble_eq_true rfl⟩ (Nat.le_of_ble_eq_true rfl) ⟨rfl, rfl⟩ ⟨Nat.le_of_ble_eq_true rfl, Nat.le_of_ble_eq_true rfl⟩ H (fun v4 h3 H => ?_)
  refine go_if_eq (pc := 8) (tgt := 13) dX10_worst_8 (by decide) H (fun H => ?_) (fun H => ?_)
  · refine go_iconst (pc := 13) (v := 0) dX10_worst_13 (by decide) ?_
    refine go_istore_n (pc := 14) (L' := [some (.ref a0), some (.int 0), none, none, none]) dX10_worst_14 rfl (Nat.le_of_ble_eq_true rfl) rfl ?_
    refine go_iconst (pc := 15) (v := 0) dX10_worst_15 (by decide) ?_
    refine go_istore_n (pc := 16) (L' := [some (.ref a0), some (.int 0), some (.int 0), none, none]) dX10_worst_16 rfl (Nat.le_of_ble_eq_true rfl) rfl ?_
    refine go_aload_n (pc := 17) dX10_worst_17 rfl rfl ?_
    refine go_getR (pc := 18) dX10_worst_18 fl_X10_55 H (fun v5 H => ?_)
    refine go_aload_n (pc := 21) dX10_worst_21 rfl rfl ?_
    refine go_getR (pc := 22) dX10_worst_22 fl_X10_35 H (fun v6 H => ?_)
    refine go_cVv (pc := 25) (Mz := M_X6_reckon) (as := [.ref v6]) (a := v5) (st := []) dX10_worst_25 wd_818 cv_X6_reckon X6_reckon_ok rfl rfl ⟨Nat.le_of_ble_eq_true rfl, Nat.le_of_ble_eq_true rfl⟩ (Nat.le_of_ble_eq_true rfl) ⟨rfl, rfl⟩ ⟨Nat.le_of_ble_eq_true rfl, Nat.le_of_ble_eq_true rfl⟩ H (fun h7 H => ?_)
    refine go_iconst (pc := 28) (v := 0) dX10_worst_28 (by decide) ?_
    refine go_istore_n (pc := 29) (L' := [some (.ref a0), some (.int 0), some (.int 0), some (.int 0), none]) dX10_worst_29 rfl (Nat.le_of_ble_eq_true rfl) rfl ?_
    exact Go.weak (L' := [some (.ref a0), some (.int 0), some (.int 0), some (.int 0), none]) ⟨rfl, ⟨rfl, ⟨rfl, ⟨rfl, trivial⟩⟩⟩⟩ (X10_worst_L30_ok 5000 a0 0 0 0 h7 H)
  · refine go_iconst (pc := 11) (v := (-1)) dX10_worst_11 (by decide) ?_
    exact go_iret (pc := 12) dX10_worst_12 rfl ⟨Nat.le_of_ble_eq_true rfl, Nat.le_of_ble_eq_true rfl⟩ H

def M_X10_square : MD := (yX10_square, cX10_square, 2, (some .int), 5, 115, 0, 0)
theorem cv_X10_square : CVo M_X10_square 1 10 := ⟨⟨wd_893, wd_109, ⟨by decide, by decide⟩, by decide +kernel⟩, wd_891, wd_892, _, rfl, rfl⟩
def X10_square (a0 : Nat) (a1 : Int32) (h : Hp) : Option (Int32 × Hp) :=
  cV h a0 10 (X10_whyNotAfter a0 a1 h) fun v2 h1 =>
  cV h1 a0 10 (X10_isRefused a0 v2 h1) fun v4 h3 =>
  if v4 = 0 then (
    (gR h3 a0 10 5).bind fun v5 =>
    (gR h3 a0 10 2).bind fun v6 =>
    cV h3 v5 6 (X6_sailFor v5 v6 a1 h3) fun v8 h7 =>
    cV h7 v8 7 (X7_inSquare v8 h7) fun v10 h9 =>
    some (v10, h9))
  else (
    some ((-1), h3))
theorem X10_square_ok {a0 : Nat} {a1 : Int32} {h h' : Hp} {r : Int32} (H : X10_square a0 a1 h = some (r, h')) : Con M_X10_square [.ref a0, .int a1] h (some (.int r)) h' := by
  refine con_of_go (by decide) 0 (L := [some (.ref a0), some (.int a1)]) rfl (Nat.le_of_ble_eq_true rfl) ?_
  unfold X10_square at H
  refine go_aload_n (pc := 0) dX10_square_0 rfl rfl ?_
  refine go_aload_n (pc := 1) dX10_square_1 rfl rfl ?_
  refine go_iload_n (pc := 2) dX10_square_2 rfl rfl ?_
  refine go_cVi (pc := 3) (Mz := M_X10_whyNotAfter) (as := [.int a1]) (a := a0) (st := [.ref a0]) dX10_square_3 wd_814 cv_X10_whyNotAfter X10_whyNotAfter_ok rfl rfl ⟨Nat.le_of_ble_eq_true rfl, Nat.le_of_ble_eq_true rfl⟩ (Nat.le_of_ble_eq_true rfl) ⟨rfl, rfl⟩ ⟨Nat.le_of_ble_eq_true rfl, Nat.le_of_ble_eq_true rfl⟩ H (fun v2 h1 H => ?_)
  refine go_cVi (pc := 6) (Mz := M_X10_isRefused) (as := [.int v2]) (a := a0) (st := []) dX10_square_6 wd_511 cv_X10_isRefused X10_isRefused_ok rfl rfl ⟨Nat.le_of_ble_eq_true rfl, Nat.le_of_ble_eq_true rfl⟩ (Nat.le_of_ble_eq_true rfl) ⟨rfl, rfl⟩ ⟨Nat.le_of_ble_eq_true rfl, Nat.le_of_ble_eq_true rfl⟩ H (fun v4 h3 H => ?_)
  refine go_if_eq (pc := 9) (tgt := 14) dX10_square_9 (by decide) H (fun H => ?_) (fun H => ?_)
  · refine go_aload_n (pc := 14) dX10_square_14 rfl rfl ?_
    refine go_getR (pc := 15) dX10_square_15 fl_X10_55 H (fun v5 H => ?_)
    refine go_aload_n (pc := 18) dX10_square_18 rfl rfl ?_
    refine go_getR (pc := 19) dX10_square_19 fl_X10_35 H (fun v6 H => ?_)
    refine go_iload_n (pc := 22) dX10_square_22 rfl rfl ?_
    refine go_cVr (pc := 23) (Mz := M_X6_sailFor) (as := [.ref v6, .int a1]) (a := v5) (st := []) dX10_square_23 wd_844 cv_X6_sailFor X6_sailFor_ok rfl rfl ⟨Nat.le_of_ble_eq_true rfl, Nat.le_of_ble_eq_true rfl⟩ (Nat.le_of_ble_eq_true rfl) ⟨rfl, rfl⟩ ⟨Nat.le_of_ble_eq_true rfl, Nat.le_of_ble_eq_true rfl⟩ H (fun v8 h7 H => ?_)
    refine go_cVi (pc := 26) (Mz := M_X7_inSquare) (as := []) (a := v8) (st := []) dX10_square_26 wd_894 cv_X7_inSquare X7_inSquare_ok rfl rfl ⟨Nat.le_of_ble_eq_true rfl, Nat.le_of_ble_eq_true rfl⟩ (Nat.le_of_ble_eq_true rfl) ⟨rfl, rfl⟩ ⟨Nat.le_of_ble_eq_true rfl, Nat.le_of_ble_eq_true rfl⟩ H (fun v10 h9 H => ?_)
    exact go_iret (pc := 29) dX10_square_29 rfl ⟨Nat.le_of_ble_eq_true rfl, Nat.le_of_ble_eq_true rfl⟩ H
  · refine go_iconst (pc := 12) (v := (-1)) dX10_square_12 (by decide) ?_
    exact go_iret (pc := 13) dX10_square_13 rfl ⟨Nat.le_of_ble_eq_true rfl, Nat.le_of_ble_eq_true rfl⟩ H

def M_X10_squareThought : MD := (yX10_squareThought, cX10_squareThought, 2, (some .int), 5, 115, 0, 0)
theorem cv_X10_squareThought : CVo M_X10_squareThought 1 10 := ⟨⟨wd_905, wd_109, ⟨by decide, by decide⟩, by decide +kernel⟩, wd_903, wd_904, _, rfl, rfl⟩
def X10_squareThought (a0 : Nat) (a1 : Int32) (h : Hp) : Option (Int32 × Hp) :=
  cV h a0 10 (X10_whyNotAfter a0 a1 h) fun v2 h1 =>
  cV h1 a0 10 (X10_isRefused a0 v2 h1) fun v4 h3 =>
  if v4 = 0 then (
    (gR h3 a0 10 5).bind fun v5 =>
    (gR h3 a0 10 2).bind fun v6 =>
    cV h3 v5 6 (X6_sailFor v5 v6 a1 h3) fun v8 h7 =>
    cV h7 v8 7 (X7_thoughtInSquare v8 h7) fun v10 h9 =>
    some (v10, h9))
  else (
    some ((-1), h3))
theorem X10_squareThought_ok {a0 : Nat} {a1 : Int32} {h h' : Hp} {r : Int32} (H : X10_squareThought a0 a1 h = some (r, h')) : Con M_X10_squareThought [.ref a0, .int a1] h (some (.int r)) h' := by
  refine con_of_go (by decide) 0 (L := [some (.ref a0), some (.int a1)]) rfl (Nat.le_of_ble_eq_true rfl) ?_
  unfold X10_squareThought at H
  refine go_aload_n (pc := 0) dX10_squareThought_0 rfl rfl ?_
  refine go_aload_n (pc := 1) dX10_squareThought_1 rfl rfl ?_
  refine go_iload_n (pc := 2) dX10_squareThought_2 rfl rfl ?_
  refine go_cVi (pc := 3) (Mz := M_X10_whyNotAfter) (as := [.int a1]) (a := a0) (st := [.ref a0]) dX10_squareThought_3 wd_814 cv_X10_whyNotAfter X10_whyNotAfter_ok rfl rfl ⟨Nat.le_of_ble_eq_true rfl, Nat.le_of_ble_eq_true rfl⟩ (Nat.le_of_ble_eq_true rfl) ⟨rfl, rfl⟩ ⟨Nat.le_of_ble_eq_true rfl, Nat.le_of_ble_eq_true rfl⟩ H (fun v2 h1 H => ?_)
  refine go_cVi (pc := 6) (Mz := M_X10_isRefused) (as := [.int v2]) (a := a0) (st := []) dX10_squareThought_6 wd_511 cv_X10_isRefused X10_isRefused_ok rfl rfl ⟨Nat.le_of_ble_eq_true rfl, Nat.le_of_ble_eq_true rfl⟩ (Nat.le_of_ble_eq_true rfl) ⟨rfl, rfl⟩ ⟨Nat.le_of_ble_eq_true rfl, Nat.le_of_ble_eq_true rfl⟩ H (fun v4 h3 H => ?_)
  refine go_if_eq (pc := 9) (tgt := 14) dX10_squareThought_9 (by decide) H (fun H => ?_) (fun H => ?_)
  · refine go_aload_n (pc := 14) dX10_squareThought_14 rfl rfl ?_
    refine go_getR (pc := 15) dX10_squareThought_15 fl_X10_55 H (fun v5 H => ?_)
    refine go_aload_n (pc := 18) dX10_squareThought_18 rfl rfl ?_
    refine go_getR (pc := 19) dX10_squareThought_19 fl_X10_35 H (fun v6 H => ?_)
    refine go_iload_n (pc := 22) dX10_squareThought_22 rfl rfl ?_
    refine go_cVr (pc := 23) (Mz := M_X6_sailFor) (as := [.ref v6, .int a1]) (a := v5) (st := []) dX10_squareThought_23 wd_844 cv_X6_sailFor X6_sailFor_ok rfl rfl ⟨Nat.le_of_ble_eq_true rfl, Nat.le_of_ble_eq_true rfl⟩ (Nat.le_of_ble_eq_true rfl) ⟨rfl, rfl⟩ ⟨Nat.le_of_ble_eq_true rfl, Nat.le_of_ble_eq_true rfl⟩ H (fun v8 h7 H => ?_)
    refine go_cVi (pc := 26) (Mz := M_X7_thoughtInSquare) (as := []) (a := v8) (st := []) dX10_squareThought_26 wd_906 cv_X7_thoughtInSquare X7_thoughtInSquare_ok rfl rfl ⟨Nat.le_of_ble_eq_true rfl, Nat.le_of_ble_eq_true rfl⟩ (Nat.le_of_ble_eq_true rfl) ⟨rfl, rfl⟩ ⟨Nat.le_of_ble_eq_true rfl, Nat.le_of_ble_eq_true rfl⟩ H (fun v10 h9 H => ?_)
    exact go_iret (pc := 29) dX10_squareThought_29 rfl ⟨Nat.le_of_ble_eq_true rfl, Nat.le_of_ble_eq_true rfl⟩ H
  · refine go_iconst (pc := 12) (v := (-1)) dX10_squareThought_12 (by decide) ?_
    exact go_iret (pc := 13) dX10_squareThought_13 rfl ⟨Nat.le_of_ble_eq_true rfl, Nat.le_of_ble_eq_true rfl⟩ H

def M_X10_strikes : MD := (yX10_strikes, cX10_strikes, 1, (some .int), 4, 95, 0, 0)
theorem cv_X10_strikes : CVo M_X10_strikes 0 10 := ⟨⟨wd_913, wd_109, ⟨by decide, by decide⟩, by decide +kernel⟩, wd_911, wd_912, _, rfl, rfl⟩
def X10_strikes (a0 : Nat) (h : Hp) : Option (Int32 × Hp) :=
  cV h a0 10 (X10_whyNotUnderWay a0 h) fun v2 h1 =>
  cV h1 a0 10 (X10_isRefused a0 v2 h1) fun v4 h3 =>
  if v4 = 0 then (
    (gR h3 a0 10 5).bind fun v5 =>
    (gR h3 a0 10 2).bind fun v6 =>
    cVv h3 v5 6 (X6_reckon v5 v6 h3) fun h7 =>
    (gR h7 a0 10 5).bind fun v8 =>
    (gR h7 a0 10 2).bind fun v9 =>
    cV h7 v8 6 (X6_firstStrike v8 v9 0 h7) fun v11 h10 =>
    some (v11, h10))
  else (
    some ((-1), h3))
theorem X10_strikes_ok {a0 : Nat} {h h' : Hp} {r : Int32} (H : X10_strikes a0 h = some (r, h')) : Con M_X10_strikes [.ref a0] h (some (.int r)) h' := by
  refine con_of_go (by decide) 0 (L := [some (.ref a0)]) rfl (Nat.le_of_ble_eq_true rfl) ?_
  unfold X10_strikes at H
  refine go_aload_n (pc := 0) dX10_strikes_0 rfl rfl ?_
  refine go_aload_n (pc := 1) dX10_strikes_1 rfl rfl ?_
  refine go_cVi (pc := 2) (Mz := M_X10_whyNotUnderWay) (as := []) (a := a0) (st := [.ref a0]) dX10_strikes_2 wd_831 cv_X10_whyNotUnderWay X10_whyNotUnderWay_ok rfl rfl ⟨Nat.le_of_ble_eq_true rfl, Nat.le_of_ble_eq_true rfl⟩ (Nat.le_of_ble_eq_true rfl) ⟨rfl, rfl⟩ ⟨Nat.le_of_ble_eq_true rfl, Nat.le_of_ble_eq_true rfl⟩ H (fun v2 h1 H => ?_)
  refine go_cVi (pc := 5) (Mz := M_X10_isRefused) (as := [.int v2]) (a := a0) (st := []) dX10_strikes_5 wd_511 cv_X10_isRefused X10_isRefused_ok rfl rfl ⟨Nat.le_of_ble_eq_true rfl, Nat.le_of_ble_eq_true rfl⟩ (Nat.le_of_ble_eq_true rfl) ⟨rfl, rfl⟩ ⟨Nat.le_of_ble_eq_true rfl, Nat.le_of_ble_eq_true rfl⟩ H (fun v4 h3 H => ?_)
  refine go_if_eq (pc := 8) (tgt := 13) dX10_strikes_8 (by decide) H (fun H => ?_) (fun H => ?_)
  · refine go_aload_n (pc := 13) dX10_strikes_13 rfl rfl ?_
    refine go_getR (pc := 14) dX10_strikes_14 fl_X10_55 H (fun v5 H => ?_)
    refine go_aload_n (pc := 17) dX10_strikes_17 rfl rfl ?_
    refine go_getR (pc := 18) dX10_strikes_18 fl_X10_35 H (fun v6 H => ?_)
    refine go_cVv (pc := 21) (Mz := M_X6_reckon) (as := [.ref v6]) (a := v5) (st := []) dX10_strikes_21 wd_818 cv_X6_reckon X6_reckon_ok rfl rfl ⟨Nat.le_of_ble_eq_true rfl, Nat.le_of_ble_eq_true rfl⟩ (Nat.le_of_ble_eq_true rfl) ⟨rfl, rfl⟩ ⟨Nat.le_of_ble_eq_true rfl, Nat.le_of_ble_eq_true rfl⟩ H (fun h7 H => ?_)
    refine go_aload_n (pc := 24) dX10_strikes_24 rfl rfl ?_
    refine go_getR (pc := 25) dX10_strikes_25 fl_X10_55 H (fun v8 H => ?_)
    refine go_aload_n (pc := 28) dX10_strikes_28 rfl rfl ?_
    refine go_getR (pc := 29) dX10_strikes_29 fl_X10_35 H (fun v9 H => ?_)
    refine go_iconst (pc := 32) (v := 0) dX10_strikes_32 (by decide) ?_
    refine go_cVi (pc := 33) (Mz := M_X6_firstStrike) (as := [.ref v9, .int 0]) (a := v8) (st := []) dX10_strikes_33 wd_914 cv_X6_firstStrike X6_firstStrike_ok rfl rfl ⟨Nat.le_of_ble_eq_true rfl, Nat.le_of_ble_eq_true rfl⟩ (Nat.le_of_ble_eq_true rfl) ⟨rfl, rfl⟩ ⟨Nat.le_of_ble_eq_true rfl, Nat.le_of_ble_eq_true rfl⟩ H (fun v11 h10 H => ?_)
    exact go_iret (pc := 36) dX10_strikes_36 rfl ⟨Nat.le_of_ble_eq_true rfl, Nat.le_of_ble_eq_true rfl⟩ H
  · refine go_iconst (pc := 11) (v := (-1)) dX10_strikes_11 (by decide) ?_
    exact go_iret (pc := 12) dX10_strikes_12 rfl ⟨Nat.le_of_ble_eq_true rfl, Nat.le_of_ble_eq_true rfl⟩ H

def M_X10_feared : MD := (yX10_feared, cX10_feared, 1, (some .int), 4, 95, 0, 0)
theorem cv_X10_feared : CVo M_X10_feared 0 10 := ⟨⟨wd_925, wd_109, ⟨by decide, by decide⟩, by decide +kernel⟩, wd_923, wd_924, _, rfl, rfl⟩
def X10_feared (a0 : Nat) (h : Hp) : Option (Int32 × Hp) :=
  cV h a0 10 (X10_whyNotUnderWay a0 h) fun v2 h1 =>
  cV h1 a0 10 (X10_isRefused a0 v2 h1) fun v4 h3 =>
  if v4 = 0 then (
    (gR h3 a0 10 5).bind fun v5 =>
    (gR h3 a0 10 2).bind fun v6 =>
    cVv h3 v5 6 (X6_reckon v5 v6 h3) fun h7 =>
    (gR h7 a0 10 5).bind fun v8 =>
    (gR h7 a0 10 2).bind fun v9 =>
    cV h7 v8 6 (X6_firstStrike v8 v9 1 h7) fun v11 h10 =>
    some (v11, h10))
  else (
    some ((-1), h3))
theorem X10_feared_ok {a0 : Nat} {h h' : Hp} {r : Int32} (H : X10_feared a0 h = some (r, h')) : Con M_X10_feared [.ref a0] h (some (.int r)) h' := by
  refine con_of_go (by decide) 0 (L := [some (.ref a0)]) rfl (Nat.le_of_ble_eq_true rfl) ?_
  unfold X10_feared at H
  refine go_aload_n (pc := 0) dX10_feared_0 rfl rfl ?_
  refine go_aload_n (pc := 1) dX10_feared_1 rfl rfl ?_
  refine go_cVi (pc := 2) (Mz := M_X10_whyNotUnderWay) (as := []) (a := a0) (st := [.ref a0]) dX10_feared_2 wd_831 cv_X10_whyNotUnderWay X10_whyNotUnderWay_ok rfl rfl ⟨Nat.le_of_ble_eq_true rfl, Nat.le_of_ble_eq_true rfl⟩ (Nat.le_of_ble_eq_true rfl) ⟨rfl, rfl⟩ ⟨Nat.le_of_ble_eq_true rfl, Nat.le_of_ble_eq_true rfl⟩ H (fun v2 h1 H => ?_)
  refine go_cVi (pc := 5) (Mz := M_X10_isRefused) (as := [.int v2]) (a := a0) (st := []) dX10_feared_5 wd_511 cv_X10_isRefused X10_isRefused_ok rfl rfl ⟨Nat.le_of_ble_eq_true rfl, Nat.le_of_ble_eq_true rfl⟩ (Nat.le_of_ble_eq_true rfl) ⟨rfl, rfl⟩ ⟨Nat.le_of_ble_eq_true rfl, Nat.le_of_ble_eq_true rfl⟩ H (fun v4 h3 H => ?_)
  refine go_if_eq (pc := 8) (tgt := 13) dX10_feared_8 (by decide) H (fun H => ?_) (fun H => ?_)
  · refine go_aload_n (pc := 13) dX10_feared_13 rfl rfl ?_
    refine go_getR (pc := 14) dX10_feared_14 fl_X10_55 H (fun v5 H => ?_)
    refine go_aload_n (pc := 17) dX10_feared_17 rfl rfl ?_
    refine go_getR (pc := 18) dX10_feared_18 fl_X10_35 H (fun v6 H => ?_)
    refine go_cVv (pc := 21) (Mz := M_X6_reckon) (as := [.ref v6]) (a := v5) (st := []) dX10_feared_21 wd_818 cv_X6_reckon X6_reckon_ok rfl rfl ⟨Nat.le_of_ble_eq_true rfl, Nat.le_of_ble_eq_true rfl⟩ (Nat.le_of_ble_eq_true rfl) ⟨rfl, rfl⟩ ⟨Nat.le_of_ble_eq_true rfl, Nat.le_of_ble_eq_true rfl⟩ H (fun h7 H => ?_)
    refine go_aload_n (pc := 24) dX10_feared_24 rfl rfl ?_
    refine go_getR (pc := 25) dX10_feared_25 fl_X10_55 H (fun v8 H => ?_)
    refine go_aload_n (pc := 28) dX10_feared_28 rfl rfl ?_
    refine go_getR (pc := 29) dX10_feared_29 fl_X10_35 H (fun v9 H => ?_)
    refine go_iconst (pc := 32) (v := 1) dX10_feared_32 (by decide) ?_
    refine go_cVi (pc := 33) (Mz := M_X6_firstStrike) (as := [.ref v9, .int 1]) (a := v8) (st := []) dX10_feared_33 wd_914 cv_X6_firstStrike X6_firstStrike_ok rfl rfl ⟨Nat.le_of_ble_eq_true rfl, Nat.le_of_ble_eq_true rfl⟩ (Nat.le_of_ble_eq_true rfl) ⟨rfl, rfl⟩ ⟨Nat.le_of_ble_eq_true rfl, Nat.le_of_ble_eq_true rfl⟩ H (fun v11 h10 H => ?_)
    exact go_iret (pc := 36) dX10_feared_36 rfl ⟨Nat.le_of_ble_eq_true rfl, Nat.le_of_ble_eq_true rfl⟩ H
  · refine go_iconst (pc := 11) (v := (-1)) dX10_feared_11 (by decide) ?_
    exact go_iret (pc := 12) dX10_feared_12 rfl ⟨Nat.le_of_ble_eq_true rfl, Nat.le_of_ble_eq_true rfl⟩ H

def M_X10_canBe : MD := (yX10_canBe, cX10_canBe, 2, (some .int), 6, 139, 0, 0)
theorem cv_X10_canBe : CVo M_X10_canBe 1 10 := ⟨⟨wd_929, wd_109, ⟨by decide, by decide⟩, by decide +kernel⟩, wd_927, wd_928, _, rfl, rfl⟩
def X10_canBe (a0 : Nat) (a1 : Int32) (h : Hp) : Option (Int32 × Hp) :=
  cV h a0 10 (X10_whyNotAfter a0 a1 h) fun v2 h1 =>
  cV h1 a0 10 (X10_isRefused a0 v2 h1) fun v4 h3 =>
  if v4 = 0 then (
    (gR h3 a0 10 7).bind fun v5 =>
    (gR h3 a0 10 2).bind fun v6 =>
    cV h3 v5 3 (X3_squaresAfter v5 v6 a1 h3) fun v8 h7 =>
    some (v8, h7))
  else (
    some ((-1), h3))
theorem X10_canBe_ok {a0 : Nat} {a1 : Int32} {h h' : Hp} {r : Int32} (H : X10_canBe a0 a1 h = some (r, h')) : Con M_X10_canBe [.ref a0, .int a1] h (some (.int r)) h' := by
  refine con_of_go (by decide) 0 (L := [some (.ref a0), some (.int a1)]) rfl (Nat.le_of_ble_eq_true rfl) ?_
  unfold X10_canBe at H
  refine go_aload_n (pc := 0) dX10_canBe_0 rfl rfl ?_
  refine go_aload_n (pc := 1) dX10_canBe_1 rfl rfl ?_
  refine go_iload_n (pc := 2) dX10_canBe_2 rfl rfl ?_
  refine go_cVi (pc := 3) (Mz := M_X10_whyNotAfter) (as := [.int a1]) (a := a0) (st := [.ref a0]) dX10_canBe_3 wd_814 cv_X10_whyNotAfter X10_whyNotAfter_ok rfl rfl ⟨Nat.le_of_ble_eq_true rfl, Nat.le_of_ble_eq_true rfl⟩ (Nat.le_of_ble_eq_true rfl) ⟨rfl, rfl⟩ ⟨Nat.le_of_ble_eq_true rfl, Nat.le_of_ble_eq_true rfl⟩ H (fun v2 h1 H => ?_)
  refine go_cVi (pc := 6) (Mz := M_X10_isRefused) (as := [.int v2]) (a := a0) (st := []) dX10_canBe_6 wd_511 cv_X10_isRefused X10_isRefused_ok rfl rfl ⟨Nat.le_of_ble_eq_true rfl, Nat.le_of_ble_eq_true rfl⟩ (Nat.le_of_ble_eq_true rfl) ⟨rfl, rfl⟩ ⟨Nat.le_of_ble_eq_true rfl, Nat.le_of_ble_eq_true rfl⟩ H (fun v4 h3 H => ?_)
  refine go_if_eq (pc := 9) (tgt := 14) dX10_canBe_9 (by decide) H (fun H => ?_) (fun H => ?_)
  · refine go_aload_n (pc := 14) dX10_canBe_14 rfl rfl ?_
    refine go_getR (pc := 15) dX10_canBe_15 fl_X10_71 H (fun v5 H => ?_)
    refine go_aload_n (pc := 18) dX10_canBe_18 rfl rfl ?_
    refine go_getR (pc := 19) dX10_canBe_19 fl_X10_35 H (fun v6 H => ?_)
    refine go_iload_n (pc := 22) dX10_canBe_22 rfl rfl ?_
    refine go_cVi (pc := 23) (Mz := M_X3_squaresAfter) (as := [.ref v6, .int a1]) (a := v5) (st := []) dX10_canBe_23 wd_930 cv_X3_squaresAfter X3_squaresAfter_ok rfl rfl ⟨Nat.le_of_ble_eq_true rfl, Nat.le_of_ble_eq_true rfl⟩ (Nat.le_of_ble_eq_true rfl) ⟨rfl, rfl⟩ ⟨Nat.le_of_ble_eq_true rfl, Nat.le_of_ble_eq_true rfl⟩ H (fun v8 h7 H => ?_)
    exact go_iret (pc := 26) dX10_canBe_26 rfl ⟨Nat.le_of_ble_eq_true rfl, Nat.le_of_ble_eq_true rfl⟩ H
  · refine go_iconst (pc := 12) (v := (-1)) dX10_canBe_12 (by decide) ?_
    exact go_iret (pc := 13) dX10_canBe_13 rfl ⟨Nat.le_of_ble_eq_true rfl, Nat.le_of_ble_eq_true rfl⟩ H

def M_X10_perils : MD := (yX10_perils, cX10_perils, 1, (some .int), 5, 119, 0, 0)
theorem cv_X10_perils : CVo M_X10_perils 0 10 := ⟨⟨wd_967, wd_109, ⟨by decide, by decide⟩, by decide +kernel⟩, wd_965, wd_966, _, rfl, rfl⟩
def X10_perils (a0 : Nat) (h : Hp) : Option (Int32 × Hp) :=
  cV h a0 10 (X10_whyNotUnderWay a0 h) fun v2 h1 =>
  cV h1 a0 10 (X10_isRefused a0 v2 h1) fun v4 h3 =>
  if v4 = 0 then (
    (gR h3 a0 10 7).bind fun v5 =>
    (gR h3 a0 10 2).bind fun v6 =>
    cV h3 v5 3 (X3_strikingSets v5 v6 h3) fun v8 h7 =>
    some (v8, h7))
  else (
    some ((-1), h3))
theorem X10_perils_ok {a0 : Nat} {h h' : Hp} {r : Int32} (H : X10_perils a0 h = some (r, h')) : Con M_X10_perils [.ref a0] h (some (.int r)) h' := by
  refine con_of_go (by decide) 0 (L := [some (.ref a0)]) rfl (Nat.le_of_ble_eq_true rfl) ?_
  unfold X10_perils at H
  refine go_aload_n (pc := 0) dX10_perils_0 rfl rfl ?_
  refine go_aload_n (pc := 1) dX10_perils_1 rfl rfl ?_
  refine go_cVi (pc := 2) (Mz := M_X10_whyNotUnderWay) (as := []) (a := a0) (st := [.ref a0]) dX10_perils_2 wd_831 cv_X10_whyNotUnderWay X10_whyNotUnderWay_ok rfl rfl ⟨Nat.le_of_ble_eq_true rfl, Nat.le_of_ble_eq_true rfl⟩ (Nat.le_of_ble_eq_true rfl) ⟨rfl, rfl⟩ ⟨Nat.le_of_ble_eq_true rfl, Nat.le_of_ble_eq_true rfl⟩ H (fun v2 h1 H => ?_)
  refine go_cVi (pc := 5) (Mz := M_X10_isRefused) (as := [.int v2]) (a := a0) (st := []) dX10_perils_5 wd_511 cv_X10_isRefused X10_isRefused_ok rfl rfl ⟨Nat.le_of_ble_eq_true rfl, Nat.le_of_ble_eq_true rfl⟩ (Nat.le_of_ble_eq_true rfl) ⟨rfl, rfl⟩ ⟨Nat.le_of_ble_eq_true rfl, Nat.le_of_ble_eq_true rfl⟩ H (fun v4 h3 H => ?_)
  refine go_if_eq (pc := 8) (tgt := 13) dX10_perils_8 (by decide) H (fun H => ?_) (fun H => ?_)
  · refine go_aload_n (pc := 13) dX10_perils_13 rfl rfl ?_
    refine go_getR (pc := 14) dX10_perils_14 fl_X10_71 H (fun v5 H => ?_)
    refine go_aload_n (pc := 17) dX10_perils_17 rfl rfl ?_
    refine go_getR (pc := 18) dX10_perils_18 fl_X10_35 H (fun v6 H => ?_)
    refine go_cVi (pc := 21) (Mz := M_X3_strikingSets) (as := [.ref v6]) (a := v5) (st := []) dX10_perils_21 wd_968 cv_X3_strikingSets X3_strikingSets_ok rfl rfl ⟨Nat.le_of_ble_eq_true rfl, Nat.le_of_ble_eq_true rfl⟩ (Nat.le_of_ble_eq_true rfl) ⟨rfl, rfl⟩ ⟨Nat.le_of_ble_eq_true rfl, Nat.le_of_ble_eq_true rfl⟩ H (fun v8 h7 H => ?_)
    exact go_iret (pc := 24) dX10_perils_24 rfl ⟨Nat.le_of_ble_eq_true rfl, Nat.le_of_ble_eq_true rfl⟩ H
  · refine go_iconst (pc := 11) (v := (-1)) dX10_perils_11 (by decide) ?_
    exact go_iret (pc := 12) dX10_perils_12 rfl ⟨Nat.le_of_ble_eq_true rfl, Nat.le_of_ble_eq_true rfl⟩ H

def M_X10_attendFor : MD := (yX10_attendFor, cX10_attendFor, 2, (some .int), 6, 143, 0, 0)
theorem cv_X10_attendFor : CVo M_X10_attendFor 1 10 := ⟨⟨wd_977, wd_109, ⟨by decide, by decide⟩, by decide +kernel⟩, wd_975, wd_976, _, rfl, rfl⟩
def X10_attendFor_B21 (a0 : Nat) (a1 : Int32) (s0 : Nat) (s1 : Int32) (s2 : Int32) (h : Hp) : Option (Int32 × Hp) :=
  bd (X10_whyNot s1 s2 h) fun v202 h201 =>
  cV h201 s0 10 (X10_isRefused s0 v202 h201) fun v204 h203 =>
  if v204 = 0 then (
    (gR h203 a0 10 6).bind fun v205 =>
    (gR h203 a0 10 2).bind fun v206 =>
    cV h203 v205 1 (X1_fewestFor v205 v206 a1 h203) fun v208 h207 =>
    some (v208, h207))
  else (
    some ((-1), h203))
theorem X10_attendFor_B21_ok {hh h' : Hp} {r : Int32}  (a0 : Nat) (a1 : Int32) (s0 : Nat) (s1 : Int32) (s2 : Int32) (h : Hp) (H : X10_attendFor_B21 a0 a1 s0 s1 s2 h = some (r, h')) : Go (PM M_X10_attendFor hh (some (.int r)) h') M_X10_attendFor 21 [some (.ref a0), some (.int a1)] [.int s2, .int s1, .ref s0] h 0 0 := by
  unfold X10_attendFor_B21 at H
  refine go_cSi (pc := 21) (Mz := M_X10_whyNot) (as := [.int s1, .int s2]) (st := [.ref s0]) dX10_attendFor_21 wd_798 cs_X10_whyNot X10_whyNot_ok rfl rfl ⟨Nat.le_of_ble_eq_true rfl, Nat.le_of_ble_eq_true rfl⟩ (Nat.le_of_ble_eq_true rfl) ⟨rfl, rfl⟩ ⟨Nat.le_of_ble_eq_true rfl, Nat.le_of_ble_eq_true rfl⟩ H (fun v202 h201 H => ?_)
  refine go_cVi (pc := 24) (Mz := M_X10_isRefused) (as := [.int v202]) (a := s0) (st := []) dX10_attendFor_24 wd_511 cv_X10_isRefused X10_isRefused_ok rfl rfl ⟨Nat.le_of_ble_eq_true rfl, Nat.le_of_ble_eq_true rfl⟩ (Nat.le_of_ble_eq_true rfl) ⟨rfl, rfl⟩ ⟨Nat.le_of_ble_eq_true rfl, Nat.le_of_ble_eq_true rfl⟩ H (fun v204 h203 H => ?_)
  refine go_if_eq (pc := 27) (tgt := 32) dX10_attendFor_27 (by decide) H (fun H => ?_) (fun H => ?_)
  · refine go_aload_n (pc := 32) dX10_attendFor_32 rfl rfl ?_
    refine go_getR (pc := 33) dX10_attendFor_33 fl_X10_64 H (fun v205 H => ?_)
    refine go_aload_n (pc := 36) dX10_attendFor_36 rfl rfl ?_
    refine go_getR (pc := 37) dX10_attendFor_37 fl_X10_35 H (fun v206 H => ?_)
    refine go_iload_n (pc := 40) dX10_attendFor_40 rfl rfl ?_
    refine go_cVi (pc := 41) (Mz := M_X1_fewestFor) (as := [.ref v206, .int a1]) (a := v205) (st := []) dX10_attendFor_41 wd_978 cv_X1_fewestFor X1_fewestFor_ok rfl rfl ⟨Nat.le_of_ble_eq_true rfl, Nat.le_of_ble_eq_true rfl⟩ (Nat.le_of_ble_eq_true rfl) ⟨rfl, rfl⟩ ⟨Nat.le_of_ble_eq_true rfl, Nat.le_of_ble_eq_true rfl⟩ H (fun v208 h207 H => ?_)
    exact go_iret (pc := 44) dX10_attendFor_44 rfl ⟨Nat.le_of_ble_eq_true rfl, Nat.le_of_ble_eq_true rfl⟩ H
  · refine go_iconst (pc := 30) (v := (-1)) dX10_attendFor_30 (by decide) ?_
    exact go_iret (pc := 31) dX10_attendFor_31 rfl ⟨Nat.le_of_ble_eq_true rfl, Nat.le_of_ble_eq_true rfl⟩ H

def X10_attendFor_B20 (a0 : Nat) (a1 : Int32) (s0 : Nat) (s1 : Int32) (h : Hp) : Option (Int32 × Hp) :=
  X10_attendFor_B21 a0 a1 s0 s1 0 h
theorem X10_attendFor_B20_ok {hh h' : Hp} {r : Int32}  (a0 : Nat) (a1 : Int32) (s0 : Nat) (s1 : Int32) (h : Hp) (H : X10_attendFor_B20 a0 a1 s0 s1 h = some (r, h')) : Go (PM M_X10_attendFor hh (some (.int r)) h') M_X10_attendFor 20 [some (.ref a0), some (.int a1)] [.int s1, .ref s0] h 0 0 := by
  unfold X10_attendFor_B20 at H
  refine go_iconst (pc := 20) (v := 0) dX10_attendFor_20 (by decide) ?_
  exact Go.weak (L' := [some (.ref a0), some (.int a1)]) ⟨rfl, ⟨rfl, trivial⟩⟩ (X10_attendFor_B21_ok a0 a1 s0 s1 0 h H)

def X10_attendFor (a0 : Nat) (a1 : Int32) (h : Hp) : Option (Int32 × Hp) :=
  (gI h a0 10 11).bind fun v1 =>
  if a1 < 0 then (
    X10_attendFor_B20 a0 a1 a0 v1 h)
  else (
    if 999 < a1 then (
      X10_attendFor_B20 a0 a1 a0 v1 h)
    else (
      X10_attendFor_B21 a0 a1 a0 v1 1 h))
theorem X10_attendFor_ok {a0 : Nat} {a1 : Int32} {h h' : Hp} {r : Int32} (H : X10_attendFor a0 a1 h = some (r, h')) : Con M_X10_attendFor [.ref a0, .int a1] h (some (.int r)) h' := by
  refine con_of_go (by decide) 0 (L := [some (.ref a0), some (.int a1)]) rfl (Nat.le_of_ble_eq_true rfl) ?_
  unfold X10_attendFor at H
  refine go_aload_n (pc := 0) dX10_attendFor_0 rfl rfl ?_
  refine go_aload_n (pc := 1) dX10_attendFor_1 rfl rfl ?_
  refine go_getI (pc := 2) dX10_attendFor_2 fl_X10_144 H (fun v1 H => ?_)
  refine go_iload_n (pc := 5) dX10_attendFor_5 rfl rfl ?_
  refine go_if_lt (pc := 6) (tgt := 20) dX10_attendFor_6 (by decide) H (fun H => ?_) (fun H => ?_)
  · exact Go.weak (L' := [some (.ref a0), some (.int a1)]) ⟨rfl, ⟨rfl, trivial⟩⟩ (X10_attendFor_B20_ok a0 a1 a0 v1 h H)
  · refine go_iload_n (pc := 9) dX10_attendFor_9 rfl rfl ?_
    refine go_sipush (pc := 10) (v := 999) dX10_attendFor_10 (by decide) ?_
    refine go_icmp_gt (pc := 13) (tgt := 20) dX10_attendFor_13 (by decide) H (fun H => ?_) (fun H => ?_)
    · exact Go.weak (L' := [some (.ref a0), some (.int a1)]) ⟨rfl, ⟨rfl, trivial⟩⟩ (X10_attendFor_B20_ok a0 a1 a0 v1 h H)
    · refine go_iconst (pc := 16) (v := 1) dX10_attendFor_16 (by decide) ?_
      refine go_goto (pc := 17) (tgt := 21) dX10_attendFor_17 (by decide) ?_
      exact Go.weak (L' := [some (.ref a0), some (.int a1)]) ⟨rfl, ⟨rfl, trivial⟩⟩ (X10_attendFor_B21_ok a0 a1 a0 v1 1 h H)

def M_X10_stolenIf : MD := (yX10_stolenIf, cX10_stolenIf, 2, (some .int), 5, 116, 0, 0)
theorem cv_X10_stolenIf : CVo M_X10_stolenIf 1 10 := ⟨⟨wd_1007, wd_109, ⟨by decide, by decide⟩, by decide +kernel⟩, wd_1005, wd_1006, _, rfl, rfl⟩
def X10_stolenIf_B30 (a0 : Nat) (a1 : Int32) (s0 : Nat) (s1 : Int32) (s2 : Int32) (h : Hp) : Option (Int32 × Hp) :=
  bd (X10_whyNot s1 s2 h) fun v202 h201 =>
  cV h201 s0 10 (X10_isRefused s0 v202 h201) fun v204 h203 =>
  if v204 = 0 then (
    (gR h203 a0 10 6).bind fun v205 =>
    (gR h203 a0 10 2).bind fun v206 =>
    cV h203 v205 1 (X1_stolenWith v205 v206 a1 h203) fun v208 h207 =>
    some (v208, h207))
  else (
    some ((-1), h203))
theorem X10_stolenIf_B30_ok {hh h' : Hp} {r : Int32}  (a0 : Nat) (a1 : Int32) (s0 : Nat) (s1 : Int32) (s2 : Int32) (h : Hp) (H : X10_stolenIf_B30 a0 a1 s0 s1 s2 h = some (r, h')) : Go (PM M_X10_stolenIf hh (some (.int r)) h') M_X10_stolenIf 30 [some (.ref a0), some (.int a1)] [.int s2, .int s1, .ref s0] h 0 0 := by
  unfold X10_stolenIf_B30 at H
  refine go_cSi (pc := 30) (Mz := M_X10_whyNot) (as := [.int s1, .int s2]) (st := [.ref s0]) dX10_stolenIf_30 wd_798 cs_X10_whyNot X10_whyNot_ok rfl rfl ⟨Nat.le_of_ble_eq_true rfl, Nat.le_of_ble_eq_true rfl⟩ (Nat.le_of_ble_eq_true rfl) ⟨rfl, rfl⟩ ⟨Nat.le_of_ble_eq_true rfl, Nat.le_of_ble_eq_true rfl⟩ H (fun v202 h201 H => ?_)
  refine go_cVi (pc := 33) (Mz := M_X10_isRefused) (as := [.int v202]) (a := s0) (st := []) dX10_stolenIf_33 wd_511 cv_X10_isRefused X10_isRefused_ok rfl rfl ⟨Nat.le_of_ble_eq_true rfl, Nat.le_of_ble_eq_true rfl⟩ (Nat.le_of_ble_eq_true rfl) ⟨rfl, rfl⟩ ⟨Nat.le_of_ble_eq_true rfl, Nat.le_of_ble_eq_true rfl⟩ H (fun v204 h203 H => ?_)
  refine go_if_eq (pc := 36) (tgt := 41) dX10_stolenIf_36 (by decide) H (fun H => ?_) (fun H => ?_)
  · refine go_aload_n (pc := 41) dX10_stolenIf_41 rfl rfl ?_
    refine go_getR (pc := 42) dX10_stolenIf_42 fl_X10_64 H (fun v205 H => ?_)
    refine go_aload_n (pc := 45) dX10_stolenIf_45 rfl rfl ?_
    refine go_getR (pc := 46) dX10_stolenIf_46 fl_X10_35 H (fun v206 H => ?_)
    refine go_iload_n (pc := 49) dX10_stolenIf_49 rfl rfl ?_
    refine go_cVi (pc := 50) (Mz := M_X1_stolenWith) (as := [.ref v206, .int a1]) (a := v205) (st := []) dX10_stolenIf_50 wd_1008 cv_X1_stolenWith X1_stolenWith_ok rfl rfl ⟨Nat.le_of_ble_eq_true rfl, Nat.le_of_ble_eq_true rfl⟩ (Nat.le_of_ble_eq_true rfl) ⟨rfl, rfl⟩ ⟨Nat.le_of_ble_eq_true rfl, Nat.le_of_ble_eq_true rfl⟩ H (fun v208 h207 H => ?_)
    exact go_iret (pc := 53) dX10_stolenIf_53 rfl ⟨Nat.le_of_ble_eq_true rfl, Nat.le_of_ble_eq_true rfl⟩ H
  · refine go_iconst (pc := 39) (v := (-1)) dX10_stolenIf_39 (by decide) ?_
    exact go_iret (pc := 40) dX10_stolenIf_40 rfl ⟨Nat.le_of_ble_eq_true rfl, Nat.le_of_ble_eq_true rfl⟩ H

def X10_stolenIf_B29 (a0 : Nat) (a1 : Int32) (s0 : Nat) (s1 : Int32) (h : Hp) : Option (Int32 × Hp) :=
  X10_stolenIf_B30 a0 a1 s0 s1 0 h
theorem X10_stolenIf_B29_ok {hh h' : Hp} {r : Int32}  (a0 : Nat) (a1 : Int32) (s0 : Nat) (s1 : Int32) (h : Hp) (H : X10_stolenIf_B29 a0 a1 s0 s1 h = some (r, h')) : Go (PM M_X10_stolenIf hh (some (.int r)) h') M_X10_stolenIf 29 [some (.ref a0), some (.int a1)] [.int s1, .ref s0] h 0 0 := by
  unfold X10_stolenIf_B29 at H
  refine go_iconst (pc := 29) (v := 0) dX10_stolenIf_29 (by decide) ?_
  exact Go.weak (L' := [some (.ref a0), some (.int a1)]) ⟨rfl, ⟨rfl, trivial⟩⟩ (X10_stolenIf_B30_ok a0 a1 s0 s1 0 h H)

def X10_stolenIf (a0 : Nat) (a1 : Int32) (h : Hp) : Option (Int32 × Hp) :=
  (gI h a0 10 11).bind fun v1 =>
  if a1 < 0 then (
    X10_stolenIf_B29 a0 a1 a0 v1 h)
  else (
    (gR h a0 10 9).bind fun v2 =>
    (gR h v2 9 2).bind fun v3 =>
    (gI h v3 8 3).bind fun v4 =>
    if ((1 : Int32) <<< (v4 &&& 31)) ≤ a1 then (
      X10_stolenIf_B29 a0 a1 a0 v1 h)
    else (
      X10_stolenIf_B30 a0 a1 a0 v1 1 h))
theorem X10_stolenIf_ok {a0 : Nat} {a1 : Int32} {h h' : Hp} {r : Int32} (H : X10_stolenIf a0 a1 h = some (r, h')) : Con M_X10_stolenIf [.ref a0, .int a1] h (some (.int r)) h' := by
  refine con_of_go (by decide) 0 (L := [some (.ref a0), some (.int a1)]) rfl (Nat.le_of_ble_eq_true rfl) ?_
  unfold X10_stolenIf at H
  refine go_aload_n (pc := 0) dX10_stolenIf_0 rfl rfl ?_
  refine go_aload_n (pc := 1) dX10_stolenIf_1 rfl rfl ?_
  refine go_getI (pc := 2) dX10_stolenIf_2 fl_X10_144 H (fun v1 H => ?_)
  refine go_iload_n (pc := 5) dX10_stolenIf_5 rfl rfl ?_
  refine go_if_lt (pc := 6) (tgt := 29) dX10_stolenIf_6 (by decide) H (fun H => ?_) (fun H => ?_)
  · exact Go.weak (L' := [some (.ref a0), some (.int a1)]) ⟨rfl, ⟨rfl, trivial⟩⟩ (X10_stolenIf_B29_ok a0 a1 a0 v1 h H)
  · refine go_iload_n (pc := 9) dX10_stolenIf_9 rfl rfl ?_
    refine go_iconst (pc := 10) (v := 1) dX10_stolenIf_10 (by decide) ?_
    refine go_aload_n (pc := 11) dX10_stolenIf_11 rfl rfl ?_
    refine go_getR (pc := 12) dX10_stolenIf_12 fl_X10_16 H (fun v2 H => ?_)
    refine go_getR (pc := 15) dX10_stolenIf_15 fl_X10_104 H (fun v3 H => ?_)
    refine go_getI (pc := 18) dX10_stolenIf_18 fl_X10_108 H (fun v4 H => ?_)
    refine go_ishl (pc := 21) dX10_stolenIf_21 ?_
    refine go_icmp_ge (pc := 22) (tgt := 29) dX10_stolenIf_22 (by decide) H (fun H => ?_) (fun H => ?_)
    · exact Go.weak (L' := [some (.ref a0), some (.int a1)]) ⟨rfl, ⟨rfl, trivial⟩⟩ (X10_stolenIf_B29_ok a0 a1 a0 v1 h H)
    · refine go_iconst (pc := 25) (v := 1) dX10_stolenIf_25 (by decide) ?_
      refine go_goto (pc := 26) (tgt := 30) dX10_stolenIf_26 (by decide) ?_
      exact Go.weak (L' := [some (.ref a0), some (.int a1)]) ⟨rfl, ⟨rfl, trivial⟩⟩ (X10_stolenIf_B30_ok a0 a1 a0 v1 1 h H)

def M_X10_lookFirst : MD := (yX10_lookFirst, cX10_lookFirst, 1, (some .int), 5, 117, 0, 0)
theorem cv_X10_lookFirst : CVo M_X10_lookFirst 0 10 := ⟨⟨wd_1012, wd_109, ⟨by decide, by decide⟩, by decide +kernel⟩, wd_1010, wd_1011, _, rfl, rfl⟩
def X10_lookFirst (a0 : Nat) (h : Hp) : Option (Int32 × Hp) :=
  cV h a0 10 (X10_whyNotUnderWay a0 h) fun v2 h1 =>
  cV h1 a0 10 (X10_isRefused a0 v2 h1) fun v4 h3 =>
  if v4 = 0 then (
    (gR h3 a0 10 6).bind fun v5 =>
    (gR h3 a0 10 2).bind fun v6 =>
    cV h3 v5 1 (X1_bestOne v5 v6 h3) fun v8 h7 =>
    some (v8, h7))
  else (
    some ((-1), h3))
theorem X10_lookFirst_ok {a0 : Nat} {h h' : Hp} {r : Int32} (H : X10_lookFirst a0 h = some (r, h')) : Con M_X10_lookFirst [.ref a0] h (some (.int r)) h' := by
  refine con_of_go (by decide) 0 (L := [some (.ref a0)]) rfl (Nat.le_of_ble_eq_true rfl) ?_
  unfold X10_lookFirst at H
  refine go_aload_n (pc := 0) dX10_lookFirst_0 rfl rfl ?_
  refine go_aload_n (pc := 1) dX10_lookFirst_1 rfl rfl ?_
  refine go_cVi (pc := 2) (Mz := M_X10_whyNotUnderWay) (as := []) (a := a0) (st := [.ref a0]) dX10_lookFirst_2 wd_831 cv_X10_whyNotUnderWay X10_whyNotUnderWay_ok rfl rfl ⟨Nat.le_of_ble_eq_true rfl, Nat.le_of_ble_eq_true rfl⟩ (Nat.le_of_ble_eq_true rfl) ⟨rfl, rfl⟩ ⟨Nat.le_of_ble_eq_true rfl, Nat.le_of_ble_eq_true rfl⟩ H (fun v2 h1 H => ?_)
  refine go_cVi (pc := 5) (Mz := M_X10_isRefused) (as := [.int v2]) (a := a0) (st := []) dX10_lookFirst_5 wd_511 cv_X10_isRefused X10_isRefused_ok rfl rfl ⟨Nat.le_of_ble_eq_true rfl, Nat.le_of_ble_eq_true rfl⟩ (Nat.le_of_ble_eq_true rfl) ⟨rfl, rfl⟩ ⟨Nat.le_of_ble_eq_true rfl, Nat.le_of_ble_eq_true rfl⟩ H (fun v4 h3 H => ?_)
  refine go_if_eq (pc := 8) (tgt := 13) dX10_lookFirst_8 (by decide) H (fun H => ?_) (fun H => ?_)
  · refine go_aload_n (pc := 13) dX10_lookFirst_13 rfl rfl ?_
    refine go_getR (pc := 14) dX10_lookFirst_14 fl_X10_64 H (fun v5 H => ?_)
    refine go_aload_n (pc := 17) dX10_lookFirst_17 rfl rfl ?_
    refine go_getR (pc := 18) dX10_lookFirst_18 fl_X10_35 H (fun v6 H => ?_)
    refine go_cVi (pc := 21) (Mz := M_X1_bestOne) (as := [.ref v6]) (a := v5) (st := []) dX10_lookFirst_21 wd_1013 cv_X1_bestOne X1_bestOne_ok rfl rfl ⟨Nat.le_of_ble_eq_true rfl, Nat.le_of_ble_eq_true rfl⟩ (Nat.le_of_ble_eq_true rfl) ⟨rfl, rfl⟩ ⟨Nat.le_of_ble_eq_true rfl, Nat.le_of_ble_eq_true rfl⟩ H (fun v8 h7 H => ?_)
    exact go_iret (pc := 24) dX10_lookFirst_24 rfl ⟨Nat.le_of_ble_eq_true rfl, Nat.le_of_ble_eq_true rfl⟩ H
  · refine go_iconst (pc := 11) (v := (-1)) dX10_lookFirst_11 (by decide) ?_
    exact go_iret (pc := 12) dX10_lookFirst_12 rfl ⟨Nat.le_of_ble_eq_true rfl, Nat.le_of_ble_eq_true rfl⟩ H

def M_X10_change : MD := (yX10_change, cX10_change, 3, (some .int), 5, 120, 0, 0)
theorem cv_X10_change : CVo M_X10_change 0 10 := ⟨⟨wd_1020, wd_109, ⟨by decide, by decide⟩, by decide +kernel⟩, wd_1018, wd_1019, _, rfl, rfl⟩
def X10_change_L31_s (rc15 : Nat → Int32 → Hp → Option (Int32 × Hp)) (rc31 : Nat → Int32 → Int32 → Hp → Option (Int32 × Hp)) (a0 : Nat) (a1 : Int32) (a2 : Int32) (h : Hp) : Option (Int32 × Hp) :=
  if 4 ≤ a2 then (
    rc15 a0 (a1 + 1) h)
  else (
    (gR h a0 10 7).bind fun v201 =>
    (gR h a0 10 2).bind fun v202 =>
    cV h v201 3 (X3_isSafeBy v201 v202 a1 a2 h) fun v204 h203 =>
    if v204 = 0 then (
      rc31 a0 a1 (a2 + 1) h203)
    else (
      some ((10 * a1) + a2, h203)))
def X10_change_L31 (rc15 : Nat → Int32 → Hp → Option (Int32 × Hp)) (q : Nat) : Nat → Int32 → Int32 → Hp → Option (Int32 × Hp) := loopN (fun _ _ _ _ => none) (X10_change_L31_s rc15) q
theorem X10_change_L31_ok {hh h' : Hp} {r : Int32}  (rc15 : Nat → Int32 → Hp → Option (Int32 × Hp)) (hrc15 : ∀ (a0 : Nat) (a1 : Int32) (h : Hp), rc15 a0 a1 h = some (r, h') → Go (PM M_X10_change hh (some (.int r)) h') M_X10_change 15 [some (.ref a0), some (.int a1), none] [] h 0 0) : ∀ (q : Nat) (a0 : Nat) (a1 : Int32) (a2 : Int32) (h : Hp), X10_change_L31 rc15 q a0 a1 a2 h = some (r, h') → Go (PM M_X10_change hh (some (.int r)) h') M_X10_change 31 [some (.ref a0), some (.int a1), some (.int a2)] [] h 0 0 := by
  intro q
  induction q with
  | zero => intro a0 a1 a2 h H; cases H
  | succ q hrc31 =>
    intro a0 a1 a2 h H
    replace H : X10_change_L31_s rc15 (X10_change_L31 rc15 q) a0 a1 a2 h = some (r, h') := H
    unfold X10_change_L31_s at H
    refine go_iload_n (pc := 31) dX10_change_31 rfl rfl ?_
    refine go_iconst (pc := 32) (v := 4) dX10_change_32 (by decide) ?_
    refine go_icmp_ge (pc := 33) (tgt := 65) dX10_change_33 (by decide) H (fun H => ?_) (fun H => ?_)
    · refine go_iinc (pc := 65) (v := a1 + 1) (L' := [some (.ref a0), some (.int (a1 + 1)), some (.int a2)]) dX10_change_65 rfl rfl (Nat.le_of_ble_eq_true rfl) rfl ?_
      refine go_goto (pc := 68) (tgt := 15) dX10_change_68 (by decide) ?_
      exact Go.weak (L' := [some (.ref a0), some (.int (a1 + 1)), none]) ⟨rfl, ⟨rfl, trivial⟩⟩ (hrc15 a0 (a1 + 1) h H)
    · refine go_aload_n (pc := 36) dX10_change_36 rfl rfl ?_
      refine go_getR (pc := 37) dX10_change_37 fl_X10_71 H (fun v201 H => ?_)
      refine go_aload_n (pc := 40) dX10_change_40 rfl rfl ?_
      refine go_getR (pc := 41) dX10_change_41 fl_X10_35 H (fun v202 H => ?_)
      refine go_iload_n (pc := 44) dX10_change_44 rfl rfl ?_
      refine go_iload_n (pc := 45) dX10_change_45 rfl rfl ?_
      refine go_cVi (pc := 46) (Mz := M_X3_isSafeBy) (as := [.ref v202, .int a1, .int a2]) (a := v201) (st := []) dX10_change_46 wd_1021 cv_X3_isSafeBy X3_isSafeBy_ok rfl rfl ⟨Nat.le_of_ble_eq_true rfl, Nat.le_of_ble_eq_true rfl⟩ (Nat.le_of_ble_eq_true rfl) ⟨rfl, rfl⟩ ⟨Nat.le_of_ble_eq_true rfl, Nat.le_of_ble_eq_true rfl⟩ H (fun v204 h203 H => ?_)
      refine go_if_eq (pc := 49) (tgt := 59) dX10_change_49 (by decide) H (fun H => ?_) (fun H => ?_)
      · refine go_iinc (pc := 59) (v := a2 + 1) (L' := [some (.ref a0), some (.int a1), some (.int (a2 + 1))]) dX10_change_59 rfl rfl (Nat.le_of_ble_eq_true rfl) rfl ?_
        refine go_goto (pc := 62) (tgt := 31) dX10_change_62 (by decide) ?_
        exact Go.weak (L' := [some (.ref a0), some (.int a1), some (.int (a2 + 1))]) ⟨rfl, ⟨rfl, ⟨rfl, trivial⟩⟩⟩ (hrc31 a0 a1 (a2 + 1) h203 H)
      · refine go_bipush (pc := 52) (v := 10) dX10_change_52 (by decide) ?_
        refine go_iload_n (pc := 54) dX10_change_54 rfl rfl ?_
        refine go_imul (pc := 55) dX10_change_55 ?_
        refine go_iload_n (pc := 56) dX10_change_56 rfl rfl ?_
        refine go_iadd (pc := 57) dX10_change_57 ?_
        exact go_iret (pc := 58) dX10_change_58 rfl ⟨Nat.le_of_ble_eq_true rfl, Nat.le_of_ble_eq_true rfl⟩ H

def X10_change_L15_s (rc15 : Nat → Int32 → Hp → Option (Int32 × Hp)) (a0 : Nat) (a1 : Int32) (h : Hp) : Option (Int32 × Hp) :=
  (gR h a0 10 9).bind fun v101 =>
  (gR h v101 9 2).bind fun v102 =>
  (gI h v102 8 3).bind fun v103 =>
  if v103 ≤ a1 then (
    some ((-2), h))
  else (
    X10_change_L31 rc15 5000 a0 a1 0 h)
def X10_change_L15 (q : Nat) : Nat → Int32 → Hp → Option (Int32 × Hp) := loopN (fun _ _ _ => none) (X10_change_L15_s) q
theorem X10_change_L15_ok {hh h' : Hp} {r : Int32}  : ∀ (q : Nat) (a0 : Nat) (a1 : Int32) (h : Hp), X10_change_L15 q a0 a1 h = some (r, h') → Go (PM M_X10_change hh (some (.int r)) h') M_X10_change 15 [some (.ref a0), some (.int a1), none] [] h 0 0 := by
  intro q
  induction q with
  | zero => intro a0 a1 h H; cases H
  | succ q hrc15 =>
    intro a0 a1 h H
    replace H : X10_change_L15_s (X10_change_L15 q) a0 a1 h = some (r, h') := H
    unfold X10_change_L15_s at H
    refine go_iload_n (pc := 15) dX10_change_15 rfl rfl ?_
    refine go_aload_n (pc := 16) dX10_change_16 rfl rfl ?_
    refine go_getR (pc := 17) dX10_change_17 fl_X10_16 H (fun v101 H => ?_)
    refine go_getR (pc := 20) dX10_change_20 fl_X10_104 H (fun v102 H => ?_)
    refine go_getI (pc := 23) dX10_change_23 fl_X10_108 H (fun v103 H => ?_)
    refine go_icmp_ge (pc := 26) (tgt := 71) dX10_change_26 (by decide) H (fun H => ?_) (fun H => ?_)
    · refine go_bipush (pc := 71) (v := (-2)) dX10_change_71 (by decide) ?_
      exact go_iret (pc := 73) dX10_change_73 rfl ⟨Nat.le_of_ble_eq_true rfl, Nat.le_of_ble_eq_true rfl⟩ H
    · refine go_iconst (pc := 29) (v := 0) dX10_change_29 (by decide) ?_
      refine go_istore_n (pc := 30) (L' := [some (.ref a0), some (.int a1), some (.int 0)]) dX10_change_30 rfl (Nat.le_of_ble_eq_true rfl) rfl ?_
      exact Go.weak (L' := [some (.ref a0), some (.int a1), some (.int 0)]) ⟨rfl, ⟨rfl, ⟨rfl, trivial⟩⟩⟩ (X10_change_L31_ok _ hrc15 5000 a0 a1 0 h H)

def X10_change (a0 : Nat) (h : Hp) : Option (Int32 × Hp) :=
  cV h a0 10 (X10_whyNotUnderWay a0 h) fun v2 h1 =>
  cV h1 a0 10 (X10_isRefused a0 v2 h1) fun v4 h3 =>
  if v4 = 0 then (
    X10_change_L15 5000 a0 0 h3)
  else (
    some ((-1), h3))
theorem X10_change_ok {a0 : Nat} {h h' : Hp} {r : Int32} (H : X10_change a0 h = some (r, h')) : Con M_X10_change [.ref a0] h (some (.int r)) h' := by
  refine con_of_go (by decide) 2 (L := [some (.ref a0), none, none]) rfl (Nat.le_of_ble_eq_true rfl) ?_
  unfold X10_change at H
  refine go_aload_n (pc := 0) dX10_change_0 rfl rfl ?_
  refine go_aload_n (pc := 1) dX10_change_1 rfl rfl ?_
  refine go_cVi (pc := 2) (Mz := M_X10_whyNotUnderWay) (as := []) (a := a0) (st := [.ref a0]) dX10_change_2 wd_831 cv_X10_whyNotUnderWay X10_whyNotUnderWay_ok rfl rfl ⟨Nat.le_of_ble_eq_true rfl, Nat.le_of_ble_eq_true rfl⟩ (Nat.le_of_ble_eq_true rfl) ⟨rfl, rfl⟩ ⟨Nat.le_of_ble_eq_true rfl, Nat.le_of_ble_eq_true rfl⟩ H (fun v2 h1 H => ?_)
  refine go_cVi (pc := 5) (Mz := M_X10_isRefused) (as := [.int v2]) (a := a0) (st := []) dX10_change_5 wd_511 cv_X10_isRefused X10_isRefused_ok rfl rfl ⟨Nat.le_of_ble_eq_true rfl, Nat.le_of_ble_eq_true rfl⟩ (Nat.le_of_ble_eq_true rfl) ⟨rfl, rfl⟩ ⟨Nat.le_of_ble_eq_true rfl, Nat.le_of_ble_eq_true rfl⟩ H (fun v4 h3 H => ?_)
  refine go_if_eq (pc := 8) (tgt := 13) dX10_change_8 (by decide) H (fun H => ?_) (fun H => ?_)
  · refine go_iconst (pc := 13) (v := 0) dX10_change_13 (by decide) ?_
    refine go_istore_n (pc := 14) (L' := [some (.ref a0), some (.int 0), none]) dX10_change_14 rfl (Nat.le_of_ble_eq_true rfl) rfl ?_
    exact Go.weak (L' := [some (.ref a0), some (.int 0), none]) ⟨rfl, ⟨rfl, trivial⟩⟩ (X10_change_L15_ok 5000 a0 0 h3 H)
  · refine go_iconst (pc := 11) (v := (-1)) dX10_change_11 (by decide) ?_
    exact go_iret (pc := 12) dX10_change_12 rfl ⟨Nat.le_of_ble_eq_true rfl, Nat.le_of_ble_eq_true rfl⟩ H

def M_X10_isCourse : MD := (yX10_isCourse, cX10_isCourse, 1, (some .boolean), 0, 0, 0, 0)
theorem cs_X10_isCourse : CSo M_X10_isCourse 1 := ⟨⟨wd_1031, wd_109, ⟨by decide, by decide⟩, by decide +kernel⟩, wd_1030⟩
def X10_isCourse (a0 : Int32) (h : Hp) : Option (Int32 × Hp) :=
  if a0 < 0 then (
    rZ 0 h)
  else (
    if 4 ≤ a0 then (
      rZ 0 h)
    else (
      rZ 1 h))
theorem X10_isCourse_ok {a0 : Int32} {h h' : Hp} {r : Int32} (H : X10_isCourse a0 h = some (r, h')) : Con M_X10_isCourse [.int a0] h (some (.int r)) h' := by
  refine con_of_go (by decide) 0 (L := [some (.int a0)]) rfl (Nat.le_of_ble_eq_true rfl) ?_
  unfold X10_isCourse at H
  refine go_iload_n (pc := 0) dX10_isCourse_0 rfl rfl ?_
  refine go_if_lt (pc := 1) (tgt := 13) dX10_isCourse_1 (by decide) H (fun H => ?_) (fun H => ?_)
  · refine go_iconst (pc := 13) (v := 0) dX10_isCourse_13 (by decide) ?_
    exact go_zret (pc := 14) dX10_isCourse_14 rfl ⟨Nat.le_of_ble_eq_true rfl, Nat.le_of_ble_eq_true rfl⟩ H
  · refine go_iload_n (pc := 4) dX10_isCourse_4 rfl rfl ?_
    refine go_iconst (pc := 5) (v := 4) dX10_isCourse_5 (by decide) ?_
    refine go_icmp_ge (pc := 6) (tgt := 13) dX10_isCourse_6 (by decide) H (fun H => ?_) (fun H => ?_)
    · refine go_iconst (pc := 13) (v := 0) dX10_isCourse_13 (by decide) ?_
      exact go_zret (pc := 14) dX10_isCourse_14 rfl ⟨Nat.le_of_ble_eq_true rfl, Nat.le_of_ble_eq_true rfl⟩ H
    · refine go_iconst (pc := 9) (v := 1) dX10_isCourse_9 (by decide) ?_
      refine go_goto (pc := 10) (tgt := 14) dX10_isCourse_10 (by decide) ?_
      exact go_zret (pc := 14) dX10_isCourse_14 rfl ⟨Nat.le_of_ble_eq_true rfl, Nat.le_of_ble_eq_true rfl⟩ H

def M_X10_strikesIf : MD := (yX10_strikesIf, cX10_strikesIf, 4, (some .int), 4, 95, 0, 0)
theorem cv_X10_strikesIf : CVo M_X10_strikesIf 2 10 := ⟨⟨wd_1028, wd_109, ⟨by decide, by decide⟩, by decide +kernel⟩, wd_1026, wd_1027, _, rfl, rfl⟩
def X10_strikesIf (a0 : Nat) (a1 : Int32) (a2 : Int32) (h : Hp) : Option (Int32 × Hp) :=
  cV h a0 10 (X10_hasWatch a0 a1 h) fun v2 h1 =>
  bd (X10_isCourse a2 h1) fun v4 h3 =>
  bd (X10_whyNot v2 v4 h3) fun v6 h5 =>
  cV h5 a0 10 (X10_isRefused a0 v6 h5) fun v8 h7 =>
  if v8 = 0 then (
    (gR h7 a0 10 5).bind fun v9 =>
    (gR h7 a0 10 2).bind fun v10 =>
    cV h7 v9 6 (X6_trialOf v9 v10 h7) fun v12 h11 =>
    (gR h11 v12 4 0).bind fun v13 =>
    cVv h11 v13 8 (X8_put v13 a1 1 a2 h11) fun h14 =>
    (gR h14 a0 10 5).bind fun v15 =>
    cVv h14 v15 6 (X6_reckon v15 v12 h14) fun h16 =>
    (gR h16 a0 10 5).bind fun v17 =>
    cV h16 v17 6 (X6_firstStrike v17 v12 0 h16) fun v19 h18 =>
    some (v19, h18))
  else (
    some ((-1), h7))
theorem X10_strikesIf_ok {a0 : Nat} {a1 : Int32} {a2 : Int32} {h h' : Hp} {r : Int32} (H : X10_strikesIf a0 a1 a2 h = some (r, h')) : Con M_X10_strikesIf [.ref a0, .int a1, .int a2] h (some (.int r)) h' := by
  refine con_of_go (by decide) 1 (L := [some (.ref a0), some (.int a1), some (.int a2), none]) rfl (Nat.le_of_ble_eq_true rfl) ?_
  unfold X10_strikesIf at H
  refine go_aload_n (pc := 0) dX10_strikesIf_0 rfl rfl ?_
  refine go_aload_n (pc := 1) dX10_strikesIf_1 rfl rfl ?_
  refine go_iload_n (pc := 2) dX10_strikesIf_2 rfl rfl ?_
  refine go_cVi (pc := 3) (Mz := M_X10_hasWatch) (as := [.int a1]) (a := a0) (st := [.ref a0]) dX10_strikesIf_3 wd_749 cv_X10_hasWatch X10_hasWatch_ok rfl rfl ⟨Nat.le_of_ble_eq_true rfl, Nat.le_of_ble_eq_true rfl⟩ (Nat.le_of_ble_eq_true rfl) ⟨rfl, rfl⟩ ⟨Nat.le_of_ble_eq_true rfl, Nat.le_of_ble_eq_true rfl⟩ H (fun v2 h1 H => ?_)
  refine go_iload_n (pc := 6) dX10_strikesIf_6 rfl rfl ?_
  refine go_cSi (pc := 7) (Mz := M_X10_isCourse) (as := [.int a2]) (st := [.int v2, .ref a0]) dX10_strikesIf_7 wd_1029 cs_X10_isCourse X10_isCourse_ok rfl rfl ⟨Nat.le_of_ble_eq_true rfl, Nat.le_of_ble_eq_true rfl⟩ (Nat.le_of_ble_eq_true rfl) ⟨rfl, rfl⟩ ⟨Nat.le_of_ble_eq_true rfl, Nat.le_of_ble_eq_true rfl⟩ H (fun v4 h3 H => ?_)
  refine go_cSi (pc := 10) (Mz := M_X10_whyNot) (as := [.int v2, .int v4]) (st := [.ref a0]) dX10_strikesIf_10 wd_798 cs_X10_whyNot X10_whyNot_ok rfl rfl ⟨Nat.le_of_ble_eq_true rfl, Nat.le_of_ble_eq_true rfl⟩ (Nat.le_of_ble_eq_true rfl) ⟨rfl, rfl⟩ ⟨Nat.le_of_ble_eq_true rfl, Nat.le_of_ble_eq_true rfl⟩ H (fun v6 h5 H => ?_)
  refine go_cVi (pc := 13) (Mz := M_X10_isRefused) (as := [.int v6]) (a := a0) (st := []) dX10_strikesIf_13 wd_511 cv_X10_isRefused X10_isRefused_ok rfl rfl ⟨Nat.le_of_ble_eq_true rfl, Nat.le_of_ble_eq_true rfl⟩ (Nat.le_of_ble_eq_true rfl) ⟨rfl, rfl⟩ ⟨Nat.le_of_ble_eq_true rfl, Nat.le_of_ble_eq_true rfl⟩ H (fun v8 h7 H => ?_)
  refine go_if_eq (pc := 16) (tgt := 21) dX10_strikesIf_16 (by decide) H (fun H => ?_) (fun H => ?_)
  · refine go_aload_n (pc := 21) dX10_strikesIf_21 rfl rfl ?_
    refine go_getR (pc := 22) dX10_strikesIf_22 fl_X10_55 H (fun v9 H => ?_)
    refine go_aload_n (pc := 25) dX10_strikesIf_25 rfl rfl ?_
    refine go_getR (pc := 26) dX10_strikesIf_26 fl_X10_35 H (fun v10 H => ?_)
    refine go_cVr (pc := 29) (Mz := M_X6_trialOf) (as := [.ref v10]) (a := v9) (st := []) dX10_strikesIf_29 wd_1032 cv_X6_trialOf X6_trialOf_ok rfl rfl ⟨Nat.le_of_ble_eq_true rfl, Nat.le_of_ble_eq_true rfl⟩ (Nat.le_of_ble_eq_true rfl) ⟨rfl, rfl⟩ ⟨Nat.le_of_ble_eq_true rfl, Nat.le_of_ble_eq_true rfl⟩ H (fun v12 h11 H => ?_)
    refine go_astore_n (pc := 32) (L' := [some (.ref a0), some (.int a1), some (.int a2), some (.ref v12)]) dX10_strikesIf_32 rfl (Nat.le_of_ble_eq_true rfl) rfl ?_
    refine go_aload_n (pc := 33) dX10_strikesIf_33 rfl rfl ?_
    refine go_getR (pc := 34) dX10_strikesIf_34 fl_X10_122 H (fun v13 H => ?_)
    refine go_iload_n (pc := 37) dX10_strikesIf_37 rfl rfl ?_
    refine go_iconst (pc := 38) (v := 1) dX10_strikesIf_38 (by decide) ?_
    refine go_iload_n (pc := 39) dX10_strikesIf_39 rfl rfl ?_
    refine go_cVv (pc := 40) (Mz := M_X8_put) (as := [.int a1, .int 1, .int a2]) (a := v13) (st := []) dX10_strikesIf_40 wd_1033 cv_X8_put X8_put_ok rfl rfl ⟨Nat.le_of_ble_eq_true rfl, Nat.le_of_ble_eq_true rfl⟩ (Nat.le_of_ble_eq_true rfl) ⟨rfl, rfl⟩ ⟨Nat.le_of_ble_eq_true rfl, Nat.le_of_ble_eq_true rfl⟩ H (fun h14 H => ?_)
    refine go_aload_n (pc := 43) dX10_strikesIf_43 rfl rfl ?_
    refine go_getR (pc := 44) dX10_strikesIf_44 fl_X10_55 H (fun v15 H => ?_)
    refine go_aload_n (pc := 47) dX10_strikesIf_47 rfl rfl ?_
    refine go_cVv (pc := 48) (Mz := M_X6_reckon) (as := [.ref v12]) (a := v15) (st := []) dX10_strikesIf_48 wd_818 cv_X6_reckon X6_reckon_ok rfl rfl ⟨Nat.le_of_ble_eq_true rfl, Nat.le_of_ble_eq_true rfl⟩ (Nat.le_of_ble_eq_true rfl) ⟨rfl, rfl⟩ ⟨Nat.le_of_ble_eq_true rfl, Nat.le_of_ble_eq_true rfl⟩ H (fun h16 H => ?_)
    refine go_aload_n (pc := 51) dX10_strikesIf_51 rfl rfl ?_
    refine go_getR (pc := 52) dX10_strikesIf_52 fl_X10_55 H (fun v17 H => ?_)
    refine go_aload_n (pc := 55) dX10_strikesIf_55 rfl rfl ?_
    refine go_iconst (pc := 56) (v := 0) dX10_strikesIf_56 (by decide) ?_
    refine go_cVi (pc := 57) (Mz := M_X6_firstStrike) (as := [.ref v12, .int 0]) (a := v17) (st := []) dX10_strikesIf_57 wd_914 cv_X6_firstStrike X6_firstStrike_ok rfl rfl ⟨Nat.le_of_ble_eq_true rfl, Nat.le_of_ble_eq_true rfl⟩ (Nat.le_of_ble_eq_true rfl) ⟨rfl, rfl⟩ ⟨Nat.le_of_ble_eq_true rfl, Nat.le_of_ble_eq_true rfl⟩ H (fun v19 h18 H => ?_)
    exact go_iret (pc := 60) dX10_strikesIf_60 rfl ⟨Nat.le_of_ble_eq_true rfl, Nat.le_of_ble_eq_true rfl⟩ H
  · refine go_iconst (pc := 19) (v := (-1)) dX10_strikesIf_19 (by decide) ?_
    exact go_iret (pc := 20) dX10_strikesIf_20 rfl ⟨Nat.le_of_ble_eq_true rfl, Nat.le_of_ble_eq_true rfl⟩ H

def M_X10_relief : MD := (yX10_relief, cX10_relief, 7, (some .int), 3, 71, 0, 0)
theorem cv_X10_relief : CVo M_X10_relief 1 10 := ⟨⟨wd_1037, wd_109, ⟨by decide, by decide⟩, by decide +kernel⟩, wd_1035, wd_1036, _, rfl, rfl⟩
def X10_relief_B98 (rc42 : Nat → Int32 → Nat → Int32 → Int32 → Int32 → Hp → Option (Int32 × Hp)) (a0 : Nat) (a1 : Int32) (a2 : Nat) (a3 : Int32) (a4 : Int32) (a5 : Int32) (h : Hp) : Option (Int32 × Hp) :=
  rc42 a0 a1 a2 a3 a4 (a5 + 1) h
theorem X10_relief_B98_ok {hh h' : Hp} {r : Int32}  (rc42 : Nat → Int32 → Nat → Int32 → Int32 → Int32 → Hp → Option (Int32 × Hp)) (hrc42 : ∀ (a0 : Nat) (a1 : Int32) (a2 : Nat) (a3 : Int32) (a4 : Int32) (a5 : Int32) (h : Hp), rc42 a0 a1 a2 a3 a4 a5 h = some (r, h') → Go (PM M_X10_relief hh (some (.int r)) h') M_X10_relief 42 [some (.ref a0), some (.int a1), some (.ref a2), some (.int a3), some (.int a4), some (.int a5), none] [] h 0 0) (a0 : Nat) (a1 : Int32) (a2 : Nat) (a3 : Int32) (a4 : Int32) (a5 : Int32) (h : Hp) (H : X10_relief_B98 rc42 a0 a1 a2 a3 a4 a5 h = some (r, h')) : Go (PM M_X10_relief hh (some (.int r)) h') M_X10_relief 98 [some (.ref a0), some (.int a1), some (.ref a2), some (.int a3), some (.int a4), some (.int a5), none] [] h 0 0 := by
  unfold X10_relief_B98 at H
  refine go_iinc (pc := 98) (v := a5 + 1) (L' := [some (.ref a0), some (.int a1), some (.ref a2), some (.int a3), some (.int a4), some (.int (a5 + 1)), none]) dX10_relief_98 rfl rfl (Nat.le_of_ble_eq_true rfl) rfl ?_
  refine go_goto (pc := 101) (tgt := 42) dX10_relief_101 (by decide) ?_
  exact Go.weak (L' := [some (.ref a0), some (.int a1), some (.ref a2), some (.int a3), some (.int a4), some (.int (a5 + 1)), none]) ⟨rfl, ⟨rfl, ⟨rfl, ⟨rfl, ⟨rfl, ⟨rfl, trivial⟩⟩⟩⟩⟩⟩ (hrc42 a0 a1 a2 a3 a4 (a5 + 1) h H)

def X10_relief_B91 (rc42 : Nat → Int32 → Nat → Int32 → Int32 → Int32 → Hp → Option (Int32 × Hp)) (a0 : Nat) (a1 : Int32) (a2 : Nat) (a5 : Int32) (a6 : Int32) (h : Hp) : Option (Int32 × Hp) :=
  X10_relief_B98 rc42 a0 a1 a2 a5 a6 a5 h
theorem X10_relief_B91_ok {hh h' : Hp} {r : Int32}  (rc42 : Nat → Int32 → Nat → Int32 → Int32 → Int32 → Hp → Option (Int32 × Hp)) (hrc42 : ∀ (a0 : Nat) (a1 : Int32) (a2 : Nat) (a3 : Int32) (a4 : Int32) (a5 : Int32) (h : Hp), rc42 a0 a1 a2 a3 a4 a5 h = some (r, h') → Go (PM M_X10_relief hh (some (.int r)) h') M_X10_relief 42 [some (.ref a0), some (.int a1), some (.ref a2), some (.int a3), some (.int a4), some (.int a5), none] [] h 0 0) (a0 : Nat) (a1 : Int32) (a2 : Nat) (a5 : Int32) (a6 : Int32) (h : Hp) (H : X10_relief_B91 rc42 a0 a1 a2 a5 a6 h = some (r, h')) : Go (PM M_X10_relief hh (some (.int r)) h') M_X10_relief 91 [some (.ref a0), some (.int a1), some (.ref a2), none, none, some (.int a5), some (.int a6)] [] h 0 0 := by
  unfold X10_relief_B91 at H
  refine go_iload (pc := 91) dX10_relief_91 rfl ?_
  refine go_istore_n (pc := 93) (L' := [some (.ref a0), some (.int a1), some (.ref a2), some (.int a5), none, some (.int a5), some (.int a6)]) dX10_relief_93 rfl (Nat.le_of_ble_eq_true rfl) rfl ?_
  refine go_iload (pc := 94) dX10_relief_94 rfl ?_
  refine go_istore (pc := 96) (L' := [some (.ref a0), some (.int a1), some (.ref a2), some (.int a5), some (.int a6), some (.int a5), some (.int a6)]) dX10_relief_96 (Nat.le_of_ble_eq_true rfl) rfl ?_
  exact Go.weak (L' := [some (.ref a0), some (.int a1), some (.ref a2), some (.int a5), some (.int a6), some (.int a5), none]) ⟨rfl, ⟨rfl, ⟨rfl, ⟨rfl, ⟨rfl, ⟨rfl, trivial⟩⟩⟩⟩⟩⟩ (X10_relief_B98_ok _ hrc42 a0 a1 a2 a5 a6 a5 h H)

def X10_relief_L42_s (rc42 : Nat → Int32 → Nat → Int32 → Int32 → Int32 → Hp → Option (Int32 × Hp)) (a0 : Nat) (a1 : Int32) (a2 : Nat) (a3 : Int32) (a4 : Int32) (a5 : Int32) (h : Hp) : Option (Int32 × Hp) :=
  (gR h a0 10 9).bind fun v201 =>
  (gR h v201 9 0).bind fun v202 =>
  (gI h v202 8 3).bind fun v203 =>
  if v203 ≤ a5 then (
    some (a3, h))
  else (
    (gR h a2 4 0).bind fun v204 =>
    cVv h v204 8 (X8_put v204 a1 0 a5 h) fun h205 =>
    (gR h205 a0 10 5).bind fun v206 =>
    cV h205 v206 6 (X6_stolenIn v206 a2 a1 h205) fun v208 h207 =>
    if a3 = (-1) then (
      X10_relief_B91 rc42 a0 a1 a2 a5 v208 h207)
    else (
      if a4 ≤ v208 then (
        X10_relief_B98 rc42 a0 a1 a2 a3 a4 a5 h207)
      else (
        X10_relief_B91 rc42 a0 a1 a2 a5 v208 h207)))
def X10_relief_L42 (q : Nat) : Nat → Int32 → Nat → Int32 → Int32 → Int32 → Hp → Option (Int32 × Hp) := loopN (fun _ _ _ _ _ _ _ => none) (X10_relief_L42_s) q
theorem X10_relief_L42_ok {hh h' : Hp} {r : Int32}  : ∀ (q : Nat) (a0 : Nat) (a1 : Int32) (a2 : Nat) (a3 : Int32) (a4 : Int32) (a5 : Int32) (h : Hp), X10_relief_L42 q a0 a1 a2 a3 a4 a5 h = some (r, h') → Go (PM M_X10_relief hh (some (.int r)) h') M_X10_relief 42 [some (.ref a0), some (.int a1), some (.ref a2), some (.int a3), some (.int a4), some (.int a5), none] [] h 0 0 := by
  intro q
  induction q with
  | zero => intro a0 a1 a2 a3 a4 a5 h H; cases H
  | succ q hrc42 =>
    intro a0 a1 a2 a3 a4 a5 h H
    replace H : X10_relief_L42_s (X10_relief_L42 q) a0 a1 a2 a3 a4 a5 h = some (r, h') := H
    unfold X10_relief_L42_s at H
    refine go_iload (pc := 42) dX10_relief_42 rfl ?_
    refine go_aload_n (pc := 44) dX10_relief_44 rfl rfl ?_
    refine go_getR (pc := 45) dX10_relief_45 fl_X10_16 H (fun v201 H => ?_)
    refine go_getR (pc := 48) dX10_relief_48 fl_X10_134 H (fun v202 H => ?_)
    refine go_getI (pc := 51) dX10_relief_51 fl_X10_108 H (fun v203 H => ?_)
    refine go_icmp_ge (pc := 54) (tgt := 104) dX10_relief_54 (by decide) H (fun H => ?_) (fun H => ?_)
    · refine go_iload_n (pc := 104) dX10_relief_104 rfl rfl ?_
      exact go_iret (pc := 105) dX10_relief_105 rfl ⟨Nat.le_of_ble_eq_true rfl, Nat.le_of_ble_eq_true rfl⟩ H
    · refine go_aload_n (pc := 57) dX10_relief_57 rfl rfl ?_
      refine go_getR (pc := 58) dX10_relief_58 fl_X10_122 H (fun v204 H => ?_)
      refine go_iload_n (pc := 61) dX10_relief_61 rfl rfl ?_
      refine go_iconst (pc := 62) (v := 0) dX10_relief_62 (by decide) ?_
      refine go_iload (pc := 63) dX10_relief_63 rfl ?_
      refine go_cVv (pc := 65) (Mz := M_X8_put) (as := [.int a1, .int 0, .int a5]) (a := v204) (st := []) dX10_relief_65 wd_1033 cv_X8_put X8_put_ok rfl rfl ⟨Nat.le_of_ble_eq_true rfl, Nat.le_of_ble_eq_true rfl⟩ (Nat.le_of_ble_eq_true rfl) ⟨rfl, rfl⟩ ⟨Nat.le_of_ble_eq_true rfl, Nat.le_of_ble_eq_true rfl⟩ H (fun h205 H => ?_)
      refine go_aload_n (pc := 68) dX10_relief_68 rfl rfl ?_
      refine go_getR (pc := 69) dX10_relief_69 fl_X10_55 H (fun v206 H => ?_)
      refine go_aload_n (pc := 72) dX10_relief_72 rfl rfl ?_
      refine go_iload_n (pc := 73) dX10_relief_73 rfl rfl ?_
      refine go_cVi (pc := 74) (Mz := M_X6_stolenIn) (as := [.ref a2, .int a1]) (a := v206) (st := []) dX10_relief_74 wd_809 cv_X6_stolenIn X6_stolenIn_ok rfl rfl ⟨Nat.le_of_ble_eq_true rfl, Nat.le_of_ble_eq_true rfl⟩ (Nat.le_of_ble_eq_true rfl) ⟨rfl, rfl⟩ ⟨Nat.le_of_ble_eq_true rfl, Nat.le_of_ble_eq_true rfl⟩ H (fun v208 h207 H => ?_)
      refine go_istore (pc := 77) (L' := [some (.ref a0), some (.int a1), some (.ref a2), some (.int a3), some (.int a4), some (.int a5), some (.int v208)]) dX10_relief_77 (Nat.le_of_ble_eq_true rfl) rfl ?_
      refine go_iload_n (pc := 79) dX10_relief_79 rfl rfl ?_
      refine go_iconst (pc := 80) (v := (-1)) dX10_relief_80 (by decide) ?_
      refine go_icmp_eq (pc := 81) (tgt := 91) dX10_relief_81 (by decide) H (fun H => ?_) (fun H => ?_)
      · exact Go.weak (L' := [some (.ref a0), some (.int a1), some (.ref a2), none, none, some (.int a5), some (.int v208)]) ⟨rfl, ⟨rfl, ⟨rfl, ⟨rfl, ⟨rfl, trivial⟩⟩⟩⟩⟩ (X10_relief_B91_ok _ hrc42 a0 a1 a2 a5 v208 h207 H)
      · refine go_iload (pc := 84) dX10_relief_84 rfl ?_
        refine go_iload (pc := 86) dX10_relief_86 rfl ?_
        refine go_icmp_ge (pc := 88) (tgt := 98) dX10_relief_88 (by decide) H (fun H => ?_) (fun H => ?_)
        · exact Go.weak (L' := [some (.ref a0), some (.int a1), some (.ref a2), some (.int a3), some (.int a4), some (.int a5), none]) ⟨rfl, ⟨rfl, ⟨rfl, ⟨rfl, ⟨rfl, ⟨rfl, trivial⟩⟩⟩⟩⟩⟩ (X10_relief_B98_ok _ hrc42 a0 a1 a2 a3 a4 a5 h207 H)
        · exact Go.weak (L' := [some (.ref a0), some (.int a1), some (.ref a2), none, none, some (.int a5), some (.int v208)]) ⟨rfl, ⟨rfl, ⟨rfl, ⟨rfl, ⟨rfl, trivial⟩⟩⟩⟩⟩ (X10_relief_B91_ok _ hrc42 a0 a1 a2 a5 v208 h207 H)

def X10_relief_B14 (a0 : Nat) (a1 : Int32) (s0 : Nat) (s1 : Int32) (h : Hp) : Option (Int32 × Hp) :=
  cV h s0 10 (X10_isRefused s0 s1 h) fun v102 h101 =>
  if v102 = 0 then (
    (gR h101 a0 10 5).bind fun v103 =>
    (gR h101 a0 10 2).bind fun v104 =>
    cV h101 v103 6 (X6_trialOf v103 v104 h101) fun v106 h105 =>
    X10_relief_L42 5000 a0 a1 v106 (-1) 0 0 h105)
  else (
    some ((-1), h101))
theorem X10_relief_B14_ok {hh h' : Hp} {r : Int32}  (a0 : Nat) (a1 : Int32) (s0 : Nat) (s1 : Int32) (h : Hp) (H : X10_relief_B14 a0 a1 s0 s1 h = some (r, h')) : Go (PM M_X10_relief hh (some (.int r)) h') M_X10_relief 14 [some (.ref a0), some (.int a1), none, none, none, none, none] [.int s1, .ref s0] h 0 0 := by
  unfold X10_relief_B14 at H
  refine go_cVi (pc := 14) (Mz := M_X10_isRefused) (as := [.int s1]) (a := s0) (st := []) dX10_relief_14 wd_511 cv_X10_isRefused X10_isRefused_ok rfl rfl ⟨Nat.le_of_ble_eq_true rfl, Nat.le_of_ble_eq_true rfl⟩ (Nat.le_of_ble_eq_true rfl) ⟨rfl, rfl⟩ ⟨Nat.le_of_ble_eq_true rfl, Nat.le_of_ble_eq_true rfl⟩ H (fun v102 h101 H => ?_)
  refine go_if_eq (pc := 17) (tgt := 22) dX10_relief_17 (by decide) H (fun H => ?_) (fun H => ?_)
  · refine go_aload_n (pc := 22) dX10_relief_22 rfl rfl ?_
    refine go_getR (pc := 23) dX10_relief_23 fl_X10_55 H (fun v103 H => ?_)
    refine go_aload_n (pc := 26) dX10_relief_26 rfl rfl ?_
    refine go_getR (pc := 27) dX10_relief_27 fl_X10_35 H (fun v104 H => ?_)
    refine go_cVr (pc := 30) (Mz := M_X6_trialOf) (as := [.ref v104]) (a := v103) (st := []) dX10_relief_30 wd_1032 cv_X6_trialOf X6_trialOf_ok rfl rfl ⟨Nat.le_of_ble_eq_true rfl, Nat.le_of_ble_eq_true rfl⟩ (Nat.le_of_ble_eq_true rfl) ⟨rfl, rfl⟩ ⟨Nat.le_of_ble_eq_true rfl, Nat.le_of_ble_eq_true rfl⟩ H (fun v106 h105 H => ?_)
    refine go_astore_n (pc := 33) (L' := [some (.ref a0), some (.int a1), some (.ref v106), none, none, none, none]) dX10_relief_33 rfl (Nat.le_of_ble_eq_true rfl) rfl ?_
    refine go_iconst (pc := 34) (v := (-1)) dX10_relief_34 (by decide) ?_
    refine go_istore_n (pc := 35) (L' := [some (.ref a0), some (.int a1), some (.ref v106), some (.int (-1)), none, none, none]) dX10_relief_35 rfl (Nat.le_of_ble_eq_true rfl) rfl ?_
    refine go_iconst (pc := 36) (v := 0) dX10_relief_36 (by decide) ?_
    refine go_istore (pc := 37) (L' := [some (.ref a0), some (.int a1), some (.ref v106), some (.int (-1)), some (.int 0), none, none]) dX10_relief_37 (Nat.le_of_ble_eq_true rfl) rfl ?_
    refine go_iconst (pc := 39) (v := 0) dX10_relief_39 (by decide) ?_
    refine go_istore (pc := 40) (L' := [some (.ref a0), some (.int a1), some (.ref v106), some (.int (-1)), some (.int 0), some (.int 0), none]) dX10_relief_40 (Nat.le_of_ble_eq_true rfl) rfl ?_
    exact Go.weak (L' := [some (.ref a0), some (.int a1), some (.ref v106), some (.int (-1)), some (.int 0), some (.int 0), none]) ⟨rfl, ⟨rfl, ⟨rfl, ⟨rfl, ⟨rfl, ⟨rfl, trivial⟩⟩⟩⟩⟩⟩ (X10_relief_L42_ok 5000 a0 a1 v106 (-1) 0 0 h105 H)
  · refine go_iconst (pc := 20) (v := (-1)) dX10_relief_20 (by decide) ?_
    exact go_iret (pc := 21) dX10_relief_21 rfl ⟨Nat.le_of_ble_eq_true rfl, Nat.le_of_ble_eq_true rfl⟩ H

def X10_relief (a0 : Nat) (a1 : Int32) (h : Hp) : Option (Int32 × Hp) :=
  cV h a0 10 (X10_hasWatch a0 a1 h) fun v2 h1 =>
  if v2 = 0 then (
    X10_relief_B14 a0 a1 a0 1 h1)
  else (
    X10_relief_B14 a0 a1 a0 0 h1)
theorem X10_relief_ok {a0 : Nat} {a1 : Int32} {h h' : Hp} {r : Int32} (H : X10_relief a0 a1 h = some (r, h')) : Con M_X10_relief [.ref a0, .int a1] h (some (.int r)) h' := by
  refine con_of_go (by decide) 5 (L := [some (.ref a0), some (.int a1), none, none, none, none, none]) rfl (Nat.le_of_ble_eq_true rfl) ?_
  unfold X10_relief at H
  refine go_aload_n (pc := 0) dX10_relief_0 rfl rfl ?_
  refine go_aload_n (pc := 1) dX10_relief_1 rfl rfl ?_
  refine go_iload_n (pc := 2) dX10_relief_2 rfl rfl ?_
  refine go_cVi (pc := 3) (Mz := M_X10_hasWatch) (as := [.int a1]) (a := a0) (st := [.ref a0]) dX10_relief_3 wd_749 cv_X10_hasWatch X10_hasWatch_ok rfl rfl ⟨Nat.le_of_ble_eq_true rfl, Nat.le_of_ble_eq_true rfl⟩ (Nat.le_of_ble_eq_true rfl) ⟨rfl, rfl⟩ ⟨Nat.le_of_ble_eq_true rfl, Nat.le_of_ble_eq_true rfl⟩ H (fun v2 h1 H => ?_)
  refine go_if_eq (pc := 6) (tgt := 13) dX10_relief_6 (by decide) H (fun H => ?_) (fun H => ?_)
  · refine go_iconst (pc := 13) (v := 1) dX10_relief_13 (by decide) ?_
    exact Go.weak (L' := [some (.ref a0), some (.int a1), none, none, none, none, none]) ⟨rfl, ⟨rfl, trivial⟩⟩ (X10_relief_B14_ok a0 a1 a0 1 h1 H)
  · refine go_iconst (pc := 9) (v := 0) dX10_relief_9 (by decide) ?_
    refine go_goto (pc := 10) (tgt := 14) dX10_relief_10 (by decide) ?_
    exact Go.weak (L' := [some (.ref a0), some (.int a1), none, none, none, none, none]) ⟨rfl, ⟨rfl, trivial⟩⟩ (X10_relief_B14_ok a0 a1 a0 0 h1 H)

def M_X10_fits : MD := (yX10_fits, cX10_fits, 1, (some .int), 6, 139, 0, 0)
theorem cv_X10_fits : CVo M_X10_fits 0 10 := ⟨⟨wd_1041, wd_109, ⟨by decide, by decide⟩, by decide +kernel⟩, wd_1039, wd_1040, _, rfl, rfl⟩
def X10_fits (a0 : Nat) (h : Hp) : Option (Int32 × Hp) :=
  cV h a0 10 (X10_whyNotUnderWay a0 h) fun v2 h1 =>
  cV h1 a0 10 (X10_isRefused a0 v2 h1) fun v4 h3 =>
  if v4 = 0 then (
    (gR h3 a0 10 7).bind fun v5 =>
    cV h3 v5 3 (X3_fittingSets v5 h3) fun v7 h6 =>
    bd (J6_bitCount_0f7a4 v7 h6) fun v9 h8 =>
    some (v9, h8))
  else (
    some ((-1), h3))
theorem X10_fits_ok {a0 : Nat} {h h' : Hp} {r : Int32} (H : X10_fits a0 h = some (r, h')) : Con M_X10_fits [.ref a0] h (some (.int r)) h' := by
  refine con_of_go (by decide) 0 (L := [some (.ref a0)]) rfl (Nat.le_of_ble_eq_true rfl) ?_
  unfold X10_fits at H
  refine go_aload_n (pc := 0) dX10_fits_0 rfl rfl ?_
  refine go_aload_n (pc := 1) dX10_fits_1 rfl rfl ?_
  refine go_cVi (pc := 2) (Mz := M_X10_whyNotUnderWay) (as := []) (a := a0) (st := [.ref a0]) dX10_fits_2 wd_831 cv_X10_whyNotUnderWay X10_whyNotUnderWay_ok rfl rfl ⟨Nat.le_of_ble_eq_true rfl, Nat.le_of_ble_eq_true rfl⟩ (Nat.le_of_ble_eq_true rfl) ⟨rfl, rfl⟩ ⟨Nat.le_of_ble_eq_true rfl, Nat.le_of_ble_eq_true rfl⟩ H (fun v2 h1 H => ?_)
  refine go_cVi (pc := 5) (Mz := M_X10_isRefused) (as := [.int v2]) (a := a0) (st := []) dX10_fits_5 wd_511 cv_X10_isRefused X10_isRefused_ok rfl rfl ⟨Nat.le_of_ble_eq_true rfl, Nat.le_of_ble_eq_true rfl⟩ (Nat.le_of_ble_eq_true rfl) ⟨rfl, rfl⟩ ⟨Nat.le_of_ble_eq_true rfl, Nat.le_of_ble_eq_true rfl⟩ H (fun v4 h3 H => ?_)
  refine go_if_eq (pc := 8) (tgt := 13) dX10_fits_8 (by decide) H (fun H => ?_) (fun H => ?_)
  · refine go_aload_n (pc := 13) dX10_fits_13 rfl rfl ?_
    refine go_getR (pc := 14) dX10_fits_14 fl_X10_71 H (fun v5 H => ?_)
    refine go_cVi (pc := 17) (Mz := M_X3_fittingSets) (as := []) (a := v5) (st := []) dX10_fits_17 wd_1042 cv_X3_fittingSets X3_fittingSets_ok rfl rfl ⟨Nat.le_of_ble_eq_true rfl, Nat.le_of_ble_eq_true rfl⟩ (Nat.le_of_ble_eq_true rfl) ⟨rfl, rfl⟩ ⟨Nat.le_of_ble_eq_true rfl, Nat.le_of_ble_eq_true rfl⟩ H (fun v7 h6 H => ?_)
    refine go_cSi (pc := 20) (Mz := M_J6_bitCount_0f7a4) (as := [.int v7]) (st := []) dX10_fits_20 wd_1056 cs_J6_bitCount_0f7a4 J6_bitCount_0f7a4_ok rfl rfl ⟨Nat.le_of_ble_eq_true rfl, Nat.le_of_ble_eq_true rfl⟩ (Nat.le_of_ble_eq_true rfl) ⟨rfl, rfl⟩ ⟨Nat.le_of_ble_eq_true rfl, Nat.le_of_ble_eq_true rfl⟩ H (fun v9 h8 H => ?_)
    exact go_iret (pc := 23) dX10_fits_23 rfl ⟨Nat.le_of_ble_eq_true rfl, Nat.le_of_ble_eq_true rfl⟩ H
  · refine go_iconst (pc := 11) (v := (-1)) dX10_fits_11 (by decide) ?_
    exact go_iret (pc := 12) dX10_fits_12 rfl ⟨Nat.le_of_ble_eq_true rfl, Nat.le_of_ble_eq_true rfl⟩ H

def M_X10_fitAt : MD := (yX10_fitAt, cX10_fitAt, 3, (some .int), 6, 139, 0, 0)
theorem cv_X10_fitAt : CVo M_X10_fitAt 1 10 := ⟨⟨wd_1060, wd_109, ⟨by decide, by decide⟩, by decide +kernel⟩, wd_1058, wd_1059, _, rfl, rfl⟩
def X10_fitAt_B38 (a2 : Int32) (s0 : Nat) (s1 : Int32) (h : Hp) : Option (Int32 × Hp) :=
  cV h s0 10 (X10_isRefused s0 s1 h) fun v202 h201 =>
  if v202 = 0 then (
    some (a2, h201))
  else (
    some ((-1), h201))
theorem X10_fitAt_B38_ok {hh h' : Hp} {r : Int32}  (a2 : Int32) (s0 : Nat) (s1 : Int32) (h : Hp) (H : X10_fitAt_B38 a2 s0 s1 h = some (r, h')) : Go (PM M_X10_fitAt hh (some (.int r)) h') M_X10_fitAt 38 [none, none, some (.int a2)] [.int s1, .ref s0] h 0 0 := by
  unfold X10_fitAt_B38 at H
  refine go_cVi (pc := 38) (Mz := M_X10_isRefused) (as := [.int s1]) (a := s0) (st := []) dX10_fitAt_38 wd_511 cv_X10_isRefused X10_isRefused_ok rfl rfl ⟨Nat.le_of_ble_eq_true rfl, Nat.le_of_ble_eq_true rfl⟩ (Nat.le_of_ble_eq_true rfl) ⟨rfl, rfl⟩ ⟨Nat.le_of_ble_eq_true rfl, Nat.le_of_ble_eq_true rfl⟩ H (fun v202 h201 H => ?_)
  refine go_if_eq (pc := 41) (tgt := 48) dX10_fitAt_41 (by decide) H (fun H => ?_) (fun H => ?_)
  · refine go_iload_n (pc := 48) dX10_fitAt_48 rfl rfl ?_
    exact go_iret (pc := 49) dX10_fitAt_49 rfl ⟨Nat.le_of_ble_eq_true rfl, Nat.le_of_ble_eq_true rfl⟩ H
  · refine go_iconst (pc := 44) (v := (-1)) dX10_fitAt_44 (by decide) ?_
    refine go_goto (pc := 45) (tgt := 49) dX10_fitAt_45 (by decide) ?_
    exact go_iret (pc := 49) dX10_fitAt_49 rfl ⟨Nat.le_of_ble_eq_true rfl, Nat.le_of_ble_eq_true rfl⟩ H

def X10_fitAt_B26 (a0 : Nat) (s0 : Int32) (h : Hp) : Option (Int32 × Hp) :=
  if s0 = (-1) then (
    X10_fitAt_B38 s0 a0 1 h)
  else (
    X10_fitAt_B38 s0 a0 0 h)
theorem X10_fitAt_B26_ok {hh h' : Hp} {r : Int32}  (a0 : Nat) (s0 : Int32) (h : Hp) (H : X10_fitAt_B26 a0 s0 h = some (r, h')) : Go (PM M_X10_fitAt hh (some (.int r)) h') M_X10_fitAt 26 [some (.ref a0), none, none] [.int s0] h 0 0 := by
  unfold X10_fitAt_B26 at H
  refine go_istore_n (pc := 26) (L' := [some (.ref a0), none, some (.int s0)]) dX10_fitAt_26 rfl (Nat.le_of_ble_eq_true rfl) rfl ?_
  refine go_aload_n (pc := 27) dX10_fitAt_27 rfl rfl ?_
  refine go_iload_n (pc := 28) dX10_fitAt_28 rfl rfl ?_
  refine go_iconst (pc := 29) (v := (-1)) dX10_fitAt_29 (by decide) ?_
  refine go_icmp_ne (pc := 30) (tgt := 37) dX10_fitAt_30 (by decide) H (fun H => ?_) (fun H => ?_)
  · refine go_iconst (pc := 37) (v := 0) dX10_fitAt_37 (by decide) ?_
    exact Go.weak (L' := [none, none, some (.int s0)]) ⟨rfl, trivial⟩ (X10_fitAt_B38_ok s0 a0 0 h H)
  · refine go_iconst (pc := 33) (v := 1) dX10_fitAt_33 (by decide) ?_
    refine go_goto (pc := 34) (tgt := 38) dX10_fitAt_34 (by decide) ?_
    exact Go.weak (L' := [none, none, some (.int s0)]) ⟨rfl, trivial⟩ (X10_fitAt_B38_ok s0 a0 1 h H)

def X10_fitAt (a0 : Nat) (a1 : Int32) (h : Hp) : Option (Int32 × Hp) :=
  (gI h a0 10 11).bind fun v1 =>
  if v1 = 0 then (
    X10_fitAt_B26 a0 (-1) h)
  else (
    (gR h a0 10 7).bind fun v2 =>
    (gR h a0 10 7).bind fun v3 =>
    cV h v3 3 (X3_fittingSets v3 h) fun v5 h4 =>
    cV h4 v2 3 (X3_fitOf v2 v5 a1 h4) fun v7 h6 =>
    X10_fitAt_B26 a0 v7 h6)
theorem X10_fitAt_ok {a0 : Nat} {a1 : Int32} {h h' : Hp} {r : Int32} (H : X10_fitAt a0 a1 h = some (r, h')) : Con M_X10_fitAt [.ref a0, .int a1] h (some (.int r)) h' := by
  refine con_of_go (by decide) 1 (L := [some (.ref a0), some (.int a1), none]) rfl (Nat.le_of_ble_eq_true rfl) ?_
  unfold X10_fitAt at H
  refine go_aload_n (pc := 0) dX10_fitAt_0 rfl rfl ?_
  refine go_getI (pc := 1) dX10_fitAt_1 fl_X10_144 H (fun v1 H => ?_)
  refine go_if_eq (pc := 4) (tgt := 25) dX10_fitAt_4 (by decide) H (fun H => ?_) (fun H => ?_)
  · refine go_iconst (pc := 25) (v := (-1)) dX10_fitAt_25 (by decide) ?_
    exact Go.weak (L' := [some (.ref a0), none, none]) ⟨rfl, trivial⟩ (X10_fitAt_B26_ok a0 (-1) h H)
  · refine go_aload_n (pc := 7) dX10_fitAt_7 rfl rfl ?_
    refine go_getR (pc := 8) dX10_fitAt_8 fl_X10_71 H (fun v2 H => ?_)
    refine go_aload_n (pc := 11) dX10_fitAt_11 rfl rfl ?_
    refine go_getR (pc := 12) dX10_fitAt_12 fl_X10_71 H (fun v3 H => ?_)
    refine go_cVi (pc := 15) (Mz := M_X3_fittingSets) (as := []) (a := v3) (st := [.ref v2]) dX10_fitAt_15 wd_1042 cv_X3_fittingSets X3_fittingSets_ok rfl rfl ⟨Nat.le_of_ble_eq_true rfl, Nat.le_of_ble_eq_true rfl⟩ (Nat.le_of_ble_eq_true rfl) ⟨rfl, rfl⟩ ⟨Nat.le_of_ble_eq_true rfl, Nat.le_of_ble_eq_true rfl⟩ H (fun v5 h4 H => ?_)
    refine go_iload_n (pc := 18) dX10_fitAt_18 rfl rfl ?_
    refine go_cVi (pc := 19) (Mz := M_X3_fitOf) (as := [.int v5, .int a1]) (a := v2) (st := []) dX10_fitAt_19 wd_1061 cv_X3_fitOf X3_fitOf_ok rfl rfl ⟨Nat.le_of_ble_eq_true rfl, Nat.le_of_ble_eq_true rfl⟩ (Nat.le_of_ble_eq_true rfl) ⟨rfl, rfl⟩ ⟨Nat.le_of_ble_eq_true rfl, Nat.le_of_ble_eq_true rfl⟩ H (fun v7 h6 H => ?_)
    refine go_goto (pc := 22) (tgt := 26) dX10_fitAt_22 (by decide) ?_
    exact Go.weak (L' := [some (.ref a0), none, none]) ⟨rfl, trivial⟩ (X10_fitAt_B26_ok a0 v7 h6 H)

def M_X10_could : MD := (yX10_could, cX10_could, 1, (some .int), 6, 139, 0, 0)
theorem cv_X10_could : CVo M_X10_could 0 10 := ⟨⟨wd_1068, wd_109, ⟨by decide, by decide⟩, by decide +kernel⟩, wd_1066, wd_1067, _, rfl, rfl⟩
def X10_could (a0 : Nat) (h : Hp) : Option (Int32 × Hp) :=
  cV h a0 10 (X10_whyNotUnderWay a0 h) fun v2 h1 =>
  cV h1 a0 10 (X10_isRefused a0 v2 h1) fun v4 h3 =>
  if v4 = 0 then (
    (gR h3 a0 10 7).bind fun v5 =>
    (gR h3 a0 10 7).bind fun v6 =>
    cV h3 v6 3 (X3_fittingSets v6 h3) fun v8 h7 =>
    cV h7 v5 3 (X3_boysInSome v5 v8 h7) fun v10 h9 =>
    some (v10, h9))
  else (
    some ((-1), h3))
theorem X10_could_ok {a0 : Nat} {h h' : Hp} {r : Int32} (H : X10_could a0 h = some (r, h')) : Con M_X10_could [.ref a0] h (some (.int r)) h' := by
  refine con_of_go (by decide) 0 (L := [some (.ref a0)]) rfl (Nat.le_of_ble_eq_true rfl) ?_
  unfold X10_could at H
  refine go_aload_n (pc := 0) dX10_could_0 rfl rfl ?_
  refine go_aload_n (pc := 1) dX10_could_1 rfl rfl ?_
  refine go_cVi (pc := 2) (Mz := M_X10_whyNotUnderWay) (as := []) (a := a0) (st := [.ref a0]) dX10_could_2 wd_831 cv_X10_whyNotUnderWay X10_whyNotUnderWay_ok rfl rfl ⟨Nat.le_of_ble_eq_true rfl, Nat.le_of_ble_eq_true rfl⟩ (Nat.le_of_ble_eq_true rfl) ⟨rfl, rfl⟩ ⟨Nat.le_of_ble_eq_true rfl, Nat.le_of_ble_eq_true rfl⟩ H (fun v2 h1 H => ?_)
  refine go_cVi (pc := 5) (Mz := M_X10_isRefused) (as := [.int v2]) (a := a0) (st := []) dX10_could_5 wd_511 cv_X10_isRefused X10_isRefused_ok rfl rfl ⟨Nat.le_of_ble_eq_true rfl, Nat.le_of_ble_eq_true rfl⟩ (Nat.le_of_ble_eq_true rfl) ⟨rfl, rfl⟩ ⟨Nat.le_of_ble_eq_true rfl, Nat.le_of_ble_eq_true rfl⟩ H (fun v4 h3 H => ?_)
  refine go_if_eq (pc := 8) (tgt := 13) dX10_could_8 (by decide) H (fun H => ?_) (fun H => ?_)
  · refine go_aload_n (pc := 13) dX10_could_13 rfl rfl ?_
    refine go_getR (pc := 14) dX10_could_14 fl_X10_71 H (fun v5 H => ?_)
    refine go_aload_n (pc := 17) dX10_could_17 rfl rfl ?_
    refine go_getR (pc := 18) dX10_could_18 fl_X10_71 H (fun v6 H => ?_)
    refine go_cVi (pc := 21) (Mz := M_X3_fittingSets) (as := []) (a := v6) (st := [.ref v5]) dX10_could_21 wd_1042 cv_X3_fittingSets X3_fittingSets_ok rfl rfl ⟨Nat.le_of_ble_eq_true rfl, Nat.le_of_ble_eq_true rfl⟩ (Nat.le_of_ble_eq_true rfl) ⟨rfl, rfl⟩ ⟨Nat.le_of_ble_eq_true rfl, Nat.le_of_ble_eq_true rfl⟩ H (fun v8 h7 H => ?_)
    refine go_cVi (pc := 24) (Mz := M_X3_boysInSome) (as := [.int v8]) (a := v5) (st := []) dX10_could_24 wd_1069 cv_X3_boysInSome X3_boysInSome_ok rfl rfl ⟨Nat.le_of_ble_eq_true rfl, Nat.le_of_ble_eq_true rfl⟩ (Nat.le_of_ble_eq_true rfl) ⟨rfl, rfl⟩ ⟨Nat.le_of_ble_eq_true rfl, Nat.le_of_ble_eq_true rfl⟩ H (fun v10 h9 H => ?_)
    exact go_iret (pc := 27) dX10_could_27 rfl ⟨Nat.le_of_ble_eq_true rfl, Nat.le_of_ble_eq_true rfl⟩ H
  · refine go_iconst (pc := 11) (v := (-1)) dX10_could_11 (by decide) ?_
    exact go_iret (pc := 12) dX10_could_12 rfl ⟨Nat.le_of_ble_eq_true rfl, Nat.le_of_ble_eq_true rfl⟩ H

def M_X10_surely : MD := (yX10_surely, cX10_surely, 1, (some .int), 6, 139, 0, 0)
theorem cv_X10_surely : CVo M_X10_surely 0 10 := ⟨⟨wd_1076, wd_109, ⟨by decide, by decide⟩, by decide +kernel⟩, wd_1074, wd_1075, _, rfl, rfl⟩
def X10_surely (a0 : Nat) (h : Hp) : Option (Int32 × Hp) :=
  cV h a0 10 (X10_whyNotUnderWay a0 h) fun v2 h1 =>
  cV h1 a0 10 (X10_isRefused a0 v2 h1) fun v4 h3 =>
  if v4 = 0 then (
    (gR h3 a0 10 7).bind fun v5 =>
    (gR h3 a0 10 7).bind fun v6 =>
    cV h3 v6 3 (X3_fittingSets v6 h3) fun v8 h7 =>
    cV h7 v5 3 (X3_boysInAll v5 v8 h7) fun v10 h9 =>
    some (v10, h9))
  else (
    some ((-1), h3))
theorem X10_surely_ok {a0 : Nat} {h h' : Hp} {r : Int32} (H : X10_surely a0 h = some (r, h')) : Con M_X10_surely [.ref a0] h (some (.int r)) h' := by
  refine con_of_go (by decide) 0 (L := [some (.ref a0)]) rfl (Nat.le_of_ble_eq_true rfl) ?_
  unfold X10_surely at H
  refine go_aload_n (pc := 0) dX10_surely_0 rfl rfl ?_
  refine go_aload_n (pc := 1) dX10_surely_1 rfl rfl ?_
  refine go_cVi (pc := 2) (Mz := M_X10_whyNotUnderWay) (as := []) (a := a0) (st := [.ref a0]) dX10_surely_2 wd_831 cv_X10_whyNotUnderWay X10_whyNotUnderWay_ok rfl rfl ⟨Nat.le_of_ble_eq_true rfl, Nat.le_of_ble_eq_true rfl⟩ (Nat.le_of_ble_eq_true rfl) ⟨rfl, rfl⟩ ⟨Nat.le_of_ble_eq_true rfl, Nat.le_of_ble_eq_true rfl⟩ H (fun v2 h1 H => ?_)
  refine go_cVi (pc := 5) (Mz := M_X10_isRefused) (as := [.int v2]) (a := a0) (st := []) dX10_surely_5 wd_511 cv_X10_isRefused X10_isRefused_ok rfl rfl ⟨Nat.le_of_ble_eq_true rfl, Nat.le_of_ble_eq_true rfl⟩ (Nat.le_of_ble_eq_true rfl) ⟨rfl, rfl⟩ ⟨Nat.le_of_ble_eq_true rfl, Nat.le_of_ble_eq_true rfl⟩ H (fun v4 h3 H => ?_)
  refine go_if_eq (pc := 8) (tgt := 13) dX10_surely_8 (by decide) H (fun H => ?_) (fun H => ?_)
  · refine go_aload_n (pc := 13) dX10_surely_13 rfl rfl ?_
    refine go_getR (pc := 14) dX10_surely_14 fl_X10_71 H (fun v5 H => ?_)
    refine go_aload_n (pc := 17) dX10_surely_17 rfl rfl ?_
    refine go_getR (pc := 18) dX10_surely_18 fl_X10_71 H (fun v6 H => ?_)
    refine go_cVi (pc := 21) (Mz := M_X3_fittingSets) (as := []) (a := v6) (st := [.ref v5]) dX10_surely_21 wd_1042 cv_X3_fittingSets X3_fittingSets_ok rfl rfl ⟨Nat.le_of_ble_eq_true rfl, Nat.le_of_ble_eq_true rfl⟩ (Nat.le_of_ble_eq_true rfl) ⟨rfl, rfl⟩ ⟨Nat.le_of_ble_eq_true rfl, Nat.le_of_ble_eq_true rfl⟩ H (fun v8 h7 H => ?_)
    refine go_cVi (pc := 24) (Mz := M_X3_boysInAll) (as := [.int v8]) (a := v5) (st := []) dX10_surely_24 wd_1077 cv_X3_boysInAll X3_boysInAll_ok rfl rfl ⟨Nat.le_of_ble_eq_true rfl, Nat.le_of_ble_eq_true rfl⟩ (Nat.le_of_ble_eq_true rfl) ⟨rfl, rfl⟩ ⟨Nat.le_of_ble_eq_true rfl, Nat.le_of_ble_eq_true rfl⟩ H (fun v10 h9 H => ?_)
    exact go_iret (pc := 27) dX10_surely_27 rfl ⟨Nat.le_of_ble_eq_true rfl, Nat.le_of_ble_eq_true rfl⟩ H
  · refine go_iconst (pc := 11) (v := (-1)) dX10_surely_11 (by decide) ?_
    exact go_iret (pc := 12) dX10_surely_12 rfl ⟨Nat.le_of_ble_eq_true rfl, Nat.le_of_ble_eq_true rfl⟩ H

def M_X10_fix : MD := (yX10_fix, cX10_fix, 1, (some .int), 6, 144, 0, 0)
theorem cv_X10_fix : CVo M_X10_fix 0 10 := ⟨⟨wd_1084, wd_109, ⟨by decide, by decide⟩, by decide +kernel⟩, wd_1082, wd_1083, _, rfl, rfl⟩
def X10_fix (a0 : Nat) (h : Hp) : Option (Int32 × Hp) :=
  cV h a0 10 (X10_whyNotUnderWay a0 h) fun v2 h1 =>
  cV h1 a0 10 (X10_isRefused a0 v2 h1) fun v4 h3 =>
  if v4 = 0 then (
    (gR h3 a0 10 7).bind fun v5 =>
    (gR h3 a0 10 7).bind fun v6 =>
    cV h3 v6 3 (X3_fittingSets v6 h3) fun v8 h7 =>
    cV h7 v5 3 (X3_bestFix v5 v8 h7) fun v10 h9 =>
    some (v10, h9))
  else (
    some ((-1), h3))
theorem X10_fix_ok {a0 : Nat} {h h' : Hp} {r : Int32} (H : X10_fix a0 h = some (r, h')) : Con M_X10_fix [.ref a0] h (some (.int r)) h' := by
  refine con_of_go (by decide) 0 (L := [some (.ref a0)]) rfl (Nat.le_of_ble_eq_true rfl) ?_
  unfold X10_fix at H
  refine go_aload_n (pc := 0) dX10_fix_0 rfl rfl ?_
  refine go_aload_n (pc := 1) dX10_fix_1 rfl rfl ?_
  refine go_cVi (pc := 2) (Mz := M_X10_whyNotUnderWay) (as := []) (a := a0) (st := [.ref a0]) dX10_fix_2 wd_831 cv_X10_whyNotUnderWay X10_whyNotUnderWay_ok rfl rfl ⟨Nat.le_of_ble_eq_true rfl, Nat.le_of_ble_eq_true rfl⟩ (Nat.le_of_ble_eq_true rfl) ⟨rfl, rfl⟩ ⟨Nat.le_of_ble_eq_true rfl, Nat.le_of_ble_eq_true rfl⟩ H (fun v2 h1 H => ?_)
  refine go_cVi (pc := 5) (Mz := M_X10_isRefused) (as := [.int v2]) (a := a0) (st := []) dX10_fix_5 wd_511 cv_X10_isRefused X10_isRefused_ok rfl rfl ⟨Nat.le_of_ble_eq_true rfl, Nat.le_of_ble_eq_true rfl⟩ (Nat.le_of_ble_eq_true rfl) ⟨rfl, rfl⟩ ⟨Nat.le_of_ble_eq_true rfl, Nat.le_of_ble_eq_true rfl⟩ H (fun v4 h3 H => ?_)
  refine go_if_eq (pc := 8) (tgt := 13) dX10_fix_8 (by decide) H (fun H => ?_) (fun H => ?_)
  · refine go_aload_n (pc := 13) dX10_fix_13 rfl rfl ?_
    refine go_getR (pc := 14) dX10_fix_14 fl_X10_71 H (fun v5 H => ?_)
    refine go_aload_n (pc := 17) dX10_fix_17 rfl rfl ?_
    refine go_getR (pc := 18) dX10_fix_18 fl_X10_71 H (fun v6 H => ?_)
    refine go_cVi (pc := 21) (Mz := M_X3_fittingSets) (as := []) (a := v6) (st := [.ref v5]) dX10_fix_21 wd_1042 cv_X3_fittingSets X3_fittingSets_ok rfl rfl ⟨Nat.le_of_ble_eq_true rfl, Nat.le_of_ble_eq_true rfl⟩ (Nat.le_of_ble_eq_true rfl) ⟨rfl, rfl⟩ ⟨Nat.le_of_ble_eq_true rfl, Nat.le_of_ble_eq_true rfl⟩ H (fun v8 h7 H => ?_)
    refine go_cVi (pc := 24) (Mz := M_X3_bestFix) (as := [.int v8]) (a := v5) (st := []) dX10_fix_24 wd_1085 cv_X3_bestFix X3_bestFix_ok rfl rfl ⟨Nat.le_of_ble_eq_true rfl, Nat.le_of_ble_eq_true rfl⟩ (Nat.le_of_ble_eq_true rfl) ⟨rfl, rfl⟩ ⟨Nat.le_of_ble_eq_true rfl, Nat.le_of_ble_eq_true rfl⟩ H (fun v10 h9 H => ?_)
    exact go_iret (pc := 27) dX10_fix_27 rfl ⟨Nat.le_of_ble_eq_true rfl, Nat.le_of_ble_eq_true rfl⟩ H
  · refine go_iconst (pc := 11) (v := (-1)) dX10_fix_11 (by decide) ?_
    exact go_iret (pc := 12) dX10_fix_12 rfl ⟨Nat.le_of_ble_eq_true rfl, Nat.le_of_ble_eq_true rfl⟩ H

def M_X10_fixLeaves : MD := (yX10_fixLeaves, cX10_fixLeaves, 2, (some .int), 6, 144, 0, 0)
theorem cv_X10_fixLeaves : CVo M_X10_fixLeaves 0 10 := ⟨⟨wd_1097, wd_109, ⟨by decide, by decide⟩, by decide +kernel⟩, wd_1095, wd_1096, _, rfl, rfl⟩
def X10_fixLeaves (a0 : Nat) (h : Hp) : Option (Int32 × Hp) :=
  cV h a0 10 (X10_whyNotUnderWay a0 h) fun v2 h1 =>
  cV h1 a0 10 (X10_isRefused a0 v2 h1) fun v4 h3 =>
  if v4 = 0 then (
    (gR h3 a0 10 7).bind fun v5 =>
    cV h3 v5 3 (X3_fittingSets v5 h3) fun v7 h6 =>
    if v7 = 0 then (
      some ((-2), h6))
    else (
      (gR h6 a0 10 7).bind fun v8 =>
      (gR h6 a0 10 7).bind fun v9 =>
      cV h6 v9 3 (X3_bestFix v9 v7 h6) fun v11 h10 =>
      cV h10 v8 3 (X3_mostLeft v8 v7 v11 h10) fun v13 h12 =>
      some (v13, h12)))
  else (
    some ((-1), h3))
theorem X10_fixLeaves_ok {a0 : Nat} {h h' : Hp} {r : Int32} (H : X10_fixLeaves a0 h = some (r, h')) : Con M_X10_fixLeaves [.ref a0] h (some (.int r)) h' := by
  refine con_of_go (by decide) 1 (L := [some (.ref a0), none]) rfl (Nat.le_of_ble_eq_true rfl) ?_
  unfold X10_fixLeaves at H
  refine go_aload_n (pc := 0) dX10_fixLeaves_0 rfl rfl ?_
  refine go_aload_n (pc := 1) dX10_fixLeaves_1 rfl rfl ?_
  refine go_cVi (pc := 2) (Mz := M_X10_whyNotUnderWay) (as := []) (a := a0) (st := [.ref a0]) dX10_fixLeaves_2 wd_831 cv_X10_whyNotUnderWay X10_whyNotUnderWay_ok rfl rfl ⟨Nat.le_of_ble_eq_true rfl, Nat.le_of_ble_eq_true rfl⟩ (Nat.le_of_ble_eq_true rfl) ⟨rfl, rfl⟩ ⟨Nat.le_of_ble_eq_true rfl, Nat.le_of_ble_eq_true rfl⟩ H (fun v2 h1 H => ?_)
  refine go_cVi (pc := 5) (Mz := M_X10_isRefused) (as := [.int v2]) (a := a0) (st := []) dX10_fixLeaves_5 wd_511 cv_X10_isRefused X10_isRefused_ok rfl rfl ⟨Nat.le_of_ble_eq_true rfl, Nat.le_of_ble_eq_true rfl⟩ (Nat.le_of_ble_eq_true rfl) ⟨rfl, rfl⟩ ⟨Nat.le_of_ble_eq_true rfl, Nat.le_of_ble_eq_true rfl⟩ H (fun v4 h3 H => ?_)
  refine go_if_eq (pc := 8) (tgt := 13) dX10_fixLeaves_8 (by decide) H (fun H => ?_) (fun H => ?_)
  · refine go_aload_n (pc := 13) dX10_fixLeaves_13 rfl rfl ?_
    refine go_getR (pc := 14) dX10_fixLeaves_14 fl_X10_71 H (fun v5 H => ?_)
    refine go_cVi (pc := 17) (Mz := M_X3_fittingSets) (as := []) (a := v5) (st := []) dX10_fixLeaves_17 wd_1042 cv_X3_fittingSets X3_fittingSets_ok rfl rfl ⟨Nat.le_of_ble_eq_true rfl, Nat.le_of_ble_eq_true rfl⟩ (Nat.le_of_ble_eq_true rfl) ⟨rfl, rfl⟩ ⟨Nat.le_of_ble_eq_true rfl, Nat.le_of_ble_eq_true rfl⟩ H (fun v7 h6 H => ?_)
    refine go_istore_n (pc := 20) (L' := [some (.ref a0), some (.int v7)]) dX10_fixLeaves_20 rfl (Nat.le_of_ble_eq_true rfl) rfl ?_
    refine go_iload_n (pc := 21) dX10_fixLeaves_21 rfl rfl ?_
    refine go_if_ne (pc := 22) (tgt := 30) dX10_fixLeaves_22 (by decide) H (fun H => ?_) (fun H => ?_)
    · refine go_aload_n (pc := 30) dX10_fixLeaves_30 rfl rfl ?_
      refine go_getR (pc := 31) dX10_fixLeaves_31 fl_X10_71 H (fun v8 H => ?_)
      refine go_iload_n (pc := 34) dX10_fixLeaves_34 rfl rfl ?_
      refine go_aload_n (pc := 35) dX10_fixLeaves_35 rfl rfl ?_
      refine go_getR (pc := 36) dX10_fixLeaves_36 fl_X10_71 H (fun v9 H => ?_)
      refine go_iload_n (pc := 39) dX10_fixLeaves_39 rfl rfl ?_
      refine go_cVi (pc := 40) (Mz := M_X3_bestFix) (as := [.int v7]) (a := v9) (st := [.int v7, .ref v8]) dX10_fixLeaves_40 wd_1085 cv_X3_bestFix X3_bestFix_ok rfl rfl ⟨Nat.le_of_ble_eq_true rfl, Nat.le_of_ble_eq_true rfl⟩ (Nat.le_of_ble_eq_true rfl) ⟨rfl, rfl⟩ ⟨Nat.le_of_ble_eq_true rfl, Nat.le_of_ble_eq_true rfl⟩ H (fun v11 h10 H => ?_)
      refine go_cVi (pc := 43) (Mz := M_X3_mostLeft) (as := [.int v7, .int v11]) (a := v8) (st := []) dX10_fixLeaves_43 wd_1098 cv_X3_mostLeft X3_mostLeft_ok rfl rfl ⟨Nat.le_of_ble_eq_true rfl, Nat.le_of_ble_eq_true rfl⟩ (Nat.le_of_ble_eq_true rfl) ⟨rfl, rfl⟩ ⟨Nat.le_of_ble_eq_true rfl, Nat.le_of_ble_eq_true rfl⟩ H (fun v13 h12 H => ?_)
      exact go_iret (pc := 46) dX10_fixLeaves_46 rfl ⟨Nat.le_of_ble_eq_true rfl, Nat.le_of_ble_eq_true rfl⟩ H
    · refine go_bipush (pc := 25) (v := (-2)) dX10_fixLeaves_25 (by decide) ?_
      refine go_goto (pc := 27) (tgt := 46) dX10_fixLeaves_27 (by decide) ?_
      exact go_iret (pc := 46) dX10_fixLeaves_46 rfl ⟨Nat.le_of_ble_eq_true rfl, Nat.le_of_ble_eq_true rfl⟩ H
  · refine go_iconst (pc := 11) (v := (-1)) dX10_fixLeaves_11 (by decide) ?_
    exact go_iret (pc := 12) dX10_fixLeaves_12 rfl ⟨Nat.le_of_ble_eq_true rfl, Nat.le_of_ble_eq_true rfl⟩ H

def M_X10_judge : MD := (yX10_judge, cX10_judge, 1, (some .int), 5, 117, 0, 0)
theorem cv_X10_judge : CVo M_X10_judge 0 10 := ⟨⟨wd_1102, wd_109, ⟨by decide, by decide⟩, by decide +kernel⟩, wd_1100, wd_1101, _, rfl, rfl⟩
def X10_judge (a0 : Nat) (h : Hp) : Option (Int32 × Hp) :=
  cV h a0 10 (X10_whyNotUnderWay a0 h) fun v2 h1 =>
  cV h1 a0 10 (X10_isRefused a0 v2 h1) fun v4 h3 =>
  if v4 = 0 then (
    (gR h3 a0 10 7).bind fun v5 =>
    cV h3 v5 3 (X3_firstMisfit v5 0 h3) fun v7 h6 =>
    some (v7, h6))
  else (
    some ((-1), h3))
theorem X10_judge_ok {a0 : Nat} {h h' : Hp} {r : Int32} (H : X10_judge a0 h = some (r, h')) : Con M_X10_judge [.ref a0] h (some (.int r)) h' := by
  refine con_of_go (by decide) 0 (L := [some (.ref a0)]) rfl (Nat.le_of_ble_eq_true rfl) ?_
  unfold X10_judge at H
  refine go_aload_n (pc := 0) dX10_judge_0 rfl rfl ?_
  refine go_aload_n (pc := 1) dX10_judge_1 rfl rfl ?_
  refine go_cVi (pc := 2) (Mz := M_X10_whyNotUnderWay) (as := []) (a := a0) (st := [.ref a0]) dX10_judge_2 wd_831 cv_X10_whyNotUnderWay X10_whyNotUnderWay_ok rfl rfl ⟨Nat.le_of_ble_eq_true rfl, Nat.le_of_ble_eq_true rfl⟩ (Nat.le_of_ble_eq_true rfl) ⟨rfl, rfl⟩ ⟨Nat.le_of_ble_eq_true rfl, Nat.le_of_ble_eq_true rfl⟩ H (fun v2 h1 H => ?_)
  refine go_cVi (pc := 5) (Mz := M_X10_isRefused) (as := [.int v2]) (a := a0) (st := []) dX10_judge_5 wd_511 cv_X10_isRefused X10_isRefused_ok rfl rfl ⟨Nat.le_of_ble_eq_true rfl, Nat.le_of_ble_eq_true rfl⟩ (Nat.le_of_ble_eq_true rfl) ⟨rfl, rfl⟩ ⟨Nat.le_of_ble_eq_true rfl, Nat.le_of_ble_eq_true rfl⟩ H (fun v4 h3 H => ?_)
  refine go_if_eq (pc := 8) (tgt := 13) dX10_judge_8 (by decide) H (fun H => ?_) (fun H => ?_)
  · refine go_aload_n (pc := 13) dX10_judge_13 rfl rfl ?_
    refine go_getR (pc := 14) dX10_judge_14 fl_X10_71 H (fun v5 H => ?_)
    refine go_iconst (pc := 17) (v := 0) dX10_judge_17 (by decide) ?_
    refine go_cVi (pc := 18) (Mz := M_X3_firstMisfit) (as := [.int 0]) (a := v5) (st := []) dX10_judge_18 wd_1103 cv_X3_firstMisfit X3_firstMisfit_ok rfl rfl ⟨Nat.le_of_ble_eq_true rfl, Nat.le_of_ble_eq_true rfl⟩ (Nat.le_of_ble_eq_true rfl) ⟨rfl, rfl⟩ ⟨Nat.le_of_ble_eq_true rfl, Nat.le_of_ble_eq_true rfl⟩ H (fun v7 h6 H => ?_)
    exact go_iret (pc := 21) dX10_judge_21 rfl ⟨Nat.le_of_ble_eq_true rfl, Nat.le_of_ble_eq_true rfl⟩ H
  · refine go_iconst (pc := 11) (v := (-1)) dX10_judge_11 (by decide) ?_
    exact go_iret (pc := 12) dX10_judge_12 rfl ⟨Nat.le_of_ble_eq_true rfl, Nat.le_of_ble_eq_true rfl⟩ H

def M_X10_odds : MD := (yX10_odds, cX10_odds, 6, (some .long), 5, 119, 0, 0)
theorem cv_X10_odds : CVo M_X10_odds 3 10 := ⟨⟨wd_1107, wd_109, ⟨by decide, by decide⟩, by decide +kernel⟩, wd_1105, wd_1106, _, rfl, rfl⟩
def X10_odds_B42 (a0 : Nat) (a1 : Int32) (a2 : Int32) (a3 : Int32) (s0 : Nat) (s1 : Int32) (h : Hp) : Option (Int64 × Hp) :=
  cV h s0 10 (X10_isRefused s0 s1 h) fun v402 h401 =>
  if v402 = 0 then (
    (gR h401 a0 10 8).bind fun v403 =>
    (gR h401 a0 10 2).bind fun v404 =>
    cVv h401 v403 2 (X2_weighOdds v403 v404 a1 a2 h401) fun h405 =>
    if a3 = 0 then (
      (gR h405 a0 10 8).bind fun v406 =>
      (gJ h405 v406 2 1).bind fun v407 =>
      some (v407, h405))
    else (
      (gR h405 a0 10 8).bind fun v408 =>
      (gJ h405 v408 2 2).bind fun v409 =>
      some (v409, h405)))
  else (
    some ((-1), h401))
theorem X10_odds_B42_ok {hh h' : Hp} {r : Int64}  (a0 : Nat) (a1 : Int32) (a2 : Int32) (a3 : Int32) (s0 : Nat) (s1 : Int32) (h : Hp) (H : X10_odds_B42 a0 a1 a2 a3 s0 s1 h = some (r, h')) : Go (PM M_X10_odds hh (some (.long r)) h') M_X10_odds 42 [some (.ref a0), some (.int a1), some (.int a2), some (.int a3), none, none] [.int s1, .ref s0] h 0 0 := by
  unfold X10_odds_B42 at H
  refine go_cVi (pc := 42) (Mz := M_X10_isRefused) (as := [.int s1]) (a := s0) (st := []) dX10_odds_42 wd_511 cv_X10_isRefused X10_isRefused_ok rfl rfl ⟨Nat.le_of_ble_eq_true rfl, Nat.le_of_ble_eq_true rfl⟩ (Nat.le_of_ble_eq_true rfl) ⟨rfl, rfl⟩ ⟨Nat.le_of_ble_eq_true rfl, Nat.le_of_ble_eq_true rfl⟩ H (fun v402 h401 H => ?_)
  refine go_if_eq (pc := 45) (tgt := 52) dX10_odds_45 (by decide) H (fun H => ?_) (fun H => ?_)
  · refine go_aload_n (pc := 52) dX10_odds_52 rfl rfl ?_
    refine go_getR (pc := 53) dX10_odds_53 fl_X10_78 H (fun v403 H => ?_)
    refine go_aload_n (pc := 56) dX10_odds_56 rfl rfl ?_
    refine go_getR (pc := 57) dX10_odds_57 fl_X10_35 H (fun v404 H => ?_)
    refine go_iload_n (pc := 60) dX10_odds_60 rfl rfl ?_
    refine go_iload_n (pc := 61) dX10_odds_61 rfl rfl ?_
    refine go_cVv (pc := 62) (Mz := M_X2_weighOdds) (as := [.ref v404, .int a1, .int a2]) (a := v403) (st := []) dX10_odds_62 wd_1109 cv_X2_weighOdds X2_weighOdds_ok rfl rfl ⟨Nat.le_of_ble_eq_true rfl, Nat.le_of_ble_eq_true rfl⟩ (Nat.le_of_ble_eq_true rfl) ⟨rfl, rfl⟩ ⟨Nat.le_of_ble_eq_true rfl, Nat.le_of_ble_eq_true rfl⟩ H (fun h405 H => ?_)
    refine go_iload_n (pc := 65) dX10_odds_65 rfl rfl ?_
    refine go_if_eq (pc := 66) (tgt := 79) dX10_odds_66 (by decide) H (fun H => ?_) (fun H => ?_)
    · refine go_aload_n (pc := 79) dX10_odds_79 rfl rfl ?_
      refine go_getR (pc := 80) dX10_odds_80 fl_X10_78 H (fun v406 H => ?_)
      refine go_getJ (pc := 83) dX10_odds_83 fl_X10_288 H (fun v407 H => ?_)
      exact go_lret (pc := 86) dX10_odds_86 rfl ⟨Nat.le_of_ble_eq_true rfl, Nat.le_of_ble_eq_true rfl⟩ H
    · refine go_aload_n (pc := 69) dX10_odds_69 rfl rfl ?_
      refine go_getR (pc := 70) dX10_odds_70 fl_X10_78 H (fun v408 H => ?_)
      refine go_getJ (pc := 73) dX10_odds_73 fl_X10_284 H (fun v409 H => ?_)
      refine go_goto (pc := 76) (tgt := 86) dX10_odds_76 (by decide) ?_
      exact go_lret (pc := 86) dX10_odds_86 rfl ⟨Nat.le_of_ble_eq_true rfl, Nat.le_of_ble_eq_true rfl⟩ H
  · refine go_ldc2 (pc := 48) (v := (-1)) dX10_odds_48 wd_1108 ?_
    exact go_lret (pc := 51) dX10_odds_51 rfl ⟨Nat.le_of_ble_eq_true rfl, Nat.le_of_ble_eq_true rfl⟩ H

def X10_odds_B40 (a0 : Nat) (a1 : Int32) (a2 : Int32) (a3 : Int32) (a4 : Int32) (s0 : Nat) (h : Hp) : Option (Int64 × Hp) :=
  X10_odds_B42 a0 a1 a2 a3 s0 a4 h
theorem X10_odds_B40_ok {hh h' : Hp} {r : Int64}  (a0 : Nat) (a1 : Int32) (a2 : Int32) (a3 : Int32) (a4 : Int32) (s0 : Nat) (h : Hp) (H : X10_odds_B40 a0 a1 a2 a3 a4 s0 h = some (r, h')) : Go (PM M_X10_odds hh (some (.long r)) h') M_X10_odds 40 [some (.ref a0), some (.int a1), some (.int a2), some (.int a3), some (.int a4), none] [.ref s0] h 0 0 := by
  unfold X10_odds_B40 at H
  refine go_iload (pc := 40) dX10_odds_40 rfl ?_
  exact Go.weak (L' := [some (.ref a0), some (.int a1), some (.int a2), some (.int a3), none, none]) ⟨rfl, ⟨rfl, ⟨rfl, ⟨rfl, trivial⟩⟩⟩⟩ (X10_odds_B42_ok a0 a1 a2 a3 s0 a4 h H)

def X10_odds_B23 (a0 : Nat) (a1 : Int32) (a2 : Int32) (a3 : Int32) (a4 : Int32) (s0 : Int32) (h : Hp) : Option (Int64 × Hp) :=
  if a4 = 0 then (
    if s0 = 0 then (
      X10_odds_B42 a0 a1 a2 a3 a0 2 h)
    else (
      X10_odds_B40 a0 a1 a2 a3 a4 a0 h))
  else (
    X10_odds_B40 a0 a1 a2 a3 a4 a0 h)
theorem X10_odds_B23_ok {hh h' : Hp} {r : Int64}  (a0 : Nat) (a1 : Int32) (a2 : Int32) (a3 : Int32) (a4 : Int32) (s0 : Int32) (h : Hp) (H : X10_odds_B23 a0 a1 a2 a3 a4 s0 h = some (r, h')) : Go (PM M_X10_odds hh (some (.long r)) h') M_X10_odds 23 [some (.ref a0), some (.int a1), some (.int a2), some (.int a3), some (.int a4), none] [.int s0] h 0 0 := by
  unfold X10_odds_B23 at H
  refine go_istore (pc := 23) (L' := [some (.ref a0), some (.int a1), some (.int a2), some (.int a3), some (.int a4), some (.int s0)]) dX10_odds_23 (Nat.le_of_ble_eq_true rfl) rfl ?_
  refine go_aload_n (pc := 25) dX10_odds_25 rfl rfl ?_
  refine go_iload (pc := 26) dX10_odds_26 rfl ?_
  refine go_if_ne (pc := 28) (tgt := 40) dX10_odds_28 (by decide) H (fun H => ?_) (fun H => ?_)
  · exact Go.weak (L' := [some (.ref a0), some (.int a1), some (.int a2), some (.int a3), some (.int a4), none]) ⟨rfl, ⟨rfl, ⟨rfl, ⟨rfl, ⟨rfl, trivial⟩⟩⟩⟩⟩ (X10_odds_B40_ok a0 a1 a2 a3 a4 a0 h H)
  · refine go_iload (pc := 31) dX10_odds_31 rfl ?_
    refine go_if_ne (pc := 33) (tgt := 40) dX10_odds_33 (by decide) H (fun H => ?_) (fun H => ?_)
    · exact Go.weak (L' := [some (.ref a0), some (.int a1), some (.int a2), some (.int a3), some (.int a4), none]) ⟨rfl, ⟨rfl, ⟨rfl, ⟨rfl, ⟨rfl, trivial⟩⟩⟩⟩⟩ (X10_odds_B40_ok a0 a1 a2 a3 a4 a0 h H)
    · refine go_iconst (pc := 36) (v := 2) dX10_odds_36 (by decide) ?_
      refine go_goto (pc := 37) (tgt := 42) dX10_odds_37 (by decide) ?_
      exact Go.weak (L' := [some (.ref a0), some (.int a1), some (.int a2), some (.int a3), none, none]) ⟨rfl, ⟨rfl, ⟨rfl, ⟨rfl, trivial⟩⟩⟩⟩ (X10_odds_B42_ok a0 a1 a2 a3 a0 2 h H)

def X10_odds_B22 (a0 : Nat) (a1 : Int32) (a2 : Int32) (a3 : Int32) (a4 : Int32) (h : Hp) : Option (Int64 × Hp) :=
  X10_odds_B23 a0 a1 a2 a3 a4 0 h
theorem X10_odds_B22_ok {hh h' : Hp} {r : Int64}  (a0 : Nat) (a1 : Int32) (a2 : Int32) (a3 : Int32) (a4 : Int32) (h : Hp) (H : X10_odds_B22 a0 a1 a2 a3 a4 h = some (r, h')) : Go (PM M_X10_odds hh (some (.long r)) h') M_X10_odds 22 [some (.ref a0), some (.int a1), some (.int a2), some (.int a3), some (.int a4), none] [] h 0 0 := by
  unfold X10_odds_B22 at H
  refine go_iconst (pc := 22) (v := 0) dX10_odds_22 (by decide) ?_
  exact Go.weak (L' := [some (.ref a0), some (.int a1), some (.int a2), some (.int a3), some (.int a4), none]) ⟨rfl, ⟨rfl, ⟨rfl, ⟨rfl, ⟨rfl, trivial⟩⟩⟩⟩⟩ (X10_odds_B23_ok a0 a1 a2 a3 a4 0 h H)

def X10_odds (a0 : Nat) (a1 : Int32) (a2 : Int32) (a3 : Int32) (h : Hp) : Option (Int64 × Hp) :=
  cV h a0 10 (X10_whyNotAfter a0 a1 h) fun v2 h1 =>
  if a2 < 0 then (
    X10_odds_B22 a0 a1 a2 a3 v2 h1)
  else (
    if 30000 < a2 then (
      X10_odds_B22 a0 a1 a2 a3 v2 h1)
    else (
      X10_odds_B23 a0 a1 a2 a3 v2 1 h1))
theorem X10_odds_ok {a0 : Nat} {a1 : Int32} {a2 : Int32} {a3 : Int32} {h h' : Hp} {r : Int64} (H : X10_odds a0 a1 a2 a3 h = some (r, h')) : Con M_X10_odds [.ref a0, .int a1, .int a2, .int a3] h (some (.long r)) h' := by
  refine con_of_go (by decide) 2 (L := [some (.ref a0), some (.int a1), some (.int a2), some (.int a3), none, none]) rfl (Nat.le_of_ble_eq_true rfl) ?_
  unfold X10_odds at H
  refine go_aload_n (pc := 0) dX10_odds_0 rfl rfl ?_
  refine go_iload_n (pc := 1) dX10_odds_1 rfl rfl ?_
  refine go_cVi (pc := 2) (Mz := M_X10_whyNotAfter) (as := [.int a1]) (a := a0) (st := []) dX10_odds_2 wd_814 cv_X10_whyNotAfter X10_whyNotAfter_ok rfl rfl ⟨Nat.le_of_ble_eq_true rfl, Nat.le_of_ble_eq_true rfl⟩ (Nat.le_of_ble_eq_true rfl) ⟨rfl, rfl⟩ ⟨Nat.le_of_ble_eq_true rfl, Nat.le_of_ble_eq_true rfl⟩ H (fun v2 h1 H => ?_)
  refine go_istore (pc := 5) (L' := [some (.ref a0), some (.int a1), some (.int a2), some (.int a3), some (.int v2), none]) dX10_odds_5 (Nat.le_of_ble_eq_true rfl) rfl ?_
  refine go_iload_n (pc := 7) dX10_odds_7 rfl rfl ?_
  refine go_if_lt (pc := 8) (tgt := 22) dX10_odds_8 (by decide) H (fun H => ?_) (fun H => ?_)
  · exact Go.weak (L' := [some (.ref a0), some (.int a1), some (.int a2), some (.int a3), some (.int v2), none]) ⟨rfl, ⟨rfl, ⟨rfl, ⟨rfl, ⟨rfl, trivial⟩⟩⟩⟩⟩ (X10_odds_B22_ok a0 a1 a2 a3 v2 h1 H)
  · refine go_iload_n (pc := 11) dX10_odds_11 rfl rfl ?_
    refine go_sipush (pc := 12) (v := 30000) dX10_odds_12 (by decide) ?_
    refine go_icmp_gt (pc := 15) (tgt := 22) dX10_odds_15 (by decide) H (fun H => ?_) (fun H => ?_)
    · exact Go.weak (L' := [some (.ref a0), some (.int a1), some (.int a2), some (.int a3), some (.int v2), none]) ⟨rfl, ⟨rfl, ⟨rfl, ⟨rfl, ⟨rfl, trivial⟩⟩⟩⟩⟩ (X10_odds_B22_ok a0 a1 a2 a3 v2 h1 H)
    · refine go_iconst (pc := 18) (v := 1) dX10_odds_18 (by decide) ?_
      refine go_goto (pc := 19) (tgt := 23) dX10_odds_19 (by decide) ?_
      exact Go.weak (L' := [some (.ref a0), some (.int a1), some (.int a2), some (.int a3), some (.int v2), none]) ⟨rfl, ⟨rfl, ⟨rfl, ⟨rfl, ⟨rfl, trivial⟩⟩⟩⟩⟩ (X10_odds_B23_ok a0 a1 a2 a3 v2 1 h1 H)

def M_X10_mean : MD := (yX10_mean, cX10_mean, 3, (some .long), 5, 118, 0, 0)
theorem cv_X10_mean : CVo M_X10_mean 2 10 := ⟨⟨wd_1136, wd_109, ⟨by decide, by decide⟩, by decide +kernel⟩, wd_1134, wd_1135, _, rfl, rfl⟩
def X10_mean (a0 : Nat) (a1 : Int32) (a2 : Int32) (h : Hp) : Option (Int64 × Hp) :=
  cV h a0 10 (X10_whyNotAfter a0 a1 h) fun v2 h1 =>
  cV h1 a0 10 (X10_isRefused a0 v2 h1) fun v4 h3 =>
  if v4 = 0 then (
    (gR h3 a0 10 8).bind fun v5 =>
    (gR h3 a0 10 2).bind fun v6 =>
    cVv h3 v5 2 (X2_weighMean v5 v6 a1 h3) fun h7 =>
    if a2 = 0 then (
      (gR h7 a0 10 8).bind fun v8 =>
      (gJ h7 v8 2 1).bind fun v9 =>
      some (v9, h7))
    else (
      (gR h7 a0 10 8).bind fun v10 =>
      (gJ h7 v10 2 2).bind fun v11 =>
      some (v11, h7)))
  else (
    some ((-1), h3))
theorem X10_mean_ok {a0 : Nat} {a1 : Int32} {a2 : Int32} {h h' : Hp} {r : Int64} (H : X10_mean a0 a1 a2 h = some (r, h')) : Con M_X10_mean [.ref a0, .int a1, .int a2] h (some (.long r)) h' := by
  refine con_of_go (by decide) 0 (L := [some (.ref a0), some (.int a1), some (.int a2)]) rfl (Nat.le_of_ble_eq_true rfl) ?_
  unfold X10_mean at H
  refine go_aload_n (pc := 0) dX10_mean_0 rfl rfl ?_
  refine go_aload_n (pc := 1) dX10_mean_1 rfl rfl ?_
  refine go_iload_n (pc := 2) dX10_mean_2 rfl rfl ?_
  refine go_cVi (pc := 3) (Mz := M_X10_whyNotAfter) (as := [.int a1]) (a := a0) (st := [.ref a0]) dX10_mean_3 wd_814 cv_X10_whyNotAfter X10_whyNotAfter_ok rfl rfl ⟨Nat.le_of_ble_eq_true rfl, Nat.le_of_ble_eq_true rfl⟩ (Nat.le_of_ble_eq_true rfl) ⟨rfl, rfl⟩ ⟨Nat.le_of_ble_eq_true rfl, Nat.le_of_ble_eq_true rfl⟩ H (fun v2 h1 H => ?_)
  refine go_cVi (pc := 6) (Mz := M_X10_isRefused) (as := [.int v2]) (a := a0) (st := []) dX10_mean_6 wd_511 cv_X10_isRefused X10_isRefused_ok rfl rfl ⟨Nat.le_of_ble_eq_true rfl, Nat.le_of_ble_eq_true rfl⟩ (Nat.le_of_ble_eq_true rfl) ⟨rfl, rfl⟩ ⟨Nat.le_of_ble_eq_true rfl, Nat.le_of_ble_eq_true rfl⟩ H (fun v4 h3 H => ?_)
  refine go_if_eq (pc := 9) (tgt := 16) dX10_mean_9 (by decide) H (fun H => ?_) (fun H => ?_)
  · refine go_aload_n (pc := 16) dX10_mean_16 rfl rfl ?_
    refine go_getR (pc := 17) dX10_mean_17 fl_X10_78 H (fun v5 H => ?_)
    refine go_aload_n (pc := 20) dX10_mean_20 rfl rfl ?_
    refine go_getR (pc := 21) dX10_mean_21 fl_X10_35 H (fun v6 H => ?_)
    refine go_iload_n (pc := 24) dX10_mean_24 rfl rfl ?_
    refine go_cVv (pc := 25) (Mz := M_X2_weighMean) (as := [.ref v6, .int a1]) (a := v5) (st := []) dX10_mean_25 wd_1137 cv_X2_weighMean X2_weighMean_ok rfl rfl ⟨Nat.le_of_ble_eq_true rfl, Nat.le_of_ble_eq_true rfl⟩ (Nat.le_of_ble_eq_true rfl) ⟨rfl, rfl⟩ ⟨Nat.le_of_ble_eq_true rfl, Nat.le_of_ble_eq_true rfl⟩ H (fun h7 H => ?_)
    refine go_iload_n (pc := 28) dX10_mean_28 rfl rfl ?_
    refine go_if_eq (pc := 29) (tgt := 42) dX10_mean_29 (by decide) H (fun H => ?_) (fun H => ?_)
    · refine go_aload_n (pc := 42) dX10_mean_42 rfl rfl ?_
      refine go_getR (pc := 43) dX10_mean_43 fl_X10_78 H (fun v8 H => ?_)
      refine go_getJ (pc := 46) dX10_mean_46 fl_X10_288 H (fun v9 H => ?_)
      exact go_lret (pc := 49) dX10_mean_49 rfl ⟨Nat.le_of_ble_eq_true rfl, Nat.le_of_ble_eq_true rfl⟩ H
    · refine go_aload_n (pc := 32) dX10_mean_32 rfl rfl ?_
      refine go_getR (pc := 33) dX10_mean_33 fl_X10_78 H (fun v10 H => ?_)
      refine go_getJ (pc := 36) dX10_mean_36 fl_X10_284 H (fun v11 H => ?_)
      refine go_goto (pc := 39) (tgt := 49) dX10_mean_39 (by decide) ?_
      exact go_lret (pc := 49) dX10_mean_49 rfl ⟨Nat.le_of_ble_eq_true rfl, Nat.le_of_ble_eq_true rfl⟩ H
  · refine go_ldc2 (pc := 12) (v := (-1)) dX10_mean_12 wd_1108 ?_
    exact go_lret (pc := 15) dX10_mean_15 rfl ⟨Nat.le_of_ble_eq_true rfl, Nat.le_of_ble_eq_true rfl⟩ H

def M_X10_dearest : MD := (yX10_dearest, cX10_dearest, 1, (some .int), 5, 121, 0, 0)
theorem cv_X10_dearest : CVo M_X10_dearest 0 10 := ⟨⟨wd_1144, wd_109, ⟨by decide, by decide⟩, by decide +kernel⟩, wd_1142, wd_1143, _, rfl, rfl⟩
def X10_dearest (a0 : Nat) (h : Hp) : Option (Int32 × Hp) :=
  cV h a0 10 (X10_whyNotUnderWay a0 h) fun v2 h1 =>
  cV h1 a0 10 (X10_isRefused a0 v2 h1) fun v4 h3 =>
  if v4 = 0 then (
    (gR h3 a0 10 8).bind fun v5 =>
    (gR h3 a0 10 2).bind fun v6 =>
    cV h3 v5 2 (X2_dearestNoon v5 v6 h3) fun v8 h7 =>
    some (v8, h7))
  else (
    some ((-1), h3))
theorem X10_dearest_ok {a0 : Nat} {h h' : Hp} {r : Int32} (H : X10_dearest a0 h = some (r, h')) : Con M_X10_dearest [.ref a0] h (some (.int r)) h' := by
  refine con_of_go (by decide) 0 (L := [some (.ref a0)]) rfl (Nat.le_of_ble_eq_true rfl) ?_
  unfold X10_dearest at H
  refine go_aload_n (pc := 0) dX10_dearest_0 rfl rfl ?_
  refine go_aload_n (pc := 1) dX10_dearest_1 rfl rfl ?_
  refine go_cVi (pc := 2) (Mz := M_X10_whyNotUnderWay) (as := []) (a := a0) (st := [.ref a0]) dX10_dearest_2 wd_831 cv_X10_whyNotUnderWay X10_whyNotUnderWay_ok rfl rfl ⟨Nat.le_of_ble_eq_true rfl, Nat.le_of_ble_eq_true rfl⟩ (Nat.le_of_ble_eq_true rfl) ⟨rfl, rfl⟩ ⟨Nat.le_of_ble_eq_true rfl, Nat.le_of_ble_eq_true rfl⟩ H (fun v2 h1 H => ?_)
  refine go_cVi (pc := 5) (Mz := M_X10_isRefused) (as := [.int v2]) (a := a0) (st := []) dX10_dearest_5 wd_511 cv_X10_isRefused X10_isRefused_ok rfl rfl ⟨Nat.le_of_ble_eq_true rfl, Nat.le_of_ble_eq_true rfl⟩ (Nat.le_of_ble_eq_true rfl) ⟨rfl, rfl⟩ ⟨Nat.le_of_ble_eq_true rfl, Nat.le_of_ble_eq_true rfl⟩ H (fun v4 h3 H => ?_)
  refine go_if_eq (pc := 8) (tgt := 13) dX10_dearest_8 (by decide) H (fun H => ?_) (fun H => ?_)
  · refine go_aload_n (pc := 13) dX10_dearest_13 rfl rfl ?_
    refine go_getR (pc := 14) dX10_dearest_14 fl_X10_78 H (fun v5 H => ?_)
    refine go_aload_n (pc := 17) dX10_dearest_17 rfl rfl ?_
    refine go_getR (pc := 18) dX10_dearest_18 fl_X10_35 H (fun v6 H => ?_)
    refine go_cVi (pc := 21) (Mz := M_X2_dearestNoon) (as := [.ref v6]) (a := v5) (st := []) dX10_dearest_21 wd_1145 cv_X2_dearestNoon X2_dearestNoon_ok rfl rfl ⟨Nat.le_of_ble_eq_true rfl, Nat.le_of_ble_eq_true rfl⟩ (Nat.le_of_ble_eq_true rfl) ⟨rfl, rfl⟩ ⟨Nat.le_of_ble_eq_true rfl, Nat.le_of_ble_eq_true rfl⟩ H (fun v8 h7 H => ?_)
    exact go_iret (pc := 24) dX10_dearest_24 rfl ⟨Nat.le_of_ble_eq_true rfl, Nat.le_of_ble_eq_true rfl⟩ H
  · refine go_iconst (pc := 11) (v := (-1)) dX10_dearest_11 (by decide) ?_
    exact go_iret (pc := 12) dX10_dearest_12 rfl ⟨Nat.le_of_ble_eq_true rfl, Nat.le_of_ble_eq_true rfl⟩ H

def M_X10_isPort : MD := (yX10_isPort, cX10_isPort, 1, (some .boolean), 0, 0, 0, 0)
theorem cs_X10_isPort : CSo M_X10_isPort 1 := ⟨⟨wd_1155, wd_109, ⟨by decide, by decide⟩, by decide +kernel⟩, wd_1154⟩
def X10_isPort (a0 : Int32) (h : Hp) : Option (Int32 × Hp) :=
  if a0 < 0 then (
    rZ 0 h)
  else (
    if 9 < a0 then (
      rZ 0 h)
    else (
      rZ 1 h))
theorem X10_isPort_ok {a0 : Int32} {h h' : Hp} {r : Int32} (H : X10_isPort a0 h = some (r, h')) : Con M_X10_isPort [.int a0] h (some (.int r)) h' := by
  refine con_of_go (by decide) 0 (L := [some (.int a0)]) rfl (Nat.le_of_ble_eq_true rfl) ?_
  unfold X10_isPort at H
  refine go_iload_n (pc := 0) dX10_isPort_0 rfl rfl ?_
  refine go_if_lt (pc := 1) (tgt := 14) dX10_isPort_1 (by decide) H (fun H => ?_) (fun H => ?_)
  · refine go_iconst (pc := 14) (v := 0) dX10_isPort_14 (by decide) ?_
    exact go_zret (pc := 15) dX10_isPort_15 rfl ⟨Nat.le_of_ble_eq_true rfl, Nat.le_of_ble_eq_true rfl⟩ H
  · refine go_iload_n (pc := 4) dX10_isPort_4 rfl rfl ?_
    refine go_bipush (pc := 5) (v := 9) dX10_isPort_5 (by decide) ?_
    refine go_icmp_gt (pc := 7) (tgt := 14) dX10_isPort_7 (by decide) H (fun H => ?_) (fun H => ?_)
    · refine go_iconst (pc := 14) (v := 0) dX10_isPort_14 (by decide) ?_
      exact go_zret (pc := 15) dX10_isPort_15 rfl ⟨Nat.le_of_ble_eq_true rfl, Nat.le_of_ble_eq_true rfl⟩ H
    · refine go_iconst (pc := 10) (v := 1) dX10_isPort_10 (by decide) ?_
      refine go_goto (pc := 11) (tgt := 15) dX10_isPort_11 (by decide) ?_
      exact go_zret (pc := 15) dX10_isPort_15 rfl ⟨Nat.le_of_ble_eq_true rfl, Nat.le_of_ble_eq_true rfl⟩ H

def M_X10_shareOf : MD := (yX10_shareOf, cX10_shareOf, 3, (some .int), 0, 0, 0, 0)
theorem cs_X10_shareOf : CSo M_X10_shareOf 3 := ⟨⟨wd_1158, wd_109, ⟨by decide, by decide⟩, by decide +kernel⟩, wd_1157⟩
def X10_shareOf (a0 : Int32) (a1 : Int32) (a2 : Int32) (h : Hp) : Option (Int32 × Hp) :=
  if a1 = 0 then (
    if a2 = 0 then (
      some (1, h))
    else (
      some ((-1), h)))
  else (
    if a2 = 0 then (
      some (2, h))
    else (
      some (3 - a0, h)))
theorem X10_shareOf_ok {a0 : Int32} {a1 : Int32} {a2 : Int32} {h h' : Hp} {r : Int32} (H : X10_shareOf a0 a1 a2 h = some (r, h')) : Con M_X10_shareOf [.int a0, .int a1, .int a2] h (some (.int r)) h' := by
  refine con_of_go (by decide) 0 (L := [some (.int a0), some (.int a1), some (.int a2)]) rfl (Nat.le_of_ble_eq_true rfl) ?_
  unfold X10_shareOf at H
  refine go_iload_n (pc := 0) dX10_shareOf_0 rfl rfl ?_
  refine go_if_eq (pc := 1) (tgt := 16) dX10_shareOf_1 (by decide) H (fun H => ?_) (fun H => ?_)
  · refine go_iload_n (pc := 16) dX10_shareOf_16 rfl rfl ?_
    refine go_if_eq (pc := 17) (tgt := 24) dX10_shareOf_17 (by decide) H (fun H => ?_) (fun H => ?_)
    · refine go_iconst (pc := 24) (v := 1) dX10_shareOf_24 (by decide) ?_
      exact go_iret (pc := 25) dX10_shareOf_25 rfl ⟨Nat.le_of_ble_eq_true rfl, Nat.le_of_ble_eq_true rfl⟩ H
    · refine go_iconst (pc := 20) (v := (-1)) dX10_shareOf_20 (by decide) ?_
      refine go_goto (pc := 21) (tgt := 25) dX10_shareOf_21 (by decide) ?_
      exact go_iret (pc := 25) dX10_shareOf_25 rfl ⟨Nat.le_of_ble_eq_true rfl, Nat.le_of_ble_eq_true rfl⟩ H
  · refine go_iload_n (pc := 4) dX10_shareOf_4 rfl rfl ?_
    refine go_if_eq (pc := 5) (tgt := 14) dX10_shareOf_5 (by decide) H (fun H => ?_) (fun H => ?_)
    · refine go_iconst (pc := 14) (v := 2) dX10_shareOf_14 (by decide) ?_
      exact go_iret (pc := 15) dX10_shareOf_15 rfl ⟨Nat.le_of_ble_eq_true rfl, Nat.le_of_ble_eq_true rfl⟩ H
    · refine go_iconst (pc := 8) (v := 3) dX10_shareOf_8 (by decide) ?_
      refine go_iload_n (pc := 9) dX10_shareOf_9 rfl rfl ?_
      refine go_isub (pc := 10) dX10_shareOf_10 ?_
      refine go_goto (pc := 11) (tgt := 15) dX10_shareOf_11 (by decide) ?_
      exact go_iret (pc := 15) dX10_shareOf_15 rfl ⟨Nat.le_of_ble_eq_true rfl, Nat.le_of_ble_eq_true rfl⟩ H

def M_X10_steals : MD := (yX10_steals, cX10_steals, 5, (some .int), 1, 22, 0, 0)
theorem cv_X10_steals : CVo M_X10_steals 4 10 := ⟨⟨wd_1152, wd_109, ⟨by decide, by decide⟩, by decide +kernel⟩, wd_1150, wd_1151, _, rfl, rfl⟩
def X10_steals (a0 : Nat) (a1 : Int32) (a2 : Int32) (a3 : Int32) (a4 : Int32) (h : Hp) : Option (Int32 × Hp) :=
  (gI h a0 10 11).bind fun v1 =>
  bd (X10_isPort a1 h) fun v3 h2 =>
  bd (X10_whyNot v1 v3 h2) fun v5 h4 =>
  cV h4 a0 10 (X10_isRefused a0 v5 h4) fun v7 h6 =>
  if v7 = 0 then (
    if a4 = 0 then (
      bd (X10_shareOf a1 a2 a3 h6) fun v9 h8 =>
      some (v9, h8))
    else (
      bd (X10_shareOf a1 a3 a2 h6) fun v11 h10 =>
      some (v11, h10)))
  else (
    some ((-100), h6))
theorem X10_steals_ok {a0 : Nat} {a1 : Int32} {a2 : Int32} {a3 : Int32} {a4 : Int32} {h h' : Hp} {r : Int32} (H : X10_steals a0 a1 a2 a3 a4 h = some (r, h')) : Con M_X10_steals [.ref a0, .int a1, .int a2, .int a3, .int a4] h (some (.int r)) h' := by
  refine con_of_go (by decide) 0 (L := [some (.ref a0), some (.int a1), some (.int a2), some (.int a3), some (.int a4)]) rfl (Nat.le_of_ble_eq_true rfl) ?_
  unfold X10_steals at H
  refine go_aload_n (pc := 0) dX10_steals_0 rfl rfl ?_
  refine go_aload_n (pc := 1) dX10_steals_1 rfl rfl ?_
  refine go_getI (pc := 2) dX10_steals_2 fl_X10_144 H (fun v1 H => ?_)
  refine go_iload_n (pc := 5) dX10_steals_5 rfl rfl ?_
  refine go_cSi (pc := 6) (Mz := M_X10_isPort) (as := [.int a1]) (st := [.int v1, .ref a0]) dX10_steals_6 wd_1153 cs_X10_isPort X10_isPort_ok rfl rfl ⟨Nat.le_of_ble_eq_true rfl, Nat.le_of_ble_eq_true rfl⟩ (Nat.le_of_ble_eq_true rfl) ⟨rfl, rfl⟩ ⟨Nat.le_of_ble_eq_true rfl, Nat.le_of_ble_eq_true rfl⟩ H (fun v3 h2 H => ?_)
  refine go_cSi (pc := 9) (Mz := M_X10_whyNot) (as := [.int v1, .int v3]) (st := [.ref a0]) dX10_steals_9 wd_798 cs_X10_whyNot X10_whyNot_ok rfl rfl ⟨Nat.le_of_ble_eq_true rfl, Nat.le_of_ble_eq_true rfl⟩ (Nat.le_of_ble_eq_true rfl) ⟨rfl, rfl⟩ ⟨Nat.le_of_ble_eq_true rfl, Nat.le_of_ble_eq_true rfl⟩ H (fun v5 h4 H => ?_)
  refine go_cVi (pc := 12) (Mz := M_X10_isRefused) (as := [.int v5]) (a := a0) (st := []) dX10_steals_12 wd_511 cv_X10_isRefused X10_isRefused_ok rfl rfl ⟨Nat.le_of_ble_eq_true rfl, Nat.le_of_ble_eq_true rfl⟩ (Nat.le_of_ble_eq_true rfl) ⟨rfl, rfl⟩ ⟨Nat.le_of_ble_eq_true rfl, Nat.le_of_ble_eq_true rfl⟩ H (fun v7 h6 H => ?_)
  refine go_if_eq (pc := 15) (tgt := 21) dX10_steals_15 (by decide) H (fun H => ?_) (fun H => ?_)
  · refine go_iload (pc := 21) dX10_steals_21 rfl ?_
    refine go_if_eq (pc := 23) (tgt := 35) dX10_steals_23 (by decide) H (fun H => ?_) (fun H => ?_)
    · refine go_iload_n (pc := 35) dX10_steals_35 rfl rfl ?_
      refine go_iload_n (pc := 36) dX10_steals_36 rfl rfl ?_
      refine go_iload_n (pc := 37) dX10_steals_37 rfl rfl ?_
      refine go_cSi (pc := 38) (Mz := M_X10_shareOf) (as := [.int a1, .int a2, .int a3]) (st := []) dX10_steals_38 wd_1156 cs_X10_shareOf X10_shareOf_ok rfl rfl ⟨Nat.le_of_ble_eq_true rfl, Nat.le_of_ble_eq_true rfl⟩ (Nat.le_of_ble_eq_true rfl) ⟨rfl, rfl⟩ ⟨Nat.le_of_ble_eq_true rfl, Nat.le_of_ble_eq_true rfl⟩ H (fun v9 h8 H => ?_)
      exact go_iret (pc := 41) dX10_steals_41 rfl ⟨Nat.le_of_ble_eq_true rfl, Nat.le_of_ble_eq_true rfl⟩ H
    · refine go_iload_n (pc := 26) dX10_steals_26 rfl rfl ?_
      refine go_iload_n (pc := 27) dX10_steals_27 rfl rfl ?_
      refine go_iload_n (pc := 28) dX10_steals_28 rfl rfl ?_
      refine go_cSi (pc := 29) (Mz := M_X10_shareOf) (as := [.int a1, .int a3, .int a2]) (st := []) dX10_steals_29 wd_1156 cs_X10_shareOf X10_shareOf_ok rfl rfl ⟨Nat.le_of_ble_eq_true rfl, Nat.le_of_ble_eq_true rfl⟩ (Nat.le_of_ble_eq_true rfl) ⟨rfl, rfl⟩ ⟨Nat.le_of_ble_eq_true rfl, Nat.le_of_ble_eq_true rfl⟩ H (fun v11 h10 H => ?_)
      refine go_goto (pc := 32) (tgt := 41) dX10_steals_32 (by decide) ?_
      exact go_iret (pc := 41) dX10_steals_41 rfl ⟨Nat.le_of_ble_eq_true rfl, Nat.le_of_ble_eq_true rfl⟩ H
  · refine go_bipush (pc := 18) (v := (-100)) dX10_steals_18 (by decide) ?_
    exact go_iret (pc := 20) dX10_steals_20 rfl ⟨Nat.le_of_ble_eq_true rfl, Nat.le_of_ble_eq_true rfl⟩ H

def M_X10_isRest : MD := (yX10_isRest, cX10_isRest, 4, (some .boolean), 1, 22, 0, 0)
theorem cs_X10_isRest : CSo M_X10_isRest 2 := ⟨⟨wd_1165, wd_109, ⟨by decide, by decide⟩, by decide +kernel⟩, wd_1164⟩
def X10_isRest_B63 (a2 : Int32) (s0 : Int32) (s1 : Int32) (s2 : Int32) (h : Hp) : Option (Int32 × Hp) :=
  bd (X10_shareOf s1 s2 a2 h) fun v402 h401 =>
  if s0 < v402 then (
    rZ 0 h401)
  else (
    rZ 1 h401)
theorem X10_isRest_B63_ok {hh h' : Hp} {r : Int32}  (a2 : Int32) (s0 : Int32) (s1 : Int32) (s2 : Int32) (h : Hp) (H : X10_isRest_B63 a2 s0 s1 s2 h = some (r, h')) : Go (PM M_X10_isRest hh (some (.int r)) h') M_X10_isRest 63 [none, none, some (.int a2), none] [.int s2, .int s1, .int s0] h 0 0 := by
  unfold X10_isRest_B63 at H
  refine go_iload_n (pc := 63) dX10_isRest_63 rfl rfl ?_
  refine go_cSi (pc := 64) (Mz := M_X10_shareOf) (as := [.int s1, .int s2, .int a2]) (st := [.int s0]) dX10_isRest_64 wd_1156 cs_X10_shareOf X10_shareOf_ok rfl rfl ⟨Nat.le_of_ble_eq_true rfl, Nat.le_of_ble_eq_true rfl⟩ (Nat.le_of_ble_eq_true rfl) ⟨rfl, rfl⟩ ⟨Nat.le_of_ble_eq_true rfl, Nat.le_of_ble_eq_true rfl⟩ H (fun v402 h401 H => ?_)
  refine go_icmp_lt (pc := 67) (tgt := 74) dX10_isRest_67 (by decide) H (fun H => ?_) (fun H => ?_)
  · refine go_iconst (pc := 74) (v := 0) dX10_isRest_74 (by decide) ?_
    exact go_zret (pc := 75) dX10_isRest_75 rfl ⟨Nat.le_of_ble_eq_true rfl, Nat.le_of_ble_eq_true rfl⟩ H
  · refine go_iconst (pc := 70) (v := 1) dX10_isRest_70 (by decide) ?_
    refine go_goto (pc := 71) (tgt := 75) dX10_isRest_71 (by decide) ?_
    exact go_zret (pc := 75) dX10_isRest_75 rfl ⟨Nat.le_of_ble_eq_true rfl, Nat.le_of_ble_eq_true rfl⟩ H

def X10_isRest_B40 (a0 : Int32) (a2 : Int32) (a3 : Int32) (s0 : Int32) (s1 : Int32) (s2 : Int32) (h : Hp) : Option (Int32 × Hp) :=
  bd (X10_shareOf s1 s2 a3 h) fun v302 h301 =>
  if s0 < v302 then (
    rZ 0 h301)
  else (
    bd (X10_shareOf a0 a3 a2 h301) fun v304 h303 =>
    if a3 = 0 then (
      X10_isRest_B63 a2 v304 a0 1 h303)
    else (
      X10_isRest_B63 a2 v304 a0 0 h303))
theorem X10_isRest_B40_ok {hh h' : Hp} {r : Int32}  (a0 : Int32) (a2 : Int32) (a3 : Int32) (s0 : Int32) (s1 : Int32) (s2 : Int32) (h : Hp) (H : X10_isRest_B40 a0 a2 a3 s0 s1 s2 h = some (r, h')) : Go (PM M_X10_isRest hh (some (.int r)) h') M_X10_isRest 40 [some (.int a0), none, some (.int a2), some (.int a3)] [.int s2, .int s1, .int s0] h 0 0 := by
  unfold X10_isRest_B40 at H
  refine go_iload_n (pc := 40) dX10_isRest_40 rfl rfl ?_
  refine go_cSi (pc := 41) (Mz := M_X10_shareOf) (as := [.int s1, .int s2, .int a3]) (st := [.int s0]) dX10_isRest_41 wd_1156 cs_X10_shareOf X10_shareOf_ok rfl rfl ⟨Nat.le_of_ble_eq_true rfl, Nat.le_of_ble_eq_true rfl⟩ (Nat.le_of_ble_eq_true rfl) ⟨rfl, rfl⟩ ⟨Nat.le_of_ble_eq_true rfl, Nat.le_of_ble_eq_true rfl⟩ H (fun v302 h301 H => ?_)
  refine go_icmp_lt (pc := 44) (tgt := 74) dX10_isRest_44 (by decide) H (fun H => ?_) (fun H => ?_)
  · refine go_iconst (pc := 74) (v := 0) dX10_isRest_74 (by decide) ?_
    exact go_zret (pc := 75) dX10_isRest_75 rfl ⟨Nat.le_of_ble_eq_true rfl, Nat.le_of_ble_eq_true rfl⟩ H
  · refine go_iload_n (pc := 47) dX10_isRest_47 rfl rfl ?_
    refine go_iload_n (pc := 48) dX10_isRest_48 rfl rfl ?_
    refine go_iload_n (pc := 49) dX10_isRest_49 rfl rfl ?_
    refine go_cSi (pc := 50) (Mz := M_X10_shareOf) (as := [.int a0, .int a3, .int a2]) (st := []) dX10_isRest_50 wd_1156 cs_X10_shareOf X10_shareOf_ok rfl rfl ⟨Nat.le_of_ble_eq_true rfl, Nat.le_of_ble_eq_true rfl⟩ (Nat.le_of_ble_eq_true rfl) ⟨rfl, rfl⟩ ⟨Nat.le_of_ble_eq_true rfl, Nat.le_of_ble_eq_true rfl⟩ H (fun v304 h303 H => ?_)
    refine go_iload_n (pc := 53) dX10_isRest_53 rfl rfl ?_
    refine go_iload_n (pc := 54) dX10_isRest_54 rfl rfl ?_
    refine go_if_ne (pc := 55) (tgt := 62) dX10_isRest_55 (by decide) H (fun H => ?_) (fun H => ?_)
    · refine go_iconst (pc := 62) (v := 0) dX10_isRest_62 (by decide) ?_
      exact Go.weak (L' := [none, none, some (.int a2), none]) ⟨rfl, trivial⟩ (X10_isRest_B63_ok a2 v304 a0 0 h303 H)
    · refine go_iconst (pc := 58) (v := 1) dX10_isRest_58 (by decide) ?_
      refine go_goto (pc := 59) (tgt := 63) dX10_isRest_59 (by decide) ?_
      exact Go.weak (L' := [none, none, some (.int a2), none]) ⟨rfl, trivial⟩ (X10_isRest_B63_ok a2 v304 a0 1 h303 H)

def X10_isRest_B23 (a0 : Int32) (a2 : Int32) (s0 : Int32) (h : Hp) : Option (Int32 × Hp) :=
  bd (X10_shareOf a0 a2 s0 h) fun v202 h201 =>
  if a2 = 0 then (
    X10_isRest_B40 a0 a2 s0 v202 a0 1 h201)
  else (
    X10_isRest_B40 a0 a2 s0 v202 a0 0 h201)
theorem X10_isRest_B23_ok {hh h' : Hp} {r : Int32}  (a0 : Int32) (a2 : Int32) (s0 : Int32) (h : Hp) (H : X10_isRest_B23 a0 a2 s0 h = some (r, h')) : Go (PM M_X10_isRest hh (some (.int r)) h') M_X10_isRest 23 [some (.int a0), none, some (.int a2), none] [.int s0] h 0 0 := by
  unfold X10_isRest_B23 at H
  refine go_istore_n (pc := 23) (L' := [some (.int a0), none, some (.int a2), some (.int s0)]) dX10_isRest_23 rfl (Nat.le_of_ble_eq_true rfl) rfl ?_
  refine go_iload_n (pc := 24) dX10_isRest_24 rfl rfl ?_
  refine go_iload_n (pc := 25) dX10_isRest_25 rfl rfl ?_
  refine go_iload_n (pc := 26) dX10_isRest_26 rfl rfl ?_
  refine go_cSi (pc := 27) (Mz := M_X10_shareOf) (as := [.int a0, .int a2, .int s0]) (st := []) dX10_isRest_27 wd_1156 cs_X10_shareOf X10_shareOf_ok rfl rfl ⟨Nat.le_of_ble_eq_true rfl, Nat.le_of_ble_eq_true rfl⟩ (Nat.le_of_ble_eq_true rfl) ⟨rfl, rfl⟩ ⟨Nat.le_of_ble_eq_true rfl, Nat.le_of_ble_eq_true rfl⟩ H (fun v202 h201 H => ?_)
  refine go_iload_n (pc := 30) dX10_isRest_30 rfl rfl ?_
  refine go_iload_n (pc := 31) dX10_isRest_31 rfl rfl ?_
  refine go_if_ne (pc := 32) (tgt := 39) dX10_isRest_32 (by decide) H (fun H => ?_) (fun H => ?_)
  · refine go_iconst (pc := 39) (v := 0) dX10_isRest_39 (by decide) ?_
    exact Go.weak (L' := [some (.int a0), none, some (.int a2), some (.int s0)]) ⟨rfl, ⟨rfl, ⟨rfl, trivial⟩⟩⟩ (X10_isRest_B40_ok a0 a2 s0 v202 a0 0 h201 H)
  · refine go_iconst (pc := 35) (v := 1) dX10_isRest_35 (by decide) ?_
    refine go_goto (pc := 36) (tgt := 40) dX10_isRest_36 (by decide) ?_
    exact Go.weak (L' := [some (.int a0), none, some (.int a2), some (.int s0)]) ⟨rfl, ⟨rfl, ⟨rfl, trivial⟩⟩⟩ (X10_isRest_B40_ok a0 a2 s0 v202 a0 1 h201 H)

def X10_isRest_B11 (a0 : Int32) (a1 : Int32) (s0 : Int32) (h : Hp) : Option (Int32 × Hp) :=
  if (a1 &&& 1) = 0 then (
    X10_isRest_B23 a0 s0 0 h)
  else (
    X10_isRest_B23 a0 s0 1 h)
theorem X10_isRest_B11_ok {hh h' : Hp} {r : Int32}  (a0 : Int32) (a1 : Int32) (s0 : Int32) (h : Hp) (H : X10_isRest_B11 a0 a1 s0 h = some (r, h')) : Go (PM M_X10_isRest hh (some (.int r)) h') M_X10_isRest 11 [some (.int a0), some (.int a1), none, none] [.int s0] h 0 0 := by
  unfold X10_isRest_B11 at H
  refine go_istore_n (pc := 11) (L' := [some (.int a0), some (.int a1), some (.int s0), none]) dX10_isRest_11 rfl (Nat.le_of_ble_eq_true rfl) rfl ?_
  refine go_iload_n (pc := 12) dX10_isRest_12 rfl rfl ?_
  refine go_iconst (pc := 13) (v := 1) dX10_isRest_13 (by decide) ?_
  refine go_iand (pc := 14) dX10_isRest_14 ?_
  refine go_if_eq (pc := 15) (tgt := 22) dX10_isRest_15 (by decide) H (fun H => ?_) (fun H => ?_)
  · refine go_iconst (pc := 22) (v := 0) dX10_isRest_22 (by decide) ?_
    exact Go.weak (L' := [some (.int a0), none, some (.int s0), none]) ⟨rfl, ⟨rfl, trivial⟩⟩ (X10_isRest_B23_ok a0 s0 0 h H)
  · refine go_iconst (pc := 18) (v := 1) dX10_isRest_18 (by decide) ?_
    refine go_goto (pc := 19) (tgt := 23) dX10_isRest_19 (by decide) ?_
    exact Go.weak (L' := [some (.int a0), none, some (.int s0), none]) ⟨rfl, ⟨rfl, trivial⟩⟩ (X10_isRest_B23_ok a0 s0 1 h H)

def X10_isRest (a0 : Int32) (a1 : Int32) (h : Hp) : Option (Int32 × Hp) :=
  if (a1 &&& 2) = 0 then (
    X10_isRest_B11 a0 a1 0 h)
  else (
    X10_isRest_B11 a0 a1 1 h)
theorem X10_isRest_ok {a0 : Int32} {a1 : Int32} {h h' : Hp} {r : Int32} (H : X10_isRest a0 a1 h = some (r, h')) : Con M_X10_isRest [.int a0, .int a1] h (some (.int r)) h' := by
  refine con_of_go (by decide) 2 (L := [some (.int a0), some (.int a1), none, none]) rfl (Nat.le_of_ble_eq_true rfl) ?_
  unfold X10_isRest at H
  refine go_iload_n (pc := 0) dX10_isRest_0 rfl rfl ?_
  refine go_iconst (pc := 1) (v := 2) dX10_isRest_1 (by decide) ?_
  refine go_iand (pc := 2) dX10_isRest_2 ?_
  refine go_if_eq (pc := 3) (tgt := 10) dX10_isRest_3 (by decide) H (fun H => ?_) (fun H => ?_)
  · refine go_iconst (pc := 10) (v := 0) dX10_isRest_10 (by decide) ?_
    exact Go.weak (L' := [some (.int a0), some (.int a1), none, none]) ⟨rfl, ⟨rfl, trivial⟩⟩ (X10_isRest_B11_ok a0 a1 0 h H)
  · refine go_iconst (pc := 6) (v := 1) dX10_isRest_6 (by decide) ?_
    refine go_goto (pc := 7) (tgt := 11) dX10_isRest_7 (by decide) ?_
    exact Go.weak (L' := [some (.int a0), some (.int a1), none, none]) ⟨rfl, ⟨rfl, trivial⟩⟩ (X10_isRest_B11_ok a0 a1 1 h H)

def M_X10_rests : MD := (yX10_rests, cX10_rests, 4, (some .int), 2, 45, 0, 0)
theorem cv_X10_rests : CVo M_X10_rests 1 10 := ⟨⟨wd_1162, wd_109, ⟨by decide, by decide⟩, by decide +kernel⟩, wd_1160, wd_1161, _, rfl, rfl⟩
def X10_rests_B40 (rc24 : Int32 → Int32 → Int32 → Hp → Option (Int32 × Hp)) (a1 : Int32) (a2 : Int32) (a3 : Int32) (h : Hp) : Option (Int32 × Hp) :=
  rc24 a1 a2 (a3 + 1) h
theorem X10_rests_B40_ok {hh h' : Hp} {r : Int32}  (rc24 : Int32 → Int32 → Int32 → Hp → Option (Int32 × Hp)) (hrc24 : ∀ (a1 : Int32) (a2 : Int32) (a3 : Int32) (h : Hp), rc24 a1 a2 a3 h = some (r, h') → Go (PM M_X10_rests hh (some (.int r)) h') M_X10_rests 24 [none, some (.int a1), some (.int a2), some (.int a3)] [] h 0 0) (a1 : Int32) (a2 : Int32) (a3 : Int32) (h : Hp) (H : X10_rests_B40 rc24 a1 a2 a3 h = some (r, h')) : Go (PM M_X10_rests hh (some (.int r)) h') M_X10_rests 40 [none, some (.int a1), some (.int a2), some (.int a3)] [] h 0 0 := by
  unfold X10_rests_B40 at H
  refine go_iinc (pc := 40) (v := a3 + 1) (L' := [none, some (.int a1), some (.int a2), some (.int (a3 + 1))]) dX10_rests_40 rfl rfl (Nat.le_of_ble_eq_true rfl) rfl ?_
  refine go_goto (pc := 43) (tgt := 24) dX10_rests_43 (by decide) ?_
  exact Go.weak (L' := [none, some (.int a1), some (.int a2), some (.int (a3 + 1))]) ⟨rfl, ⟨rfl, ⟨rfl, trivial⟩⟩⟩ (hrc24 a1 a2 (a3 + 1) h H)

def X10_rests_L24_s (rc24 : Int32 → Int32 → Int32 → Hp → Option (Int32 × Hp)) (a1 : Int32) (a2 : Int32) (a3 : Int32) (h : Hp) : Option (Int32 × Hp) :=
  if 4 ≤ a3 then (
    some (a2, h))
  else (
    bd (X10_isRest a1 a3 h) fun v102 h101 =>
    if v102 = 0 then (
      X10_rests_B40 rc24 a1 a2 a3 h101)
    else (
      X10_rests_B40 rc24 a1 (a2 + 1) a3 h101))
def X10_rests_L24 (q : Nat) : Int32 → Int32 → Int32 → Hp → Option (Int32 × Hp) := loopN (fun _ _ _ _ => none) (X10_rests_L24_s) q
theorem X10_rests_L24_ok {hh h' : Hp} {r : Int32}  : ∀ (q : Nat) (a1 : Int32) (a2 : Int32) (a3 : Int32) (h : Hp), X10_rests_L24 q a1 a2 a3 h = some (r, h') → Go (PM M_X10_rests hh (some (.int r)) h') M_X10_rests 24 [none, some (.int a1), some (.int a2), some (.int a3)] [] h 0 0 := by
  intro q
  induction q with
  | zero => intro a1 a2 a3 h H; cases H
  | succ q hrc24 =>
    intro a1 a2 a3 h H
    replace H : X10_rests_L24_s (X10_rests_L24 q) a1 a2 a3 h = some (r, h') := H
    unfold X10_rests_L24_s at H
    refine go_iload_n (pc := 24) dX10_rests_24 rfl rfl ?_
    refine go_iconst (pc := 25) (v := 4) dX10_rests_25 (by decide) ?_
    refine go_icmp_ge (pc := 26) (tgt := 46) dX10_rests_26 (by decide) H (fun H => ?_) (fun H => ?_)
    · refine go_iload_n (pc := 46) dX10_rests_46 rfl rfl ?_
      exact go_iret (pc := 47) dX10_rests_47 rfl ⟨Nat.le_of_ble_eq_true rfl, Nat.le_of_ble_eq_true rfl⟩ H
    · refine go_iload_n (pc := 29) dX10_rests_29 rfl rfl ?_
      refine go_iload_n (pc := 30) dX10_rests_30 rfl rfl ?_
      refine go_cSi (pc := 31) (Mz := M_X10_isRest) (as := [.int a1, .int a3]) (st := []) dX10_rests_31 wd_1163 cs_X10_isRest X10_isRest_ok rfl rfl ⟨Nat.le_of_ble_eq_true rfl, Nat.le_of_ble_eq_true rfl⟩ (Nat.le_of_ble_eq_true rfl) ⟨rfl, rfl⟩ ⟨Nat.le_of_ble_eq_true rfl, Nat.le_of_ble_eq_true rfl⟩ H (fun v102 h101 H => ?_)
      refine go_if_eq (pc := 34) (tgt := 40) dX10_rests_34 (by decide) H (fun H => ?_) (fun H => ?_)
      · exact Go.weak (L' := [none, some (.int a1), some (.int a2), some (.int a3)]) ⟨rfl, ⟨rfl, ⟨rfl, trivial⟩⟩⟩ (X10_rests_B40_ok _ hrc24 a1 a2 a3 h101 H)
      · refine go_iinc (pc := 37) (v := a2 + 1) (L' := [none, some (.int a1), some (.int (a2 + 1)), some (.int a3)]) dX10_rests_37 rfl rfl (Nat.le_of_ble_eq_true rfl) rfl ?_
        exact Go.weak (L' := [none, some (.int a1), some (.int (a2 + 1)), some (.int a3)]) ⟨rfl, ⟨rfl, ⟨rfl, trivial⟩⟩⟩ (X10_rests_B40_ok _ hrc24 a1 (a2 + 1) a3 h101 H)

def X10_rests (a0 : Nat) (a1 : Int32) (h : Hp) : Option (Int32 × Hp) :=
  (gI h a0 10 11).bind fun v1 =>
  bd (X10_isPort a1 h) fun v3 h2 =>
  bd (X10_whyNot v1 v3 h2) fun v5 h4 =>
  cV h4 a0 10 (X10_isRefused a0 v5 h4) fun v7 h6 =>
  if v7 = 0 then (
    X10_rests_L24 5000 a1 0 0 h6)
  else (
    some ((-1), h6))
theorem X10_rests_ok {a0 : Nat} {a1 : Int32} {h h' : Hp} {r : Int32} (H : X10_rests a0 a1 h = some (r, h')) : Con M_X10_rests [.ref a0, .int a1] h (some (.int r)) h' := by
  refine con_of_go (by decide) 2 (L := [some (.ref a0), some (.int a1), none, none]) rfl (Nat.le_of_ble_eq_true rfl) ?_
  unfold X10_rests at H
  refine go_aload_n (pc := 0) dX10_rests_0 rfl rfl ?_
  refine go_aload_n (pc := 1) dX10_rests_1 rfl rfl ?_
  refine go_getI (pc := 2) dX10_rests_2 fl_X10_144 H (fun v1 H => ?_)
  refine go_iload_n (pc := 5) dX10_rests_5 rfl rfl ?_
  refine go_cSi (pc := 6) (Mz := M_X10_isPort) (as := [.int a1]) (st := [.int v1, .ref a0]) dX10_rests_6 wd_1153 cs_X10_isPort X10_isPort_ok rfl rfl ⟨Nat.le_of_ble_eq_true rfl, Nat.le_of_ble_eq_true rfl⟩ (Nat.le_of_ble_eq_true rfl) ⟨rfl, rfl⟩ ⟨Nat.le_of_ble_eq_true rfl, Nat.le_of_ble_eq_true rfl⟩ H (fun v3 h2 H => ?_)
  refine go_cSi (pc := 9) (Mz := M_X10_whyNot) (as := [.int v1, .int v3]) (st := [.ref a0]) dX10_rests_9 wd_798 cs_X10_whyNot X10_whyNot_ok rfl rfl ⟨Nat.le_of_ble_eq_true rfl, Nat.le_of_ble_eq_true rfl⟩ (Nat.le_of_ble_eq_true rfl) ⟨rfl, rfl⟩ ⟨Nat.le_of_ble_eq_true rfl, Nat.le_of_ble_eq_true rfl⟩ H (fun v5 h4 H => ?_)
  refine go_cVi (pc := 12) (Mz := M_X10_isRefused) (as := [.int v5]) (a := a0) (st := []) dX10_rests_12 wd_511 cv_X10_isRefused X10_isRefused_ok rfl rfl ⟨Nat.le_of_ble_eq_true rfl, Nat.le_of_ble_eq_true rfl⟩ (Nat.le_of_ble_eq_true rfl) ⟨rfl, rfl⟩ ⟨Nat.le_of_ble_eq_true rfl, Nat.le_of_ble_eq_true rfl⟩ H (fun v7 h6 H => ?_)
  refine go_if_eq (pc := 15) (tgt := 20) dX10_rests_15 (by decide) H (fun H => ?_) (fun H => ?_)
  · refine go_iconst (pc := 20) (v := 0) dX10_rests_20 (by decide) ?_
    refine go_istore_n (pc := 21) (L' := [some (.ref a0), some (.int a1), some (.int 0), none]) dX10_rests_21 rfl (Nat.le_of_ble_eq_true rfl) rfl ?_
    refine go_iconst (pc := 22) (v := 0) dX10_rests_22 (by decide) ?_
    refine go_istore_n (pc := 23) (L' := [some (.ref a0), some (.int a1), some (.int 0), some (.int 0)]) dX10_rests_23 rfl (Nat.le_of_ble_eq_true rfl) rfl ?_
    exact Go.weak (L' := [none, some (.int a1), some (.int 0), some (.int 0)]) ⟨rfl, ⟨rfl, ⟨rfl, trivial⟩⟩⟩ (X10_rests_L24_ok 5000 a1 0 0 h6 H)
  · refine go_iconst (pc := 18) (v := (-1)) dX10_rests_18 (by decide) ?_
    exact go_iret (pc := 19) dX10_rests_19 rfl ⟨Nat.le_of_ble_eq_true rfl, Nat.le_of_ble_eq_true rfl⟩ H

def M_X10_rest : MD := (yX10_rest, cX10_rest, 3, (some .int), 2, 45, 0, 0)
theorem cv_X10_rest : CVo M_X10_rest 1 10 := ⟨⟨wd_1169, wd_109, ⟨by decide, by decide⟩, by decide +kernel⟩, wd_1167, wd_1168, _, rfl, rfl⟩
def X10_rest_L22_s (rc22 : Int32 → Int32 → Hp → Option (Int32 × Hp)) (a1 : Int32) (a2 : Int32) (h : Hp) : Option (Int32 × Hp) :=
  if 4 ≤ a2 then (
    some ((-2), h))
  else (
    bd (X10_isRest a1 a2 h) fun v102 h101 =>
    if v102 = 0 then (
      rc22 a1 (a2 + 1) h101)
    else (
      some ((10 * (a2 >>> ((1 : Int32) &&& 31))) + (a2 &&& 1), h101)))
def X10_rest_L22 (q : Nat) : Int32 → Int32 → Hp → Option (Int32 × Hp) := loopN (fun _ _ _ => none) (X10_rest_L22_s) q
theorem X10_rest_L22_ok {hh h' : Hp} {r : Int32}  : ∀ (q : Nat) (a1 : Int32) (a2 : Int32) (h : Hp), X10_rest_L22 q a1 a2 h = some (r, h') → Go (PM M_X10_rest hh (some (.int r)) h') M_X10_rest 22 [none, some (.int a1), some (.int a2)] [] h 0 0 := by
  intro q
  induction q with
  | zero => intro a1 a2 h H; cases H
  | succ q hrc22 =>
    intro a1 a2 h H
    replace H : X10_rest_L22_s (X10_rest_L22 q) a1 a2 h = some (r, h') := H
    unfold X10_rest_L22_s at H
    refine go_iload_n (pc := 22) dX10_rest_22 rfl rfl ?_
    refine go_iconst (pc := 23) (v := 4) dX10_rest_23 (by decide) ?_
    refine go_icmp_ge (pc := 24) (tgt := 52) dX10_rest_24 (by decide) H (fun H => ?_) (fun H => ?_)
    · refine go_bipush (pc := 52) (v := (-2)) dX10_rest_52 (by decide) ?_
      exact go_iret (pc := 54) dX10_rest_54 rfl ⟨Nat.le_of_ble_eq_true rfl, Nat.le_of_ble_eq_true rfl⟩ H
    · refine go_iload_n (pc := 27) dX10_rest_27 rfl rfl ?_
      refine go_iload_n (pc := 28) dX10_rest_28 rfl rfl ?_
      refine go_cSi (pc := 29) (Mz := M_X10_isRest) (as := [.int a1, .int a2]) (st := []) dX10_rest_29 wd_1163 cs_X10_isRest X10_isRest_ok rfl rfl ⟨Nat.le_of_ble_eq_true rfl, Nat.le_of_ble_eq_true rfl⟩ (Nat.le_of_ble_eq_true rfl) ⟨rfl, rfl⟩ ⟨Nat.le_of_ble_eq_true rfl, Nat.le_of_ble_eq_true rfl⟩ H (fun v102 h101 H => ?_)
      refine go_if_eq (pc := 32) (tgt := 46) dX10_rest_32 (by decide) H (fun H => ?_) (fun H => ?_)
      · refine go_iinc (pc := 46) (v := a2 + 1) (L' := [none, some (.int a1), some (.int (a2 + 1))]) dX10_rest_46 rfl rfl (Nat.le_of_ble_eq_true rfl) rfl ?_
        refine go_goto (pc := 49) (tgt := 22) dX10_rest_49 (by decide) ?_
        exact Go.weak (L' := [none, some (.int a1), some (.int (a2 + 1))]) ⟨rfl, ⟨rfl, trivial⟩⟩ (hrc22 a1 (a2 + 1) h101 H)
      · refine go_bipush (pc := 35) (v := 10) dX10_rest_35 (by decide) ?_
        refine go_iload_n (pc := 37) dX10_rest_37 rfl rfl ?_
        refine go_iconst (pc := 38) (v := 1) dX10_rest_38 (by decide) ?_
        refine go_ishr (pc := 39) dX10_rest_39 ?_
        refine go_imul (pc := 40) dX10_rest_40 ?_
        refine go_iload_n (pc := 41) dX10_rest_41 rfl rfl ?_
        refine go_iconst (pc := 42) (v := 1) dX10_rest_42 (by decide) ?_
        refine go_iand (pc := 43) dX10_rest_43 ?_
        refine go_iadd (pc := 44) dX10_rest_44 ?_
        exact go_iret (pc := 45) dX10_rest_45 rfl ⟨Nat.le_of_ble_eq_true rfl, Nat.le_of_ble_eq_true rfl⟩ H

def X10_rest (a0 : Nat) (a1 : Int32) (h : Hp) : Option (Int32 × Hp) :=
  (gI h a0 10 11).bind fun v1 =>
  bd (X10_isPort a1 h) fun v3 h2 =>
  bd (X10_whyNot v1 v3 h2) fun v5 h4 =>
  cV h4 a0 10 (X10_isRefused a0 v5 h4) fun v7 h6 =>
  if v7 = 0 then (
    X10_rest_L22 5000 a1 0 h6)
  else (
    some ((-1), h6))
theorem X10_rest_ok {a0 : Nat} {a1 : Int32} {h h' : Hp} {r : Int32} (H : X10_rest a0 a1 h = some (r, h')) : Con M_X10_rest [.ref a0, .int a1] h (some (.int r)) h' := by
  refine con_of_go (by decide) 1 (L := [some (.ref a0), some (.int a1), none]) rfl (Nat.le_of_ble_eq_true rfl) ?_
  unfold X10_rest at H
  refine go_aload_n (pc := 0) dX10_rest_0 rfl rfl ?_
  refine go_aload_n (pc := 1) dX10_rest_1 rfl rfl ?_
  refine go_getI (pc := 2) dX10_rest_2 fl_X10_144 H (fun v1 H => ?_)
  refine go_iload_n (pc := 5) dX10_rest_5 rfl rfl ?_
  refine go_cSi (pc := 6) (Mz := M_X10_isPort) (as := [.int a1]) (st := [.int v1, .ref a0]) dX10_rest_6 wd_1153 cs_X10_isPort X10_isPort_ok rfl rfl ⟨Nat.le_of_ble_eq_true rfl, Nat.le_of_ble_eq_true rfl⟩ (Nat.le_of_ble_eq_true rfl) ⟨rfl, rfl⟩ ⟨Nat.le_of_ble_eq_true rfl, Nat.le_of_ble_eq_true rfl⟩ H (fun v3 h2 H => ?_)
  refine go_cSi (pc := 9) (Mz := M_X10_whyNot) (as := [.int v1, .int v3]) (st := [.ref a0]) dX10_rest_9 wd_798 cs_X10_whyNot X10_whyNot_ok rfl rfl ⟨Nat.le_of_ble_eq_true rfl, Nat.le_of_ble_eq_true rfl⟩ (Nat.le_of_ble_eq_true rfl) ⟨rfl, rfl⟩ ⟨Nat.le_of_ble_eq_true rfl, Nat.le_of_ble_eq_true rfl⟩ H (fun v5 h4 H => ?_)
  refine go_cVi (pc := 12) (Mz := M_X10_isRefused) (as := [.int v5]) (a := a0) (st := []) dX10_rest_12 wd_511 cv_X10_isRefused X10_isRefused_ok rfl rfl ⟨Nat.le_of_ble_eq_true rfl, Nat.le_of_ble_eq_true rfl⟩ (Nat.le_of_ble_eq_true rfl) ⟨rfl, rfl⟩ ⟨Nat.le_of_ble_eq_true rfl, Nat.le_of_ble_eq_true rfl⟩ H (fun v7 h6 H => ?_)
  refine go_if_eq (pc := 15) (tgt := 20) dX10_rest_15 (by decide) H (fun H => ?_) (fun H => ?_)
  · refine go_iconst (pc := 20) (v := 0) dX10_rest_20 (by decide) ?_
    refine go_istore_n (pc := 21) (L' := [some (.ref a0), some (.int a1), some (.int 0)]) dX10_rest_21 rfl (Nat.le_of_ble_eq_true rfl) rfl ?_
    exact Go.weak (L' := [none, some (.int a1), some (.int 0)]) ⟨rfl, ⟨rfl, trivial⟩⟩ (X10_rest_L22_ok 5000 a1 0 h6 H)
  · refine go_iconst (pc := 18) (v := (-1)) dX10_rest_18 (by decide) ?_
    exact go_iret (pc := 19) dX10_rest_19 rfl ⟨Nat.le_of_ble_eq_true rfl, Nat.le_of_ble_eq_true rfl⟩ H

def M_X10_whyNotDrawn : MD := (yX10_whyNotDrawn, cX10_whyNotDrawn, 4, (some .int), 1, 21, 0, 0)
theorem cv_X10_whyNotDrawn : CVo M_X10_whyNotDrawn 3 10 := ⟨⟨wd_1177, wd_109, ⟨by decide, by decide⟩, by decide +kernel⟩, wd_1176, wd_42, _, rfl, rfl⟩
def X10_whyNotDrawn_B29 (s0 : Int32) (s1 : Int32) (h : Hp) : Option (Int32 × Hp) :=
  bd (X10_whyNot s0 s1 h) fun v202 h201 =>
  some (v202, h201)
theorem X10_whyNotDrawn_B29_ok {hh h' : Hp} {r : Int32}  (s0 : Int32) (s1 : Int32) (h : Hp) (H : X10_whyNotDrawn_B29 s0 s1 h = some (r, h')) : Go (PM M_X10_whyNotDrawn hh (some (.int r)) h') M_X10_whyNotDrawn 29 [none, none, none, none] [.int s1, .int s0] h 0 0 := by
  unfold X10_whyNotDrawn_B29 at H
  refine go_cSi (pc := 29) (Mz := M_X10_whyNot) (as := [.int s0, .int s1]) (st := []) dX10_whyNotDrawn_29 wd_798 cs_X10_whyNot X10_whyNot_ok rfl rfl ⟨Nat.le_of_ble_eq_true rfl, Nat.le_of_ble_eq_true rfl⟩ (Nat.le_of_ble_eq_true rfl) ⟨rfl, rfl⟩ ⟨Nat.le_of_ble_eq_true rfl, Nat.le_of_ble_eq_true rfl⟩ H (fun v202 h201 H => ?_)
  exact go_iret (pc := 32) dX10_whyNotDrawn_32 rfl ⟨Nat.le_of_ble_eq_true rfl, Nat.le_of_ble_eq_true rfl⟩ H

def X10_whyNotDrawn_B28 (s0 : Int32) (h : Hp) : Option (Int32 × Hp) :=
  X10_whyNotDrawn_B29 s0 0 h
theorem X10_whyNotDrawn_B28_ok {hh h' : Hp} {r : Int32}  (s0 : Int32) (h : Hp) (H : X10_whyNotDrawn_B28 s0 h = some (r, h')) : Go (PM M_X10_whyNotDrawn hh (some (.int r)) h') M_X10_whyNotDrawn 28 [none, none, none, none] [.int s0] h 0 0 := by
  unfold X10_whyNotDrawn_B28 at H
  refine go_iconst (pc := 28) (v := 0) dX10_whyNotDrawn_28 (by decide) ?_
  exact Go.weak (L' := [none, none, none, none]) trivial (X10_whyNotDrawn_B29_ok s0 0 h H)

def X10_whyNotDrawn (a0 : Nat) (a1 : Int32) (a2 : Int32) (a3 : Int32) (h : Hp) : Option (Int32 × Hp) :=
  (gI h a0 10 11).bind fun v1 =>
  if a1 < 0 then (
    X10_whyNotDrawn_B28 v1 h)
  else (
    if 65537 ≤ a1 then (
      X10_whyNotDrawn_B28 v1 h)
    else (
      if a2 < 0 then (
        X10_whyNotDrawn_B28 v1 h)
      else (
        if a3 < a2 then (
          X10_whyNotDrawn_B28 v1 h)
        else (
          X10_whyNotDrawn_B29 v1 1 h))))
theorem X10_whyNotDrawn_ok {a0 : Nat} {a1 : Int32} {a2 : Int32} {a3 : Int32} {h h' : Hp} {r : Int32} (H : X10_whyNotDrawn a0 a1 a2 a3 h = some (r, h')) : Con M_X10_whyNotDrawn [.ref a0, .int a1, .int a2, .int a3] h (some (.int r)) h' := by
  refine con_of_go (by decide) 0 (L := [some (.ref a0), some (.int a1), some (.int a2), some (.int a3)]) rfl (Nat.le_of_ble_eq_true rfl) ?_
  unfold X10_whyNotDrawn at H
  refine go_aload_n (pc := 0) dX10_whyNotDrawn_0 rfl rfl ?_
  refine go_getI (pc := 1) dX10_whyNotDrawn_1 fl_X10_144 H (fun v1 H => ?_)
  refine go_iload_n (pc := 4) dX10_whyNotDrawn_4 rfl rfl ?_
  refine go_if_lt (pc := 5) (tgt := 28) dX10_whyNotDrawn_5 (by decide) H (fun H => ?_) (fun H => ?_)
  · exact Go.weak (L' := [none, none, none, none]) trivial (X10_whyNotDrawn_B28_ok v1 h H)
  · refine go_iload_n (pc := 8) dX10_whyNotDrawn_8 rfl rfl ?_
    refine go_ldcw (pc := 9) (v := 65537) dX10_whyNotDrawn_9 wd_1178 ?_
    refine go_icmp_ge (pc := 12) (tgt := 28) dX10_whyNotDrawn_12 (by decide) H (fun H => ?_) (fun H => ?_)
    · exact Go.weak (L' := [none, none, none, none]) trivial (X10_whyNotDrawn_B28_ok v1 h H)
    · refine go_iload_n (pc := 15) dX10_whyNotDrawn_15 rfl rfl ?_
      refine go_if_lt (pc := 16) (tgt := 28) dX10_whyNotDrawn_16 (by decide) H (fun H => ?_) (fun H => ?_)
      · exact Go.weak (L' := [none, none, none, none]) trivial (X10_whyNotDrawn_B28_ok v1 h H)
      · refine go_iload_n (pc := 19) dX10_whyNotDrawn_19 rfl rfl ?_
        refine go_iload_n (pc := 20) dX10_whyNotDrawn_20 rfl rfl ?_
        refine go_icmp_gt (pc := 21) (tgt := 28) dX10_whyNotDrawn_21 (by decide) H (fun H => ?_) (fun H => ?_)
        · exact Go.weak (L' := [none, none, none, none]) trivial (X10_whyNotDrawn_B28_ok v1 h H)
        · refine go_iconst (pc := 24) (v := 1) dX10_whyNotDrawn_24 (by decide) ?_
          refine go_goto (pc := 25) (tgt := 29) dX10_whyNotDrawn_25 (by decide) ?_
          exact Go.weak (L' := [none, none, none, none]) trivial (X10_whyNotDrawn_B29_ok v1 1 h H)

def M_X10_idled : MD := (yX10_idled, cX10_idled, 3, (some .int), 4, 98, 0, 0)
theorem cv_X10_idled : CVo M_X10_idled 2 10 := ⟨⟨wd_1173, wd_109, ⟨by decide, by decide⟩, by decide +kernel⟩, wd_1171, wd_1172, _, rfl, rfl⟩
def X10_idled (a0 : Nat) (a1 : Int32) (a2 : Int32) (h : Hp) : Option (Int32 × Hp) :=
  (gR h a0 10 9).bind fun v1 =>
  (gR h v1 9 2).bind fun v2 =>
  (gI h v2 8 3).bind fun v3 =>
  cV h a0 10 (X10_whyNotDrawn a0 a1 a2 v3 h) fun v5 h4 =>
  cV h4 a0 10 (X10_isRefused a0 v5 h4) fun v7 h6 =>
  if v7 = 0 then (
    (gR h6 a0 10 5).bind fun v8 =>
    (pF h6 v8 6 4 (.int a1)).bind fun h9 =>
    (gR h9 a0 10 5).bind fun v10 =>
    (gR h9 a0 10 2).bind fun v11 =>
    cVv h9 v10 6 (X6_drawIdle v10 v11 h9) fun h12 =>
    (gR h12 a0 10 5).bind fun v13 =>
    cV h12 v13 6 (X6_lostBy v13 a2 h12) fun v15 h14 =>
    some (v15, h14))
  else (
    some ((-1), h6))
theorem X10_idled_ok {a0 : Nat} {a1 : Int32} {a2 : Int32} {h h' : Hp} {r : Int32} (H : X10_idled a0 a1 a2 h = some (r, h')) : Con M_X10_idled [.ref a0, .int a1, .int a2] h (some (.int r)) h' := by
  refine con_of_go (by decide) 0 (L := [some (.ref a0), some (.int a1), some (.int a2)]) rfl (Nat.le_of_ble_eq_true rfl) ?_
  unfold X10_idled at H
  refine go_aload_n (pc := 0) dX10_idled_0 rfl rfl ?_
  refine go_aload_n (pc := 1) dX10_idled_1 rfl rfl ?_
  refine go_iload_n (pc := 2) dX10_idled_2 rfl rfl ?_
  refine go_iload_n (pc := 3) dX10_idled_3 rfl rfl ?_
  refine go_aload_n (pc := 4) dX10_idled_4 rfl rfl ?_
  refine go_getR (pc := 5) dX10_idled_5 fl_X10_16 H (fun v1 H => ?_)
  refine go_getR (pc := 8) dX10_idled_8 fl_X10_104 H (fun v2 H => ?_)
  refine go_getI (pc := 11) dX10_idled_11 fl_X10_108 H (fun v3 H => ?_)
  refine go_cVi (pc := 14) (Mz := M_X10_whyNotDrawn) (as := [.int a1, .int a2, .int v3]) (a := a0) (st := [.ref a0]) dX10_idled_14 wd_1174 cv_X10_whyNotDrawn X10_whyNotDrawn_ok rfl rfl ⟨Nat.le_of_ble_eq_true rfl, Nat.le_of_ble_eq_true rfl⟩ (Nat.le_of_ble_eq_true rfl) ⟨rfl, rfl⟩ ⟨Nat.le_of_ble_eq_true rfl, Nat.le_of_ble_eq_true rfl⟩ H (fun v5 h4 H => ?_)
  refine go_cVi (pc := 17) (Mz := M_X10_isRefused) (as := [.int v5]) (a := a0) (st := []) dX10_idled_17 wd_511 cv_X10_isRefused X10_isRefused_ok rfl rfl ⟨Nat.le_of_ble_eq_true rfl, Nat.le_of_ble_eq_true rfl⟩ (Nat.le_of_ble_eq_true rfl) ⟨rfl, rfl⟩ ⟨Nat.le_of_ble_eq_true rfl, Nat.le_of_ble_eq_true rfl⟩ H (fun v7 h6 H => ?_)
  refine go_if_eq (pc := 20) (tgt := 25) dX10_idled_20 (by decide) H (fun H => ?_) (fun H => ?_)
  · refine go_aload_n (pc := 25) dX10_idled_25 rfl rfl ?_
    refine go_getR (pc := 26) dX10_idled_26 fl_X10_55 H (fun v8 H => ?_)
    refine go_iload_n (pc := 29) dX10_idled_29 rfl rfl ?_
    refine go_putI (pc := 30) dX10_idled_30 fs_X10_313 H (fun h9 H => ?_)
    refine go_aload_n (pc := 33) dX10_idled_33 rfl rfl ?_
    refine go_getR (pc := 34) dX10_idled_34 fl_X10_55 H (fun v10 H => ?_)
    refine go_aload_n (pc := 37) dX10_idled_37 rfl rfl ?_
    refine go_getR (pc := 38) dX10_idled_38 fl_X10_35 H (fun v11 H => ?_)
    refine go_cVv (pc := 41) (Mz := M_X6_drawIdle) (as := [.ref v11]) (a := v10) (st := []) dX10_idled_41 wd_1179 cv_X6_drawIdle X6_drawIdle_ok rfl rfl ⟨Nat.le_of_ble_eq_true rfl, Nat.le_of_ble_eq_true rfl⟩ (Nat.le_of_ble_eq_true rfl) ⟨rfl, rfl⟩ ⟨Nat.le_of_ble_eq_true rfl, Nat.le_of_ble_eq_true rfl⟩ H (fun h12 H => ?_)
    refine go_aload_n (pc := 44) dX10_idled_44 rfl rfl ?_
    refine go_getR (pc := 45) dX10_idled_45 fl_X10_55 H (fun v13 H => ?_)
    refine go_iload_n (pc := 48) dX10_idled_48 rfl rfl ?_
    refine go_cVi (pc := 49) (Mz := M_X6_lostBy) (as := [.int a2]) (a := v13) (st := []) dX10_idled_49 wd_823 cv_X6_lostBy X6_lostBy_ok rfl rfl ⟨Nat.le_of_ble_eq_true rfl, Nat.le_of_ble_eq_true rfl⟩ (Nat.le_of_ble_eq_true rfl) ⟨rfl, rfl⟩ ⟨Nat.le_of_ble_eq_true rfl, Nat.le_of_ble_eq_true rfl⟩ H (fun v15 h14 H => ?_)
    exact go_iret (pc := 52) dX10_idled_52 rfl ⟨Nat.le_of_ble_eq_true rfl, Nat.le_of_ble_eq_true rfl⟩ H
  · refine go_iconst (pc := 23) (v := (-1)) dX10_idled_23 (by decide) ?_
    exact go_iret (pc := 24) dX10_idled_24 rfl ⟨Nat.le_of_ble_eq_true rfl, Nat.le_of_ble_eq_true rfl⟩ H

def M_X10_squareBy : MD := (yX10_squareBy, cX10_squareBy, 3, (some .int), 4, 98, 0, 0)
theorem cv_X10_squareBy : CVo M_X10_squareBy 2 10 := ⟨⟨wd_1195, wd_109, ⟨by decide, by decide⟩, by decide +kernel⟩, wd_1193, wd_1194, _, rfl, rfl⟩
def X10_squareBy (a0 : Nat) (a1 : Int32) (a2 : Int32) (h : Hp) : Option (Int32 × Hp) :=
  (gR h a0 10 9).bind fun v1 =>
  (gR h v1 9 2).bind fun v2 =>
  (gI h v2 8 3).bind fun v3 =>
  cV h a0 10 (X10_whyNotDrawn a0 a1 a2 v3 h) fun v5 h4 =>
  cV h4 a0 10 (X10_isRefused a0 v5 h4) fun v7 h6 =>
  if v7 = 0 then (
    (gR h6 a0 10 5).bind fun v8 =>
    (pF h6 v8 6 4 (.int a1)).bind fun h9 =>
    (gR h9 a0 10 5).bind fun v10 =>
    (gR h9 a0 10 2).bind fun v11 =>
    cVv h9 v10 6 (X6_drawIdle v10 v11 h9) fun h12 =>
    (gR h12 a0 10 5).bind fun v13 =>
    (gR h12 a0 10 2).bind fun v14 =>
    cVv h12 v13 6 (X6_sail v13 v14 0 a2 h12) fun h15 =>
    (gR h15 a0 10 5).bind fun v16 =>
    (gR h15 v16 6 0).bind fun v17 =>
    cV h15 v17 7 (X7_inSquare v17 h15) fun v19 h18 =>
    some (v19, h18))
  else (
    some ((-1), h6))
theorem X10_squareBy_ok {a0 : Nat} {a1 : Int32} {a2 : Int32} {h h' : Hp} {r : Int32} (H : X10_squareBy a0 a1 a2 h = some (r, h')) : Con M_X10_squareBy [.ref a0, .int a1, .int a2] h (some (.int r)) h' := by
  refine con_of_go (by decide) 0 (L := [some (.ref a0), some (.int a1), some (.int a2)]) rfl (Nat.le_of_ble_eq_true rfl) ?_
  unfold X10_squareBy at H
  refine go_aload_n (pc := 0) dX10_squareBy_0 rfl rfl ?_
  refine go_aload_n (pc := 1) dX10_squareBy_1 rfl rfl ?_
  refine go_iload_n (pc := 2) dX10_squareBy_2 rfl rfl ?_
  refine go_iload_n (pc := 3) dX10_squareBy_3 rfl rfl ?_
  refine go_aload_n (pc := 4) dX10_squareBy_4 rfl rfl ?_
  refine go_getR (pc := 5) dX10_squareBy_5 fl_X10_16 H (fun v1 H => ?_)
  refine go_getR (pc := 8) dX10_squareBy_8 fl_X10_104 H (fun v2 H => ?_)
  refine go_getI (pc := 11) dX10_squareBy_11 fl_X10_108 H (fun v3 H => ?_)
  refine go_cVi (pc := 14) (Mz := M_X10_whyNotDrawn) (as := [.int a1, .int a2, .int v3]) (a := a0) (st := [.ref a0]) dX10_squareBy_14 wd_1174 cv_X10_whyNotDrawn X10_whyNotDrawn_ok rfl rfl ⟨Nat.le_of_ble_eq_true rfl, Nat.le_of_ble_eq_true rfl⟩ (Nat.le_of_ble_eq_true rfl) ⟨rfl, rfl⟩ ⟨Nat.le_of_ble_eq_true rfl, Nat.le_of_ble_eq_true rfl⟩ H (fun v5 h4 H => ?_)
  refine go_cVi (pc := 17) (Mz := M_X10_isRefused) (as := [.int v5]) (a := a0) (st := []) dX10_squareBy_17 wd_511 cv_X10_isRefused X10_isRefused_ok rfl rfl ⟨Nat.le_of_ble_eq_true rfl, Nat.le_of_ble_eq_true rfl⟩ (Nat.le_of_ble_eq_true rfl) ⟨rfl, rfl⟩ ⟨Nat.le_of_ble_eq_true rfl, Nat.le_of_ble_eq_true rfl⟩ H (fun v7 h6 H => ?_)
  refine go_if_eq (pc := 20) (tgt := 25) dX10_squareBy_20 (by decide) H (fun H => ?_) (fun H => ?_)
  · refine go_aload_n (pc := 25) dX10_squareBy_25 rfl rfl ?_
    refine go_getR (pc := 26) dX10_squareBy_26 fl_X10_55 H (fun v8 H => ?_)
    refine go_iload_n (pc := 29) dX10_squareBy_29 rfl rfl ?_
    refine go_putI (pc := 30) dX10_squareBy_30 fs_X10_313 H (fun h9 H => ?_)
    refine go_aload_n (pc := 33) dX10_squareBy_33 rfl rfl ?_
    refine go_getR (pc := 34) dX10_squareBy_34 fl_X10_55 H (fun v10 H => ?_)
    refine go_aload_n (pc := 37) dX10_squareBy_37 rfl rfl ?_
    refine go_getR (pc := 38) dX10_squareBy_38 fl_X10_35 H (fun v11 H => ?_)
    refine go_cVv (pc := 41) (Mz := M_X6_drawIdle) (as := [.ref v11]) (a := v10) (st := []) dX10_squareBy_41 wd_1179 cv_X6_drawIdle X6_drawIdle_ok rfl rfl ⟨Nat.le_of_ble_eq_true rfl, Nat.le_of_ble_eq_true rfl⟩ (Nat.le_of_ble_eq_true rfl) ⟨rfl, rfl⟩ ⟨Nat.le_of_ble_eq_true rfl, Nat.le_of_ble_eq_true rfl⟩ H (fun h12 H => ?_)
    refine go_aload_n (pc := 44) dX10_squareBy_44 rfl rfl ?_
    refine go_getR (pc := 45) dX10_squareBy_45 fl_X10_55 H (fun v13 H => ?_)
    refine go_aload_n (pc := 48) dX10_squareBy_48 rfl rfl ?_
    refine go_getR (pc := 49) dX10_squareBy_49 fl_X10_35 H (fun v14 H => ?_)
    refine go_iconst (pc := 52) (v := 0) dX10_squareBy_52 (by decide) ?_
    refine go_iload_n (pc := 53) dX10_squareBy_53 rfl rfl ?_
    refine go_cVv (pc := 54) (Mz := M_X6_sail) (as := [.ref v14, .int 0, .int a2]) (a := v13) (st := []) dX10_squareBy_54 wd_889 cv_X6_sail X6_sail_ok rfl rfl ⟨Nat.le_of_ble_eq_true rfl, Nat.le_of_ble_eq_true rfl⟩ (Nat.le_of_ble_eq_true rfl) ⟨rfl, rfl⟩ ⟨Nat.le_of_ble_eq_true rfl, Nat.le_of_ble_eq_true rfl⟩ H (fun h15 H => ?_)
    refine go_aload_n (pc := 57) dX10_squareBy_57 rfl rfl ?_
    refine go_getR (pc := 58) dX10_squareBy_58 fl_X10_55 H (fun v16 H => ?_)
    refine go_getR (pc := 61) dX10_squareBy_61 fl_X10_208 H (fun v17 H => ?_)
    refine go_cVi (pc := 64) (Mz := M_X7_inSquare) (as := []) (a := v17) (st := []) dX10_squareBy_64 wd_894 cv_X7_inSquare X7_inSquare_ok rfl rfl ⟨Nat.le_of_ble_eq_true rfl, Nat.le_of_ble_eq_true rfl⟩ (Nat.le_of_ble_eq_true rfl) ⟨rfl, rfl⟩ ⟨Nat.le_of_ble_eq_true rfl, Nat.le_of_ble_eq_true rfl⟩ H (fun v19 h18 H => ?_)
    exact go_iret (pc := 67) dX10_squareBy_67 rfl ⟨Nat.le_of_ble_eq_true rfl, Nat.le_of_ble_eq_true rfl⟩ H
  · refine go_iconst (pc := 23) (v := (-1)) dX10_squareBy_23 (by decide) ?_
    exact go_iret (pc := 24) dX10_squareBy_24 rfl ⟨Nat.le_of_ble_eq_true rfl, Nat.le_of_ble_eq_true rfl⟩ H

def M_X10_wrecks : MD := (yX10_wrecks, cX10_wrecks, 5, (some .int), 4, 98, 0, 0)
theorem cv_X10_wrecks : CVo M_X10_wrecks 2 10 := ⟨⟨wd_1199, wd_109, ⟨by decide, by decide⟩, by decide +kernel⟩, wd_1197, wd_1198, _, rfl, rfl⟩
def X10_wrecks_B67 (rc30 : Nat → Int32 → Int32 → Int32 → Hp → Option (Int32 × Hp)) (a0 : Nat) (a2 : Int32) (a3 : Int32) (a4 : Int32) (h : Hp) : Option (Int32 × Hp) :=
  rc30 a0 a2 a3 (a4 + 1) h
theorem X10_wrecks_B67_ok {hh h' : Hp} {r : Int32}  (rc30 : Nat → Int32 → Int32 → Int32 → Hp → Option (Int32 × Hp)) (hrc30 : ∀ (a0 : Nat) (a2 : Int32) (a3 : Int32) (a4 : Int32) (h : Hp), rc30 a0 a2 a3 a4 h = some (r, h') → Go (PM M_X10_wrecks hh (some (.int r)) h') M_X10_wrecks 30 [some (.ref a0), none, some (.int a2), some (.int a3), some (.int a4)] [] h 0 0) (a0 : Nat) (a2 : Int32) (a3 : Int32) (a4 : Int32) (h : Hp) (H : X10_wrecks_B67 rc30 a0 a2 a3 a4 h = some (r, h')) : Go (PM M_X10_wrecks hh (some (.int r)) h') M_X10_wrecks 67 [some (.ref a0), none, some (.int a2), some (.int a3), some (.int a4)] [] h 0 0 := by
  unfold X10_wrecks_B67 at H
  refine go_iinc (pc := 67) (v := a4 + 1) (L' := [some (.ref a0), none, some (.int a2), some (.int a3), some (.int (a4 + 1))]) dX10_wrecks_67 rfl rfl (Nat.le_of_ble_eq_true rfl) rfl ?_
  refine go_goto (pc := 70) (tgt := 30) dX10_wrecks_70 (by decide) ?_
  exact Go.weak (L' := [some (.ref a0), none, some (.int a2), some (.int a3), some (.int (a4 + 1))]) ⟨rfl, ⟨rfl, ⟨rfl, ⟨rfl, trivial⟩⟩⟩⟩ (hrc30 a0 a2 a3 (a4 + 1) h H)

def X10_wrecks_L30_s (rc30 : Nat → Int32 → Int32 → Int32 → Hp → Option (Int32 × Hp)) (a0 : Nat) (a2 : Int32) (a3 : Int32) (a4 : Int32) (h : Hp) : Option (Int32 × Hp) :=
  if a2 ≤ a4 then (
    some (a3, h))
  else (
    (gR h a0 10 5).bind fun v101 =>
    (gR h a0 10 2).bind fun v102 =>
    cVv h v101 6 (X6_drawIdle v101 v102 h) fun h103 =>
    (gR h103 a0 10 5).bind fun v104 =>
    (gR h103 a0 10 2).bind fun v105 =>
    cV h103 v104 6 (X6_firstStrike v104 v105 0 h103) fun v107 h106 =>
    if v107 = (-2) then (
      X10_wrecks_B67 rc30 a0 a2 a3 a4 h106)
    else (
      X10_wrecks_B67 rc30 a0 a2 (a3 + 1) a4 h106))
def X10_wrecks_L30 (q : Nat) : Nat → Int32 → Int32 → Int32 → Hp → Option (Int32 × Hp) := loopN (fun _ _ _ _ _ => none) (X10_wrecks_L30_s) q
theorem X10_wrecks_L30_ok {hh h' : Hp} {r : Int32}  : ∀ (q : Nat) (a0 : Nat) (a2 : Int32) (a3 : Int32) (a4 : Int32) (h : Hp), X10_wrecks_L30 q a0 a2 a3 a4 h = some (r, h') → Go (PM M_X10_wrecks hh (some (.int r)) h') M_X10_wrecks 30 [some (.ref a0), none, some (.int a2), some (.int a3), some (.int a4)] [] h 0 0 := by
  intro q
  induction q with
  | zero => intro a0 a2 a3 a4 h H; cases H
  | succ q hrc30 =>
    intro a0 a2 a3 a4 h H
    replace H : X10_wrecks_L30_s (X10_wrecks_L30 q) a0 a2 a3 a4 h = some (r, h') := H
    unfold X10_wrecks_L30_s at H
    refine go_iload (pc := 30) dX10_wrecks_30 rfl ?_
    refine go_iload_n (pc := 32) dX10_wrecks_32 rfl rfl ?_
    refine go_icmp_ge (pc := 33) (tgt := 73) dX10_wrecks_33 (by decide) H (fun H => ?_) (fun H => ?_)
    · refine go_iload_n (pc := 73) dX10_wrecks_73 rfl rfl ?_
      exact go_iret (pc := 74) dX10_wrecks_74 rfl ⟨Nat.le_of_ble_eq_true rfl, Nat.le_of_ble_eq_true rfl⟩ H
    · refine go_aload_n (pc := 36) dX10_wrecks_36 rfl rfl ?_
      refine go_getR (pc := 37) dX10_wrecks_37 fl_X10_55 H (fun v101 H => ?_)
      refine go_aload_n (pc := 40) dX10_wrecks_40 rfl rfl ?_
      refine go_getR (pc := 41) dX10_wrecks_41 fl_X10_35 H (fun v102 H => ?_)
      refine go_cVv (pc := 44) (Mz := M_X6_drawIdle) (as := [.ref v102]) (a := v101) (st := []) dX10_wrecks_44 wd_1179 cv_X6_drawIdle X6_drawIdle_ok rfl rfl ⟨Nat.le_of_ble_eq_true rfl, Nat.le_of_ble_eq_true rfl⟩ (Nat.le_of_ble_eq_true rfl) ⟨rfl, rfl⟩ ⟨Nat.le_of_ble_eq_true rfl, Nat.le_of_ble_eq_true rfl⟩ H (fun h103 H => ?_)
      refine go_aload_n (pc := 47) dX10_wrecks_47 rfl rfl ?_
      refine go_getR (pc := 48) dX10_wrecks_48 fl_X10_55 H (fun v104 H => ?_)
      refine go_aload_n (pc := 51) dX10_wrecks_51 rfl rfl ?_
      refine go_getR (pc := 52) dX10_wrecks_52 fl_X10_35 H (fun v105 H => ?_)
      refine go_iconst (pc := 55) (v := 0) dX10_wrecks_55 (by decide) ?_
      refine go_cVi (pc := 56) (Mz := M_X6_firstStrike) (as := [.ref v105, .int 0]) (a := v104) (st := []) dX10_wrecks_56 wd_914 cv_X6_firstStrike X6_firstStrike_ok rfl rfl ⟨Nat.le_of_ble_eq_true rfl, Nat.le_of_ble_eq_true rfl⟩ (Nat.le_of_ble_eq_true rfl) ⟨rfl, rfl⟩ ⟨Nat.le_of_ble_eq_true rfl, Nat.le_of_ble_eq_true rfl⟩ H (fun v107 h106 H => ?_)
      refine go_bipush (pc := 59) (v := (-2)) dX10_wrecks_59 (by decide) ?_
      refine go_icmp_eq (pc := 61) (tgt := 67) dX10_wrecks_61 (by decide) H (fun H => ?_) (fun H => ?_)
      · exact Go.weak (L' := [some (.ref a0), none, some (.int a2), some (.int a3), some (.int a4)]) ⟨rfl, ⟨rfl, ⟨rfl, ⟨rfl, trivial⟩⟩⟩⟩ (X10_wrecks_B67_ok _ hrc30 a0 a2 a3 a4 h106 H)
      · refine go_iinc (pc := 64) (v := a3 + 1) (L' := [some (.ref a0), none, some (.int a2), some (.int (a3 + 1)), some (.int a4)]) dX10_wrecks_64 rfl rfl (Nat.le_of_ble_eq_true rfl) rfl ?_
        exact Go.weak (L' := [some (.ref a0), none, some (.int a2), some (.int (a3 + 1)), some (.int a4)]) ⟨rfl, ⟨rfl, ⟨rfl, ⟨rfl, trivial⟩⟩⟩⟩ (X10_wrecks_B67_ok _ hrc30 a0 a2 (a3 + 1) a4 h106 H)

def X10_wrecks (a0 : Nat) (a1 : Int32) (a2 : Int32) (h : Hp) : Option (Int32 × Hp) :=
  cV h a0 10 (X10_whyNotDrawn a0 a1 a2 20 h) fun v2 h1 =>
  cV h1 a0 10 (X10_isRefused a0 v2 h1) fun v4 h3 =>
  if v4 = 0 then (
    (gR h3 a0 10 5).bind fun v5 =>
    (pF h3 v5 6 4 (.int a1)).bind fun h6 =>
    X10_wrecks_L30 5000 a0 a2 0 0 h6)
  else (
    some ((-1), h3))
theorem X10_wrecks_ok {a0 : Nat} {a1 : Int32} {a2 : Int32} {h h' : Hp} {r : Int32} (H : X10_wrecks a0 a1 a2 h = some (r, h')) : Con M_X10_wrecks [.ref a0, .int a1, .int a2] h (some (.int r)) h' := by
  refine con_of_go (by decide) 2 (L := [some (.ref a0), some (.int a1), some (.int a2), none, none]) rfl (Nat.le_of_ble_eq_true rfl) ?_
  unfold X10_wrecks at H
  refine go_aload_n (pc := 0) dX10_wrecks_0 rfl rfl ?_
  refine go_aload_n (pc := 1) dX10_wrecks_1 rfl rfl ?_
  refine go_iload_n (pc := 2) dX10_wrecks_2 rfl rfl ?_
  refine go_iload_n (pc := 3) dX10_wrecks_3 rfl rfl ?_
  refine go_bipush (pc := 4) (v := 20) dX10_wrecks_4 (by decide) ?_
  refine go_cVi (pc := 6) (Mz := M_X10_whyNotDrawn) (as := [.int a1, .int a2, .int 20]) (a := a0) (st := [.ref a0]) dX10_wrecks_6 wd_1174 cv_X10_whyNotDrawn X10_whyNotDrawn_ok rfl rfl ⟨Nat.le_of_ble_eq_true rfl, Nat.le_of_ble_eq_true rfl⟩ (Nat.le_of_ble_eq_true rfl) ⟨rfl, rfl⟩ ⟨Nat.le_of_ble_eq_true rfl, Nat.le_of_ble_eq_true rfl⟩ H (fun v2 h1 H => ?_)
  refine go_cVi (pc := 9) (Mz := M_X10_isRefused) (as := [.int v2]) (a := a0) (st := []) dX10_wrecks_9 wd_511 cv_X10_isRefused X10_isRefused_ok rfl rfl ⟨Nat.le_of_ble_eq_true rfl, Nat.le_of_ble_eq_true rfl⟩ (Nat.le_of_ble_eq_true rfl) ⟨rfl, rfl⟩ ⟨Nat.le_of_ble_eq_true rfl, Nat.le_of_ble_eq_true rfl⟩ H (fun v4 h3 H => ?_)
  refine go_if_eq (pc := 12) (tgt := 17) dX10_wrecks_12 (by decide) H (fun H => ?_) (fun H => ?_)
  · refine go_iconst (pc := 17) (v := 0) dX10_wrecks_17 (by decide) ?_
    refine go_istore_n (pc := 18) (L' := [some (.ref a0), some (.int a1), some (.int a2), some (.int 0), none]) dX10_wrecks_18 rfl (Nat.le_of_ble_eq_true rfl) rfl ?_
    refine go_aload_n (pc := 19) dX10_wrecks_19 rfl rfl ?_
    refine go_getR (pc := 20) dX10_wrecks_20 fl_X10_55 H (fun v5 H => ?_)
    refine go_iload_n (pc := 23) dX10_wrecks_23 rfl rfl ?_
    refine go_putI (pc := 24) dX10_wrecks_24 fs_X10_313 H (fun h6 H => ?_)
    refine go_iconst (pc := 27) (v := 0) dX10_wrecks_27 (by decide) ?_
    refine go_istore (pc := 28) (L' := [some (.ref a0), some (.int a1), some (.int a2), some (.int 0), some (.int 0)]) dX10_wrecks_28 (Nat.le_of_ble_eq_true rfl) rfl ?_
    exact Go.weak (L' := [some (.ref a0), none, some (.int a2), some (.int 0), some (.int 0)]) ⟨rfl, ⟨rfl, ⟨rfl, ⟨rfl, trivial⟩⟩⟩⟩ (X10_wrecks_L30_ok 5000 a0 a2 0 0 h6 H)
  · refine go_iconst (pc := 15) (v := (-1)) dX10_wrecks_15 (by decide) ?_
    exact go_iret (pc := 16) dX10_wrecks_16 rfl ⟨Nat.le_of_ble_eq_true rfl, Nat.le_of_ble_eq_true rfl⟩ H

def M_X10_attend : MD := (yX10_attend, cX10_attend, 3, (some .int), 2, 47, 0, 0)
theorem cv_X10_attend : CVo M_X10_attend 1 10 := ⟨⟨wd_1203, wd_109, ⟨by decide, by decide⟩, by decide +kernel⟩, wd_1201, wd_1202, _, rfl, rfl⟩
def X10_attend_B14 (a0 : Nat) (a1 : Int32) (s0 : Nat) (s1 : Int32) (h : Hp) : Option (Int32 × Hp) :=
  cV h s0 10 (X10_isRefused s0 s1 h) fun v102 h101 =>
  if v102 = 0 then (
    (gR h101 a0 10 2).bind fun v103 =>
    (gR h101 v103 4 0).bind fun v104 =>
    cV h101 v104 8 (X8_cell v104 a1 2 h101) fun v106 h105 =>
    pin (1 - v106) fun v107 =>
    (gR h105 a0 10 4).bind fun v108 =>
    (gR h105 a0 10 2).bind fun v109 =>
    cVv h105 v108 0 (X0_make v108 v109 a1 2 v107 h105) fun h110 =>
    some (v107, h110))
  else (
    some ((-1), h101))
theorem X10_attend_B14_ok {hh h' : Hp} {r : Int32}  (a0 : Nat) (a1 : Int32) (s0 : Nat) (s1 : Int32) (h : Hp) (H : X10_attend_B14 a0 a1 s0 s1 h = some (r, h')) : Go (PM M_X10_attend hh (some (.int r)) h') M_X10_attend 14 [some (.ref a0), some (.int a1), none] [.int s1, .ref s0] h 0 0 := by
  unfold X10_attend_B14 at H
  refine go_cVi (pc := 14) (Mz := M_X10_isRefused) (as := [.int s1]) (a := s0) (st := []) dX10_attend_14 wd_511 cv_X10_isRefused X10_isRefused_ok rfl rfl ⟨Nat.le_of_ble_eq_true rfl, Nat.le_of_ble_eq_true rfl⟩ (Nat.le_of_ble_eq_true rfl) ⟨rfl, rfl⟩ ⟨Nat.le_of_ble_eq_true rfl, Nat.le_of_ble_eq_true rfl⟩ H (fun v102 h101 H => ?_)
  refine go_if_eq (pc := 17) (tgt := 22) dX10_attend_17 (by decide) H (fun H => ?_) (fun H => ?_)
  · refine go_iconst (pc := 22) (v := 1) dX10_attend_22 (by decide) ?_
    refine go_aload_n (pc := 23) dX10_attend_23 rfl rfl ?_
    refine go_getR (pc := 24) dX10_attend_24 fl_X10_35 H (fun v103 H => ?_)
    refine go_getR (pc := 27) dX10_attend_27 fl_X10_122 H (fun v104 H => ?_)
    refine go_iload_n (pc := 30) dX10_attend_30 rfl rfl ?_
    refine go_iconst (pc := 31) (v := 2) dX10_attend_31 (by decide) ?_
    refine go_cVi (pc := 32) (Mz := M_X8_cell) (as := [.int a1, .int 2]) (a := v104) (st := [.int 1]) dX10_attend_32 wd_753 cv_X8_cell X8_cell_ok rfl rfl ⟨Nat.le_of_ble_eq_true rfl, Nat.le_of_ble_eq_true rfl⟩ (Nat.le_of_ble_eq_true rfl) ⟨rfl, rfl⟩ ⟨Nat.le_of_ble_eq_true rfl, Nat.le_of_ble_eq_true rfl⟩ H (fun v106 h105 H => ?_)
    refine go_isub (pc := 35) dX10_attend_35 ?_
    refine go_pin H (fun v107 H => ?_)
    refine go_istore_n (pc := 36) (L' := [some (.ref a0), some (.int a1), some (.int v107)]) dX10_attend_36 rfl (Nat.le_of_ble_eq_true rfl) rfl ?_
    refine go_aload_n (pc := 37) dX10_attend_37 rfl rfl ?_
    refine go_getR (pc := 38) dX10_attend_38 fl_X10_46 H (fun v108 H => ?_)
    refine go_aload_n (pc := 41) dX10_attend_41 rfl rfl ?_
    refine go_getR (pc := 42) dX10_attend_42 fl_X10_35 H (fun v109 H => ?_)
    refine go_iload_n (pc := 45) dX10_attend_45 rfl rfl ?_
    refine go_iconst (pc := 46) (v := 2) dX10_attend_46 (by decide) ?_
    refine go_iload_n (pc := 47) dX10_attend_47 rfl rfl ?_
    refine go_cVv (pc := 48) (Mz := M_X0_make) (as := [.ref v109, .int a1, .int 2, .int v107]) (a := v108) (st := []) dX10_attend_48 wd_1204 cv_X0_make X0_make_ok rfl rfl ⟨Nat.le_of_ble_eq_true rfl, Nat.le_of_ble_eq_true rfl⟩ (Nat.le_of_ble_eq_true rfl) ⟨rfl, rfl⟩ ⟨Nat.le_of_ble_eq_true rfl, Nat.le_of_ble_eq_true rfl⟩ H (fun h110 H => ?_)
    refine go_iload_n (pc := 51) dX10_attend_51 rfl rfl ?_
    exact go_iret (pc := 52) dX10_attend_52 rfl ⟨Nat.le_of_ble_eq_true rfl, Nat.le_of_ble_eq_true rfl⟩ H
  · refine go_iconst (pc := 20) (v := (-1)) dX10_attend_20 (by decide) ?_
    exact go_iret (pc := 21) dX10_attend_21 rfl ⟨Nat.le_of_ble_eq_true rfl, Nat.le_of_ble_eq_true rfl⟩ H

def X10_attend (a0 : Nat) (a1 : Int32) (h : Hp) : Option (Int32 × Hp) :=
  cV h a0 10 (X10_hasWatch a0 a1 h) fun v2 h1 =>
  if v2 = 0 then (
    X10_attend_B14 a0 a1 a0 1 h1)
  else (
    X10_attend_B14 a0 a1 a0 0 h1)
theorem X10_attend_ok {a0 : Nat} {a1 : Int32} {h h' : Hp} {r : Int32} (H : X10_attend a0 a1 h = some (r, h')) : Con M_X10_attend [.ref a0, .int a1] h (some (.int r)) h' := by
  refine con_of_go (by decide) 1 (L := [some (.ref a0), some (.int a1), none]) rfl (Nat.le_of_ble_eq_true rfl) ?_
  unfold X10_attend at H
  refine go_aload_n (pc := 0) dX10_attend_0 rfl rfl ?_
  refine go_aload_n (pc := 1) dX10_attend_1 rfl rfl ?_
  refine go_iload_n (pc := 2) dX10_attend_2 rfl rfl ?_
  refine go_cVi (pc := 3) (Mz := M_X10_hasWatch) (as := [.int a1]) (a := a0) (st := [.ref a0]) dX10_attend_3 wd_749 cv_X10_hasWatch X10_hasWatch_ok rfl rfl ⟨Nat.le_of_ble_eq_true rfl, Nat.le_of_ble_eq_true rfl⟩ (Nat.le_of_ble_eq_true rfl) ⟨rfl, rfl⟩ ⟨Nat.le_of_ble_eq_true rfl, Nat.le_of_ble_eq_true rfl⟩ H (fun v2 h1 H => ?_)
  refine go_if_eq (pc := 6) (tgt := 13) dX10_attend_6 (by decide) H (fun H => ?_) (fun H => ?_)
  · refine go_iconst (pc := 13) (v := 1) dX10_attend_13 (by decide) ?_
    exact Go.weak (L' := [some (.ref a0), some (.int a1), none]) ⟨rfl, ⟨rfl, trivial⟩⟩ (X10_attend_B14_ok a0 a1 a0 1 h1 H)
  · refine go_iconst (pc := 9) (v := 0) dX10_attend_9 (by decide) ?_
    refine go_goto (pc := 10) (tgt := 14) dX10_attend_10 (by decide) ?_
    exact Go.weak (L' := [some (.ref a0), some (.int a1), none]) ⟨rfl, ⟨rfl, trivial⟩⟩ (X10_attend_B14_ok a0 a1 a0 0 h1 H)

def M_X10_steer : MD := (yX10_steer, cX10_steer, 5, (some .boolean), 2, 47, 0, 0)
theorem cv_X10_steer : CVo M_X10_steer 2 10 := ⟨⟨wd_1216, wd_109, ⟨by decide, by decide⟩, by decide +kernel⟩, wd_1214, wd_1215, _, rfl, rfl⟩
def X10_steer_B51 (a0 : Nat) (a1 : Int32) (a2 : Int32) (s0 : Nat) (s1 : Int32) (h : Hp) : Option (Int32 × Hp) :=
  cV h s0 10 (X10_isRefused s0 s1 h) fun v302 h301 =>
  if v302 = 0 then (
    (gR h301 a0 10 4).bind fun v303 =>
    (gR h301 a0 10 2).bind fun v304 =>
    cVv h301 v303 0 (X0_make v303 v304 a1 1 a2 h301) fun h305 =>
    rZ 1 h305)
  else (
    rZ 0 h301)
theorem X10_steer_B51_ok {hh h' : Hp} {r : Int32}  (a0 : Nat) (a1 : Int32) (a2 : Int32) (s0 : Nat) (s1 : Int32) (h : Hp) (H : X10_steer_B51 a0 a1 a2 s0 s1 h = some (r, h')) : Go (PM M_X10_steer hh (some (.int r)) h') M_X10_steer 51 [some (.ref a0), some (.int a1), some (.int a2), none, none] [.int s1, .ref s0] h 0 0 := by
  unfold X10_steer_B51 at H
  refine go_cVi (pc := 51) (Mz := M_X10_isRefused) (as := [.int s1]) (a := s0) (st := []) dX10_steer_51 wd_511 cv_X10_isRefused X10_isRefused_ok rfl rfl ⟨Nat.le_of_ble_eq_true rfl, Nat.le_of_ble_eq_true rfl⟩ (Nat.le_of_ble_eq_true rfl) ⟨rfl, rfl⟩ ⟨Nat.le_of_ble_eq_true rfl, Nat.le_of_ble_eq_true rfl⟩ H (fun v302 h301 H => ?_)
  refine go_if_eq (pc := 54) (tgt := 59) dX10_steer_54 (by decide) H (fun H => ?_) (fun H => ?_)
  · refine go_aload_n (pc := 59) dX10_steer_59 rfl rfl ?_
    refine go_getR (pc := 60) dX10_steer_60 fl_X10_46 H (fun v303 H => ?_)
    refine go_aload_n (pc := 63) dX10_steer_63 rfl rfl ?_
    refine go_getR (pc := 64) dX10_steer_64 fl_X10_35 H (fun v304 H => ?_)
    refine go_iload_n (pc := 67) dX10_steer_67 rfl rfl ?_
    refine go_iconst (pc := 68) (v := 1) dX10_steer_68 (by decide) ?_
    refine go_iload_n (pc := 69) dX10_steer_69 rfl rfl ?_
    refine go_cVv (pc := 70) (Mz := M_X0_make) (as := [.ref v304, .int a1, .int 1, .int a2]) (a := v303) (st := []) dX10_steer_70 wd_1204 cv_X0_make X0_make_ok rfl rfl ⟨Nat.le_of_ble_eq_true rfl, Nat.le_of_ble_eq_true rfl⟩ (Nat.le_of_ble_eq_true rfl) ⟨rfl, rfl⟩ ⟨Nat.le_of_ble_eq_true rfl, Nat.le_of_ble_eq_true rfl⟩ H (fun h305 H => ?_)
    refine go_iconst (pc := 73) (v := 1) dX10_steer_73 (by decide) ?_
    exact go_zret (pc := 74) dX10_steer_74 rfl ⟨Nat.le_of_ble_eq_true rfl, Nat.le_of_ble_eq_true rfl⟩ H
  · refine go_iconst (pc := 57) (v := 0) dX10_steer_57 (by decide) ?_
    exact go_zret (pc := 58) dX10_steer_58 rfl ⟨Nat.le_of_ble_eq_true rfl, Nat.le_of_ble_eq_true rfl⟩ H

def X10_steer_B50 (a0 : Nat) (a1 : Int32) (a2 : Int32) (a3 : Int32) (s0 : Nat) (h : Hp) : Option (Int32 × Hp) :=
  X10_steer_B51 a0 a1 a2 s0 a3 h
theorem X10_steer_B50_ok {hh h' : Hp} {r : Int32}  (a0 : Nat) (a1 : Int32) (a2 : Int32) (a3 : Int32) (s0 : Nat) (h : Hp) (H : X10_steer_B50 a0 a1 a2 a3 s0 h = some (r, h')) : Go (PM M_X10_steer hh (some (.int r)) h') M_X10_steer 50 [some (.ref a0), some (.int a1), some (.int a2), some (.int a3), none] [.ref s0] h 0 0 := by
  unfold X10_steer_B50 at H
  refine go_iload_n (pc := 50) dX10_steer_50 rfl rfl ?_
  exact Go.weak (L' := [some (.ref a0), some (.int a1), some (.int a2), none, none]) ⟨rfl, ⟨rfl, ⟨rfl, trivial⟩⟩⟩ (X10_steer_B51_ok a0 a1 a2 s0 a3 h H)

def X10_steer_B34 (a0 : Nat) (a1 : Int32) (a2 : Int32) (a3 : Int32) (s0 : Int32) (h : Hp) : Option (Int32 × Hp) :=
  if a3 = 0 then (
    if s0 = 0 then (
      X10_steer_B50 a0 a1 a2 a3 a0 h)
    else (
      X10_steer_B51 a0 a1 a2 a0 5 h))
  else (
    X10_steer_B50 a0 a1 a2 a3 a0 h)
theorem X10_steer_B34_ok {hh h' : Hp} {r : Int32}  (a0 : Nat) (a1 : Int32) (a2 : Int32) (a3 : Int32) (s0 : Int32) (h : Hp) (H : X10_steer_B34 a0 a1 a2 a3 s0 h = some (r, h')) : Go (PM M_X10_steer hh (some (.int r)) h') M_X10_steer 34 [some (.ref a0), some (.int a1), some (.int a2), some (.int a3), none] [.int s0] h 0 0 := by
  unfold X10_steer_B34 at H
  refine go_istore (pc := 34) (L' := [some (.ref a0), some (.int a1), some (.int a2), some (.int a3), some (.int s0)]) dX10_steer_34 (Nat.le_of_ble_eq_true rfl) rfl ?_
  refine go_aload_n (pc := 36) dX10_steer_36 rfl rfl ?_
  refine go_iload_n (pc := 37) dX10_steer_37 rfl rfl ?_
  refine go_if_ne (pc := 38) (tgt := 50) dX10_steer_38 (by decide) H (fun H => ?_) (fun H => ?_)
  · exact Go.weak (L' := [some (.ref a0), some (.int a1), some (.int a2), some (.int a3), none]) ⟨rfl, ⟨rfl, ⟨rfl, ⟨rfl, trivial⟩⟩⟩⟩ (X10_steer_B50_ok a0 a1 a2 a3 a0 h H)
  · refine go_iload (pc := 41) dX10_steer_41 rfl ?_
    refine go_if_eq (pc := 43) (tgt := 50) dX10_steer_43 (by decide) H (fun H => ?_) (fun H => ?_)
    · exact Go.weak (L' := [some (.ref a0), some (.int a1), some (.int a2), some (.int a3), none]) ⟨rfl, ⟨rfl, ⟨rfl, ⟨rfl, trivial⟩⟩⟩⟩ (X10_steer_B50_ok a0 a1 a2 a3 a0 h H)
    · refine go_iconst (pc := 46) (v := 5) dX10_steer_46 (by decide) ?_
      refine go_goto (pc := 47) (tgt := 51) dX10_steer_47 (by decide) ?_
      exact Go.weak (L' := [some (.ref a0), some (.int a1), some (.int a2), none, none]) ⟨rfl, ⟨rfl, ⟨rfl, trivial⟩⟩⟩ (X10_steer_B51_ok a0 a1 a2 a0 5 h H)

def X10_steer (a0 : Nat) (a1 : Int32) (a2 : Int32) (h : Hp) : Option (Int32 × Hp) :=
  cV h a0 10 (X10_hasWatch a0 a1 h) fun v2 h1 =>
  bd (X10_isCourse a2 h1) fun v4 h3 =>
  bd (X10_whyNot v2 v4 h3) fun v6 h5 =>
  (gR h5 a0 10 2).bind fun v7 =>
  (gR h5 v7 4 0).bind fun v8 =>
  cV h5 v8 8 (X8_cell v8 a1 1 h5) fun v10 h9 =>
  if v10 = a2 then (
    X10_steer_B34 a0 a1 a2 v6 1 h9)
  else (
    X10_steer_B34 a0 a1 a2 v6 0 h9)
theorem X10_steer_ok {a0 : Nat} {a1 : Int32} {a2 : Int32} {h h' : Hp} {r : Int32} (H : X10_steer a0 a1 a2 h = some (r, h')) : Con M_X10_steer [.ref a0, .int a1, .int a2] h (some (.int r)) h' := by
  refine con_of_go (by decide) 2 (L := [some (.ref a0), some (.int a1), some (.int a2), none, none]) rfl (Nat.le_of_ble_eq_true rfl) ?_
  unfold X10_steer at H
  refine go_aload_n (pc := 0) dX10_steer_0 rfl rfl ?_
  refine go_iload_n (pc := 1) dX10_steer_1 rfl rfl ?_
  refine go_cVi (pc := 2) (Mz := M_X10_hasWatch) (as := [.int a1]) (a := a0) (st := []) dX10_steer_2 wd_749 cv_X10_hasWatch X10_hasWatch_ok rfl rfl ⟨Nat.le_of_ble_eq_true rfl, Nat.le_of_ble_eq_true rfl⟩ (Nat.le_of_ble_eq_true rfl) ⟨rfl, rfl⟩ ⟨Nat.le_of_ble_eq_true rfl, Nat.le_of_ble_eq_true rfl⟩ H (fun v2 h1 H => ?_)
  refine go_iload_n (pc := 5) dX10_steer_5 rfl rfl ?_
  refine go_cSi (pc := 6) (Mz := M_X10_isCourse) (as := [.int a2]) (st := [.int v2]) dX10_steer_6 wd_1029 cs_X10_isCourse X10_isCourse_ok rfl rfl ⟨Nat.le_of_ble_eq_true rfl, Nat.le_of_ble_eq_true rfl⟩ (Nat.le_of_ble_eq_true rfl) ⟨rfl, rfl⟩ ⟨Nat.le_of_ble_eq_true rfl, Nat.le_of_ble_eq_true rfl⟩ H (fun v4 h3 H => ?_)
  refine go_cSi (pc := 9) (Mz := M_X10_whyNot) (as := [.int v2, .int v4]) (st := []) dX10_steer_9 wd_798 cs_X10_whyNot X10_whyNot_ok rfl rfl ⟨Nat.le_of_ble_eq_true rfl, Nat.le_of_ble_eq_true rfl⟩ (Nat.le_of_ble_eq_true rfl) ⟨rfl, rfl⟩ ⟨Nat.le_of_ble_eq_true rfl, Nat.le_of_ble_eq_true rfl⟩ H (fun v6 h5 H => ?_)
  refine go_istore_n (pc := 12) (L' := [some (.ref a0), some (.int a1), some (.int a2), some (.int v6), none]) dX10_steer_12 rfl (Nat.le_of_ble_eq_true rfl) rfl ?_
  refine go_aload_n (pc := 13) dX10_steer_13 rfl rfl ?_
  refine go_getR (pc := 14) dX10_steer_14 fl_X10_35 H (fun v7 H => ?_)
  refine go_getR (pc := 17) dX10_steer_17 fl_X10_122 H (fun v8 H => ?_)
  refine go_iload_n (pc := 20) dX10_steer_20 rfl rfl ?_
  refine go_iconst (pc := 21) (v := 1) dX10_steer_21 (by decide) ?_
  refine go_cVi (pc := 22) (Mz := M_X8_cell) (as := [.int a1, .int 1]) (a := v8) (st := []) dX10_steer_22 wd_753 cv_X8_cell X8_cell_ok rfl rfl ⟨Nat.le_of_ble_eq_true rfl, Nat.le_of_ble_eq_true rfl⟩ (Nat.le_of_ble_eq_true rfl) ⟨rfl, rfl⟩ ⟨Nat.le_of_ble_eq_true rfl, Nat.le_of_ble_eq_true rfl⟩ H (fun v10 h9 H => ?_)
  refine go_iload_n (pc := 25) dX10_steer_25 rfl rfl ?_
  refine go_icmp_ne (pc := 26) (tgt := 33) dX10_steer_26 (by decide) H (fun H => ?_) (fun H => ?_)
  · refine go_iconst (pc := 33) (v := 0) dX10_steer_33 (by decide) ?_
    exact Go.weak (L' := [some (.ref a0), some (.int a1), some (.int a2), some (.int v6), none]) ⟨rfl, ⟨rfl, ⟨rfl, ⟨rfl, trivial⟩⟩⟩⟩ (X10_steer_B34_ok a0 a1 a2 v6 0 h9 H)
  · refine go_iconst (pc := 29) (v := 1) dX10_steer_29 (by decide) ?_
    refine go_goto (pc := 30) (tgt := 34) dX10_steer_30 (by decide) ?_
    exact Go.weak (L' := [some (.ref a0), some (.int a1), some (.int a2), some (.int v6), none]) ⟨rfl, ⟨rfl, ⟨rfl, ⟨rfl, trivial⟩⟩⟩⟩ (X10_steer_B34_ok a0 a1 a2 v6 1 h9 H)

def M_X10_relieve : MD := (yX10_relieve, cX10_relieve, 5, (some .int), 3, 71, 0, 0)
theorem cv_X10_relieve : CVo M_X10_relieve 2 10 := ⟨⟨wd_1220, wd_109, ⟨by decide, by decide⟩, by decide +kernel⟩, wd_1218, wd_1219, _, rfl, rfl⟩
def X10_relieve_B64 (a0 : Nat) (a1 : Int32) (a2 : Int32) (s0 : Nat) (s1 : Int32) (h : Hp) : Option (Int32 × Hp) :=
  cV h s0 10 (X10_isRefused s0 s1 h) fun v402 h401 =>
  if v402 = 0 then (
    (gR h401 a0 10 4).bind fun v403 =>
    (gR h401 a0 10 2).bind fun v404 =>
    cVv h401 v403 0 (X0_make v403 v404 a1 0 a2 h401) fun h405 =>
    (gR h405 a0 10 5).bind fun v406 =>
    (gR h405 a0 10 2).bind fun v407 =>
    cV h405 v406 6 (X6_stolenIn v406 v407 a1 h405) fun v409 h408 =>
    some (v409, h408))
  else (
    some ((-1), h401))
theorem X10_relieve_B64_ok {hh h' : Hp} {r : Int32}  (a0 : Nat) (a1 : Int32) (a2 : Int32) (s0 : Nat) (s1 : Int32) (h : Hp) (H : X10_relieve_B64 a0 a1 a2 s0 s1 h = some (r, h')) : Go (PM M_X10_relieve hh (some (.int r)) h') M_X10_relieve 64 [some (.ref a0), some (.int a1), some (.int a2), none, none] [.int s1, .ref s0] h 0 0 := by
  unfold X10_relieve_B64 at H
  refine go_cVi (pc := 64) (Mz := M_X10_isRefused) (as := [.int s1]) (a := s0) (st := []) dX10_relieve_64 wd_511 cv_X10_isRefused X10_isRefused_ok rfl rfl ⟨Nat.le_of_ble_eq_true rfl, Nat.le_of_ble_eq_true rfl⟩ (Nat.le_of_ble_eq_true rfl) ⟨rfl, rfl⟩ ⟨Nat.le_of_ble_eq_true rfl, Nat.le_of_ble_eq_true rfl⟩ H (fun v402 h401 H => ?_)
  refine go_if_eq (pc := 67) (tgt := 72) dX10_relieve_67 (by decide) H (fun H => ?_) (fun H => ?_)
  · refine go_aload_n (pc := 72) dX10_relieve_72 rfl rfl ?_
    refine go_getR (pc := 73) dX10_relieve_73 fl_X10_46 H (fun v403 H => ?_)
    refine go_aload_n (pc := 76) dX10_relieve_76 rfl rfl ?_
    refine go_getR (pc := 77) dX10_relieve_77 fl_X10_35 H (fun v404 H => ?_)
    refine go_iload_n (pc := 80) dX10_relieve_80 rfl rfl ?_
    refine go_iconst (pc := 81) (v := 0) dX10_relieve_81 (by decide) ?_
    refine go_iload_n (pc := 82) dX10_relieve_82 rfl rfl ?_
    refine go_cVv (pc := 83) (Mz := M_X0_make) (as := [.ref v404, .int a1, .int 0, .int a2]) (a := v403) (st := []) dX10_relieve_83 wd_1204 cv_X0_make X0_make_ok rfl rfl ⟨Nat.le_of_ble_eq_true rfl, Nat.le_of_ble_eq_true rfl⟩ (Nat.le_of_ble_eq_true rfl) ⟨rfl, rfl⟩ ⟨Nat.le_of_ble_eq_true rfl, Nat.le_of_ble_eq_true rfl⟩ H (fun h405 H => ?_)
    refine go_aload_n (pc := 86) dX10_relieve_86 rfl rfl ?_
    refine go_getR (pc := 87) dX10_relieve_87 fl_X10_55 H (fun v406 H => ?_)
    refine go_aload_n (pc := 90) dX10_relieve_90 rfl rfl ?_
    refine go_getR (pc := 91) dX10_relieve_91 fl_X10_35 H (fun v407 H => ?_)
    refine go_iload_n (pc := 94) dX10_relieve_94 rfl rfl ?_
    refine go_cVi (pc := 95) (Mz := M_X6_stolenIn) (as := [.ref v407, .int a1]) (a := v406) (st := []) dX10_relieve_95 wd_809 cv_X6_stolenIn X6_stolenIn_ok rfl rfl ⟨Nat.le_of_ble_eq_true rfl, Nat.le_of_ble_eq_true rfl⟩ (Nat.le_of_ble_eq_true rfl) ⟨rfl, rfl⟩ ⟨Nat.le_of_ble_eq_true rfl, Nat.le_of_ble_eq_true rfl⟩ H (fun v409 h408 H => ?_)
    exact go_iret (pc := 98) dX10_relieve_98 rfl ⟨Nat.le_of_ble_eq_true rfl, Nat.le_of_ble_eq_true rfl⟩ H
  · refine go_iconst (pc := 70) (v := (-1)) dX10_relieve_70 (by decide) ?_
    exact go_iret (pc := 71) dX10_relieve_71 rfl ⟨Nat.le_of_ble_eq_true rfl, Nat.le_of_ble_eq_true rfl⟩ H

def X10_relieve_B43 (a0 : Nat) (a1 : Int32) (a2 : Int32) (a3 : Int32) (s0 : Int32) (h : Hp) : Option (Int32 × Hp) :=
  if a3 = 0 then (
    X10_relieve_B64 a0 a1 a2 a0 1 h)
  else (
    if s0 = 0 then (
      X10_relieve_B64 a0 a1 a2 a0 0 h)
    else (
      X10_relieve_B64 a0 a1 a2 a0 5 h))
theorem X10_relieve_B43_ok {hh h' : Hp} {r : Int32}  (a0 : Nat) (a1 : Int32) (a2 : Int32) (a3 : Int32) (s0 : Int32) (h : Hp) (H : X10_relieve_B43 a0 a1 a2 a3 s0 h = some (r, h')) : Go (PM M_X10_relieve hh (some (.int r)) h') M_X10_relieve 43 [some (.ref a0), some (.int a1), some (.int a2), some (.int a3), none] [.int s0] h 0 0 := by
  unfold X10_relieve_B43 at H
  refine go_istore (pc := 43) (L' := [some (.ref a0), some (.int a1), some (.int a2), some (.int a3), some (.int s0)]) dX10_relieve_43 (Nat.le_of_ble_eq_true rfl) rfl ?_
  refine go_aload_n (pc := 45) dX10_relieve_45 rfl rfl ?_
  refine go_iload_n (pc := 46) dX10_relieve_46 rfl rfl ?_
  refine go_if_ne (pc := 47) (tgt := 54) dX10_relieve_47 (by decide) H (fun H => ?_) (fun H => ?_)
  · refine go_iload (pc := 54) dX10_relieve_54 rfl ?_
    refine go_if_eq (pc := 56) (tgt := 63) dX10_relieve_56 (by decide) H (fun H => ?_) (fun H => ?_)
    · refine go_iconst (pc := 63) (v := 0) dX10_relieve_63 (by decide) ?_
      exact Go.weak (L' := [some (.ref a0), some (.int a1), some (.int a2), none, none]) ⟨rfl, ⟨rfl, ⟨rfl, trivial⟩⟩⟩ (X10_relieve_B64_ok a0 a1 a2 a0 0 h H)
    · refine go_iconst (pc := 59) (v := 5) dX10_relieve_59 (by decide) ?_
      refine go_goto (pc := 60) (tgt := 64) dX10_relieve_60 (by decide) ?_
      exact Go.weak (L' := [some (.ref a0), some (.int a1), some (.int a2), none, none]) ⟨rfl, ⟨rfl, ⟨rfl, trivial⟩⟩⟩ (X10_relieve_B64_ok a0 a1 a2 a0 5 h H)
  · refine go_iconst (pc := 50) (v := 1) dX10_relieve_50 (by decide) ?_
    refine go_goto (pc := 51) (tgt := 64) dX10_relieve_51 (by decide) ?_
    exact Go.weak (L' := [some (.ref a0), some (.int a1), some (.int a2), none, none]) ⟨rfl, ⟨rfl, ⟨rfl, trivial⟩⟩⟩ (X10_relieve_B64_ok a0 a1 a2 a0 1 h H)

def X10_relieve_B21 (a0 : Nat) (a1 : Int32) (a2 : Int32) (s0 : Int32) (h : Hp) : Option (Int32 × Hp) :=
  (gR h a0 10 2).bind fun v201 =>
  (gR h v201 4 0).bind fun v202 =>
  cV h v202 8 (X8_cell v202 a1 0 h) fun v204 h203 =>
  if v204 = a2 then (
    X10_relieve_B43 a0 a1 a2 s0 1 h203)
  else (
    X10_relieve_B43 a0 a1 a2 s0 0 h203)
theorem X10_relieve_B21_ok {hh h' : Hp} {r : Int32}  (a0 : Nat) (a1 : Int32) (a2 : Int32) (s0 : Int32) (h : Hp) (H : X10_relieve_B21 a0 a1 a2 s0 h = some (r, h')) : Go (PM M_X10_relieve hh (some (.int r)) h') M_X10_relieve 21 [some (.ref a0), some (.int a1), some (.int a2), none, none] [.int s0] h 0 0 := by
  unfold X10_relieve_B21 at H
  refine go_istore_n (pc := 21) (L' := [some (.ref a0), some (.int a1), some (.int a2), some (.int s0), none]) dX10_relieve_21 rfl (Nat.le_of_ble_eq_true rfl) rfl ?_
  refine go_aload_n (pc := 22) dX10_relieve_22 rfl rfl ?_
  refine go_getR (pc := 23) dX10_relieve_23 fl_X10_35 H (fun v201 H => ?_)
  refine go_getR (pc := 26) dX10_relieve_26 fl_X10_122 H (fun v202 H => ?_)
  refine go_iload_n (pc := 29) dX10_relieve_29 rfl rfl ?_
  refine go_iconst (pc := 30) (v := 0) dX10_relieve_30 (by decide) ?_
  refine go_cVi (pc := 31) (Mz := M_X8_cell) (as := [.int a1, .int 0]) (a := v202) (st := []) dX10_relieve_31 wd_753 cv_X8_cell X8_cell_ok rfl rfl ⟨Nat.le_of_ble_eq_true rfl, Nat.le_of_ble_eq_true rfl⟩ (Nat.le_of_ble_eq_true rfl) ⟨rfl, rfl⟩ ⟨Nat.le_of_ble_eq_true rfl, Nat.le_of_ble_eq_true rfl⟩ H (fun v204 h203 H => ?_)
  refine go_iload_n (pc := 34) dX10_relieve_34 rfl rfl ?_
  refine go_icmp_ne (pc := 35) (tgt := 42) dX10_relieve_35 (by decide) H (fun H => ?_) (fun H => ?_)
  · refine go_iconst (pc := 42) (v := 0) dX10_relieve_42 (by decide) ?_
    exact Go.weak (L' := [some (.ref a0), some (.int a1), some (.int a2), some (.int s0), none]) ⟨rfl, ⟨rfl, ⟨rfl, ⟨rfl, trivial⟩⟩⟩⟩ (X10_relieve_B43_ok a0 a1 a2 s0 0 h203 H)
  · refine go_iconst (pc := 38) (v := 1) dX10_relieve_38 (by decide) ?_
    refine go_goto (pc := 39) (tgt := 43) dX10_relieve_39 (by decide) ?_
    exact Go.weak (L' := [some (.ref a0), some (.int a1), some (.int a2), some (.int s0), none]) ⟨rfl, ⟨rfl, ⟨rfl, ⟨rfl, trivial⟩⟩⟩⟩ (X10_relieve_B43_ok a0 a1 a2 s0 1 h203 H)

def X10_relieve_B20 (a0 : Nat) (a1 : Int32) (a2 : Int32) (h : Hp) : Option (Int32 × Hp) :=
  X10_relieve_B21 a0 a1 a2 0 h
theorem X10_relieve_B20_ok {hh h' : Hp} {r : Int32}  (a0 : Nat) (a1 : Int32) (a2 : Int32) (h : Hp) (H : X10_relieve_B20 a0 a1 a2 h = some (r, h')) : Go (PM M_X10_relieve hh (some (.int r)) h') M_X10_relieve 20 [some (.ref a0), some (.int a1), some (.int a2), none, none] [] h 0 0 := by
  unfold X10_relieve_B20 at H
  refine go_iconst (pc := 20) (v := 0) dX10_relieve_20 (by decide) ?_
  exact Go.weak (L' := [some (.ref a0), some (.int a1), some (.int a2), none, none]) ⟨rfl, ⟨rfl, ⟨rfl, trivial⟩⟩⟩ (X10_relieve_B21_ok a0 a1 a2 0 h H)

def X10_relieve (a0 : Nat) (a1 : Int32) (a2 : Int32) (h : Hp) : Option (Int32 × Hp) :=
  cV h a0 10 (X10_hasWatch a0 a1 h) fun v2 h1 =>
  if v2 = 0 then (
    X10_relieve_B20 a0 a1 a2 h1)
  else (
    cV h1 a0 10 (X10_hasBoy a0 a2 h1) fun v4 h3 =>
    if v4 = 0 then (
      X10_relieve_B20 a0 a1 a2 h3)
    else (
      X10_relieve_B21 a0 a1 a2 1 h3))
theorem X10_relieve_ok {a0 : Nat} {a1 : Int32} {a2 : Int32} {h h' : Hp} {r : Int32} (H : X10_relieve a0 a1 a2 h = some (r, h')) : Con M_X10_relieve [.ref a0, .int a1, .int a2] h (some (.int r)) h' := by
  refine con_of_go (by decide) 2 (L := [some (.ref a0), some (.int a1), some (.int a2), none, none]) rfl (Nat.le_of_ble_eq_true rfl) ?_
  unfold X10_relieve at H
  refine go_aload_n (pc := 0) dX10_relieve_0 rfl rfl ?_
  refine go_iload_n (pc := 1) dX10_relieve_1 rfl rfl ?_
  refine go_cVi (pc := 2) (Mz := M_X10_hasWatch) (as := [.int a1]) (a := a0) (st := []) dX10_relieve_2 wd_749 cv_X10_hasWatch X10_hasWatch_ok rfl rfl ⟨Nat.le_of_ble_eq_true rfl, Nat.le_of_ble_eq_true rfl⟩ (Nat.le_of_ble_eq_true rfl) ⟨rfl, rfl⟩ ⟨Nat.le_of_ble_eq_true rfl, Nat.le_of_ble_eq_true rfl⟩ H (fun v2 h1 H => ?_)
  refine go_if_eq (pc := 5) (tgt := 20) dX10_relieve_5 (by decide) H (fun H => ?_) (fun H => ?_)
  · exact Go.weak (L' := [some (.ref a0), some (.int a1), some (.int a2), none, none]) ⟨rfl, ⟨rfl, ⟨rfl, trivial⟩⟩⟩ (X10_relieve_B20_ok a0 a1 a2 h1 H)
  · refine go_aload_n (pc := 8) dX10_relieve_8 rfl rfl ?_
    refine go_iload_n (pc := 9) dX10_relieve_9 rfl rfl ?_
    refine go_cVi (pc := 10) (Mz := M_X10_hasBoy) (as := [.int a2]) (a := a0) (st := []) dX10_relieve_10 wd_763 cv_X10_hasBoy X10_hasBoy_ok rfl rfl ⟨Nat.le_of_ble_eq_true rfl, Nat.le_of_ble_eq_true rfl⟩ (Nat.le_of_ble_eq_true rfl) ⟨rfl, rfl⟩ ⟨Nat.le_of_ble_eq_true rfl, Nat.le_of_ble_eq_true rfl⟩ H (fun v4 h3 H => ?_)
    refine go_if_eq (pc := 13) (tgt := 20) dX10_relieve_13 (by decide) H (fun H => ?_) (fun H => ?_)
    · exact Go.weak (L' := [some (.ref a0), some (.int a1), some (.int a2), none, none]) ⟨rfl, ⟨rfl, ⟨rfl, trivial⟩⟩⟩ (X10_relieve_B20_ok a0 a1 a2 h3 H)
    · refine go_iconst (pc := 16) (v := 1) dX10_relieve_16 (by decide) ?_
      refine go_goto (pc := 17) (tgt := 21) dX10_relieve_17 (by decide) ?_
      exact Go.weak (L' := [some (.ref a0), some (.int a1), some (.int a2), none, none]) ⟨rfl, ⟨rfl, ⟨rfl, trivial⟩⟩⟩ (X10_relieve_B21_ok a0 a1 a2 1 h3 H)

def M_X10_undo : MD := (yX10_undo, cX10_undo, 1, (some .boolean), 2, 44, 0, 0)
theorem cv_X10_undo : CVo M_X10_undo 0 10 := ⟨⟨wd_1224, wd_109, ⟨by decide, by decide⟩, by decide +kernel⟩, wd_1222, wd_1223, _, rfl, rfl⟩
def X10_undo_B17 (a0 : Nat) (s0 : Nat) (s1 : Int32) (h : Hp) : Option (Int32 × Hp) :=
  cV h s0 10 (X10_isRefused s0 s1 h) fun v102 h101 =>
  if v102 = 0 then (
    (gR h101 a0 10 4).bind fun v103 =>
    (gR h101 a0 10 2).bind fun v104 =>
    cVv h101 v103 0 (X0_takeBack v103 v104 h101) fun h105 =>
    rZ 1 h105)
  else (
    rZ 0 h101)
theorem X10_undo_B17_ok {hh h' : Hp} {r : Int32}  (a0 : Nat) (s0 : Nat) (s1 : Int32) (h : Hp) (H : X10_undo_B17 a0 s0 s1 h = some (r, h')) : Go (PM M_X10_undo hh (some (.int r)) h') M_X10_undo 17 [some (.ref a0)] [.int s1, .ref s0] h 0 0 := by
  unfold X10_undo_B17 at H
  refine go_cVi (pc := 17) (Mz := M_X10_isRefused) (as := [.int s1]) (a := s0) (st := []) dX10_undo_17 wd_511 cv_X10_isRefused X10_isRefused_ok rfl rfl ⟨Nat.le_of_ble_eq_true rfl, Nat.le_of_ble_eq_true rfl⟩ (Nat.le_of_ble_eq_true rfl) ⟨rfl, rfl⟩ ⟨Nat.le_of_ble_eq_true rfl, Nat.le_of_ble_eq_true rfl⟩ H (fun v102 h101 H => ?_)
  refine go_if_eq (pc := 20) (tgt := 25) dX10_undo_20 (by decide) H (fun H => ?_) (fun H => ?_)
  · refine go_aload_n (pc := 25) dX10_undo_25 rfl rfl ?_
    refine go_getR (pc := 26) dX10_undo_26 fl_X10_46 H (fun v103 H => ?_)
    refine go_aload_n (pc := 29) dX10_undo_29 rfl rfl ?_
    refine go_getR (pc := 30) dX10_undo_30 fl_X10_35 H (fun v104 H => ?_)
    refine go_cVv (pc := 33) (Mz := M_X0_takeBack) (as := [.ref v104]) (a := v103) (st := []) dX10_undo_33 wd_1225 cv_X0_takeBack X0_takeBack_ok rfl rfl ⟨Nat.le_of_ble_eq_true rfl, Nat.le_of_ble_eq_true rfl⟩ (Nat.le_of_ble_eq_true rfl) ⟨rfl, rfl⟩ ⟨Nat.le_of_ble_eq_true rfl, Nat.le_of_ble_eq_true rfl⟩ H (fun h105 H => ?_)
    refine go_iconst (pc := 36) (v := 1) dX10_undo_36 (by decide) ?_
    exact go_zret (pc := 37) dX10_undo_37 rfl ⟨Nat.le_of_ble_eq_true rfl, Nat.le_of_ble_eq_true rfl⟩ H
  · refine go_iconst (pc := 23) (v := 0) dX10_undo_23 (by decide) ?_
    exact go_zret (pc := 24) dX10_undo_24 rfl ⟨Nat.le_of_ble_eq_true rfl, Nat.le_of_ble_eq_true rfl⟩ H

def X10_undo (a0 : Nat) (h : Hp) : Option (Int32 × Hp) :=
  (gR h a0 10 4).bind fun v1 =>
  (gI h v1 0 2).bind fun v2 =>
  if v2 = 0 then (
    X10_undo_B17 a0 a0 6 h)
  else (
    X10_undo_B17 a0 a0 0 h)
theorem X10_undo_ok {a0 : Nat} {h h' : Hp} {r : Int32} (H : X10_undo a0 h = some (r, h')) : Con M_X10_undo [.ref a0] h (some (.int r)) h' := by
  refine con_of_go (by decide) 0 (L := [some (.ref a0)]) rfl (Nat.le_of_ble_eq_true rfl) ?_
  unfold X10_undo at H
  refine go_aload_n (pc := 0) dX10_undo_0 rfl rfl ?_
  refine go_aload_n (pc := 1) dX10_undo_1 rfl rfl ?_
  refine go_getR (pc := 2) dX10_undo_2 fl_X10_46 H (fun v1 H => ?_)
  refine go_getI (pc := 5) dX10_undo_5 fl_X10_323 H (fun v2 H => ?_)
  refine go_if_ne (pc := 8) (tgt := 16) dX10_undo_8 (by decide) H (fun H => ?_) (fun H => ?_)
  · refine go_iconst (pc := 16) (v := 0) dX10_undo_16 (by decide) ?_
    exact Go.weak (L' := [some (.ref a0)]) ⟨rfl, trivial⟩ (X10_undo_B17_ok a0 a0 0 h H)
  · refine go_bipush (pc := 11) (v := 6) dX10_undo_11 (by decide) ?_
    refine go_goto (pc := 13) (tgt := 17) dX10_undo_13 (by decide) ?_
    exact Go.weak (L' := [some (.ref a0)]) ⟨rfl, trivial⟩ (X10_undo_B17_ok a0 a0 6 h H)

def M_X10_imageOf : MD := (yX10_imageOf, cX10_imageOf, 2, (some (.object "GlassWatch$Keeping")), 0, 0, 0, 0)
theorem cv_X10_imageOf : CVo M_X10_imageOf 1 10 := ⟨⟨wd_1237, wd_109, ⟨by decide, by decide⟩, by decide +kernel⟩, wd_1236, wd_45, _, rfl, rfl⟩
def X10_imageOf_B22 (h : Hp) : Option (Option Nat × Hp) :=
  some (none, h)
theorem X10_imageOf_B22_ok {hh h' : Hp} {r : Option Nat}  (h : Hp) (H : X10_imageOf_B22 h = some (r, h')) : Go (PM M_X10_imageOf hh (some (orf r)) h') M_X10_imageOf 22 [none, none] [] h 0 0 := by
  unfold X10_imageOf_B22 at H
  refine go_null (pc := 22) dX10_imageOf_22 ?_
  exact go_aretQ (x := none) (pc := 23) dX10_imageOf_23 rfl ⟨Nat.le_of_ble_eq_true rfl, Nat.le_of_ble_eq_true rfl⟩ H

def X10_imageOf (a0 : Nat) (a1 : Int32) (h : Hp) : Option (Option Nat × Hp) :=
  if a1 < 0 then (
    X10_imageOf_B22 h)
  else (
    (gR h a0 10 3).bind fun v1 =>
    (aN h v1).bind fun v2 =>
    if v2 ≤ a1 then (
      X10_imageOf_B22 h)
    else (
      (gR h a0 10 3).bind fun v3 =>
      (aR h v3 a1).bind fun v4 =>
      some (some v4, h)))
theorem X10_imageOf_ok {a0 : Nat} {a1 : Int32} {h h' : Hp} {r : Option Nat} (H : X10_imageOf a0 a1 h = some (r, h')) : Con M_X10_imageOf [.ref a0, .int a1] h (some (orf r)) h' := by
  refine con_of_go (by decide) 0 (L := [some (.ref a0), some (.int a1)]) rfl (Nat.le_of_ble_eq_true rfl) ?_
  unfold X10_imageOf at H
  refine go_iload_n (pc := 0) dX10_imageOf_0 rfl rfl ?_
  refine go_if_lt (pc := 1) (tgt := 22) dX10_imageOf_1 (by decide) H (fun H => ?_) (fun H => ?_)
  · exact Go.weak (L' := [none, none]) trivial (X10_imageOf_B22_ok h H)
  · refine go_iload_n (pc := 4) dX10_imageOf_4 rfl rfl ?_
    refine go_aload_n (pc := 5) dX10_imageOf_5 rfl rfl ?_
    refine go_getR (pc := 6) dX10_imageOf_6 fl_X10_39 H (fun v1 H => ?_)
    refine go_alen (pc := 9) dX10_imageOf_9 H (fun v2 H => ?_)
    refine go_icmp_ge (pc := 10) (tgt := 22) dX10_imageOf_10 (by decide) H (fun H => ?_) (fun H => ?_)
    · exact Go.weak (L' := [none, none]) trivial (X10_imageOf_B22_ok h H)
    · refine go_aload_n (pc := 13) dX10_imageOf_13 rfl rfl ?_
      refine go_getR (pc := 14) dX10_imageOf_14 fl_X10_39 H (fun v3 H => ?_)
      refine go_iload_n (pc := 17) dX10_imageOf_17 rfl rfl ?_
      refine go_aaload (pc := 18) dX10_imageOf_18 H (fun v4 H => ?_)
      refine go_goto (pc := 19) (tgt := 23) dX10_imageOf_19 (by decide) ?_
      exact go_aretQ (x := some v4) (pc := 23) dX10_imageOf_23 rfl ⟨Nat.le_of_ble_eq_true rfl, Nat.le_of_ble_eq_true rfl⟩ H

def M_X10_image : MD := (yX10_image, cX10_image, 2, (some .int), 2, 43, 0, 0)
theorem cv_X10_image : CVo M_X10_image 0 10 := ⟨⟨wd_1233, wd_109, ⟨by decide, by decide⟩, by decide +kernel⟩, wd_1231, wd_1232, _, rfl, rfl⟩
def X10_image_B30n (a0 : Nat) (s0 : Nat) (s1 : Int32) (h : Hp) : Option (Int32 × Hp) :=
  cV h s0 10 (X10_isRefused s0 s1 h) fun v102 h101 =>
  if v102 = 0 then (
    some ((-1), h101))
  else (
    some ((-1), h101))
theorem X10_image_B30n_ok {hh h' : Hp} {r : Int32}  (a0 : Nat) (s0 : Nat) (s1 : Int32) (h : Hp) (H : X10_image_B30n a0 s0 s1 h = some (r, h')) : Go (PM M_X10_image hh (some (.int r)) h') M_X10_image 30 [some (.ref a0), some (.null)] [.int s1, .ref s0] h 0 0 := by
  unfold X10_image_B30n at H
  refine go_cVi (pc := 30) (Mz := M_X10_isRefused) (as := [.int s1]) (a := s0) (st := []) dX10_image_30 wd_511 cv_X10_isRefused X10_isRefused_ok rfl rfl ⟨Nat.le_of_ble_eq_true rfl, Nat.le_of_ble_eq_true rfl⟩ (Nat.le_of_ble_eq_true rfl) ⟨rfl, rfl⟩ ⟨Nat.le_of_ble_eq_true rfl, Nat.le_of_ble_eq_true rfl⟩ H (fun v102 h101 H => ?_)
  refine go_if_ne (pc := 33) (tgt := 40) dX10_image_33 (by decide) H (fun H => ?_) (fun H => ?_)
  · refine go_iconst (pc := 40) (v := (-1)) dX10_image_40 (by decide) ?_
    exact go_iret (pc := 41) dX10_image_41 rfl ⟨Nat.le_of_ble_eq_true rfl, Nat.le_of_ble_eq_true rfl⟩ H
  · refine go_aload_nN (pc := 36) dX10_image_36 rfl rfl ?_
    refine go_ifnonnullN (pc := 37) dX10_image_37 ?_
    refine go_iconst (pc := 40) (v := (-1)) dX10_image_40 (by decide) ?_
    exact go_iret (pc := 41) dX10_image_41 rfl ⟨Nat.le_of_ble_eq_true rfl, Nat.le_of_ble_eq_true rfl⟩ H

def X10_image_B30 (a0 : Nat) (a1 : Nat) (s0 : Nat) (s1 : Int32) (h : Hp) : Option (Int32 × Hp) :=
  cV h s0 10 (X10_isRefused s0 s1 h) fun v202 h201 =>
  if v202 = 0 then (
    (gR h201 a0 10 2).bind fun v203 =>
    cVv h201 a1 4 (X4_copyFrom a1 v203 h201) fun h204 =>
    (gI h204 a0 10 13).bind fun v205 =>
    (pF h204 a0 10 13 (.int (v205 + 1))).bind fun h206 =>
    (gI h206 a0 10 13).bind fun v207 =>
    some (v207 - 1, h206))
  else (
    some ((-1), h201))
theorem X10_image_B30_ok {hh h' : Hp} {r : Int32}  (a0 : Nat) (a1 : Nat) (s0 : Nat) (s1 : Int32) (h : Hp) (H : X10_image_B30 a0 a1 s0 s1 h = some (r, h')) : Go (PM M_X10_image hh (some (.int r)) h') M_X10_image 30 [some (.ref a0), some (.ref a1)] [.int s1, .ref s0] h 0 0 := by
  unfold X10_image_B30 at H
  refine go_cVi (pc := 30) (Mz := M_X10_isRefused) (as := [.int s1]) (a := s0) (st := []) dX10_image_30 wd_511 cv_X10_isRefused X10_isRefused_ok rfl rfl ⟨Nat.le_of_ble_eq_true rfl, Nat.le_of_ble_eq_true rfl⟩ (Nat.le_of_ble_eq_true rfl) ⟨rfl, rfl⟩ ⟨Nat.le_of_ble_eq_true rfl, Nat.le_of_ble_eq_true rfl⟩ H (fun v202 h201 H => ?_)
  refine go_if_ne (pc := 33) (tgt := 40) dX10_image_33 (by decide) H (fun H => ?_) (fun H => ?_)
  · refine go_iconst (pc := 40) (v := (-1)) dX10_image_40 (by decide) ?_
    exact go_iret (pc := 41) dX10_image_41 rfl ⟨Nat.le_of_ble_eq_true rfl, Nat.le_of_ble_eq_true rfl⟩ H
  · refine go_aload_n (pc := 36) dX10_image_36 rfl rfl ?_
    refine go_ifnonnullR (pc := 37) (tgt := 42) dX10_image_37 (by decide) ?_
    refine go_aload_n (pc := 42) dX10_image_42 rfl rfl ?_
    refine go_aload_n (pc := 43) dX10_image_43 rfl rfl ?_
    refine go_getR (pc := 44) dX10_image_44 fl_X10_35 H (fun v203 H => ?_)
    refine go_cVv (pc := 47) (Mz := M_X4_copyFrom) (as := [.ref v203]) (a := a1) (st := []) dX10_image_47 wd_1238 cv_X4_copyFrom X4_copyFrom_ok rfl rfl ⟨Nat.le_of_ble_eq_true rfl, Nat.le_of_ble_eq_true rfl⟩ (Nat.le_of_ble_eq_true rfl) ⟨rfl, rfl⟩ ⟨Nat.le_of_ble_eq_true rfl, Nat.le_of_ble_eq_true rfl⟩ H (fun h204 H => ?_)
    refine go_aload_n (pc := 50) dX10_image_50 rfl rfl ?_
    refine go_dup (pc := 51) dX10_image_51 rfl ?_
    refine go_getI (pc := 52) dX10_image_52 fl_X10_329 H (fun v205 H => ?_)
    refine go_iconst (pc := 55) (v := 1) dX10_image_55 (by decide) ?_
    refine go_iadd (pc := 56) dX10_image_56 ?_
    refine go_putI (pc := 57) dX10_image_57 fs_X10_329 H (fun h206 H => ?_)
    refine go_aload_n (pc := 60) dX10_image_60 rfl rfl ?_
    refine go_getI (pc := 61) dX10_image_61 fl_X10_329 H (fun v207 H => ?_)
    refine go_iconst (pc := 64) (v := 1) dX10_image_64 (by decide) ?_
    refine go_isub (pc := 65) dX10_image_65 ?_
    exact go_iret (pc := 66) dX10_image_66 rfl ⟨Nat.le_of_ble_eq_true rfl, Nat.le_of_ble_eq_true rfl⟩ H

def X10_image (a0 : Nat) (h : Hp) : Option (Int32 × Hp) :=
  (gI h a0 10 13).bind fun v1 =>
  cV h a0 10 (X10_imageOf a0 v1 h) fun v3 h2 =>
  match v3 with
  | none => (
    (gI h2 a0 10 11).bind fun v5 =>
    if v5 = 0 then (
      X10_image_B30n a0 a0 1 h2)
    else (
      X10_image_B30n a0 a0 3 h2))
  | some v4 => (
    (gI h2 a0 10 11).bind fun v6 =>
    if v6 = 0 then (
      X10_image_B30 a0 v4 a0 1 h2)
    else (
      X10_image_B30 a0 v4 a0 0 h2))
theorem X10_image_ok {a0 : Nat} {h h' : Hp} {r : Int32} (H : X10_image a0 h = some (r, h')) : Con M_X10_image [.ref a0] h (some (.int r)) h' := by
  refine con_of_go (by decide) 1 (L := [some (.ref a0), none]) rfl (Nat.le_of_ble_eq_true rfl) ?_
  unfold X10_image at H
  refine go_aload_n (pc := 0) dX10_image_0 rfl rfl ?_
  refine go_aload_n (pc := 1) dX10_image_1 rfl rfl ?_
  refine go_getI (pc := 2) dX10_image_2 fl_X10_329 H (fun v1 H => ?_)
  refine go_cVq (pc := 5) (Mz := M_X10_imageOf) (as := [.int v1]) (a := a0) (st := []) dX10_image_5 wd_1234 cv_X10_imageOf X10_imageOf_ok rfl rfl ⟨Nat.le_of_ble_eq_true rfl, Nat.le_of_ble_eq_true rfl⟩ (Nat.le_of_ble_eq_true rfl) ⟨rfl, rfl⟩ ⟨Nat.le_of_ble_eq_true rfl, Nat.le_of_ble_eq_true rfl⟩ H (fun v3 h2 H => ?_)
  cases v3 with
  | none =>
    refine go_astore_nN (pc := 8) (L' := [some (.ref a0), some (.null)]) dX10_image_8 rfl (Nat.le_of_ble_eq_true rfl) rfl ?_
    refine go_aload_n (pc := 9) dX10_image_9 rfl rfl ?_
    refine go_aload_n (pc := 10) dX10_image_10 rfl rfl ?_
    refine go_getI (pc := 11) dX10_image_11 fl_X10_144 H (fun v5 H => ?_)
    refine go_if_ne (pc := 14) (tgt := 21) dX10_image_14 (by decide) H (fun H => ?_) (fun H => ?_)
    · refine go_aload_nN (pc := 21) dX10_image_21 rfl rfl ?_
      refine go_ifnonnullN (pc := 22) dX10_image_22 ?_
      refine go_iconst (pc := 25) (v := 3) dX10_image_25 (by decide) ?_
      refine go_goto (pc := 26) (tgt := 30) dX10_image_26 (by decide) ?_
      exact Go.weak (L' := [some (.ref a0), some (.null)]) ⟨rfl, ⟨rfl, trivial⟩⟩ (X10_image_B30n_ok a0 a0 3 h2 H)
    · refine go_iconst (pc := 17) (v := 1) dX10_image_17 (by decide) ?_
      refine go_goto (pc := 18) (tgt := 30) dX10_image_18 (by decide) ?_
      exact Go.weak (L' := [some (.ref a0), some (.null)]) ⟨rfl, ⟨rfl, trivial⟩⟩ (X10_image_B30n_ok a0 a0 1 h2 H)
  | some v4 =>
    refine go_astore_n (pc := 8) (L' := [some (.ref a0), some (.ref v4)]) dX10_image_8 rfl (Nat.le_of_ble_eq_true rfl) rfl ?_
    refine go_aload_n (pc := 9) dX10_image_9 rfl rfl ?_
    refine go_aload_n (pc := 10) dX10_image_10 rfl rfl ?_
    refine go_getI (pc := 11) dX10_image_11 fl_X10_144 H (fun v6 H => ?_)
    refine go_if_ne (pc := 14) (tgt := 21) dX10_image_14 (by decide) H (fun H => ?_) (fun H => ?_)
    · refine go_aload_n (pc := 21) dX10_image_21 rfl rfl ?_
      refine go_ifnonnullR (pc := 22) (tgt := 29) dX10_image_22 (by decide) ?_
      refine go_iconst (pc := 29) (v := 0) dX10_image_29 (by decide) ?_
      exact Go.weak (L' := [some (.ref a0), some (.ref v4)]) ⟨rfl, ⟨rfl, trivial⟩⟩ (X10_image_B30_ok a0 v4 a0 0 h2 H)
    · refine go_iconst (pc := 17) (v := 1) dX10_image_17 (by decide) ?_
      refine go_goto (pc := 18) (tgt := 30) dX10_image_18 (by decide) ?_
      exact Go.weak (L' := [some (.ref a0), some (.ref v4)]) ⟨rfl, ⟨rfl, trivial⟩⟩ (X10_image_B30_ok a0 v4 a0 1 h2 H)

def M_X10_back : MD := (yX10_back, cX10_back, 3, (some .boolean), 2, 43, 0, 0)
theorem cv_X10_back : CVo M_X10_back 1 10 := ⟨⟨wd_1242, wd_109, ⟨by decide, by decide⟩, by decide +kernel⟩, wd_1240, wd_1241, _, rfl, rfl⟩
def X10_back_B28n (a0 : Nat) (s0 : Nat) (s1 : Int32) (h : Hp) : Option (Int32 × Hp) :=
  cV h s0 10 (X10_isRefused s0 s1 h) fun v202 h201 =>
  if v202 = 0 then (
    rZ 0 h201)
  else (
    rZ 0 h201)
theorem X10_back_B28n_ok {hh h' : Hp} {r : Int32}  (a0 : Nat) (s0 : Nat) (s1 : Int32) (h : Hp) (H : X10_back_B28n a0 s0 s1 h = some (r, h')) : Go (PM M_X10_back hh (some (.int r)) h') M_X10_back 28 [some (.ref a0), none, some (.null)] [.int s1, .ref s0] h 0 0 := by
  unfold X10_back_B28n at H
  refine go_cVi (pc := 28) (Mz := M_X10_isRefused) (as := [.int s1]) (a := s0) (st := []) dX10_back_28 wd_511 cv_X10_isRefused X10_isRefused_ok rfl rfl ⟨Nat.le_of_ble_eq_true rfl, Nat.le_of_ble_eq_true rfl⟩ (Nat.le_of_ble_eq_true rfl) ⟨rfl, rfl⟩ ⟨Nat.le_of_ble_eq_true rfl, Nat.le_of_ble_eq_true rfl⟩ H (fun v202 h201 H => ?_)
  refine go_if_ne (pc := 31) (tgt := 38) dX10_back_31 (by decide) H (fun H => ?_) (fun H => ?_)
  · refine go_iconst (pc := 38) (v := 0) dX10_back_38 (by decide) ?_
    exact go_zret (pc := 39) dX10_back_39 rfl ⟨Nat.le_of_ble_eq_true rfl, Nat.le_of_ble_eq_true rfl⟩ H
  · refine go_aload_nN (pc := 34) dX10_back_34 rfl rfl ?_
    refine go_ifnonnullN (pc := 35) dX10_back_35 ?_
    refine go_iconst (pc := 38) (v := 0) dX10_back_38 (by decide) ?_
    exact go_zret (pc := 39) dX10_back_39 rfl ⟨Nat.le_of_ble_eq_true rfl, Nat.le_of_ble_eq_true rfl⟩ H

def X10_back_B28 (a0 : Nat) (a2 : Nat) (s0 : Nat) (s1 : Int32) (h : Hp) : Option (Int32 × Hp) :=
  cV h s0 10 (X10_isRefused s0 s1 h) fun v302 h301 =>
  if v302 = 0 then (
    (gR h301 a0 10 2).bind fun v303 =>
    cVv h301 v303 4 (X4_copyFrom v303 a2 h301) fun h304 =>
    (gR h304 a0 10 4).bind fun v305 =>
    cVv h304 v305 0 (X0_forget v305 h304) fun h306 =>
    rZ 1 h306)
  else (
    rZ 0 h301)
theorem X10_back_B28_ok {hh h' : Hp} {r : Int32}  (a0 : Nat) (a2 : Nat) (s0 : Nat) (s1 : Int32) (h : Hp) (H : X10_back_B28 a0 a2 s0 s1 h = some (r, h')) : Go (PM M_X10_back hh (some (.int r)) h') M_X10_back 28 [some (.ref a0), none, some (.ref a2)] [.int s1, .ref s0] h 0 0 := by
  unfold X10_back_B28 at H
  refine go_cVi (pc := 28) (Mz := M_X10_isRefused) (as := [.int s1]) (a := s0) (st := []) dX10_back_28 wd_511 cv_X10_isRefused X10_isRefused_ok rfl rfl ⟨Nat.le_of_ble_eq_true rfl, Nat.le_of_ble_eq_true rfl⟩ (Nat.le_of_ble_eq_true rfl) ⟨rfl, rfl⟩ ⟨Nat.le_of_ble_eq_true rfl, Nat.le_of_ble_eq_true rfl⟩ H (fun v302 h301 H => ?_)
  refine go_if_ne (pc := 31) (tgt := 38) dX10_back_31 (by decide) H (fun H => ?_) (fun H => ?_)
  · refine go_iconst (pc := 38) (v := 0) dX10_back_38 (by decide) ?_
    exact go_zret (pc := 39) dX10_back_39 rfl ⟨Nat.le_of_ble_eq_true rfl, Nat.le_of_ble_eq_true rfl⟩ H
  · refine go_aload_n (pc := 34) dX10_back_34 rfl rfl ?_
    refine go_ifnonnullR (pc := 35) (tgt := 40) dX10_back_35 (by decide) ?_
    refine go_aload_n (pc := 40) dX10_back_40 rfl rfl ?_
    refine go_getR (pc := 41) dX10_back_41 fl_X10_35 H (fun v303 H => ?_)
    refine go_aload_n (pc := 44) dX10_back_44 rfl rfl ?_
    refine go_cVv (pc := 45) (Mz := M_X4_copyFrom) (as := [.ref a2]) (a := v303) (st := []) dX10_back_45 wd_1238 cv_X4_copyFrom X4_copyFrom_ok rfl rfl ⟨Nat.le_of_ble_eq_true rfl, Nat.le_of_ble_eq_true rfl⟩ (Nat.le_of_ble_eq_true rfl) ⟨rfl, rfl⟩ ⟨Nat.le_of_ble_eq_true rfl, Nat.le_of_ble_eq_true rfl⟩ H (fun h304 H => ?_)
    refine go_aload_n (pc := 48) dX10_back_48 rfl rfl ?_
    refine go_getR (pc := 49) dX10_back_49 fl_X10_46 H (fun v305 H => ?_)
    refine go_cVv (pc := 52) (Mz := M_X0_forget) (as := []) (a := v305) (st := []) dX10_back_52 wd_733 cv_X0_forget X0_forget_ok rfl rfl ⟨Nat.le_of_ble_eq_true rfl, Nat.le_of_ble_eq_true rfl⟩ (Nat.le_of_ble_eq_true rfl) ⟨rfl, rfl⟩ ⟨Nat.le_of_ble_eq_true rfl, Nat.le_of_ble_eq_true rfl⟩ H (fun h306 H => ?_)
    refine go_iconst (pc := 55) (v := 1) dX10_back_55 (by decide) ?_
    exact go_zret (pc := 56) dX10_back_56 rfl ⟨Nat.le_of_ble_eq_true rfl, Nat.le_of_ble_eq_true rfl⟩ H

def X10_back_B17 (a0 : Nat) (s0 : Option Nat) (h : Hp) : Option (Int32 × Hp) :=
  match s0 with
  | none => (
    X10_back_B28n a0 a0 1 h)
  | some v101 => (
    X10_back_B28 a0 v101 a0 0 h)
theorem X10_back_B17_ok {hh h' : Hp} {r : Int32}  (a0 : Nat) (s0 : Option Nat) (h : Hp) (H : X10_back_B17 a0 s0 h = some (r, h')) : Go (PM M_X10_back hh (some (.int r)) h') M_X10_back 17 [some (.ref a0), none, none] [orf s0] h 0 0 := by
  unfold X10_back_B17 at H
  cases s0 with
  | none =>
    refine go_astore_nN (pc := 17) (L' := [some (.ref a0), none, some (.null)]) dX10_back_17 rfl (Nat.le_of_ble_eq_true rfl) rfl ?_
    refine go_aload_n (pc := 18) dX10_back_18 rfl rfl ?_
    refine go_aload_nN (pc := 19) dX10_back_19 rfl rfl ?_
    refine go_ifnonnullN (pc := 20) dX10_back_20 ?_
    refine go_iconst (pc := 23) (v := 1) dX10_back_23 (by decide) ?_
    refine go_goto (pc := 24) (tgt := 28) dX10_back_24 (by decide) ?_
    exact Go.weak (L' := [some (.ref a0), none, some (.null)]) ⟨rfl, ⟨rfl, trivial⟩⟩ (X10_back_B28n_ok a0 a0 1 h H)
  | some v101 =>
    refine go_astore_n (pc := 17) (L' := [some (.ref a0), none, some (.ref v101)]) dX10_back_17 rfl (Nat.le_of_ble_eq_true rfl) rfl ?_
    refine go_aload_n (pc := 18) dX10_back_18 rfl rfl ?_
    refine go_aload_n (pc := 19) dX10_back_19 rfl rfl ?_
    refine go_ifnonnullR (pc := 20) (tgt := 27) dX10_back_20 (by decide) ?_
    refine go_iconst (pc := 27) (v := 0) dX10_back_27 (by decide) ?_
    exact Go.weak (L' := [some (.ref a0), none, some (.ref v101)]) ⟨rfl, ⟨rfl, trivial⟩⟩ (X10_back_B28_ok a0 v101 a0 0 h H)

def X10_back (a0 : Nat) (a1 : Int32) (h : Hp) : Option (Int32 × Hp) :=
  (gI h a0 10 13).bind fun v1 =>
  if v1 ≤ a1 then (
    X10_back_B17 a0 none h)
  else (
    cV h a0 10 (X10_imageOf a0 a1 h) fun v3 h2 =>
    match v3 with
    | none => (
      X10_back_B17 a0 none h2)
    | some v4 => (
      X10_back_B17 a0 (some v4) h2))
theorem X10_back_ok {a0 : Nat} {a1 : Int32} {h h' : Hp} {r : Int32} (H : X10_back a0 a1 h = some (r, h')) : Con M_X10_back [.ref a0, .int a1] h (some (.int r)) h' := by
  refine con_of_go (by decide) 1 (L := [some (.ref a0), some (.int a1), none]) rfl (Nat.le_of_ble_eq_true rfl) ?_
  unfold X10_back at H
  refine go_iload_n (pc := 0) dX10_back_0 rfl rfl ?_
  refine go_aload_n (pc := 1) dX10_back_1 rfl rfl ?_
  refine go_getI (pc := 2) dX10_back_2 fl_X10_329 H (fun v1 H => ?_)
  refine go_icmp_ge (pc := 5) (tgt := 16) dX10_back_5 (by decide) H (fun H => ?_) (fun H => ?_)
  · refine go_null (pc := 16) dX10_back_16 ?_
    exact Go.weak (L' := [some (.ref a0), none, none]) ⟨rfl, trivial⟩ (X10_back_B17_ok a0 none h H)
  · refine go_aload_n (pc := 8) dX10_back_8 rfl rfl ?_
    refine go_iload_n (pc := 9) dX10_back_9 rfl rfl ?_
    refine go_cVq (pc := 10) (Mz := M_X10_imageOf) (as := [.int a1]) (a := a0) (st := []) dX10_back_10 wd_1234 cv_X10_imageOf X10_imageOf_ok rfl rfl ⟨Nat.le_of_ble_eq_true rfl, Nat.le_of_ble_eq_true rfl⟩ (Nat.le_of_ble_eq_true rfl) ⟨rfl, rfl⟩ ⟨Nat.le_of_ble_eq_true rfl, Nat.le_of_ble_eq_true rfl⟩ H (fun v3 h2 H => ?_)
    cases v3 with
    | none =>
      refine go_goto (pc := 13) (tgt := 17) dX10_back_13 (by decide) ?_
      exact Go.weak (L' := [some (.ref a0), none, none]) ⟨rfl, trivial⟩ (X10_back_B17_ok a0 none h2 H)
    | some v4 =>
      refine go_goto (pc := 13) (tgt := 17) dX10_back_13 (by decide) ?_
      exact Go.weak (L' := [some (.ref a0), none, none]) ⟨rfl, trivial⟩ (X10_back_B17_ok a0 (some v4) h2 H)

def M_X10_size : MD := (yX10_size, cX10_size, 2, (some .int), 0, 0, 0, 0)
theorem cv_X10_size : CVo M_X10_size 1 10 := ⟨⟨wd_1246, wd_109, ⟨by decide, by decide⟩, by decide +kernel⟩, wd_1244, wd_1245, _, rfl, rfl⟩
def X10_size (a0 : Nat) (a1 : Int32) (h : Hp) : Option (Int32 × Hp) :=
  if a1 = 0 then (
    (gR h a0 10 9).bind fun v1 =>
    (gI h v1 9 10).bind fun v2 =>
    some (v2, h))
  else if a1 = 1 then (
    (gR h a0 10 9).bind fun v3 =>
    (gI h v3 9 11).bind fun v4 =>
    some (v4, h))
  else if a1 = 2 then (
    (gR h a0 10 9).bind fun v5 =>
    (gR h v5 9 0).bind fun v6 =>
    (gI h v6 8 3).bind fun v7 =>
    some (v7, h))
  else if a1 = 3 then (
    (gR h a0 10 9).bind fun v8 =>
    (gR h v8 9 1).bind fun v9 =>
    (gI h v9 8 3).bind fun v10 =>
    some (v10, h))
  else if a1 = 4 then (
    (gR h a0 10 9).bind fun v11 =>
    (gR h v11 9 2).bind fun v12 =>
    (gI h v12 8 3).bind fun v13 =>
    some (v13, h))
  else if a1 = 5 then (
    (gR h a0 10 9).bind fun v14 =>
    (gR h v14 9 3).bind fun v15 =>
    (gI h v15 8 3).bind fun v16 =>
    some (v16, h))
  else if a1 = 6 then (
    (gR h a0 10 9).bind fun v17 =>
    (gR h v17 9 4).bind fun v18 =>
    (gI h v18 8 3).bind fun v19 =>
    some (v19, h))
  else if a1 = 7 then (
    (gR h a0 10 9).bind fun v20 =>
    (gR h v20 9 5).bind fun v21 =>
    (gI h v21 8 3).bind fun v22 =>
    some (v22, h))
  else if a1 = 8 then (
    (gR h a0 10 9).bind fun v23 =>
    (gR h v23 9 6).bind fun v24 =>
    (gI h v24 8 3).bind fun v25 =>
    some (v25, h))
  else if a1 = 9 then (
    (gR h a0 10 4).bind fun v26 =>
    (gI h v26 0 2).bind fun v27 =>
    some (v27, h))
  else if a1 = 10 then (
    (gI h a0 10 13).bind fun v28 =>
    some (v28, h))
  else if a1 = 11 then (
    (gI h a0 10 12).bind fun v29 =>
    some (v29, h))
  else (
    some ((-1), h))
theorem X10_size_ok {a0 : Nat} {a1 : Int32} {h h' : Hp} {r : Int32} (H : X10_size a0 a1 h = some (r, h')) : Con M_X10_size [.ref a0, .int a1] h (some (.int r)) h' := by
  refine con_of_go (by decide) 0 (L := [some (.ref a0), some (.int a1)]) rfl (Nat.le_of_ble_eq_true rfl) ?_
  unfold X10_size at H
  refine go_iload_n (pc := 0) dX10_size_0 rfl rfl ?_
  by_cases c0 : a1 = 0
  · rw [if_pos c0] at H
    refine go_tabIn (pc := 1) (off := 63) (tgt := 64) dX10_size_1 (by rw [c0]; decide) (by rw [c0]; decide) (by rw [c0]; decide) (by decide) ?_
    refine go_aload_n (pc := 64) dX10_size_64 rfl rfl ?_
    refine go_getR (pc := 65) dX10_size_65 fl_X10_16 H (fun v1 H => ?_)
    refine go_getI (pc := 68) dX10_size_68 fl_X10_345 H (fun v2 H => ?_)
    exact go_iret (pc := 71) dX10_size_71 rfl ⟨Nat.le_of_ble_eq_true rfl, Nat.le_of_ble_eq_true rfl⟩ H
  rw [if_neg c0] at H
  by_cases c1 : a1 = 1
  · rw [if_pos c1] at H
    refine go_tabIn (pc := 1) (off := 71) (tgt := 72) dX10_size_1 (by rw [c1]; decide) (by rw [c1]; decide) (by rw [c1]; decide) (by decide) ?_
    refine go_aload_n (pc := 72) dX10_size_72 rfl rfl ?_
    refine go_getR (pc := 73) dX10_size_73 fl_X10_16 H (fun v3 H => ?_)
    refine go_getI (pc := 76) dX10_size_76 fl_X10_347 H (fun v4 H => ?_)
    exact go_iret (pc := 79) dX10_size_79 rfl ⟨Nat.le_of_ble_eq_true rfl, Nat.le_of_ble_eq_true rfl⟩ H
  rw [if_neg c1] at H
  by_cases c2 : a1 = 2
  · rw [if_pos c2] at H
    refine go_tabIn (pc := 1) (off := 79) (tgt := 80) dX10_size_1 (by rw [c2]; decide) (by rw [c2]; decide) (by rw [c2]; decide) (by decide) ?_
    refine go_aload_n (pc := 80) dX10_size_80 rfl rfl ?_
    refine go_getR (pc := 81) dX10_size_81 fl_X10_16 H (fun v5 H => ?_)
    refine go_getR (pc := 84) dX10_size_84 fl_X10_134 H (fun v6 H => ?_)
    refine go_getI (pc := 87) dX10_size_87 fl_X10_108 H (fun v7 H => ?_)
    exact go_iret (pc := 90) dX10_size_90 rfl ⟨Nat.le_of_ble_eq_true rfl, Nat.le_of_ble_eq_true rfl⟩ H
  rw [if_neg c2] at H
  by_cases c3 : a1 = 3
  · rw [if_pos c3] at H
    refine go_tabIn (pc := 1) (off := 90) (tgt := 91) dX10_size_1 (by rw [c3]; decide) (by rw [c3]; decide) (by rw [c3]; decide) (by decide) ?_
    refine go_aload_n (pc := 91) dX10_size_91 rfl rfl ?_
    refine go_getR (pc := 92) dX10_size_92 fl_X10_16 H (fun v8 H => ?_)
    refine go_getR (pc := 95) dX10_size_95 fl_X10_148 H (fun v9 H => ?_)
    refine go_getI (pc := 98) dX10_size_98 fl_X10_108 H (fun v10 H => ?_)
    exact go_iret (pc := 101) dX10_size_101 rfl ⟨Nat.le_of_ble_eq_true rfl, Nat.le_of_ble_eq_true rfl⟩ H
  rw [if_neg c3] at H
  by_cases c4 : a1 = 4
  · rw [if_pos c4] at H
    refine go_tabIn (pc := 1) (off := 101) (tgt := 102) dX10_size_1 (by rw [c4]; decide) (by rw [c4]; decide) (by rw [c4]; decide) (by decide) ?_
    refine go_aload_n (pc := 102) dX10_size_102 rfl rfl ?_
    refine go_getR (pc := 103) dX10_size_103 fl_X10_16 H (fun v11 H => ?_)
    refine go_getR (pc := 106) dX10_size_106 fl_X10_104 H (fun v12 H => ?_)
    refine go_getI (pc := 109) dX10_size_109 fl_X10_108 H (fun v13 H => ?_)
    exact go_iret (pc := 112) dX10_size_112 rfl ⟨Nat.le_of_ble_eq_true rfl, Nat.le_of_ble_eq_true rfl⟩ H
  rw [if_neg c4] at H
  by_cases c5 : a1 = 5
  · rw [if_pos c5] at H
    refine go_tabIn (pc := 1) (off := 112) (tgt := 113) dX10_size_1 (by rw [c5]; decide) (by rw [c5]; decide) (by rw [c5]; decide) (by decide) ?_
    refine go_aload_n (pc := 113) dX10_size_113 rfl rfl ?_
    refine go_getR (pc := 114) dX10_size_114 fl_X10_16 H (fun v14 H => ?_)
    refine go_getR (pc := 117) dX10_size_117 fl_X10_350 H (fun v15 H => ?_)
    refine go_getI (pc := 120) dX10_size_120 fl_X10_108 H (fun v16 H => ?_)
    exact go_iret (pc := 123) dX10_size_123 rfl ⟨Nat.le_of_ble_eq_true rfl, Nat.le_of_ble_eq_true rfl⟩ H
  rw [if_neg c5] at H
  by_cases c6 : a1 = 6
  · rw [if_pos c6] at H
    refine go_tabIn (pc := 1) (off := 123) (tgt := 124) dX10_size_1 (by rw [c6]; decide) (by rw [c6]; decide) (by rw [c6]; decide) (by decide) ?_
    refine go_aload_n (pc := 124) dX10_size_124 rfl rfl ?_
    refine go_getR (pc := 125) dX10_size_125 fl_X10_16 H (fun v17 H => ?_)
    refine go_getR (pc := 128) dX10_size_128 fl_X10_353 H (fun v18 H => ?_)
    refine go_getI (pc := 131) dX10_size_131 fl_X10_108 H (fun v19 H => ?_)
    exact go_iret (pc := 134) dX10_size_134 rfl ⟨Nat.le_of_ble_eq_true rfl, Nat.le_of_ble_eq_true rfl⟩ H
  rw [if_neg c6] at H
  by_cases c7 : a1 = 7
  · rw [if_pos c7] at H
    refine go_tabIn (pc := 1) (off := 134) (tgt := 135) dX10_size_1 (by rw [c7]; decide) (by rw [c7]; decide) (by rw [c7]; decide) (by decide) ?_
    refine go_aload_n (pc := 135) dX10_size_135 rfl rfl ?_
    refine go_getR (pc := 136) dX10_size_136 fl_X10_16 H (fun v20 H => ?_)
    refine go_getR (pc := 139) dX10_size_139 fl_X10_356 H (fun v21 H => ?_)
    refine go_getI (pc := 142) dX10_size_142 fl_X10_108 H (fun v22 H => ?_)
    exact go_iret (pc := 145) dX10_size_145 rfl ⟨Nat.le_of_ble_eq_true rfl, Nat.le_of_ble_eq_true rfl⟩ H
  rw [if_neg c7] at H
  by_cases c8 : a1 = 8
  · rw [if_pos c8] at H
    refine go_tabIn (pc := 1) (off := 145) (tgt := 146) dX10_size_1 (by rw [c8]; decide) (by rw [c8]; decide) (by rw [c8]; decide) (by decide) ?_
    refine go_aload_n (pc := 146) dX10_size_146 rfl rfl ?_
    refine go_getR (pc := 147) dX10_size_147 fl_X10_16 H (fun v23 H => ?_)
    refine go_getR (pc := 150) dX10_size_150 fl_X10_359 H (fun v24 H => ?_)
    refine go_getI (pc := 153) dX10_size_153 fl_X10_108 H (fun v25 H => ?_)
    exact go_iret (pc := 156) dX10_size_156 rfl ⟨Nat.le_of_ble_eq_true rfl, Nat.le_of_ble_eq_true rfl⟩ H
  rw [if_neg c8] at H
  by_cases c9 : a1 = 9
  · rw [if_pos c9] at H
    refine go_tabIn (pc := 1) (off := 156) (tgt := 157) dX10_size_1 (by rw [c9]; decide) (by rw [c9]; decide) (by rw [c9]; decide) (by decide) ?_
    refine go_aload_n (pc := 157) dX10_size_157 rfl rfl ?_
    refine go_getR (pc := 158) dX10_size_158 fl_X10_46 H (fun v26 H => ?_)
    refine go_getI (pc := 161) dX10_size_161 fl_X10_323 H (fun v27 H => ?_)
    exact go_iret (pc := 164) dX10_size_164 rfl ⟨Nat.le_of_ble_eq_true rfl, Nat.le_of_ble_eq_true rfl⟩ H
  rw [if_neg c9] at H
  by_cases c10 : a1 = 10
  · rw [if_pos c10] at H
    refine go_tabIn (pc := 1) (off := 164) (tgt := 165) dX10_size_1 (by rw [c10]; decide) (by rw [c10]; decide) (by rw [c10]; decide) (by decide) ?_
    refine go_aload_n (pc := 165) dX10_size_165 rfl rfl ?_
    refine go_getI (pc := 166) dX10_size_166 fl_X10_329 H (fun v28 H => ?_)
    exact go_iret (pc := 169) dX10_size_169 rfl ⟨Nat.le_of_ble_eq_true rfl, Nat.le_of_ble_eq_true rfl⟩ H
  rw [if_neg c10] at H
  by_cases c11 : a1 = 11
  · rw [if_pos c11] at H
    refine go_tabIn (pc := 1) (off := 169) (tgt := 170) dX10_size_1 (by rw [c11]; decide) (by rw [c11]; decide) (by rw [c11]; decide) (by decide) ?_
    refine go_aload_n (pc := 170) dX10_size_170 rfl rfl ?_
    refine go_getI (pc := 171) dX10_size_171 fl_X10_82 H (fun v29 H => ?_)
    exact go_iret (pc := 174) dX10_size_174 rfl ⟨Nat.le_of_ble_eq_true rfl, Nat.le_of_ble_eq_true rfl⟩ H
  rw [if_neg c11] at H
  refine go_tabOut (pc := 1) (tgt := 175) dX10_size_1 (by have z0 : a1.toInt ≠ 0 := i32_ne c0; have z1 : a1.toInt ≠ 1 := i32_ne c1; have z2 : a1.toInt ≠ 2 := i32_ne c2; have z3 : a1.toInt ≠ 3 := i32_ne c3; have z4 : a1.toInt ≠ 4 := i32_ne c4; have z5 : a1.toInt ≠ 5 := i32_ne c5; have z6 : a1.toInt ≠ 6 := i32_ne c6; have z7 : a1.toInt ≠ 7 := i32_ne c7; have z8 : a1.toInt ≠ 8 := i32_ne c8; have z9 : a1.toInt ≠ 9 := i32_ne c9; have z10 : a1.toInt ≠ 10 := i32_ne c10; have z11 : a1.toInt ≠ 11 := i32_ne c11; omega) (by decide) ?_
  refine go_iconst (pc := 175) (v := (-1)) dX10_size_175 (by decide) ?_
  exact go_iret (pc := 176) dX10_size_176 rfl ⟨Nat.le_of_ble_eq_true rfl, Nat.le_of_ble_eq_true rfl⟩ H

def M_X10_trouble : MD := (yX10_trouble, cX10_trouble, 1, (some .int), 0, 0, 0, 0)
theorem cv_X10_trouble : CVo M_X10_trouble 0 10 := ⟨⟨wd_1250, wd_109, ⟨by decide, by decide⟩, by decide +kernel⟩, wd_1248, wd_1249, _, rfl, rfl⟩
def X10_trouble (a0 : Nat) (h : Hp) : Option (Int32 × Hp) :=
  (gI h a0 10 14).bind fun v1 =>
  some (v1, h)
theorem X10_trouble_ok {a0 : Nat} {h h' : Hp} {r : Int32} (H : X10_trouble a0 h = some (r, h')) : Con M_X10_trouble [.ref a0] h (some (.int r)) h' := by
  refine con_of_go (by decide) 0 (L := [some (.ref a0)]) rfl (Nat.le_of_ble_eq_true rfl) ?_
  unfold X10_trouble at H
  refine go_aload_n (pc := 0) dX10_trouble_0 rfl rfl ?_
  refine go_getI (pc := 1) dX10_trouble_1 fl_X10_113 H (fun v1 H => ?_)
  exact go_iret (pc := 4) dX10_trouble_4 rfl ⟨Nat.le_of_ble_eq_true rfl, Nat.le_of_ble_eq_true rfl⟩ H
