/-! 17.reader: written by wip/whole/gen/all.py -/
theorem dX5_init_0 : decode cX5_init 0 = .ok (.aload_n 0, 1) := by decide +kernel
theorem dX5_init_1 : decode cX5_init 1 = .ok (.invokespecial 3, 3) := by decide +kernel
theorem dX5_init_4 : decode cX5_init 4 = .ok (.aload_n 0, 1) := by decide +kernel
theorem dX5_init_5 : decode cX5_init 5 = .ok (.iconst 5, 1) := by decide +kernel
theorem dX5_init_6 : decode cX5_init 6 = .ok (.newarray .long, 2) := by decide +kernel
theorem dX5_init_8 : decode cX5_init 8 = .ok (.putfield 9, 3) := by decide +kernel
theorem dX5_init_11 : decode cX5_init 11 = .ok (.aload_n 0, 1) := by decide +kernel
theorem dX5_init_12 : decode cX5_init 12 = .ok (.iconst 4, 1) := by decide +kernel
theorem dX5_init_13 : decode cX5_init 13 = .ok (.newarray .long, 2) := by decide +kernel
theorem dX5_init_15 : decode cX5_init 15 = .ok (.putfield 15, 3) := by decide +kernel
theorem dX5_init_18 : decode cX5_init 18 = .ok (.aload_n 0, 1) := by decide +kernel
theorem dX5_init_19 : decode cX5_init 19 = .ok (.aload_n 1, 1) := by decide +kernel
theorem dX5_init_20 : decode cX5_init 20 = .ok (.putfield 18, 3) := by decide +kernel
theorem dX5_init_23 : decode cX5_init 23 = .ok (.aload_n 0, 1) := by decide +kernel
theorem dX5_init_24 : decode cX5_init 24 = .ok (.aload_n 2, 1) := by decide +kernel
theorem dX5_init_25 : decode cX5_init 25 = .ok (.putfield 22, 3) := by decide +kernel
theorem dX5_init_28 : decode cX5_init 28 = .ok (.return_, 1) := by decide +kernel
theorem dX5_byteAt_0 : decode cX5_byteAt 0 = .ok (.iload_n 1, 1) := by decide +kernel
theorem dX5_byteAt_1 : decode cX5_byteAt 1 = .ok (.ifCond .lt 25, 3) := by decide +kernel
theorem dX5_byteAt_4 : decode cX5_byteAt 4 = .ok (.iload_n 1, 1) := by decide +kernel
theorem dX5_byteAt_5 : decode cX5_byteAt 5 = .ok (.aload_n 0, 1) := by decide +kernel
theorem dX5_byteAt_6 : decode cX5_byteAt 6 = .ok (.getfield 18, 3) := by decide +kernel
theorem dX5_byteAt_9 : decode cX5_byteAt 9 = .ok (.arraylength, 1) := by decide +kernel
theorem dX5_byteAt_10 : decode cX5_byteAt 10 = .ok (.if_icmp .ge 16, 3) := by decide +kernel
theorem dX5_byteAt_13 : decode cX5_byteAt 13 = .ok (.aload_n 0, 1) := by decide +kernel
theorem dX5_byteAt_14 : decode cX5_byteAt 14 = .ok (.getfield 18, 3) := by decide +kernel
theorem dX5_byteAt_17 : decode cX5_byteAt 17 = .ok (.iload_n 1, 1) := by decide +kernel
theorem dX5_byteAt_18 : decode cX5_byteAt 18 = .ok (.baload, 1) := by decide +kernel
theorem dX5_byteAt_19 : decode cX5_byteAt 19 = .ok (.sipush 255, 3) := by decide +kernel
theorem dX5_byteAt_22 : decode cX5_byteAt 22 = .ok (.iand, 1) := by decide +kernel
theorem dX5_byteAt_23 : decode cX5_byteAt 23 = .ok (.goto 4, 3) := by decide +kernel
theorem dX5_byteAt_26 : decode cX5_byteAt 26 = .ok (.iconst 0, 1) := by decide +kernel
theorem dX5_byteAt_27 : decode cX5_byteAt 27 = .ok (.ireturn, 1) := by decide +kernel
theorem dX5_sortOf_0 : decode cX5_sortOf 0 = .ok (.iload_n 0, 1) := by decide +kernel
theorem dX5_sortOf_1 : decode cX5_sortOf 1 = .ok (.bipush 97, 2) := by decide +kernel
theorem dX5_sortOf_3 : decode cX5_sortOf 3 = .ok (.if_icmp .lt 11, 3) := by decide +kernel
theorem dX5_sortOf_6 : decode cX5_sortOf 6 = .ok (.iload_n 0, 1) := by decide +kernel
theorem dX5_sortOf_7 : decode cX5_sortOf 7 = .ok (.bipush 122, 2) := by decide +kernel
theorem dX5_sortOf_9 : decode cX5_sortOf 9 = .ok (.if_icmp .gt 5, 3) := by decide +kernel
theorem dX5_sortOf_12 : decode cX5_sortOf 12 = .ok (.iconst 1, 1) := by decide +kernel
theorem dX5_sortOf_13 : decode cX5_sortOf 13 = .ok (.ireturn, 1) := by decide +kernel
theorem dX5_sortOf_14 : decode cX5_sortOf 14 = .ok (.iload_n 0, 1) := by decide +kernel
theorem dX5_sortOf_15 : decode cX5_sortOf 15 = .ok (.bipush 48, 2) := by decide +kernel
theorem dX5_sortOf_17 : decode cX5_sortOf 17 = .ok (.if_icmp .lt 11, 3) := by decide +kernel
theorem dX5_sortOf_20 : decode cX5_sortOf 20 = .ok (.iload_n 0, 1) := by decide +kernel
theorem dX5_sortOf_21 : decode cX5_sortOf 21 = .ok (.bipush 57, 2) := by decide +kernel
theorem dX5_sortOf_23 : decode cX5_sortOf 23 = .ok (.if_icmp .gt 5, 3) := by decide +kernel
theorem dX5_sortOf_26 : decode cX5_sortOf 26 = .ok (.iconst 2, 1) := by decide +kernel
theorem dX5_sortOf_27 : decode cX5_sortOf 27 = .ok (.ireturn, 1) := by decide +kernel
theorem dX5_sortOf_28 : decode cX5_sortOf 28 = .ok (.iload_n 0, 1) := by decide +kernel
theorem dX5_sortOf_29 : decode cX5_sortOf 29 = .ok (.bipush 59, 2) := by decide +kernel
theorem dX5_sortOf_31 : decode cX5_sortOf 31 = .ok (.if_icmp .ne 7, 3) := by decide +kernel
theorem dX5_sortOf_34 : decode cX5_sortOf 34 = .ok (.iconst 3, 1) := by decide +kernel
theorem dX5_sortOf_35 : decode cX5_sortOf 35 = .ok (.goto 4, 3) := by decide +kernel
theorem dX5_sortOf_38 : decode cX5_sortOf 38 = .ok (.iconst 4, 1) := by decide +kernel
theorem dX5_sortOf_39 : decode cX5_sortOf 39 = .ok (.ireturn, 1) := by decide +kernel
theorem dX5_readToken_0 : decode cX5_readToken 0 = .ok (.aload_n 0, 1) := by decide +kernel
theorem dX5_readToken_1 : decode cX5_readToken 1 = .ok (.getfield 35, 3) := by decide +kernel
theorem dX5_readToken_4 : decode cX5_readToken 4 = .ok (.istore_n 1, 1) := by decide +kernel
theorem dX5_readToken_5 : decode cX5_readToken 5 = .ok (.iload_n 1, 1) := by decide +kernel
theorem dX5_readToken_6 : decode cX5_readToken 6 = .ok (.aload_n 0, 1) := by decide +kernel
theorem dX5_readToken_7 : decode cX5_readToken 7 = .ok (.getfield 31, 3) := by decide +kernel
theorem dX5_readToken_10 : decode cX5_readToken 10 = .ok (.if_icmp .ge 26, 3) := by decide +kernel
theorem dX5_readToken_13 : decode cX5_readToken 13 = .ok (.aload_n 0, 1) := by decide +kernel
theorem dX5_readToken_14 : decode cX5_readToken 14 = .ok (.iload_n 1, 1) := by decide +kernel
theorem dX5_readToken_15 : decode cX5_readToken 15 = .ok (.invokevirtual 246, 3) := by decide +kernel
theorem dX5_readToken_18 : decode cX5_readToken 18 = .ok (.bipush 32, 2) := by decide +kernel
theorem dX5_readToken_20 : decode cX5_readToken 20 = .ok (.if_icmp .ne 16, 3) := by decide +kernel
theorem dX5_readToken_23 : decode cX5_readToken 23 = .ok (.aload_n 0, 1) := by decide +kernel
theorem dX5_readToken_24 : decode cX5_readToken 24 = .ok (.iload_n 1, 1) := by decide +kernel
theorem dX5_readToken_25 : decode cX5_readToken 25 = .ok (.iconst 1, 1) := by decide +kernel
theorem dX5_readToken_26 : decode cX5_readToken 26 = .ok (.iadd, 1) := by decide +kernel
theorem dX5_readToken_27 : decode cX5_readToken 27 = .ok (.putfield 35, 3) := by decide +kernel
theorem dX5_readToken_30 : decode cX5_readToken 30 = .ok (.iinc 1 1, 3) := by decide +kernel
theorem dX5_readToken_33 : decode cX5_readToken 33 = .ok (.goto (-28), 3) := by decide +kernel
theorem dX5_readToken_36 : decode cX5_readToken 36 = .ok (.aload_n 0, 1) := by decide +kernel
theorem dX5_readToken_37 : decode cX5_readToken 37 = .ok (.aload_n 0, 1) := by decide +kernel
theorem dX5_readToken_38 : decode cX5_readToken 38 = .ok (.getfield 35, 3) := by decide +kernel
theorem dX5_readToken_41 : decode cX5_readToken 41 = .ok (.putfield 243, 3) := by decide +kernel
theorem dX5_readToken_44 : decode cX5_readToken 44 = .ok (.aload_n 0, 1) := by decide +kernel
theorem dX5_readToken_45 : decode cX5_readToken 45 = .ok (.aload_n 0, 1) := by decide +kernel
theorem dX5_readToken_46 : decode cX5_readToken 46 = .ok (.getfield 243, 3) := by decide +kernel
theorem dX5_readToken_49 : decode cX5_readToken 49 = .ok (.aload_n 0, 1) := by decide +kernel
theorem dX5_readToken_50 : decode cX5_readToken 50 = .ok (.getfield 31, 3) := by decide +kernel
theorem dX5_readToken_53 : decode cX5_readToken 53 = .ok (.if_icmp .ge 17, 3) := by decide +kernel
theorem dX5_readToken_56 : decode cX5_readToken 56 = .ok (.aload_n 0, 1) := by decide +kernel
theorem dX5_readToken_57 : decode cX5_readToken 57 = .ok (.aload_n 0, 1) := by decide +kernel
theorem dX5_readToken_58 : decode cX5_readToken 58 = .ok (.getfield 243, 3) := by decide +kernel
theorem dX5_readToken_61 : decode cX5_readToken 61 = .ok (.invokevirtual 246, 3) := by decide +kernel
theorem dX5_readToken_64 : decode cX5_readToken 64 = .ok (.invokestatic 249, 3) := by decide +kernel
theorem dX5_readToken_67 : decode cX5_readToken 67 = .ok (.goto 4, 3) := by decide +kernel
theorem dX5_readToken_70 : decode cX5_readToken 70 = .ok (.iconst 0, 1) := by decide +kernel
theorem dX5_readToken_71 : decode cX5_readToken 71 = .ok (.putfield 73, 3) := by decide +kernel
theorem dX5_readToken_74 : decode cX5_readToken 74 = .ok (.aload_n 0, 1) := by decide +kernel
theorem dX5_readToken_75 : decode cX5_readToken 75 = .ok (.lconst 0, 1) := by decide +kernel
theorem dX5_readToken_76 : decode cX5_readToken 76 = .ok (.putfield 173, 3) := by decide +kernel
theorem dX5_readToken_79 : decode cX5_readToken 79 = .ok (.aload_n 0, 1) := by decide +kernel
theorem dX5_readToken_80 : decode cX5_readToken 80 = .ok (.iconst 0, 1) := by decide +kernel
theorem dX5_readToken_81 : decode cX5_readToken 81 = .ok (.putfield 153, 3) := by decide +kernel
theorem dX5_readToken_84 : decode cX5_readToken 84 = .ok (.aload_n 0, 1) := by decide +kernel
theorem dX5_readToken_85 : decode cX5_readToken 85 = .ok (.getfield 73, 3) := by decide +kernel
theorem dX5_readToken_88 : decode cX5_readToken 88 = .ok (.iconst 1, 1) := by decide +kernel
theorem dX5_readToken_89 : decode cX5_readToken 89 = .ok (.if_icmp .eq 11, 3) := by decide +kernel
theorem dX5_readToken_92 : decode cX5_readToken 92 = .ok (.aload_n 0, 1) := by decide +kernel
theorem dX5_readToken_93 : decode cX5_readToken 93 = .ok (.getfield 73, 3) := by decide +kernel
theorem dX5_readToken_96 : decode cX5_readToken 96 = .ok (.iconst 2, 1) := by decide +kernel
theorem dX5_readToken_97 : decode cX5_readToken 97 = .ok (.if_icmp .ne 7, 3) := by decide +kernel
theorem dX5_readToken_100 : decode cX5_readToken 100 = .ok (.iconst 1, 1) := by decide +kernel
theorem dX5_readToken_101 : decode cX5_readToken 101 = .ok (.goto 4, 3) := by decide +kernel
theorem dX5_readToken_104 : decode cX5_readToken 104 = .ok (.iconst 0, 1) := by decide +kernel
theorem dX5_readToken_105 : decode cX5_readToken 105 = .ok (.istore_n 1, 1) := by decide +kernel
theorem dX5_readToken_106 : decode cX5_readToken 106 = .ok (.aload_n 0, 1) := by decide +kernel
theorem dX5_readToken_107 : decode cX5_readToken 107 = .ok (.getfield 243, 3) := by decide +kernel
theorem dX5_readToken_110 : decode cX5_readToken 110 = .ok (.istore_n 2, 1) := by decide +kernel
theorem dX5_readToken_111 : decode cX5_readToken 111 = .ok (.iload_n 2, 1) := by decide +kernel
theorem dX5_readToken_112 : decode cX5_readToken 112 = .ok (.aload_n 0, 1) := by decide +kernel
theorem dX5_readToken_113 : decode cX5_readToken 113 = .ok (.getfield 31, 3) := by decide +kernel
theorem dX5_readToken_116 : decode cX5_readToken 116 = .ok (.if_icmp .ge 81, 3) := by decide +kernel
theorem dX5_readToken_119 : decode cX5_readToken 119 = .ok (.iload_n 2, 1) := by decide +kernel
theorem dX5_readToken_120 : decode cX5_readToken 120 = .ok (.aload_n 0, 1) := by decide +kernel
theorem dX5_readToken_121 : decode cX5_readToken 121 = .ok (.getfield 243, 3) := by decide +kernel
theorem dX5_readToken_124 : decode cX5_readToken 124 = .ok (.if_icmp .eq 22, 3) := by decide +kernel
theorem dX5_readToken_127 : decode cX5_readToken 127 = .ok (.iload_n 1, 1) := by decide +kernel
theorem dX5_readToken_128 : decode cX5_readToken 128 = .ok (.ifCond .eq 69, 3) := by decide +kernel
theorem dX5_readToken_131 : decode cX5_readToken 131 = .ok (.aload_n 0, 1) := by decide +kernel
theorem dX5_readToken_132 : decode cX5_readToken 132 = .ok (.iload_n 2, 1) := by decide +kernel
theorem dX5_readToken_133 : decode cX5_readToken 133 = .ok (.invokevirtual 246, 3) := by decide +kernel
theorem dX5_readToken_136 : decode cX5_readToken 136 = .ok (.invokestatic 249, 3) := by decide +kernel
theorem dX5_readToken_139 : decode cX5_readToken 139 = .ok (.aload_n 0, 1) := by decide +kernel
theorem dX5_readToken_140 : decode cX5_readToken 140 = .ok (.getfield 73, 3) := by decide +kernel
theorem dX5_readToken_143 : decode cX5_readToken 143 = .ok (.if_icmp .ne 54, 3) := by decide +kernel
theorem dX5_readToken_146 : decode cX5_readToken 146 = .ok (.aload_n 0, 1) := by decide +kernel
theorem dX5_readToken_147 : decode cX5_readToken 147 = .ok (.aload_n 0, 1) := by decide +kernel
theorem dX5_readToken_148 : decode cX5_readToken 148 = .ok (.getfield 173, 3) := by decide +kernel
theorem dX5_readToken_151 : decode cX5_readToken 151 = .ok (.bipush 8, 2) := by decide +kernel
theorem dX5_readToken_153 : decode cX5_readToken 153 = .ok (.lshl, 1) := by decide +kernel
theorem dX5_readToken_154 : decode cX5_readToken 154 = .ok (.aload_n 0, 1) := by decide +kernel
theorem dX5_readToken_155 : decode cX5_readToken 155 = .ok (.iload_n 2, 1) := by decide +kernel
theorem dX5_readToken_156 : decode cX5_readToken 156 = .ok (.invokevirtual 246, 3) := by decide +kernel
theorem dX5_readToken_159 : decode cX5_readToken 159 = .ok (.i2l, 1) := by decide +kernel
theorem dX5_readToken_160 : decode cX5_readToken 160 = .ok (.lor, 1) := by decide +kernel
theorem dX5_readToken_161 : decode cX5_readToken 161 = .ok (.putfield 173, 3) := by decide +kernel
theorem dX5_readToken_164 : decode cX5_readToken 164 = .ok (.aload_n 0, 1) := by decide +kernel
theorem dX5_readToken_165 : decode cX5_readToken 165 = .ok (.bipush 10, 2) := by decide +kernel
theorem dX5_readToken_167 : decode cX5_readToken 167 = .ok (.aload_n 0, 1) := by decide +kernel
theorem dX5_readToken_168 : decode cX5_readToken 168 = .ok (.getfield 153, 3) := by decide +kernel
theorem dX5_readToken_171 : decode cX5_readToken 171 = .ok (.imul, 1) := by decide +kernel
theorem dX5_readToken_172 : decode cX5_readToken 172 = .ok (.aload_n 0, 1) := by decide +kernel
theorem dX5_readToken_173 : decode cX5_readToken 173 = .ok (.iload_n 2, 1) := by decide +kernel
theorem dX5_readToken_174 : decode cX5_readToken 174 = .ok (.invokevirtual 246, 3) := by decide +kernel
theorem dX5_readToken_177 : decode cX5_readToken 177 = .ok (.iadd, 1) := by decide +kernel
theorem dX5_readToken_178 : decode cX5_readToken 178 = .ok (.bipush 48, 2) := by decide +kernel
theorem dX5_readToken_180 : decode cX5_readToken 180 = .ok (.isub, 1) := by decide +kernel
theorem dX5_readToken_181 : decode cX5_readToken 181 = .ok (.putfield 153, 3) := by decide +kernel
theorem dX5_readToken_184 : decode cX5_readToken 184 = .ok (.aload_n 0, 1) := by decide +kernel
theorem dX5_readToken_185 : decode cX5_readToken 185 = .ok (.iload_n 2, 1) := by decide +kernel
theorem dX5_readToken_186 : decode cX5_readToken 186 = .ok (.iconst 1, 1) := by decide +kernel
theorem dX5_readToken_187 : decode cX5_readToken 187 = .ok (.iadd, 1) := by decide +kernel
theorem dX5_readToken_188 : decode cX5_readToken 188 = .ok (.putfield 35, 3) := by decide +kernel
theorem dX5_readToken_191 : decode cX5_readToken 191 = .ok (.iinc 2 1, 3) := by decide +kernel
theorem dX5_readToken_194 : decode cX5_readToken 194 = .ok (.goto (-83), 3) := by decide +kernel
theorem dX5_readToken_197 : decode cX5_readToken 197 = .ok (.aload_n 0, 1) := by decide +kernel
theorem dX5_readToken_198 : decode cX5_readToken 198 = .ok (.getfield 73, 3) := by decide +kernel
theorem dX5_readToken_201 : decode cX5_readToken 201 = .ok (.iconst 1, 1) := by decide +kernel
theorem dX5_readToken_202 : decode cX5_readToken 202 = .ok (.if_icmp .ne 8, 3) := by decide +kernel
theorem dX5_readToken_205 : decode cX5_readToken 205 = .ok (.bipush 8, 2) := by decide +kernel
theorem dX5_readToken_207 : decode cX5_readToken 207 = .ok (.goto 16, 3) := by decide +kernel
theorem dX5_readToken_210 : decode cX5_readToken 210 = .ok (.aload_n 0, 1) := by decide +kernel
theorem dX5_readToken_211 : decode cX5_readToken 211 = .ok (.getfield 73, 3) := by decide +kernel
theorem dX5_readToken_214 : decode cX5_readToken 214 = .ok (.iconst 2, 1) := by decide +kernel
theorem dX5_readToken_215 : decode cX5_readToken 215 = .ok (.if_icmp .ne 7, 3) := by decide +kernel
theorem dX5_readToken_218 : decode cX5_readToken 218 = .ok (.iconst 3, 1) := by decide +kernel
theorem dX5_readToken_219 : decode cX5_readToken 219 = .ok (.goto 4, 3) := by decide +kernel
theorem dX5_readToken_222 : decode cX5_readToken 222 = .ok (.iconst 1, 1) := by decide +kernel
theorem dX5_readToken_223 : decode cX5_readToken 223 = .ok (.istore_n 2, 1) := by decide +kernel
theorem dX5_readToken_224 : decode cX5_readToken 224 = .ok (.aload_n 0, 1) := by decide +kernel
theorem dX5_readToken_225 : decode cX5_readToken 225 = .ok (.getfield 35, 3) := by decide +kernel
theorem dX5_readToken_228 : decode cX5_readToken 228 = .ok (.aload_n 0, 1) := by decide +kernel
theorem dX5_readToken_229 : decode cX5_readToken 229 = .ok (.getfield 243, 3) := by decide +kernel
theorem dX5_readToken_232 : decode cX5_readToken 232 = .ok (.isub, 1) := by decide +kernel
theorem dX5_readToken_233 : decode cX5_readToken 233 = .ok (.iload_n 2, 1) := by decide +kernel
theorem dX5_readToken_234 : decode cX5_readToken 234 = .ok (.if_icmp .le 8, 3) := by decide +kernel
theorem dX5_readToken_237 : decode cX5_readToken 237 = .ok (.aload_n 0, 1) := by decide +kernel
theorem dX5_readToken_238 : decode cX5_readToken 238 = .ok (.iconst 4, 1) := by decide +kernel
theorem dX5_readToken_239 : decode cX5_readToken 239 = .ok (.putfield 73, 3) := by decide +kernel
theorem dX5_readToken_242 : decode cX5_readToken 242 = .ok (.return_, 1) := by decide +kernel
theorem dX5_is_0 : decode cX5_is 0 = .ok (.lconst 0, 1) := by decide +kernel
theorem dX5_is_1 : decode cX5_is 1 = .ok (.lstore_n 2, 1) := by decide +kernel
theorem dX5_is_2 : decode cX5_is 2 = .ok (.iconst 0, 1) := by decide +kernel
theorem dX5_is_3 : decode cX5_is 3 = .ok (.istore 4, 2) := by decide +kernel
theorem dX5_is_5 : decode cX5_is 5 = .ok (.iload 4, 2) := by decide +kernel
theorem dX5_is_7 : decode cX5_is 7 = .ok (.aload_n 1, 1) := by decide +kernel
theorem dX5_is_8 : decode cX5_is 8 = .ok (.invokevirtual 234, 3) := by decide +kernel
theorem dX5_is_11 : decode cX5_is 11 = .ok (.if_icmp .ge 22, 3) := by decide +kernel
theorem dX5_is_14 : decode cX5_is 14 = .ok (.lload_n 2, 1) := by decide +kernel
theorem dX5_is_15 : decode cX5_is 15 = .ok (.bipush 8, 2) := by decide +kernel
theorem dX5_is_17 : decode cX5_is 17 = .ok (.lshl, 1) := by decide +kernel
theorem dX5_is_18 : decode cX5_is 18 = .ok (.aload_n 1, 1) := by decide +kernel
theorem dX5_is_19 : decode cX5_is 19 = .ok (.iload 4, 2) := by decide +kernel
theorem dX5_is_21 : decode cX5_is 21 = .ok (.invokevirtual 239, 3) := by decide +kernel
theorem dX5_is_24 : decode cX5_is 24 = .ok (.i2l, 1) := by decide +kernel
theorem dX5_is_25 : decode cX5_is 25 = .ok (.lor, 1) := by decide +kernel
theorem dX5_is_26 : decode cX5_is 26 = .ok (.lstore_n 2, 1) := by decide +kernel
theorem dX5_is_27 : decode cX5_is 27 = .ok (.iinc 4 1, 3) := by decide +kernel
theorem dX5_is_30 : decode cX5_is 30 = .ok (.goto (-25), 3) := by decide +kernel
theorem dX5_is_33 : decode cX5_is 33 = .ok (.aload_n 0, 1) := by decide +kernel
theorem dX5_is_34 : decode cX5_is 34 = .ok (.getfield 73, 3) := by decide +kernel
theorem dX5_is_37 : decode cX5_is 37 = .ok (.iconst 1, 1) := by decide +kernel
theorem dX5_is_38 : decode cX5_is 38 = .ok (.if_icmp .ne 16, 3) := by decide +kernel
theorem dX5_is_41 : decode cX5_is 41 = .ok (.aload_n 0, 1) := by decide +kernel
theorem dX5_is_42 : decode cX5_is 42 = .ok (.getfield 173, 3) := by decide +kernel
theorem dX5_is_45 : decode cX5_is 45 = .ok (.lload_n 2, 1) := by decide +kernel
theorem dX5_is_46 : decode cX5_is 46 = .ok (.lcmp, 1) := by decide +kernel
theorem dX5_is_47 : decode cX5_is 47 = .ok (.ifCond .ne 7, 3) := by decide +kernel
theorem dX5_is_50 : decode cX5_is 50 = .ok (.iconst 1, 1) := by decide +kernel
theorem dX5_is_51 : decode cX5_is 51 = .ok (.goto 4, 3) := by decide +kernel
theorem dX5_is_54 : decode cX5_is 54 = .ok (.iconst 0, 1) := by decide +kernel
theorem dX5_is_55 : decode cX5_is 55 = .ok (.ireturn, 1) := by decide +kernel
theorem dX5_fail_0 : decode cX5_fail 0 = .ok (.aload_n 0, 1) := by decide +kernel
theorem dX5_fail_1 : decode cX5_fail 1 = .ok (.iload_n 1, 1) := by decide +kernel
theorem dX5_fail_2 : decode cX5_fail 2 = .ok (.putfield 38, 3) := by decide +kernel
theorem dX5_fail_5 : decode cX5_fail 5 = .ok (.aload_n 0, 1) := by decide +kernel
theorem dX5_fail_6 : decode cX5_fail 6 = .ok (.aload_n 0, 1) := by decide +kernel
theorem dX5_fail_7 : decode cX5_fail 7 = .ok (.getfield 243, 3) := by decide +kernel
theorem dX5_fail_10 : decode cX5_fail 10 = .ok (.putfield 41, 3) := by decide +kernel
theorem dX5_fail_13 : decode cX5_fail 13 = .ok (.iconst 0, 1) := by decide +kernel
theorem dX5_fail_14 : decode cX5_fail 14 = .ok (.ireturn, 1) := by decide +kernel
theorem dX5_nextIs_0 : decode cX5_nextIs 0 = .ok (.aload_n 0, 1) := by decide +kernel
theorem dX5_nextIs_1 : decode cX5_nextIs 1 = .ok (.invokevirtual 70, 3) := by decide +kernel
theorem dX5_nextIs_4 : decode cX5_nextIs 4 = .ok (.aload_n 0, 1) := by decide +kernel
theorem dX5_nextIs_5 : decode cX5_nextIs 5 = .ok (.aload_n 1, 1) := by decide +kernel
theorem dX5_nextIs_6 : decode cX5_nextIs 6 = .ok (.invokevirtual 77, 3) := by decide +kernel
theorem dX5_nextIs_9 : decode cX5_nextIs 9 = .ok (.ifCond .ne 11, 3) := by decide +kernel
theorem dX5_nextIs_12 : decode cX5_nextIs 12 = .ok (.aload_n 0, 1) := by decide +kernel
theorem dX5_nextIs_13 : decode cX5_nextIs 13 = .ok (.iconst 1, 1) := by decide +kernel
theorem dX5_nextIs_14 : decode cX5_nextIs 14 = .ok (.invokevirtual 63, 3) := by decide +kernel
theorem dX5_nextIs_17 : decode cX5_nextIs 17 = .ok (.ifCond .eq 7, 3) := by decide +kernel
theorem dX5_nextIs_20 : decode cX5_nextIs 20 = .ok (.iconst 1, 1) := by decide +kernel
theorem dX5_nextIs_21 : decode cX5_nextIs 21 = .ok (.goto 4, 3) := by decide +kernel
theorem dX5_nextIs_24 : decode cX5_nextIs 24 = .ok (.iconst 0, 1) := by decide +kernel
theorem dX5_nextIs_25 : decode cX5_nextIs 25 = .ok (.ireturn, 1) := by decide +kernel
theorem dX5_nextWhole_0 : decode cX5_nextWhole 0 = .ok (.aload_n 0, 1) := by decide +kernel
theorem dX5_nextWhole_1 : decode cX5_nextWhole 1 = .ok (.invokevirtual 70, 3) := by decide +kernel
theorem dX5_nextWhole_4 : decode cX5_nextWhole 4 = .ok (.aload_n 0, 1) := by decide +kernel
theorem dX5_nextWhole_5 : decode cX5_nextWhole 5 = .ok (.getfield 73, 3) := by decide +kernel
theorem dX5_nextWhole_8 : decode cX5_nextWhole 8 = .ok (.iconst 2, 1) := by decide +kernel
theorem dX5_nextWhole_9 : decode cX5_nextWhole 9 = .ok (.if_icmp .eq 9, 3) := by decide +kernel
theorem dX5_nextWhole_12 : decode cX5_nextWhole 12 = .ok (.aload_n 0, 1) := by decide +kernel
theorem dX5_nextWhole_13 : decode cX5_nextWhole 13 = .ok (.iconst 1, 1) := by decide +kernel
theorem dX5_nextWhole_14 : decode cX5_nextWhole 14 = .ok (.invokevirtual 63, 3) := by decide +kernel
theorem dX5_nextWhole_17 : decode cX5_nextWhole 17 = .ok (.ireturn, 1) := by decide +kernel
theorem dX5_nextWhole_18 : decode cX5_nextWhole 18 = .ok (.aload_n 0, 1) := by decide +kernel
theorem dX5_nextWhole_19 : decode cX5_nextWhole 19 = .ok (.getfield 153, 3) := by decide +kernel
theorem dX5_nextWhole_22 : decode cX5_nextWhole 22 = .ok (.iload_n 1, 1) := by decide +kernel
theorem dX5_nextWhole_23 : decode cX5_nextWhole 23 = .ok (.if_icmp .lt 11, 3) := by decide +kernel
theorem dX5_nextWhole_26 : decode cX5_nextWhole 26 = .ok (.aload_n 0, 1) := by decide +kernel
theorem dX5_nextWhole_27 : decode cX5_nextWhole 27 = .ok (.getfield 153, 3) := by decide +kernel
theorem dX5_nextWhole_30 : decode cX5_nextWhole 30 = .ok (.iload_n 2, 1) := by decide +kernel
theorem dX5_nextWhole_31 : decode cX5_nextWhole 31 = .ok (.if_icmp .le 11, 3) := by decide +kernel
theorem dX5_nextWhole_34 : decode cX5_nextWhole 34 = .ok (.aload_n 0, 1) := by decide +kernel
theorem dX5_nextWhole_35 : decode cX5_nextWhole 35 = .ok (.iconst 4, 1) := by decide +kernel
theorem dX5_nextWhole_36 : decode cX5_nextWhole 36 = .ok (.invokevirtual 63, 3) := by decide +kernel
theorem dX5_nextWhole_39 : decode cX5_nextWhole 39 = .ok (.ifCond .eq 7, 3) := by decide +kernel
theorem dX5_nextWhole_42 : decode cX5_nextWhole 42 = .ok (.iconst 1, 1) := by decide +kernel
theorem dX5_nextWhole_43 : decode cX5_nextWhole 43 = .ok (.goto 4, 3) := by decide +kernel
theorem dX5_nextWhole_46 : decode cX5_nextWhole 46 = .ok (.iconst 0, 1) := by decide +kernel
theorem dX5_nextWhole_47 : decode cX5_nextWhole 47 = .ok (.ireturn, 1) := by decide +kernel
theorem dX5_readVoyage_0 : decode cX5_readVoyage 0 = .ok (.aload_n 0, 1) := by decide +kernel
theorem dX5_readVoyage_1 : decode cX5_readVoyage 1 = .ok (.getfield 22, 3) := by decide +kernel
theorem dX5_readVoyage_4 : decode cX5_readVoyage 4 = .ok (.iconst 1, 1) := by decide +kernel
theorem dX5_readVoyage_5 : decode cX5_readVoyage 5 = .ok (.putfield 81, 3) := by decide +kernel
theorem dX5_readVoyage_8 : decode cX5_readVoyage 8 = .ok (.aload_n 0, 1) := by decide +kernel
theorem dX5_readVoyage_9 : decode cX5_readVoyage 9 = .ok (.ldc 144, 2) := by decide +kernel
theorem dX5_readVoyage_11 : decode cX5_readVoyage 11 = .ok (.invokevirtual 146, 3) := by decide +kernel
theorem dX5_readVoyage_14 : decode cX5_readVoyage 14 = .ok (.ifCond .eq 14, 3) := by decide +kernel
theorem dX5_readVoyage_17 : decode cX5_readVoyage 17 = .ok (.aload_n 0, 1) := by decide +kernel
theorem dX5_readVoyage_18 : decode cX5_readVoyage 18 = .ok (.iconst 0, 1) := by decide +kernel
theorem dX5_readVoyage_19 : decode cX5_readVoyage 19 = .ok (.sipush 199, 3) := by decide +kernel
theorem dX5_readVoyage_22 : decode cX5_readVoyage 22 = .ok (.invokevirtual 149, 3) := by decide +kernel
theorem dX5_readVoyage_25 : decode cX5_readVoyage 25 = .ok (.ifCond .ne 5, 3) := by decide +kernel
theorem dX5_readVoyage_28 : decode cX5_readVoyage 28 = .ok (.iconst 0, 1) := by decide +kernel
theorem dX5_readVoyage_29 : decode cX5_readVoyage 29 = .ok (.ireturn, 1) := by decide +kernel
theorem dX5_readVoyage_30 : decode cX5_readVoyage 30 = .ok (.aload_n 0, 1) := by decide +kernel
theorem dX5_readVoyage_31 : decode cX5_readVoyage 31 = .ok (.getfield 22, 3) := by decide +kernel
theorem dX5_readVoyage_34 : decode cX5_readVoyage 34 = .ok (.aload_n 0, 1) := by decide +kernel
theorem dX5_readVoyage_35 : decode cX5_readVoyage 35 = .ok (.getfield 153, 3) := by decide +kernel
theorem dX5_readVoyage_38 : decode cX5_readVoyage 38 = .ok (.putfield 156, 3) := by decide +kernel
theorem dX5_readVoyage_41 : decode cX5_readVoyage 41 = .ok (.aload_n 0, 1) := by decide +kernel
theorem dX5_readVoyage_42 : decode cX5_readVoyage 42 = .ok (.iconst 0, 1) := by decide +kernel
theorem dX5_readVoyage_43 : decode cX5_readVoyage 43 = .ok (.sipush 199, 3) := by decide +kernel
theorem dX5_readVoyage_46 : decode cX5_readVoyage 46 = .ok (.invokevirtual 149, 3) := by decide +kernel
theorem dX5_readVoyage_49 : decode cX5_readVoyage 49 = .ok (.ifCond .ne 5, 3) := by decide +kernel
theorem dX5_readVoyage_52 : decode cX5_readVoyage 52 = .ok (.iconst 0, 1) := by decide +kernel
theorem dX5_readVoyage_53 : decode cX5_readVoyage 53 = .ok (.ireturn, 1) := by decide +kernel
theorem dX5_readVoyage_54 : decode cX5_readVoyage 54 = .ok (.aload_n 0, 1) := by decide +kernel
theorem dX5_readVoyage_55 : decode cX5_readVoyage 55 = .ok (.getfield 22, 3) := by decide +kernel
theorem dX5_readVoyage_58 : decode cX5_readVoyage 58 = .ok (.aload_n 0, 1) := by decide +kernel
theorem dX5_readVoyage_59 : decode cX5_readVoyage 59 = .ok (.getfield 153, 3) := by decide +kernel
theorem dX5_readVoyage_62 : decode cX5_readVoyage 62 = .ok (.putfield 159, 3) := by decide +kernel
theorem dX5_readVoyage_65 : decode cX5_readVoyage 65 = .ok (.aload_n 0, 1) := by decide +kernel
theorem dX5_readVoyage_66 : decode cX5_readVoyage 66 = .ok (.ldc 162, 2) := by decide +kernel
theorem dX5_readVoyage_68 : decode cX5_readVoyage 68 = .ok (.invokevirtual 146, 3) := by decide +kernel
theorem dX5_readVoyage_71 : decode cX5_readVoyage 71 = .ok (.ifCond .eq 13, 3) := by decide +kernel
theorem dX5_readVoyage_74 : decode cX5_readVoyage 74 = .ok (.aload_n 0, 1) := by decide +kernel
theorem dX5_readVoyage_75 : decode cX5_readVoyage 75 = .ok (.iconst 0, 1) := by decide +kernel
theorem dX5_readVoyage_76 : decode cX5_readVoyage 76 = .ok (.bipush 100, 2) := by decide +kernel
theorem dX5_readVoyage_78 : decode cX5_readVoyage 78 = .ok (.invokevirtual 149, 3) := by decide +kernel
theorem dX5_readVoyage_81 : decode cX5_readVoyage 81 = .ok (.ifCond .ne 5, 3) := by decide +kernel
theorem dX5_readVoyage_84 : decode cX5_readVoyage 84 = .ok (.iconst 0, 1) := by decide +kernel
theorem dX5_readVoyage_85 : decode cX5_readVoyage 85 = .ok (.ireturn, 1) := by decide +kernel
theorem dX5_readVoyage_86 : decode cX5_readVoyage 86 = .ok (.aload_n 0, 1) := by decide +kernel
theorem dX5_readVoyage_87 : decode cX5_readVoyage 87 = .ok (.getfield 22, 3) := by decide +kernel
theorem dX5_readVoyage_90 : decode cX5_readVoyage 90 = .ok (.aload_n 0, 1) := by decide +kernel
theorem dX5_readVoyage_91 : decode cX5_readVoyage 91 = .ok (.getfield 153, 3) := by decide +kernel
theorem dX5_readVoyage_94 : decode cX5_readVoyage 94 = .ok (.putfield 164, 3) := by decide +kernel
theorem dX5_readVoyage_97 : decode cX5_readVoyage 97 = .ok (.aload_n 0, 1) := by decide +kernel
theorem dX5_readVoyage_98 : decode cX5_readVoyage 98 = .ok (.ldc 166, 2) := by decide +kernel
theorem dX5_readVoyage_100 : decode cX5_readVoyage 100 = .ok (.invokevirtual 146, 3) := by decide +kernel
theorem dX5_readVoyage_103 : decode cX5_readVoyage 103 = .ok (.ifCond .eq 13, 3) := by decide +kernel
theorem dX5_readVoyage_106 : decode cX5_readVoyage 106 = .ok (.aload_n 0, 1) := by decide +kernel
theorem dX5_readVoyage_107 : decode cX5_readVoyage 107 = .ok (.iconst 0, 1) := by decide +kernel
theorem dX5_readVoyage_108 : decode cX5_readVoyage 108 = .ok (.bipush 100, 2) := by decide +kernel
theorem dX5_readVoyage_110 : decode cX5_readVoyage 110 = .ok (.invokevirtual 149, 3) := by decide +kernel
theorem dX5_readVoyage_113 : decode cX5_readVoyage 113 = .ok (.ifCond .ne 5, 3) := by decide +kernel
theorem dX5_readVoyage_116 : decode cX5_readVoyage 116 = .ok (.iconst 0, 1) := by decide +kernel
theorem dX5_readVoyage_117 : decode cX5_readVoyage 117 = .ok (.ireturn, 1) := by decide +kernel
theorem dX5_readVoyage_118 : decode cX5_readVoyage 118 = .ok (.aload_n 0, 1) := by decide +kernel
theorem dX5_readVoyage_119 : decode cX5_readVoyage 119 = .ok (.getfield 22, 3) := by decide +kernel
theorem dX5_readVoyage_122 : decode cX5_readVoyage 122 = .ok (.aload_n 0, 1) := by decide +kernel
theorem dX5_readVoyage_123 : decode cX5_readVoyage 123 = .ok (.getfield 153, 3) := by decide +kernel
theorem dX5_readVoyage_126 : decode cX5_readVoyage 126 = .ok (.putfield 168, 3) := by decide +kernel
theorem dX5_readVoyage_129 : decode cX5_readVoyage 129 = .ok (.iconst 1, 1) := by decide +kernel
theorem dX5_readVoyage_130 : decode cX5_readVoyage 130 = .ok (.ireturn, 1) := by decide +kernel
theorem dX5_beginsLine_0 : decode cX5_beginsLine 0 = .ok (.aload_n 0, 1) := by decide +kernel
theorem dX5_beginsLine_1 : decode cX5_beginsLine 1 = .ok (.ldc 76, 2) := by decide +kernel
theorem dX5_beginsLine_3 : decode cX5_beginsLine 3 = .ok (.invokevirtual 77, 3) := by decide +kernel
theorem dX5_beginsLine_6 : decode cX5_beginsLine 6 = .ok (.ifCond .ne 66, 3) := by decide +kernel
theorem dX5_beginsLine_9 : decode cX5_beginsLine 9 = .ok (.aload_n 0, 1) := by decide +kernel
theorem dX5_beginsLine_10 : decode cX5_beginsLine 10 = .ok (.ldc 91, 2) := by decide +kernel
theorem dX5_beginsLine_12 : decode cX5_beginsLine 12 = .ok (.invokevirtual 77, 3) := by decide +kernel
theorem dX5_beginsLine_15 : decode cX5_beginsLine 15 = .ok (.ifCond .ne 57, 3) := by decide +kernel
theorem dX5_beginsLine_18 : decode cX5_beginsLine 18 = .ok (.aload_n 0, 1) := by decide +kernel
theorem dX5_beginsLine_19 : decode cX5_beginsLine 19 = .ok (.ldc 102, 2) := by decide +kernel
theorem dX5_beginsLine_21 : decode cX5_beginsLine 21 = .ok (.invokevirtual 77, 3) := by decide +kernel
theorem dX5_beginsLine_24 : decode cX5_beginsLine 24 = .ok (.ifCond .ne 48, 3) := by decide +kernel
theorem dX5_beginsLine_27 : decode cX5_beginsLine 27 = .ok (.aload_n 0, 1) := by decide +kernel
theorem dX5_beginsLine_28 : decode cX5_beginsLine 28 = .ok (.ldc 110, 2) := by decide +kernel
theorem dX5_beginsLine_30 : decode cX5_beginsLine 30 = .ok (.invokevirtual 77, 3) := by decide +kernel
theorem dX5_beginsLine_33 : decode cX5_beginsLine 33 = .ok (.ifCond .ne 39, 3) := by decide +kernel
theorem dX5_beginsLine_36 : decode cX5_beginsLine 36 = .ok (.aload_n 0, 1) := by decide +kernel
theorem dX5_beginsLine_37 : decode cX5_beginsLine 37 = .ok (.ldc 115, 2) := by decide +kernel
theorem dX5_beginsLine_39 : decode cX5_beginsLine 39 = .ok (.invokevirtual 77, 3) := by decide +kernel
theorem dX5_beginsLine_42 : decode cX5_beginsLine 42 = .ok (.ifCond .ne 30, 3) := by decide +kernel
theorem dX5_beginsLine_45 : decode cX5_beginsLine 45 = .ok (.aload_n 0, 1) := by decide +kernel
theorem dX5_beginsLine_46 : decode cX5_beginsLine 46 = .ok (.ldc 123, 2) := by decide +kernel
theorem dX5_beginsLine_48 : decode cX5_beginsLine 48 = .ok (.invokevirtual 77, 3) := by decide +kernel
theorem dX5_beginsLine_51 : decode cX5_beginsLine 51 = .ok (.ifCond .ne 21, 3) := by decide +kernel
theorem dX5_beginsLine_54 : decode cX5_beginsLine 54 = .ok (.aload_n 0, 1) := by decide +kernel
theorem dX5_beginsLine_55 : decode cX5_beginsLine 55 = .ok (.ldc 131, 2) := by decide +kernel
theorem dX5_beginsLine_57 : decode cX5_beginsLine 57 = .ok (.invokevirtual 77, 3) := by decide +kernel
theorem dX5_beginsLine_60 : decode cX5_beginsLine 60 = .ok (.ifCond .ne 12, 3) := by decide +kernel
theorem dX5_beginsLine_63 : decode cX5_beginsLine 63 = .ok (.aload_n 0, 1) := by decide +kernel
theorem dX5_beginsLine_64 : decode cX5_beginsLine 64 = .ok (.ldc 233, 2) := by decide +kernel
theorem dX5_beginsLine_66 : decode cX5_beginsLine 66 = .ok (.invokevirtual 77, 3) := by decide +kernel
theorem dX5_beginsLine_69 : decode cX5_beginsLine 69 = .ok (.ifCond .eq 7, 3) := by decide +kernel
theorem dX5_beginsLine_72 : decode cX5_beginsLine 72 = .ok (.iconst 1, 1) := by decide +kernel
theorem dX5_beginsLine_73 : decode cX5_beginsLine 73 = .ok (.goto 4, 3) := by decide +kernel
theorem dX5_beginsLine_76 : decode cX5_beginsLine 76 = .ok (.iconst 0, 1) := by decide +kernel
theorem dX5_beginsLine_77 : decode cX5_beginsLine 77 = .ok (.ireturn, 1) := by decide +kernel
theorem dX5_numberOf_0 : decode cX5_numberOf 0 = .ok (.iconst 0, 1) := by decide +kernel
theorem dX5_numberOf_1 : decode cX5_numberOf 1 = .ok (.istore_n 3, 1) := by decide +kernel
theorem dX5_numberOf_2 : decode cX5_numberOf 2 = .ok (.iload_n 3, 1) := by decide +kernel
theorem dX5_numberOf_3 : decode cX5_numberOf 3 = .ok (.iload_n 2, 1) := by decide +kernel
theorem dX5_numberOf_4 : decode cX5_numberOf 4 = .ok (.if_icmp .ge 28, 3) := by decide +kernel
theorem dX5_numberOf_7 : decode cX5_numberOf 7 = .ok (.iload_n 3, 1) := by decide +kernel
theorem dX5_numberOf_8 : decode cX5_numberOf 8 = .ok (.aload_n 1, 1) := by decide +kernel
theorem dX5_numberOf_9 : decode cX5_numberOf 9 = .ok (.arraylength, 1) := by decide +kernel
theorem dX5_numberOf_10 : decode cX5_numberOf 10 = .ok (.if_icmp .ge 22, 3) := by decide +kernel
theorem dX5_numberOf_13 : decode cX5_numberOf 13 = .ok (.aload_n 1, 1) := by decide +kernel
theorem dX5_numberOf_14 : decode cX5_numberOf 14 = .ok (.iload_n 3, 1) := by decide +kernel
theorem dX5_numberOf_15 : decode cX5_numberOf 15 = .ok (.laload, 1) := by decide +kernel
theorem dX5_numberOf_16 : decode cX5_numberOf 16 = .ok (.aload_n 0, 1) := by decide +kernel
theorem dX5_numberOf_17 : decode cX5_numberOf 17 = .ok (.getfield 173, 3) := by decide +kernel
theorem dX5_numberOf_20 : decode cX5_numberOf 20 = .ok (.lcmp, 1) := by decide +kernel
theorem dX5_numberOf_21 : decode cX5_numberOf 21 = .ok (.ifCond .ne 5, 3) := by decide +kernel
theorem dX5_numberOf_24 : decode cX5_numberOf 24 = .ok (.iload_n 3, 1) := by decide +kernel
theorem dX5_numberOf_25 : decode cX5_numberOf 25 = .ok (.ireturn, 1) := by decide +kernel
theorem dX5_numberOf_26 : decode cX5_numberOf 26 = .ok (.iinc 3 1, 3) := by decide +kernel
theorem dX5_numberOf_29 : decode cX5_numberOf 29 = .ok (.goto (-27), 3) := by decide +kernel
theorem dX5_numberOf_32 : decode cX5_numberOf 32 = .ok (.iconst (-1), 1) := by decide +kernel
theorem dX5_numberOf_33 : decode cX5_numberOf 33 = .ok (.ireturn, 1) := by decide +kernel
theorem dX5_nextNewName_0 : decode cX5_nextNewName 0 = .ok (.aload_n 0, 1) := by decide +kernel
theorem dX5_nextNewName_1 : decode cX5_nextNewName 1 = .ok (.invokevirtual 70, 3) := by decide +kernel
theorem dX5_nextNewName_4 : decode cX5_nextNewName 4 = .ok (.aload_n 0, 1) := by decide +kernel
theorem dX5_nextNewName_5 : decode cX5_nextNewName 5 = .ok (.getfield 73, 3) := by decide +kernel
theorem dX5_nextNewName_8 : decode cX5_nextNewName 8 = .ok (.iconst 1, 1) := by decide +kernel
theorem dX5_nextNewName_9 : decode cX5_nextNewName 9 = .ok (.if_icmp .ne 10, 3) := by decide +kernel
theorem dX5_nextNewName_12 : decode cX5_nextNewName 12 = .ok (.aload_n 0, 1) := by decide +kernel
theorem dX5_nextNewName_13 : decode cX5_nextNewName 13 = .ok (.invokevirtual 88, 3) := by decide +kernel
theorem dX5_nextNewName_16 : decode cX5_nextNewName 16 = .ok (.ifCond .eq 9, 3) := by decide +kernel
theorem dX5_nextNewName_19 : decode cX5_nextNewName 19 = .ok (.aload_n 0, 1) := by decide +kernel
theorem dX5_nextNewName_20 : decode cX5_nextNewName 20 = .ok (.iconst 1, 1) := by decide +kernel
theorem dX5_nextNewName_21 : decode cX5_nextNewName 21 = .ok (.invokevirtual 63, 3) := by decide +kernel
theorem dX5_nextNewName_24 : decode cX5_nextNewName 24 = .ok (.ireturn, 1) := by decide +kernel
theorem dX5_nextNewName_25 : decode cX5_nextNewName 25 = .ok (.aload_n 0, 1) := by decide +kernel
theorem dX5_nextNewName_26 : decode cX5_nextNewName 26 = .ok (.aload_n 0, 1) := by decide +kernel
theorem dX5_nextNewName_27 : decode cX5_nextNewName 27 = .ok (.getfield 9, 3) := by decide +kernel
theorem dX5_nextNewName_30 : decode cX5_nextNewName 30 = .ok (.aload_n 0, 1) := by decide +kernel
theorem dX5_nextNewName_31 : decode cX5_nextNewName 31 = .ok (.getfield 22, 3) := by decide +kernel
theorem dX5_nextNewName_34 : decode cX5_nextNewName 34 = .ok (.getfield 93, 3) := by decide +kernel
theorem dX5_nextNewName_37 : decode cX5_nextNewName 37 = .ok (.getfield 58, 3) := by decide +kernel
theorem dX5_nextNewName_40 : decode cX5_nextNewName 40 = .ok (.invokevirtual 229, 3) := by decide +kernel
theorem dX5_nextNewName_43 : decode cX5_nextNewName 43 = .ok (.iconst (-1), 1) := by decide +kernel
theorem dX5_nextNewName_44 : decode cX5_nextNewName 44 = .ok (.if_icmp .ne 25, 3) := by decide +kernel
theorem dX5_nextNewName_47 : decode cX5_nextNewName 47 = .ok (.aload_n 0, 1) := by decide +kernel
theorem dX5_nextNewName_48 : decode cX5_nextNewName 48 = .ok (.aload_n 0, 1) := by decide +kernel
theorem dX5_nextNewName_49 : decode cX5_nextNewName 49 = .ok (.getfield 15, 3) := by decide +kernel
theorem dX5_nextNewName_52 : decode cX5_nextNewName 52 = .ok (.aload_n 0, 1) := by decide +kernel
theorem dX5_nextNewName_53 : decode cX5_nextNewName 53 = .ok (.getfield 22, 3) := by decide +kernel
theorem dX5_nextNewName_56 : decode cX5_nextNewName 56 = .ok (.getfield 104, 3) := by decide +kernel
theorem dX5_nextNewName_59 : decode cX5_nextNewName 59 = .ok (.getfield 58, 3) := by decide +kernel
theorem dX5_nextNewName_62 : decode cX5_nextNewName 62 = .ok (.invokevirtual 229, 3) := by decide +kernel
theorem dX5_nextNewName_65 : decode cX5_nextNewName 65 = .ok (.iconst (-1), 1) := by decide +kernel
theorem dX5_nextNewName_66 : decode cX5_nextNewName 66 = .ok (.if_icmp .eq 7, 3) := by decide +kernel
theorem dX5_nextNewName_69 : decode cX5_nextNewName 69 = .ok (.iconst 1, 1) := by decide +kernel
theorem dX5_nextNewName_70 : decode cX5_nextNewName 70 = .ok (.goto 4, 3) := by decide +kernel
theorem dX5_nextNewName_73 : decode cX5_nextNewName 73 = .ok (.iconst 0, 1) := by decide +kernel
theorem dX5_nextNewName_74 : decode cX5_nextNewName 74 = .ok (.istore_n 1, 1) := by decide +kernel
theorem dX5_nextNewName_75 : decode cX5_nextNewName 75 = .ok (.iload_n 1, 1) := by decide +kernel
theorem dX5_nextNewName_76 : decode cX5_nextNewName 76 = .ok (.ifCond .eq 11, 3) := by decide +kernel
theorem dX5_nextNewName_79 : decode cX5_nextNewName 79 = .ok (.aload_n 0, 1) := by decide +kernel
theorem dX5_nextNewName_80 : decode cX5_nextNewName 80 = .ok (.iconst 3, 1) := by decide +kernel
theorem dX5_nextNewName_81 : decode cX5_nextNewName 81 = .ok (.invokevirtual 63, 3) := by decide +kernel
theorem dX5_nextNewName_84 : decode cX5_nextNewName 84 = .ok (.ifCond .eq 7, 3) := by decide +kernel
theorem dX5_nextNewName_87 : decode cX5_nextNewName 87 = .ok (.iconst 1, 1) := by decide +kernel
theorem dX5_nextNewName_88 : decode cX5_nextNewName 88 = .ok (.goto 4, 3) := by decide +kernel
theorem dX5_nextNewName_91 : decode cX5_nextNewName 91 = .ok (.iconst 0, 1) := by decide +kernel
theorem dX5_nextNewName_92 : decode cX5_nextNewName 92 = .ok (.ireturn, 1) := by decide +kernel
theorem dX5_keepName_0 : decode cX5_keepName 0 = .ok (.iload_n 1, 1) := by decide +kernel
theorem dX5_keepName_1 : decode cX5_keepName 1 = .ok (.ifCond .lt 13, 3) := by decide +kernel
theorem dX5_keepName_4 : decode cX5_keepName 4 = .ok (.iload_n 1, 1) := by decide +kernel
theorem dX5_keepName_5 : decode cX5_keepName 5 = .ok (.aload_n 0, 1) := by decide +kernel
theorem dX5_keepName_6 : decode cX5_keepName 6 = .ok (.arraylength, 1) := by decide +kernel
theorem dX5_keepName_7 : decode cX5_keepName 7 = .ok (.if_icmp .ge 7, 3) := by decide +kernel
theorem dX5_keepName_10 : decode cX5_keepName 10 = .ok (.aload_n 0, 1) := by decide +kernel
theorem dX5_keepName_11 : decode cX5_keepName 11 = .ok (.iload_n 1, 1) := by decide +kernel
theorem dX5_keepName_12 : decode cX5_keepName 12 = .ok (.lload_n 2, 1) := by decide +kernel
theorem dX5_keepName_13 : decode cX5_keepName 13 = .ok (.lastore, 1) := by decide +kernel
theorem dX5_keepName_14 : decode cX5_keepName 14 = .ok (.return_, 1) := by decide +kernel
theorem dX5_readBoy_0 : decode cX5_readBoy 0 = .ok (.aload_n 0, 1) := by decide +kernel
theorem dX5_readBoy_1 : decode cX5_readBoy 1 = .ok (.invokevirtual 170, 3) := by decide +kernel
theorem dX5_readBoy_4 : decode cX5_readBoy 4 = .ok (.ifCond .ne 5, 3) := by decide +kernel
theorem dX5_readBoy_7 : decode cX5_readBoy 7 = .ok (.iconst 0, 1) := by decide +kernel
theorem dX5_readBoy_8 : decode cX5_readBoy 8 = .ok (.ireturn, 1) := by decide +kernel
theorem dX5_readBoy_9 : decode cX5_readBoy 9 = .ok (.aload_n 0, 1) := by decide +kernel
theorem dX5_readBoy_10 : decode cX5_readBoy 10 = .ok (.getfield 173, 3) := by decide +kernel
theorem dX5_readBoy_13 : decode cX5_readBoy 13 = .ok (.lstore_n 1, 1) := by decide +kernel
theorem dX5_readBoy_14 : decode cX5_readBoy 14 = .ok (.aload_n 0, 1) := by decide +kernel
theorem dX5_readBoy_15 : decode cX5_readBoy 15 = .ok (.invokevirtual 70, 3) := by decide +kernel
theorem dX5_readBoy_18 : decode cX5_readBoy 18 = .ok (.aload_n 0, 1) := by decide +kernel
theorem dX5_readBoy_19 : decode cX5_readBoy 19 = .ok (.ldc 177, 2) := by decide +kernel
theorem dX5_readBoy_21 : decode cX5_readBoy 21 = .ok (.invokevirtual 77, 3) := by decide +kernel
theorem dX5_readBoy_24 : decode cX5_readBoy 24 = .ok (.ifCond .eq 7, 3) := by decide +kernel
theorem dX5_readBoy_27 : decode cX5_readBoy 27 = .ok (.iconst 0, 1) := by decide +kernel
theorem dX5_readBoy_28 : decode cX5_readBoy 28 = .ok (.goto 30, 3) := by decide +kernel
theorem dX5_readBoy_31 : decode cX5_readBoy 31 = .ok (.aload_n 0, 1) := by decide +kernel
theorem dX5_readBoy_32 : decode cX5_readBoy 32 = .ok (.ldc 179, 2) := by decide +kernel
theorem dX5_readBoy_34 : decode cX5_readBoy 34 = .ok (.invokevirtual 77, 3) := by decide +kernel
theorem dX5_readBoy_37 : decode cX5_readBoy 37 = .ok (.ifCond .eq 7, 3) := by decide +kernel
theorem dX5_readBoy_40 : decode cX5_readBoy 40 = .ok (.iconst 1, 1) := by decide +kernel
theorem dX5_readBoy_41 : decode cX5_readBoy 41 = .ok (.goto 17, 3) := by decide +kernel
theorem dX5_readBoy_44 : decode cX5_readBoy 44 = .ok (.aload_n 0, 1) := by decide +kernel
theorem dX5_readBoy_45 : decode cX5_readBoy 45 = .ok (.ldc 181, 2) := by decide +kernel
theorem dX5_readBoy_47 : decode cX5_readBoy 47 = .ok (.invokevirtual 77, 3) := by decide +kernel
theorem dX5_readBoy_50 : decode cX5_readBoy 50 = .ok (.ifCond .eq 7, 3) := by decide +kernel
theorem dX5_readBoy_53 : decode cX5_readBoy 53 = .ok (.iconst 2, 1) := by decide +kernel
theorem dX5_readBoy_54 : decode cX5_readBoy 54 = .ok (.goto 4, 3) := by decide +kernel
theorem dX5_readBoy_57 : decode cX5_readBoy 57 = .ok (.iconst (-1), 1) := by decide +kernel
theorem dX5_readBoy_58 : decode cX5_readBoy 58 = .ok (.istore_n 3, 1) := by decide +kernel
theorem dX5_readBoy_59 : decode cX5_readBoy 59 = .ok (.iload_n 3, 1) := by decide +kernel
theorem dX5_readBoy_60 : decode cX5_readBoy 60 = .ok (.iconst (-1), 1) := by decide +kernel
theorem dX5_readBoy_61 : decode cX5_readBoy 61 = .ok (.if_icmp .ne 9, 3) := by decide +kernel
theorem dX5_readBoy_64 : decode cX5_readBoy 64 = .ok (.aload_n 0, 1) := by decide +kernel
theorem dX5_readBoy_65 : decode cX5_readBoy 65 = .ok (.iconst 1, 1) := by decide +kernel
theorem dX5_readBoy_66 : decode cX5_readBoy 66 = .ok (.invokevirtual 63, 3) := by decide +kernel
theorem dX5_readBoy_69 : decode cX5_readBoy 69 = .ok (.ireturn, 1) := by decide +kernel
theorem dX5_readBoy_70 : decode cX5_readBoy 70 = .ok (.aload_n 0, 1) := by decide +kernel
theorem dX5_readBoy_71 : decode cX5_readBoy 71 = .ok (.ldc 183, 2) := by decide +kernel
theorem dX5_readBoy_73 : decode cX5_readBoy 73 = .ok (.invokevirtual 146, 3) := by decide +kernel
theorem dX5_readBoy_76 : decode cX5_readBoy 76 = .ok (.ifCond .eq 13, 3) := by decide +kernel
theorem dX5_readBoy_79 : decode cX5_readBoy 79 = .ok (.aload_n 0, 1) := by decide +kernel
theorem dX5_readBoy_80 : decode cX5_readBoy 80 = .ok (.iconst 0, 1) := by decide +kernel
theorem dX5_readBoy_81 : decode cX5_readBoy 81 = .ok (.bipush 20, 2) := by decide +kernel
theorem dX5_readBoy_83 : decode cX5_readBoy 83 = .ok (.invokevirtual 149, 3) := by decide +kernel
theorem dX5_readBoy_86 : decode cX5_readBoy 86 = .ok (.ifCond .ne 5, 3) := by decide +kernel
theorem dX5_readBoy_89 : decode cX5_readBoy 89 = .ok (.iconst 0, 1) := by decide +kernel
theorem dX5_readBoy_90 : decode cX5_readBoy 90 = .ok (.ireturn, 1) := by decide +kernel
theorem dX5_readBoy_91 : decode cX5_readBoy 91 = .ok (.aload_n 0, 1) := by decide +kernel
theorem dX5_readBoy_92 : decode cX5_readBoy 92 = .ok (.getfield 9, 3) := by decide +kernel
theorem dX5_readBoy_95 : decode cX5_readBoy 95 = .ok (.aload_n 0, 1) := by decide +kernel
theorem dX5_readBoy_96 : decode cX5_readBoy 96 = .ok (.getfield 22, 3) := by decide +kernel
theorem dX5_readBoy_99 : decode cX5_readBoy 99 = .ok (.getfield 93, 3) := by decide +kernel
theorem dX5_readBoy_102 : decode cX5_readBoy 102 = .ok (.getfield 58, 3) := by decide +kernel
theorem dX5_readBoy_105 : decode cX5_readBoy 105 = .ok (.lload_n 1, 1) := by decide +kernel
theorem dX5_readBoy_106 : decode cX5_readBoy 106 = .ok (.invokestatic 185, 3) := by decide +kernel
theorem dX5_readBoy_109 : decode cX5_readBoy 109 = .ok (.aload_n 0, 1) := by decide +kernel
theorem dX5_readBoy_110 : decode cX5_readBoy 110 = .ok (.getfield 22, 3) := by decide +kernel
theorem dX5_readBoy_113 : decode cX5_readBoy 113 = .ok (.getfield 93, 3) := by decide +kernel
theorem dX5_readBoy_116 : decode cX5_readBoy 116 = .ok (.iload_n 3, 1) := by decide +kernel
theorem dX5_readBoy_117 : decode cX5_readBoy 117 = .ok (.aload_n 0, 1) := by decide +kernel
theorem dX5_readBoy_118 : decode cX5_readBoy 118 = .ok (.getfield 153, 3) := by decide +kernel
theorem dX5_readBoy_121 : decode cX5_readBoy 121 = .ok (.iconst 0, 1) := by decide +kernel
theorem dX5_readBoy_122 : decode cX5_readBoy 122 = .ok (.iconst 0, 1) := by decide +kernel
theorem dX5_readBoy_123 : decode cX5_readBoy 123 = .ok (.invokevirtual 189, 3) := by decide +kernel
theorem dX5_readBoy_126 : decode cX5_readBoy 126 = .ok (.iconst 1, 1) := by decide +kernel
theorem dX5_readBoy_127 : decode cX5_readBoy 127 = .ok (.ireturn, 1) := by decide +kernel
theorem dX5_looksEvery_0 : decode cX5_looksEvery 0 = .ok (.iconst 0, 1) := by decide +kernel
theorem dX5_looksEvery_1 : decode cX5_looksEvery 1 = .ok (.istore_n 1, 1) := by decide +kernel
theorem dX5_looksEvery_2 : decode cX5_looksEvery 2 = .ok (.iconst 1, 1) := by decide +kernel
theorem dX5_looksEvery_3 : decode cX5_looksEvery 3 = .ok (.istore_n 2, 1) := by decide +kernel
theorem dX5_looksEvery_4 : decode cX5_looksEvery 4 = .ok (.iload_n 2, 1) := by decide +kernel
theorem dX5_looksEvery_5 : decode cX5_looksEvery 5 = .ok (.bipush 8, 2) := by decide +kernel
theorem dX5_looksEvery_7 : decode cX5_looksEvery 7 = .ok (.if_icmp .gt 27, 3) := by decide +kernel
theorem dX5_looksEvery_10 : decode cX5_looksEvery 10 = .ok (.iload_n 0, 1) := by decide +kernel
theorem dX5_looksEvery_11 : decode cX5_looksEvery 11 = .ok (.ifCond .le 17, 3) := by decide +kernel
theorem dX5_looksEvery_14 : decode cX5_looksEvery 14 = .ok (.iload_n 2, 1) := by decide +kernel
theorem dX5_looksEvery_15 : decode cX5_looksEvery 15 = .ok (.iload_n 0, 1) := by decide +kernel
theorem dX5_looksEvery_16 : decode cX5_looksEvery 16 = .ok (.irem, 1) := by decide +kernel
theorem dX5_looksEvery_17 : decode cX5_looksEvery 17 = .ok (.ifCond .ne 11, 3) := by decide +kernel
theorem dX5_looksEvery_20 : decode cX5_looksEvery 20 = .ok (.iload_n 1, 1) := by decide +kernel
theorem dX5_looksEvery_21 : decode cX5_looksEvery 21 = .ok (.iconst 1, 1) := by decide +kernel
theorem dX5_looksEvery_22 : decode cX5_looksEvery 22 = .ok (.iload_n 2, 1) := by decide +kernel
theorem dX5_looksEvery_23 : decode cX5_looksEvery 23 = .ok (.iconst 1, 1) := by decide +kernel
theorem dX5_looksEvery_24 : decode cX5_looksEvery 24 = .ok (.isub, 1) := by decide +kernel
theorem dX5_looksEvery_25 : decode cX5_looksEvery 25 = .ok (.ishl, 1) := by decide +kernel
theorem dX5_looksEvery_26 : decode cX5_looksEvery 26 = .ok (.ior, 1) := by decide +kernel
theorem dX5_looksEvery_27 : decode cX5_looksEvery 27 = .ok (.istore_n 1, 1) := by decide +kernel
theorem dX5_looksEvery_28 : decode cX5_looksEvery 28 = .ok (.iinc 2 1, 3) := by decide +kernel
theorem dX5_looksEvery_31 : decode cX5_looksEvery 31 = .ok (.goto (-27), 3) := by decide +kernel
theorem dX5_looksEvery_34 : decode cX5_looksEvery 34 = .ok (.iload_n 1, 1) := by decide +kernel
theorem dX5_looksEvery_35 : decode cX5_looksEvery 35 = .ok (.ireturn, 1) := by decide +kernel
theorem dX5_readOfficer_0 : decode cX5_readOfficer 0 = .ok (.aload_n 0, 1) := by decide +kernel
theorem dX5_readOfficer_1 : decode cX5_readOfficer 1 = .ok (.invokevirtual 170, 3) := by decide +kernel
theorem dX5_readOfficer_4 : decode cX5_readOfficer 4 = .ok (.ifCond .ne 5, 3) := by decide +kernel
theorem dX5_readOfficer_7 : decode cX5_readOfficer 7 = .ok (.iconst 0, 1) := by decide +kernel
theorem dX5_readOfficer_8 : decode cX5_readOfficer 8 = .ok (.ireturn, 1) := by decide +kernel
theorem dX5_readOfficer_9 : decode cX5_readOfficer 9 = .ok (.aload_n 0, 1) := by decide +kernel
theorem dX5_readOfficer_10 : decode cX5_readOfficer 10 = .ok (.getfield 173, 3) := by decide +kernel
theorem dX5_readOfficer_13 : decode cX5_readOfficer 13 = .ok (.lstore_n 1, 1) := by decide +kernel
theorem dX5_readOfficer_14 : decode cX5_readOfficer 14 = .ok (.aload_n 0, 1) := by decide +kernel
theorem dX5_readOfficer_15 : decode cX5_readOfficer 15 = .ok (.ldc 193, 2) := by decide +kernel
theorem dX5_readOfficer_17 : decode cX5_readOfficer 17 = .ok (.invokevirtual 146, 3) := by decide +kernel
theorem dX5_readOfficer_20 : decode cX5_readOfficer 20 = .ok (.ifCond .eq 13, 3) := by decide +kernel
theorem dX5_readOfficer_23 : decode cX5_readOfficer 23 = .ok (.aload_n 0, 1) := by decide +kernel
theorem dX5_readOfficer_24 : decode cX5_readOfficer 24 = .ok (.iconst 1, 1) := by decide +kernel
theorem dX5_readOfficer_25 : decode cX5_readOfficer 25 = .ok (.bipush 9, 2) := by decide +kernel
theorem dX5_readOfficer_27 : decode cX5_readOfficer 27 = .ok (.invokevirtual 149, 3) := by decide +kernel
theorem dX5_readOfficer_30 : decode cX5_readOfficer 30 = .ok (.ifCond .ne 5, 3) := by decide +kernel
theorem dX5_readOfficer_33 : decode cX5_readOfficer 33 = .ok (.iconst 0, 1) := by decide +kernel
theorem dX5_readOfficer_34 : decode cX5_readOfficer 34 = .ok (.ireturn, 1) := by decide +kernel
theorem dX5_readOfficer_35 : decode cX5_readOfficer 35 = .ok (.aload_n 0, 1) := by decide +kernel
theorem dX5_readOfficer_36 : decode cX5_readOfficer 36 = .ok (.getfield 15, 3) := by decide +kernel
theorem dX5_readOfficer_39 : decode cX5_readOfficer 39 = .ok (.aload_n 0, 1) := by decide +kernel
theorem dX5_readOfficer_40 : decode cX5_readOfficer 40 = .ok (.getfield 22, 3) := by decide +kernel
theorem dX5_readOfficer_43 : decode cX5_readOfficer 43 = .ok (.getfield 104, 3) := by decide +kernel
theorem dX5_readOfficer_46 : decode cX5_readOfficer 46 = .ok (.getfield 58, 3) := by decide +kernel
theorem dX5_readOfficer_49 : decode cX5_readOfficer 49 = .ok (.lload_n 1, 1) := by decide +kernel
theorem dX5_readOfficer_50 : decode cX5_readOfficer 50 = .ok (.invokestatic 185, 3) := by decide +kernel
theorem dX5_readOfficer_53 : decode cX5_readOfficer 53 = .ok (.aload_n 0, 1) := by decide +kernel
theorem dX5_readOfficer_54 : decode cX5_readOfficer 54 = .ok (.getfield 22, 3) := by decide +kernel
theorem dX5_readOfficer_57 : decode cX5_readOfficer 57 = .ok (.getfield 104, 3) := by decide +kernel
theorem dX5_readOfficer_60 : decode cX5_readOfficer 60 = .ok (.aload_n 0, 1) := by decide +kernel
theorem dX5_readOfficer_61 : decode cX5_readOfficer 61 = .ok (.getfield 153, 3) := by decide +kernel
theorem dX5_readOfficer_64 : decode cX5_readOfficer 64 = .ok (.aload_n 0, 1) := by decide +kernel
theorem dX5_readOfficer_65 : decode cX5_readOfficer 65 = .ok (.getfield 153, 3) := by decide +kernel
theorem dX5_readOfficer_68 : decode cX5_readOfficer 68 = .ok (.invokestatic 195, 3) := by decide +kernel
theorem dX5_readOfficer_71 : decode cX5_readOfficer 71 = .ok (.iconst 0, 1) := by decide +kernel
theorem dX5_readOfficer_72 : decode cX5_readOfficer 72 = .ok (.iconst 0, 1) := by decide +kernel
theorem dX5_readOfficer_73 : decode cX5_readOfficer 73 = .ok (.invokevirtual 189, 3) := by decide +kernel
theorem dX5_readOfficer_76 : decode cX5_readOfficer 76 = .ok (.iconst 1, 1) := by decide +kernel
theorem dX5_readOfficer_77 : decode cX5_readOfficer 77 = .ok (.ireturn, 1) := by decide +kernel
theorem dX5_nextNameOf_0 : decode cX5_nextNameOf 0 = .ok (.aload_n 0, 1) := by decide +kernel
theorem dX5_nextNameOf_1 : decode cX5_nextNameOf 1 = .ok (.invokevirtual 70, 3) := by decide +kernel
theorem dX5_nextNameOf_4 : decode cX5_nextNameOf 4 = .ok (.aload_n 0, 1) := by decide +kernel
theorem dX5_nextNameOf_5 : decode cX5_nextNameOf 5 = .ok (.getfield 73, 3) := by decide +kernel
theorem dX5_nextNameOf_8 : decode cX5_nextNameOf 8 = .ok (.iconst 1, 1) := by decide +kernel
theorem dX5_nextNameOf_9 : decode cX5_nextNameOf 9 = .ok (.if_icmp .ne 10, 3) := by decide +kernel
theorem dX5_nextNameOf_12 : decode cX5_nextNameOf 12 = .ok (.aload_n 0, 1) := by decide +kernel
theorem dX5_nextNameOf_13 : decode cX5_nextNameOf 13 = .ok (.invokevirtual 88, 3) := by decide +kernel
theorem dX5_nextNameOf_16 : decode cX5_nextNameOf 16 = .ok (.ifCond .eq 9, 3) := by decide +kernel
theorem dX5_nextNameOf_19 : decode cX5_nextNameOf 19 = .ok (.aload_n 0, 1) := by decide +kernel
theorem dX5_nextNameOf_20 : decode cX5_nextNameOf 20 = .ok (.iconst 1, 1) := by decide +kernel
theorem dX5_nextNameOf_21 : decode cX5_nextNameOf 21 = .ok (.invokevirtual 63, 3) := by decide +kernel
theorem dX5_nextNameOf_24 : decode cX5_nextNameOf 24 = .ok (.ireturn, 1) := by decide +kernel
theorem dX5_nextNameOf_25 : decode cX5_nextNameOf 25 = .ok (.aload_n 0, 1) := by decide +kernel
theorem dX5_nextNameOf_26 : decode cX5_nextNameOf 26 = .ok (.aload_n 0, 1) := by decide +kernel
theorem dX5_nextNameOf_27 : decode cX5_nextNameOf 27 = .ok (.aload_n 1, 1) := by decide +kernel
theorem dX5_nextNameOf_28 : decode cX5_nextNameOf 28 = .ok (.iload_n 2, 1) := by decide +kernel
theorem dX5_nextNameOf_29 : decode cX5_nextNameOf 29 = .ok (.invokevirtual 229, 3) := by decide +kernel
theorem dX5_nextNameOf_32 : decode cX5_nextNameOf 32 = .ok (.putfield 203, 3) := by decide +kernel
theorem dX5_nextNameOf_35 : decode cX5_nextNameOf 35 = .ok (.aload_n 0, 1) := by decide +kernel
theorem dX5_nextNameOf_36 : decode cX5_nextNameOf 36 = .ok (.getfield 203, 3) := by decide +kernel
theorem dX5_nextNameOf_39 : decode cX5_nextNameOf 39 = .ok (.iconst (-1), 1) := by decide +kernel
theorem dX5_nextNameOf_40 : decode cX5_nextNameOf 40 = .ok (.if_icmp .ne 11, 3) := by decide +kernel
theorem dX5_nextNameOf_43 : decode cX5_nextNameOf 43 = .ok (.aload_n 0, 1) := by decide +kernel
theorem dX5_nextNameOf_44 : decode cX5_nextNameOf 44 = .ok (.iconst 2, 1) := by decide +kernel
theorem dX5_nextNameOf_45 : decode cX5_nextNameOf 45 = .ok (.invokevirtual 63, 3) := by decide +kernel
theorem dX5_nextNameOf_48 : decode cX5_nextNameOf 48 = .ok (.ifCond .eq 7, 3) := by decide +kernel
theorem dX5_nextNameOf_51 : decode cX5_nextNameOf 51 = .ok (.iconst 1, 1) := by decide +kernel
theorem dX5_nextNameOf_52 : decode cX5_nextNameOf 52 = .ok (.goto 4, 3) := by decide +kernel
theorem dX5_nextNameOf_55 : decode cX5_nextNameOf 55 = .ok (.iconst 0, 1) := by decide +kernel
theorem dX5_nextNameOf_56 : decode cX5_nextNameOf 56 = .ok (.ireturn, 1) := by decide +kernel
theorem dX5_courseRead_0 : decode cX5_courseRead 0 = .ok (.aload_n 0, 1) := by decide +kernel
theorem dX5_courseRead_1 : decode cX5_courseRead 1 = .ok (.ldc 223, 2) := by decide +kernel
theorem dX5_courseRead_3 : decode cX5_courseRead 3 = .ok (.invokevirtual 77, 3) := by decide +kernel
theorem dX5_courseRead_6 : decode cX5_courseRead 6 = .ok (.ifCond .eq 5, 3) := by decide +kernel
theorem dX5_courseRead_9 : decode cX5_courseRead 9 = .ok (.iconst 0, 1) := by decide +kernel
theorem dX5_courseRead_10 : decode cX5_courseRead 10 = .ok (.ireturn, 1) := by decide +kernel
theorem dX5_courseRead_11 : decode cX5_courseRead 11 = .ok (.aload_n 0, 1) := by decide +kernel
theorem dX5_courseRead_12 : decode cX5_courseRead 12 = .ok (.ldc 224, 2) := by decide +kernel
theorem dX5_courseRead_14 : decode cX5_courseRead 14 = .ok (.invokevirtual 77, 3) := by decide +kernel
theorem dX5_courseRead_17 : decode cX5_courseRead 17 = .ok (.ifCond .eq 5, 3) := by decide +kernel
theorem dX5_courseRead_20 : decode cX5_courseRead 20 = .ok (.iconst 1, 1) := by decide +kernel
theorem dX5_courseRead_21 : decode cX5_courseRead 21 = .ok (.ireturn, 1) := by decide +kernel
theorem dX5_courseRead_22 : decode cX5_courseRead 22 = .ok (.aload_n 0, 1) := by decide +kernel
theorem dX5_courseRead_23 : decode cX5_courseRead 23 = .ok (.ldc 225, 2) := by decide +kernel
theorem dX5_courseRead_25 : decode cX5_courseRead 25 = .ok (.invokevirtual 77, 3) := by decide +kernel
theorem dX5_courseRead_28 : decode cX5_courseRead 28 = .ok (.ifCond .eq 5, 3) := by decide +kernel
theorem dX5_courseRead_31 : decode cX5_courseRead 31 = .ok (.iconst 2, 1) := by decide +kernel
theorem dX5_courseRead_32 : decode cX5_courseRead 32 = .ok (.ireturn, 1) := by decide +kernel
theorem dX5_courseRead_33 : decode cX5_courseRead 33 = .ok (.aload_n 0, 1) := by decide +kernel
theorem dX5_courseRead_34 : decode cX5_courseRead 34 = .ok (.ldc 227, 2) := by decide +kernel
theorem dX5_courseRead_36 : decode cX5_courseRead 36 = .ok (.invokevirtual 77, 3) := by decide +kernel
theorem dX5_courseRead_39 : decode cX5_courseRead 39 = .ok (.ifCond .eq 7, 3) := by decide +kernel
theorem dX5_courseRead_42 : decode cX5_courseRead 42 = .ok (.iconst 3, 1) := by decide +kernel
theorem dX5_courseRead_43 : decode cX5_courseRead 43 = .ok (.goto 4, 3) := by decide +kernel
theorem dX5_courseRead_46 : decode cX5_courseRead 46 = .ok (.iconst (-1), 1) := by decide +kernel
theorem dX5_courseRead_47 : decode cX5_courseRead 47 = .ok (.ireturn, 1) := by decide +kernel
theorem dX5_readWatch_0 : decode cX5_readWatch 0 = .ok (.aload_n 0, 1) := by decide +kernel
theorem dX5_readWatch_1 : decode cX5_readWatch 1 = .ok (.aload_n 0, 1) := by decide +kernel
theorem dX5_readWatch_2 : decode cX5_readWatch 2 = .ok (.getfield 9, 3) := by decide +kernel
theorem dX5_readWatch_5 : decode cX5_readWatch 5 = .ok (.aload_n 0, 1) := by decide +kernel
theorem dX5_readWatch_6 : decode cX5_readWatch 6 = .ok (.getfield 22, 3) := by decide +kernel
theorem dX5_readWatch_9 : decode cX5_readWatch 9 = .ok (.getfield 93, 3) := by decide +kernel
theorem dX5_readWatch_12 : decode cX5_readWatch 12 = .ok (.getfield 58, 3) := by decide +kernel
theorem dX5_readWatch_15 : decode cX5_readWatch 15 = .ok (.invokevirtual 199, 3) := by decide +kernel
theorem dX5_readWatch_18 : decode cX5_readWatch 18 = .ok (.ifCond .ne 5, 3) := by decide +kernel
theorem dX5_readWatch_21 : decode cX5_readWatch 21 = .ok (.iconst 0, 1) := by decide +kernel
theorem dX5_readWatch_22 : decode cX5_readWatch 22 = .ok (.ireturn, 1) := by decide +kernel
theorem dX5_readWatch_23 : decode cX5_readWatch 23 = .ok (.aload_n 0, 1) := by decide +kernel
theorem dX5_readWatch_24 : decode cX5_readWatch 24 = .ok (.getfield 203, 3) := by decide +kernel
theorem dX5_readWatch_27 : decode cX5_readWatch 27 = .ok (.istore_n 1, 1) := by decide +kernel
theorem dX5_readWatch_28 : decode cX5_readWatch 28 = .ok (.aload_n 0, 1) := by decide +kernel
theorem dX5_readWatch_29 : decode cX5_readWatch 29 = .ok (.aload_n 0, 1) := by decide +kernel
theorem dX5_readWatch_30 : decode cX5_readWatch 30 = .ok (.getfield 15, 3) := by decide +kernel
theorem dX5_readWatch_33 : decode cX5_readWatch 33 = .ok (.aload_n 0, 1) := by decide +kernel
theorem dX5_readWatch_34 : decode cX5_readWatch 34 = .ok (.getfield 22, 3) := by decide +kernel
theorem dX5_readWatch_37 : decode cX5_readWatch 37 = .ok (.getfield 104, 3) := by decide +kernel
theorem dX5_readWatch_40 : decode cX5_readWatch 40 = .ok (.getfield 58, 3) := by decide +kernel
theorem dX5_readWatch_43 : decode cX5_readWatch 43 = .ok (.invokevirtual 199, 3) := by decide +kernel
theorem dX5_readWatch_46 : decode cX5_readWatch 46 = .ok (.ifCond .ne 5, 3) := by decide +kernel
theorem dX5_readWatch_49 : decode cX5_readWatch 49 = .ok (.iconst 0, 1) := by decide +kernel
theorem dX5_readWatch_50 : decode cX5_readWatch 50 = .ok (.ireturn, 1) := by decide +kernel
theorem dX5_readWatch_51 : decode cX5_readWatch 51 = .ok (.aload_n 0, 1) := by decide +kernel
theorem dX5_readWatch_52 : decode cX5_readWatch 52 = .ok (.getfield 203, 3) := by decide +kernel
theorem dX5_readWatch_55 : decode cX5_readWatch 55 = .ok (.istore_n 2, 1) := by decide +kernel
theorem dX5_readWatch_56 : decode cX5_readWatch 56 = .ok (.aload_n 0, 1) := by decide +kernel
theorem dX5_readWatch_57 : decode cX5_readWatch 57 = .ok (.invokevirtual 70, 3) := by decide +kernel
theorem dX5_readWatch_60 : decode cX5_readWatch 60 = .ok (.aload_n 0, 1) := by decide +kernel
theorem dX5_readWatch_61 : decode cX5_readWatch 61 = .ok (.invokevirtual 206, 3) := by decide +kernel
theorem dX5_readWatch_64 : decode cX5_readWatch 64 = .ok (.istore_n 3, 1) := by decide +kernel
theorem dX5_readWatch_65 : decode cX5_readWatch 65 = .ok (.iload_n 3, 1) := by decide +kernel
theorem dX5_readWatch_66 : decode cX5_readWatch 66 = .ok (.iconst (-1), 1) := by decide +kernel
theorem dX5_readWatch_67 : decode cX5_readWatch 67 = .ok (.if_icmp .ne 9, 3) := by decide +kernel
theorem dX5_readWatch_70 : decode cX5_readWatch 70 = .ok (.aload_n 0, 1) := by decide +kernel
theorem dX5_readWatch_71 : decode cX5_readWatch 71 = .ok (.iconst 1, 1) := by decide +kernel
theorem dX5_readWatch_72 : decode cX5_readWatch 72 = .ok (.invokevirtual 63, 3) := by decide +kernel
theorem dX5_readWatch_75 : decode cX5_readWatch 75 = .ok (.ireturn, 1) := by decide +kernel
theorem dX5_readWatch_76 : decode cX5_readWatch 76 = .ok (.aload_n 0, 1) := by decide +kernel
theorem dX5_readWatch_77 : decode cX5_readWatch 77 = .ok (.ldc 210, 2) := by decide +kernel
theorem dX5_readWatch_79 : decode cX5_readWatch 79 = .ok (.invokevirtual 146, 3) := by decide +kernel
theorem dX5_readWatch_82 : decode cX5_readWatch 82 = .ok (.ifCond .eq 13, 3) := by decide +kernel
theorem dX5_readWatch_85 : decode cX5_readWatch 85 = .ok (.aload_n 0, 1) := by decide +kernel
theorem dX5_readWatch_86 : decode cX5_readWatch 86 = .ok (.iconst 0, 1) := by decide +kernel
theorem dX5_readWatch_87 : decode cX5_readWatch 87 = .ok (.bipush 9, 2) := by decide +kernel
theorem dX5_readWatch_89 : decode cX5_readWatch 89 = .ok (.invokevirtual 149, 3) := by decide +kernel
theorem dX5_readWatch_92 : decode cX5_readWatch 92 = .ok (.ifCond .ne 5, 3) := by decide +kernel
theorem dX5_readWatch_95 : decode cX5_readWatch 95 = .ok (.iconst 0, 1) := by decide +kernel
theorem dX5_readWatch_96 : decode cX5_readWatch 96 = .ok (.ireturn, 1) := by decide +kernel
theorem dX5_readWatch_97 : decode cX5_readWatch 97 = .ok (.aload_n 0, 1) := by decide +kernel
theorem dX5_readWatch_98 : decode cX5_readWatch 98 = .ok (.getfield 22, 3) := by decide +kernel
theorem dX5_readWatch_101 : decode cX5_readWatch 101 = .ok (.getfield 54, 3) := by decide +kernel
theorem dX5_readWatch_104 : decode cX5_readWatch 104 = .ok (.iload_n 1, 1) := by decide +kernel
theorem dX5_readWatch_105 : decode cX5_readWatch 105 = .ok (.iload_n 2, 1) := by decide +kernel
theorem dX5_readWatch_106 : decode cX5_readWatch 106 = .ok (.iload_n 3, 1) := by decide +kernel
theorem dX5_readWatch_107 : decode cX5_readWatch 107 = .ok (.aload_n 0, 1) := by decide +kernel
theorem dX5_readWatch_108 : decode cX5_readWatch 108 = .ok (.getfield 153, 3) := by decide +kernel
theorem dX5_readWatch_111 : decode cX5_readWatch 111 = .ok (.invokevirtual 189, 3) := by decide +kernel
theorem dX5_readWatch_114 : decode cX5_readWatch 114 = .ok (.iconst 1, 1) := by decide +kernel
theorem dX5_readWatch_115 : decode cX5_readWatch 115 = .ok (.ireturn, 1) := by decide +kernel
theorem dX5_readNoon_0 : decode cX5_readNoon 0 = .ok (.aload_n 0, 1) := by decide +kernel
theorem dX5_readNoon_1 : decode cX5_readNoon 1 = .ok (.ldc 212, 2) := by decide +kernel
theorem dX5_readNoon_3 : decode cX5_readNoon 3 = .ok (.invokevirtual 146, 3) := by decide +kernel
theorem dX5_readNoon_6 : decode cX5_readNoon 6 = .ok (.ifCond .eq 13, 3) := by decide +kernel
theorem dX5_readNoon_9 : decode cX5_readNoon 9 = .ok (.aload_n 0, 1) := by decide +kernel
theorem dX5_readNoon_10 : decode cX5_readNoon 10 = .ok (.iconst 1, 1) := by decide +kernel
theorem dX5_readNoon_11 : decode cX5_readNoon 11 = .ok (.bipush 12, 2) := by decide +kernel
theorem dX5_readNoon_13 : decode cX5_readNoon 13 = .ok (.invokevirtual 149, 3) := by decide +kernel
theorem dX5_readNoon_16 : decode cX5_readNoon 16 = .ok (.ifCond .ne 5, 3) := by decide +kernel
theorem dX5_readNoon_19 : decode cX5_readNoon 19 = .ok (.iconst 0, 1) := by decide +kernel
theorem dX5_readNoon_20 : decode cX5_readNoon 20 = .ok (.ireturn, 1) := by decide +kernel
theorem dX5_readNoon_21 : decode cX5_readNoon 21 = .ok (.aload_n 0, 1) := by decide +kernel
theorem dX5_readNoon_22 : decode cX5_readNoon 22 = .ok (.getfield 22, 3) := by decide +kernel
theorem dX5_readNoon_25 : decode cX5_readNoon 25 = .ok (.getfield 117, 3) := by decide +kernel
theorem dX5_readNoon_28 : decode cX5_readNoon 28 = .ok (.iconst 0, 1) := by decide +kernel
theorem dX5_readNoon_29 : decode cX5_readNoon 29 = .ok (.aload_n 0, 1) := by decide +kernel
theorem dX5_readNoon_30 : decode cX5_readNoon 30 = .ok (.getfield 153, 3) := by decide +kernel
theorem dX5_readNoon_33 : decode cX5_readNoon 33 = .ok (.invokevirtual 214, 3) := by decide +kernel
theorem dX5_readNoon_36 : decode cX5_readNoon 36 = .ok (.ifCond .eq 9, 3) := by decide +kernel
theorem dX5_readNoon_39 : decode cX5_readNoon 39 = .ok (.aload_n 0, 1) := by decide +kernel
theorem dX5_readNoon_40 : decode cX5_readNoon 40 = .ok (.iconst 3, 1) := by decide +kernel
theorem dX5_readNoon_41 : decode cX5_readNoon 41 = .ok (.invokevirtual 63, 3) := by decide +kernel
theorem dX5_readNoon_44 : decode cX5_readNoon 44 = .ok (.ireturn, 1) := by decide +kernel
theorem dX5_readNoon_45 : decode cX5_readNoon 45 = .ok (.aload_n 0, 1) := by decide +kernel
theorem dX5_readNoon_46 : decode cX5_readNoon 46 = .ok (.getfield 22, 3) := by decide +kernel
theorem dX5_readNoon_49 : decode cX5_readNoon 49 = .ok (.getfield 117, 3) := by decide +kernel
theorem dX5_readNoon_52 : decode cX5_readNoon 52 = .ok (.aload_n 0, 1) := by decide +kernel
theorem dX5_readNoon_53 : decode cX5_readNoon 53 = .ok (.getfield 153, 3) := by decide +kernel
theorem dX5_readNoon_56 : decode cX5_readNoon 56 = .ok (.iconst 0, 1) := by decide +kernel
theorem dX5_readNoon_57 : decode cX5_readNoon 57 = .ok (.iconst 0, 1) := by decide +kernel
theorem dX5_readNoon_58 : decode cX5_readNoon 58 = .ok (.iconst 0, 1) := by decide +kernel
theorem dX5_readNoon_59 : decode cX5_readNoon 59 = .ok (.invokevirtual 189, 3) := by decide +kernel
theorem dX5_readNoon_62 : decode cX5_readNoon 62 = .ok (.iconst 1, 1) := by decide +kernel
theorem dX5_readNoon_63 : decode cX5_readNoon 63 = .ok (.ireturn, 1) := by decide +kernel
theorem dX5_readShoal_0 : decode cX5_readShoal 0 = .ok (.aload_n 0, 1) := by decide +kernel
theorem dX5_readShoal_1 : decode cX5_readShoal 1 = .ok (.iconst 0, 1) := by decide +kernel
theorem dX5_readShoal_2 : decode cX5_readShoal 2 = .ok (.sipush 199, 3) := by decide +kernel
theorem dX5_readShoal_5 : decode cX5_readShoal 5 = .ok (.invokevirtual 149, 3) := by decide +kernel
theorem dX5_readShoal_8 : decode cX5_readShoal 8 = .ok (.ifCond .ne 5, 3) := by decide +kernel
theorem dX5_readShoal_11 : decode cX5_readShoal 11 = .ok (.iconst 0, 1) := by decide +kernel
theorem dX5_readShoal_12 : decode cX5_readShoal 12 = .ok (.ireturn, 1) := by decide +kernel
theorem dX5_readShoal_13 : decode cX5_readShoal 13 = .ok (.aload_n 0, 1) := by decide +kernel
theorem dX5_readShoal_14 : decode cX5_readShoal 14 = .ok (.getfield 153, 3) := by decide +kernel
theorem dX5_readShoal_17 : decode cX5_readShoal 17 = .ok (.istore_n 1, 1) := by decide +kernel
theorem dX5_readShoal_18 : decode cX5_readShoal 18 = .ok (.aload_n 0, 1) := by decide +kernel
theorem dX5_readShoal_19 : decode cX5_readShoal 19 = .ok (.iconst 0, 1) := by decide +kernel
theorem dX5_readShoal_20 : decode cX5_readShoal 20 = .ok (.sipush 199, 3) := by decide +kernel
theorem dX5_readShoal_23 : decode cX5_readShoal 23 = .ok (.invokevirtual 149, 3) := by decide +kernel
theorem dX5_readShoal_26 : decode cX5_readShoal 26 = .ok (.ifCond .ne 5, 3) := by decide +kernel
theorem dX5_readShoal_29 : decode cX5_readShoal 29 = .ok (.iconst 0, 1) := by decide +kernel
theorem dX5_readShoal_30 : decode cX5_readShoal 30 = .ok (.ireturn, 1) := by decide +kernel
theorem dX5_readShoal_31 : decode cX5_readShoal 31 = .ok (.iload_n 1, 1) := by decide +kernel
theorem dX5_readShoal_32 : decode cX5_readShoal 32 = .ok (.aload_n 0, 1) := by decide +kernel
theorem dX5_readShoal_33 : decode cX5_readShoal 33 = .ok (.getfield 153, 3) := by decide +kernel
theorem dX5_readShoal_36 : decode cX5_readShoal 36 = .ok (.invokestatic 217, 3) := by decide +kernel
theorem dX5_readShoal_39 : decode cX5_readShoal 39 = .ok (.istore_n 2, 1) := by decide +kernel
theorem dX5_readShoal_40 : decode cX5_readShoal 40 = .ok (.aload_n 0, 1) := by decide +kernel
theorem dX5_readShoal_41 : decode cX5_readShoal 41 = .ok (.getfield 22, 3) := by decide +kernel
theorem dX5_readShoal_44 : decode cX5_readShoal 44 = .ok (.getfield 125, 3) := by decide +kernel
theorem dX5_readShoal_47 : decode cX5_readShoal 47 = .ok (.iconst 0, 1) := by decide +kernel
theorem dX5_readShoal_48 : decode cX5_readShoal 48 = .ok (.iload_n 2, 1) := by decide +kernel
theorem dX5_readShoal_49 : decode cX5_readShoal 49 = .ok (.invokevirtual 214, 3) := by decide +kernel
theorem dX5_readShoal_52 : decode cX5_readShoal 52 = .ok (.ifCond .eq 9, 3) := by decide +kernel
theorem dX5_readShoal_55 : decode cX5_readShoal 55 = .ok (.aload_n 0, 1) := by decide +kernel
theorem dX5_readShoal_56 : decode cX5_readShoal 56 = .ok (.iconst 3, 1) := by decide +kernel
theorem dX5_readShoal_57 : decode cX5_readShoal 57 = .ok (.invokevirtual 63, 3) := by decide +kernel
theorem dX5_readShoal_60 : decode cX5_readShoal 60 = .ok (.ireturn, 1) := by decide +kernel
theorem dX5_readShoal_61 : decode cX5_readShoal 61 = .ok (.aload_n 0, 1) := by decide +kernel
theorem dX5_readShoal_62 : decode cX5_readShoal 62 = .ok (.getfield 22, 3) := by decide +kernel
theorem dX5_readShoal_65 : decode cX5_readShoal 65 = .ok (.getfield 125, 3) := by decide +kernel
theorem dX5_readShoal_68 : decode cX5_readShoal 68 = .ok (.iload_n 2, 1) := by decide +kernel
theorem dX5_readShoal_69 : decode cX5_readShoal 69 = .ok (.iconst 0, 1) := by decide +kernel
theorem dX5_readShoal_70 : decode cX5_readShoal 70 = .ok (.iconst 0, 1) := by decide +kernel
theorem dX5_readShoal_71 : decode cX5_readShoal 71 = .ok (.iconst 0, 1) := by decide +kernel
theorem dX5_readShoal_72 : decode cX5_readShoal 72 = .ok (.invokevirtual 189, 3) := by decide +kernel
theorem dX5_readShoal_75 : decode cX5_readShoal 75 = .ok (.iconst 1, 1) := by decide +kernel
theorem dX5_readShoal_76 : decode cX5_readShoal 76 = .ok (.ireturn, 1) := by decide +kernel
theorem dX5_readUnsure_0 : decode cX5_readUnsure 0 = .ok (.aload_n 0, 1) := by decide +kernel
theorem dX5_readUnsure_1 : decode cX5_readUnsure 1 = .ok (.aload_n 0, 1) := by decide +kernel
theorem dX5_readUnsure_2 : decode cX5_readUnsure 2 = .ok (.getfield 9, 3) := by decide +kernel
theorem dX5_readUnsure_5 : decode cX5_readUnsure 5 = .ok (.aload_n 0, 1) := by decide +kernel
theorem dX5_readUnsure_6 : decode cX5_readUnsure 6 = .ok (.getfield 22, 3) := by decide +kernel
theorem dX5_readUnsure_9 : decode cX5_readUnsure 9 = .ok (.getfield 93, 3) := by decide +kernel
theorem dX5_readUnsure_12 : decode cX5_readUnsure 12 = .ok (.getfield 58, 3) := by decide +kernel
theorem dX5_readUnsure_15 : decode cX5_readUnsure 15 = .ok (.invokevirtual 199, 3) := by decide +kernel
theorem dX5_readUnsure_18 : decode cX5_readUnsure 18 = .ok (.ifCond .ne 5, 3) := by decide +kernel
theorem dX5_readUnsure_21 : decode cX5_readUnsure 21 = .ok (.iconst 0, 1) := by decide +kernel
theorem dX5_readUnsure_22 : decode cX5_readUnsure 22 = .ok (.ireturn, 1) := by decide +kernel
theorem dX5_readUnsure_23 : decode cX5_readUnsure 23 = .ok (.aload_n 0, 1) := by decide +kernel
theorem dX5_readUnsure_24 : decode cX5_readUnsure 24 = .ok (.getfield 203, 3) := by decide +kernel
theorem dX5_readUnsure_27 : decode cX5_readUnsure 27 = .ok (.istore_n 1, 1) := by decide +kernel
theorem dX5_readUnsure_28 : decode cX5_readUnsure 28 = .ok (.aload_n 0, 1) := by decide +kernel
theorem dX5_readUnsure_29 : decode cX5_readUnsure 29 = .ok (.getfield 22, 3) := by decide +kernel
theorem dX5_readUnsure_32 : decode cX5_readUnsure 32 = .ok (.getfield 133, 3) := by decide +kernel
theorem dX5_readUnsure_35 : decode cX5_readUnsure 35 = .ok (.iconst 0, 1) := by decide +kernel
theorem dX5_readUnsure_36 : decode cX5_readUnsure 36 = .ok (.iload_n 1, 1) := by decide +kernel
theorem dX5_readUnsure_37 : decode cX5_readUnsure 37 = .ok (.invokevirtual 214, 3) := by decide +kernel
theorem dX5_readUnsure_40 : decode cX5_readUnsure 40 = .ok (.ifCond .eq 9, 3) := by decide +kernel
theorem dX5_readUnsure_43 : decode cX5_readUnsure 43 = .ok (.aload_n 0, 1) := by decide +kernel
theorem dX5_readUnsure_44 : decode cX5_readUnsure 44 = .ok (.iconst 3, 1) := by decide +kernel
theorem dX5_readUnsure_45 : decode cX5_readUnsure 45 = .ok (.invokevirtual 63, 3) := by decide +kernel
theorem dX5_readUnsure_48 : decode cX5_readUnsure 48 = .ok (.ireturn, 1) := by decide +kernel
theorem dX5_readUnsure_49 : decode cX5_readUnsure 49 = .ok (.aload_n 0, 1) := by decide +kernel
theorem dX5_readUnsure_50 : decode cX5_readUnsure 50 = .ok (.iconst 0, 1) := by decide +kernel
theorem dX5_readUnsure_51 : decode cX5_readUnsure 51 = .ok (.bipush 20, 2) := by decide +kernel
theorem dX5_readUnsure_53 : decode cX5_readUnsure 53 = .ok (.invokevirtual 149, 3) := by decide +kernel
theorem dX5_readUnsure_56 : decode cX5_readUnsure 56 = .ok (.ifCond .ne 5, 3) := by decide +kernel
theorem dX5_readUnsure_59 : decode cX5_readUnsure 59 = .ok (.iconst 0, 1) := by decide +kernel
theorem dX5_readUnsure_60 : decode cX5_readUnsure 60 = .ok (.ireturn, 1) := by decide +kernel
theorem dX5_readUnsure_61 : decode cX5_readUnsure 61 = .ok (.aload_n 0, 1) := by decide +kernel
theorem dX5_readUnsure_62 : decode cX5_readUnsure 62 = .ok (.getfield 22, 3) := by decide +kernel
theorem dX5_readUnsure_65 : decode cX5_readUnsure 65 = .ok (.getfield 133, 3) := by decide +kernel
theorem dX5_readUnsure_68 : decode cX5_readUnsure 68 = .ok (.iload_n 1, 1) := by decide +kernel
theorem dX5_readUnsure_69 : decode cX5_readUnsure 69 = .ok (.aload_n 0, 1) := by decide +kernel
theorem dX5_readUnsure_70 : decode cX5_readUnsure 70 = .ok (.getfield 153, 3) := by decide +kernel
theorem dX5_readUnsure_73 : decode cX5_readUnsure 73 = .ok (.iconst 0, 1) := by decide +kernel
theorem dX5_readUnsure_74 : decode cX5_readUnsure 74 = .ok (.iconst 0, 1) := by decide +kernel
theorem dX5_readUnsure_75 : decode cX5_readUnsure 75 = .ok (.invokevirtual 189, 3) := by decide +kernel
theorem dX5_readUnsure_78 : decode cX5_readUnsure 78 = .ok (.iconst 1, 1) := by decide +kernel
theorem dX5_readUnsure_79 : decode cX5_readUnsure 79 = .ok (.ireturn, 1) := by decide +kernel
theorem dX5_readFound_0 : decode cX5_readFound 0 = .ok (.aload_n 0, 1) := by decide +kernel
theorem dX5_readFound_1 : decode cX5_readFound 1 = .ok (.iconst 0, 1) := by decide +kernel
theorem dX5_readFound_2 : decode cX5_readFound 2 = .ok (.bipush 12, 2) := by decide +kernel
theorem dX5_readFound_4 : decode cX5_readFound 4 = .ok (.invokevirtual 149, 3) := by decide +kernel
theorem dX5_readFound_7 : decode cX5_readFound 7 = .ok (.ifCond .ne 5, 3) := by decide +kernel
theorem dX5_readFound_10 : decode cX5_readFound 10 = .ok (.iconst 0, 1) := by decide +kernel
theorem dX5_readFound_11 : decode cX5_readFound 11 = .ok (.ireturn, 1) := by decide +kernel
theorem dX5_readFound_12 : decode cX5_readFound 12 = .ok (.aload_n 0, 1) := by decide +kernel
theorem dX5_readFound_13 : decode cX5_readFound 13 = .ok (.getfield 153, 3) := by decide +kernel
theorem dX5_readFound_16 : decode cX5_readFound 16 = .ok (.istore_n 1, 1) := by decide +kernel
theorem dX5_readFound_17 : decode cX5_readFound 17 = .ok (.aload_n 0, 1) := by decide +kernel
theorem dX5_readFound_18 : decode cX5_readFound 18 = .ok (.getfield 22, 3) := by decide +kernel
theorem dX5_readFound_21 : decode cX5_readFound 21 = .ok (.getfield 138, 3) := by decide +kernel
theorem dX5_readFound_24 : decode cX5_readFound 24 = .ok (.iconst 0, 1) := by decide +kernel
theorem dX5_readFound_25 : decode cX5_readFound 25 = .ok (.iload_n 1, 1) := by decide +kernel
theorem dX5_readFound_26 : decode cX5_readFound 26 = .ok (.invokevirtual 214, 3) := by decide +kernel
theorem dX5_readFound_29 : decode cX5_readFound 29 = .ok (.ifCond .eq 9, 3) := by decide +kernel
theorem dX5_readFound_32 : decode cX5_readFound 32 = .ok (.aload_n 0, 1) := by decide +kernel
theorem dX5_readFound_33 : decode cX5_readFound 33 = .ok (.iconst 3, 1) := by decide +kernel
theorem dX5_readFound_34 : decode cX5_readFound 34 = .ok (.invokevirtual 63, 3) := by decide +kernel
theorem dX5_readFound_37 : decode cX5_readFound 37 = .ok (.ireturn, 1) := by decide +kernel
theorem dX5_readFound_38 : decode cX5_readFound 38 = .ok (.aload_n 0, 1) := by decide +kernel
theorem dX5_readFound_39 : decode cX5_readFound 39 = .ok (.ldc 212, 2) := by decide +kernel
theorem dX5_readFound_41 : decode cX5_readFound 41 = .ok (.invokevirtual 146, 3) := by decide +kernel
theorem dX5_readFound_44 : decode cX5_readFound 44 = .ok (.ifCond .eq 14, 3) := by decide +kernel
theorem dX5_readFound_47 : decode cX5_readFound 47 = .ok (.aload_n 0, 1) := by decide +kernel
theorem dX5_readFound_48 : decode cX5_readFound 48 = .ok (.iconst 0, 1) := by decide +kernel
theorem dX5_readFound_49 : decode cX5_readFound 49 = .ok (.sipush 199, 3) := by decide +kernel
theorem dX5_readFound_52 : decode cX5_readFound 52 = .ok (.invokevirtual 149, 3) := by decide +kernel
theorem dX5_readFound_55 : decode cX5_readFound 55 = .ok (.ifCond .ne 5, 3) := by decide +kernel
theorem dX5_readFound_58 : decode cX5_readFound 58 = .ok (.iconst 0, 1) := by decide +kernel
theorem dX5_readFound_59 : decode cX5_readFound 59 = .ok (.ireturn, 1) := by decide +kernel
theorem dX5_readFound_60 : decode cX5_readFound 60 = .ok (.aload_n 0, 1) := by decide +kernel
theorem dX5_readFound_61 : decode cX5_readFound 61 = .ok (.getfield 153, 3) := by decide +kernel
theorem dX5_readFound_64 : decode cX5_readFound 64 = .ok (.istore_n 2, 1) := by decide +kernel
theorem dX5_readFound_65 : decode cX5_readFound 65 = .ok (.aload_n 0, 1) := by decide +kernel
theorem dX5_readFound_66 : decode cX5_readFound 66 = .ok (.iconst 0, 1) := by decide +kernel
theorem dX5_readFound_67 : decode cX5_readFound 67 = .ok (.sipush 199, 3) := by decide +kernel
theorem dX5_readFound_70 : decode cX5_readFound 70 = .ok (.invokevirtual 149, 3) := by decide +kernel
theorem dX5_readFound_73 : decode cX5_readFound 73 = .ok (.ifCond .ne 5, 3) := by decide +kernel
theorem dX5_readFound_76 : decode cX5_readFound 76 = .ok (.iconst 0, 1) := by decide +kernel
theorem dX5_readFound_77 : decode cX5_readFound 77 = .ok (.ireturn, 1) := by decide +kernel
theorem dX5_readFound_78 : decode cX5_readFound 78 = .ok (.aload_n 0, 1) := by decide +kernel
theorem dX5_readFound_79 : decode cX5_readFound 79 = .ok (.getfield 22, 3) := by decide +kernel
theorem dX5_readFound_82 : decode cX5_readFound 82 = .ok (.getfield 138, 3) := by decide +kernel
theorem dX5_readFound_85 : decode cX5_readFound 85 = .ok (.iload_n 1, 1) := by decide +kernel
theorem dX5_readFound_86 : decode cX5_readFound 86 = .ok (.iload_n 2, 1) := by decide +kernel
theorem dX5_readFound_87 : decode cX5_readFound 87 = .ok (.aload_n 0, 1) := by decide +kernel
theorem dX5_readFound_88 : decode cX5_readFound 88 = .ok (.getfield 153, 3) := by decide +kernel
theorem dX5_readFound_91 : decode cX5_readFound 91 = .ok (.invokestatic 217, 3) := by decide +kernel
theorem dX5_readFound_94 : decode cX5_readFound 94 = .ok (.iconst 0, 1) := by decide +kernel
theorem dX5_readFound_95 : decode cX5_readFound 95 = .ok (.iconst 0, 1) := by decide +kernel
theorem dX5_readFound_96 : decode cX5_readFound 96 = .ok (.invokevirtual 189, 3) := by decide +kernel
theorem dX5_readFound_99 : decode cX5_readFound 99 = .ok (.iconst 1, 1) := by decide +kernel
theorem dX5_readFound_100 : decode cX5_readFound 100 = .ok (.ireturn, 1) := by decide +kernel
theorem dX5_readLine_0 : decode cX5_readLine 0 = .ok (.aload_n 0, 1) := by decide +kernel
theorem dX5_readLine_1 : decode cX5_readLine 1 = .ok (.invokevirtual 70, 3) := by decide +kernel
theorem dX5_readLine_4 : decode cX5_readLine 4 = .ok (.aload_n 0, 1) := by decide +kernel
theorem dX5_readLine_5 : decode cX5_readLine 5 = .ok (.ldc 76, 2) := by decide +kernel
theorem dX5_readLine_7 : decode cX5_readLine 7 = .ok (.invokevirtual 77, 3) := by decide +kernel
theorem dX5_readLine_10 : decode cX5_readLine 10 = .ok (.ifCond .eq 26, 3) := by decide +kernel
theorem dX5_readLine_13 : decode cX5_readLine 13 = .ok (.aload_n 0, 1) := by decide +kernel
theorem dX5_readLine_14 : decode cX5_readLine 14 = .ok (.getfield 22, 3) := by decide +kernel
theorem dX5_readLine_17 : decode cX5_readLine 17 = .ok (.getfield 81, 3) := by decide +kernel
theorem dX5_readLine_20 : decode cX5_readLine 20 = .ok (.ifCond .eq 11, 3) := by decide +kernel
theorem dX5_readLine_23 : decode cX5_readLine 23 = .ok (.aload_n 0, 1) := by decide +kernel
theorem dX5_readLine_24 : decode cX5_readLine 24 = .ok (.iconst 3, 1) := by decide +kernel
theorem dX5_readLine_25 : decode cX5_readLine 25 = .ok (.invokevirtual 63, 3) := by decide +kernel
theorem dX5_readLine_28 : decode cX5_readLine 28 = .ok (.goto 7, 3) := by decide +kernel
theorem dX5_readLine_31 : decode cX5_readLine 31 = .ok (.aload_n 0, 1) := by decide +kernel
theorem dX5_readLine_32 : decode cX5_readLine 32 = .ok (.invokevirtual 85, 3) := by decide +kernel
theorem dX5_readLine_35 : decode cX5_readLine 35 = .ok (.ireturn, 1) := by decide +kernel
theorem dX5_readLine_36 : decode cX5_readLine 36 = .ok (.aload_n 0, 1) := by decide +kernel
theorem dX5_readLine_37 : decode cX5_readLine 37 = .ok (.invokevirtual 88, 3) := by decide +kernel
theorem dX5_readLine_40 : decode cX5_readLine 40 = .ok (.ifCond .ne 9, 3) := by decide +kernel
theorem dX5_readLine_43 : decode cX5_readLine 43 = .ok (.aload_n 0, 1) := by decide +kernel
theorem dX5_readLine_44 : decode cX5_readLine 44 = .ok (.iconst 1, 1) := by decide +kernel
theorem dX5_readLine_45 : decode cX5_readLine 45 = .ok (.invokevirtual 63, 3) := by decide +kernel
theorem dX5_readLine_48 : decode cX5_readLine 48 = .ok (.ireturn, 1) := by decide +kernel
theorem dX5_readLine_49 : decode cX5_readLine 49 = .ok (.aload_n 0, 1) := by decide +kernel
theorem dX5_readLine_50 : decode cX5_readLine 50 = .ok (.getfield 22, 3) := by decide +kernel
theorem dX5_readLine_53 : decode cX5_readLine 53 = .ok (.getfield 81, 3) := by decide +kernel
theorem dX5_readLine_56 : decode cX5_readLine 56 = .ok (.ifCond .ne 10, 3) := by decide +kernel
theorem dX5_readLine_59 : decode cX5_readLine 59 = .ok (.aload_n 0, 1) := by decide +kernel
theorem dX5_readLine_60 : decode cX5_readLine 60 = .ok (.bipush 6, 2) := by decide +kernel
theorem dX5_readLine_62 : decode cX5_readLine 62 = .ok (.invokevirtual 63, 3) := by decide +kernel
theorem dX5_readLine_65 : decode cX5_readLine 65 = .ok (.ireturn, 1) := by decide +kernel
theorem dX5_readLine_66 : decode cX5_readLine 66 = .ok (.aload_n 0, 1) := by decide +kernel
theorem dX5_readLine_67 : decode cX5_readLine 67 = .ok (.ldc 91, 2) := by decide +kernel
theorem dX5_readLine_69 : decode cX5_readLine 69 = .ok (.invokevirtual 77, 3) := by decide +kernel
theorem dX5_readLine_72 : decode cX5_readLine 72 = .ok (.ifCond .eq 29, 3) := by decide +kernel
theorem dX5_readLine_75 : decode cX5_readLine 75 = .ok (.aload_n 0, 1) := by decide +kernel
theorem dX5_readLine_76 : decode cX5_readLine 76 = .ok (.getfield 22, 3) := by decide +kernel
theorem dX5_readLine_79 : decode cX5_readLine 79 = .ok (.getfield 93, 3) := by decide +kernel
theorem dX5_readLine_82 : decode cX5_readLine 82 = .ok (.invokevirtual 96, 3) := by decide +kernel
theorem dX5_readLine_85 : decode cX5_readLine 85 = .ok (.ifCond .eq 11, 3) := by decide +kernel
theorem dX5_readLine_88 : decode cX5_readLine 88 = .ok (.aload_n 0, 1) := by decide +kernel
theorem dX5_readLine_89 : decode cX5_readLine 89 = .ok (.iconst 5, 1) := by decide +kernel
theorem dX5_readLine_90 : decode cX5_readLine 90 = .ok (.invokevirtual 63, 3) := by decide +kernel
theorem dX5_readLine_93 : decode cX5_readLine 93 = .ok (.goto 7, 3) := by decide +kernel
theorem dX5_readLine_96 : decode cX5_readLine 96 = .ok (.aload_n 0, 1) := by decide +kernel
theorem dX5_readLine_97 : decode cX5_readLine 97 = .ok (.invokevirtual 99, 3) := by decide +kernel
theorem dX5_readLine_100 : decode cX5_readLine 100 = .ok (.ireturn, 1) := by decide +kernel
theorem dX5_readLine_101 : decode cX5_readLine 101 = .ok (.aload_n 0, 1) := by decide +kernel
theorem dX5_readLine_102 : decode cX5_readLine 102 = .ok (.ldc 102, 2) := by decide +kernel
theorem dX5_readLine_104 : decode cX5_readLine 104 = .ok (.invokevirtual 77, 3) := by decide +kernel
theorem dX5_readLine_107 : decode cX5_readLine 107 = .ok (.ifCond .eq 29, 3) := by decide +kernel
theorem dX5_readLine_110 : decode cX5_readLine 110 = .ok (.aload_n 0, 1) := by decide +kernel
theorem dX5_readLine_111 : decode cX5_readLine 111 = .ok (.getfield 22, 3) := by decide +kernel
theorem dX5_readLine_114 : decode cX5_readLine 114 = .ok (.getfield 104, 3) := by decide +kernel
theorem dX5_readLine_117 : decode cX5_readLine 117 = .ok (.invokevirtual 96, 3) := by decide +kernel
theorem dX5_readLine_120 : decode cX5_readLine 120 = .ok (.ifCond .eq 11, 3) := by decide +kernel
theorem dX5_readLine_123 : decode cX5_readLine 123 = .ok (.aload_n 0, 1) := by decide +kernel
theorem dX5_readLine_124 : decode cX5_readLine 124 = .ok (.iconst 5, 1) := by decide +kernel
theorem dX5_readLine_125 : decode cX5_readLine 125 = .ok (.invokevirtual 63, 3) := by decide +kernel
theorem dX5_readLine_128 : decode cX5_readLine 128 = .ok (.goto 7, 3) := by decide +kernel
theorem dX5_readLine_131 : decode cX5_readLine 131 = .ok (.aload_n 0, 1) := by decide +kernel
theorem dX5_readLine_132 : decode cX5_readLine 132 = .ok (.invokevirtual 107, 3) := by decide +kernel
theorem dX5_readLine_135 : decode cX5_readLine 135 = .ok (.ireturn, 1) := by decide +kernel
theorem dX5_readLine_136 : decode cX5_readLine 136 = .ok (.aload_n 0, 1) := by decide +kernel
theorem dX5_readLine_137 : decode cX5_readLine 137 = .ok (.ldc 110, 2) := by decide +kernel
theorem dX5_readLine_139 : decode cX5_readLine 139 = .ok (.invokevirtual 77, 3) := by decide +kernel
theorem dX5_readLine_142 : decode cX5_readLine 142 = .ok (.ifCond .eq 29, 3) := by decide +kernel
theorem dX5_readLine_145 : decode cX5_readLine 145 = .ok (.aload_n 0, 1) := by decide +kernel
theorem dX5_readLine_146 : decode cX5_readLine 146 = .ok (.getfield 22, 3) := by decide +kernel
theorem dX5_readLine_149 : decode cX5_readLine 149 = .ok (.getfield 54, 3) := by decide +kernel
theorem dX5_readLine_152 : decode cX5_readLine 152 = .ok (.invokevirtual 96, 3) := by decide +kernel
theorem dX5_readLine_155 : decode cX5_readLine 155 = .ok (.ifCond .eq 11, 3) := by decide +kernel
theorem dX5_readLine_158 : decode cX5_readLine 158 = .ok (.aload_n 0, 1) := by decide +kernel
theorem dX5_readLine_159 : decode cX5_readLine 159 = .ok (.iconst 5, 1) := by decide +kernel
theorem dX5_readLine_160 : decode cX5_readLine 160 = .ok (.invokevirtual 63, 3) := by decide +kernel
theorem dX5_readLine_163 : decode cX5_readLine 163 = .ok (.goto 7, 3) := by decide +kernel
theorem dX5_readLine_166 : decode cX5_readLine 166 = .ok (.aload_n 0, 1) := by decide +kernel
theorem dX5_readLine_167 : decode cX5_readLine 167 = .ok (.invokevirtual 112, 3) := by decide +kernel
theorem dX5_readLine_170 : decode cX5_readLine 170 = .ok (.ireturn, 1) := by decide +kernel
theorem dX5_readLine_171 : decode cX5_readLine 171 = .ok (.aload_n 0, 1) := by decide +kernel
theorem dX5_readLine_172 : decode cX5_readLine 172 = .ok (.ldc 115, 2) := by decide +kernel
theorem dX5_readLine_174 : decode cX5_readLine 174 = .ok (.invokevirtual 77, 3) := by decide +kernel
theorem dX5_readLine_177 : decode cX5_readLine 177 = .ok (.ifCond .eq 29, 3) := by decide +kernel
theorem dX5_readLine_180 : decode cX5_readLine 180 = .ok (.aload_n 0, 1) := by decide +kernel
theorem dX5_readLine_181 : decode cX5_readLine 181 = .ok (.getfield 22, 3) := by decide +kernel
theorem dX5_readLine_184 : decode cX5_readLine 184 = .ok (.getfield 117, 3) := by decide +kernel
theorem dX5_readLine_187 : decode cX5_readLine 187 = .ok (.invokevirtual 96, 3) := by decide +kernel
theorem dX5_readLine_190 : decode cX5_readLine 190 = .ok (.ifCond .eq 11, 3) := by decide +kernel
theorem dX5_readLine_193 : decode cX5_readLine 193 = .ok (.aload_n 0, 1) := by decide +kernel
theorem dX5_readLine_194 : decode cX5_readLine 194 = .ok (.iconst 5, 1) := by decide +kernel
theorem dX5_readLine_195 : decode cX5_readLine 195 = .ok (.invokevirtual 63, 3) := by decide +kernel
theorem dX5_readLine_198 : decode cX5_readLine 198 = .ok (.goto 7, 3) := by decide +kernel
theorem dX5_readLine_201 : decode cX5_readLine 201 = .ok (.aload_n 0, 1) := by decide +kernel
theorem dX5_readLine_202 : decode cX5_readLine 202 = .ok (.invokevirtual 120, 3) := by decide +kernel
theorem dX5_readLine_205 : decode cX5_readLine 205 = .ok (.ireturn, 1) := by decide +kernel
theorem dX5_readLine_206 : decode cX5_readLine 206 = .ok (.aload_n 0, 1) := by decide +kernel
theorem dX5_readLine_207 : decode cX5_readLine 207 = .ok (.ldc 123, 2) := by decide +kernel
theorem dX5_readLine_209 : decode cX5_readLine 209 = .ok (.invokevirtual 77, 3) := by decide +kernel
theorem dX5_readLine_212 : decode cX5_readLine 212 = .ok (.ifCond .eq 29, 3) := by decide +kernel
theorem dX5_readLine_215 : decode cX5_readLine 215 = .ok (.aload_n 0, 1) := by decide +kernel
theorem dX5_readLine_216 : decode cX5_readLine 216 = .ok (.getfield 22, 3) := by decide +kernel
theorem dX5_readLine_219 : decode cX5_readLine 219 = .ok (.getfield 125, 3) := by decide +kernel
theorem dX5_readLine_222 : decode cX5_readLine 222 = .ok (.invokevirtual 96, 3) := by decide +kernel
theorem dX5_readLine_225 : decode cX5_readLine 225 = .ok (.ifCond .eq 11, 3) := by decide +kernel
theorem dX5_readLine_228 : decode cX5_readLine 228 = .ok (.aload_n 0, 1) := by decide +kernel
theorem dX5_readLine_229 : decode cX5_readLine 229 = .ok (.iconst 5, 1) := by decide +kernel
theorem dX5_readLine_230 : decode cX5_readLine 230 = .ok (.invokevirtual 63, 3) := by decide +kernel
theorem dX5_readLine_233 : decode cX5_readLine 233 = .ok (.goto 7, 3) := by decide +kernel
theorem dX5_readLine_236 : decode cX5_readLine 236 = .ok (.aload_n 0, 1) := by decide +kernel
theorem dX5_readLine_237 : decode cX5_readLine 237 = .ok (.invokevirtual 128, 3) := by decide +kernel
theorem dX5_readLine_240 : decode cX5_readLine 240 = .ok (.ireturn, 1) := by decide +kernel
theorem dX5_readLine_241 : decode cX5_readLine 241 = .ok (.aload_n 0, 1) := by decide +kernel
theorem dX5_readLine_242 : decode cX5_readLine 242 = .ok (.ldc 131, 2) := by decide +kernel
theorem dX5_readLine_244 : decode cX5_readLine 244 = .ok (.invokevirtual 77, 3) := by decide +kernel
theorem dX5_readLine_247 : decode cX5_readLine 247 = .ok (.ifCond .eq 29, 3) := by decide +kernel
theorem dX5_readLine_250 : decode cX5_readLine 250 = .ok (.aload_n 0, 1) := by decide +kernel
theorem dX5_readLine_251 : decode cX5_readLine 251 = .ok (.getfield 22, 3) := by decide +kernel
theorem dX5_readLine_254 : decode cX5_readLine 254 = .ok (.getfield 133, 3) := by decide +kernel
theorem dX5_readLine_257 : decode cX5_readLine 257 = .ok (.invokevirtual 96, 3) := by decide +kernel
theorem dX5_readLine_260 : decode cX5_readLine 260 = .ok (.ifCond .eq 11, 3) := by decide +kernel
theorem dX5_readLine_263 : decode cX5_readLine 263 = .ok (.aload_n 0, 1) := by decide +kernel
theorem dX5_readLine_264 : decode cX5_readLine 264 = .ok (.iconst 5, 1) := by decide +kernel
theorem dX5_readLine_265 : decode cX5_readLine 265 = .ok (.invokevirtual 63, 3) := by decide +kernel
theorem dX5_readLine_268 : decode cX5_readLine 268 = .ok (.goto 7, 3) := by decide +kernel
theorem dX5_readLine_271 : decode cX5_readLine 271 = .ok (.aload_n 0, 1) := by decide +kernel
theorem dX5_readLine_272 : decode cX5_readLine 272 = .ok (.invokevirtual 135, 3) := by decide +kernel
theorem dX5_readLine_275 : decode cX5_readLine 275 = .ok (.ireturn, 1) := by decide +kernel
theorem dX5_readLine_276 : decode cX5_readLine 276 = .ok (.aload_n 0, 1) := by decide +kernel
theorem dX5_readLine_277 : decode cX5_readLine 277 = .ok (.getfield 22, 3) := by decide +kernel
theorem dX5_readLine_280 : decode cX5_readLine 280 = .ok (.getfield 138, 3) := by decide +kernel
theorem dX5_readLine_283 : decode cX5_readLine 283 = .ok (.invokevirtual 96, 3) := by decide +kernel
theorem dX5_readLine_286 : decode cX5_readLine 286 = .ok (.ifCond .eq 11, 3) := by decide +kernel
theorem dX5_readLine_289 : decode cX5_readLine 289 = .ok (.aload_n 0, 1) := by decide +kernel
theorem dX5_readLine_290 : decode cX5_readLine 290 = .ok (.iconst 5, 1) := by decide +kernel
theorem dX5_readLine_291 : decode cX5_readLine 291 = .ok (.invokevirtual 63, 3) := by decide +kernel
theorem dX5_readLine_294 : decode cX5_readLine 294 = .ok (.goto 7, 3) := by decide +kernel
theorem dX5_readLine_297 : decode cX5_readLine 297 = .ok (.aload_n 0, 1) := by decide +kernel
theorem dX5_readLine_298 : decode cX5_readLine 298 = .ok (.invokevirtual 141, 3) := by decide +kernel
theorem dX5_readLine_301 : decode cX5_readLine 301 = .ok (.ireturn, 1) := by decide +kernel
theorem dX5_isParted_0 : decode cX5_isParted 0 = .ok (.aload_n 0, 1) := by decide +kernel
theorem dX5_isParted_1 : decode cX5_isParted 1 = .ok (.invokevirtual 70, 3) := by decide +kernel
theorem dX5_isParted_4 : decode cX5_isParted 4 = .ok (.aload_n 0, 1) := by decide +kernel
theorem dX5_isParted_5 : decode cX5_isParted 5 = .ok (.getfield 73, 3) := by decide +kernel
theorem dX5_isParted_8 : decode cX5_isParted 8 = .ok (.iconst 3, 1) := by decide +kernel
theorem dX5_isParted_9 : decode cX5_isParted 9 = .ok (.if_icmp .ne 5, 3) := by decide +kernel
theorem dX5_isParted_12 : decode cX5_isParted 12 = .ok (.iconst 1, 1) := by decide +kernel
theorem dX5_isParted_13 : decode cX5_isParted 13 = .ok (.ireturn, 1) := by decide +kernel
theorem dX5_isParted_14 : decode cX5_isParted 14 = .ok (.aload_n 0, 1) := by decide +kernel
theorem dX5_isParted_15 : decode cX5_isParted 15 = .ok (.getfield 73, 3) := by decide +kernel
theorem dX5_isParted_18 : decode cX5_isParted 18 = .ok (.ifCond .ne 7, 3) := by decide +kernel
theorem dX5_isParted_21 : decode cX5_isParted 21 = .ok (.iconst 0, 1) := by decide +kernel
theorem dX5_isParted_22 : decode cX5_isParted 22 = .ok (.goto 8, 3) := by decide +kernel
theorem dX5_isParted_25 : decode cX5_isParted 25 = .ok (.aload_n 0, 1) := by decide +kernel
theorem dX5_isParted_26 : decode cX5_isParted 26 = .ok (.iconst 1, 1) := by decide +kernel
theorem dX5_isParted_27 : decode cX5_isParted 27 = .ok (.invokevirtual 63, 3) := by decide +kernel
theorem dX5_isParted_30 : decode cX5_isParted 30 = .ok (.ireturn, 1) := by decide +kernel
theorem dX5_judgeWhole_0 : decode cX5_judgeWhole 0 = .ok (.aload_n 0, 1) := by decide +kernel
theorem dX5_judgeWhole_1 : decode cX5_judgeWhole 1 = .ok (.getfield 22, 3) := by decide +kernel
theorem dX5_judgeWhole_4 : decode cX5_judgeWhole 4 = .ok (.getfield 54, 3) := by decide +kernel
theorem dX5_judgeWhole_7 : decode cX5_judgeWhole 7 = .ok (.getfield 58, 3) := by decide +kernel
theorem dX5_judgeWhole_10 : decode cX5_judgeWhole 10 = .ok (.ifCond .ne 13, 3) := by decide +kernel
theorem dX5_judgeWhole_13 : decode cX5_judgeWhole 13 = .ok (.aload_n 0, 1) := by decide +kernel
theorem dX5_judgeWhole_14 : decode cX5_judgeWhole 14 = .ok (.bipush 6, 2) := by decide +kernel
theorem dX5_judgeWhole_16 : decode cX5_judgeWhole 16 = .ok (.invokevirtual 63, 3) := by decide +kernel
theorem dX5_judgeWhole_19 : decode cX5_judgeWhole 19 = .ok (.pop, 1) := by decide +kernel
theorem dX5_judgeWhole_20 : decode cX5_judgeWhole 20 = .ok (.goto 20, 3) := by decide +kernel
theorem dX5_judgeWhole_23 : decode cX5_judgeWhole 23 = .ok (.aload_n 0, 1) := by decide +kernel
theorem dX5_judgeWhole_24 : decode cX5_judgeWhole 24 = .ok (.getfield 22, 3) := by decide +kernel
theorem dX5_judgeWhole_27 : decode cX5_judgeWhole 27 = .ok (.invokevirtual 67, 3) := by decide +kernel
theorem dX5_judgeWhole_30 : decode cX5_judgeWhole 30 = .ok (.ifCond .eq 10, 3) := by decide +kernel
theorem dX5_judgeWhole_33 : decode cX5_judgeWhole 33 = .ok (.aload_n 0, 1) := by decide +kernel
theorem dX5_judgeWhole_34 : decode cX5_judgeWhole 34 = .ok (.bipush 7, 2) := by decide +kernel
theorem dX5_judgeWhole_36 : decode cX5_judgeWhole 36 = .ok (.invokevirtual 63, 3) := by decide +kernel
theorem dX5_judgeWhole_39 : decode cX5_judgeWhole 39 = .ok (.pop, 1) := by decide +kernel
theorem dX5_judgeWhole_40 : decode cX5_judgeWhole 40 = .ok (.return_, 1) := by decide +kernel
theorem dX5_read_0 : decode cX5_read 0 = .ok (.aload_n 0, 1) := by decide +kernel
theorem dX5_read_1 : decode cX5_read 1 = .ok (.aload_n 2, 1) := by decide +kernel
theorem dX5_read_2 : decode cX5_read 2 = .ok (.putfield 22, 3) := by decide +kernel
theorem dX5_read_5 : decode cX5_read 5 = .ok (.aload_n 0, 1) := by decide +kernel
theorem dX5_read_6 : decode cX5_read 6 = .ok (.getfield 22, 3) := by decide +kernel
theorem dX5_read_9 : decode cX5_read 9 = .ok (.invokevirtual 26, 3) := by decide +kernel
theorem dX5_read_12 : decode cX5_read 12 = .ok (.aload_n 0, 1) := by decide +kernel
theorem dX5_read_13 : decode cX5_read 13 = .ok (.iload_n 1, 1) := by decide +kernel
theorem dX5_read_14 : decode cX5_read 14 = .ok (.putfield 31, 3) := by decide +kernel
theorem dX5_read_17 : decode cX5_read 17 = .ok (.aload_n 0, 1) := by decide +kernel
theorem dX5_read_18 : decode cX5_read 18 = .ok (.iconst 0, 1) := by decide +kernel
theorem dX5_read_19 : decode cX5_read 19 = .ok (.putfield 35, 3) := by decide +kernel
theorem dX5_read_22 : decode cX5_read 22 = .ok (.aload_n 0, 1) := by decide +kernel
theorem dX5_read_23 : decode cX5_read 23 = .ok (.iconst 0, 1) := by decide +kernel
theorem dX5_read_24 : decode cX5_read 24 = .ok (.putfield 38, 3) := by decide +kernel
theorem dX5_read_27 : decode cX5_read 27 = .ok (.aload_n 0, 1) := by decide +kernel
theorem dX5_read_28 : decode cX5_read 28 = .ok (.iconst (-1), 1) := by decide +kernel
theorem dX5_read_29 : decode cX5_read 29 = .ok (.putfield 41, 3) := by decide +kernel
theorem dX5_read_32 : decode cX5_read 32 = .ok (.iconst 1, 1) := by decide +kernel
theorem dX5_read_33 : decode cX5_read 33 = .ok (.istore_n 3, 1) := by decide +kernel
theorem dX5_read_34 : decode cX5_read 34 = .ok (.iconst 0, 1) := by decide +kernel
theorem dX5_read_35 : decode cX5_read 35 = .ok (.istore 4, 2) := by decide +kernel
theorem dX5_read_37 : decode cX5_read 37 = .ok (.iload_n 3, 1) := by decide +kernel
theorem dX5_read_38 : decode cX5_read 38 = .ok (.ifCond .eq 37, 3) := by decide +kernel
theorem dX5_read_41 : decode cX5_read 41 = .ok (.iload 4, 2) := by decide +kernel
theorem dX5_read_43 : decode cX5_read 43 = .ok (.sipush 900, 3) := by decide +kernel
theorem dX5_read_46 : decode cX5_read 46 = .ok (.if_icmp .gt 29, 3) := by decide +kernel
theorem dX5_read_49 : decode cX5_read 49 = .ok (.aload_n 0, 1) := by decide +kernel
theorem dX5_read_50 : decode cX5_read 50 = .ok (.invokevirtual 44, 3) := by decide +kernel
theorem dX5_read_53 : decode cX5_read 53 = .ok (.ifCond .eq 14, 3) := by decide +kernel
theorem dX5_read_56 : decode cX5_read 56 = .ok (.aload_n 0, 1) := by decide +kernel
theorem dX5_read_57 : decode cX5_read 57 = .ok (.invokevirtual 48, 3) := by decide +kernel
theorem dX5_read_60 : decode cX5_read 60 = .ok (.ifCond .eq 7, 3) := by decide +kernel
theorem dX5_read_63 : decode cX5_read 63 = .ok (.iconst 1, 1) := by decide +kernel
theorem dX5_read_64 : decode cX5_read 64 = .ok (.goto 4, 3) := by decide +kernel
theorem dX5_read_67 : decode cX5_read 67 = .ok (.iconst 0, 1) := by decide +kernel
theorem dX5_read_68 : decode cX5_read 68 = .ok (.istore_n 3, 1) := by decide +kernel
theorem dX5_read_69 : decode cX5_read 69 = .ok (.iinc 4 1, 3) := by decide +kernel
theorem dX5_read_72 : decode cX5_read 72 = .ok (.goto (-35), 3) := by decide +kernel
theorem dX5_read_75 : decode cX5_read 75 = .ok (.aload_n 0, 1) := by decide +kernel
theorem dX5_read_76 : decode cX5_read 76 = .ok (.getfield 38, 3) := by decide +kernel
theorem dX5_read_79 : decode cX5_read 79 = .ok (.ifCond .ne 7, 3) := by decide +kernel
theorem dX5_read_82 : decode cX5_read 82 = .ok (.aload_n 0, 1) := by decide +kernel
theorem dX5_read_83 : decode cX5_read 83 = .ok (.invokevirtual 51, 3) := by decide +kernel
theorem dX5_read_86 : decode cX5_read 86 = .ok (.return_, 1) := by decide +kernel
def M_X5_init : MD := (yX5_init, cX5_init, 3, none, 1, 20, 2, 9)
theorem ci_X5_init : CIo M_X5_init 2 := ⟨⟨wd_256, wd_113, ⟨by decide, by decide⟩, by decide +kernel⟩, wd_255, rfl, rfl⟩
def X5_init (a0 : Nat) (a1 : Nat) (a2 : Nat) (h : Hp) : Option (Hp) :=
  if (5 : Int32) < 0 ∨ Int32.toNatClampNeg 5 ≠ 5 then none else
  pin (nw h (.inl (2, 5, .inr (.inl (fun _ => 0))))) fun h1 =>
  (pF h1 a0 5 1 (.ref h.1)).bind fun h2 =>
  if (4 : Int32) < 0 ∨ Int32.toNatClampNeg 4 ≠ 4 then none else
  pin (nw h2 (.inl (2, 4, .inr (.inl (fun _ => 0))))) fun h3 =>
  (pF h3 a0 5 2 (.ref h2.1)).bind fun h4 =>
  (pF h4 a0 5 0 (.ref a1)).bind fun h5 =>
  (pF h5 a0 5 3 (.ref a2)).bind fun h6 =>
  some h6
theorem X5_init_ok {a0 : Nat} {a1 : Nat} {a2 : Nat} {h h' : Hp} (H : X5_init a0 a1 a2 h = some h') : Con M_X5_init [.ref a0, .ref a1, .ref a2] h none h' := by
  refine con_of_go (by decide) 0 (L := [some (.ref a0), some (.ref a1), some (.ref a2)]) rfl (Nat.le_of_ble_eq_true rfl) ?_
  unfold X5_init at H
  refine go_aload_n (pc := 0) dX5_init_0 rfl rfl ?_
  refine go_objInit (pc := 1) dX5_init_1 wd_257 wd_137 wd_138 (Nat.le_of_ble_eq_true rfl) (Nat.le_of_ble_eq_true rfl) ?_
  refine go_aload_n (pc := 4) dX5_init_4 rfl rfl ?_
  refine go_iconst (pc := 5) (v := 5) dX5_init_5 (by decide) ?_
  refine go_newJ (pc := 6) (N := 5) dX5_init_6 wd_300 H (Nat.le_of_ble_eq_true rfl) (Nat.le_of_ble_eq_true rfl) (Nat.le_of_ble_eq_true rfl) (fun H => ?_)
  refine go_pinH H (fun h1 H => ?_)
  refine go_putAF (pc := 8) dX5_init_8 fs_X5_9 ⟨rfl, _, rfl, rfl⟩ H (fun h2 H => ?_)
  refine go_aload_n (pc := 11) dX5_init_11 rfl rfl ?_
  refine go_iconst (pc := 12) (v := 4) dX5_init_12 (by decide) ?_
  refine go_newJ (pc := 13) (N := 4) dX5_init_13 wd_300 H (Nat.le_of_ble_eq_true rfl) (Nat.le_of_ble_eq_true rfl) (Nat.le_of_ble_eq_true rfl) (fun H => ?_)
  refine go_pinH H (fun h3 H => ?_)
  refine go_putAF (pc := 15) dX5_init_15 fs_X5_15 ⟨rfl, _, rfl, rfl⟩ H (fun h4 H => ?_)
  refine go_aload_n (pc := 18) dX5_init_18 rfl rfl ?_
  refine go_aload_n (pc := 19) dX5_init_19 rfl rfl ?_
  refine go_putAF (pc := 20) dX5_init_20 fs_X5_18 ⟨rfl, _, rfl, rfl⟩ H (fun h5 H => ?_)
  refine go_aload_n (pc := 23) dX5_init_23 rfl rfl ?_
  refine go_aload_n (pc := 24) dX5_init_24 rfl rfl ?_
  refine go_putR (pc := 25) dX5_init_25 fs_X5_22 H (fun h6 H => ?_)
  exact go_vret (pc := 28) dX5_init_28 rfl ⟨Nat.le_of_ble_eq_true rfl, Nat.le_of_ble_eq_true rfl⟩ H

def M_X5_byteAt : MD := (yX5_byteAt, cX5_byteAt, 2, (some .int), 0, 0, 0, 0)
theorem cv_X5_byteAt : CVo M_X5_byteAt 1 5 := ⟨⟨wd_534, wd_113, ⟨by decide, by decide⟩, by decide +kernel⟩, wd_533, wd_4, _, rfl, rfl⟩
def X5_byteAt (a0 : Nat) (a1 : Int32) (h : Hp) : Option (Int32 × Hp) :=
  if a1 < 0 then (
    some (0, h))
  else (
    (gR h a0 5 0).bind fun v1 =>
    (aN h v1).bind fun v2 =>
    if v2 ≤ a1 then (
      some (0, h))
    else (
      (gR h a0 5 0).bind fun v3 =>
      (aB h v3 a1).bind fun v4 =>
      some (v4 &&& 255, h)))
theorem X5_byteAt_ok {a0 : Nat} {a1 : Int32} {h h' : Hp} {r : Int32} (H : X5_byteAt a0 a1 h = some (r, h')) : Con M_X5_byteAt [.ref a0, .int a1] h (some (.int r)) h' := by
  refine con_of_go (by decide) 0 (L := [some (.ref a0), some (.int a1)]) rfl (Nat.le_of_ble_eq_true rfl) ?_
  unfold X5_byteAt at H
  refine go_iload_n (pc := 0) dX5_byteAt_0 rfl rfl ?_
  refine go_if_lt (pc := 1) (tgt := 26) dX5_byteAt_1 (by decide) H (fun H => ?_) (fun H => ?_)
  · refine go_iconst (pc := 26) (v := 0) dX5_byteAt_26 (by decide) ?_
    exact go_iret (pc := 27) dX5_byteAt_27 rfl ⟨Nat.le_of_ble_eq_true rfl, Nat.le_of_ble_eq_true rfl⟩ H
  · refine go_iload_n (pc := 4) dX5_byteAt_4 rfl rfl ?_
    refine go_aload_n (pc := 5) dX5_byteAt_5 rfl rfl ?_
    refine go_getR (pc := 6) dX5_byteAt_6 fl_X5_18 H (fun v1 H => ?_)
    refine go_alen (pc := 9) dX5_byteAt_9 H (fun v2 H => ?_)
    refine go_icmp_ge (pc := 10) (tgt := 26) dX5_byteAt_10 (by decide) H (fun H => ?_) (fun H => ?_)
    · refine go_iconst (pc := 26) (v := 0) dX5_byteAt_26 (by decide) ?_
      exact go_iret (pc := 27) dX5_byteAt_27 rfl ⟨Nat.le_of_ble_eq_true rfl, Nat.le_of_ble_eq_true rfl⟩ H
    · refine go_aload_n (pc := 13) dX5_byteAt_13 rfl rfl ?_
      refine go_getR (pc := 14) dX5_byteAt_14 fl_X5_18 H (fun v3 H => ?_)
      refine go_iload_n (pc := 17) dX5_byteAt_17 rfl rfl ?_
      refine go_baload (pc := 18) dX5_byteAt_18 H (fun v4 H => ?_)
      refine go_sipush (pc := 19) (v := 255) dX5_byteAt_19 (by decide) ?_
      refine go_iand (pc := 22) dX5_byteAt_22 ?_
      refine go_goto (pc := 23) (tgt := 27) dX5_byteAt_23 (by decide) ?_
      exact go_iret (pc := 27) dX5_byteAt_27 rfl ⟨Nat.le_of_ble_eq_true rfl, Nat.le_of_ble_eq_true rfl⟩ H

def M_X5_sortOf : MD := (yX5_sortOf, cX5_sortOf, 1, (some .int), 0, 0, 0, 0)
theorem cs_X5_sortOf : CSo M_X5_sortOf 1 := ⟨⟨wd_537, wd_113, ⟨by decide, by decide⟩, by decide +kernel⟩, wd_536⟩
def X5_sortOf_B28 (a0 : Int32) (h : Hp) : Option (Int32 × Hp) :=
  if a0 = 59 then (
    some (3, h))
  else (
    some (4, h))
theorem X5_sortOf_B28_ok {hh h' : Hp} {r : Int32}  (a0 : Int32) (h : Hp) (H : X5_sortOf_B28 a0 h = some (r, h')) : Go (PM M_X5_sortOf hh (some (.int r)) h') M_X5_sortOf 28 [some (.int a0)] [] h 0 0 := by
  unfold X5_sortOf_B28 at H
  refine go_iload_n (pc := 28) dX5_sortOf_28 rfl rfl ?_
  refine go_bipush (pc := 29) (v := 59) dX5_sortOf_29 (by decide) ?_
  refine go_icmp_ne (pc := 31) (tgt := 38) dX5_sortOf_31 (by decide) H (fun H => ?_) (fun H => ?_)
  · refine go_iconst (pc := 38) (v := 4) dX5_sortOf_38 (by decide) ?_
    exact go_iret (pc := 39) dX5_sortOf_39 rfl ⟨Nat.le_of_ble_eq_true rfl, Nat.le_of_ble_eq_true rfl⟩ H
  · refine go_iconst (pc := 34) (v := 3) dX5_sortOf_34 (by decide) ?_
    refine go_goto (pc := 35) (tgt := 39) dX5_sortOf_35 (by decide) ?_
    exact go_iret (pc := 39) dX5_sortOf_39 rfl ⟨Nat.le_of_ble_eq_true rfl, Nat.le_of_ble_eq_true rfl⟩ H

def X5_sortOf_B14 (a0 : Int32) (h : Hp) : Option (Int32 × Hp) :=
  if a0 < 48 then (
    X5_sortOf_B28 a0 h)
  else (
    if 57 < a0 then (
      X5_sortOf_B28 a0 h)
    else (
      some (2, h)))
theorem X5_sortOf_B14_ok {hh h' : Hp} {r : Int32}  (a0 : Int32) (h : Hp) (H : X5_sortOf_B14 a0 h = some (r, h')) : Go (PM M_X5_sortOf hh (some (.int r)) h') M_X5_sortOf 14 [some (.int a0)] [] h 0 0 := by
  unfold X5_sortOf_B14 at H
  refine go_iload_n (pc := 14) dX5_sortOf_14 rfl rfl ?_
  refine go_bipush (pc := 15) (v := 48) dX5_sortOf_15 (by decide) ?_
  refine go_icmp_lt (pc := 17) (tgt := 28) dX5_sortOf_17 (by decide) H (fun H => ?_) (fun H => ?_)
  · exact Go.weak (L' := [some (.int a0)]) ⟨rfl, trivial⟩ (X5_sortOf_B28_ok a0 h H)
  · refine go_iload_n (pc := 20) dX5_sortOf_20 rfl rfl ?_
    refine go_bipush (pc := 21) (v := 57) dX5_sortOf_21 (by decide) ?_
    refine go_icmp_gt (pc := 23) (tgt := 28) dX5_sortOf_23 (by decide) H (fun H => ?_) (fun H => ?_)
    · exact Go.weak (L' := [some (.int a0)]) ⟨rfl, trivial⟩ (X5_sortOf_B28_ok a0 h H)
    · refine go_iconst (pc := 26) (v := 2) dX5_sortOf_26 (by decide) ?_
      exact go_iret (pc := 27) dX5_sortOf_27 rfl ⟨Nat.le_of_ble_eq_true rfl, Nat.le_of_ble_eq_true rfl⟩ H

def X5_sortOf (a0 : Int32) (h : Hp) : Option (Int32 × Hp) :=
  if a0 < 97 then (
    X5_sortOf_B14 a0 h)
  else (
    if 122 < a0 then (
      X5_sortOf_B14 a0 h)
    else (
      some (1, h)))
theorem X5_sortOf_ok {a0 : Int32} {h h' : Hp} {r : Int32} (H : X5_sortOf a0 h = some (r, h')) : Con M_X5_sortOf [.int a0] h (some (.int r)) h' := by
  refine con_of_go (by decide) 0 (L := [some (.int a0)]) rfl (Nat.le_of_ble_eq_true rfl) ?_
  unfold X5_sortOf at H
  refine go_iload_n (pc := 0) dX5_sortOf_0 rfl rfl ?_
  refine go_bipush (pc := 1) (v := 97) dX5_sortOf_1 (by decide) ?_
  refine go_icmp_lt (pc := 3) (tgt := 14) dX5_sortOf_3 (by decide) H (fun H => ?_) (fun H => ?_)
  · exact Go.weak (L' := [some (.int a0)]) ⟨rfl, trivial⟩ (X5_sortOf_B14_ok a0 h H)
  · refine go_iload_n (pc := 6) dX5_sortOf_6 rfl rfl ?_
    refine go_bipush (pc := 7) (v := 122) dX5_sortOf_7 (by decide) ?_
    refine go_icmp_gt (pc := 9) (tgt := 14) dX5_sortOf_9 (by decide) H (fun H => ?_) (fun H => ?_)
    · exact Go.weak (L' := [some (.int a0)]) ⟨rfl, trivial⟩ (X5_sortOf_B14_ok a0 h H)
    · refine go_iconst (pc := 12) (v := 1) dX5_sortOf_12 (by decide) ?_
      exact go_iret (pc := 13) dX5_sortOf_13 rfl ⟨Nat.le_of_ble_eq_true rfl, Nat.le_of_ble_eq_true rfl⟩ H

def M_X5_readToken : MD := (yX5_readToken, cX5_readToken, 3, none, 1, 21, 0, 0)
theorem cv_X5_readToken : CVo M_X5_readToken 0 5 := ⟨⟨wd_530, wd_113, ⟨by decide, by decide⟩, by decide +kernel⟩, wd_529, wd_3, _, rfl, rfl⟩
def X5_readToken_B223 (a0 : Nat) (s0 : Int32) (h : Hp) : Option (Hp) :=
  (gI h a0 5 5).bind fun v801 =>
  (gI h a0 5 7).bind fun v802 =>
  if (v801 - v802) ≤ s0 then (
    some h)
  else (
    (pF h a0 5 6 (.int 4)).bind fun h803 =>
    some h803)
theorem X5_readToken_B223_ok {hh h' : Hp}  (a0 : Nat) (s0 : Int32) (h : Hp) (H : X5_readToken_B223 a0 s0 h = some h') : Go (PM M_X5_readToken hh none h') M_X5_readToken 223 [some (.ref a0), none, none] [.int s0] h 0 0 := by
  unfold X5_readToken_B223 at H
  refine go_istore_n (pc := 223) (L' := [some (.ref a0), none, some (.int s0)]) dX5_readToken_223 rfl (Nat.le_of_ble_eq_true rfl) rfl ?_
  refine go_aload_n (pc := 224) dX5_readToken_224 rfl rfl ?_
  refine go_getI (pc := 225) dX5_readToken_225 fl_X5_35 H (fun v801 H => ?_)
  refine go_aload_n (pc := 228) dX5_readToken_228 rfl rfl ?_
  refine go_getI (pc := 229) dX5_readToken_229 fl_X5_243 H (fun v802 H => ?_)
  refine go_isub (pc := 232) dX5_readToken_232 ?_
  refine go_iload_n (pc := 233) dX5_readToken_233 rfl rfl ?_
  refine go_icmp_le (pc := 234) (tgt := 242) dX5_readToken_234 (by decide) H (fun H => ?_) (fun H => ?_)
  · exact go_vret (pc := 242) dX5_readToken_242 rfl ⟨Nat.le_of_ble_eq_true rfl, Nat.le_of_ble_eq_true rfl⟩ H
  · refine go_aload_n (pc := 237) dX5_readToken_237 rfl rfl ?_
    refine go_iconst (pc := 238) (v := 4) dX5_readToken_238 (by decide) ?_
    refine go_putI (pc := 239) dX5_readToken_239 fs_X5_73 H (fun h803 H => ?_)
    exact go_vret (pc := 242) dX5_readToken_242 rfl ⟨Nat.le_of_ble_eq_true rfl, Nat.le_of_ble_eq_true rfl⟩ H

def X5_readToken_B197 (a0 : Nat) (h : Hp) : Option (Hp) :=
  (gI h a0 5 6).bind fun v701 =>
  if v701 = 1 then (
    X5_readToken_B223 a0 8 h)
  else (
    (gI h a0 5 6).bind fun v702 =>
    if v702 = 2 then (
      X5_readToken_B223 a0 3 h)
    else (
      X5_readToken_B223 a0 1 h))
theorem X5_readToken_B197_ok {hh h' : Hp}  (a0 : Nat) (h : Hp) (H : X5_readToken_B197 a0 h = some h') : Go (PM M_X5_readToken hh none h') M_X5_readToken 197 [some (.ref a0), none, none] [] h 0 0 := by
  unfold X5_readToken_B197 at H
  refine go_aload_n (pc := 197) dX5_readToken_197 rfl rfl ?_
  refine go_getI (pc := 198) dX5_readToken_198 fl_X5_73 H (fun v701 H => ?_)
  refine go_iconst (pc := 201) (v := 1) dX5_readToken_201 (by decide) ?_
  refine go_icmp_ne (pc := 202) (tgt := 210) dX5_readToken_202 (by decide) H (fun H => ?_) (fun H => ?_)
  · refine go_aload_n (pc := 210) dX5_readToken_210 rfl rfl ?_
    refine go_getI (pc := 211) dX5_readToken_211 fl_X5_73 H (fun v702 H => ?_)
    refine go_iconst (pc := 214) (v := 2) dX5_readToken_214 (by decide) ?_
    refine go_icmp_ne (pc := 215) (tgt := 222) dX5_readToken_215 (by decide) H (fun H => ?_) (fun H => ?_)
    · refine go_iconst (pc := 222) (v := 1) dX5_readToken_222 (by decide) ?_
      exact Go.weak (L' := [some (.ref a0), none, none]) ⟨rfl, trivial⟩ (X5_readToken_B223_ok a0 1 h H)
    · refine go_iconst (pc := 218) (v := 3) dX5_readToken_218 (by decide) ?_
      refine go_goto (pc := 219) (tgt := 223) dX5_readToken_219 (by decide) ?_
      exact Go.weak (L' := [some (.ref a0), none, none]) ⟨rfl, trivial⟩ (X5_readToken_B223_ok a0 3 h H)
  · refine go_bipush (pc := 205) (v := 8) dX5_readToken_205 (by decide) ?_
    refine go_goto (pc := 207) (tgt := 223) dX5_readToken_207 (by decide) ?_
    exact Go.weak (L' := [some (.ref a0), none, none]) ⟨rfl, trivial⟩ (X5_readToken_B223_ok a0 8 h H)

def X5_readToken_B146 (rc111 : Nat → Int32 → Int32 → Hp → Option (Hp)) (a0 : Nat) (a1 : Int32) (a2 : Int32) (h : Hp) : Option (Hp) :=
  (gJ h a0 5 8).bind fun v901 =>
  cV h a0 5 (X5_byteAt a0 a2 h) fun v903 h902 =>
  (pF h902 a0 5 8 (.long ((v901 <<< (Int32.toInt64 8 &&& 63)) ||| (Int32.toInt64 v903)))).bind fun h904 =>
  (gI h904 a0 5 9).bind fun v905 =>
  cV h904 a0 5 (X5_byteAt a0 a2 h904) fun v907 h906 =>
  (pF h906 a0 5 9 (.int (((10 * v905) + v907) - 48))).bind fun h908 =>
  (pF h908 a0 5 5 (.int (a2 + 1))).bind fun h909 =>
  rc111 a0 a1 (a2 + 1) h909
theorem X5_readToken_B146_ok {hh h' : Hp}  (rc111 : Nat → Int32 → Int32 → Hp → Option (Hp)) (hrc111 : ∀ (a0 : Nat) (a1 : Int32) (a2 : Int32) (h : Hp), rc111 a0 a1 a2 h = some h' → Go (PM M_X5_readToken hh none h') M_X5_readToken 111 [some (.ref a0), some (.int a1), some (.int a2)] [] h 0 0) (a0 : Nat) (a1 : Int32) (a2 : Int32) (h : Hp) (H : X5_readToken_B146 rc111 a0 a1 a2 h = some h') : Go (PM M_X5_readToken hh none h') M_X5_readToken 146 [some (.ref a0), some (.int a1), some (.int a2)] [] h 0 0 := by
  unfold X5_readToken_B146 at H
  refine go_aload_n (pc := 146) dX5_readToken_146 rfl rfl ?_
  refine go_aload_n (pc := 147) dX5_readToken_147 rfl rfl ?_
  refine go_getJ (pc := 148) dX5_readToken_148 fl_X5_173 H (fun v901 H => ?_)
  refine go_bipush (pc := 151) (v := 8) dX5_readToken_151 (by decide) ?_
  refine go_lshl (pc := 153) dX5_readToken_153 ?_
  refine go_aload_n (pc := 154) dX5_readToken_154 rfl rfl ?_
  refine go_iload_n (pc := 155) dX5_readToken_155 rfl rfl ?_
  refine go_cVi (pc := 156) (Mz := M_X5_byteAt) (as := [.int a2]) (a := a0) (st := [.long (v901 <<< (Int32.toInt64 8 &&& 63)), .ref a0]) dX5_readToken_156 wd_531 cv_X5_byteAt X5_byteAt_ok rfl rfl ⟨Nat.le_of_ble_eq_true rfl, Nat.le_of_ble_eq_true rfl⟩ (Nat.le_of_ble_eq_true rfl) ⟨rfl, rfl⟩ ⟨Nat.le_of_ble_eq_true rfl, Nat.le_of_ble_eq_true rfl⟩ H (fun v903 h902 H => ?_)
  refine go_i2l (pc := 159) dX5_readToken_159 ?_
  refine go_lor (pc := 160) dX5_readToken_160 ?_
  refine go_putJ (pc := 161) dX5_readToken_161 fs_X5_173 H (fun h904 H => ?_)
  refine go_aload_n (pc := 164) dX5_readToken_164 rfl rfl ?_
  refine go_bipush (pc := 165) (v := 10) dX5_readToken_165 (by decide) ?_
  refine go_aload_n (pc := 167) dX5_readToken_167 rfl rfl ?_
  refine go_getI (pc := 168) dX5_readToken_168 fl_X5_153 H (fun v905 H => ?_)
  refine go_imul (pc := 171) dX5_readToken_171 ?_
  refine go_aload_n (pc := 172) dX5_readToken_172 rfl rfl ?_
  refine go_iload_n (pc := 173) dX5_readToken_173 rfl rfl ?_
  refine go_cVi (pc := 174) (Mz := M_X5_byteAt) (as := [.int a2]) (a := a0) (st := [.int (10 * v905), .ref a0]) dX5_readToken_174 wd_531 cv_X5_byteAt X5_byteAt_ok rfl rfl ⟨Nat.le_of_ble_eq_true rfl, Nat.le_of_ble_eq_true rfl⟩ (Nat.le_of_ble_eq_true rfl) ⟨rfl, rfl⟩ ⟨Nat.le_of_ble_eq_true rfl, Nat.le_of_ble_eq_true rfl⟩ H (fun v907 h906 H => ?_)
  refine go_iadd (pc := 177) dX5_readToken_177 ?_
  refine go_bipush (pc := 178) (v := 48) dX5_readToken_178 (by decide) ?_
  refine go_isub (pc := 180) dX5_readToken_180 ?_
  refine go_putI (pc := 181) dX5_readToken_181 fs_X5_153 H (fun h908 H => ?_)
  refine go_aload_n (pc := 184) dX5_readToken_184 rfl rfl ?_
  refine go_iload_n (pc := 185) dX5_readToken_185 rfl rfl ?_
  refine go_iconst (pc := 186) (v := 1) dX5_readToken_186 (by decide) ?_
  refine go_iadd (pc := 187) dX5_readToken_187 ?_
  refine go_putI (pc := 188) dX5_readToken_188 fs_X5_35 H (fun h909 H => ?_)
  refine go_iinc (pc := 191) (v := a2 + 1) (L' := [some (.ref a0), some (.int a1), some (.int (a2 + 1))]) dX5_readToken_191 rfl rfl (Nat.le_of_ble_eq_true rfl) rfl ?_
  refine go_goto (pc := 194) (tgt := 111) dX5_readToken_194 (by decide) ?_
  exact Go.weak (L' := [some (.ref a0), some (.int a1), some (.int (a2 + 1))]) ⟨rfl, ⟨rfl, ⟨rfl, trivial⟩⟩⟩ (hrc111 a0 a1 (a2 + 1) h909 H)

def X5_readToken_L111_s (rc111 : Nat → Int32 → Int32 → Hp → Option (Hp)) (a0 : Nat) (a1 : Int32) (a2 : Int32) (h : Hp) : Option (Hp) :=
  (gI h a0 5 4).bind fun v601 =>
  if v601 ≤ a2 then (
    X5_readToken_B197 a0 h)
  else (
    (gI h a0 5 7).bind fun v602 =>
    if a2 = v602 then (
      X5_readToken_B146 rc111 a0 a1 a2 h)
    else (
      if a1 = 0 then (
        X5_readToken_B197 a0 h)
      else (
        cV h a0 5 (X5_byteAt a0 a2 h) fun v604 h603 =>
        bd (X5_sortOf v604 h603) fun v606 h605 =>
        (gI h605 a0 5 6).bind fun v607 =>
        if v606 = v607 then (
          X5_readToken_B146 rc111 a0 a1 a2 h605)
        else (
          X5_readToken_B197 a0 h605))))
def X5_readToken_L111 (q : Nat) : Nat → Int32 → Int32 → Hp → Option (Hp) := loopN (fun _ _ _ _ => none) (X5_readToken_L111_s) q
theorem X5_readToken_L111_ok {hh h' : Hp}  : ∀ (q : Nat) (a0 : Nat) (a1 : Int32) (a2 : Int32) (h : Hp), X5_readToken_L111 q a0 a1 a2 h = some h' → Go (PM M_X5_readToken hh none h') M_X5_readToken 111 [some (.ref a0), some (.int a1), some (.int a2)] [] h 0 0 := by
  intro q
  induction q with
  | zero => intro a0 a1 a2 h H; cases H
  | succ q hrc111 =>
    intro a0 a1 a2 h H
    replace H : X5_readToken_L111_s (X5_readToken_L111 q) a0 a1 a2 h = some h' := H
    unfold X5_readToken_L111_s at H
    refine go_iload_n (pc := 111) dX5_readToken_111 rfl rfl ?_
    refine go_aload_n (pc := 112) dX5_readToken_112 rfl rfl ?_
    refine go_getI (pc := 113) dX5_readToken_113 fl_X5_31 H (fun v601 H => ?_)
    refine go_icmp_ge (pc := 116) (tgt := 197) dX5_readToken_116 (by decide) H (fun H => ?_) (fun H => ?_)
    · exact Go.weak (L' := [some (.ref a0), none, none]) ⟨rfl, trivial⟩ (X5_readToken_B197_ok a0 h H)
    · refine go_iload_n (pc := 119) dX5_readToken_119 rfl rfl ?_
      refine go_aload_n (pc := 120) dX5_readToken_120 rfl rfl ?_
      refine go_getI (pc := 121) dX5_readToken_121 fl_X5_243 H (fun v602 H => ?_)
      refine go_icmp_eq (pc := 124) (tgt := 146) dX5_readToken_124 (by decide) H (fun H => ?_) (fun H => ?_)
      · exact Go.weak (L' := [some (.ref a0), some (.int a1), some (.int a2)]) ⟨rfl, ⟨rfl, ⟨rfl, trivial⟩⟩⟩ (X5_readToken_B146_ok _ hrc111 a0 a1 a2 h H)
      · refine go_iload_n (pc := 127) dX5_readToken_127 rfl rfl ?_
        refine go_if_eq (pc := 128) (tgt := 197) dX5_readToken_128 (by decide) H (fun H => ?_) (fun H => ?_)
        · exact Go.weak (L' := [some (.ref a0), none, none]) ⟨rfl, trivial⟩ (X5_readToken_B197_ok a0 h H)
        · refine go_aload_n (pc := 131) dX5_readToken_131 rfl rfl ?_
          refine go_iload_n (pc := 132) dX5_readToken_132 rfl rfl ?_
          refine go_cVi (pc := 133) (Mz := M_X5_byteAt) (as := [.int a2]) (a := a0) (st := []) dX5_readToken_133 wd_531 cv_X5_byteAt X5_byteAt_ok rfl rfl ⟨Nat.le_of_ble_eq_true rfl, Nat.le_of_ble_eq_true rfl⟩ (Nat.le_of_ble_eq_true rfl) ⟨rfl, rfl⟩ ⟨Nat.le_of_ble_eq_true rfl, Nat.le_of_ble_eq_true rfl⟩ H (fun v604 h603 H => ?_)
          refine go_cSi (pc := 136) (Mz := M_X5_sortOf) (as := [.int v604]) (st := []) dX5_readToken_136 wd_535 cs_X5_sortOf X5_sortOf_ok rfl rfl ⟨Nat.le_of_ble_eq_true rfl, Nat.le_of_ble_eq_true rfl⟩ (Nat.le_of_ble_eq_true rfl) ⟨rfl, rfl⟩ ⟨Nat.le_of_ble_eq_true rfl, Nat.le_of_ble_eq_true rfl⟩ H (fun v606 h605 H => ?_)
          refine go_aload_n (pc := 139) dX5_readToken_139 rfl rfl ?_
          refine go_getI (pc := 140) dX5_readToken_140 fl_X5_73 H (fun v607 H => ?_)
          refine go_icmp_ne (pc := 143) (tgt := 197) dX5_readToken_143 (by decide) H (fun H => ?_) (fun H => ?_)
          · exact Go.weak (L' := [some (.ref a0), none, none]) ⟨rfl, trivial⟩ (X5_readToken_B197_ok a0 h605 H)
          · exact Go.weak (L' := [some (.ref a0), some (.int a1), some (.int a2)]) ⟨rfl, ⟨rfl, ⟨rfl, trivial⟩⟩⟩ (X5_readToken_B146_ok _ hrc111 a0 a1 a2 h605 H)

def X5_readToken_B105 (a0 : Nat) (s0 : Int32) (h : Hp) : Option (Hp) :=
  (gI h a0 5 7).bind fun v501 =>
  X5_readToken_L111 5000 a0 s0 v501 h
theorem X5_readToken_B105_ok {hh h' : Hp}  (a0 : Nat) (s0 : Int32) (h : Hp) (H : X5_readToken_B105 a0 s0 h = some h') : Go (PM M_X5_readToken hh none h') M_X5_readToken 105 [some (.ref a0), none, none] [.int s0] h 0 0 := by
  unfold X5_readToken_B105 at H
  refine go_istore_n (pc := 105) (L' := [some (.ref a0), some (.int s0), none]) dX5_readToken_105 rfl (Nat.le_of_ble_eq_true rfl) rfl ?_
  refine go_aload_n (pc := 106) dX5_readToken_106 rfl rfl ?_
  refine go_getI (pc := 107) dX5_readToken_107 fl_X5_243 H (fun v501 H => ?_)
  refine go_istore_n (pc := 110) (L' := [some (.ref a0), some (.int s0), some (.int v501)]) dX5_readToken_110 rfl (Nat.le_of_ble_eq_true rfl) rfl ?_
  exact Go.weak (L' := [some (.ref a0), some (.int s0), some (.int v501)]) ⟨rfl, ⟨rfl, ⟨rfl, trivial⟩⟩⟩ (X5_readToken_L111_ok 5000 a0 s0 v501 h H)

def X5_readToken_B100 (a0 : Nat) (h : Hp) : Option (Hp) :=
  X5_readToken_B105 a0 1 h
theorem X5_readToken_B100_ok {hh h' : Hp}  (a0 : Nat) (h : Hp) (H : X5_readToken_B100 a0 h = some h') : Go (PM M_X5_readToken hh none h') M_X5_readToken 100 [some (.ref a0), none, none] [] h 0 0 := by
  unfold X5_readToken_B100 at H
  refine go_iconst (pc := 100) (v := 1) dX5_readToken_100 (by decide) ?_
  refine go_goto (pc := 101) (tgt := 105) dX5_readToken_101 (by decide) ?_
  exact Go.weak (L' := [some (.ref a0), none, none]) ⟨rfl, trivial⟩ (X5_readToken_B105_ok a0 1 h H)

def X5_readToken_B71 (a0 : Nat) (s0 : Nat) (s1 : Int32) (h : Hp) : Option (Hp) :=
  (pF h s0 5 6 (.int s1)).bind fun h301 =>
  (pF h301 a0 5 8 (.long 0)).bind fun h302 =>
  (pF h302 a0 5 9 (.int 0)).bind fun h303 =>
  (gI h303 a0 5 6).bind fun v304 =>
  if v304 = 1 then (
    X5_readToken_B100 a0 h303)
  else (
    (gI h303 a0 5 6).bind fun v305 =>
    if v305 = 2 then (
      X5_readToken_B100 a0 h303)
    else (
      X5_readToken_B105 a0 0 h303))
theorem X5_readToken_B71_ok {hh h' : Hp}  (a0 : Nat) (s0 : Nat) (s1 : Int32) (h : Hp) (H : X5_readToken_B71 a0 s0 s1 h = some h') : Go (PM M_X5_readToken hh none h') M_X5_readToken 71 [some (.ref a0), none, none] [.int s1, .ref s0] h 0 0 := by
  unfold X5_readToken_B71 at H
  refine go_putI (pc := 71) dX5_readToken_71 fs_X5_73 H (fun h301 H => ?_)
  refine go_aload_n (pc := 74) dX5_readToken_74 rfl rfl ?_
  refine go_lconst (pc := 75) (v := 0) dX5_readToken_75 (by decide) ?_
  refine go_putJ (pc := 76) dX5_readToken_76 fs_X5_173 H (fun h302 H => ?_)
  refine go_aload_n (pc := 79) dX5_readToken_79 rfl rfl ?_
  refine go_iconst (pc := 80) (v := 0) dX5_readToken_80 (by decide) ?_
  refine go_putI (pc := 81) dX5_readToken_81 fs_X5_153 H (fun h303 H => ?_)
  refine go_aload_n (pc := 84) dX5_readToken_84 rfl rfl ?_
  refine go_getI (pc := 85) dX5_readToken_85 fl_X5_73 H (fun v304 H => ?_)
  refine go_iconst (pc := 88) (v := 1) dX5_readToken_88 (by decide) ?_
  refine go_icmp_eq (pc := 89) (tgt := 100) dX5_readToken_89 (by decide) H (fun H => ?_) (fun H => ?_)
  · exact Go.weak (L' := [some (.ref a0), none, none]) ⟨rfl, trivial⟩ (X5_readToken_B100_ok a0 h303 H)
  · refine go_aload_n (pc := 92) dX5_readToken_92 rfl rfl ?_
    refine go_getI (pc := 93) dX5_readToken_93 fl_X5_73 H (fun v305 H => ?_)
    refine go_iconst (pc := 96) (v := 2) dX5_readToken_96 (by decide) ?_
    refine go_icmp_ne (pc := 97) (tgt := 104) dX5_readToken_97 (by decide) H (fun H => ?_) (fun H => ?_)
    · refine go_iconst (pc := 104) (v := 0) dX5_readToken_104 (by decide) ?_
      exact Go.weak (L' := [some (.ref a0), none, none]) ⟨rfl, trivial⟩ (X5_readToken_B105_ok a0 0 h303 H)
    · exact Go.weak (L' := [some (.ref a0), none, none]) ⟨rfl, trivial⟩ (X5_readToken_B100_ok a0 h303 H)

def X5_readToken_B36 (a0 : Nat) (h : Hp) : Option (Hp) :=
  (gI h a0 5 5).bind fun v201 =>
  (pF h a0 5 7 (.int v201)).bind fun h202 =>
  (gI h202 a0 5 7).bind fun v203 =>
  (gI h202 a0 5 4).bind fun v204 =>
  if v204 ≤ v203 then (
    X5_readToken_B71 a0 a0 0 h202)
  else (
    (gI h202 a0 5 7).bind fun v205 =>
    cV h202 a0 5 (X5_byteAt a0 v205 h202) fun v207 h206 =>
    bd (X5_sortOf v207 h206) fun v209 h208 =>
    X5_readToken_B71 a0 a0 v209 h208)
theorem X5_readToken_B36_ok {hh h' : Hp}  (a0 : Nat) (h : Hp) (H : X5_readToken_B36 a0 h = some h') : Go (PM M_X5_readToken hh none h') M_X5_readToken 36 [some (.ref a0), none, none] [] h 0 0 := by
  unfold X5_readToken_B36 at H
  refine go_aload_n (pc := 36) dX5_readToken_36 rfl rfl ?_
  refine go_aload_n (pc := 37) dX5_readToken_37 rfl rfl ?_
  refine go_getI (pc := 38) dX5_readToken_38 fl_X5_35 H (fun v201 H => ?_)
  refine go_putI (pc := 41) dX5_readToken_41 fs_X5_243 H (fun h202 H => ?_)
  refine go_aload_n (pc := 44) dX5_readToken_44 rfl rfl ?_
  refine go_aload_n (pc := 45) dX5_readToken_45 rfl rfl ?_
  refine go_getI (pc := 46) dX5_readToken_46 fl_X5_243 H (fun v203 H => ?_)
  refine go_aload_n (pc := 49) dX5_readToken_49 rfl rfl ?_
  refine go_getI (pc := 50) dX5_readToken_50 fl_X5_31 H (fun v204 H => ?_)
  refine go_icmp_ge (pc := 53) (tgt := 70) dX5_readToken_53 (by decide) H (fun H => ?_) (fun H => ?_)
  · refine go_iconst (pc := 70) (v := 0) dX5_readToken_70 (by decide) ?_
    exact Go.weak (L' := [some (.ref a0), none, none]) ⟨rfl, trivial⟩ (X5_readToken_B71_ok a0 a0 0 h202 H)
  · refine go_aload_n (pc := 56) dX5_readToken_56 rfl rfl ?_
    refine go_aload_n (pc := 57) dX5_readToken_57 rfl rfl ?_
    refine go_getI (pc := 58) dX5_readToken_58 fl_X5_243 H (fun v205 H => ?_)
    refine go_cVi (pc := 61) (Mz := M_X5_byteAt) (as := [.int v205]) (a := a0) (st := [.ref a0]) dX5_readToken_61 wd_531 cv_X5_byteAt X5_byteAt_ok rfl rfl ⟨Nat.le_of_ble_eq_true rfl, Nat.le_of_ble_eq_true rfl⟩ (Nat.le_of_ble_eq_true rfl) ⟨rfl, rfl⟩ ⟨Nat.le_of_ble_eq_true rfl, Nat.le_of_ble_eq_true rfl⟩ H (fun v207 h206 H => ?_)
    refine go_cSi (pc := 64) (Mz := M_X5_sortOf) (as := [.int v207]) (st := [.ref a0]) dX5_readToken_64 wd_535 cs_X5_sortOf X5_sortOf_ok rfl rfl ⟨Nat.le_of_ble_eq_true rfl, Nat.le_of_ble_eq_true rfl⟩ (Nat.le_of_ble_eq_true rfl) ⟨rfl, rfl⟩ ⟨Nat.le_of_ble_eq_true rfl, Nat.le_of_ble_eq_true rfl⟩ H (fun v209 h208 H => ?_)
    refine go_goto (pc := 67) (tgt := 71) dX5_readToken_67 (by decide) ?_
    exact Go.weak (L' := [some (.ref a0), none, none]) ⟨rfl, trivial⟩ (X5_readToken_B71_ok a0 a0 v209 h208 H)

def X5_readToken_L5_s (rc5 : Nat → Int32 → Hp → Option (Hp)) (a0 : Nat) (a1 : Int32) (h : Hp) : Option (Hp) :=
  (gI h a0 5 4).bind fun v101 =>
  if v101 ≤ a1 then (
    X5_readToken_B36 a0 h)
  else (
    cV h a0 5 (X5_byteAt a0 a1 h) fun v103 h102 =>
    if v103 = 32 then (
      (pF h102 a0 5 5 (.int (a1 + 1))).bind fun h104 =>
      rc5 a0 (a1 + 1) h104)
    else (
      X5_readToken_B36 a0 h102))
def X5_readToken_L5 (q : Nat) : Nat → Int32 → Hp → Option (Hp) := loopN (fun _ _ _ => none) (X5_readToken_L5_s) q
theorem X5_readToken_L5_ok {hh h' : Hp}  : ∀ (q : Nat) (a0 : Nat) (a1 : Int32) (h : Hp), X5_readToken_L5 q a0 a1 h = some h' → Go (PM M_X5_readToken hh none h') M_X5_readToken 5 [some (.ref a0), some (.int a1), none] [] h 0 0 := by
  intro q
  induction q with
  | zero => intro a0 a1 h H; cases H
  | succ q hrc5 =>
    intro a0 a1 h H
    replace H : X5_readToken_L5_s (X5_readToken_L5 q) a0 a1 h = some h' := H
    unfold X5_readToken_L5_s at H
    refine go_iload_n (pc := 5) dX5_readToken_5 rfl rfl ?_
    refine go_aload_n (pc := 6) dX5_readToken_6 rfl rfl ?_
    refine go_getI (pc := 7) dX5_readToken_7 fl_X5_31 H (fun v101 H => ?_)
    refine go_icmp_ge (pc := 10) (tgt := 36) dX5_readToken_10 (by decide) H (fun H => ?_) (fun H => ?_)
    · exact Go.weak (L' := [some (.ref a0), none, none]) ⟨rfl, trivial⟩ (X5_readToken_B36_ok a0 h H)
    · refine go_aload_n (pc := 13) dX5_readToken_13 rfl rfl ?_
      refine go_iload_n (pc := 14) dX5_readToken_14 rfl rfl ?_
      refine go_cVi (pc := 15) (Mz := M_X5_byteAt) (as := [.int a1]) (a := a0) (st := []) dX5_readToken_15 wd_531 cv_X5_byteAt X5_byteAt_ok rfl rfl ⟨Nat.le_of_ble_eq_true rfl, Nat.le_of_ble_eq_true rfl⟩ (Nat.le_of_ble_eq_true rfl) ⟨rfl, rfl⟩ ⟨Nat.le_of_ble_eq_true rfl, Nat.le_of_ble_eq_true rfl⟩ H (fun v103 h102 H => ?_)
      refine go_bipush (pc := 18) (v := 32) dX5_readToken_18 (by decide) ?_
      refine go_icmp_ne (pc := 20) (tgt := 36) dX5_readToken_20 (by decide) H (fun H => ?_) (fun H => ?_)
      · exact Go.weak (L' := [some (.ref a0), none, none]) ⟨rfl, trivial⟩ (X5_readToken_B36_ok a0 h102 H)
      · refine go_aload_n (pc := 23) dX5_readToken_23 rfl rfl ?_
        refine go_iload_n (pc := 24) dX5_readToken_24 rfl rfl ?_
        refine go_iconst (pc := 25) (v := 1) dX5_readToken_25 (by decide) ?_
        refine go_iadd (pc := 26) dX5_readToken_26 ?_
        refine go_putI (pc := 27) dX5_readToken_27 fs_X5_35 H (fun h104 H => ?_)
        refine go_iinc (pc := 30) (v := a1 + 1) (L' := [some (.ref a0), some (.int (a1 + 1)), none]) dX5_readToken_30 rfl rfl (Nat.le_of_ble_eq_true rfl) rfl ?_
        refine go_goto (pc := 33) (tgt := 5) dX5_readToken_33 (by decide) ?_
        exact Go.weak (L' := [some (.ref a0), some (.int (a1 + 1)), none]) ⟨rfl, ⟨rfl, trivial⟩⟩ (hrc5 a0 (a1 + 1) h104 H)

def X5_readToken (a0 : Nat) (h : Hp) : Option (Hp) :=
  (gI h a0 5 5).bind fun v1 =>
  X5_readToken_L5 5000 a0 v1 h
theorem X5_readToken_ok {a0 : Nat} {h h' : Hp} (H : X5_readToken a0 h = some h') : Con M_X5_readToken [.ref a0] h none h' := by
  refine con_of_go (by decide) 2 (L := [some (.ref a0), none, none]) rfl (Nat.le_of_ble_eq_true rfl) ?_
  unfold X5_readToken at H
  refine go_aload_n (pc := 0) dX5_readToken_0 rfl rfl ?_
  refine go_getI (pc := 1) dX5_readToken_1 fl_X5_35 H (fun v1 H => ?_)
  refine go_istore_n (pc := 4) (L' := [some (.ref a0), some (.int v1), none]) dX5_readToken_4 rfl (Nat.le_of_ble_eq_true rfl) rfl ?_
  exact Go.weak (L' := [some (.ref a0), some (.int v1), none]) ⟨rfl, ⟨rfl, trivial⟩⟩ (X5_readToken_L5_ok 5000 a0 v1 h H)

def M_X5_is : MD := (yX5_is, cX5_is, 5, (some .boolean), 4, 85, 0, 0)
theorem cv_X5_is : CVo M_X5_is 1 5 := ⟨⟨wd_542, wd_113, ⟨by decide, by decide⟩, by decide +kernel⟩, wd_541, wd_5, _, rfl, rfl⟩
def X5_is_L5_s (rc5 : Nat → Nat → Int64 → Int32 → Hp → Option (Int32 × Hp)) (a0 : Nat) (a1 : Nat) (a2 : Int64) (a4 : Int32) (h : Hp) : Option (Int32 × Hp) :=
  (sLen a1).bind fun v101 =>
  if v101 ≤ a4 then (
    (gI h a0 5 6).bind fun v102 =>
    if v102 = 1 then (
      (gJ h a0 5 8).bind fun v103 =>
      if (lg_cmp v103 a2) = 0 then (
        rZ 1 h)
      else (
        rZ 0 h))
    else (
      rZ 0 h))
  else (
    (sAt a1 a4).bind fun v104 =>
    pin ((a2 <<< (Int32.toInt64 8 &&& 63)) ||| (Int32.toInt64 v104)) fun v105 =>
    rc5 a0 a1 v105 (a4 + 1) h)
def X5_is_L5 (q : Nat) : Nat → Nat → Int64 → Int32 → Hp → Option (Int32 × Hp) := loopN (fun _ _ _ _ _ => none) (X5_is_L5_s) q
theorem X5_is_L5_ok {hh h' : Hp} {r : Int32}  : ∀ (q : Nat) (a0 : Nat) (a1 : Nat) (a2 : Int64) (a4 : Int32) (h : Hp), X5_is_L5 q a0 a1 a2 a4 h = some (r, h') → Go (PM M_X5_is hh (some (.int r)) h') M_X5_is 5 [some (.ref a0), some (.retAddr a1), some (.long a2), none, some (.int a4)] [] h 0 0 := by
  intro q
  induction q with
  | zero => intro a0 a1 a2 a4 h H; cases H
  | succ q hrc5 =>
    intro a0 a1 a2 a4 h H
    replace H : X5_is_L5_s (X5_is_L5 q) a0 a1 a2 a4 h = some (r, h') := H
    unfold X5_is_L5_s at H
    refine go_iload (pc := 5) dX5_is_5 rfl ?_
    refine go_aload_nS (pc := 7) dX5_is_7 rfl rfl ?_
    refine go_sLen (pc := 8) dX5_is_8 wd_543 (Nat.le_of_ble_eq_true rfl) ⟨Nat.le_of_ble_eq_true rfl, Nat.le_of_ble_eq_true rfl⟩ ⟨Nat.le_of_ble_eq_true rfl, Nat.le_of_ble_eq_true rfl⟩ H (fun v101 H => ?_)
    refine go_icmp_ge (pc := 11) (tgt := 33) dX5_is_11 (by decide) H (fun H => ?_) (fun H => ?_)
    · refine go_aload_n (pc := 33) dX5_is_33 rfl rfl ?_
      refine go_getI (pc := 34) dX5_is_34 fl_X5_73 H (fun v102 H => ?_)
      refine go_iconst (pc := 37) (v := 1) dX5_is_37 (by decide) ?_
      refine go_icmp_ne (pc := 38) (tgt := 54) dX5_is_38 (by decide) H (fun H => ?_) (fun H => ?_)
      · refine go_iconst (pc := 54) (v := 0) dX5_is_54 (by decide) ?_
        exact go_zret (pc := 55) dX5_is_55 rfl ⟨Nat.le_of_ble_eq_true rfl, Nat.le_of_ble_eq_true rfl⟩ H
      · refine go_aload_n (pc := 41) dX5_is_41 rfl rfl ?_
        refine go_getJ (pc := 42) dX5_is_42 fl_X5_173 H (fun v103 H => ?_)
        refine go_lload_n (pc := 45) dX5_is_45 rfl rfl ?_
        refine go_lcmp (pc := 46) dX5_is_46 ?_
        refine go_if_ne (pc := 47) (tgt := 54) dX5_is_47 (by decide) H (fun H => ?_) (fun H => ?_)
        · refine go_iconst (pc := 54) (v := 0) dX5_is_54 (by decide) ?_
          exact go_zret (pc := 55) dX5_is_55 rfl ⟨Nat.le_of_ble_eq_true rfl, Nat.le_of_ble_eq_true rfl⟩ H
        · refine go_iconst (pc := 50) (v := 1) dX5_is_50 (by decide) ?_
          refine go_goto (pc := 51) (tgt := 55) dX5_is_51 (by decide) ?_
          exact go_zret (pc := 55) dX5_is_55 rfl ⟨Nat.le_of_ble_eq_true rfl, Nat.le_of_ble_eq_true rfl⟩ H
    · refine go_lload_n (pc := 14) dX5_is_14 rfl rfl ?_
      refine go_bipush (pc := 15) (v := 8) dX5_is_15 (by decide) ?_
      refine go_lshl (pc := 17) dX5_is_17 ?_
      refine go_aload_nS (pc := 18) dX5_is_18 rfl rfl ?_
      refine go_iload (pc := 19) dX5_is_19 rfl ?_
      refine go_sAt (pc := 21) dX5_is_21 wd_553 (Nat.le_of_ble_eq_true rfl) ⟨Nat.le_of_ble_eq_true rfl, Nat.le_of_ble_eq_true rfl⟩ ⟨Nat.le_of_ble_eq_true rfl, Nat.le_of_ble_eq_true rfl⟩ H (fun v104 H => ?_)
      refine go_i2l (pc := 24) dX5_is_24 ?_
      refine go_lor (pc := 25) dX5_is_25 ?_
      refine go_pinJ H (fun v105 H => ?_)
      refine go_lstore_n (pc := 26) (L' := [some (.ref a0), some (.retAddr a1), some (.long v105), none, some (.int a4)]) dX5_is_26 rfl (Nat.le_of_ble_eq_true rfl) rfl ?_
      refine go_iinc (pc := 27) (v := a4 + 1) (L' := [some (.ref a0), some (.retAddr a1), some (.long v105), none, some (.int (a4 + 1))]) dX5_is_27 rfl rfl (Nat.le_of_ble_eq_true rfl) rfl ?_
      refine go_goto (pc := 30) (tgt := 5) dX5_is_30 (by decide) ?_
      exact Go.weak (L' := [some (.ref a0), some (.retAddr a1), some (.long v105), none, some (.int (a4 + 1))]) ⟨rfl, ⟨rfl, ⟨rfl, ⟨rfl, trivial⟩⟩⟩⟩ (hrc5 a0 a1 v105 (a4 + 1) h H)

def X5_is (a0 : Nat) (a1 : Nat) (h : Hp) : Option (Int32 × Hp) :=
  X5_is_L5 5000 a0 a1 0 0 h
theorem X5_is_ok {a0 : Nat} {a1 : Nat} {h h' : Hp} {r : Int32} (H : X5_is a0 a1 h = some (r, h')) : Con M_X5_is [.ref a0, .retAddr a1] h (some (.int r)) h' := by
  refine con_of_go (by decide) 3 (L := [some (.ref a0), some (.retAddr a1), none, none, none]) rfl (Nat.le_of_ble_eq_true rfl) ?_
  unfold X5_is at H
  refine go_lconst (pc := 0) (v := 0) dX5_is_0 (by decide) ?_
  refine go_lstore_n (pc := 1) (L' := [some (.ref a0), some (.retAddr a1), some (.long 0), none, none]) dX5_is_1 rfl (Nat.le_of_ble_eq_true rfl) rfl ?_
  refine go_iconst (pc := 2) (v := 0) dX5_is_2 (by decide) ?_
  refine go_istore (pc := 3) (L' := [some (.ref a0), some (.retAddr a1), some (.long 0), none, some (.int 0)]) dX5_is_3 (Nat.le_of_ble_eq_true rfl) rfl ?_
  exact Go.weak (L' := [some (.ref a0), some (.retAddr a1), some (.long 0), none, some (.int 0)]) ⟨rfl, ⟨rfl, ⟨rfl, ⟨rfl, trivial⟩⟩⟩⟩ (X5_is_L5_ok 5000 a0 a1 0 0 h H)

def M_X5_fail : MD := (yX5_fail, cX5_fail, 2, (some .boolean), 0, 0, 0, 0)
theorem cv_X5_fail : CVo M_X5_fail 1 5 := ⟨⟨wd_594, wd_113, ⟨by decide, by decide⟩, by decide +kernel⟩, wd_593, wd_6, _, rfl, rfl⟩
def X5_fail (a0 : Nat) (a1 : Int32) (h : Hp) : Option (Int32 × Hp) :=
  (pF h a0 5 11 (.int a1)).bind fun h1 =>
  (gI h1 a0 5 7).bind fun v2 =>
  (pF h1 a0 5 12 (.int v2)).bind fun h3 =>
  rZ 0 h3
theorem X5_fail_ok {a0 : Nat} {a1 : Int32} {h h' : Hp} {r : Int32} (H : X5_fail a0 a1 h = some (r, h')) : Con M_X5_fail [.ref a0, .int a1] h (some (.int r)) h' := by
  refine con_of_go (by decide) 0 (L := [some (.ref a0), some (.int a1)]) rfl (Nat.le_of_ble_eq_true rfl) ?_
  unfold X5_fail at H
  refine go_aload_n (pc := 0) dX5_fail_0 rfl rfl ?_
  refine go_iload_n (pc := 1) dX5_fail_1 rfl rfl ?_
  refine go_putI (pc := 2) dX5_fail_2 fs_X5_38 H (fun h1 H => ?_)
  refine go_aload_n (pc := 5) dX5_fail_5 rfl rfl ?_
  refine go_aload_n (pc := 6) dX5_fail_6 rfl rfl ?_
  refine go_getI (pc := 7) dX5_fail_7 fl_X5_243 H (fun v2 H => ?_)
  refine go_putI (pc := 10) dX5_fail_10 fs_X5_41 H (fun h3 H => ?_)
  refine go_iconst (pc := 13) (v := 0) dX5_fail_13 (by decide) ?_
  exact go_zret (pc := 14) dX5_fail_14 rfl ⟨Nat.le_of_ble_eq_true rfl, Nat.le_of_ble_eq_true rfl⟩ H

def M_X5_nextIs : MD := (yX5_nextIs, cX5_nextIs, 2, (some .boolean), 5, 109, 0, 0)
theorem cv_X5_nextIs : CVo M_X5_nextIs 1 5 := ⟨⟨wd_603, wd_113, ⟨by decide, by decide⟩, by decide +kernel⟩, wd_602, wd_8, _, rfl, rfl⟩
def X5_nextIs_B20 (h : Hp) : Option (Int32 × Hp) :=
  rZ 1 h
theorem X5_nextIs_B20_ok {hh h' : Hp} {r : Int32}  (h : Hp) (H : X5_nextIs_B20 h = some (r, h')) : Go (PM M_X5_nextIs hh (some (.int r)) h') M_X5_nextIs 20 [none, none] [] h 0 0 := by
  unfold X5_nextIs_B20 at H
  refine go_iconst (pc := 20) (v := 1) dX5_nextIs_20 (by decide) ?_
  refine go_goto (pc := 21) (tgt := 25) dX5_nextIs_21 (by decide) ?_
  exact go_zret (pc := 25) dX5_nextIs_25 rfl ⟨Nat.le_of_ble_eq_true rfl, Nat.le_of_ble_eq_true rfl⟩ H

def X5_nextIs (a0 : Nat) (a1 : Nat) (h : Hp) : Option (Int32 × Hp) :=
  cVv h a0 5 (X5_readToken a0 h) fun h1 =>
  cV h1 a0 5 (X5_is a0 a1 h1) fun v3 h2 =>
  if v3 = 0 then (
    cV h2 a0 5 (X5_fail a0 1 h2) fun v5 h4 =>
    if v5 = 0 then (
      rZ 0 h4)
    else (
      X5_nextIs_B20 h4))
  else (
    X5_nextIs_B20 h2)
theorem X5_nextIs_ok {a0 : Nat} {a1 : Nat} {h h' : Hp} {r : Int32} (H : X5_nextIs a0 a1 h = some (r, h')) : Con M_X5_nextIs [.ref a0, .retAddr a1] h (some (.int r)) h' := by
  refine con_of_go (by decide) 0 (L := [some (.ref a0), some (.retAddr a1)]) rfl (Nat.le_of_ble_eq_true rfl) ?_
  unfold X5_nextIs at H
  refine go_aload_n (pc := 0) dX5_nextIs_0 rfl rfl ?_
  refine go_cVv (pc := 1) (Mz := M_X5_readToken) (as := []) (a := a0) (st := []) dX5_nextIs_1 wd_527 cv_X5_readToken X5_readToken_ok rfl rfl ⟨Nat.le_of_ble_eq_true rfl, Nat.le_of_ble_eq_true rfl⟩ (Nat.le_of_ble_eq_true rfl) ⟨rfl, rfl⟩ ⟨Nat.le_of_ble_eq_true rfl, Nat.le_of_ble_eq_true rfl⟩ H (fun h1 H => ?_)
  refine go_aload_n (pc := 4) dX5_nextIs_4 rfl rfl ?_
  refine go_aload_nS (pc := 5) dX5_nextIs_5 rfl rfl ?_
  refine go_cVi (pc := 6) (Mz := M_X5_is) (as := [.retAddr a1]) (a := a0) (st := []) dX5_nextIs_6 wd_539 cv_X5_is X5_is_ok rfl rfl ⟨Nat.le_of_ble_eq_true rfl, Nat.le_of_ble_eq_true rfl⟩ (Nat.le_of_ble_eq_true rfl) ⟨rfl, rfl⟩ ⟨Nat.le_of_ble_eq_true rfl, Nat.le_of_ble_eq_true rfl⟩ H (fun v3 h2 H => ?_)
  refine go_if_ne (pc := 9) (tgt := 20) dX5_nextIs_9 (by decide) H (fun H => ?_) (fun H => ?_)
  · exact Go.weak (L' := [none, none]) trivial (X5_nextIs_B20_ok h2 H)
  · refine go_aload_n (pc := 12) dX5_nextIs_12 rfl rfl ?_
    refine go_iconst (pc := 13) (v := 1) dX5_nextIs_13 (by decide) ?_
    refine go_cVi (pc := 14) (Mz := M_X5_fail) (as := [.int 1]) (a := a0) (st := []) dX5_nextIs_14 wd_591 cv_X5_fail X5_fail_ok rfl rfl ⟨Nat.le_of_ble_eq_true rfl, Nat.le_of_ble_eq_true rfl⟩ (Nat.le_of_ble_eq_true rfl) ⟨rfl, rfl⟩ ⟨Nat.le_of_ble_eq_true rfl, Nat.le_of_ble_eq_true rfl⟩ H (fun v5 h4 H => ?_)
    refine go_if_eq (pc := 17) (tgt := 24) dX5_nextIs_17 (by decide) H (fun H => ?_) (fun H => ?_)
    · refine go_iconst (pc := 24) (v := 0) dX5_nextIs_24 (by decide) ?_
      exact go_zret (pc := 25) dX5_nextIs_25 rfl ⟨Nat.le_of_ble_eq_true rfl, Nat.le_of_ble_eq_true rfl⟩ H
    · exact Go.weak (L' := [none, none]) trivial (X5_nextIs_B20_ok h4 H)

def M_X5_nextWhole : MD := (yX5_nextWhole, cX5_nextWhole, 3, (some .boolean), 2, 43, 0, 0)
theorem cv_X5_nextWhole : CVo M_X5_nextWhole 2 5 := ⟨⟨wd_607, wd_113, ⟨by decide, by decide⟩, by decide +kernel⟩, wd_606, wd_9, _, rfl, rfl⟩
def X5_nextWhole_B42 (h : Hp) : Option (Int32 × Hp) :=
  rZ 1 h
theorem X5_nextWhole_B42_ok {hh h' : Hp} {r : Int32}  (h : Hp) (H : X5_nextWhole_B42 h = some (r, h')) : Go (PM M_X5_nextWhole hh (some (.int r)) h') M_X5_nextWhole 42 [none, none, none] [] h 0 0 := by
  unfold X5_nextWhole_B42 at H
  refine go_iconst (pc := 42) (v := 1) dX5_nextWhole_42 (by decide) ?_
  refine go_goto (pc := 43) (tgt := 47) dX5_nextWhole_43 (by decide) ?_
  exact go_zret (pc := 47) dX5_nextWhole_47 rfl ⟨Nat.le_of_ble_eq_true rfl, Nat.le_of_ble_eq_true rfl⟩ H

def X5_nextWhole_B34 (a0 : Nat) (h : Hp) : Option (Int32 × Hp) :=
  cV h a0 5 (X5_fail a0 4 h) fun v102 h101 =>
  if v102 = 0 then (
    rZ 0 h101)
  else (
    X5_nextWhole_B42 h101)
theorem X5_nextWhole_B34_ok {hh h' : Hp} {r : Int32}  (a0 : Nat) (h : Hp) (H : X5_nextWhole_B34 a0 h = some (r, h')) : Go (PM M_X5_nextWhole hh (some (.int r)) h') M_X5_nextWhole 34 [some (.ref a0), none, none] [] h 0 0 := by
  unfold X5_nextWhole_B34 at H
  refine go_aload_n (pc := 34) dX5_nextWhole_34 rfl rfl ?_
  refine go_iconst (pc := 35) (v := 4) dX5_nextWhole_35 (by decide) ?_
  refine go_cVi (pc := 36) (Mz := M_X5_fail) (as := [.int 4]) (a := a0) (st := []) dX5_nextWhole_36 wd_591 cv_X5_fail X5_fail_ok rfl rfl ⟨Nat.le_of_ble_eq_true rfl, Nat.le_of_ble_eq_true rfl⟩ (Nat.le_of_ble_eq_true rfl) ⟨rfl, rfl⟩ ⟨Nat.le_of_ble_eq_true rfl, Nat.le_of_ble_eq_true rfl⟩ H (fun v102 h101 H => ?_)
  refine go_if_eq (pc := 39) (tgt := 46) dX5_nextWhole_39 (by decide) H (fun H => ?_) (fun H => ?_)
  · refine go_iconst (pc := 46) (v := 0) dX5_nextWhole_46 (by decide) ?_
    exact go_zret (pc := 47) dX5_nextWhole_47 rfl ⟨Nat.le_of_ble_eq_true rfl, Nat.le_of_ble_eq_true rfl⟩ H
  · exact Go.weak (L' := [none, none, none]) trivial (X5_nextWhole_B42_ok h101 H)

def X5_nextWhole (a0 : Nat) (a1 : Int32) (a2 : Int32) (h : Hp) : Option (Int32 × Hp) :=
  cVv h a0 5 (X5_readToken a0 h) fun h1 =>
  (gI h1 a0 5 6).bind fun v2 =>
  if v2 = 2 then (
    (gI h1 a0 5 9).bind fun v3 =>
    if v3 < a1 then (
      X5_nextWhole_B34 a0 h1)
    else (
      (gI h1 a0 5 9).bind fun v4 =>
      if v4 ≤ a2 then (
        X5_nextWhole_B42 h1)
      else (
        X5_nextWhole_B34 a0 h1)))
  else (
    cV h1 a0 5 (X5_fail a0 1 h1) fun v6 h5 =>
    rZ v6 h5)
theorem X5_nextWhole_ok {a0 : Nat} {a1 : Int32} {a2 : Int32} {h h' : Hp} {r : Int32} (H : X5_nextWhole a0 a1 a2 h = some (r, h')) : Con M_X5_nextWhole [.ref a0, .int a1, .int a2] h (some (.int r)) h' := by
  refine con_of_go (by decide) 0 (L := [some (.ref a0), some (.int a1), some (.int a2)]) rfl (Nat.le_of_ble_eq_true rfl) ?_
  unfold X5_nextWhole at H
  refine go_aload_n (pc := 0) dX5_nextWhole_0 rfl rfl ?_
  refine go_cVv (pc := 1) (Mz := M_X5_readToken) (as := []) (a := a0) (st := []) dX5_nextWhole_1 wd_527 cv_X5_readToken X5_readToken_ok rfl rfl ⟨Nat.le_of_ble_eq_true rfl, Nat.le_of_ble_eq_true rfl⟩ (Nat.le_of_ble_eq_true rfl) ⟨rfl, rfl⟩ ⟨Nat.le_of_ble_eq_true rfl, Nat.le_of_ble_eq_true rfl⟩ H (fun h1 H => ?_)
  refine go_aload_n (pc := 4) dX5_nextWhole_4 rfl rfl ?_
  refine go_getI (pc := 5) dX5_nextWhole_5 fl_X5_73 H (fun v2 H => ?_)
  refine go_iconst (pc := 8) (v := 2) dX5_nextWhole_8 (by decide) ?_
  refine go_icmp_eq (pc := 9) (tgt := 18) dX5_nextWhole_9 (by decide) H (fun H => ?_) (fun H => ?_)
  · refine go_aload_n (pc := 18) dX5_nextWhole_18 rfl rfl ?_
    refine go_getI (pc := 19) dX5_nextWhole_19 fl_X5_153 H (fun v3 H => ?_)
    refine go_iload_n (pc := 22) dX5_nextWhole_22 rfl rfl ?_
    refine go_icmp_lt (pc := 23) (tgt := 34) dX5_nextWhole_23 (by decide) H (fun H => ?_) (fun H => ?_)
    · exact Go.weak (L' := [some (.ref a0), none, none]) ⟨rfl, trivial⟩ (X5_nextWhole_B34_ok a0 h1 H)
    · refine go_aload_n (pc := 26) dX5_nextWhole_26 rfl rfl ?_
      refine go_getI (pc := 27) dX5_nextWhole_27 fl_X5_153 H (fun v4 H => ?_)
      refine go_iload_n (pc := 30) dX5_nextWhole_30 rfl rfl ?_
      refine go_icmp_le (pc := 31) (tgt := 42) dX5_nextWhole_31 (by decide) H (fun H => ?_) (fun H => ?_)
      · exact Go.weak (L' := [none, none, none]) trivial (X5_nextWhole_B42_ok h1 H)
      · exact Go.weak (L' := [some (.ref a0), none, none]) ⟨rfl, trivial⟩ (X5_nextWhole_B34_ok a0 h1 H)
  · refine go_aload_n (pc := 12) dX5_nextWhole_12 rfl rfl ?_
    refine go_iconst (pc := 13) (v := 1) dX5_nextWhole_13 (by decide) ?_
    refine go_cVi (pc := 14) (Mz := M_X5_fail) (as := [.int 1]) (a := a0) (st := []) dX5_nextWhole_14 wd_591 cv_X5_fail X5_fail_ok rfl rfl ⟨Nat.le_of_ble_eq_true rfl, Nat.le_of_ble_eq_true rfl⟩ (Nat.le_of_ble_eq_true rfl) ⟨rfl, rfl⟩ ⟨Nat.le_of_ble_eq_true rfl, Nat.le_of_ble_eq_true rfl⟩ H (fun v6 h5 H => ?_)
    exact go_zret (pc := 17) dX5_nextWhole_17 rfl ⟨Nat.le_of_ble_eq_true rfl, Nat.le_of_ble_eq_true rfl⟩ H

def M_X5_readVoyage : MD := (yX5_readVoyage, cX5_readVoyage, 1, (some .boolean), 6, 130, 0, 0)
theorem cv_X5_readVoyage : CVo M_X5_readVoyage 0 5 := ⟨⟨wd_598, wd_113, ⟨by decide, by decide⟩, by decide +kernel⟩, wd_597, wd_7, _, rfl, rfl⟩
def X5_readVoyage (a0 : Nat) (h : Hp) : Option (Int32 × Hp) :=
  (gR h a0 5 3).bind fun v1 =>
  (pZ h v1 9 7 1).bind fun h2 =>
  cV h2 a0 5 (X5_nextIs a0 1 h2) fun v4 h3 =>
  if v4 = 0 then (
    rZ 0 h3)
  else (
    cV h3 a0 5 (X5_nextWhole a0 0 199 h3) fun v6 h5 =>
    if v6 = 0 then (
      rZ 0 h5)
    else (
      (gR h5 a0 5 3).bind fun v7 =>
      (gI h5 a0 5 9).bind fun v8 =>
      (pF h5 v7 9 8 (.int v8)).bind fun h9 =>
      cV h9 a0 5 (X5_nextWhole a0 0 199 h9) fun v11 h10 =>
      if v11 = 0 then (
        rZ 0 h10)
      else (
        (gR h10 a0 5 3).bind fun v12 =>
        (gI h10 a0 5 9).bind fun v13 =>
        (pF h10 v12 9 9 (.int v13)).bind fun h14 =>
        cV h14 a0 5 (X5_nextIs a0 2 h14) fun v16 h15 =>
        if v16 = 0 then (
          rZ 0 h15)
        else (
          cV h15 a0 5 (X5_nextWhole a0 0 100 h15) fun v18 h17 =>
          if v18 = 0 then (
            rZ 0 h17)
          else (
            (gR h17 a0 5 3).bind fun v19 =>
            (gI h17 a0 5 9).bind fun v20 =>
            (pF h17 v19 9 10 (.int v20)).bind fun h21 =>
            cV h21 a0 5 (X5_nextIs a0 3 h21) fun v23 h22 =>
            if v23 = 0 then (
              rZ 0 h22)
            else (
              cV h22 a0 5 (X5_nextWhole a0 0 100 h22) fun v25 h24 =>
              if v25 = 0 then (
                rZ 0 h24)
              else (
                (gR h24 a0 5 3).bind fun v26 =>
                (gI h24 a0 5 9).bind fun v27 =>
                (pF h24 v26 9 11 (.int v27)).bind fun h28 =>
                rZ 1 h28)))))))
theorem X5_readVoyage_ok {a0 : Nat} {h h' : Hp} {r : Int32} (H : X5_readVoyage a0 h = some (r, h')) : Con M_X5_readVoyage [.ref a0] h (some (.int r)) h' := by
  refine con_of_go (by decide) 0 (L := [some (.ref a0)]) rfl (Nat.le_of_ble_eq_true rfl) ?_
  unfold X5_readVoyage at H
  refine go_aload_n (pc := 0) dX5_readVoyage_0 rfl rfl ?_
  refine go_getR (pc := 1) dX5_readVoyage_1 fl_X5_22 H (fun v1 H => ?_)
  refine go_iconst (pc := 4) (v := 1) dX5_readVoyage_4 (by decide) ?_
  refine go_putZ (pc := 5) dX5_readVoyage_5 fs_X5_81 H (fun h2 H => ?_)
  refine go_aload_n (pc := 8) dX5_readVoyage_8 rfl rfl ?_
  refine go_ldcS (pc := 9) 1 dX5_readVoyage_9 rfl ?_
  refine go_cVi (pc := 11) (Mz := M_X5_nextIs) (as := [.retAddr 1]) (a := a0) (st := []) dX5_readVoyage_11 wd_600 cv_X5_nextIs X5_nextIs_ok rfl rfl ⟨Nat.le_of_ble_eq_true rfl, Nat.le_of_ble_eq_true rfl⟩ (Nat.le_of_ble_eq_true rfl) ⟨rfl, rfl⟩ ⟨Nat.le_of_ble_eq_true rfl, Nat.le_of_ble_eq_true rfl⟩ H (fun v4 h3 H => ?_)
  refine go_if_eq (pc := 14) (tgt := 28) dX5_readVoyage_14 (by decide) H (fun H => ?_) (fun H => ?_)
  · refine go_iconst (pc := 28) (v := 0) dX5_readVoyage_28 (by decide) ?_
    exact go_zret (pc := 29) dX5_readVoyage_29 rfl ⟨Nat.le_of_ble_eq_true rfl, Nat.le_of_ble_eq_true rfl⟩ H
  · refine go_aload_n (pc := 17) dX5_readVoyage_17 rfl rfl ?_
    refine go_iconst (pc := 18) (v := 0) dX5_readVoyage_18 (by decide) ?_
    refine go_sipush (pc := 19) (v := 199) dX5_readVoyage_19 (by decide) ?_
    refine go_cVi (pc := 22) (Mz := M_X5_nextWhole) (as := [.int 0, .int 199]) (a := a0) (st := []) dX5_readVoyage_22 wd_604 cv_X5_nextWhole X5_nextWhole_ok rfl rfl ⟨Nat.le_of_ble_eq_true rfl, Nat.le_of_ble_eq_true rfl⟩ (Nat.le_of_ble_eq_true rfl) ⟨rfl, rfl⟩ ⟨Nat.le_of_ble_eq_true rfl, Nat.le_of_ble_eq_true rfl⟩ H (fun v6 h5 H => ?_)
    refine go_if_ne (pc := 25) (tgt := 30) dX5_readVoyage_25 (by decide) H (fun H => ?_) (fun H => ?_)
    · refine go_aload_n (pc := 30) dX5_readVoyage_30 rfl rfl ?_
      refine go_getR (pc := 31) dX5_readVoyage_31 fl_X5_22 H (fun v7 H => ?_)
      refine go_aload_n (pc := 34) dX5_readVoyage_34 rfl rfl ?_
      refine go_getI (pc := 35) dX5_readVoyage_35 fl_X5_153 H (fun v8 H => ?_)
      refine go_putI (pc := 38) dX5_readVoyage_38 fs_X5_156 H (fun h9 H => ?_)
      refine go_aload_n (pc := 41) dX5_readVoyage_41 rfl rfl ?_
      refine go_iconst (pc := 42) (v := 0) dX5_readVoyage_42 (by decide) ?_
      refine go_sipush (pc := 43) (v := 199) dX5_readVoyage_43 (by decide) ?_
      refine go_cVi (pc := 46) (Mz := M_X5_nextWhole) (as := [.int 0, .int 199]) (a := a0) (st := []) dX5_readVoyage_46 wd_604 cv_X5_nextWhole X5_nextWhole_ok rfl rfl ⟨Nat.le_of_ble_eq_true rfl, Nat.le_of_ble_eq_true rfl⟩ (Nat.le_of_ble_eq_true rfl) ⟨rfl, rfl⟩ ⟨Nat.le_of_ble_eq_true rfl, Nat.le_of_ble_eq_true rfl⟩ H (fun v11 h10 H => ?_)
      refine go_if_ne (pc := 49) (tgt := 54) dX5_readVoyage_49 (by decide) H (fun H => ?_) (fun H => ?_)
      · refine go_aload_n (pc := 54) dX5_readVoyage_54 rfl rfl ?_
        refine go_getR (pc := 55) dX5_readVoyage_55 fl_X5_22 H (fun v12 H => ?_)
        refine go_aload_n (pc := 58) dX5_readVoyage_58 rfl rfl ?_
        refine go_getI (pc := 59) dX5_readVoyage_59 fl_X5_153 H (fun v13 H => ?_)
        refine go_putI (pc := 62) dX5_readVoyage_62 fs_X5_159 H (fun h14 H => ?_)
        refine go_aload_n (pc := 65) dX5_readVoyage_65 rfl rfl ?_
        refine go_ldcS (pc := 66) 2 dX5_readVoyage_66 rfl ?_
        refine go_cVi (pc := 68) (Mz := M_X5_nextIs) (as := [.retAddr 2]) (a := a0) (st := []) dX5_readVoyage_68 wd_600 cv_X5_nextIs X5_nextIs_ok rfl rfl ⟨Nat.le_of_ble_eq_true rfl, Nat.le_of_ble_eq_true rfl⟩ (Nat.le_of_ble_eq_true rfl) ⟨rfl, rfl⟩ ⟨Nat.le_of_ble_eq_true rfl, Nat.le_of_ble_eq_true rfl⟩ H (fun v16 h15 H => ?_)
        refine go_if_eq (pc := 71) (tgt := 84) dX5_readVoyage_71 (by decide) H (fun H => ?_) (fun H => ?_)
        · refine go_iconst (pc := 84) (v := 0) dX5_readVoyage_84 (by decide) ?_
          exact go_zret (pc := 85) dX5_readVoyage_85 rfl ⟨Nat.le_of_ble_eq_true rfl, Nat.le_of_ble_eq_true rfl⟩ H
        · refine go_aload_n (pc := 74) dX5_readVoyage_74 rfl rfl ?_
          refine go_iconst (pc := 75) (v := 0) dX5_readVoyage_75 (by decide) ?_
          refine go_bipush (pc := 76) (v := 100) dX5_readVoyage_76 (by decide) ?_
          refine go_cVi (pc := 78) (Mz := M_X5_nextWhole) (as := [.int 0, .int 100]) (a := a0) (st := []) dX5_readVoyage_78 wd_604 cv_X5_nextWhole X5_nextWhole_ok rfl rfl ⟨Nat.le_of_ble_eq_true rfl, Nat.le_of_ble_eq_true rfl⟩ (Nat.le_of_ble_eq_true rfl) ⟨rfl, rfl⟩ ⟨Nat.le_of_ble_eq_true rfl, Nat.le_of_ble_eq_true rfl⟩ H (fun v18 h17 H => ?_)
          refine go_if_ne (pc := 81) (tgt := 86) dX5_readVoyage_81 (by decide) H (fun H => ?_) (fun H => ?_)
          · refine go_aload_n (pc := 86) dX5_readVoyage_86 rfl rfl ?_
            refine go_getR (pc := 87) dX5_readVoyage_87 fl_X5_22 H (fun v19 H => ?_)
            refine go_aload_n (pc := 90) dX5_readVoyage_90 rfl rfl ?_
            refine go_getI (pc := 91) dX5_readVoyage_91 fl_X5_153 H (fun v20 H => ?_)
            refine go_putI (pc := 94) dX5_readVoyage_94 fs_X5_164 H (fun h21 H => ?_)
            refine go_aload_n (pc := 97) dX5_readVoyage_97 rfl rfl ?_
            refine go_ldcS (pc := 98) 3 dX5_readVoyage_98 rfl ?_
            refine go_cVi (pc := 100) (Mz := M_X5_nextIs) (as := [.retAddr 3]) (a := a0) (st := []) dX5_readVoyage_100 wd_600 cv_X5_nextIs X5_nextIs_ok rfl rfl ⟨Nat.le_of_ble_eq_true rfl, Nat.le_of_ble_eq_true rfl⟩ (Nat.le_of_ble_eq_true rfl) ⟨rfl, rfl⟩ ⟨Nat.le_of_ble_eq_true rfl, Nat.le_of_ble_eq_true rfl⟩ H (fun v23 h22 H => ?_)
            refine go_if_eq (pc := 103) (tgt := 116) dX5_readVoyage_103 (by decide) H (fun H => ?_) (fun H => ?_)
            · refine go_iconst (pc := 116) (v := 0) dX5_readVoyage_116 (by decide) ?_
              exact go_zret (pc := 117) dX5_readVoyage_117 rfl ⟨Nat.le_of_ble_eq_true rfl, Nat.le_of_ble_eq_true rfl⟩ H
            · refine go_aload_n (pc := 106) dX5_readVoyage_106 rfl rfl ?_
              refine go_iconst (pc := 107) (v := 0) dX5_readVoyage_107 (by decide) ?_
              refine go_bipush (pc := 108) (v := 100) dX5_readVoyage_108 (by decide) ?_
              refine go_cVi (pc := 110) (Mz := M_X5_nextWhole) (as := [.int 0, .int 100]) (a := a0) (st := []) dX5_readVoyage_110 wd_604 cv_X5_nextWhole X5_nextWhole_ok rfl rfl ⟨Nat.le_of_ble_eq_true rfl, Nat.le_of_ble_eq_true rfl⟩ (Nat.le_of_ble_eq_true rfl) ⟨rfl, rfl⟩ ⟨Nat.le_of_ble_eq_true rfl, Nat.le_of_ble_eq_true rfl⟩ H (fun v25 h24 H => ?_)
              refine go_if_ne (pc := 113) (tgt := 118) dX5_readVoyage_113 (by decide) H (fun H => ?_) (fun H => ?_)
              · refine go_aload_n (pc := 118) dX5_readVoyage_118 rfl rfl ?_
                refine go_getR (pc := 119) dX5_readVoyage_119 fl_X5_22 H (fun v26 H => ?_)
                refine go_aload_n (pc := 122) dX5_readVoyage_122 rfl rfl ?_
                refine go_getI (pc := 123) dX5_readVoyage_123 fl_X5_153 H (fun v27 H => ?_)
                refine go_putI (pc := 126) dX5_readVoyage_126 fs_X5_168 H (fun h28 H => ?_)
                refine go_iconst (pc := 129) (v := 1) dX5_readVoyage_129 (by decide) ?_
                exact go_zret (pc := 130) dX5_readVoyage_130 rfl ⟨Nat.le_of_ble_eq_true rfl, Nat.le_of_ble_eq_true rfl⟩ H
              · refine go_iconst (pc := 116) (v := 0) dX5_readVoyage_116 (by decide) ?_
                exact go_zret (pc := 117) dX5_readVoyage_117 rfl ⟨Nat.le_of_ble_eq_true rfl, Nat.le_of_ble_eq_true rfl⟩ H
          · refine go_iconst (pc := 84) (v := 0) dX5_readVoyage_84 (by decide) ?_
            exact go_zret (pc := 85) dX5_readVoyage_85 rfl ⟨Nat.le_of_ble_eq_true rfl, Nat.le_of_ble_eq_true rfl⟩ H
      · refine go_iconst (pc := 52) (v := 0) dX5_readVoyage_52 (by decide) ?_
        exact go_zret (pc := 53) dX5_readVoyage_53 rfl ⟨Nat.le_of_ble_eq_true rfl, Nat.le_of_ble_eq_true rfl⟩ H
    · refine go_iconst (pc := 28) (v := 0) dX5_readVoyage_28 (by decide) ?_
      exact go_zret (pc := 29) dX5_readVoyage_29 rfl ⟨Nat.le_of_ble_eq_true rfl, Nat.le_of_ble_eq_true rfl⟩ H

def M_X5_beginsLine : MD := (yX5_beginsLine, cX5_beginsLine, 1, (some .boolean), 5, 109, 0, 0)
theorem cv_X5_beginsLine : CVo M_X5_beginsLine 0 5 := ⟨⟨wd_613, wd_113, ⟨by decide, by decide⟩, by decide +kernel⟩, wd_612, wd_10, _, rfl, rfl⟩
def X5_beginsLine_B72 (h : Hp) : Option (Int32 × Hp) :=
  rZ 1 h
theorem X5_beginsLine_B72_ok {hh h' : Hp} {r : Int32}  (h : Hp) (H : X5_beginsLine_B72 h = some (r, h')) : Go (PM M_X5_beginsLine hh (some (.int r)) h') M_X5_beginsLine 72 [none] [] h 0 0 := by
  unfold X5_beginsLine_B72 at H
  refine go_iconst (pc := 72) (v := 1) dX5_beginsLine_72 (by decide) ?_
  refine go_goto (pc := 73) (tgt := 77) dX5_beginsLine_73 (by decide) ?_
  exact go_zret (pc := 77) dX5_beginsLine_77 rfl ⟨Nat.le_of_ble_eq_true rfl, Nat.le_of_ble_eq_true rfl⟩ H

def X5_beginsLine (a0 : Nat) (h : Hp) : Option (Int32 × Hp) :=
  cV h a0 5 (X5_is a0 0 h) fun v2 h1 =>
  if v2 = 0 then (
    cV h1 a0 5 (X5_is a0 4 h1) fun v4 h3 =>
    if v4 = 0 then (
      cV h3 a0 5 (X5_is a0 5 h3) fun v6 h5 =>
      if v6 = 0 then (
        cV h5 a0 5 (X5_is a0 6 h5) fun v8 h7 =>
        if v8 = 0 then (
          cV h7 a0 5 (X5_is a0 7 h7) fun v10 h9 =>
          if v10 = 0 then (
            cV h9 a0 5 (X5_is a0 8 h9) fun v12 h11 =>
            if v12 = 0 then (
              cV h11 a0 5 (X5_is a0 9 h11) fun v14 h13 =>
              if v14 = 0 then (
                cV h13 a0 5 (X5_is a0 10 h13) fun v16 h15 =>
                if v16 = 0 then (
                  rZ 0 h15)
                else (
                  X5_beginsLine_B72 h15))
              else (
                X5_beginsLine_B72 h13))
            else (
              X5_beginsLine_B72 h11))
          else (
            X5_beginsLine_B72 h9))
        else (
          X5_beginsLine_B72 h7))
      else (
        X5_beginsLine_B72 h5))
    else (
      X5_beginsLine_B72 h3))
  else (
    X5_beginsLine_B72 h1)
theorem X5_beginsLine_ok {a0 : Nat} {h h' : Hp} {r : Int32} (H : X5_beginsLine a0 h = some (r, h')) : Con M_X5_beginsLine [.ref a0] h (some (.int r)) h' := by
  refine con_of_go (by decide) 0 (L := [some (.ref a0)]) rfl (Nat.le_of_ble_eq_true rfl) ?_
  unfold X5_beginsLine at H
  refine go_aload_n (pc := 0) dX5_beginsLine_0 rfl rfl ?_
  refine go_ldcS (pc := 1) 0 dX5_beginsLine_1 rfl ?_
  refine go_cVi (pc := 3) (Mz := M_X5_is) (as := [.retAddr 0]) (a := a0) (st := []) dX5_beginsLine_3 wd_539 cv_X5_is X5_is_ok rfl rfl ⟨Nat.le_of_ble_eq_true rfl, Nat.le_of_ble_eq_true rfl⟩ (Nat.le_of_ble_eq_true rfl) ⟨rfl, rfl⟩ ⟨Nat.le_of_ble_eq_true rfl, Nat.le_of_ble_eq_true rfl⟩ H (fun v2 h1 H => ?_)
  refine go_if_ne (pc := 6) (tgt := 72) dX5_beginsLine_6 (by decide) H (fun H => ?_) (fun H => ?_)
  · exact Go.weak (L' := [none]) trivial (X5_beginsLine_B72_ok h1 H)
  · refine go_aload_n (pc := 9) dX5_beginsLine_9 rfl rfl ?_
    refine go_ldcS (pc := 10) 4 dX5_beginsLine_10 rfl ?_
    refine go_cVi (pc := 12) (Mz := M_X5_is) (as := [.retAddr 4]) (a := a0) (st := []) dX5_beginsLine_12 wd_539 cv_X5_is X5_is_ok rfl rfl ⟨Nat.le_of_ble_eq_true rfl, Nat.le_of_ble_eq_true rfl⟩ (Nat.le_of_ble_eq_true rfl) ⟨rfl, rfl⟩ ⟨Nat.le_of_ble_eq_true rfl, Nat.le_of_ble_eq_true rfl⟩ H (fun v4 h3 H => ?_)
    refine go_if_ne (pc := 15) (tgt := 72) dX5_beginsLine_15 (by decide) H (fun H => ?_) (fun H => ?_)
    · exact Go.weak (L' := [none]) trivial (X5_beginsLine_B72_ok h3 H)
    · refine go_aload_n (pc := 18) dX5_beginsLine_18 rfl rfl ?_
      refine go_ldcS (pc := 19) 5 dX5_beginsLine_19 rfl ?_
      refine go_cVi (pc := 21) (Mz := M_X5_is) (as := [.retAddr 5]) (a := a0) (st := []) dX5_beginsLine_21 wd_539 cv_X5_is X5_is_ok rfl rfl ⟨Nat.le_of_ble_eq_true rfl, Nat.le_of_ble_eq_true rfl⟩ (Nat.le_of_ble_eq_true rfl) ⟨rfl, rfl⟩ ⟨Nat.le_of_ble_eq_true rfl, Nat.le_of_ble_eq_true rfl⟩ H (fun v6 h5 H => ?_)
      refine go_if_ne (pc := 24) (tgt := 72) dX5_beginsLine_24 (by decide) H (fun H => ?_) (fun H => ?_)
      · exact Go.weak (L' := [none]) trivial (X5_beginsLine_B72_ok h5 H)
      · refine go_aload_n (pc := 27) dX5_beginsLine_27 rfl rfl ?_
        refine go_ldcS (pc := 28) 6 dX5_beginsLine_28 rfl ?_
        refine go_cVi (pc := 30) (Mz := M_X5_is) (as := [.retAddr 6]) (a := a0) (st := []) dX5_beginsLine_30 wd_539 cv_X5_is X5_is_ok rfl rfl ⟨Nat.le_of_ble_eq_true rfl, Nat.le_of_ble_eq_true rfl⟩ (Nat.le_of_ble_eq_true rfl) ⟨rfl, rfl⟩ ⟨Nat.le_of_ble_eq_true rfl, Nat.le_of_ble_eq_true rfl⟩ H (fun v8 h7 H => ?_)
        refine go_if_ne (pc := 33) (tgt := 72) dX5_beginsLine_33 (by decide) H (fun H => ?_) (fun H => ?_)
        · exact Go.weak (L' := [none]) trivial (X5_beginsLine_B72_ok h7 H)
        · refine go_aload_n (pc := 36) dX5_beginsLine_36 rfl rfl ?_
          refine go_ldcS (pc := 37) 7 dX5_beginsLine_37 rfl ?_
          refine go_cVi (pc := 39) (Mz := M_X5_is) (as := [.retAddr 7]) (a := a0) (st := []) dX5_beginsLine_39 wd_539 cv_X5_is X5_is_ok rfl rfl ⟨Nat.le_of_ble_eq_true rfl, Nat.le_of_ble_eq_true rfl⟩ (Nat.le_of_ble_eq_true rfl) ⟨rfl, rfl⟩ ⟨Nat.le_of_ble_eq_true rfl, Nat.le_of_ble_eq_true rfl⟩ H (fun v10 h9 H => ?_)
          refine go_if_ne (pc := 42) (tgt := 72) dX5_beginsLine_42 (by decide) H (fun H => ?_) (fun H => ?_)
          · exact Go.weak (L' := [none]) trivial (X5_beginsLine_B72_ok h9 H)
          · refine go_aload_n (pc := 45) dX5_beginsLine_45 rfl rfl ?_
            refine go_ldcS (pc := 46) 8 dX5_beginsLine_46 rfl ?_
            refine go_cVi (pc := 48) (Mz := M_X5_is) (as := [.retAddr 8]) (a := a0) (st := []) dX5_beginsLine_48 wd_539 cv_X5_is X5_is_ok rfl rfl ⟨Nat.le_of_ble_eq_true rfl, Nat.le_of_ble_eq_true rfl⟩ (Nat.le_of_ble_eq_true rfl) ⟨rfl, rfl⟩ ⟨Nat.le_of_ble_eq_true rfl, Nat.le_of_ble_eq_true rfl⟩ H (fun v12 h11 H => ?_)
            refine go_if_ne (pc := 51) (tgt := 72) dX5_beginsLine_51 (by decide) H (fun H => ?_) (fun H => ?_)
            · exact Go.weak (L' := [none]) trivial (X5_beginsLine_B72_ok h11 H)
            · refine go_aload_n (pc := 54) dX5_beginsLine_54 rfl rfl ?_
              refine go_ldcS (pc := 55) 9 dX5_beginsLine_55 rfl ?_
              refine go_cVi (pc := 57) (Mz := M_X5_is) (as := [.retAddr 9]) (a := a0) (st := []) dX5_beginsLine_57 wd_539 cv_X5_is X5_is_ok rfl rfl ⟨Nat.le_of_ble_eq_true rfl, Nat.le_of_ble_eq_true rfl⟩ (Nat.le_of_ble_eq_true rfl) ⟨rfl, rfl⟩ ⟨Nat.le_of_ble_eq_true rfl, Nat.le_of_ble_eq_true rfl⟩ H (fun v14 h13 H => ?_)
              refine go_if_ne (pc := 60) (tgt := 72) dX5_beginsLine_60 (by decide) H (fun H => ?_) (fun H => ?_)
              · exact Go.weak (L' := [none]) trivial (X5_beginsLine_B72_ok h13 H)
              · refine go_aload_n (pc := 63) dX5_beginsLine_63 rfl rfl ?_
                refine go_ldcS (pc := 64) 10 dX5_beginsLine_64 rfl ?_
                refine go_cVi (pc := 66) (Mz := M_X5_is) (as := [.retAddr 10]) (a := a0) (st := []) dX5_beginsLine_66 wd_539 cv_X5_is X5_is_ok rfl rfl ⟨Nat.le_of_ble_eq_true rfl, Nat.le_of_ble_eq_true rfl⟩ (Nat.le_of_ble_eq_true rfl) ⟨rfl, rfl⟩ ⟨Nat.le_of_ble_eq_true rfl, Nat.le_of_ble_eq_true rfl⟩ H (fun v16 h15 H => ?_)
                refine go_if_eq (pc := 69) (tgt := 76) dX5_beginsLine_69 (by decide) H (fun H => ?_) (fun H => ?_)
                · refine go_iconst (pc := 76) (v := 0) dX5_beginsLine_76 (by decide) ?_
                  exact go_zret (pc := 77) dX5_beginsLine_77 rfl ⟨Nat.le_of_ble_eq_true rfl, Nat.le_of_ble_eq_true rfl⟩ H
                · exact Go.weak (L' := [none]) trivial (X5_beginsLine_B72_ok h15 H)

def M_X5_numberOf : MD := (yX5_numberOf, cX5_numberOf, 4, (some .int), 0, 0, 0, 0)
theorem cv_X5_numberOf : CVo M_X5_numberOf 2 5 := ⟨⟨wd_636, wd_113, ⟨by decide, by decide⟩, by decide +kernel⟩, wd_635, wd_13, _, rfl, rfl⟩
def X5_numberOf_L2_s (rc2 : Nat → Nat → Int32 → Int32 → Hp → Option (Int32 × Hp)) (a0 : Nat) (a1 : Nat) (a2 : Int32) (a3 : Int32) (h : Hp) : Option (Int32 × Hp) :=
  if a2 ≤ a3 then (
    some ((-1), h))
  else (
    (aN h a1).bind fun v101 =>
    if v101 ≤ a3 then (
      some ((-1), h))
    else (
      (aJ h a1 a3).bind fun v102 =>
      (gJ h a0 5 8).bind fun v103 =>
      if (lg_cmp v102 v103) = 0 then (
        some (a3, h))
      else (
        rc2 a0 a1 a2 (a3 + 1) h)))
def X5_numberOf_L2 (q : Nat) : Nat → Nat → Int32 → Int32 → Hp → Option (Int32 × Hp) := loopN (fun _ _ _ _ _ => none) (X5_numberOf_L2_s) q
theorem X5_numberOf_L2_ok {hh h' : Hp} {r : Int32}  : ∀ (q : Nat) (a0 : Nat) (a1 : Nat) (a2 : Int32) (a3 : Int32) (h : Hp), X5_numberOf_L2 q a0 a1 a2 a3 h = some (r, h') → Go (PM M_X5_numberOf hh (some (.int r)) h') M_X5_numberOf 2 [some (.ref a0), some (.ref a1), some (.int a2), some (.int a3)] [] h 0 0 := by
  intro q
  induction q with
  | zero => intro a0 a1 a2 a3 h H; cases H
  | succ q hrc2 =>
    intro a0 a1 a2 a3 h H
    replace H : X5_numberOf_L2_s (X5_numberOf_L2 q) a0 a1 a2 a3 h = some (r, h') := H
    unfold X5_numberOf_L2_s at H
    refine go_iload_n (pc := 2) dX5_numberOf_2 rfl rfl ?_
    refine go_iload_n (pc := 3) dX5_numberOf_3 rfl rfl ?_
    refine go_icmp_ge (pc := 4) (tgt := 32) dX5_numberOf_4 (by decide) H (fun H => ?_) (fun H => ?_)
    · refine go_iconst (pc := 32) (v := (-1)) dX5_numberOf_32 (by decide) ?_
      exact go_iret (pc := 33) dX5_numberOf_33 rfl ⟨Nat.le_of_ble_eq_true rfl, Nat.le_of_ble_eq_true rfl⟩ H
    · refine go_iload_n (pc := 7) dX5_numberOf_7 rfl rfl ?_
      refine go_aload_n (pc := 8) dX5_numberOf_8 rfl rfl ?_
      refine go_alen (pc := 9) dX5_numberOf_9 H (fun v101 H => ?_)
      refine go_icmp_ge (pc := 10) (tgt := 32) dX5_numberOf_10 (by decide) H (fun H => ?_) (fun H => ?_)
      · refine go_iconst (pc := 32) (v := (-1)) dX5_numberOf_32 (by decide) ?_
        exact go_iret (pc := 33) dX5_numberOf_33 rfl ⟨Nat.le_of_ble_eq_true rfl, Nat.le_of_ble_eq_true rfl⟩ H
      · refine go_aload_n (pc := 13) dX5_numberOf_13 rfl rfl ?_
        refine go_iload_n (pc := 14) dX5_numberOf_14 rfl rfl ?_
        refine go_laload (pc := 15) dX5_numberOf_15 H (fun v102 H => ?_)
        refine go_aload_n (pc := 16) dX5_numberOf_16 rfl rfl ?_
        refine go_getJ (pc := 17) dX5_numberOf_17 fl_X5_173 H (fun v103 H => ?_)
        refine go_lcmp (pc := 20) dX5_numberOf_20 ?_
        refine go_if_ne (pc := 21) (tgt := 26) dX5_numberOf_21 (by decide) H (fun H => ?_) (fun H => ?_)
        · refine go_iinc (pc := 26) (v := a3 + 1) (L' := [some (.ref a0), some (.ref a1), some (.int a2), some (.int (a3 + 1))]) dX5_numberOf_26 rfl rfl (Nat.le_of_ble_eq_true rfl) rfl ?_
          refine go_goto (pc := 29) (tgt := 2) dX5_numberOf_29 (by decide) ?_
          exact Go.weak (L' := [some (.ref a0), some (.ref a1), some (.int a2), some (.int (a3 + 1))]) ⟨rfl, ⟨rfl, ⟨rfl, ⟨rfl, trivial⟩⟩⟩⟩ (hrc2 a0 a1 a2 (a3 + 1) h H)
        · refine go_iload_n (pc := 24) dX5_numberOf_24 rfl rfl ?_
          exact go_iret (pc := 25) dX5_numberOf_25 rfl ⟨Nat.le_of_ble_eq_true rfl, Nat.le_of_ble_eq_true rfl⟩ H

def X5_numberOf (a0 : Nat) (a1 : Nat) (a2 : Int32) (h : Hp) : Option (Int32 × Hp) :=
  X5_numberOf_L2 5000 a0 a1 a2 0 h
theorem X5_numberOf_ok {a0 : Nat} {a1 : Nat} {a2 : Int32} {h h' : Hp} {r : Int32} (H : X5_numberOf a0 a1 a2 h = some (r, h')) : Con M_X5_numberOf [.ref a0, .ref a1, .int a2] h (some (.int r)) h' := by
  refine con_of_go (by decide) 1 (L := [some (.ref a0), some (.ref a1), some (.int a2), none]) rfl (Nat.le_of_ble_eq_true rfl) ?_
  unfold X5_numberOf at H
  refine go_iconst (pc := 0) (v := 0) dX5_numberOf_0 (by decide) ?_
  refine go_istore_n (pc := 1) (L' := [some (.ref a0), some (.ref a1), some (.int a2), some (.int 0)]) dX5_numberOf_1 rfl (Nat.le_of_ble_eq_true rfl) rfl ?_
  exact Go.weak (L' := [some (.ref a0), some (.ref a1), some (.int a2), some (.int 0)]) ⟨rfl, ⟨rfl, ⟨rfl, ⟨rfl, trivial⟩⟩⟩⟩ (X5_numberOf_L2_ok 5000 a0 a1 a2 0 h H)

def M_X5_nextNewName : MD := (yX5_nextNewName, cX5_nextNewName, 2, (some .boolean), 6, 129, 0, 0)
theorem cv_X5_nextNewName : CVo M_X5_nextNewName 0 5 := ⟨⟨wd_632, wd_113, ⟨by decide, by decide⟩, by decide +kernel⟩, wd_631, wd_12, _, rfl, rfl⟩
def X5_nextNewName_B19 (a0 : Nat) (h : Hp) : Option (Int32 × Hp) :=
  cV h a0 5 (X5_fail a0 1 h) fun v102 h101 =>
  rZ v102 h101
theorem X5_nextNewName_B19_ok {hh h' : Hp} {r : Int32}  (a0 : Nat) (h : Hp) (H : X5_nextNewName_B19 a0 h = some (r, h')) : Go (PM M_X5_nextNewName hh (some (.int r)) h') M_X5_nextNewName 19 [some (.ref a0), none] [] h 0 0 := by
  unfold X5_nextNewName_B19 at H
  refine go_aload_n (pc := 19) dX5_nextNewName_19 rfl rfl ?_
  refine go_iconst (pc := 20) (v := 1) dX5_nextNewName_20 (by decide) ?_
  refine go_cVi (pc := 21) (Mz := M_X5_fail) (as := [.int 1]) (a := a0) (st := []) dX5_nextNewName_21 wd_591 cv_X5_fail X5_fail_ok rfl rfl ⟨Nat.le_of_ble_eq_true rfl, Nat.le_of_ble_eq_true rfl⟩ (Nat.le_of_ble_eq_true rfl) ⟨rfl, rfl⟩ ⟨Nat.le_of_ble_eq_true rfl, Nat.le_of_ble_eq_true rfl⟩ H (fun v102 h101 H => ?_)
  exact go_zret (pc := 24) dX5_nextNewName_24 rfl ⟨Nat.le_of_ble_eq_true rfl, Nat.le_of_ble_eq_true rfl⟩ H

def X5_nextNewName_B87 (h : Hp) : Option (Int32 × Hp) :=
  rZ 1 h
theorem X5_nextNewName_B87_ok {hh h' : Hp} {r : Int32}  (h : Hp) (H : X5_nextNewName_B87 h = some (r, h')) : Go (PM M_X5_nextNewName hh (some (.int r)) h') M_X5_nextNewName 87 [none, none] [] h 0 0 := by
  unfold X5_nextNewName_B87 at H
  refine go_iconst (pc := 87) (v := 1) dX5_nextNewName_87 (by decide) ?_
  refine go_goto (pc := 88) (tgt := 92) dX5_nextNewName_88 (by decide) ?_
  exact go_zret (pc := 92) dX5_nextNewName_92 rfl ⟨Nat.le_of_ble_eq_true rfl, Nat.le_of_ble_eq_true rfl⟩ H

def X5_nextNewName_B74 (a0 : Nat) (s0 : Int32) (h : Hp) : Option (Int32 × Hp) :=
  if s0 = 0 then (
    X5_nextNewName_B87 h)
  else (
    cV h a0 5 (X5_fail a0 3 h) fun v302 h301 =>
    if v302 = 0 then (
      rZ 0 h301)
    else (
      X5_nextNewName_B87 h301))
theorem X5_nextNewName_B74_ok {hh h' : Hp} {r : Int32}  (a0 : Nat) (s0 : Int32) (h : Hp) (H : X5_nextNewName_B74 a0 s0 h = some (r, h')) : Go (PM M_X5_nextNewName hh (some (.int r)) h') M_X5_nextNewName 74 [some (.ref a0), none] [.int s0] h 0 0 := by
  unfold X5_nextNewName_B74 at H
  refine go_istore_n (pc := 74) (L' := [some (.ref a0), some (.int s0)]) dX5_nextNewName_74 rfl (Nat.le_of_ble_eq_true rfl) rfl ?_
  refine go_iload_n (pc := 75) dX5_nextNewName_75 rfl rfl ?_
  refine go_if_eq (pc := 76) (tgt := 87) dX5_nextNewName_76 (by decide) H (fun H => ?_) (fun H => ?_)
  · exact Go.weak (L' := [none, none]) trivial (X5_nextNewName_B87_ok h H)
  · refine go_aload_n (pc := 79) dX5_nextNewName_79 rfl rfl ?_
    refine go_iconst (pc := 80) (v := 3) dX5_nextNewName_80 (by decide) ?_
    refine go_cVi (pc := 81) (Mz := M_X5_fail) (as := [.int 3]) (a := a0) (st := []) dX5_nextNewName_81 wd_591 cv_X5_fail X5_fail_ok rfl rfl ⟨Nat.le_of_ble_eq_true rfl, Nat.le_of_ble_eq_true rfl⟩ (Nat.le_of_ble_eq_true rfl) ⟨rfl, rfl⟩ ⟨Nat.le_of_ble_eq_true rfl, Nat.le_of_ble_eq_true rfl⟩ H (fun v302 h301 H => ?_)
    refine go_if_eq (pc := 84) (tgt := 91) dX5_nextNewName_84 (by decide) H (fun H => ?_) (fun H => ?_)
    · refine go_iconst (pc := 91) (v := 0) dX5_nextNewName_91 (by decide) ?_
      exact go_zret (pc := 92) dX5_nextNewName_92 rfl ⟨Nat.le_of_ble_eq_true rfl, Nat.le_of_ble_eq_true rfl⟩ H
    · exact Go.weak (L' := [none, none]) trivial (X5_nextNewName_B87_ok h301 H)

def X5_nextNewName_B69 (a0 : Nat) (h : Hp) : Option (Int32 × Hp) :=
  X5_nextNewName_B74 a0 1 h
theorem X5_nextNewName_B69_ok {hh h' : Hp} {r : Int32}  (a0 : Nat) (h : Hp) (H : X5_nextNewName_B69 a0 h = some (r, h')) : Go (PM M_X5_nextNewName hh (some (.int r)) h') M_X5_nextNewName 69 [some (.ref a0), none] [] h 0 0 := by
  unfold X5_nextNewName_B69 at H
  refine go_iconst (pc := 69) (v := 1) dX5_nextNewName_69 (by decide) ?_
  refine go_goto (pc := 70) (tgt := 74) dX5_nextNewName_70 (by decide) ?_
  exact Go.weak (L' := [some (.ref a0), none]) ⟨rfl, trivial⟩ (X5_nextNewName_B74_ok a0 1 h H)

def X5_nextNewName (a0 : Nat) (h : Hp) : Option (Int32 × Hp) :=
  cVv h a0 5 (X5_readToken a0 h) fun h1 =>
  (gI h1 a0 5 6).bind fun v2 =>
  if v2 = 1 then (
    cV h1 a0 5 (X5_beginsLine a0 h1) fun v4 h3 =>
    if v4 = 0 then (
      (gR h3 a0 5 1).bind fun v5 =>
      (gR h3 a0 5 3).bind fun v6 =>
      (gR h3 v6 9 0).bind fun v7 =>
      (gI h3 v7 8 3).bind fun v8 =>
      cV h3 a0 5 (X5_numberOf a0 v5 v8 h3) fun v10 h9 =>
      if v10 = (-1) then (
        (gR h9 a0 5 2).bind fun v11 =>
        (gR h9 a0 5 3).bind fun v12 =>
        (gR h9 v12 9 1).bind fun v13 =>
        (gI h9 v13 8 3).bind fun v14 =>
        cV h9 a0 5 (X5_numberOf a0 v11 v14 h9) fun v16 h15 =>
        if v16 = (-1) then (
          X5_nextNewName_B74 a0 0 h15)
        else (
          X5_nextNewName_B69 a0 h15))
      else (
        X5_nextNewName_B69 a0 h9))
    else (
      X5_nextNewName_B19 a0 h3))
  else (
    X5_nextNewName_B19 a0 h1)
theorem X5_nextNewName_ok {a0 : Nat} {h h' : Hp} {r : Int32} (H : X5_nextNewName a0 h = some (r, h')) : Con M_X5_nextNewName [.ref a0] h (some (.int r)) h' := by
  refine con_of_go (by decide) 1 (L := [some (.ref a0), none]) rfl (Nat.le_of_ble_eq_true rfl) ?_
  unfold X5_nextNewName at H
  refine go_aload_n (pc := 0) dX5_nextNewName_0 rfl rfl ?_
  refine go_cVv (pc := 1) (Mz := M_X5_readToken) (as := []) (a := a0) (st := []) dX5_nextNewName_1 wd_527 cv_X5_readToken X5_readToken_ok rfl rfl ⟨Nat.le_of_ble_eq_true rfl, Nat.le_of_ble_eq_true rfl⟩ (Nat.le_of_ble_eq_true rfl) ⟨rfl, rfl⟩ ⟨Nat.le_of_ble_eq_true rfl, Nat.le_of_ble_eq_true rfl⟩ H (fun h1 H => ?_)
  refine go_aload_n (pc := 4) dX5_nextNewName_4 rfl rfl ?_
  refine go_getI (pc := 5) dX5_nextNewName_5 fl_X5_73 H (fun v2 H => ?_)
  refine go_iconst (pc := 8) (v := 1) dX5_nextNewName_8 (by decide) ?_
  refine go_icmp_ne (pc := 9) (tgt := 19) dX5_nextNewName_9 (by decide) H (fun H => ?_) (fun H => ?_)
  · exact Go.weak (L' := [some (.ref a0), none]) ⟨rfl, trivial⟩ (X5_nextNewName_B19_ok a0 h1 H)
  · refine go_aload_n (pc := 12) dX5_nextNewName_12 rfl rfl ?_
    refine go_cVi (pc := 13) (Mz := M_X5_beginsLine) (as := []) (a := a0) (st := []) dX5_nextNewName_13 wd_610 cv_X5_beginsLine X5_beginsLine_ok rfl rfl ⟨Nat.le_of_ble_eq_true rfl, Nat.le_of_ble_eq_true rfl⟩ (Nat.le_of_ble_eq_true rfl) ⟨rfl, rfl⟩ ⟨Nat.le_of_ble_eq_true rfl, Nat.le_of_ble_eq_true rfl⟩ H (fun v4 h3 H => ?_)
    refine go_if_eq (pc := 16) (tgt := 25) dX5_nextNewName_16 (by decide) H (fun H => ?_) (fun H => ?_)
    · refine go_aload_n (pc := 25) dX5_nextNewName_25 rfl rfl ?_
      refine go_aload_n (pc := 26) dX5_nextNewName_26 rfl rfl ?_
      refine go_getR (pc := 27) dX5_nextNewName_27 fl_X5_9 H (fun v5 H => ?_)
      refine go_aload_n (pc := 30) dX5_nextNewName_30 rfl rfl ?_
      refine go_getR (pc := 31) dX5_nextNewName_31 fl_X5_22 H (fun v6 H => ?_)
      refine go_getR (pc := 34) dX5_nextNewName_34 fl_X5_93 H (fun v7 H => ?_)
      refine go_getI (pc := 37) dX5_nextNewName_37 fl_X5_58 H (fun v8 H => ?_)
      refine go_cVi (pc := 40) (Mz := M_X5_numberOf) (as := [.ref v5, .int v8]) (a := a0) (st := []) dX5_nextNewName_40 wd_633 cv_X5_numberOf X5_numberOf_ok rfl rfl ⟨Nat.le_of_ble_eq_true rfl, Nat.le_of_ble_eq_true rfl⟩ (Nat.le_of_ble_eq_true rfl) ⟨rfl, rfl⟩ ⟨Nat.le_of_ble_eq_true rfl, Nat.le_of_ble_eq_true rfl⟩ H (fun v10 h9 H => ?_)
      refine go_iconst (pc := 43) (v := (-1)) dX5_nextNewName_43 (by decide) ?_
      refine go_icmp_ne (pc := 44) (tgt := 69) dX5_nextNewName_44 (by decide) H (fun H => ?_) (fun H => ?_)
      · exact Go.weak (L' := [some (.ref a0), none]) ⟨rfl, trivial⟩ (X5_nextNewName_B69_ok a0 h9 H)
      · refine go_aload_n (pc := 47) dX5_nextNewName_47 rfl rfl ?_
        refine go_aload_n (pc := 48) dX5_nextNewName_48 rfl rfl ?_
        refine go_getR (pc := 49) dX5_nextNewName_49 fl_X5_15 H (fun v11 H => ?_)
        refine go_aload_n (pc := 52) dX5_nextNewName_52 rfl rfl ?_
        refine go_getR (pc := 53) dX5_nextNewName_53 fl_X5_22 H (fun v12 H => ?_)
        refine go_getR (pc := 56) dX5_nextNewName_56 fl_X5_104 H (fun v13 H => ?_)
        refine go_getI (pc := 59) dX5_nextNewName_59 fl_X5_58 H (fun v14 H => ?_)
        refine go_cVi (pc := 62) (Mz := M_X5_numberOf) (as := [.ref v11, .int v14]) (a := a0) (st := []) dX5_nextNewName_62 wd_633 cv_X5_numberOf X5_numberOf_ok rfl rfl ⟨Nat.le_of_ble_eq_true rfl, Nat.le_of_ble_eq_true rfl⟩ (Nat.le_of_ble_eq_true rfl) ⟨rfl, rfl⟩ ⟨Nat.le_of_ble_eq_true rfl, Nat.le_of_ble_eq_true rfl⟩ H (fun v16 h15 H => ?_)
        refine go_iconst (pc := 65) (v := (-1)) dX5_nextNewName_65 (by decide) ?_
        refine go_icmp_eq (pc := 66) (tgt := 73) dX5_nextNewName_66 (by decide) H (fun H => ?_) (fun H => ?_)
        · refine go_iconst (pc := 73) (v := 0) dX5_nextNewName_73 (by decide) ?_
          exact Go.weak (L' := [some (.ref a0), none]) ⟨rfl, trivial⟩ (X5_nextNewName_B74_ok a0 0 h15 H)
        · exact Go.weak (L' := [some (.ref a0), none]) ⟨rfl, trivial⟩ (X5_nextNewName_B69_ok a0 h15 H)
    · exact Go.weak (L' := [some (.ref a0), none]) ⟨rfl, trivial⟩ (X5_nextNewName_B19_ok a0 h3 H)

def M_X5_keepName : MD := (yX5_keepName, cX5_keepName, 4, none, 0, 0, 0, 0)
theorem cs_X5_keepName : CSo M_X5_keepName 3 := ⟨⟨wd_643, wd_113, ⟨by decide, by decide⟩, by decide +kernel⟩, wd_642⟩
def X5_keepName (a0 : Nat) (a1 : Int32) (a2 : Int64) (h : Hp) : Option (Hp) :=
  if a1 < 0 then (
    some h)
  else (
    (aN h a0).bind fun v1 =>
    if v1 ≤ a1 then (
      some h)
    else (
      (sJ h a0 a1 a2).bind fun h2 =>
      some h2))
theorem X5_keepName_ok {a0 : Nat} {a1 : Int32} {a2 : Int64} {h h' : Hp} (H : X5_keepName a0 a1 a2 h = some h') : Con M_X5_keepName [.ref a0, .int a1, .long a2] h none h' := by
  refine con_of_go (by decide) 0 (L := [some (.ref a0), some (.int a1), some (.long a2), none]) rfl (Nat.le_of_ble_eq_true rfl) ?_
  unfold X5_keepName at H
  refine go_iload_n (pc := 0) dX5_keepName_0 rfl rfl ?_
  refine go_if_lt (pc := 1) (tgt := 14) dX5_keepName_1 (by decide) H (fun H => ?_) (fun H => ?_)
  · exact go_vret (pc := 14) dX5_keepName_14 rfl ⟨Nat.le_of_ble_eq_true rfl, Nat.le_of_ble_eq_true rfl⟩ H
  · refine go_iload_n (pc := 4) dX5_keepName_4 rfl rfl ?_
    refine go_aload_n (pc := 5) dX5_keepName_5 rfl rfl ?_
    refine go_alen (pc := 6) dX5_keepName_6 H (fun v1 H => ?_)
    refine go_icmp_ge (pc := 7) (tgt := 14) dX5_keepName_7 (by decide) H (fun H => ?_) (fun H => ?_)
    · exact go_vret (pc := 14) dX5_keepName_14 rfl ⟨Nat.le_of_ble_eq_true rfl, Nat.le_of_ble_eq_true rfl⟩ H
    · refine go_aload_n (pc := 10) dX5_keepName_10 rfl rfl ?_
      refine go_iload_n (pc := 11) dX5_keepName_11 rfl rfl ?_
      refine go_lload_n (pc := 12) dX5_keepName_12 rfl rfl ?_
      refine go_lastore (pc := 13) dX5_keepName_13 H (fun h2 H => ?_)
      exact go_vret (pc := 14) dX5_keepName_14 rfl ⟨Nat.le_of_ble_eq_true rfl, Nat.le_of_ble_eq_true rfl⟩ H

def M_X5_readBoy : MD := (yX5_readBoy, cX5_readBoy, 4, (some .boolean), 7, 150, 0, 0)
theorem cv_X5_readBoy : CVo M_X5_readBoy 0 5 := ⟨⟨wd_628, wd_113, ⟨by decide, by decide⟩, by decide +kernel⟩, wd_627, wd_11, _, rfl, rfl⟩
def X5_readBoy_B58 (a0 : Nat) (a1 : Int64) (s0 : Int32) (h : Hp) : Option (Int32 × Hp) :=
  if s0 = (-1) then (
    cV h a0 5 (X5_fail a0 1 h) fun v115 h114 =>
    rZ v115 h114)
  else (
    cV h a0 5 (X5_nextIs a0 14 h) fun v102 h101 =>
    if v102 = 0 then (
      rZ 0 h101)
    else (
      cV h101 a0 5 (X5_nextWhole a0 0 20 h101) fun v104 h103 =>
      if v104 = 0 then (
        rZ 0 h103)
      else (
        (gR h103 a0 5 1).bind fun v105 =>
        (gR h103 a0 5 3).bind fun v106 =>
        (gR h103 v106 9 0).bind fun v107 =>
        (gI h103 v107 8 3).bind fun v108 =>
        (X5_keepName v105 v108 a1 h103).bind fun h109 =>
        (gR h109 a0 5 3).bind fun v110 =>
        (gR h109 v110 9 0).bind fun v111 =>
        (gI h109 a0 5 9).bind fun v112 =>
        cVv h109 v111 8 (X8_add v111 s0 v112 0 0 h109) fun h113 =>
        rZ 1 h113)))
theorem X5_readBoy_B58_ok {hh h' : Hp} {r : Int32}  (a0 : Nat) (a1 : Int64) (s0 : Int32) (h : Hp) (H : X5_readBoy_B58 a0 a1 s0 h = some (r, h')) : Go (PM M_X5_readBoy hh (some (.int r)) h') M_X5_readBoy 58 [some (.ref a0), some (.long a1), none, none] [.int s0] h 0 0 := by
  unfold X5_readBoy_B58 at H
  refine go_istore_n (pc := 58) (L' := [some (.ref a0), some (.long a1), none, some (.int s0)]) dX5_readBoy_58 rfl (Nat.le_of_ble_eq_true rfl) rfl ?_
  refine go_iload_n (pc := 59) dX5_readBoy_59 rfl rfl ?_
  refine go_iconst (pc := 60) (v := (-1)) dX5_readBoy_60 (by decide) ?_
  refine go_icmp_ne (pc := 61) (tgt := 70) dX5_readBoy_61 (by decide) H (fun H => ?_) (fun H => ?_)
  · refine go_aload_n (pc := 70) dX5_readBoy_70 rfl rfl ?_
    refine go_ldcS (pc := 71) 14 dX5_readBoy_71 rfl ?_
    refine go_cVi (pc := 73) (Mz := M_X5_nextIs) (as := [.retAddr 14]) (a := a0) (st := []) dX5_readBoy_73 wd_600 cv_X5_nextIs X5_nextIs_ok rfl rfl ⟨Nat.le_of_ble_eq_true rfl, Nat.le_of_ble_eq_true rfl⟩ (Nat.le_of_ble_eq_true rfl) ⟨rfl, rfl⟩ ⟨Nat.le_of_ble_eq_true rfl, Nat.le_of_ble_eq_true rfl⟩ H (fun v102 h101 H => ?_)
    refine go_if_eq (pc := 76) (tgt := 89) dX5_readBoy_76 (by decide) H (fun H => ?_) (fun H => ?_)
    · refine go_iconst (pc := 89) (v := 0) dX5_readBoy_89 (by decide) ?_
      exact go_zret (pc := 90) dX5_readBoy_90 rfl ⟨Nat.le_of_ble_eq_true rfl, Nat.le_of_ble_eq_true rfl⟩ H
    · refine go_aload_n (pc := 79) dX5_readBoy_79 rfl rfl ?_
      refine go_iconst (pc := 80) (v := 0) dX5_readBoy_80 (by decide) ?_
      refine go_bipush (pc := 81) (v := 20) dX5_readBoy_81 (by decide) ?_
      refine go_cVi (pc := 83) (Mz := M_X5_nextWhole) (as := [.int 0, .int 20]) (a := a0) (st := []) dX5_readBoy_83 wd_604 cv_X5_nextWhole X5_nextWhole_ok rfl rfl ⟨Nat.le_of_ble_eq_true rfl, Nat.le_of_ble_eq_true rfl⟩ (Nat.le_of_ble_eq_true rfl) ⟨rfl, rfl⟩ ⟨Nat.le_of_ble_eq_true rfl, Nat.le_of_ble_eq_true rfl⟩ H (fun v104 h103 H => ?_)
      refine go_if_ne (pc := 86) (tgt := 91) dX5_readBoy_86 (by decide) H (fun H => ?_) (fun H => ?_)
      · refine go_aload_n (pc := 91) dX5_readBoy_91 rfl rfl ?_
        refine go_getR (pc := 92) dX5_readBoy_92 fl_X5_9 H (fun v105 H => ?_)
        refine go_aload_n (pc := 95) dX5_readBoy_95 rfl rfl ?_
        refine go_getR (pc := 96) dX5_readBoy_96 fl_X5_22 H (fun v106 H => ?_)
        refine go_getR (pc := 99) dX5_readBoy_99 fl_X5_93 H (fun v107 H => ?_)
        refine go_getI (pc := 102) dX5_readBoy_102 fl_X5_58 H (fun v108 H => ?_)
        refine go_lload_n (pc := 105) dX5_readBoy_105 rfl rfl ?_
        refine go_cSv (pc := 106) (Mz := M_X5_keepName) (as := [.ref v105, .int v108, .long a1]) (st := []) dX5_readBoy_106 wd_641 cs_X5_keepName X5_keepName_ok rfl rfl ⟨Nat.le_of_ble_eq_true rfl, Nat.le_of_ble_eq_true rfl⟩ (Nat.le_of_ble_eq_true rfl) ⟨rfl, rfl⟩ ⟨Nat.le_of_ble_eq_true rfl, Nat.le_of_ble_eq_true rfl⟩ H (fun h109 H => ?_)
        refine go_aload_n (pc := 109) dX5_readBoy_109 rfl rfl ?_
        refine go_getR (pc := 110) dX5_readBoy_110 fl_X5_22 H (fun v110 H => ?_)
        refine go_getR (pc := 113) dX5_readBoy_113 fl_X5_93 H (fun v111 H => ?_)
        refine go_iload_n (pc := 116) dX5_readBoy_116 rfl rfl ?_
        refine go_aload_n (pc := 117) dX5_readBoy_117 rfl rfl ?_
        refine go_getI (pc := 118) dX5_readBoy_118 fl_X5_153 H (fun v112 H => ?_)
        refine go_iconst (pc := 121) (v := 0) dX5_readBoy_121 (by decide) ?_
        refine go_iconst (pc := 122) (v := 0) dX5_readBoy_122 (by decide) ?_
        refine go_cVv (pc := 123) (Mz := M_X8_add) (as := [.int s0, .int v112, .int 0, .int 0]) (a := v111) (st := []) dX5_readBoy_123 wd_644 cv_X8_add X8_add_ok rfl rfl ⟨Nat.le_of_ble_eq_true rfl, Nat.le_of_ble_eq_true rfl⟩ (Nat.le_of_ble_eq_true rfl) ⟨rfl, rfl⟩ ⟨Nat.le_of_ble_eq_true rfl, Nat.le_of_ble_eq_true rfl⟩ H (fun h113 H => ?_)
        refine go_iconst (pc := 126) (v := 1) dX5_readBoy_126 (by decide) ?_
        exact go_zret (pc := 127) dX5_readBoy_127 rfl ⟨Nat.le_of_ble_eq_true rfl, Nat.le_of_ble_eq_true rfl⟩ H
      · refine go_iconst (pc := 89) (v := 0) dX5_readBoy_89 (by decide) ?_
        exact go_zret (pc := 90) dX5_readBoy_90 rfl ⟨Nat.le_of_ble_eq_true rfl, Nat.le_of_ble_eq_true rfl⟩ H
  · refine go_aload_n (pc := 64) dX5_readBoy_64 rfl rfl ?_
    refine go_iconst (pc := 65) (v := 1) dX5_readBoy_65 (by decide) ?_
    refine go_cVi (pc := 66) (Mz := M_X5_fail) (as := [.int 1]) (a := a0) (st := []) dX5_readBoy_66 wd_591 cv_X5_fail X5_fail_ok rfl rfl ⟨Nat.le_of_ble_eq_true rfl, Nat.le_of_ble_eq_true rfl⟩ (Nat.le_of_ble_eq_true rfl) ⟨rfl, rfl⟩ ⟨Nat.le_of_ble_eq_true rfl, Nat.le_of_ble_eq_true rfl⟩ H (fun v115 h114 H => ?_)
    exact go_zret (pc := 69) dX5_readBoy_69 rfl ⟨Nat.le_of_ble_eq_true rfl, Nat.le_of_ble_eq_true rfl⟩ H

def X5_readBoy (a0 : Nat) (h : Hp) : Option (Int32 × Hp) :=
  cV h a0 5 (X5_nextNewName a0 h) fun v2 h1 =>
  if v2 = 0 then (
    rZ 0 h1)
  else (
    (gJ h1 a0 5 8).bind fun v3 =>
    cVv h1 a0 5 (X5_readToken a0 h1) fun h4 =>
    cV h4 a0 5 (X5_is a0 11 h4) fun v6 h5 =>
    if v6 = 0 then (
      cV h5 a0 5 (X5_is a0 12 h5) fun v8 h7 =>
      if v8 = 0 then (
        cV h7 a0 5 (X5_is a0 13 h7) fun v10 h9 =>
        if v10 = 0 then (
          X5_readBoy_B58 a0 v3 (-1) h9)
        else (
          X5_readBoy_B58 a0 v3 2 h9))
      else (
        X5_readBoy_B58 a0 v3 1 h7))
    else (
      X5_readBoy_B58 a0 v3 0 h5))
theorem X5_readBoy_ok {a0 : Nat} {h h' : Hp} {r : Int32} (H : X5_readBoy a0 h = some (r, h')) : Con M_X5_readBoy [.ref a0] h (some (.int r)) h' := by
  refine con_of_go (by decide) 3 (L := [some (.ref a0), none, none, none]) rfl (Nat.le_of_ble_eq_true rfl) ?_
  unfold X5_readBoy at H
  refine go_aload_n (pc := 0) dX5_readBoy_0 rfl rfl ?_
  refine go_cVi (pc := 1) (Mz := M_X5_nextNewName) (as := []) (a := a0) (st := []) dX5_readBoy_1 wd_629 cv_X5_nextNewName X5_nextNewName_ok rfl rfl ⟨Nat.le_of_ble_eq_true rfl, Nat.le_of_ble_eq_true rfl⟩ (Nat.le_of_ble_eq_true rfl) ⟨rfl, rfl⟩ ⟨Nat.le_of_ble_eq_true rfl, Nat.le_of_ble_eq_true rfl⟩ H (fun v2 h1 H => ?_)
  refine go_if_ne (pc := 4) (tgt := 9) dX5_readBoy_4 (by decide) H (fun H => ?_) (fun H => ?_)
  · refine go_aload_n (pc := 9) dX5_readBoy_9 rfl rfl ?_
    refine go_getJ (pc := 10) dX5_readBoy_10 fl_X5_173 H (fun v3 H => ?_)
    refine go_lstore_n (pc := 13) (L' := [some (.ref a0), some (.long v3), none, none]) dX5_readBoy_13 rfl (Nat.le_of_ble_eq_true rfl) rfl ?_
    refine go_aload_n (pc := 14) dX5_readBoy_14 rfl rfl ?_
    refine go_cVv (pc := 15) (Mz := M_X5_readToken) (as := []) (a := a0) (st := []) dX5_readBoy_15 wd_527 cv_X5_readToken X5_readToken_ok rfl rfl ⟨Nat.le_of_ble_eq_true rfl, Nat.le_of_ble_eq_true rfl⟩ (Nat.le_of_ble_eq_true rfl) ⟨rfl, rfl⟩ ⟨Nat.le_of_ble_eq_true rfl, Nat.le_of_ble_eq_true rfl⟩ H (fun h4 H => ?_)
    refine go_aload_n (pc := 18) dX5_readBoy_18 rfl rfl ?_
    refine go_ldcS (pc := 19) 11 dX5_readBoy_19 rfl ?_
    refine go_cVi (pc := 21) (Mz := M_X5_is) (as := [.retAddr 11]) (a := a0) (st := []) dX5_readBoy_21 wd_539 cv_X5_is X5_is_ok rfl rfl ⟨Nat.le_of_ble_eq_true rfl, Nat.le_of_ble_eq_true rfl⟩ (Nat.le_of_ble_eq_true rfl) ⟨rfl, rfl⟩ ⟨Nat.le_of_ble_eq_true rfl, Nat.le_of_ble_eq_true rfl⟩ H (fun v6 h5 H => ?_)
    refine go_if_eq (pc := 24) (tgt := 31) dX5_readBoy_24 (by decide) H (fun H => ?_) (fun H => ?_)
    · refine go_aload_n (pc := 31) dX5_readBoy_31 rfl rfl ?_
      refine go_ldcS (pc := 32) 12 dX5_readBoy_32 rfl ?_
      refine go_cVi (pc := 34) (Mz := M_X5_is) (as := [.retAddr 12]) (a := a0) (st := []) dX5_readBoy_34 wd_539 cv_X5_is X5_is_ok rfl rfl ⟨Nat.le_of_ble_eq_true rfl, Nat.le_of_ble_eq_true rfl⟩ (Nat.le_of_ble_eq_true rfl) ⟨rfl, rfl⟩ ⟨Nat.le_of_ble_eq_true rfl, Nat.le_of_ble_eq_true rfl⟩ H (fun v8 h7 H => ?_)
      refine go_if_eq (pc := 37) (tgt := 44) dX5_readBoy_37 (by decide) H (fun H => ?_) (fun H => ?_)
      · refine go_aload_n (pc := 44) dX5_readBoy_44 rfl rfl ?_
        refine go_ldcS (pc := 45) 13 dX5_readBoy_45 rfl ?_
        refine go_cVi (pc := 47) (Mz := M_X5_is) (as := [.retAddr 13]) (a := a0) (st := []) dX5_readBoy_47 wd_539 cv_X5_is X5_is_ok rfl rfl ⟨Nat.le_of_ble_eq_true rfl, Nat.le_of_ble_eq_true rfl⟩ (Nat.le_of_ble_eq_true rfl) ⟨rfl, rfl⟩ ⟨Nat.le_of_ble_eq_true rfl, Nat.le_of_ble_eq_true rfl⟩ H (fun v10 h9 H => ?_)
        refine go_if_eq (pc := 50) (tgt := 57) dX5_readBoy_50 (by decide) H (fun H => ?_) (fun H => ?_)
        · refine go_iconst (pc := 57) (v := (-1)) dX5_readBoy_57 (by decide) ?_
          exact Go.weak (L' := [some (.ref a0), some (.long v3), none, none]) ⟨rfl, ⟨rfl, trivial⟩⟩ (X5_readBoy_B58_ok a0 v3 (-1) h9 H)
        · refine go_iconst (pc := 53) (v := 2) dX5_readBoy_53 (by decide) ?_
          refine go_goto (pc := 54) (tgt := 58) dX5_readBoy_54 (by decide) ?_
          exact Go.weak (L' := [some (.ref a0), some (.long v3), none, none]) ⟨rfl, ⟨rfl, trivial⟩⟩ (X5_readBoy_B58_ok a0 v3 2 h9 H)
      · refine go_iconst (pc := 40) (v := 1) dX5_readBoy_40 (by decide) ?_
        refine go_goto (pc := 41) (tgt := 58) dX5_readBoy_41 (by decide) ?_
        exact Go.weak (L' := [some (.ref a0), some (.long v3), none, none]) ⟨rfl, ⟨rfl, trivial⟩⟩ (X5_readBoy_B58_ok a0 v3 1 h7 H)
    · refine go_iconst (pc := 27) (v := 0) dX5_readBoy_27 (by decide) ?_
      refine go_goto (pc := 28) (tgt := 58) dX5_readBoy_28 (by decide) ?_
      exact Go.weak (L' := [some (.ref a0), some (.long v3), none, none]) ⟨rfl, ⟨rfl, trivial⟩⟩ (X5_readBoy_B58_ok a0 v3 0 h5 H)
  · refine go_iconst (pc := 7) (v := 0) dX5_readBoy_7 (by decide) ?_
    exact go_zret (pc := 8) dX5_readBoy_8 rfl ⟨Nat.le_of_ble_eq_true rfl, Nat.le_of_ble_eq_true rfl⟩ H

def M_X5_looksEvery : MD := (yX5_looksEvery, cX5_looksEvery, 3, (some .int), 0, 0, 0, 0)
theorem cs_X5_looksEvery : CSo M_X5_looksEvery 1 := ⟨⟨wd_660, wd_113, ⟨by decide, by decide⟩, by decide +kernel⟩, wd_659⟩
def X5_looksEvery_B28 (rc4 : Int32 → Int32 → Int32 → Hp → Option (Int32 × Hp)) (a0 : Int32) (a1 : Int32) (a2 : Int32) (h : Hp) : Option (Int32 × Hp) :=
  rc4 a0 a1 (a2 + 1) h
theorem X5_looksEvery_B28_ok {hh h' : Hp} {r : Int32}  (rc4 : Int32 → Int32 → Int32 → Hp → Option (Int32 × Hp)) (hrc4 : ∀ (a0 : Int32) (a1 : Int32) (a2 : Int32) (h : Hp), rc4 a0 a1 a2 h = some (r, h') → Go (PM M_X5_looksEvery hh (some (.int r)) h') M_X5_looksEvery 4 [some (.int a0), some (.int a1), some (.int a2)] [] h 0 0) (a0 : Int32) (a1 : Int32) (a2 : Int32) (h : Hp) (H : X5_looksEvery_B28 rc4 a0 a1 a2 h = some (r, h')) : Go (PM M_X5_looksEvery hh (some (.int r)) h') M_X5_looksEvery 28 [some (.int a0), some (.int a1), some (.int a2)] [] h 0 0 := by
  unfold X5_looksEvery_B28 at H
  refine go_iinc (pc := 28) (v := a2 + 1) (L' := [some (.int a0), some (.int a1), some (.int (a2 + 1))]) dX5_looksEvery_28 rfl rfl (Nat.le_of_ble_eq_true rfl) rfl ?_
  refine go_goto (pc := 31) (tgt := 4) dX5_looksEvery_31 (by decide) ?_
  exact Go.weak (L' := [some (.int a0), some (.int a1), some (.int (a2 + 1))]) ⟨rfl, ⟨rfl, ⟨rfl, trivial⟩⟩⟩ (hrc4 a0 a1 (a2 + 1) h H)

def X5_looksEvery_L4_s (rc4 : Int32 → Int32 → Int32 → Hp → Option (Int32 × Hp)) (a0 : Int32) (a1 : Int32) (a2 : Int32) (h : Hp) : Option (Int32 × Hp) :=
  if 8 < a2 then (
    some (a1, h))
  else (
    if a0 ≤ 0 then (
      X5_looksEvery_B28 rc4 a0 a1 a2 h)
    else (
      if a0 = 0 then none else
      if (a2 - a2 / a0 * a0) = 0 then (
        pin (a1 ||| ((1 : Int32) <<< ((a2 - 1) &&& 31))) fun v101 =>
        X5_looksEvery_B28 rc4 a0 v101 a2 h)
      else (
        X5_looksEvery_B28 rc4 a0 a1 a2 h)))
def X5_looksEvery_L4 (q : Nat) : Int32 → Int32 → Int32 → Hp → Option (Int32 × Hp) := loopN (fun _ _ _ _ => none) (X5_looksEvery_L4_s) q
theorem X5_looksEvery_L4_ok {hh h' : Hp} {r : Int32}  : ∀ (q : Nat) (a0 : Int32) (a1 : Int32) (a2 : Int32) (h : Hp), X5_looksEvery_L4 q a0 a1 a2 h = some (r, h') → Go (PM M_X5_looksEvery hh (some (.int r)) h') M_X5_looksEvery 4 [some (.int a0), some (.int a1), some (.int a2)] [] h 0 0 := by
  intro q
  induction q with
  | zero => intro a0 a1 a2 h H; cases H
  | succ q hrc4 =>
    intro a0 a1 a2 h H
    replace H : X5_looksEvery_L4_s (X5_looksEvery_L4 q) a0 a1 a2 h = some (r, h') := H
    unfold X5_looksEvery_L4_s at H
    refine go_iload_n (pc := 4) dX5_looksEvery_4 rfl rfl ?_
    refine go_bipush (pc := 5) (v := 8) dX5_looksEvery_5 (by decide) ?_
    refine go_icmp_gt (pc := 7) (tgt := 34) dX5_looksEvery_7 (by decide) H (fun H => ?_) (fun H => ?_)
    · refine go_iload_n (pc := 34) dX5_looksEvery_34 rfl rfl ?_
      exact go_iret (pc := 35) dX5_looksEvery_35 rfl ⟨Nat.le_of_ble_eq_true rfl, Nat.le_of_ble_eq_true rfl⟩ H
    · refine go_iload_n (pc := 10) dX5_looksEvery_10 rfl rfl ?_
      refine go_if_le (pc := 11) (tgt := 28) dX5_looksEvery_11 (by decide) H (fun H => ?_) (fun H => ?_)
      · exact Go.weak (L' := [some (.int a0), some (.int a1), some (.int a2)]) ⟨rfl, ⟨rfl, ⟨rfl, trivial⟩⟩⟩ (X5_looksEvery_B28_ok _ hrc4 a0 a1 a2 h H)
      · refine go_iload_n (pc := 14) dX5_looksEvery_14 rfl rfl ?_
        refine go_iload_n (pc := 15) dX5_looksEvery_15 rfl rfl ?_
        refine go_iremC (pc := 16) dX5_looksEvery_16 H (fun H => ?_)
        refine go_if_ne (pc := 17) (tgt := 28) dX5_looksEvery_17 (by decide) H (fun H => ?_) (fun H => ?_)
        · exact Go.weak (L' := [some (.int a0), some (.int a1), some (.int a2)]) ⟨rfl, ⟨rfl, ⟨rfl, trivial⟩⟩⟩ (X5_looksEvery_B28_ok _ hrc4 a0 a1 a2 h H)
        · refine go_iload_n (pc := 20) dX5_looksEvery_20 rfl rfl ?_
          refine go_iconst (pc := 21) (v := 1) dX5_looksEvery_21 (by decide) ?_
          refine go_iload_n (pc := 22) dX5_looksEvery_22 rfl rfl ?_
          refine go_iconst (pc := 23) (v := 1) dX5_looksEvery_23 (by decide) ?_
          refine go_isub (pc := 24) dX5_looksEvery_24 ?_
          refine go_ishl (pc := 25) dX5_looksEvery_25 ?_
          refine go_ior (pc := 26) dX5_looksEvery_26 ?_
          refine go_pin H (fun v101 H => ?_)
          refine go_istore_n (pc := 27) (L' := [some (.int a0), some (.int v101), some (.int a2)]) dX5_looksEvery_27 rfl (Nat.le_of_ble_eq_true rfl) rfl ?_
          exact Go.weak (L' := [some (.int a0), some (.int v101), some (.int a2)]) ⟨rfl, ⟨rfl, ⟨rfl, trivial⟩⟩⟩ (X5_looksEvery_B28_ok _ hrc4 a0 v101 a2 h H)

def X5_looksEvery (a0 : Int32) (h : Hp) : Option (Int32 × Hp) :=
  X5_looksEvery_L4 5000 a0 0 1 h
theorem X5_looksEvery_ok {a0 : Int32} {h h' : Hp} {r : Int32} (H : X5_looksEvery a0 h = some (r, h')) : Con M_X5_looksEvery [.int a0] h (some (.int r)) h' := by
  refine con_of_go (by decide) 2 (L := [some (.int a0), none, none]) rfl (Nat.le_of_ble_eq_true rfl) ?_
  unfold X5_looksEvery at H
  refine go_iconst (pc := 0) (v := 0) dX5_looksEvery_0 (by decide) ?_
  refine go_istore_n (pc := 1) (L' := [some (.int a0), some (.int 0), none]) dX5_looksEvery_1 rfl (Nat.le_of_ble_eq_true rfl) rfl ?_
  refine go_iconst (pc := 2) (v := 1) dX5_looksEvery_2 (by decide) ?_
  refine go_istore_n (pc := 3) (L' := [some (.int a0), some (.int 0), some (.int 1)]) dX5_looksEvery_3 rfl (Nat.le_of_ble_eq_true rfl) rfl ?_
  exact Go.weak (L' := [some (.int a0), some (.int 0), some (.int 1)]) ⟨rfl, ⟨rfl, ⟨rfl, trivial⟩⟩⟩ (X5_looksEvery_L4_ok 5000 a0 0 1 h H)

def M_X5_readOfficer : MD := (yX5_readOfficer, cX5_readOfficer, 3, (some .boolean), 7, 150, 0, 0)
theorem cv_X5_readOfficer : CVo M_X5_readOfficer 0 5 := ⟨⟨wd_656, wd_113, ⟨by decide, by decide⟩, by decide +kernel⟩, wd_655, wd_14, _, rfl, rfl⟩
def X5_readOfficer (a0 : Nat) (h : Hp) : Option (Int32 × Hp) :=
  cV h a0 5 (X5_nextNewName a0 h) fun v2 h1 =>
  if v2 = 0 then (
    rZ 0 h1)
  else (
    (gJ h1 a0 5 8).bind fun v3 =>
    cV h1 a0 5 (X5_nextIs a0 15 h1) fun v5 h4 =>
    if v5 = 0 then (
      rZ 0 h4)
    else (
      cV h4 a0 5 (X5_nextWhole a0 1 9 h4) fun v7 h6 =>
      if v7 = 0 then (
        rZ 0 h6)
      else (
        (gR h6 a0 5 2).bind fun v8 =>
        (gR h6 a0 5 3).bind fun v9 =>
        (gR h6 v9 9 1).bind fun v10 =>
        (gI h6 v10 8 3).bind fun v11 =>
        (X5_keepName v8 v11 v3 h6).bind fun h12 =>
        (gR h12 a0 5 3).bind fun v13 =>
        (gR h12 v13 9 1).bind fun v14 =>
        (gI h12 a0 5 9).bind fun v15 =>
        (gI h12 a0 5 9).bind fun v16 =>
        bd (X5_looksEvery v16 h12) fun v18 h17 =>
        cVv h17 v14 8 (X8_add v14 v15 v18 0 0 h17) fun h19 =>
        rZ 1 h19)))
theorem X5_readOfficer_ok {a0 : Nat} {h h' : Hp} {r : Int32} (H : X5_readOfficer a0 h = some (r, h')) : Con M_X5_readOfficer [.ref a0] h (some (.int r)) h' := by
  refine con_of_go (by decide) 2 (L := [some (.ref a0), none, none]) rfl (Nat.le_of_ble_eq_true rfl) ?_
  unfold X5_readOfficer at H
  refine go_aload_n (pc := 0) dX5_readOfficer_0 rfl rfl ?_
  refine go_cVi (pc := 1) (Mz := M_X5_nextNewName) (as := []) (a := a0) (st := []) dX5_readOfficer_1 wd_629 cv_X5_nextNewName X5_nextNewName_ok rfl rfl ⟨Nat.le_of_ble_eq_true rfl, Nat.le_of_ble_eq_true rfl⟩ (Nat.le_of_ble_eq_true rfl) ⟨rfl, rfl⟩ ⟨Nat.le_of_ble_eq_true rfl, Nat.le_of_ble_eq_true rfl⟩ H (fun v2 h1 H => ?_)
  refine go_if_ne (pc := 4) (tgt := 9) dX5_readOfficer_4 (by decide) H (fun H => ?_) (fun H => ?_)
  · refine go_aload_n (pc := 9) dX5_readOfficer_9 rfl rfl ?_
    refine go_getJ (pc := 10) dX5_readOfficer_10 fl_X5_173 H (fun v3 H => ?_)
    refine go_lstore_n (pc := 13) (L' := [some (.ref a0), some (.long v3), none]) dX5_readOfficer_13 rfl (Nat.le_of_ble_eq_true rfl) rfl ?_
    refine go_aload_n (pc := 14) dX5_readOfficer_14 rfl rfl ?_
    refine go_ldcS (pc := 15) 15 dX5_readOfficer_15 rfl ?_
    refine go_cVi (pc := 17) (Mz := M_X5_nextIs) (as := [.retAddr 15]) (a := a0) (st := []) dX5_readOfficer_17 wd_600 cv_X5_nextIs X5_nextIs_ok rfl rfl ⟨Nat.le_of_ble_eq_true rfl, Nat.le_of_ble_eq_true rfl⟩ (Nat.le_of_ble_eq_true rfl) ⟨rfl, rfl⟩ ⟨Nat.le_of_ble_eq_true rfl, Nat.le_of_ble_eq_true rfl⟩ H (fun v5 h4 H => ?_)
    refine go_if_eq (pc := 20) (tgt := 33) dX5_readOfficer_20 (by decide) H (fun H => ?_) (fun H => ?_)
    · refine go_iconst (pc := 33) (v := 0) dX5_readOfficer_33 (by decide) ?_
      exact go_zret (pc := 34) dX5_readOfficer_34 rfl ⟨Nat.le_of_ble_eq_true rfl, Nat.le_of_ble_eq_true rfl⟩ H
    · refine go_aload_n (pc := 23) dX5_readOfficer_23 rfl rfl ?_
      refine go_iconst (pc := 24) (v := 1) dX5_readOfficer_24 (by decide) ?_
      refine go_bipush (pc := 25) (v := 9) dX5_readOfficer_25 (by decide) ?_
      refine go_cVi (pc := 27) (Mz := M_X5_nextWhole) (as := [.int 1, .int 9]) (a := a0) (st := []) dX5_readOfficer_27 wd_604 cv_X5_nextWhole X5_nextWhole_ok rfl rfl ⟨Nat.le_of_ble_eq_true rfl, Nat.le_of_ble_eq_true rfl⟩ (Nat.le_of_ble_eq_true rfl) ⟨rfl, rfl⟩ ⟨Nat.le_of_ble_eq_true rfl, Nat.le_of_ble_eq_true rfl⟩ H (fun v7 h6 H => ?_)
      refine go_if_ne (pc := 30) (tgt := 35) dX5_readOfficer_30 (by decide) H (fun H => ?_) (fun H => ?_)
      · refine go_aload_n (pc := 35) dX5_readOfficer_35 rfl rfl ?_
        refine go_getR (pc := 36) dX5_readOfficer_36 fl_X5_15 H (fun v8 H => ?_)
        refine go_aload_n (pc := 39) dX5_readOfficer_39 rfl rfl ?_
        refine go_getR (pc := 40) dX5_readOfficer_40 fl_X5_22 H (fun v9 H => ?_)
        refine go_getR (pc := 43) dX5_readOfficer_43 fl_X5_104 H (fun v10 H => ?_)
        refine go_getI (pc := 46) dX5_readOfficer_46 fl_X5_58 H (fun v11 H => ?_)
        refine go_lload_n (pc := 49) dX5_readOfficer_49 rfl rfl ?_
        refine go_cSv (pc := 50) (Mz := M_X5_keepName) (as := [.ref v8, .int v11, .long v3]) (st := []) dX5_readOfficer_50 wd_641 cs_X5_keepName X5_keepName_ok rfl rfl ⟨Nat.le_of_ble_eq_true rfl, Nat.le_of_ble_eq_true rfl⟩ (Nat.le_of_ble_eq_true rfl) ⟨rfl, rfl⟩ ⟨Nat.le_of_ble_eq_true rfl, Nat.le_of_ble_eq_true rfl⟩ H (fun h12 H => ?_)
        refine go_aload_n (pc := 53) dX5_readOfficer_53 rfl rfl ?_
        refine go_getR (pc := 54) dX5_readOfficer_54 fl_X5_22 H (fun v13 H => ?_)
        refine go_getR (pc := 57) dX5_readOfficer_57 fl_X5_104 H (fun v14 H => ?_)
        refine go_aload_n (pc := 60) dX5_readOfficer_60 rfl rfl ?_
        refine go_getI (pc := 61) dX5_readOfficer_61 fl_X5_153 H (fun v15 H => ?_)
        refine go_aload_n (pc := 64) dX5_readOfficer_64 rfl rfl ?_
        refine go_getI (pc := 65) dX5_readOfficer_65 fl_X5_153 H (fun v16 H => ?_)
        refine go_cSi (pc := 68) (Mz := M_X5_looksEvery) (as := [.int v16]) (st := [.int v15, .ref v14]) dX5_readOfficer_68 wd_658 cs_X5_looksEvery X5_looksEvery_ok rfl rfl ⟨Nat.le_of_ble_eq_true rfl, Nat.le_of_ble_eq_true rfl⟩ (Nat.le_of_ble_eq_true rfl) ⟨rfl, rfl⟩ ⟨Nat.le_of_ble_eq_true rfl, Nat.le_of_ble_eq_true rfl⟩ H (fun v18 h17 H => ?_)
        refine go_iconst (pc := 71) (v := 0) dX5_readOfficer_71 (by decide) ?_
        refine go_iconst (pc := 72) (v := 0) dX5_readOfficer_72 (by decide) ?_
        refine go_cVv (pc := 73) (Mz := M_X8_add) (as := [.int v15, .int v18, .int 0, .int 0]) (a := v14) (st := []) dX5_readOfficer_73 wd_644 cv_X8_add X8_add_ok rfl rfl ⟨Nat.le_of_ble_eq_true rfl, Nat.le_of_ble_eq_true rfl⟩ (Nat.le_of_ble_eq_true rfl) ⟨rfl, rfl⟩ ⟨Nat.le_of_ble_eq_true rfl, Nat.le_of_ble_eq_true rfl⟩ H (fun h19 H => ?_)
        refine go_iconst (pc := 76) (v := 1) dX5_readOfficer_76 (by decide) ?_
        exact go_zret (pc := 77) dX5_readOfficer_77 rfl ⟨Nat.le_of_ble_eq_true rfl, Nat.le_of_ble_eq_true rfl⟩ H
      · refine go_iconst (pc := 33) (v := 0) dX5_readOfficer_33 (by decide) ?_
        exact go_zret (pc := 34) dX5_readOfficer_34 rfl ⟨Nat.le_of_ble_eq_true rfl, Nat.le_of_ble_eq_true rfl⟩ H
  · refine go_iconst (pc := 7) (v := 0) dX5_readOfficer_7 (by decide) ?_
    exact go_zret (pc := 8) dX5_readOfficer_8 rfl ⟨Nat.le_of_ble_eq_true rfl, Nat.le_of_ble_eq_true rfl⟩ H

def M_X5_nextNameOf : MD := (yX5_nextNameOf, cX5_nextNameOf, 3, (some .boolean), 6, 129, 0, 0)
theorem cv_X5_nextNameOf : CVo M_X5_nextNameOf 2 5 := ⟨⟨wd_668, wd_113, ⟨by decide, by decide⟩, by decide +kernel⟩, wd_667, wd_16, _, rfl, rfl⟩
def X5_nextNameOf_B19 (a0 : Nat) (h : Hp) : Option (Int32 × Hp) :=
  cV h a0 5 (X5_fail a0 1 h) fun v102 h101 =>
  rZ v102 h101
theorem X5_nextNameOf_B19_ok {hh h' : Hp} {r : Int32}  (a0 : Nat) (h : Hp) (H : X5_nextNameOf_B19 a0 h = some (r, h')) : Go (PM M_X5_nextNameOf hh (some (.int r)) h') M_X5_nextNameOf 19 [some (.ref a0), none, none] [] h 0 0 := by
  unfold X5_nextNameOf_B19 at H
  refine go_aload_n (pc := 19) dX5_nextNameOf_19 rfl rfl ?_
  refine go_iconst (pc := 20) (v := 1) dX5_nextNameOf_20 (by decide) ?_
  refine go_cVi (pc := 21) (Mz := M_X5_fail) (as := [.int 1]) (a := a0) (st := []) dX5_nextNameOf_21 wd_591 cv_X5_fail X5_fail_ok rfl rfl ⟨Nat.le_of_ble_eq_true rfl, Nat.le_of_ble_eq_true rfl⟩ (Nat.le_of_ble_eq_true rfl) ⟨rfl, rfl⟩ ⟨Nat.le_of_ble_eq_true rfl, Nat.le_of_ble_eq_true rfl⟩ H (fun v102 h101 H => ?_)
  exact go_zret (pc := 24) dX5_nextNameOf_24 rfl ⟨Nat.le_of_ble_eq_true rfl, Nat.le_of_ble_eq_true rfl⟩ H

def X5_nextNameOf_B51 (h : Hp) : Option (Int32 × Hp) :=
  rZ 1 h
theorem X5_nextNameOf_B51_ok {hh h' : Hp} {r : Int32}  (h : Hp) (H : X5_nextNameOf_B51 h = some (r, h')) : Go (PM M_X5_nextNameOf hh (some (.int r)) h') M_X5_nextNameOf 51 [none, none, none] [] h 0 0 := by
  unfold X5_nextNameOf_B51 at H
  refine go_iconst (pc := 51) (v := 1) dX5_nextNameOf_51 (by decide) ?_
  refine go_goto (pc := 52) (tgt := 56) dX5_nextNameOf_52 (by decide) ?_
  exact go_zret (pc := 56) dX5_nextNameOf_56 rfl ⟨Nat.le_of_ble_eq_true rfl, Nat.le_of_ble_eq_true rfl⟩ H

def X5_nextNameOf (a0 : Nat) (a1 : Nat) (a2 : Int32) (h : Hp) : Option (Int32 × Hp) :=
  cVv h a0 5 (X5_readToken a0 h) fun h1 =>
  (gI h1 a0 5 6).bind fun v2 =>
  if v2 = 1 then (
    cV h1 a0 5 (X5_beginsLine a0 h1) fun v4 h3 =>
    if v4 = 0 then (
      cV h3 a0 5 (X5_numberOf a0 a1 a2 h3) fun v6 h5 =>
      (pF h5 a0 5 10 (.int v6)).bind fun h7 =>
      (gI h7 a0 5 10).bind fun v8 =>
      if v8 = (-1) then (
        cV h7 a0 5 (X5_fail a0 2 h7) fun v10 h9 =>
        if v10 = 0 then (
          rZ 0 h9)
        else (
          X5_nextNameOf_B51 h9))
      else (
        X5_nextNameOf_B51 h7))
    else (
      X5_nextNameOf_B19 a0 h3))
  else (
    X5_nextNameOf_B19 a0 h1)
theorem X5_nextNameOf_ok {a0 : Nat} {a1 : Nat} {a2 : Int32} {h h' : Hp} {r : Int32} (H : X5_nextNameOf a0 a1 a2 h = some (r, h')) : Con M_X5_nextNameOf [.ref a0, .ref a1, .int a2] h (some (.int r)) h' := by
  refine con_of_go (by decide) 0 (L := [some (.ref a0), some (.ref a1), some (.int a2)]) rfl (Nat.le_of_ble_eq_true rfl) ?_
  unfold X5_nextNameOf at H
  refine go_aload_n (pc := 0) dX5_nextNameOf_0 rfl rfl ?_
  refine go_cVv (pc := 1) (Mz := M_X5_readToken) (as := []) (a := a0) (st := []) dX5_nextNameOf_1 wd_527 cv_X5_readToken X5_readToken_ok rfl rfl ⟨Nat.le_of_ble_eq_true rfl, Nat.le_of_ble_eq_true rfl⟩ (Nat.le_of_ble_eq_true rfl) ⟨rfl, rfl⟩ ⟨Nat.le_of_ble_eq_true rfl, Nat.le_of_ble_eq_true rfl⟩ H (fun h1 H => ?_)
  refine go_aload_n (pc := 4) dX5_nextNameOf_4 rfl rfl ?_
  refine go_getI (pc := 5) dX5_nextNameOf_5 fl_X5_73 H (fun v2 H => ?_)
  refine go_iconst (pc := 8) (v := 1) dX5_nextNameOf_8 (by decide) ?_
  refine go_icmp_ne (pc := 9) (tgt := 19) dX5_nextNameOf_9 (by decide) H (fun H => ?_) (fun H => ?_)
  · exact Go.weak (L' := [some (.ref a0), none, none]) ⟨rfl, trivial⟩ (X5_nextNameOf_B19_ok a0 h1 H)
  · refine go_aload_n (pc := 12) dX5_nextNameOf_12 rfl rfl ?_
    refine go_cVi (pc := 13) (Mz := M_X5_beginsLine) (as := []) (a := a0) (st := []) dX5_nextNameOf_13 wd_610 cv_X5_beginsLine X5_beginsLine_ok rfl rfl ⟨Nat.le_of_ble_eq_true rfl, Nat.le_of_ble_eq_true rfl⟩ (Nat.le_of_ble_eq_true rfl) ⟨rfl, rfl⟩ ⟨Nat.le_of_ble_eq_true rfl, Nat.le_of_ble_eq_true rfl⟩ H (fun v4 h3 H => ?_)
    refine go_if_eq (pc := 16) (tgt := 25) dX5_nextNameOf_16 (by decide) H (fun H => ?_) (fun H => ?_)
    · refine go_aload_n (pc := 25) dX5_nextNameOf_25 rfl rfl ?_
      refine go_aload_n (pc := 26) dX5_nextNameOf_26 rfl rfl ?_
      refine go_aload_n (pc := 27) dX5_nextNameOf_27 rfl rfl ?_
      refine go_iload_n (pc := 28) dX5_nextNameOf_28 rfl rfl ?_
      refine go_cVi (pc := 29) (Mz := M_X5_numberOf) (as := [.ref a1, .int a2]) (a := a0) (st := [.ref a0]) dX5_nextNameOf_29 wd_633 cv_X5_numberOf X5_numberOf_ok rfl rfl ⟨Nat.le_of_ble_eq_true rfl, Nat.le_of_ble_eq_true rfl⟩ (Nat.le_of_ble_eq_true rfl) ⟨rfl, rfl⟩ ⟨Nat.le_of_ble_eq_true rfl, Nat.le_of_ble_eq_true rfl⟩ H (fun v6 h5 H => ?_)
      refine go_putI (pc := 32) dX5_nextNameOf_32 fs_X5_203 H (fun h7 H => ?_)
      refine go_aload_n (pc := 35) dX5_nextNameOf_35 rfl rfl ?_
      refine go_getI (pc := 36) dX5_nextNameOf_36 fl_X5_203 H (fun v8 H => ?_)
      refine go_iconst (pc := 39) (v := (-1)) dX5_nextNameOf_39 (by decide) ?_
      refine go_icmp_ne (pc := 40) (tgt := 51) dX5_nextNameOf_40 (by decide) H (fun H => ?_) (fun H => ?_)
      · exact Go.weak (L' := [none, none, none]) trivial (X5_nextNameOf_B51_ok h7 H)
      · refine go_aload_n (pc := 43) dX5_nextNameOf_43 rfl rfl ?_
        refine go_iconst (pc := 44) (v := 2) dX5_nextNameOf_44 (by decide) ?_
        refine go_cVi (pc := 45) (Mz := M_X5_fail) (as := [.int 2]) (a := a0) (st := []) dX5_nextNameOf_45 wd_591 cv_X5_fail X5_fail_ok rfl rfl ⟨Nat.le_of_ble_eq_true rfl, Nat.le_of_ble_eq_true rfl⟩ (Nat.le_of_ble_eq_true rfl) ⟨rfl, rfl⟩ ⟨Nat.le_of_ble_eq_true rfl, Nat.le_of_ble_eq_true rfl⟩ H (fun v10 h9 H => ?_)
        refine go_if_eq (pc := 48) (tgt := 55) dX5_nextNameOf_48 (by decide) H (fun H => ?_) (fun H => ?_)
        · refine go_iconst (pc := 55) (v := 0) dX5_nextNameOf_55 (by decide) ?_
          exact go_zret (pc := 56) dX5_nextNameOf_56 rfl ⟨Nat.le_of_ble_eq_true rfl, Nat.le_of_ble_eq_true rfl⟩ H
        · exact Go.weak (L' := [none, none, none]) trivial (X5_nextNameOf_B51_ok h9 H)
    · exact Go.weak (L' := [some (.ref a0), none, none]) ⟨rfl, trivial⟩ (X5_nextNameOf_B19_ok a0 h3 H)

def M_X5_courseRead : MD := (yX5_courseRead, cX5_courseRead, 1, (some .int), 5, 109, 0, 0)
theorem cv_X5_courseRead : CVo M_X5_courseRead 0 5 := ⟨⟨wd_672, wd_113, ⟨by decide, by decide⟩, by decide +kernel⟩, wd_671, wd_17, _, rfl, rfl⟩
def X5_courseRead (a0 : Nat) (h : Hp) : Option (Int32 × Hp) :=
  cV h a0 5 (X5_is a0 16 h) fun v2 h1 =>
  if v2 = 0 then (
    cV h1 a0 5 (X5_is a0 17 h1) fun v4 h3 =>
    if v4 = 0 then (
      cV h3 a0 5 (X5_is a0 18 h3) fun v6 h5 =>
      if v6 = 0 then (
        cV h5 a0 5 (X5_is a0 19 h5) fun v8 h7 =>
        if v8 = 0 then (
          some ((-1), h7))
        else (
          some (3, h7)))
      else (
        some (2, h5)))
    else (
      some (1, h3)))
  else (
    some (0, h1))
theorem X5_courseRead_ok {a0 : Nat} {h h' : Hp} {r : Int32} (H : X5_courseRead a0 h = some (r, h')) : Con M_X5_courseRead [.ref a0] h (some (.int r)) h' := by
  refine con_of_go (by decide) 0 (L := [some (.ref a0)]) rfl (Nat.le_of_ble_eq_true rfl) ?_
  unfold X5_courseRead at H
  refine go_aload_n (pc := 0) dX5_courseRead_0 rfl rfl ?_
  refine go_ldcS (pc := 1) 16 dX5_courseRead_1 rfl ?_
  refine go_cVi (pc := 3) (Mz := M_X5_is) (as := [.retAddr 16]) (a := a0) (st := []) dX5_courseRead_3 wd_539 cv_X5_is X5_is_ok rfl rfl ⟨Nat.le_of_ble_eq_true rfl, Nat.le_of_ble_eq_true rfl⟩ (Nat.le_of_ble_eq_true rfl) ⟨rfl, rfl⟩ ⟨Nat.le_of_ble_eq_true rfl, Nat.le_of_ble_eq_true rfl⟩ H (fun v2 h1 H => ?_)
  refine go_if_eq (pc := 6) (tgt := 11) dX5_courseRead_6 (by decide) H (fun H => ?_) (fun H => ?_)
  · refine go_aload_n (pc := 11) dX5_courseRead_11 rfl rfl ?_
    refine go_ldcS (pc := 12) 17 dX5_courseRead_12 rfl ?_
    refine go_cVi (pc := 14) (Mz := M_X5_is) (as := [.retAddr 17]) (a := a0) (st := []) dX5_courseRead_14 wd_539 cv_X5_is X5_is_ok rfl rfl ⟨Nat.le_of_ble_eq_true rfl, Nat.le_of_ble_eq_true rfl⟩ (Nat.le_of_ble_eq_true rfl) ⟨rfl, rfl⟩ ⟨Nat.le_of_ble_eq_true rfl, Nat.le_of_ble_eq_true rfl⟩ H (fun v4 h3 H => ?_)
    refine go_if_eq (pc := 17) (tgt := 22) dX5_courseRead_17 (by decide) H (fun H => ?_) (fun H => ?_)
    · refine go_aload_n (pc := 22) dX5_courseRead_22 rfl rfl ?_
      refine go_ldcS (pc := 23) 18 dX5_courseRead_23 rfl ?_
      refine go_cVi (pc := 25) (Mz := M_X5_is) (as := [.retAddr 18]) (a := a0) (st := []) dX5_courseRead_25 wd_539 cv_X5_is X5_is_ok rfl rfl ⟨Nat.le_of_ble_eq_true rfl, Nat.le_of_ble_eq_true rfl⟩ (Nat.le_of_ble_eq_true rfl) ⟨rfl, rfl⟩ ⟨Nat.le_of_ble_eq_true rfl, Nat.le_of_ble_eq_true rfl⟩ H (fun v6 h5 H => ?_)
      refine go_if_eq (pc := 28) (tgt := 33) dX5_courseRead_28 (by decide) H (fun H => ?_) (fun H => ?_)
      · refine go_aload_n (pc := 33) dX5_courseRead_33 rfl rfl ?_
        refine go_ldcS (pc := 34) 19 dX5_courseRead_34 rfl ?_
        refine go_cVi (pc := 36) (Mz := M_X5_is) (as := [.retAddr 19]) (a := a0) (st := []) dX5_courseRead_36 wd_539 cv_X5_is X5_is_ok rfl rfl ⟨Nat.le_of_ble_eq_true rfl, Nat.le_of_ble_eq_true rfl⟩ (Nat.le_of_ble_eq_true rfl) ⟨rfl, rfl⟩ ⟨Nat.le_of_ble_eq_true rfl, Nat.le_of_ble_eq_true rfl⟩ H (fun v8 h7 H => ?_)
        refine go_if_eq (pc := 39) (tgt := 46) dX5_courseRead_39 (by decide) H (fun H => ?_) (fun H => ?_)
        · refine go_iconst (pc := 46) (v := (-1)) dX5_courseRead_46 (by decide) ?_
          exact go_iret (pc := 47) dX5_courseRead_47 rfl ⟨Nat.le_of_ble_eq_true rfl, Nat.le_of_ble_eq_true rfl⟩ H
        · refine go_iconst (pc := 42) (v := 3) dX5_courseRead_42 (by decide) ?_
          refine go_goto (pc := 43) (tgt := 47) dX5_courseRead_43 (by decide) ?_
          exact go_iret (pc := 47) dX5_courseRead_47 rfl ⟨Nat.le_of_ble_eq_true rfl, Nat.le_of_ble_eq_true rfl⟩ H
      · refine go_iconst (pc := 31) (v := 2) dX5_courseRead_31 (by decide) ?_
        exact go_iret (pc := 32) dX5_courseRead_32 rfl ⟨Nat.le_of_ble_eq_true rfl, Nat.le_of_ble_eq_true rfl⟩ H
    · refine go_iconst (pc := 20) (v := 1) dX5_courseRead_20 (by decide) ?_
      exact go_iret (pc := 21) dX5_courseRead_21 rfl ⟨Nat.le_of_ble_eq_true rfl, Nat.le_of_ble_eq_true rfl⟩ H
  · refine go_iconst (pc := 9) (v := 0) dX5_courseRead_9 (by decide) ?_
    exact go_iret (pc := 10) dX5_courseRead_10 rfl ⟨Nat.le_of_ble_eq_true rfl, Nat.le_of_ble_eq_true rfl⟩ H

def M_X5_readWatch : MD := (yX5_readWatch, cX5_readWatch, 4, (some .boolean), 7, 151, 0, 0)
theorem cv_X5_readWatch : CVo M_X5_readWatch 0 5 := ⟨⟨wd_664, wd_113, ⟨by decide, by decide⟩, by decide +kernel⟩, wd_663, wd_15, _, rfl, rfl⟩
def X5_readWatch (a0 : Nat) (h : Hp) : Option (Int32 × Hp) :=
  (gR h a0 5 1).bind fun v1 =>
  (gR h a0 5 3).bind fun v2 =>
  (gR h v2 9 0).bind fun v3 =>
  (gI h v3 8 3).bind fun v4 =>
  cV h a0 5 (X5_nextNameOf a0 v1 v4 h) fun v6 h5 =>
  if v6 = 0 then (
    rZ 0 h5)
  else (
    (gI h5 a0 5 10).bind fun v7 =>
    (gR h5 a0 5 2).bind fun v8 =>
    (gR h5 a0 5 3).bind fun v9 =>
    (gR h5 v9 9 1).bind fun v10 =>
    (gI h5 v10 8 3).bind fun v11 =>
    cV h5 a0 5 (X5_nextNameOf a0 v8 v11 h5) fun v13 h12 =>
    if v13 = 0 then (
      rZ 0 h12)
    else (
      (gI h12 a0 5 10).bind fun v14 =>
      cVv h12 a0 5 (X5_readToken a0 h12) fun h15 =>
      cV h15 a0 5 (X5_courseRead a0 h15) fun v17 h16 =>
      if v17 = (-1) then (
        cV h16 a0 5 (X5_fail a0 1 h16) fun v27 h26 =>
        rZ v27 h26)
      else (
        cV h16 a0 5 (X5_nextIs a0 20 h16) fun v19 h18 =>
        if v19 = 0 then (
          rZ 0 h18)
        else (
          cV h18 a0 5 (X5_nextWhole a0 0 9 h18) fun v21 h20 =>
          if v21 = 0 then (
            rZ 0 h20)
          else (
            (gR h20 a0 5 3).bind fun v22 =>
            (gR h20 v22 9 2).bind fun v23 =>
            (gI h20 a0 5 9).bind fun v24 =>
            cVv h20 v23 8 (X8_add v23 v7 v14 v17 v24 h20) fun h25 =>
            rZ 1 h25)))))
theorem X5_readWatch_ok {a0 : Nat} {h h' : Hp} {r : Int32} (H : X5_readWatch a0 h = some (r, h')) : Con M_X5_readWatch [.ref a0] h (some (.int r)) h' := by
  refine con_of_go (by decide) 3 (L := [some (.ref a0), none, none, none]) rfl (Nat.le_of_ble_eq_true rfl) ?_
  unfold X5_readWatch at H
  refine go_aload_n (pc := 0) dX5_readWatch_0 rfl rfl ?_
  refine go_aload_n (pc := 1) dX5_readWatch_1 rfl rfl ?_
  refine go_getR (pc := 2) dX5_readWatch_2 fl_X5_9 H (fun v1 H => ?_)
  refine go_aload_n (pc := 5) dX5_readWatch_5 rfl rfl ?_
  refine go_getR (pc := 6) dX5_readWatch_6 fl_X5_22 H (fun v2 H => ?_)
  refine go_getR (pc := 9) dX5_readWatch_9 fl_X5_93 H (fun v3 H => ?_)
  refine go_getI (pc := 12) dX5_readWatch_12 fl_X5_58 H (fun v4 H => ?_)
  refine go_cVi (pc := 15) (Mz := M_X5_nextNameOf) (as := [.ref v1, .int v4]) (a := a0) (st := []) dX5_readWatch_15 wd_665 cv_X5_nextNameOf X5_nextNameOf_ok rfl rfl ⟨Nat.le_of_ble_eq_true rfl, Nat.le_of_ble_eq_true rfl⟩ (Nat.le_of_ble_eq_true rfl) ⟨rfl, rfl⟩ ⟨Nat.le_of_ble_eq_true rfl, Nat.le_of_ble_eq_true rfl⟩ H (fun v6 h5 H => ?_)
  refine go_if_ne (pc := 18) (tgt := 23) dX5_readWatch_18 (by decide) H (fun H => ?_) (fun H => ?_)
  · refine go_aload_n (pc := 23) dX5_readWatch_23 rfl rfl ?_
    refine go_getI (pc := 24) dX5_readWatch_24 fl_X5_203 H (fun v7 H => ?_)
    refine go_istore_n (pc := 27) (L' := [some (.ref a0), some (.int v7), none, none]) dX5_readWatch_27 rfl (Nat.le_of_ble_eq_true rfl) rfl ?_
    refine go_aload_n (pc := 28) dX5_readWatch_28 rfl rfl ?_
    refine go_aload_n (pc := 29) dX5_readWatch_29 rfl rfl ?_
    refine go_getR (pc := 30) dX5_readWatch_30 fl_X5_15 H (fun v8 H => ?_)
    refine go_aload_n (pc := 33) dX5_readWatch_33 rfl rfl ?_
    refine go_getR (pc := 34) dX5_readWatch_34 fl_X5_22 H (fun v9 H => ?_)
    refine go_getR (pc := 37) dX5_readWatch_37 fl_X5_104 H (fun v10 H => ?_)
    refine go_getI (pc := 40) dX5_readWatch_40 fl_X5_58 H (fun v11 H => ?_)
    refine go_cVi (pc := 43) (Mz := M_X5_nextNameOf) (as := [.ref v8, .int v11]) (a := a0) (st := []) dX5_readWatch_43 wd_665 cv_X5_nextNameOf X5_nextNameOf_ok rfl rfl ⟨Nat.le_of_ble_eq_true rfl, Nat.le_of_ble_eq_true rfl⟩ (Nat.le_of_ble_eq_true rfl) ⟨rfl, rfl⟩ ⟨Nat.le_of_ble_eq_true rfl, Nat.le_of_ble_eq_true rfl⟩ H (fun v13 h12 H => ?_)
    refine go_if_ne (pc := 46) (tgt := 51) dX5_readWatch_46 (by decide) H (fun H => ?_) (fun H => ?_)
    · refine go_aload_n (pc := 51) dX5_readWatch_51 rfl rfl ?_
      refine go_getI (pc := 52) dX5_readWatch_52 fl_X5_203 H (fun v14 H => ?_)
      refine go_istore_n (pc := 55) (L' := [some (.ref a0), some (.int v7), some (.int v14), none]) dX5_readWatch_55 rfl (Nat.le_of_ble_eq_true rfl) rfl ?_
      refine go_aload_n (pc := 56) dX5_readWatch_56 rfl rfl ?_
      refine go_cVv (pc := 57) (Mz := M_X5_readToken) (as := []) (a := a0) (st := []) dX5_readWatch_57 wd_527 cv_X5_readToken X5_readToken_ok rfl rfl ⟨Nat.le_of_ble_eq_true rfl, Nat.le_of_ble_eq_true rfl⟩ (Nat.le_of_ble_eq_true rfl) ⟨rfl, rfl⟩ ⟨Nat.le_of_ble_eq_true rfl, Nat.le_of_ble_eq_true rfl⟩ H (fun h15 H => ?_)
      refine go_aload_n (pc := 60) dX5_readWatch_60 rfl rfl ?_
      refine go_cVi (pc := 61) (Mz := M_X5_courseRead) (as := []) (a := a0) (st := []) dX5_readWatch_61 wd_669 cv_X5_courseRead X5_courseRead_ok rfl rfl ⟨Nat.le_of_ble_eq_true rfl, Nat.le_of_ble_eq_true rfl⟩ (Nat.le_of_ble_eq_true rfl) ⟨rfl, rfl⟩ ⟨Nat.le_of_ble_eq_true rfl, Nat.le_of_ble_eq_true rfl⟩ H (fun v17 h16 H => ?_)
      refine go_istore_n (pc := 64) (L' := [some (.ref a0), some (.int v7), some (.int v14), some (.int v17)]) dX5_readWatch_64 rfl (Nat.le_of_ble_eq_true rfl) rfl ?_
      refine go_iload_n (pc := 65) dX5_readWatch_65 rfl rfl ?_
      refine go_iconst (pc := 66) (v := (-1)) dX5_readWatch_66 (by decide) ?_
      refine go_icmp_ne (pc := 67) (tgt := 76) dX5_readWatch_67 (by decide) H (fun H => ?_) (fun H => ?_)
      · refine go_aload_n (pc := 76) dX5_readWatch_76 rfl rfl ?_
        refine go_ldcS (pc := 77) 20 dX5_readWatch_77 rfl ?_
        refine go_cVi (pc := 79) (Mz := M_X5_nextIs) (as := [.retAddr 20]) (a := a0) (st := []) dX5_readWatch_79 wd_600 cv_X5_nextIs X5_nextIs_ok rfl rfl ⟨Nat.le_of_ble_eq_true rfl, Nat.le_of_ble_eq_true rfl⟩ (Nat.le_of_ble_eq_true rfl) ⟨rfl, rfl⟩ ⟨Nat.le_of_ble_eq_true rfl, Nat.le_of_ble_eq_true rfl⟩ H (fun v19 h18 H => ?_)
        refine go_if_eq (pc := 82) (tgt := 95) dX5_readWatch_82 (by decide) H (fun H => ?_) (fun H => ?_)
        · refine go_iconst (pc := 95) (v := 0) dX5_readWatch_95 (by decide) ?_
          exact go_zret (pc := 96) dX5_readWatch_96 rfl ⟨Nat.le_of_ble_eq_true rfl, Nat.le_of_ble_eq_true rfl⟩ H
        · refine go_aload_n (pc := 85) dX5_readWatch_85 rfl rfl ?_
          refine go_iconst (pc := 86) (v := 0) dX5_readWatch_86 (by decide) ?_
          refine go_bipush (pc := 87) (v := 9) dX5_readWatch_87 (by decide) ?_
          refine go_cVi (pc := 89) (Mz := M_X5_nextWhole) (as := [.int 0, .int 9]) (a := a0) (st := []) dX5_readWatch_89 wd_604 cv_X5_nextWhole X5_nextWhole_ok rfl rfl ⟨Nat.le_of_ble_eq_true rfl, Nat.le_of_ble_eq_true rfl⟩ (Nat.le_of_ble_eq_true rfl) ⟨rfl, rfl⟩ ⟨Nat.le_of_ble_eq_true rfl, Nat.le_of_ble_eq_true rfl⟩ H (fun v21 h20 H => ?_)
          refine go_if_ne (pc := 92) (tgt := 97) dX5_readWatch_92 (by decide) H (fun H => ?_) (fun H => ?_)
          · refine go_aload_n (pc := 97) dX5_readWatch_97 rfl rfl ?_
            refine go_getR (pc := 98) dX5_readWatch_98 fl_X5_22 H (fun v22 H => ?_)
            refine go_getR (pc := 101) dX5_readWatch_101 fl_X5_54 H (fun v23 H => ?_)
            refine go_iload_n (pc := 104) dX5_readWatch_104 rfl rfl ?_
            refine go_iload_n (pc := 105) dX5_readWatch_105 rfl rfl ?_
            refine go_iload_n (pc := 106) dX5_readWatch_106 rfl rfl ?_
            refine go_aload_n (pc := 107) dX5_readWatch_107 rfl rfl ?_
            refine go_getI (pc := 108) dX5_readWatch_108 fl_X5_153 H (fun v24 H => ?_)
            refine go_cVv (pc := 111) (Mz := M_X8_add) (as := [.int v7, .int v14, .int v17, .int v24]) (a := v23) (st := []) dX5_readWatch_111 wd_644 cv_X8_add X8_add_ok rfl rfl ⟨Nat.le_of_ble_eq_true rfl, Nat.le_of_ble_eq_true rfl⟩ (Nat.le_of_ble_eq_true rfl) ⟨rfl, rfl⟩ ⟨Nat.le_of_ble_eq_true rfl, Nat.le_of_ble_eq_true rfl⟩ H (fun h25 H => ?_)
            refine go_iconst (pc := 114) (v := 1) dX5_readWatch_114 (by decide) ?_
            exact go_zret (pc := 115) dX5_readWatch_115 rfl ⟨Nat.le_of_ble_eq_true rfl, Nat.le_of_ble_eq_true rfl⟩ H
          · refine go_iconst (pc := 95) (v := 0) dX5_readWatch_95 (by decide) ?_
            exact go_zret (pc := 96) dX5_readWatch_96 rfl ⟨Nat.le_of_ble_eq_true rfl, Nat.le_of_ble_eq_true rfl⟩ H
      · refine go_aload_n (pc := 70) dX5_readWatch_70 rfl rfl ?_
        refine go_iconst (pc := 71) (v := 1) dX5_readWatch_71 (by decide) ?_
        refine go_cVi (pc := 72) (Mz := M_X5_fail) (as := [.int 1]) (a := a0) (st := []) dX5_readWatch_72 wd_591 cv_X5_fail X5_fail_ok rfl rfl ⟨Nat.le_of_ble_eq_true rfl, Nat.le_of_ble_eq_true rfl⟩ (Nat.le_of_ble_eq_true rfl) ⟨rfl, rfl⟩ ⟨Nat.le_of_ble_eq_true rfl, Nat.le_of_ble_eq_true rfl⟩ H (fun v27 h26 H => ?_)
        exact go_zret (pc := 75) dX5_readWatch_75 rfl ⟨Nat.le_of_ble_eq_true rfl, Nat.le_of_ble_eq_true rfl⟩ H
    · refine go_iconst (pc := 49) (v := 0) dX5_readWatch_49 (by decide) ?_
      exact go_zret (pc := 50) dX5_readWatch_50 rfl ⟨Nat.le_of_ble_eq_true rfl, Nat.le_of_ble_eq_true rfl⟩ H
  · refine go_iconst (pc := 21) (v := 0) dX5_readWatch_21 (by decide) ?_
    exact go_zret (pc := 22) dX5_readWatch_22 rfl ⟨Nat.le_of_ble_eq_true rfl, Nat.le_of_ble_eq_true rfl⟩ H

def M_X5_readNoon : MD := (yX5_readNoon, cX5_readNoon, 1, (some .boolean), 6, 130, 0, 0)
theorem cv_X5_readNoon : CVo M_X5_readNoon 0 5 := ⟨⟨wd_681, wd_113, ⟨by decide, by decide⟩, by decide +kernel⟩, wd_680, wd_18, _, rfl, rfl⟩
def X5_readNoon (a0 : Nat) (h : Hp) : Option (Int32 × Hp) :=
  cV h a0 5 (X5_nextIs a0 21 h) fun v2 h1 =>
  if v2 = 0 then (
    rZ 0 h1)
  else (
    cV h1 a0 5 (X5_nextWhole a0 1 12 h1) fun v4 h3 =>
    if v4 = 0 then (
      rZ 0 h3)
    else (
      (gR h3 a0 5 3).bind fun v5 =>
      (gR h3 v5 9 3).bind fun v6 =>
      (gI h3 a0 5 9).bind fun v7 =>
      cV h3 v6 8 (X8_holds v6 0 v7 h3) fun v9 h8 =>
      if v9 = 0 then (
        (gR h8 a0 5 3).bind fun v10 =>
        (gR h8 v10 9 3).bind fun v11 =>
        (gI h8 a0 5 9).bind fun v12 =>
        cVv h8 v11 8 (X8_add v11 v12 0 0 0 h8) fun h13 =>
        rZ 1 h13)
      else (
        cV h8 a0 5 (X5_fail a0 3 h8) fun v15 h14 =>
        rZ v15 h14)))
theorem X5_readNoon_ok {a0 : Nat} {h h' : Hp} {r : Int32} (H : X5_readNoon a0 h = some (r, h')) : Con M_X5_readNoon [.ref a0] h (some (.int r)) h' := by
  refine con_of_go (by decide) 0 (L := [some (.ref a0)]) rfl (Nat.le_of_ble_eq_true rfl) ?_
  unfold X5_readNoon at H
  refine go_aload_n (pc := 0) dX5_readNoon_0 rfl rfl ?_
  refine go_ldcS (pc := 1) 21 dX5_readNoon_1 rfl ?_
  refine go_cVi (pc := 3) (Mz := M_X5_nextIs) (as := [.retAddr 21]) (a := a0) (st := []) dX5_readNoon_3 wd_600 cv_X5_nextIs X5_nextIs_ok rfl rfl ⟨Nat.le_of_ble_eq_true rfl, Nat.le_of_ble_eq_true rfl⟩ (Nat.le_of_ble_eq_true rfl) ⟨rfl, rfl⟩ ⟨Nat.le_of_ble_eq_true rfl, Nat.le_of_ble_eq_true rfl⟩ H (fun v2 h1 H => ?_)
  refine go_if_eq (pc := 6) (tgt := 19) dX5_readNoon_6 (by decide) H (fun H => ?_) (fun H => ?_)
  · refine go_iconst (pc := 19) (v := 0) dX5_readNoon_19 (by decide) ?_
    exact go_zret (pc := 20) dX5_readNoon_20 rfl ⟨Nat.le_of_ble_eq_true rfl, Nat.le_of_ble_eq_true rfl⟩ H
  · refine go_aload_n (pc := 9) dX5_readNoon_9 rfl rfl ?_
    refine go_iconst (pc := 10) (v := 1) dX5_readNoon_10 (by decide) ?_
    refine go_bipush (pc := 11) (v := 12) dX5_readNoon_11 (by decide) ?_
    refine go_cVi (pc := 13) (Mz := M_X5_nextWhole) (as := [.int 1, .int 12]) (a := a0) (st := []) dX5_readNoon_13 wd_604 cv_X5_nextWhole X5_nextWhole_ok rfl rfl ⟨Nat.le_of_ble_eq_true rfl, Nat.le_of_ble_eq_true rfl⟩ (Nat.le_of_ble_eq_true rfl) ⟨rfl, rfl⟩ ⟨Nat.le_of_ble_eq_true rfl, Nat.le_of_ble_eq_true rfl⟩ H (fun v4 h3 H => ?_)
    refine go_if_ne (pc := 16) (tgt := 21) dX5_readNoon_16 (by decide) H (fun H => ?_) (fun H => ?_)
    · refine go_aload_n (pc := 21) dX5_readNoon_21 rfl rfl ?_
      refine go_getR (pc := 22) dX5_readNoon_22 fl_X5_22 H (fun v5 H => ?_)
      refine go_getR (pc := 25) dX5_readNoon_25 fl_X5_117 H (fun v6 H => ?_)
      refine go_iconst (pc := 28) (v := 0) dX5_readNoon_28 (by decide) ?_
      refine go_aload_n (pc := 29) dX5_readNoon_29 rfl rfl ?_
      refine go_getI (pc := 30) dX5_readNoon_30 fl_X5_153 H (fun v7 H => ?_)
      refine go_cVi (pc := 33) (Mz := M_X8_holds) (as := [.int 0, .int v7]) (a := v6) (st := []) dX5_readNoon_33 wd_683 cv_X8_holds X8_holds_ok rfl rfl ⟨Nat.le_of_ble_eq_true rfl, Nat.le_of_ble_eq_true rfl⟩ (Nat.le_of_ble_eq_true rfl) ⟨rfl, rfl⟩ ⟨Nat.le_of_ble_eq_true rfl, Nat.le_of_ble_eq_true rfl⟩ H (fun v9 h8 H => ?_)
      refine go_if_eq (pc := 36) (tgt := 45) dX5_readNoon_36 (by decide) H (fun H => ?_) (fun H => ?_)
      · refine go_aload_n (pc := 45) dX5_readNoon_45 rfl rfl ?_
        refine go_getR (pc := 46) dX5_readNoon_46 fl_X5_22 H (fun v10 H => ?_)
        refine go_getR (pc := 49) dX5_readNoon_49 fl_X5_117 H (fun v11 H => ?_)
        refine go_aload_n (pc := 52) dX5_readNoon_52 rfl rfl ?_
        refine go_getI (pc := 53) dX5_readNoon_53 fl_X5_153 H (fun v12 H => ?_)
        refine go_iconst (pc := 56) (v := 0) dX5_readNoon_56 (by decide) ?_
        refine go_iconst (pc := 57) (v := 0) dX5_readNoon_57 (by decide) ?_
        refine go_iconst (pc := 58) (v := 0) dX5_readNoon_58 (by decide) ?_
        refine go_cVv (pc := 59) (Mz := M_X8_add) (as := [.int v12, .int 0, .int 0, .int 0]) (a := v11) (st := []) dX5_readNoon_59 wd_644 cv_X8_add X8_add_ok rfl rfl ⟨Nat.le_of_ble_eq_true rfl, Nat.le_of_ble_eq_true rfl⟩ (Nat.le_of_ble_eq_true rfl) ⟨rfl, rfl⟩ ⟨Nat.le_of_ble_eq_true rfl, Nat.le_of_ble_eq_true rfl⟩ H (fun h13 H => ?_)
        refine go_iconst (pc := 62) (v := 1) dX5_readNoon_62 (by decide) ?_
        exact go_zret (pc := 63) dX5_readNoon_63 rfl ⟨Nat.le_of_ble_eq_true rfl, Nat.le_of_ble_eq_true rfl⟩ H
      · refine go_aload_n (pc := 39) dX5_readNoon_39 rfl rfl ?_
        refine go_iconst (pc := 40) (v := 3) dX5_readNoon_40 (by decide) ?_
        refine go_cVi (pc := 41) (Mz := M_X5_fail) (as := [.int 3]) (a := a0) (st := []) dX5_readNoon_41 wd_591 cv_X5_fail X5_fail_ok rfl rfl ⟨Nat.le_of_ble_eq_true rfl, Nat.le_of_ble_eq_true rfl⟩ (Nat.le_of_ble_eq_true rfl) ⟨rfl, rfl⟩ ⟨Nat.le_of_ble_eq_true rfl, Nat.le_of_ble_eq_true rfl⟩ H (fun v15 h14 H => ?_)
        exact go_zret (pc := 44) dX5_readNoon_44 rfl ⟨Nat.le_of_ble_eq_true rfl, Nat.le_of_ble_eq_true rfl⟩ H
    · refine go_iconst (pc := 19) (v := 0) dX5_readNoon_19 (by decide) ?_
      exact go_zret (pc := 20) dX5_readNoon_20 rfl ⟨Nat.le_of_ble_eq_true rfl, Nat.le_of_ble_eq_true rfl⟩ H

def M_X5_readShoal : MD := (yX5_readShoal, cX5_readShoal, 3, (some .boolean), 3, 65, 0, 0)
theorem cv_X5_readShoal : CVo M_X5_readShoal 0 5 := ⟨⟨wd_694, wd_113, ⟨by decide, by decide⟩, by decide +kernel⟩, wd_693, wd_19, _, rfl, rfl⟩
def X5_readShoal (a0 : Nat) (h : Hp) : Option (Int32 × Hp) :=
  cV h a0 5 (X5_nextWhole a0 0 199 h) fun v2 h1 =>
  if v2 = 0 then (
    rZ 0 h1)
  else (
    (gI h1 a0 5 9).bind fun v3 =>
    cV h1 a0 5 (X5_nextWhole a0 0 199 h1) fun v5 h4 =>
    if v5 = 0 then (
      rZ 0 h4)
    else (
      (gI h4 a0 5 9).bind fun v6 =>
      bd (X7_squareNumber v3 v6 h4) fun v8 h7 =>
      (gR h7 a0 5 3).bind fun v9 =>
      (gR h7 v9 9 4).bind fun v10 =>
      cV h7 v10 8 (X8_holds v10 0 v8 h7) fun v12 h11 =>
      if v12 = 0 then (
        (gR h11 a0 5 3).bind fun v13 =>
        (gR h11 v13 9 4).bind fun v14 =>
        cVv h11 v14 8 (X8_add v14 v8 0 0 0 h11) fun h15 =>
        rZ 1 h15)
      else (
        cV h11 a0 5 (X5_fail a0 3 h11) fun v17 h16 =>
        rZ v17 h16)))
theorem X5_readShoal_ok {a0 : Nat} {h h' : Hp} {r : Int32} (H : X5_readShoal a0 h = some (r, h')) : Con M_X5_readShoal [.ref a0] h (some (.int r)) h' := by
  refine con_of_go (by decide) 2 (L := [some (.ref a0), none, none]) rfl (Nat.le_of_ble_eq_true rfl) ?_
  unfold X5_readShoal at H
  refine go_aload_n (pc := 0) dX5_readShoal_0 rfl rfl ?_
  refine go_iconst (pc := 1) (v := 0) dX5_readShoal_1 (by decide) ?_
  refine go_sipush (pc := 2) (v := 199) dX5_readShoal_2 (by decide) ?_
  refine go_cVi (pc := 5) (Mz := M_X5_nextWhole) (as := [.int 0, .int 199]) (a := a0) (st := []) dX5_readShoal_5 wd_604 cv_X5_nextWhole X5_nextWhole_ok rfl rfl ⟨Nat.le_of_ble_eq_true rfl, Nat.le_of_ble_eq_true rfl⟩ (Nat.le_of_ble_eq_true rfl) ⟨rfl, rfl⟩ ⟨Nat.le_of_ble_eq_true rfl, Nat.le_of_ble_eq_true rfl⟩ H (fun v2 h1 H => ?_)
  refine go_if_ne (pc := 8) (tgt := 13) dX5_readShoal_8 (by decide) H (fun H => ?_) (fun H => ?_)
  · refine go_aload_n (pc := 13) dX5_readShoal_13 rfl rfl ?_
    refine go_getI (pc := 14) dX5_readShoal_14 fl_X5_153 H (fun v3 H => ?_)
    refine go_istore_n (pc := 17) (L' := [some (.ref a0), some (.int v3), none]) dX5_readShoal_17 rfl (Nat.le_of_ble_eq_true rfl) rfl ?_
    refine go_aload_n (pc := 18) dX5_readShoal_18 rfl rfl ?_
    refine go_iconst (pc := 19) (v := 0) dX5_readShoal_19 (by decide) ?_
    refine go_sipush (pc := 20) (v := 199) dX5_readShoal_20 (by decide) ?_
    refine go_cVi (pc := 23) (Mz := M_X5_nextWhole) (as := [.int 0, .int 199]) (a := a0) (st := []) dX5_readShoal_23 wd_604 cv_X5_nextWhole X5_nextWhole_ok rfl rfl ⟨Nat.le_of_ble_eq_true rfl, Nat.le_of_ble_eq_true rfl⟩ (Nat.le_of_ble_eq_true rfl) ⟨rfl, rfl⟩ ⟨Nat.le_of_ble_eq_true rfl, Nat.le_of_ble_eq_true rfl⟩ H (fun v5 h4 H => ?_)
    refine go_if_ne (pc := 26) (tgt := 31) dX5_readShoal_26 (by decide) H (fun H => ?_) (fun H => ?_)
    · refine go_iload_n (pc := 31) dX5_readShoal_31 rfl rfl ?_
      refine go_aload_n (pc := 32) dX5_readShoal_32 rfl rfl ?_
      refine go_getI (pc := 33) dX5_readShoal_33 fl_X5_153 H (fun v6 H => ?_)
      refine go_cSi (pc := 36) (Mz := M_X7_squareNumber) (as := [.int v3, .int v6]) (st := []) dX5_readShoal_36 wd_695 cs_X7_squareNumber X7_squareNumber_ok rfl rfl ⟨Nat.le_of_ble_eq_true rfl, Nat.le_of_ble_eq_true rfl⟩ (Nat.le_of_ble_eq_true rfl) ⟨rfl, rfl⟩ ⟨Nat.le_of_ble_eq_true rfl, Nat.le_of_ble_eq_true rfl⟩ H (fun v8 h7 H => ?_)
      refine go_istore_n (pc := 39) (L' := [some (.ref a0), some (.int v3), some (.int v8)]) dX5_readShoal_39 rfl (Nat.le_of_ble_eq_true rfl) rfl ?_
      refine go_aload_n (pc := 40) dX5_readShoal_40 rfl rfl ?_
      refine go_getR (pc := 41) dX5_readShoal_41 fl_X5_22 H (fun v9 H => ?_)
      refine go_getR (pc := 44) dX5_readShoal_44 fl_X5_125 H (fun v10 H => ?_)
      refine go_iconst (pc := 47) (v := 0) dX5_readShoal_47 (by decide) ?_
      refine go_iload_n (pc := 48) dX5_readShoal_48 rfl rfl ?_
      refine go_cVi (pc := 49) (Mz := M_X8_holds) (as := [.int 0, .int v8]) (a := v10) (st := []) dX5_readShoal_49 wd_683 cv_X8_holds X8_holds_ok rfl rfl ⟨Nat.le_of_ble_eq_true rfl, Nat.le_of_ble_eq_true rfl⟩ (Nat.le_of_ble_eq_true rfl) ⟨rfl, rfl⟩ ⟨Nat.le_of_ble_eq_true rfl, Nat.le_of_ble_eq_true rfl⟩ H (fun v12 h11 H => ?_)
      refine go_if_eq (pc := 52) (tgt := 61) dX5_readShoal_52 (by decide) H (fun H => ?_) (fun H => ?_)
      · refine go_aload_n (pc := 61) dX5_readShoal_61 rfl rfl ?_
        refine go_getR (pc := 62) dX5_readShoal_62 fl_X5_22 H (fun v13 H => ?_)
        refine go_getR (pc := 65) dX5_readShoal_65 fl_X5_125 H (fun v14 H => ?_)
        refine go_iload_n (pc := 68) dX5_readShoal_68 rfl rfl ?_
        refine go_iconst (pc := 69) (v := 0) dX5_readShoal_69 (by decide) ?_
        refine go_iconst (pc := 70) (v := 0) dX5_readShoal_70 (by decide) ?_
        refine go_iconst (pc := 71) (v := 0) dX5_readShoal_71 (by decide) ?_
        refine go_cVv (pc := 72) (Mz := M_X8_add) (as := [.int v8, .int 0, .int 0, .int 0]) (a := v14) (st := []) dX5_readShoal_72 wd_644 cv_X8_add X8_add_ok rfl rfl ⟨Nat.le_of_ble_eq_true rfl, Nat.le_of_ble_eq_true rfl⟩ (Nat.le_of_ble_eq_true rfl) ⟨rfl, rfl⟩ ⟨Nat.le_of_ble_eq_true rfl, Nat.le_of_ble_eq_true rfl⟩ H (fun h15 H => ?_)
        refine go_iconst (pc := 75) (v := 1) dX5_readShoal_75 (by decide) ?_
        exact go_zret (pc := 76) dX5_readShoal_76 rfl ⟨Nat.le_of_ble_eq_true rfl, Nat.le_of_ble_eq_true rfl⟩ H
      · refine go_aload_n (pc := 55) dX5_readShoal_55 rfl rfl ?_
        refine go_iconst (pc := 56) (v := 3) dX5_readShoal_56 (by decide) ?_
        refine go_cVi (pc := 57) (Mz := M_X5_fail) (as := [.int 3]) (a := a0) (st := []) dX5_readShoal_57 wd_591 cv_X5_fail X5_fail_ok rfl rfl ⟨Nat.le_of_ble_eq_true rfl, Nat.le_of_ble_eq_true rfl⟩ (Nat.le_of_ble_eq_true rfl) ⟨rfl, rfl⟩ ⟨Nat.le_of_ble_eq_true rfl, Nat.le_of_ble_eq_true rfl⟩ H (fun v17 h16 H => ?_)
        exact go_zret (pc := 60) dX5_readShoal_60 rfl ⟨Nat.le_of_ble_eq_true rfl, Nat.le_of_ble_eq_true rfl⟩ H
    · refine go_iconst (pc := 29) (v := 0) dX5_readShoal_29 (by decide) ?_
      exact go_zret (pc := 30) dX5_readShoal_30 rfl ⟨Nat.le_of_ble_eq_true rfl, Nat.le_of_ble_eq_true rfl⟩ H
  · refine go_iconst (pc := 11) (v := 0) dX5_readShoal_11 (by decide) ?_
    exact go_zret (pc := 12) dX5_readShoal_12 rfl ⟨Nat.le_of_ble_eq_true rfl, Nat.le_of_ble_eq_true rfl⟩ H

def M_X5_readUnsure : MD := (yX5_readUnsure, cX5_readUnsure, 2, (some .boolean), 7, 151, 0, 0)
theorem cv_X5_readUnsure : CVo M_X5_readUnsure 0 5 := ⟨⟨wd_701, wd_113, ⟨by decide, by decide⟩, by decide +kernel⟩, wd_700, wd_20, _, rfl, rfl⟩
def X5_readUnsure (a0 : Nat) (h : Hp) : Option (Int32 × Hp) :=
  (gR h a0 5 1).bind fun v1 =>
  (gR h a0 5 3).bind fun v2 =>
  (gR h v2 9 0).bind fun v3 =>
  (gI h v3 8 3).bind fun v4 =>
  cV h a0 5 (X5_nextNameOf a0 v1 v4 h) fun v6 h5 =>
  if v6 = 0 then (
    rZ 0 h5)
  else (
    (gI h5 a0 5 10).bind fun v7 =>
    (gR h5 a0 5 3).bind fun v8 =>
    (gR h5 v8 9 5).bind fun v9 =>
    cV h5 v9 8 (X8_holds v9 0 v7 h5) fun v11 h10 =>
    if v11 = 0 then (
      cV h10 a0 5 (X5_nextWhole a0 0 20 h10) fun v13 h12 =>
      if v13 = 0 then (
        rZ 0 h12)
      else (
        (gR h12 a0 5 3).bind fun v14 =>
        (gR h12 v14 9 5).bind fun v15 =>
        (gI h12 a0 5 9).bind fun v16 =>
        cVv h12 v15 8 (X8_add v15 v7 v16 0 0 h12) fun h17 =>
        rZ 1 h17))
    else (
      cV h10 a0 5 (X5_fail a0 3 h10) fun v19 h18 =>
      rZ v19 h18))
theorem X5_readUnsure_ok {a0 : Nat} {h h' : Hp} {r : Int32} (H : X5_readUnsure a0 h = some (r, h')) : Con M_X5_readUnsure [.ref a0] h (some (.int r)) h' := by
  refine con_of_go (by decide) 1 (L := [some (.ref a0), none]) rfl (Nat.le_of_ble_eq_true rfl) ?_
  unfold X5_readUnsure at H
  refine go_aload_n (pc := 0) dX5_readUnsure_0 rfl rfl ?_
  refine go_aload_n (pc := 1) dX5_readUnsure_1 rfl rfl ?_
  refine go_getR (pc := 2) dX5_readUnsure_2 fl_X5_9 H (fun v1 H => ?_)
  refine go_aload_n (pc := 5) dX5_readUnsure_5 rfl rfl ?_
  refine go_getR (pc := 6) dX5_readUnsure_6 fl_X5_22 H (fun v2 H => ?_)
  refine go_getR (pc := 9) dX5_readUnsure_9 fl_X5_93 H (fun v3 H => ?_)
  refine go_getI (pc := 12) dX5_readUnsure_12 fl_X5_58 H (fun v4 H => ?_)
  refine go_cVi (pc := 15) (Mz := M_X5_nextNameOf) (as := [.ref v1, .int v4]) (a := a0) (st := []) dX5_readUnsure_15 wd_665 cv_X5_nextNameOf X5_nextNameOf_ok rfl rfl ⟨Nat.le_of_ble_eq_true rfl, Nat.le_of_ble_eq_true rfl⟩ (Nat.le_of_ble_eq_true rfl) ⟨rfl, rfl⟩ ⟨Nat.le_of_ble_eq_true rfl, Nat.le_of_ble_eq_true rfl⟩ H (fun v6 h5 H => ?_)
  refine go_if_ne (pc := 18) (tgt := 23) dX5_readUnsure_18 (by decide) H (fun H => ?_) (fun H => ?_)
  · refine go_aload_n (pc := 23) dX5_readUnsure_23 rfl rfl ?_
    refine go_getI (pc := 24) dX5_readUnsure_24 fl_X5_203 H (fun v7 H => ?_)
    refine go_istore_n (pc := 27) (L' := [some (.ref a0), some (.int v7)]) dX5_readUnsure_27 rfl (Nat.le_of_ble_eq_true rfl) rfl ?_
    refine go_aload_n (pc := 28) dX5_readUnsure_28 rfl rfl ?_
    refine go_getR (pc := 29) dX5_readUnsure_29 fl_X5_22 H (fun v8 H => ?_)
    refine go_getR (pc := 32) dX5_readUnsure_32 fl_X5_133 H (fun v9 H => ?_)
    refine go_iconst (pc := 35) (v := 0) dX5_readUnsure_35 (by decide) ?_
    refine go_iload_n (pc := 36) dX5_readUnsure_36 rfl rfl ?_
    refine go_cVi (pc := 37) (Mz := M_X8_holds) (as := [.int 0, .int v7]) (a := v9) (st := []) dX5_readUnsure_37 wd_683 cv_X8_holds X8_holds_ok rfl rfl ⟨Nat.le_of_ble_eq_true rfl, Nat.le_of_ble_eq_true rfl⟩ (Nat.le_of_ble_eq_true rfl) ⟨rfl, rfl⟩ ⟨Nat.le_of_ble_eq_true rfl, Nat.le_of_ble_eq_true rfl⟩ H (fun v11 h10 H => ?_)
    refine go_if_eq (pc := 40) (tgt := 49) dX5_readUnsure_40 (by decide) H (fun H => ?_) (fun H => ?_)
    · refine go_aload_n (pc := 49) dX5_readUnsure_49 rfl rfl ?_
      refine go_iconst (pc := 50) (v := 0) dX5_readUnsure_50 (by decide) ?_
      refine go_bipush (pc := 51) (v := 20) dX5_readUnsure_51 (by decide) ?_
      refine go_cVi (pc := 53) (Mz := M_X5_nextWhole) (as := [.int 0, .int 20]) (a := a0) (st := []) dX5_readUnsure_53 wd_604 cv_X5_nextWhole X5_nextWhole_ok rfl rfl ⟨Nat.le_of_ble_eq_true rfl, Nat.le_of_ble_eq_true rfl⟩ (Nat.le_of_ble_eq_true rfl) ⟨rfl, rfl⟩ ⟨Nat.le_of_ble_eq_true rfl, Nat.le_of_ble_eq_true rfl⟩ H (fun v13 h12 H => ?_)
      refine go_if_ne (pc := 56) (tgt := 61) dX5_readUnsure_56 (by decide) H (fun H => ?_) (fun H => ?_)
      · refine go_aload_n (pc := 61) dX5_readUnsure_61 rfl rfl ?_
        refine go_getR (pc := 62) dX5_readUnsure_62 fl_X5_22 H (fun v14 H => ?_)
        refine go_getR (pc := 65) dX5_readUnsure_65 fl_X5_133 H (fun v15 H => ?_)
        refine go_iload_n (pc := 68) dX5_readUnsure_68 rfl rfl ?_
        refine go_aload_n (pc := 69) dX5_readUnsure_69 rfl rfl ?_
        refine go_getI (pc := 70) dX5_readUnsure_70 fl_X5_153 H (fun v16 H => ?_)
        refine go_iconst (pc := 73) (v := 0) dX5_readUnsure_73 (by decide) ?_
        refine go_iconst (pc := 74) (v := 0) dX5_readUnsure_74 (by decide) ?_
        refine go_cVv (pc := 75) (Mz := M_X8_add) (as := [.int v7, .int v16, .int 0, .int 0]) (a := v15) (st := []) dX5_readUnsure_75 wd_644 cv_X8_add X8_add_ok rfl rfl ⟨Nat.le_of_ble_eq_true rfl, Nat.le_of_ble_eq_true rfl⟩ (Nat.le_of_ble_eq_true rfl) ⟨rfl, rfl⟩ ⟨Nat.le_of_ble_eq_true rfl, Nat.le_of_ble_eq_true rfl⟩ H (fun h17 H => ?_)
        refine go_iconst (pc := 78) (v := 1) dX5_readUnsure_78 (by decide) ?_
        exact go_zret (pc := 79) dX5_readUnsure_79 rfl ⟨Nat.le_of_ble_eq_true rfl, Nat.le_of_ble_eq_true rfl⟩ H
      · refine go_iconst (pc := 59) (v := 0) dX5_readUnsure_59 (by decide) ?_
        exact go_zret (pc := 60) dX5_readUnsure_60 rfl ⟨Nat.le_of_ble_eq_true rfl, Nat.le_of_ble_eq_true rfl⟩ H
    · refine go_aload_n (pc := 43) dX5_readUnsure_43 rfl rfl ?_
      refine go_iconst (pc := 44) (v := 3) dX5_readUnsure_44 (by decide) ?_
      refine go_cVi (pc := 45) (Mz := M_X5_fail) (as := [.int 3]) (a := a0) (st := []) dX5_readUnsure_45 wd_591 cv_X5_fail X5_fail_ok rfl rfl ⟨Nat.le_of_ble_eq_true rfl, Nat.le_of_ble_eq_true rfl⟩ (Nat.le_of_ble_eq_true rfl) ⟨rfl, rfl⟩ ⟨Nat.le_of_ble_eq_true rfl, Nat.le_of_ble_eq_true rfl⟩ H (fun v19 h18 H => ?_)
      exact go_zret (pc := 48) dX5_readUnsure_48 rfl ⟨Nat.le_of_ble_eq_true rfl, Nat.le_of_ble_eq_true rfl⟩ H
  · refine go_iconst (pc := 21) (v := 0) dX5_readUnsure_21 (by decide) ?_
    exact go_zret (pc := 22) dX5_readUnsure_22 rfl ⟨Nat.le_of_ble_eq_true rfl, Nat.le_of_ble_eq_true rfl⟩ H

def M_X5_readFound : MD := (yX5_readFound, cX5_readFound, 3, (some .boolean), 6, 130, 0, 0)
theorem cv_X5_readFound : CVo M_X5_readFound 0 5 := ⟨⟨wd_705, wd_113, ⟨by decide, by decide⟩, by decide +kernel⟩, wd_704, wd_21, _, rfl, rfl⟩
def X5_readFound (a0 : Nat) (h : Hp) : Option (Int32 × Hp) :=
  cV h a0 5 (X5_nextWhole a0 0 12 h) fun v2 h1 =>
  if v2 = 0 then (
    rZ 0 h1)
  else (
    (gI h1 a0 5 9).bind fun v3 =>
    (gR h1 a0 5 3).bind fun v4 =>
    (gR h1 v4 9 6).bind fun v5 =>
    cV h1 v5 8 (X8_holds v5 0 v3 h1) fun v7 h6 =>
    if v7 = 0 then (
      cV h6 a0 5 (X5_nextIs a0 21 h6) fun v9 h8 =>
      if v9 = 0 then (
        rZ 0 h8)
      else (
        cV h8 a0 5 (X5_nextWhole a0 0 199 h8) fun v11 h10 =>
        if v11 = 0 then (
          rZ 0 h10)
        else (
          (gI h10 a0 5 9).bind fun v12 =>
          cV h10 a0 5 (X5_nextWhole a0 0 199 h10) fun v14 h13 =>
          if v14 = 0 then (
            rZ 0 h13)
          else (
            (gR h13 a0 5 3).bind fun v15 =>
            (gR h13 v15 9 6).bind fun v16 =>
            (gI h13 a0 5 9).bind fun v17 =>
            bd (X7_squareNumber v12 v17 h13) fun v19 h18 =>
            cVv h18 v16 8 (X8_add v16 v3 v19 0 0 h18) fun h20 =>
            rZ 1 h20))))
    else (
      cV h6 a0 5 (X5_fail a0 3 h6) fun v22 h21 =>
      rZ v22 h21))
theorem X5_readFound_ok {a0 : Nat} {h h' : Hp} {r : Int32} (H : X5_readFound a0 h = some (r, h')) : Con M_X5_readFound [.ref a0] h (some (.int r)) h' := by
  refine con_of_go (by decide) 2 (L := [some (.ref a0), none, none]) rfl (Nat.le_of_ble_eq_true rfl) ?_
  unfold X5_readFound at H
  refine go_aload_n (pc := 0) dX5_readFound_0 rfl rfl ?_
  refine go_iconst (pc := 1) (v := 0) dX5_readFound_1 (by decide) ?_
  refine go_bipush (pc := 2) (v := 12) dX5_readFound_2 (by decide) ?_
  refine go_cVi (pc := 4) (Mz := M_X5_nextWhole) (as := [.int 0, .int 12]) (a := a0) (st := []) dX5_readFound_4 wd_604 cv_X5_nextWhole X5_nextWhole_ok rfl rfl ⟨Nat.le_of_ble_eq_true rfl, Nat.le_of_ble_eq_true rfl⟩ (Nat.le_of_ble_eq_true rfl) ⟨rfl, rfl⟩ ⟨Nat.le_of_ble_eq_true rfl, Nat.le_of_ble_eq_true rfl⟩ H (fun v2 h1 H => ?_)
  refine go_if_ne (pc := 7) (tgt := 12) dX5_readFound_7 (by decide) H (fun H => ?_) (fun H => ?_)
  · refine go_aload_n (pc := 12) dX5_readFound_12 rfl rfl ?_
    refine go_getI (pc := 13) dX5_readFound_13 fl_X5_153 H (fun v3 H => ?_)
    refine go_istore_n (pc := 16) (L' := [some (.ref a0), some (.int v3), none]) dX5_readFound_16 rfl (Nat.le_of_ble_eq_true rfl) rfl ?_
    refine go_aload_n (pc := 17) dX5_readFound_17 rfl rfl ?_
    refine go_getR (pc := 18) dX5_readFound_18 fl_X5_22 H (fun v4 H => ?_)
    refine go_getR (pc := 21) dX5_readFound_21 fl_X5_138 H (fun v5 H => ?_)
    refine go_iconst (pc := 24) (v := 0) dX5_readFound_24 (by decide) ?_
    refine go_iload_n (pc := 25) dX5_readFound_25 rfl rfl ?_
    refine go_cVi (pc := 26) (Mz := M_X8_holds) (as := [.int 0, .int v3]) (a := v5) (st := []) dX5_readFound_26 wd_683 cv_X8_holds X8_holds_ok rfl rfl ⟨Nat.le_of_ble_eq_true rfl, Nat.le_of_ble_eq_true rfl⟩ (Nat.le_of_ble_eq_true rfl) ⟨rfl, rfl⟩ ⟨Nat.le_of_ble_eq_true rfl, Nat.le_of_ble_eq_true rfl⟩ H (fun v7 h6 H => ?_)
    refine go_if_eq (pc := 29) (tgt := 38) dX5_readFound_29 (by decide) H (fun H => ?_) (fun H => ?_)
    · refine go_aload_n (pc := 38) dX5_readFound_38 rfl rfl ?_
      refine go_ldcS (pc := 39) 21 dX5_readFound_39 rfl ?_
      refine go_cVi (pc := 41) (Mz := M_X5_nextIs) (as := [.retAddr 21]) (a := a0) (st := []) dX5_readFound_41 wd_600 cv_X5_nextIs X5_nextIs_ok rfl rfl ⟨Nat.le_of_ble_eq_true rfl, Nat.le_of_ble_eq_true rfl⟩ (Nat.le_of_ble_eq_true rfl) ⟨rfl, rfl⟩ ⟨Nat.le_of_ble_eq_true rfl, Nat.le_of_ble_eq_true rfl⟩ H (fun v9 h8 H => ?_)
      refine go_if_eq (pc := 44) (tgt := 58) dX5_readFound_44 (by decide) H (fun H => ?_) (fun H => ?_)
      · refine go_iconst (pc := 58) (v := 0) dX5_readFound_58 (by decide) ?_
        exact go_zret (pc := 59) dX5_readFound_59 rfl ⟨Nat.le_of_ble_eq_true rfl, Nat.le_of_ble_eq_true rfl⟩ H
      · refine go_aload_n (pc := 47) dX5_readFound_47 rfl rfl ?_
        refine go_iconst (pc := 48) (v := 0) dX5_readFound_48 (by decide) ?_
        refine go_sipush (pc := 49) (v := 199) dX5_readFound_49 (by decide) ?_
        refine go_cVi (pc := 52) (Mz := M_X5_nextWhole) (as := [.int 0, .int 199]) (a := a0) (st := []) dX5_readFound_52 wd_604 cv_X5_nextWhole X5_nextWhole_ok rfl rfl ⟨Nat.le_of_ble_eq_true rfl, Nat.le_of_ble_eq_true rfl⟩ (Nat.le_of_ble_eq_true rfl) ⟨rfl, rfl⟩ ⟨Nat.le_of_ble_eq_true rfl, Nat.le_of_ble_eq_true rfl⟩ H (fun v11 h10 H => ?_)
        refine go_if_ne (pc := 55) (tgt := 60) dX5_readFound_55 (by decide) H (fun H => ?_) (fun H => ?_)
        · refine go_aload_n (pc := 60) dX5_readFound_60 rfl rfl ?_
          refine go_getI (pc := 61) dX5_readFound_61 fl_X5_153 H (fun v12 H => ?_)
          refine go_istore_n (pc := 64) (L' := [some (.ref a0), some (.int v3), some (.int v12)]) dX5_readFound_64 rfl (Nat.le_of_ble_eq_true rfl) rfl ?_
          refine go_aload_n (pc := 65) dX5_readFound_65 rfl rfl ?_
          refine go_iconst (pc := 66) (v := 0) dX5_readFound_66 (by decide) ?_
          refine go_sipush (pc := 67) (v := 199) dX5_readFound_67 (by decide) ?_
          refine go_cVi (pc := 70) (Mz := M_X5_nextWhole) (as := [.int 0, .int 199]) (a := a0) (st := []) dX5_readFound_70 wd_604 cv_X5_nextWhole X5_nextWhole_ok rfl rfl ⟨Nat.le_of_ble_eq_true rfl, Nat.le_of_ble_eq_true rfl⟩ (Nat.le_of_ble_eq_true rfl) ⟨rfl, rfl⟩ ⟨Nat.le_of_ble_eq_true rfl, Nat.le_of_ble_eq_true rfl⟩ H (fun v14 h13 H => ?_)
          refine go_if_ne (pc := 73) (tgt := 78) dX5_readFound_73 (by decide) H (fun H => ?_) (fun H => ?_)
          · refine go_aload_n (pc := 78) dX5_readFound_78 rfl rfl ?_
            refine go_getR (pc := 79) dX5_readFound_79 fl_X5_22 H (fun v15 H => ?_)
            refine go_getR (pc := 82) dX5_readFound_82 fl_X5_138 H (fun v16 H => ?_)
            refine go_iload_n (pc := 85) dX5_readFound_85 rfl rfl ?_
            refine go_iload_n (pc := 86) dX5_readFound_86 rfl rfl ?_
            refine go_aload_n (pc := 87) dX5_readFound_87 rfl rfl ?_
            refine go_getI (pc := 88) dX5_readFound_88 fl_X5_153 H (fun v17 H => ?_)
            refine go_cSi (pc := 91) (Mz := M_X7_squareNumber) (as := [.int v12, .int v17]) (st := [.int v3, .ref v16]) dX5_readFound_91 wd_695 cs_X7_squareNumber X7_squareNumber_ok rfl rfl ⟨Nat.le_of_ble_eq_true rfl, Nat.le_of_ble_eq_true rfl⟩ (Nat.le_of_ble_eq_true rfl) ⟨rfl, rfl⟩ ⟨Nat.le_of_ble_eq_true rfl, Nat.le_of_ble_eq_true rfl⟩ H (fun v19 h18 H => ?_)
            refine go_iconst (pc := 94) (v := 0) dX5_readFound_94 (by decide) ?_
            refine go_iconst (pc := 95) (v := 0) dX5_readFound_95 (by decide) ?_
            refine go_cVv (pc := 96) (Mz := M_X8_add) (as := [.int v3, .int v19, .int 0, .int 0]) (a := v16) (st := []) dX5_readFound_96 wd_644 cv_X8_add X8_add_ok rfl rfl ⟨Nat.le_of_ble_eq_true rfl, Nat.le_of_ble_eq_true rfl⟩ (Nat.le_of_ble_eq_true rfl) ⟨rfl, rfl⟩ ⟨Nat.le_of_ble_eq_true rfl, Nat.le_of_ble_eq_true rfl⟩ H (fun h20 H => ?_)
            refine go_iconst (pc := 99) (v := 1) dX5_readFound_99 (by decide) ?_
            exact go_zret (pc := 100) dX5_readFound_100 rfl ⟨Nat.le_of_ble_eq_true rfl, Nat.le_of_ble_eq_true rfl⟩ H
          · refine go_iconst (pc := 76) (v := 0) dX5_readFound_76 (by decide) ?_
            exact go_zret (pc := 77) dX5_readFound_77 rfl ⟨Nat.le_of_ble_eq_true rfl, Nat.le_of_ble_eq_true rfl⟩ H
        · refine go_iconst (pc := 58) (v := 0) dX5_readFound_58 (by decide) ?_
          exact go_zret (pc := 59) dX5_readFound_59 rfl ⟨Nat.le_of_ble_eq_true rfl, Nat.le_of_ble_eq_true rfl⟩ H
    · refine go_aload_n (pc := 32) dX5_readFound_32 rfl rfl ?_
      refine go_iconst (pc := 33) (v := 3) dX5_readFound_33 (by decide) ?_
      refine go_cVi (pc := 34) (Mz := M_X5_fail) (as := [.int 3]) (a := a0) (st := []) dX5_readFound_34 wd_591 cv_X5_fail X5_fail_ok rfl rfl ⟨Nat.le_of_ble_eq_true rfl, Nat.le_of_ble_eq_true rfl⟩ (Nat.le_of_ble_eq_true rfl) ⟨rfl, rfl⟩ ⟨Nat.le_of_ble_eq_true rfl, Nat.le_of_ble_eq_true rfl⟩ H (fun v22 h21 H => ?_)
      exact go_zret (pc := 37) dX5_readFound_37 rfl ⟨Nat.le_of_ble_eq_true rfl, Nat.le_of_ble_eq_true rfl⟩ H
  · refine go_iconst (pc := 10) (v := 0) dX5_readFound_10 (by decide) ?_
    exact go_zret (pc := 11) dX5_readFound_11 rfl ⟨Nat.le_of_ble_eq_true rfl, Nat.le_of_ble_eq_true rfl⟩ H

def M_X5_readLine : MD := (yX5_readLine, cX5_readLine, 1, (some .boolean), 8, 174, 0, 0)
theorem cv_X5_readLine : CVo M_X5_readLine 0 5 := ⟨⟨wd_526, wd_113, ⟨by decide, by decide⟩, by decide +kernel⟩, wd_525, wd_2, _, rfl, rfl⟩
def X5_readLine (a0 : Nat) (h : Hp) : Option (Int32 × Hp) :=
  cVv h a0 5 (X5_readToken a0 h) fun h1 =>
  cV h1 a0 5 (X5_is a0 0 h1) fun v3 h2 =>
  if v3 = 0 then (
    cV h2 a0 5 (X5_beginsLine a0 h2) fun v5 h4 =>
    if v5 = 0 then (
      cV h4 a0 5 (X5_fail a0 1 h4) fun v79 h78 =>
      rZ v79 h78)
    else (
      (gR h4 a0 5 3).bind fun v6 =>
      (gI h4 v6 9 7).bind fun v7 =>
      if v7 = 0 then (
        cV h4 a0 5 (X5_fail a0 6 h4) fun v77 h76 =>
        rZ v77 h76)
      else (
        cV h4 a0 5 (X5_is a0 4 h4) fun v9 h8 =>
        if v9 = 0 then (
          cV h8 a0 5 (X5_is a0 5 h8) fun v11 h10 =>
          if v11 = 0 then (
            cV h10 a0 5 (X5_is a0 6 h10) fun v13 h12 =>
            if v13 = 0 then (
              cV h12 a0 5 (X5_is a0 7 h12) fun v15 h14 =>
              if v15 = 0 then (
                cV h14 a0 5 (X5_is a0 8 h14) fun v17 h16 =>
                if v17 = 0 then (
                  cV h16 a0 5 (X5_is a0 9 h16) fun v19 h18 =>
                  if v19 = 0 then (
                    (gR h18 a0 5 3).bind fun v20 =>
                    (gR h18 v20 9 6).bind fun v21 =>
                    cV h18 v21 8 (X8_isFull v21 h18) fun v23 h22 =>
                    if v23 = 0 then (
                      cV h22 a0 5 (X5_readFound a0 h22) fun v25 h24 =>
                      rZ v25 h24)
                    else (
                      cV h22 a0 5 (X5_fail a0 5 h22) fun v27 h26 =>
                      rZ v27 h26))
                  else (
                    (gR h18 a0 5 3).bind fun v28 =>
                    (gR h18 v28 9 5).bind fun v29 =>
                    cV h18 v29 8 (X8_isFull v29 h18) fun v31 h30 =>
                    if v31 = 0 then (
                      cV h30 a0 5 (X5_readUnsure a0 h30) fun v33 h32 =>
                      rZ v33 h32)
                    else (
                      cV h30 a0 5 (X5_fail a0 5 h30) fun v35 h34 =>
                      rZ v35 h34)))
                else (
                  (gR h16 a0 5 3).bind fun v36 =>
                  (gR h16 v36 9 4).bind fun v37 =>
                  cV h16 v37 8 (X8_isFull v37 h16) fun v39 h38 =>
                  if v39 = 0 then (
                    cV h38 a0 5 (X5_readShoal a0 h38) fun v41 h40 =>
                    rZ v41 h40)
                  else (
                    cV h38 a0 5 (X5_fail a0 5 h38) fun v43 h42 =>
                    rZ v43 h42)))
              else (
                (gR h14 a0 5 3).bind fun v44 =>
                (gR h14 v44 9 3).bind fun v45 =>
                cV h14 v45 8 (X8_isFull v45 h14) fun v47 h46 =>
                if v47 = 0 then (
                  cV h46 a0 5 (X5_readNoon a0 h46) fun v49 h48 =>
                  rZ v49 h48)
                else (
                  cV h46 a0 5 (X5_fail a0 5 h46) fun v51 h50 =>
                  rZ v51 h50)))
            else (
              (gR h12 a0 5 3).bind fun v52 =>
              (gR h12 v52 9 2).bind fun v53 =>
              cV h12 v53 8 (X8_isFull v53 h12) fun v55 h54 =>
              if v55 = 0 then (
                cV h54 a0 5 (X5_readWatch a0 h54) fun v57 h56 =>
                rZ v57 h56)
              else (
                cV h54 a0 5 (X5_fail a0 5 h54) fun v59 h58 =>
                rZ v59 h58)))
          else (
            (gR h10 a0 5 3).bind fun v60 =>
            (gR h10 v60 9 1).bind fun v61 =>
            cV h10 v61 8 (X8_isFull v61 h10) fun v63 h62 =>
            if v63 = 0 then (
              cV h62 a0 5 (X5_readOfficer a0 h62) fun v65 h64 =>
              rZ v65 h64)
            else (
              cV h62 a0 5 (X5_fail a0 5 h62) fun v67 h66 =>
              rZ v67 h66)))
        else (
          (gR h8 a0 5 3).bind fun v68 =>
          (gR h8 v68 9 0).bind fun v69 =>
          cV h8 v69 8 (X8_isFull v69 h8) fun v71 h70 =>
          if v71 = 0 then (
            cV h70 a0 5 (X5_readBoy a0 h70) fun v73 h72 =>
            rZ v73 h72)
          else (
            cV h70 a0 5 (X5_fail a0 5 h70) fun v75 h74 =>
            rZ v75 h74)))))
  else (
    (gR h2 a0 5 3).bind fun v80 =>
    (gI h2 v80 9 7).bind fun v81 =>
    if v81 = 0 then (
      cV h2 a0 5 (X5_readVoyage a0 h2) fun v83 h82 =>
      rZ v83 h82)
    else (
      cV h2 a0 5 (X5_fail a0 3 h2) fun v85 h84 =>
      rZ v85 h84))
theorem X5_readLine_ok {a0 : Nat} {h h' : Hp} {r : Int32} (H : X5_readLine a0 h = some (r, h')) : Con M_X5_readLine [.ref a0] h (some (.int r)) h' := by
  refine con_of_go (by decide) 0 (L := [some (.ref a0)]) rfl (Nat.le_of_ble_eq_true rfl) ?_
  unfold X5_readLine at H
  refine go_aload_n (pc := 0) dX5_readLine_0 rfl rfl ?_
  refine go_cVv (pc := 1) (Mz := M_X5_readToken) (as := []) (a := a0) (st := []) dX5_readLine_1 wd_527 cv_X5_readToken X5_readToken_ok rfl rfl ⟨Nat.le_of_ble_eq_true rfl, Nat.le_of_ble_eq_true rfl⟩ (Nat.le_of_ble_eq_true rfl) ⟨rfl, rfl⟩ ⟨Nat.le_of_ble_eq_true rfl, Nat.le_of_ble_eq_true rfl⟩ H (fun h1 H => ?_)
  refine go_aload_n (pc := 4) dX5_readLine_4 rfl rfl ?_
  refine go_ldcS (pc := 5) 0 dX5_readLine_5 rfl ?_
  refine go_cVi (pc := 7) (Mz := M_X5_is) (as := [.retAddr 0]) (a := a0) (st := []) dX5_readLine_7 wd_539 cv_X5_is X5_is_ok rfl rfl ⟨Nat.le_of_ble_eq_true rfl, Nat.le_of_ble_eq_true rfl⟩ (Nat.le_of_ble_eq_true rfl) ⟨rfl, rfl⟩ ⟨Nat.le_of_ble_eq_true rfl, Nat.le_of_ble_eq_true rfl⟩ H (fun v3 h2 H => ?_)
  refine go_if_eq (pc := 10) (tgt := 36) dX5_readLine_10 (by decide) H (fun H => ?_) (fun H => ?_)
  · refine go_aload_n (pc := 36) dX5_readLine_36 rfl rfl ?_
    refine go_cVi (pc := 37) (Mz := M_X5_beginsLine) (as := []) (a := a0) (st := []) dX5_readLine_37 wd_610 cv_X5_beginsLine X5_beginsLine_ok rfl rfl ⟨Nat.le_of_ble_eq_true rfl, Nat.le_of_ble_eq_true rfl⟩ (Nat.le_of_ble_eq_true rfl) ⟨rfl, rfl⟩ ⟨Nat.le_of_ble_eq_true rfl, Nat.le_of_ble_eq_true rfl⟩ H (fun v5 h4 H => ?_)
    refine go_if_ne (pc := 40) (tgt := 49) dX5_readLine_40 (by decide) H (fun H => ?_) (fun H => ?_)
    · refine go_aload_n (pc := 49) dX5_readLine_49 rfl rfl ?_
      refine go_getR (pc := 50) dX5_readLine_50 fl_X5_22 H (fun v6 H => ?_)
      refine go_getI (pc := 53) dX5_readLine_53 fl_X5_81 H (fun v7 H => ?_)
      refine go_if_ne (pc := 56) (tgt := 66) dX5_readLine_56 (by decide) H (fun H => ?_) (fun H => ?_)
      · refine go_aload_n (pc := 66) dX5_readLine_66 rfl rfl ?_
        refine go_ldcS (pc := 67) 4 dX5_readLine_67 rfl ?_
        refine go_cVi (pc := 69) (Mz := M_X5_is) (as := [.retAddr 4]) (a := a0) (st := []) dX5_readLine_69 wd_539 cv_X5_is X5_is_ok rfl rfl ⟨Nat.le_of_ble_eq_true rfl, Nat.le_of_ble_eq_true rfl⟩ (Nat.le_of_ble_eq_true rfl) ⟨rfl, rfl⟩ ⟨Nat.le_of_ble_eq_true rfl, Nat.le_of_ble_eq_true rfl⟩ H (fun v9 h8 H => ?_)
        refine go_if_eq (pc := 72) (tgt := 101) dX5_readLine_72 (by decide) H (fun H => ?_) (fun H => ?_)
        · refine go_aload_n (pc := 101) dX5_readLine_101 rfl rfl ?_
          refine go_ldcS (pc := 102) 5 dX5_readLine_102 rfl ?_
          refine go_cVi (pc := 104) (Mz := M_X5_is) (as := [.retAddr 5]) (a := a0) (st := []) dX5_readLine_104 wd_539 cv_X5_is X5_is_ok rfl rfl ⟨Nat.le_of_ble_eq_true rfl, Nat.le_of_ble_eq_true rfl⟩ (Nat.le_of_ble_eq_true rfl) ⟨rfl, rfl⟩ ⟨Nat.le_of_ble_eq_true rfl, Nat.le_of_ble_eq_true rfl⟩ H (fun v11 h10 H => ?_)
          refine go_if_eq (pc := 107) (tgt := 136) dX5_readLine_107 (by decide) H (fun H => ?_) (fun H => ?_)
          · refine go_aload_n (pc := 136) dX5_readLine_136 rfl rfl ?_
            refine go_ldcS (pc := 137) 6 dX5_readLine_137 rfl ?_
            refine go_cVi (pc := 139) (Mz := M_X5_is) (as := [.retAddr 6]) (a := a0) (st := []) dX5_readLine_139 wd_539 cv_X5_is X5_is_ok rfl rfl ⟨Nat.le_of_ble_eq_true rfl, Nat.le_of_ble_eq_true rfl⟩ (Nat.le_of_ble_eq_true rfl) ⟨rfl, rfl⟩ ⟨Nat.le_of_ble_eq_true rfl, Nat.le_of_ble_eq_true rfl⟩ H (fun v13 h12 H => ?_)
            refine go_if_eq (pc := 142) (tgt := 171) dX5_readLine_142 (by decide) H (fun H => ?_) (fun H => ?_)
            · refine go_aload_n (pc := 171) dX5_readLine_171 rfl rfl ?_
              refine go_ldcS (pc := 172) 7 dX5_readLine_172 rfl ?_
              refine go_cVi (pc := 174) (Mz := M_X5_is) (as := [.retAddr 7]) (a := a0) (st := []) dX5_readLine_174 wd_539 cv_X5_is X5_is_ok rfl rfl ⟨Nat.le_of_ble_eq_true rfl, Nat.le_of_ble_eq_true rfl⟩ (Nat.le_of_ble_eq_true rfl) ⟨rfl, rfl⟩ ⟨Nat.le_of_ble_eq_true rfl, Nat.le_of_ble_eq_true rfl⟩ H (fun v15 h14 H => ?_)
              refine go_if_eq (pc := 177) (tgt := 206) dX5_readLine_177 (by decide) H (fun H => ?_) (fun H => ?_)
              · refine go_aload_n (pc := 206) dX5_readLine_206 rfl rfl ?_
                refine go_ldcS (pc := 207) 8 dX5_readLine_207 rfl ?_
                refine go_cVi (pc := 209) (Mz := M_X5_is) (as := [.retAddr 8]) (a := a0) (st := []) dX5_readLine_209 wd_539 cv_X5_is X5_is_ok rfl rfl ⟨Nat.le_of_ble_eq_true rfl, Nat.le_of_ble_eq_true rfl⟩ (Nat.le_of_ble_eq_true rfl) ⟨rfl, rfl⟩ ⟨Nat.le_of_ble_eq_true rfl, Nat.le_of_ble_eq_true rfl⟩ H (fun v17 h16 H => ?_)
                refine go_if_eq (pc := 212) (tgt := 241) dX5_readLine_212 (by decide) H (fun H => ?_) (fun H => ?_)
                · refine go_aload_n (pc := 241) dX5_readLine_241 rfl rfl ?_
                  refine go_ldcS (pc := 242) 9 dX5_readLine_242 rfl ?_
                  refine go_cVi (pc := 244) (Mz := M_X5_is) (as := [.retAddr 9]) (a := a0) (st := []) dX5_readLine_244 wd_539 cv_X5_is X5_is_ok rfl rfl ⟨Nat.le_of_ble_eq_true rfl, Nat.le_of_ble_eq_true rfl⟩ (Nat.le_of_ble_eq_true rfl) ⟨rfl, rfl⟩ ⟨Nat.le_of_ble_eq_true rfl, Nat.le_of_ble_eq_true rfl⟩ H (fun v19 h18 H => ?_)
                  refine go_if_eq (pc := 247) (tgt := 276) dX5_readLine_247 (by decide) H (fun H => ?_) (fun H => ?_)
                  · refine go_aload_n (pc := 276) dX5_readLine_276 rfl rfl ?_
                    refine go_getR (pc := 277) dX5_readLine_277 fl_X5_22 H (fun v20 H => ?_)
                    refine go_getR (pc := 280) dX5_readLine_280 fl_X5_138 H (fun v21 H => ?_)
                    refine go_cVi (pc := 283) (Mz := M_X8_isFull) (as := []) (a := v21) (st := []) dX5_readLine_283 wd_621 cv_X8_isFull X8_isFull_ok rfl rfl ⟨Nat.le_of_ble_eq_true rfl, Nat.le_of_ble_eq_true rfl⟩ (Nat.le_of_ble_eq_true rfl) ⟨rfl, rfl⟩ ⟨Nat.le_of_ble_eq_true rfl, Nat.le_of_ble_eq_true rfl⟩ H (fun v23 h22 H => ?_)
                    refine go_if_eq (pc := 286) (tgt := 297) dX5_readLine_286 (by decide) H (fun H => ?_) (fun H => ?_)
                    · refine go_aload_n (pc := 297) dX5_readLine_297 rfl rfl ?_
                      refine go_cVi (pc := 298) (Mz := M_X5_readFound) (as := []) (a := a0) (st := []) dX5_readLine_298 wd_702 cv_X5_readFound X5_readFound_ok rfl rfl ⟨Nat.le_of_ble_eq_true rfl, Nat.le_of_ble_eq_true rfl⟩ (Nat.le_of_ble_eq_true rfl) ⟨rfl, rfl⟩ ⟨Nat.le_of_ble_eq_true rfl, Nat.le_of_ble_eq_true rfl⟩ H (fun v25 h24 H => ?_)
                      exact go_zret (pc := 301) dX5_readLine_301 rfl ⟨Nat.le_of_ble_eq_true rfl, Nat.le_of_ble_eq_true rfl⟩ H
                    · refine go_aload_n (pc := 289) dX5_readLine_289 rfl rfl ?_
                      refine go_iconst (pc := 290) (v := 5) dX5_readLine_290 (by decide) ?_
                      refine go_cVi (pc := 291) (Mz := M_X5_fail) (as := [.int 5]) (a := a0) (st := []) dX5_readLine_291 wd_591 cv_X5_fail X5_fail_ok rfl rfl ⟨Nat.le_of_ble_eq_true rfl, Nat.le_of_ble_eq_true rfl⟩ (Nat.le_of_ble_eq_true rfl) ⟨rfl, rfl⟩ ⟨Nat.le_of_ble_eq_true rfl, Nat.le_of_ble_eq_true rfl⟩ H (fun v27 h26 H => ?_)
                      refine go_goto (pc := 294) (tgt := 301) dX5_readLine_294 (by decide) ?_
                      exact go_zret (pc := 301) dX5_readLine_301 rfl ⟨Nat.le_of_ble_eq_true rfl, Nat.le_of_ble_eq_true rfl⟩ H
                  · refine go_aload_n (pc := 250) dX5_readLine_250 rfl rfl ?_
                    refine go_getR (pc := 251) dX5_readLine_251 fl_X5_22 H (fun v28 H => ?_)
                    refine go_getR (pc := 254) dX5_readLine_254 fl_X5_133 H (fun v29 H => ?_)
                    refine go_cVi (pc := 257) (Mz := M_X8_isFull) (as := []) (a := v29) (st := []) dX5_readLine_257 wd_621 cv_X8_isFull X8_isFull_ok rfl rfl ⟨Nat.le_of_ble_eq_true rfl, Nat.le_of_ble_eq_true rfl⟩ (Nat.le_of_ble_eq_true rfl) ⟨rfl, rfl⟩ ⟨Nat.le_of_ble_eq_true rfl, Nat.le_of_ble_eq_true rfl⟩ H (fun v31 h30 H => ?_)
                    refine go_if_eq (pc := 260) (tgt := 271) dX5_readLine_260 (by decide) H (fun H => ?_) (fun H => ?_)
                    · refine go_aload_n (pc := 271) dX5_readLine_271 rfl rfl ?_
                      refine go_cVi (pc := 272) (Mz := M_X5_readUnsure) (as := []) (a := a0) (st := []) dX5_readLine_272 wd_698 cv_X5_readUnsure X5_readUnsure_ok rfl rfl ⟨Nat.le_of_ble_eq_true rfl, Nat.le_of_ble_eq_true rfl⟩ (Nat.le_of_ble_eq_true rfl) ⟨rfl, rfl⟩ ⟨Nat.le_of_ble_eq_true rfl, Nat.le_of_ble_eq_true rfl⟩ H (fun v33 h32 H => ?_)
                      exact go_zret (pc := 275) dX5_readLine_275 rfl ⟨Nat.le_of_ble_eq_true rfl, Nat.le_of_ble_eq_true rfl⟩ H
                    · refine go_aload_n (pc := 263) dX5_readLine_263 rfl rfl ?_
                      refine go_iconst (pc := 264) (v := 5) dX5_readLine_264 (by decide) ?_
                      refine go_cVi (pc := 265) (Mz := M_X5_fail) (as := [.int 5]) (a := a0) (st := []) dX5_readLine_265 wd_591 cv_X5_fail X5_fail_ok rfl rfl ⟨Nat.le_of_ble_eq_true rfl, Nat.le_of_ble_eq_true rfl⟩ (Nat.le_of_ble_eq_true rfl) ⟨rfl, rfl⟩ ⟨Nat.le_of_ble_eq_true rfl, Nat.le_of_ble_eq_true rfl⟩ H (fun v35 h34 H => ?_)
                      refine go_goto (pc := 268) (tgt := 275) dX5_readLine_268 (by decide) ?_
                      exact go_zret (pc := 275) dX5_readLine_275 rfl ⟨Nat.le_of_ble_eq_true rfl, Nat.le_of_ble_eq_true rfl⟩ H
                · refine go_aload_n (pc := 215) dX5_readLine_215 rfl rfl ?_
                  refine go_getR (pc := 216) dX5_readLine_216 fl_X5_22 H (fun v36 H => ?_)
                  refine go_getR (pc := 219) dX5_readLine_219 fl_X5_125 H (fun v37 H => ?_)
                  refine go_cVi (pc := 222) (Mz := M_X8_isFull) (as := []) (a := v37) (st := []) dX5_readLine_222 wd_621 cv_X8_isFull X8_isFull_ok rfl rfl ⟨Nat.le_of_ble_eq_true rfl, Nat.le_of_ble_eq_true rfl⟩ (Nat.le_of_ble_eq_true rfl) ⟨rfl, rfl⟩ ⟨Nat.le_of_ble_eq_true rfl, Nat.le_of_ble_eq_true rfl⟩ H (fun v39 h38 H => ?_)
                  refine go_if_eq (pc := 225) (tgt := 236) dX5_readLine_225 (by decide) H (fun H => ?_) (fun H => ?_)
                  · refine go_aload_n (pc := 236) dX5_readLine_236 rfl rfl ?_
                    refine go_cVi (pc := 237) (Mz := M_X5_readShoal) (as := []) (a := a0) (st := []) dX5_readLine_237 wd_691 cv_X5_readShoal X5_readShoal_ok rfl rfl ⟨Nat.le_of_ble_eq_true rfl, Nat.le_of_ble_eq_true rfl⟩ (Nat.le_of_ble_eq_true rfl) ⟨rfl, rfl⟩ ⟨Nat.le_of_ble_eq_true rfl, Nat.le_of_ble_eq_true rfl⟩ H (fun v41 h40 H => ?_)
                    exact go_zret (pc := 240) dX5_readLine_240 rfl ⟨Nat.le_of_ble_eq_true rfl, Nat.le_of_ble_eq_true rfl⟩ H
                  · refine go_aload_n (pc := 228) dX5_readLine_228 rfl rfl ?_
                    refine go_iconst (pc := 229) (v := 5) dX5_readLine_229 (by decide) ?_
                    refine go_cVi (pc := 230) (Mz := M_X5_fail) (as := [.int 5]) (a := a0) (st := []) dX5_readLine_230 wd_591 cv_X5_fail X5_fail_ok rfl rfl ⟨Nat.le_of_ble_eq_true rfl, Nat.le_of_ble_eq_true rfl⟩ (Nat.le_of_ble_eq_true rfl) ⟨rfl, rfl⟩ ⟨Nat.le_of_ble_eq_true rfl, Nat.le_of_ble_eq_true rfl⟩ H (fun v43 h42 H => ?_)
                    refine go_goto (pc := 233) (tgt := 240) dX5_readLine_233 (by decide) ?_
                    exact go_zret (pc := 240) dX5_readLine_240 rfl ⟨Nat.le_of_ble_eq_true rfl, Nat.le_of_ble_eq_true rfl⟩ H
              · refine go_aload_n (pc := 180) dX5_readLine_180 rfl rfl ?_
                refine go_getR (pc := 181) dX5_readLine_181 fl_X5_22 H (fun v44 H => ?_)
                refine go_getR (pc := 184) dX5_readLine_184 fl_X5_117 H (fun v45 H => ?_)
                refine go_cVi (pc := 187) (Mz := M_X8_isFull) (as := []) (a := v45) (st := []) dX5_readLine_187 wd_621 cv_X8_isFull X8_isFull_ok rfl rfl ⟨Nat.le_of_ble_eq_true rfl, Nat.le_of_ble_eq_true rfl⟩ (Nat.le_of_ble_eq_true rfl) ⟨rfl, rfl⟩ ⟨Nat.le_of_ble_eq_true rfl, Nat.le_of_ble_eq_true rfl⟩ H (fun v47 h46 H => ?_)
                refine go_if_eq (pc := 190) (tgt := 201) dX5_readLine_190 (by decide) H (fun H => ?_) (fun H => ?_)
                · refine go_aload_n (pc := 201) dX5_readLine_201 rfl rfl ?_
                  refine go_cVi (pc := 202) (Mz := M_X5_readNoon) (as := []) (a := a0) (st := []) dX5_readLine_202 wd_678 cv_X5_readNoon X5_readNoon_ok rfl rfl ⟨Nat.le_of_ble_eq_true rfl, Nat.le_of_ble_eq_true rfl⟩ (Nat.le_of_ble_eq_true rfl) ⟨rfl, rfl⟩ ⟨Nat.le_of_ble_eq_true rfl, Nat.le_of_ble_eq_true rfl⟩ H (fun v49 h48 H => ?_)
                  exact go_zret (pc := 205) dX5_readLine_205 rfl ⟨Nat.le_of_ble_eq_true rfl, Nat.le_of_ble_eq_true rfl⟩ H
                · refine go_aload_n (pc := 193) dX5_readLine_193 rfl rfl ?_
                  refine go_iconst (pc := 194) (v := 5) dX5_readLine_194 (by decide) ?_
                  refine go_cVi (pc := 195) (Mz := M_X5_fail) (as := [.int 5]) (a := a0) (st := []) dX5_readLine_195 wd_591 cv_X5_fail X5_fail_ok rfl rfl ⟨Nat.le_of_ble_eq_true rfl, Nat.le_of_ble_eq_true rfl⟩ (Nat.le_of_ble_eq_true rfl) ⟨rfl, rfl⟩ ⟨Nat.le_of_ble_eq_true rfl, Nat.le_of_ble_eq_true rfl⟩ H (fun v51 h50 H => ?_)
                  refine go_goto (pc := 198) (tgt := 205) dX5_readLine_198 (by decide) ?_
                  exact go_zret (pc := 205) dX5_readLine_205 rfl ⟨Nat.le_of_ble_eq_true rfl, Nat.le_of_ble_eq_true rfl⟩ H
            · refine go_aload_n (pc := 145) dX5_readLine_145 rfl rfl ?_
              refine go_getR (pc := 146) dX5_readLine_146 fl_X5_22 H (fun v52 H => ?_)
              refine go_getR (pc := 149) dX5_readLine_149 fl_X5_54 H (fun v53 H => ?_)
              refine go_cVi (pc := 152) (Mz := M_X8_isFull) (as := []) (a := v53) (st := []) dX5_readLine_152 wd_621 cv_X8_isFull X8_isFull_ok rfl rfl ⟨Nat.le_of_ble_eq_true rfl, Nat.le_of_ble_eq_true rfl⟩ (Nat.le_of_ble_eq_true rfl) ⟨rfl, rfl⟩ ⟨Nat.le_of_ble_eq_true rfl, Nat.le_of_ble_eq_true rfl⟩ H (fun v55 h54 H => ?_)
              refine go_if_eq (pc := 155) (tgt := 166) dX5_readLine_155 (by decide) H (fun H => ?_) (fun H => ?_)
              · refine go_aload_n (pc := 166) dX5_readLine_166 rfl rfl ?_
                refine go_cVi (pc := 167) (Mz := M_X5_readWatch) (as := []) (a := a0) (st := []) dX5_readLine_167 wd_661 cv_X5_readWatch X5_readWatch_ok rfl rfl ⟨Nat.le_of_ble_eq_true rfl, Nat.le_of_ble_eq_true rfl⟩ (Nat.le_of_ble_eq_true rfl) ⟨rfl, rfl⟩ ⟨Nat.le_of_ble_eq_true rfl, Nat.le_of_ble_eq_true rfl⟩ H (fun v57 h56 H => ?_)
                exact go_zret (pc := 170) dX5_readLine_170 rfl ⟨Nat.le_of_ble_eq_true rfl, Nat.le_of_ble_eq_true rfl⟩ H
              · refine go_aload_n (pc := 158) dX5_readLine_158 rfl rfl ?_
                refine go_iconst (pc := 159) (v := 5) dX5_readLine_159 (by decide) ?_
                refine go_cVi (pc := 160) (Mz := M_X5_fail) (as := [.int 5]) (a := a0) (st := []) dX5_readLine_160 wd_591 cv_X5_fail X5_fail_ok rfl rfl ⟨Nat.le_of_ble_eq_true rfl, Nat.le_of_ble_eq_true rfl⟩ (Nat.le_of_ble_eq_true rfl) ⟨rfl, rfl⟩ ⟨Nat.le_of_ble_eq_true rfl, Nat.le_of_ble_eq_true rfl⟩ H (fun v59 h58 H => ?_)
                refine go_goto (pc := 163) (tgt := 170) dX5_readLine_163 (by decide) ?_
                exact go_zret (pc := 170) dX5_readLine_170 rfl ⟨Nat.le_of_ble_eq_true rfl, Nat.le_of_ble_eq_true rfl⟩ H
          · refine go_aload_n (pc := 110) dX5_readLine_110 rfl rfl ?_
            refine go_getR (pc := 111) dX5_readLine_111 fl_X5_22 H (fun v60 H => ?_)
            refine go_getR (pc := 114) dX5_readLine_114 fl_X5_104 H (fun v61 H => ?_)
            refine go_cVi (pc := 117) (Mz := M_X8_isFull) (as := []) (a := v61) (st := []) dX5_readLine_117 wd_621 cv_X8_isFull X8_isFull_ok rfl rfl ⟨Nat.le_of_ble_eq_true rfl, Nat.le_of_ble_eq_true rfl⟩ (Nat.le_of_ble_eq_true rfl) ⟨rfl, rfl⟩ ⟨Nat.le_of_ble_eq_true rfl, Nat.le_of_ble_eq_true rfl⟩ H (fun v63 h62 H => ?_)
            refine go_if_eq (pc := 120) (tgt := 131) dX5_readLine_120 (by decide) H (fun H => ?_) (fun H => ?_)
            · refine go_aload_n (pc := 131) dX5_readLine_131 rfl rfl ?_
              refine go_cVi (pc := 132) (Mz := M_X5_readOfficer) (as := []) (a := a0) (st := []) dX5_readLine_132 wd_653 cv_X5_readOfficer X5_readOfficer_ok rfl rfl ⟨Nat.le_of_ble_eq_true rfl, Nat.le_of_ble_eq_true rfl⟩ (Nat.le_of_ble_eq_true rfl) ⟨rfl, rfl⟩ ⟨Nat.le_of_ble_eq_true rfl, Nat.le_of_ble_eq_true rfl⟩ H (fun v65 h64 H => ?_)
              exact go_zret (pc := 135) dX5_readLine_135 rfl ⟨Nat.le_of_ble_eq_true rfl, Nat.le_of_ble_eq_true rfl⟩ H
            · refine go_aload_n (pc := 123) dX5_readLine_123 rfl rfl ?_
              refine go_iconst (pc := 124) (v := 5) dX5_readLine_124 (by decide) ?_
              refine go_cVi (pc := 125) (Mz := M_X5_fail) (as := [.int 5]) (a := a0) (st := []) dX5_readLine_125 wd_591 cv_X5_fail X5_fail_ok rfl rfl ⟨Nat.le_of_ble_eq_true rfl, Nat.le_of_ble_eq_true rfl⟩ (Nat.le_of_ble_eq_true rfl) ⟨rfl, rfl⟩ ⟨Nat.le_of_ble_eq_true rfl, Nat.le_of_ble_eq_true rfl⟩ H (fun v67 h66 H => ?_)
              refine go_goto (pc := 128) (tgt := 135) dX5_readLine_128 (by decide) ?_
              exact go_zret (pc := 135) dX5_readLine_135 rfl ⟨Nat.le_of_ble_eq_true rfl, Nat.le_of_ble_eq_true rfl⟩ H
        · refine go_aload_n (pc := 75) dX5_readLine_75 rfl rfl ?_
          refine go_getR (pc := 76) dX5_readLine_76 fl_X5_22 H (fun v68 H => ?_)
          refine go_getR (pc := 79) dX5_readLine_79 fl_X5_93 H (fun v69 H => ?_)
          refine go_cVi (pc := 82) (Mz := M_X8_isFull) (as := []) (a := v69) (st := []) dX5_readLine_82 wd_621 cv_X8_isFull X8_isFull_ok rfl rfl ⟨Nat.le_of_ble_eq_true rfl, Nat.le_of_ble_eq_true rfl⟩ (Nat.le_of_ble_eq_true rfl) ⟨rfl, rfl⟩ ⟨Nat.le_of_ble_eq_true rfl, Nat.le_of_ble_eq_true rfl⟩ H (fun v71 h70 H => ?_)
          refine go_if_eq (pc := 85) (tgt := 96) dX5_readLine_85 (by decide) H (fun H => ?_) (fun H => ?_)
          · refine go_aload_n (pc := 96) dX5_readLine_96 rfl rfl ?_
            refine go_cVi (pc := 97) (Mz := M_X5_readBoy) (as := []) (a := a0) (st := []) dX5_readLine_97 wd_625 cv_X5_readBoy X5_readBoy_ok rfl rfl ⟨Nat.le_of_ble_eq_true rfl, Nat.le_of_ble_eq_true rfl⟩ (Nat.le_of_ble_eq_true rfl) ⟨rfl, rfl⟩ ⟨Nat.le_of_ble_eq_true rfl, Nat.le_of_ble_eq_true rfl⟩ H (fun v73 h72 H => ?_)
            exact go_zret (pc := 100) dX5_readLine_100 rfl ⟨Nat.le_of_ble_eq_true rfl, Nat.le_of_ble_eq_true rfl⟩ H
          · refine go_aload_n (pc := 88) dX5_readLine_88 rfl rfl ?_
            refine go_iconst (pc := 89) (v := 5) dX5_readLine_89 (by decide) ?_
            refine go_cVi (pc := 90) (Mz := M_X5_fail) (as := [.int 5]) (a := a0) (st := []) dX5_readLine_90 wd_591 cv_X5_fail X5_fail_ok rfl rfl ⟨Nat.le_of_ble_eq_true rfl, Nat.le_of_ble_eq_true rfl⟩ (Nat.le_of_ble_eq_true rfl) ⟨rfl, rfl⟩ ⟨Nat.le_of_ble_eq_true rfl, Nat.le_of_ble_eq_true rfl⟩ H (fun v75 h74 H => ?_)
            refine go_goto (pc := 93) (tgt := 100) dX5_readLine_93 (by decide) ?_
            exact go_zret (pc := 100) dX5_readLine_100 rfl ⟨Nat.le_of_ble_eq_true rfl, Nat.le_of_ble_eq_true rfl⟩ H
      · refine go_aload_n (pc := 59) dX5_readLine_59 rfl rfl ?_
        refine go_bipush (pc := 60) (v := 6) dX5_readLine_60 (by decide) ?_
        refine go_cVi (pc := 62) (Mz := M_X5_fail) (as := [.int 6]) (a := a0) (st := []) dX5_readLine_62 wd_591 cv_X5_fail X5_fail_ok rfl rfl ⟨Nat.le_of_ble_eq_true rfl, Nat.le_of_ble_eq_true rfl⟩ (Nat.le_of_ble_eq_true rfl) ⟨rfl, rfl⟩ ⟨Nat.le_of_ble_eq_true rfl, Nat.le_of_ble_eq_true rfl⟩ H (fun v77 h76 H => ?_)
        exact go_zret (pc := 65) dX5_readLine_65 rfl ⟨Nat.le_of_ble_eq_true rfl, Nat.le_of_ble_eq_true rfl⟩ H
    · refine go_aload_n (pc := 43) dX5_readLine_43 rfl rfl ?_
      refine go_iconst (pc := 44) (v := 1) dX5_readLine_44 (by decide) ?_
      refine go_cVi (pc := 45) (Mz := M_X5_fail) (as := [.int 1]) (a := a0) (st := []) dX5_readLine_45 wd_591 cv_X5_fail X5_fail_ok rfl rfl ⟨Nat.le_of_ble_eq_true rfl, Nat.le_of_ble_eq_true rfl⟩ (Nat.le_of_ble_eq_true rfl) ⟨rfl, rfl⟩ ⟨Nat.le_of_ble_eq_true rfl, Nat.le_of_ble_eq_true rfl⟩ H (fun v79 h78 H => ?_)
      exact go_zret (pc := 48) dX5_readLine_48 rfl ⟨Nat.le_of_ble_eq_true rfl, Nat.le_of_ble_eq_true rfl⟩ H
  · refine go_aload_n (pc := 13) dX5_readLine_13 rfl rfl ?_
    refine go_getR (pc := 14) dX5_readLine_14 fl_X5_22 H (fun v80 H => ?_)
    refine go_getI (pc := 17) dX5_readLine_17 fl_X5_81 H (fun v81 H => ?_)
    refine go_if_eq (pc := 20) (tgt := 31) dX5_readLine_20 (by decide) H (fun H => ?_) (fun H => ?_)
    · refine go_aload_n (pc := 31) dX5_readLine_31 rfl rfl ?_
      refine go_cVi (pc := 32) (Mz := M_X5_readVoyage) (as := []) (a := a0) (st := []) dX5_readLine_32 wd_595 cv_X5_readVoyage X5_readVoyage_ok rfl rfl ⟨Nat.le_of_ble_eq_true rfl, Nat.le_of_ble_eq_true rfl⟩ (Nat.le_of_ble_eq_true rfl) ⟨rfl, rfl⟩ ⟨Nat.le_of_ble_eq_true rfl, Nat.le_of_ble_eq_true rfl⟩ H (fun v83 h82 H => ?_)
      exact go_zret (pc := 35) dX5_readLine_35 rfl ⟨Nat.le_of_ble_eq_true rfl, Nat.le_of_ble_eq_true rfl⟩ H
    · refine go_aload_n (pc := 23) dX5_readLine_23 rfl rfl ?_
      refine go_iconst (pc := 24) (v := 3) dX5_readLine_24 (by decide) ?_
      refine go_cVi (pc := 25) (Mz := M_X5_fail) (as := [.int 3]) (a := a0) (st := []) dX5_readLine_25 wd_591 cv_X5_fail X5_fail_ok rfl rfl ⟨Nat.le_of_ble_eq_true rfl, Nat.le_of_ble_eq_true rfl⟩ (Nat.le_of_ble_eq_true rfl) ⟨rfl, rfl⟩ ⟨Nat.le_of_ble_eq_true rfl, Nat.le_of_ble_eq_true rfl⟩ H (fun v85 h84 H => ?_)
      refine go_goto (pc := 28) (tgt := 35) dX5_readLine_28 (by decide) ?_
      exact go_zret (pc := 35) dX5_readLine_35 rfl ⟨Nat.le_of_ble_eq_true rfl, Nat.le_of_ble_eq_true rfl⟩ H

def M_X5_isParted : MD := (yX5_isParted, cX5_isParted, 1, (some .boolean), 2, 43, 0, 0)
theorem cv_X5_isParted : CVo M_X5_isParted 0 5 := ⟨⟨wd_709, wd_113, ⟨by decide, by decide⟩, by decide +kernel⟩, wd_708, wd_22, _, rfl, rfl⟩
def X5_isParted (a0 : Nat) (h : Hp) : Option (Int32 × Hp) :=
  cVv h a0 5 (X5_readToken a0 h) fun h1 =>
  (gI h1 a0 5 6).bind fun v2 =>
  if v2 = 3 then (
    rZ 1 h1)
  else (
    (gI h1 a0 5 6).bind fun v3 =>
    if v3 = 0 then (
      rZ 0 h1)
    else (
      cV h1 a0 5 (X5_fail a0 1 h1) fun v5 h4 =>
      rZ v5 h4))
theorem X5_isParted_ok {a0 : Nat} {h h' : Hp} {r : Int32} (H : X5_isParted a0 h = some (r, h')) : Con M_X5_isParted [.ref a0] h (some (.int r)) h' := by
  refine con_of_go (by decide) 0 (L := [some (.ref a0)]) rfl (Nat.le_of_ble_eq_true rfl) ?_
  unfold X5_isParted at H
  refine go_aload_n (pc := 0) dX5_isParted_0 rfl rfl ?_
  refine go_cVv (pc := 1) (Mz := M_X5_readToken) (as := []) (a := a0) (st := []) dX5_isParted_1 wd_527 cv_X5_readToken X5_readToken_ok rfl rfl ⟨Nat.le_of_ble_eq_true rfl, Nat.le_of_ble_eq_true rfl⟩ (Nat.le_of_ble_eq_true rfl) ⟨rfl, rfl⟩ ⟨Nat.le_of_ble_eq_true rfl, Nat.le_of_ble_eq_true rfl⟩ H (fun h1 H => ?_)
  refine go_aload_n (pc := 4) dX5_isParted_4 rfl rfl ?_
  refine go_getI (pc := 5) dX5_isParted_5 fl_X5_73 H (fun v2 H => ?_)
  refine go_iconst (pc := 8) (v := 3) dX5_isParted_8 (by decide) ?_
  refine go_icmp_ne (pc := 9) (tgt := 14) dX5_isParted_9 (by decide) H (fun H => ?_) (fun H => ?_)
  · refine go_aload_n (pc := 14) dX5_isParted_14 rfl rfl ?_
    refine go_getI (pc := 15) dX5_isParted_15 fl_X5_73 H (fun v3 H => ?_)
    refine go_if_ne (pc := 18) (tgt := 25) dX5_isParted_18 (by decide) H (fun H => ?_) (fun H => ?_)
    · refine go_aload_n (pc := 25) dX5_isParted_25 rfl rfl ?_
      refine go_iconst (pc := 26) (v := 1) dX5_isParted_26 (by decide) ?_
      refine go_cVi (pc := 27) (Mz := M_X5_fail) (as := [.int 1]) (a := a0) (st := []) dX5_isParted_27 wd_591 cv_X5_fail X5_fail_ok rfl rfl ⟨Nat.le_of_ble_eq_true rfl, Nat.le_of_ble_eq_true rfl⟩ (Nat.le_of_ble_eq_true rfl) ⟨rfl, rfl⟩ ⟨Nat.le_of_ble_eq_true rfl, Nat.le_of_ble_eq_true rfl⟩ H (fun v5 h4 H => ?_)
      exact go_zret (pc := 30) dX5_isParted_30 rfl ⟨Nat.le_of_ble_eq_true rfl, Nat.le_of_ble_eq_true rfl⟩ H
    · refine go_iconst (pc := 21) (v := 0) dX5_isParted_21 (by decide) ?_
      refine go_goto (pc := 22) (tgt := 30) dX5_isParted_22 (by decide) ?_
      exact go_zret (pc := 30) dX5_isParted_30 rfl ⟨Nat.le_of_ble_eq_true rfl, Nat.le_of_ble_eq_true rfl⟩ H
  · refine go_iconst (pc := 12) (v := 1) dX5_isParted_12 (by decide) ?_
    exact go_zret (pc := 13) dX5_isParted_13 rfl ⟨Nat.le_of_ble_eq_true rfl, Nat.le_of_ble_eq_true rfl⟩ H

def M_X5_judgeWhole : MD := (yX5_judgeWhole, cX5_judgeWhole, 1, none, 3, 65, 0, 0)
theorem cv_X5_judgeWhole : CVo M_X5_judgeWhole 0 5 := ⟨⟨wd_713, wd_113, ⟨by decide, by decide⟩, by decide +kernel⟩, wd_712, wd_23, _, rfl, rfl⟩
def X5_judgeWhole (a0 : Nat) (h : Hp) : Option (Hp) :=
  (gR h a0 5 3).bind fun v1 =>
  (gR h v1 9 2).bind fun v2 =>
  (gI h v2 8 3).bind fun v3 =>
  if v3 = 0 then (
    cV h a0 5 (X5_fail a0 6 h) fun v10 h9 =>
    some h9)
  else (
    (gR h a0 5 3).bind fun v4 =>
    cV h v4 9 (X9_isLate v4 h) fun v6 h5 =>
    if v6 = 0 then (
      some h5)
    else (
      cV h5 a0 5 (X5_fail a0 7 h5) fun v8 h7 =>
      some h7))
theorem X5_judgeWhole_ok {a0 : Nat} {h h' : Hp} (H : X5_judgeWhole a0 h = some h') : Con M_X5_judgeWhole [.ref a0] h none h' := by
  refine con_of_go (by decide) 0 (L := [some (.ref a0)]) rfl (Nat.le_of_ble_eq_true rfl) ?_
  unfold X5_judgeWhole at H
  refine go_aload_n (pc := 0) dX5_judgeWhole_0 rfl rfl ?_
  refine go_getR (pc := 1) dX5_judgeWhole_1 fl_X5_22 H (fun v1 H => ?_)
  refine go_getR (pc := 4) dX5_judgeWhole_4 fl_X5_54 H (fun v2 H => ?_)
  refine go_getI (pc := 7) dX5_judgeWhole_7 fl_X5_58 H (fun v3 H => ?_)
  refine go_if_ne (pc := 10) (tgt := 23) dX5_judgeWhole_10 (by decide) H (fun H => ?_) (fun H => ?_)
  · refine go_aload_n (pc := 23) dX5_judgeWhole_23 rfl rfl ?_
    refine go_getR (pc := 24) dX5_judgeWhole_24 fl_X5_22 H (fun v4 H => ?_)
    refine go_cVi (pc := 27) (Mz := M_X9_isLate) (as := []) (a := v4) (st := []) dX5_judgeWhole_27 wd_714 cv_X9_isLate X9_isLate_ok rfl rfl ⟨Nat.le_of_ble_eq_true rfl, Nat.le_of_ble_eq_true rfl⟩ (Nat.le_of_ble_eq_true rfl) ⟨rfl, rfl⟩ ⟨Nat.le_of_ble_eq_true rfl, Nat.le_of_ble_eq_true rfl⟩ H (fun v6 h5 H => ?_)
    refine go_if_eq (pc := 30) (tgt := 40) dX5_judgeWhole_30 (by decide) H (fun H => ?_) (fun H => ?_)
    · exact go_vret (pc := 40) dX5_judgeWhole_40 rfl ⟨Nat.le_of_ble_eq_true rfl, Nat.le_of_ble_eq_true rfl⟩ H
    · refine go_aload_n (pc := 33) dX5_judgeWhole_33 rfl rfl ?_
      refine go_bipush (pc := 34) (v := 7) dX5_judgeWhole_34 (by decide) ?_
      refine go_cVi (pc := 36) (Mz := M_X5_fail) (as := [.int 7]) (a := a0) (st := []) dX5_judgeWhole_36 wd_591 cv_X5_fail X5_fail_ok rfl rfl ⟨Nat.le_of_ble_eq_true rfl, Nat.le_of_ble_eq_true rfl⟩ (Nat.le_of_ble_eq_true rfl) ⟨rfl, rfl⟩ ⟨Nat.le_of_ble_eq_true rfl, Nat.le_of_ble_eq_true rfl⟩ H (fun v8 h7 H => ?_)
      refine go_pop (pc := 39) dX5_judgeWhole_39 rfl ?_
      exact go_vret (pc := 40) dX5_judgeWhole_40 rfl ⟨Nat.le_of_ble_eq_true rfl, Nat.le_of_ble_eq_true rfl⟩ H
  · refine go_aload_n (pc := 13) dX5_judgeWhole_13 rfl rfl ?_
    refine go_bipush (pc := 14) (v := 6) dX5_judgeWhole_14 (by decide) ?_
    refine go_cVi (pc := 16) (Mz := M_X5_fail) (as := [.int 6]) (a := a0) (st := []) dX5_judgeWhole_16 wd_591 cv_X5_fail X5_fail_ok rfl rfl ⟨Nat.le_of_ble_eq_true rfl, Nat.le_of_ble_eq_true rfl⟩ (Nat.le_of_ble_eq_true rfl) ⟨rfl, rfl⟩ ⟨Nat.le_of_ble_eq_true rfl, Nat.le_of_ble_eq_true rfl⟩ H (fun v10 h9 H => ?_)
    refine go_pop (pc := 19) dX5_judgeWhole_19 rfl ?_
    refine go_goto (pc := 20) (tgt := 40) dX5_judgeWhole_20 (by decide) ?_
    exact go_vret (pc := 40) dX5_judgeWhole_40 rfl ⟨Nat.le_of_ble_eq_true rfl, Nat.le_of_ble_eq_true rfl⟩ H

def M_X5_read : MD := (yX5_read, cX5_read, 5, none, 9, 194, 0, 0)
theorem cv_X5_read : CVo M_X5_read 2 5 := ⟨⟨wd_518, wd_113, ⟨by decide, by decide⟩, by decide +kernel⟩, wd_516, wd_517, _, rfl, rfl⟩
def X5_read_B75 (a0 : Nat) (h : Hp) : Option (Hp) :=
  (gI h a0 5 11).bind fun v201 =>
  if v201 = 0 then (
    cVv h a0 5 (X5_judgeWhole a0 h) fun h202 =>
    some h202)
  else (
    some h)
theorem X5_read_B75_ok {hh h' : Hp}  (a0 : Nat) (h : Hp) (H : X5_read_B75 a0 h = some h') : Go (PM M_X5_read hh none h') M_X5_read 75 [some (.ref a0), none, none, none, none] [] h 0 0 := by
  unfold X5_read_B75 at H
  refine go_aload_n (pc := 75) dX5_read_75 rfl rfl ?_
  refine go_getI (pc := 76) dX5_read_76 fl_X5_38 H (fun v201 H => ?_)
  refine go_if_ne (pc := 79) (tgt := 86) dX5_read_79 (by decide) H (fun H => ?_) (fun H => ?_)
  · exact go_vret (pc := 86) dX5_read_86 rfl ⟨Nat.le_of_ble_eq_true rfl, Nat.le_of_ble_eq_true rfl⟩ H
  · refine go_aload_n (pc := 82) dX5_read_82 rfl rfl ?_
    refine go_cVv (pc := 83) (Mz := M_X5_judgeWhole) (as := []) (a := a0) (st := []) dX5_read_83 wd_710 cv_X5_judgeWhole X5_judgeWhole_ok rfl rfl ⟨Nat.le_of_ble_eq_true rfl, Nat.le_of_ble_eq_true rfl⟩ (Nat.le_of_ble_eq_true rfl) ⟨rfl, rfl⟩ ⟨Nat.le_of_ble_eq_true rfl, Nat.le_of_ble_eq_true rfl⟩ H (fun h202 H => ?_)
    exact go_vret (pc := 86) dX5_read_86 rfl ⟨Nat.le_of_ble_eq_true rfl, Nat.le_of_ble_eq_true rfl⟩ H

def X5_read_B68 (rc37 : Nat → Int32 → Int32 → Hp → Option (Hp)) (a0 : Nat) (a4 : Int32) (s0 : Int32) (h : Hp) : Option (Hp) :=
  rc37 a0 s0 (a4 + 1) h
theorem X5_read_B68_ok {hh h' : Hp}  (rc37 : Nat → Int32 → Int32 → Hp → Option (Hp)) (hrc37 : ∀ (a0 : Nat) (a3 : Int32) (a4 : Int32) (h : Hp), rc37 a0 a3 a4 h = some h' → Go (PM M_X5_read hh none h') M_X5_read 37 [some (.ref a0), none, none, some (.int a3), some (.int a4)] [] h 0 0) (a0 : Nat) (a4 : Int32) (s0 : Int32) (h : Hp) (H : X5_read_B68 rc37 a0 a4 s0 h = some h') : Go (PM M_X5_read hh none h') M_X5_read 68 [some (.ref a0), none, none, none, some (.int a4)] [.int s0] h 0 0 := by
  unfold X5_read_B68 at H
  refine go_istore_n (pc := 68) (L' := [some (.ref a0), none, none, some (.int s0), some (.int a4)]) dX5_read_68 rfl (Nat.le_of_ble_eq_true rfl) rfl ?_
  refine go_iinc (pc := 69) (v := a4 + 1) (L' := [some (.ref a0), none, none, some (.int s0), some (.int (a4 + 1))]) dX5_read_69 rfl rfl (Nat.le_of_ble_eq_true rfl) rfl ?_
  refine go_goto (pc := 72) (tgt := 37) dX5_read_72 (by decide) ?_
  exact Go.weak (L' := [some (.ref a0), none, none, some (.int s0), some (.int (a4 + 1))]) ⟨rfl, ⟨rfl, ⟨rfl, trivial⟩⟩⟩ (hrc37 a0 s0 (a4 + 1) h H)

def X5_read_B67 (rc37 : Nat → Int32 → Int32 → Hp → Option (Hp)) (a0 : Nat) (a4 : Int32) (h : Hp) : Option (Hp) :=
  X5_read_B68 rc37 a0 a4 0 h
theorem X5_read_B67_ok {hh h' : Hp}  (rc37 : Nat → Int32 → Int32 → Hp → Option (Hp)) (hrc37 : ∀ (a0 : Nat) (a3 : Int32) (a4 : Int32) (h : Hp), rc37 a0 a3 a4 h = some h' → Go (PM M_X5_read hh none h') M_X5_read 37 [some (.ref a0), none, none, some (.int a3), some (.int a4)] [] h 0 0) (a0 : Nat) (a4 : Int32) (h : Hp) (H : X5_read_B67 rc37 a0 a4 h = some h') : Go (PM M_X5_read hh none h') M_X5_read 67 [some (.ref a0), none, none, none, some (.int a4)] [] h 0 0 := by
  unfold X5_read_B67 at H
  refine go_iconst (pc := 67) (v := 0) dX5_read_67 (by decide) ?_
  exact Go.weak (L' := [some (.ref a0), none, none, none, some (.int a4)]) ⟨rfl, ⟨rfl, trivial⟩⟩ (X5_read_B68_ok _ hrc37 a0 a4 0 h H)

def X5_read_L37_s (rc37 : Nat → Int32 → Int32 → Hp → Option (Hp)) (a0 : Nat) (a3 : Int32) (a4 : Int32) (h : Hp) : Option (Hp) :=
  if a3 = 0 then (
    X5_read_B75 a0 h)
  else (
    if 900 < a4 then (
      X5_read_B75 a0 h)
    else (
      cV h a0 5 (X5_readLine a0 h) fun v102 h101 =>
      if v102 = 0 then (
        X5_read_B67 rc37 a0 a4 h101)
      else (
        cV h101 a0 5 (X5_isParted a0 h101) fun v104 h103 =>
        if v104 = 0 then (
          X5_read_B67 rc37 a0 a4 h103)
        else (
          X5_read_B68 rc37 a0 a4 1 h103))))
def X5_read_L37 (q : Nat) : Nat → Int32 → Int32 → Hp → Option (Hp) := loopN (fun _ _ _ _ => none) (X5_read_L37_s) q
theorem X5_read_L37_ok {hh h' : Hp}  : ∀ (q : Nat) (a0 : Nat) (a3 : Int32) (a4 : Int32) (h : Hp), X5_read_L37 q a0 a3 a4 h = some h' → Go (PM M_X5_read hh none h') M_X5_read 37 [some (.ref a0), none, none, some (.int a3), some (.int a4)] [] h 0 0 := by
  intro q
  induction q with
  | zero => intro a0 a3 a4 h H; cases H
  | succ q hrc37 =>
    intro a0 a3 a4 h H
    replace H : X5_read_L37_s (X5_read_L37 q) a0 a3 a4 h = some h' := H
    unfold X5_read_L37_s at H
    refine go_iload_n (pc := 37) dX5_read_37 rfl rfl ?_
    refine go_if_eq (pc := 38) (tgt := 75) dX5_read_38 (by decide) H (fun H => ?_) (fun H => ?_)
    · exact Go.weak (L' := [some (.ref a0), none, none, none, none]) ⟨rfl, trivial⟩ (X5_read_B75_ok a0 h H)
    · refine go_iload (pc := 41) dX5_read_41 rfl ?_
      refine go_sipush (pc := 43) (v := 900) dX5_read_43 (by decide) ?_
      refine go_icmp_gt (pc := 46) (tgt := 75) dX5_read_46 (by decide) H (fun H => ?_) (fun H => ?_)
      · exact Go.weak (L' := [some (.ref a0), none, none, none, none]) ⟨rfl, trivial⟩ (X5_read_B75_ok a0 h H)
      · refine go_aload_n (pc := 49) dX5_read_49 rfl rfl ?_
        refine go_cVi (pc := 50) (Mz := M_X5_readLine) (as := []) (a := a0) (st := []) dX5_read_50 wd_523 cv_X5_readLine X5_readLine_ok rfl rfl ⟨Nat.le_of_ble_eq_true rfl, Nat.le_of_ble_eq_true rfl⟩ (Nat.le_of_ble_eq_true rfl) ⟨rfl, rfl⟩ ⟨Nat.le_of_ble_eq_true rfl, Nat.le_of_ble_eq_true rfl⟩ H (fun v102 h101 H => ?_)
        refine go_if_eq (pc := 53) (tgt := 67) dX5_read_53 (by decide) H (fun H => ?_) (fun H => ?_)
        · exact Go.weak (L' := [some (.ref a0), none, none, none, some (.int a4)]) ⟨rfl, ⟨rfl, trivial⟩⟩ (X5_read_B67_ok _ hrc37 a0 a4 h101 H)
        · refine go_aload_n (pc := 56) dX5_read_56 rfl rfl ?_
          refine go_cVi (pc := 57) (Mz := M_X5_isParted) (as := []) (a := a0) (st := []) dX5_read_57 wd_706 cv_X5_isParted X5_isParted_ok rfl rfl ⟨Nat.le_of_ble_eq_true rfl, Nat.le_of_ble_eq_true rfl⟩ (Nat.le_of_ble_eq_true rfl) ⟨rfl, rfl⟩ ⟨Nat.le_of_ble_eq_true rfl, Nat.le_of_ble_eq_true rfl⟩ H (fun v104 h103 H => ?_)
          refine go_if_eq (pc := 60) (tgt := 67) dX5_read_60 (by decide) H (fun H => ?_) (fun H => ?_)
          · exact Go.weak (L' := [some (.ref a0), none, none, none, some (.int a4)]) ⟨rfl, ⟨rfl, trivial⟩⟩ (X5_read_B67_ok _ hrc37 a0 a4 h103 H)
          · refine go_iconst (pc := 63) (v := 1) dX5_read_63 (by decide) ?_
            refine go_goto (pc := 64) (tgt := 68) dX5_read_64 (by decide) ?_
            exact Go.weak (L' := [some (.ref a0), none, none, none, some (.int a4)]) ⟨rfl, ⟨rfl, trivial⟩⟩ (X5_read_B68_ok _ hrc37 a0 a4 1 h103 H)

def X5_read (a0 : Nat) (a1 : Int32) (a2 : Nat) (h : Hp) : Option (Hp) :=
  (pF h a0 5 3 (.ref a2)).bind fun h1 =>
  (gR h1 a0 5 3).bind fun v2 =>
  cVv h1 v2 9 (X9_clear v2 h1) fun h3 =>
  (pF h3 a0 5 4 (.int a1)).bind fun h4 =>
  (pF h4 a0 5 5 (.int 0)).bind fun h5 =>
  (pF h5 a0 5 11 (.int 0)).bind fun h6 =>
  (pF h6 a0 5 12 (.int (-1))).bind fun h7 =>
  X5_read_L37 5000 a0 1 0 h7
theorem X5_read_ok {a0 : Nat} {a1 : Int32} {a2 : Nat} {h h' : Hp} (H : X5_read a0 a1 a2 h = some h') : Con M_X5_read [.ref a0, .int a1, .ref a2] h none h' := by
  refine con_of_go (by decide) 2 (L := [some (.ref a0), some (.int a1), some (.ref a2), none, none]) rfl (Nat.le_of_ble_eq_true rfl) ?_
  unfold X5_read at H
  refine go_aload_n (pc := 0) dX5_read_0 rfl rfl ?_
  refine go_aload_n (pc := 1) dX5_read_1 rfl rfl ?_
  refine go_putR (pc := 2) dX5_read_2 fs_X5_22 H (fun h1 H => ?_)
  refine go_aload_n (pc := 5) dX5_read_5 rfl rfl ?_
  refine go_getR (pc := 6) dX5_read_6 fl_X5_22 H (fun v2 H => ?_)
  refine go_cVv (pc := 9) (Mz := M_X9_clear) (as := []) (a := v2) (st := []) dX5_read_9 wd_519 cv_X9_clear X9_clear_ok rfl rfl ⟨Nat.le_of_ble_eq_true rfl, Nat.le_of_ble_eq_true rfl⟩ (Nat.le_of_ble_eq_true rfl) ⟨rfl, rfl⟩ ⟨Nat.le_of_ble_eq_true rfl, Nat.le_of_ble_eq_true rfl⟩ H (fun h3 H => ?_)
  refine go_aload_n (pc := 12) dX5_read_12 rfl rfl ?_
  refine go_iload_n (pc := 13) dX5_read_13 rfl rfl ?_
  refine go_putI (pc := 14) dX5_read_14 fs_X5_31 H (fun h4 H => ?_)
  refine go_aload_n (pc := 17) dX5_read_17 rfl rfl ?_
  refine go_iconst (pc := 18) (v := 0) dX5_read_18 (by decide) ?_
  refine go_putI (pc := 19) dX5_read_19 fs_X5_35 H (fun h5 H => ?_)
  refine go_aload_n (pc := 22) dX5_read_22 rfl rfl ?_
  refine go_iconst (pc := 23) (v := 0) dX5_read_23 (by decide) ?_
  refine go_putI (pc := 24) dX5_read_24 fs_X5_38 H (fun h6 H => ?_)
  refine go_aload_n (pc := 27) dX5_read_27 rfl rfl ?_
  refine go_iconst (pc := 28) (v := (-1)) dX5_read_28 (by decide) ?_
  refine go_putI (pc := 29) dX5_read_29 fs_X5_41 H (fun h7 H => ?_)
  refine go_iconst (pc := 32) (v := 1) dX5_read_32 (by decide) ?_
  refine go_istore_n (pc := 33) (L' := [some (.ref a0), some (.int a1), some (.ref a2), some (.int 1), none]) dX5_read_33 rfl (Nat.le_of_ble_eq_true rfl) rfl ?_
  refine go_iconst (pc := 34) (v := 0) dX5_read_34 (by decide) ?_
  refine go_istore (pc := 35) (L' := [some (.ref a0), some (.int a1), some (.ref a2), some (.int 1), some (.int 0)]) dX5_read_35 (Nat.le_of_ble_eq_true rfl) rfl ?_
  exact Go.weak (L' := [some (.ref a0), none, none, some (.int 1), some (.int 0)]) ⟨rfl, ⟨rfl, ⟨rfl, trivial⟩⟩⟩ (X5_read_L37_ok 5000 a0 1 0 h7 H)
