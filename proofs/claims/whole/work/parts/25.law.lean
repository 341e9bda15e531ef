/-! the law: written by wip/whole/gen/law.py -/
theorem wd_131 : ((Jvm.Cond.classLink "GlassWatchLaw" (8 : Nat) "GlassWatch")) ∈ TB := tb_in (in_t1 (List.mem_of_getElem? (i := 23) (by decide +kernel))) (by decide +kernel)
theorem wd_132 : ((Jvm.Cond.instantiable "GlassWatch" (15 : Nat))) ∈ TB := tb_in (in_t1 (List.mem_of_getElem? (i := 24) (by decide +kernel))) (by decide +kernel)
theorem wd_133 : ((Jvm.Cond.methodLink "GlassWatchLaw" (15 : Nat) ({ cls := "GlassWatch", name := "<init>", desc := "()V" } : Jvm.MethodName))) ∈ TB := tb_in (in_t1 (List.mem_of_getElem? (i := 25) (by decide +kernel))) (by decide +kernel)
theorem wd_499 : ((Jvm.Cond.methodLink "GlassWatchLaw" (19 : Nat) ({ cls := "GlassWatch", name := "feed", desc := "(IIIII)I" } : Jvm.MethodName))) ∈ TB := tb_in (in_t2 (List.mem_of_getElem? (i := 151) (by decide +kernel))) (by decide +kernel)
theorem wd_507 : ((Jvm.Cond.methodLink "GlassWatchLaw" (24 : Nat) ({ cls := "GlassWatch", name := "voyage", desc := "(I)I" } : Jvm.MethodName))) ∈ TB := tb_in (in_t2 (List.mem_of_getElem? (i := 159) (by decide +kernel))) (by decide +kernel)
theorem wd_737 : ((Jvm.Cond.methodLink "GlassWatchLaw" (28 : Nat) ({ cls := "GlassWatch", name := "fault", desc := "()I" } : Jvm.MethodName))) ∈ TB := tb_in (in_t3 (List.mem_of_getElem? (i := 149) (by decide +kernel))) (by decide +kernel)
theorem wd_741 : ((Jvm.Cond.methodLink "GlassWatchLaw" (33 : Nat) ({ cls := "GlassWatch", name := "where", desc := "()I" } : Jvm.MethodName))) ∈ TB := tb_in (in_t3 (List.mem_of_getElem? (i := 153) (by decide +kernel))) (by decide +kernel)
theorem wd_745 : ((Jvm.Cond.methodLink "GlassWatchLaw" (37 : Nat) ({ cls := "GlassWatch", name := "watch", desc := "(II)I" } : Jvm.MethodName))) ∈ TB := tb_in (in_t3 (List.mem_of_getElem? (i := 157) (by decide +kernel))) (by decide +kernel)
theorem wd_759 : ((Jvm.Cond.methodLink "GlassWatchLaw" (42 : Nat) ({ cls := "GlassWatch", name := "boy", desc := "(II)I" } : Jvm.MethodName))) ∈ TB := tb_in (in_t3 (List.mem_of_getElem? (i := 171) (by decide +kernel))) (by decide +kernel)
theorem wd_790 : ((Jvm.Cond.methodLink "GlassWatchLaw" (46 : Nat) ({ cls := "GlassWatch", name := "officer", desc := "(II)I" } : Jvm.MethodName))) ∈ TB := tb_in (in_t3 (List.mem_of_getElem? (i := 202) (by decide +kernel))) (by decide +kernel)
theorem wd_794 : ((Jvm.Cond.methodLink "GlassWatchLaw" (50 : Nat) ({ cls := "GlassWatch", name := "glass", desc := "(II)I" } : Jvm.MethodName))) ∈ TB := tb_in (in_t3 (List.mem_of_getElem? (i := 206) (by decide +kernel))) (by decide +kernel)
theorem wd_805 : ((Jvm.Cond.methodLink "GlassWatchLaw" (54 : Nat) ({ cls := "GlassWatch", name := "stolen", desc := "(I)I" } : Jvm.MethodName))) ∈ TB := tb_in (in_t3 (List.mem_of_getElem? (i := 217) (by decide +kernel))) (by decide +kernel)
theorem wd_810 : ((Jvm.Cond.methodLink "GlassWatchLaw" (58 : Nat) ({ cls := "GlassWatch", name := "stolenBy", desc := "(I)I" } : Jvm.MethodName))) ∈ TB := tb_in (in_t3 (List.mem_of_getElem? (i := 222) (by decide +kernel))) (by decide +kernel)
theorem wd_827 : ((Jvm.Cond.methodLink "GlassWatchLaw" (62 : Nat) ({ cls := "GlassWatch", name := "thief", desc := "()I" } : Jvm.MethodName))) ∈ TB := tb_in (in_t3 (List.mem_of_getElem? (i := 239) (by decide +kernel))) (by decide +kernel)
theorem wd_835 : ((Jvm.Cond.methodLink "GlassWatchLaw" (66 : Nat) ({ cls := "GlassWatch", name := "lostWatch", desc := "()I" } : Jvm.MethodName))) ∈ TB := tb_in (in_t4 (List.mem_of_getElem? (i := 7) (by decide +kernel))) (by decide +kernel)
theorem wd_839 : ((Jvm.Cond.methodLink "GlassWatchLaw" (70 : Nat) ({ cls := "GlassWatch", name := "at", desc := "(IZ)I" } : Jvm.MethodName))) ∈ TB := tb_in (in_t4 (List.mem_of_getElem? (i := 11) (by decide +kernel))) (by decide +kernel)
theorem wd_869 : ((Jvm.Cond.methodLink "GlassWatchLaw" (75 : Nat) ({ cls := "GlassWatch", name := "thought", desc := "(IZ)I" } : Jvm.MethodName))) ∈ TB := tb_in (in_t4 (List.mem_of_getElem? (i := 41) (by decide +kernel))) (by decide +kernel)
theorem wd_873 : ((Jvm.Cond.methodLink "GlassWatchLaw" (79 : Nat) ({ cls := "GlassWatch", name := "error", desc := "(I)I" } : Jvm.MethodName))) ∈ TB := tb_in (in_t4 (List.mem_of_getElem? (i := 45) (by decide +kernel))) (by decide +kernel)
theorem wd_884 : ((Jvm.Cond.methodLink "GlassWatchLaw" (83 : Nat) ({ cls := "GlassWatch", name := "worst", desc := "()I" } : Jvm.MethodName))) ∈ TB := tb_in (in_t4 (List.mem_of_getElem? (i := 56) (by decide +kernel))) (by decide +kernel)
theorem wd_890 : ((Jvm.Cond.methodLink "GlassWatchLaw" (87 : Nat) ({ cls := "GlassWatch", name := "square", desc := "(I)I" } : Jvm.MethodName))) ∈ TB := tb_in (in_t4 (List.mem_of_getElem? (i := 62) (by decide +kernel))) (by decide +kernel)
theorem wd_902 : ((Jvm.Cond.methodLink "GlassWatchLaw" (91 : Nat) ({ cls := "GlassWatch", name := "squareThought", desc := "(I)I" } : Jvm.MethodName))) ∈ TB := tb_in (in_t4 (List.mem_of_getElem? (i := 74) (by decide +kernel))) (by decide +kernel)
theorem wd_910 : ((Jvm.Cond.methodLink "GlassWatchLaw" (95 : Nat) ({ cls := "GlassWatch", name := "strikes", desc := "()I" } : Jvm.MethodName))) ∈ TB := tb_in (in_t4 (List.mem_of_getElem? (i := 82) (by decide +kernel))) (by decide +kernel)
theorem wd_922 : ((Jvm.Cond.methodLink "GlassWatchLaw" (99 : Nat) ({ cls := "GlassWatch", name := "feared", desc := "()I" } : Jvm.MethodName))) ∈ TB := tb_in (in_t4 (List.mem_of_getElem? (i := 94) (by decide +kernel))) (by decide +kernel)
theorem wd_926 : ((Jvm.Cond.methodLink "GlassWatchLaw" (103 : Nat) ({ cls := "GlassWatch", name := "canBe", desc := "(I)I" } : Jvm.MethodName))) ∈ TB := tb_in (in_t4 (List.mem_of_getElem? (i := 98) (by decide +kernel))) (by decide +kernel)
theorem wd_964 : ((Jvm.Cond.methodLink "GlassWatchLaw" (107 : Nat) ({ cls := "GlassWatch", name := "perils", desc := "()I" } : Jvm.MethodName))) ∈ TB := tb_in (in_t4 (List.mem_of_getElem? (i := 136) (by decide +kernel))) (by decide +kernel)
theorem wd_974 : ((Jvm.Cond.methodLink "GlassWatchLaw" (111 : Nat) ({ cls := "GlassWatch", name := "attendFor", desc := "(I)I" } : Jvm.MethodName))) ∈ TB := tb_in (in_t4 (List.mem_of_getElem? (i := 146) (by decide +kernel))) (by decide +kernel)
theorem wd_1004 : ((Jvm.Cond.methodLink "GlassWatchLaw" (115 : Nat) ({ cls := "GlassWatch", name := "stolenIf", desc := "(I)I" } : Jvm.MethodName))) ∈ TB := tb_in (in_t4 (List.mem_of_getElem? (i := 176) (by decide +kernel))) (by decide +kernel)
theorem wd_1009 : ((Jvm.Cond.methodLink "GlassWatchLaw" (119 : Nat) ({ cls := "GlassWatch", name := "lookFirst", desc := "()I" } : Jvm.MethodName))) ∈ TB := tb_in (in_t4 (List.mem_of_getElem? (i := 181) (by decide +kernel))) (by decide +kernel)
theorem wd_1017 : ((Jvm.Cond.methodLink "GlassWatchLaw" (123 : Nat) ({ cls := "GlassWatch", name := "change", desc := "()I" } : Jvm.MethodName))) ∈ TB := tb_in (in_t4 (List.mem_of_getElem? (i := 189) (by decide +kernel))) (by decide +kernel)
theorem wd_1025 : ((Jvm.Cond.methodLink "GlassWatchLaw" (127 : Nat) ({ cls := "GlassWatch", name := "strikesIf", desc := "(II)I" } : Jvm.MethodName))) ∈ TB := tb_in (in_t4 (List.mem_of_getElem? (i := 197) (by decide +kernel))) (by decide +kernel)
theorem wd_1034 : ((Jvm.Cond.methodLink "GlassWatchLaw" (131 : Nat) ({ cls := "GlassWatch", name := "relief", desc := "(I)I" } : Jvm.MethodName))) ∈ TB := tb_in (in_t4 (List.mem_of_getElem? (i := 206) (by decide +kernel))) (by decide +kernel)
theorem wd_1038 : ((Jvm.Cond.methodLink "GlassWatchLaw" (135 : Nat) ({ cls := "GlassWatch", name := "fits", desc := "()I" } : Jvm.MethodName))) ∈ TB := tb_in (in_t4 (List.mem_of_getElem? (i := 210) (by decide +kernel))) (by decide +kernel)
theorem wd_1057 : ((Jvm.Cond.methodLink "GlassWatchLaw" (139 : Nat) ({ cls := "GlassWatch", name := "fitAt", desc := "(I)I" } : Jvm.MethodName))) ∈ TB := tb_in (in_t4 (List.mem_of_getElem? (i := 229) (by decide +kernel))) (by decide +kernel)
theorem wd_1065 : ((Jvm.Cond.methodLink "GlassWatchLaw" (143 : Nat) ({ cls := "GlassWatch", name := "could", desc := "()I" } : Jvm.MethodName))) ∈ TB := tb_in (in_t4 (List.mem_of_getElem? (i := 237) (by decide +kernel))) (by decide +kernel)
theorem wd_1073 : ((Jvm.Cond.methodLink "GlassWatchLaw" (147 : Nat) ({ cls := "GlassWatch", name := "surely", desc := "()I" } : Jvm.MethodName))) ∈ TB := tb_in (in_t5 (List.mem_of_getElem? (i := 5) (by decide +kernel))) (by decide +kernel)
theorem wd_1081 : ((Jvm.Cond.methodLink "GlassWatchLaw" (151 : Nat) ({ cls := "GlassWatch", name := "fix", desc := "()I" } : Jvm.MethodName))) ∈ TB := tb_in (in_t5 (List.mem_of_getElem? (i := 13) (by decide +kernel))) (by decide +kernel)
theorem wd_1094 : ((Jvm.Cond.methodLink "GlassWatchLaw" (155 : Nat) ({ cls := "GlassWatch", name := "fixLeaves", desc := "()I" } : Jvm.MethodName))) ∈ TB := tb_in (in_t5 (List.mem_of_getElem? (i := 26) (by decide +kernel))) (by decide +kernel)
theorem wd_1099 : ((Jvm.Cond.methodLink "GlassWatchLaw" (159 : Nat) ({ cls := "GlassWatch", name := "judge", desc := "()I" } : Jvm.MethodName))) ∈ TB := tb_in (in_t5 (List.mem_of_getElem? (i := 31) (by decide +kernel))) (by decide +kernel)
theorem wd_1104 : ((Jvm.Cond.methodLink "GlassWatchLaw" (163 : Nat) ({ cls := "GlassWatch", name := "odds", desc := "(IIZ)J" } : Jvm.MethodName))) ∈ TB := tb_in (in_t5 (List.mem_of_getElem? (i := 36) (by decide +kernel))) (by decide +kernel)
theorem wd_1133 : ((Jvm.Cond.methodLink "GlassWatchLaw" (168 : Nat) ({ cls := "GlassWatch", name := "mean", desc := "(IZ)J" } : Jvm.MethodName))) ∈ TB := tb_in (in_t5 (List.mem_of_getElem? (i := 65) (by decide +kernel))) (by decide +kernel)
theorem wd_1141 : ((Jvm.Cond.methodLink "GlassWatchLaw" (173 : Nat) ({ cls := "GlassWatch", name := "dearest", desc := "()I" } : Jvm.MethodName))) ∈ TB := tb_in (in_t5 (List.mem_of_getElem? (i := 73) (by decide +kernel))) (by decide +kernel)
theorem wd_1149 : ((Jvm.Cond.methodLink "GlassWatchLaw" (177 : Nat) ({ cls := "GlassWatch", name := "steals", desc := "(IZZZ)I" } : Jvm.MethodName))) ∈ TB := tb_in (in_t5 (List.mem_of_getElem? (i := 81) (by decide +kernel))) (by decide +kernel)
theorem wd_1159 : ((Jvm.Cond.methodLink "GlassWatchLaw" (182 : Nat) ({ cls := "GlassWatch", name := "rests", desc := "(I)I" } : Jvm.MethodName))) ∈ TB := tb_in (in_t5 (List.mem_of_getElem? (i := 91) (by decide +kernel))) (by decide +kernel)
theorem wd_1166 : ((Jvm.Cond.methodLink "GlassWatchLaw" (186 : Nat) ({ cls := "GlassWatch", name := "rest", desc := "(I)I" } : Jvm.MethodName))) ∈ TB := tb_in (in_t5 (List.mem_of_getElem? (i := 98) (by decide +kernel))) (by decide +kernel)
theorem wd_1170 : ((Jvm.Cond.methodLink "GlassWatchLaw" (190 : Nat) ({ cls := "GlassWatch", name := "idled", desc := "(II)I" } : Jvm.MethodName))) ∈ TB := tb_in (in_t5 (List.mem_of_getElem? (i := 102) (by decide +kernel))) (by decide +kernel)
theorem wd_1192 : ((Jvm.Cond.methodLink "GlassWatchLaw" (194 : Nat) ({ cls := "GlassWatch", name := "squareBy", desc := "(II)I" } : Jvm.MethodName))) ∈ TB := tb_in (in_t5 (List.mem_of_getElem? (i := 124) (by decide +kernel))) (by decide +kernel)
theorem wd_1196 : ((Jvm.Cond.methodLink "GlassWatchLaw" (198 : Nat) ({ cls := "GlassWatch", name := "wrecks", desc := "(II)I" } : Jvm.MethodName))) ∈ TB := tb_in (in_t5 (List.mem_of_getElem? (i := 128) (by decide +kernel))) (by decide +kernel)
theorem wd_1200 : ((Jvm.Cond.methodLink "GlassWatchLaw" (202 : Nat) ({ cls := "GlassWatch", name := "attend", desc := "(I)I" } : Jvm.MethodName))) ∈ TB := tb_in (in_t5 (List.mem_of_getElem? (i := 132) (by decide +kernel))) (by decide +kernel)
theorem wd_1213 : ((Jvm.Cond.methodLink "GlassWatchLaw" (206 : Nat) ({ cls := "GlassWatch", name := "steer", desc := "(II)Z" } : Jvm.MethodName))) ∈ TB := tb_in (in_t5 (List.mem_of_getElem? (i := 145) (by decide +kernel))) (by decide +kernel)
theorem wd_1217 : ((Jvm.Cond.methodLink "GlassWatchLaw" (211 : Nat) ({ cls := "GlassWatch", name := "relieve", desc := "(II)I" } : Jvm.MethodName))) ∈ TB := tb_in (in_t5 (List.mem_of_getElem? (i := 149) (by decide +kernel))) (by decide +kernel)
theorem wd_1221 : ((Jvm.Cond.methodLink "GlassWatchLaw" (215 : Nat) ({ cls := "GlassWatch", name := "undo", desc := "()Z" } : Jvm.MethodName))) ∈ TB := tb_in (in_t5 (List.mem_of_getElem? (i := 153) (by decide +kernel))) (by decide +kernel)
theorem wd_1230 : ((Jvm.Cond.methodLink "GlassWatchLaw" (220 : Nat) ({ cls := "GlassWatch", name := "image", desc := "()I" } : Jvm.MethodName))) ∈ TB := tb_in (in_t5 (List.mem_of_getElem? (i := 162) (by decide +kernel))) (by decide +kernel)
theorem wd_1239 : ((Jvm.Cond.methodLink "GlassWatchLaw" (224 : Nat) ({ cls := "GlassWatch", name := "back", desc := "(I)Z" } : Jvm.MethodName))) ∈ TB := tb_in (in_t5 (List.mem_of_getElem? (i := 171) (by decide +kernel))) (by decide +kernel)
theorem wd_1243 : ((Jvm.Cond.methodLink "GlassWatchLaw" (238 : Nat) ({ cls := "GlassWatch", name := "size", desc := "(I)I" } : Jvm.MethodName))) ∈ TB := tb_in (in_t5 (List.mem_of_getElem? (i := 175) (by decide +kernel))) (by decide +kernel)
theorem wd_1247 : ((Jvm.Cond.methodLink "GlassWatchLaw" (242 : Nat) ({ cls := "GlassWatch", name := "trouble", desc := "()I" } : Jvm.MethodName))) ∈ TB := tb_in (in_t5 (List.mem_of_getElem? (i := 179) (by decide +kernel))) (by decide +kernel)
theorem wd_1251 : ((Jvm.Cond.methodLink "GlassWatchLaw" (229 : Nat) ({ cls := "GlassWatchLaw", name := "led", desc := "(LGlassWatch;I[J)I" } : Jvm.MethodName))) ∈ TB := tb_in (in_t5 (List.mem_of_getElem? (i := 183) (by decide +kernel))) (by decide +kernel)
theorem wd_1320 : ((Jvm.Cond.classLink "GlassWatchLaw" (16 : Nat) "GlassWatchModel")) ∈ TB := tb_in (in_t6 (List.mem_of_getElem? (i := 12) (by decide +kernel))) (by decide +kernel)
theorem wd_1321 : ((Jvm.Cond.instantiable "GlassWatchModel" (45 : Nat))) ∈ TB := tb_in (in_t6 (List.mem_of_getElem? (i := 13) (by decide +kernel))) (by decide +kernel)
theorem wd_1322 : ((Jvm.Cond.methodLink "GlassWatchLaw" (18 : Nat) ({ cls := "GlassWatchModel", name := "<init>", desc := "()V" } : Jvm.MethodName))) ∈ TB := tb_in (in_t6 (List.mem_of_getElem? (i := 14) (by decide +kernel))) (by decide +kernel)
theorem wd_1462 : ((Jvm.Cond.methodLink "GlassWatchLaw" (235 : Nat) ({ cls := "GlassWatchModel", name := "thrown", desc := "()I" } : Jvm.MethodName))) ∈ TB := tb_in (in_t6 (List.mem_of_getElem? (i := 154) (by decide +kernel))) (by decide +kernel)
theorem wd_1466 : ((Jvm.Cond.methodLink "GlassWatchLaw" (23 : Nat) ({ cls := "GlassWatchModel", name := "feed", desc := "(IIIII)I" } : Jvm.MethodName))) ∈ TB := tb_in (in_t6 (List.mem_of_getElem? (i := 158) (by decide +kernel))) (by decide +kernel)
theorem wd_1470 : ((Jvm.Cond.methodLink "GlassWatchLaw" (27 : Nat) ({ cls := "GlassWatchModel", name := "voyage", desc := "(I)I" } : Jvm.MethodName))) ∈ TB := tb_in (in_t6 (List.mem_of_getElem? (i := 162) (by decide +kernel))) (by decide +kernel)
theorem wd_1614 : ((Jvm.Cond.methodLink "GlassWatchLaw" (32 : Nat) ({ cls := "GlassWatchModel", name := "fault", desc := "()I" } : Jvm.MethodName))) ∈ TB := tb_in (in_t7 (List.mem_of_getElem? (i := 66) (by decide +kernel))) (by decide +kernel)
theorem wd_1618 : ((Jvm.Cond.methodLink "GlassWatchLaw" (36 : Nat) ({ cls := "GlassWatchModel", name := "where", desc := "()I" } : Jvm.MethodName))) ∈ TB := tb_in (in_t7 (List.mem_of_getElem? (i := 70) (by decide +kernel))) (by decide +kernel)
theorem wd_1622 : ((Jvm.Cond.methodLink "GlassWatchLaw" (41 : Nat) ({ cls := "GlassWatchModel", name := "watch", desc := "(II)I" } : Jvm.MethodName))) ∈ TB := tb_in (in_t7 (List.mem_of_getElem? (i := 74) (by decide +kernel))) (by decide +kernel)
theorem wd_1645 : ((Jvm.Cond.methodLink "GlassWatchLaw" (45 : Nat) ({ cls := "GlassWatchModel", name := "boy", desc := "(II)I" } : Jvm.MethodName))) ∈ TB := tb_in (in_t7 (List.mem_of_getElem? (i := 97) (by decide +kernel))) (by decide +kernel)
theorem wd_1682 : ((Jvm.Cond.methodLink "GlassWatchLaw" (49 : Nat) ({ cls := "GlassWatchModel", name := "officer", desc := "(II)I" } : Jvm.MethodName))) ∈ TB := tb_in (in_t7 (List.mem_of_getElem? (i := 134) (by decide +kernel))) (by decide +kernel)
theorem wd_1686 : ((Jvm.Cond.methodLink "GlassWatchLaw" (53 : Nat) ({ cls := "GlassWatchModel", name := "glass", desc := "(II)I" } : Jvm.MethodName))) ∈ TB := tb_in (in_t7 (List.mem_of_getElem? (i := 138) (by decide +kernel))) (by decide +kernel)
theorem wd_1694 : ((Jvm.Cond.methodLink "GlassWatchLaw" (57 : Nat) ({ cls := "GlassWatchModel", name := "stolen", desc := "(I)I" } : Jvm.MethodName))) ∈ TB := tb_in (in_t7 (List.mem_of_getElem? (i := 146) (by decide +kernel))) (by decide +kernel)
theorem wd_1698 : ((Jvm.Cond.methodLink "GlassWatchLaw" (61 : Nat) ({ cls := "GlassWatchModel", name := "stolenBy", desc := "(I)I" } : Jvm.MethodName))) ∈ TB := tb_in (in_t7 (List.mem_of_getElem? (i := 150) (by decide +kernel))) (by decide +kernel)
theorem wd_1710 : ((Jvm.Cond.methodLink "GlassWatchLaw" (65 : Nat) ({ cls := "GlassWatchModel", name := "thief", desc := "()I" } : Jvm.MethodName))) ∈ TB := tb_in (in_t7 (List.mem_of_getElem? (i := 162) (by decide +kernel))) (by decide +kernel)
theorem wd_1714 : ((Jvm.Cond.methodLink "GlassWatchLaw" (69 : Nat) ({ cls := "GlassWatchModel", name := "lostWatch", desc := "()I" } : Jvm.MethodName))) ∈ TB := tb_in (in_t7 (List.mem_of_getElem? (i := 166) (by decide +kernel))) (by decide +kernel)
theorem wd_1718 : ((Jvm.Cond.methodLink "GlassWatchLaw" (74 : Nat) ({ cls := "GlassWatchModel", name := "at", desc := "(IZ)I" } : Jvm.MethodName))) ∈ TB := tb_in (in_t7 (List.mem_of_getElem? (i := 170) (by decide +kernel))) (by decide +kernel)
theorem wd_1723 : ((Jvm.Cond.methodLink "GlassWatchLaw" (78 : Nat) ({ cls := "GlassWatchModel", name := "thought", desc := "(IZ)I" } : Jvm.MethodName))) ∈ TB := tb_in (in_t7 (List.mem_of_getElem? (i := 175) (by decide +kernel))) (by decide +kernel)
theorem wd_1727 : ((Jvm.Cond.methodLink "GlassWatchLaw" (82 : Nat) ({ cls := "GlassWatchModel", name := "error", desc := "(I)I" } : Jvm.MethodName))) ∈ TB := tb_in (in_t7 (List.mem_of_getElem? (i := 179) (by decide +kernel))) (by decide +kernel)
theorem wd_1738 : ((Jvm.Cond.methodLink "GlassWatchLaw" (86 : Nat) ({ cls := "GlassWatchModel", name := "worst", desc := "()I" } : Jvm.MethodName))) ∈ TB := tb_in (in_t7 (List.mem_of_getElem? (i := 190) (by decide +kernel))) (by decide +kernel)
theorem wd_1742 : ((Jvm.Cond.methodLink "GlassWatchLaw" (90 : Nat) ({ cls := "GlassWatchModel", name := "square", desc := "(I)I" } : Jvm.MethodName))) ∈ TB := tb_in (in_t7 (List.mem_of_getElem? (i := 194) (by decide +kernel))) (by decide +kernel)
theorem wd_1756 : ((Jvm.Cond.methodLink "GlassWatchLaw" (94 : Nat) ({ cls := "GlassWatchModel", name := "squareThought", desc := "(I)I" } : Jvm.MethodName))) ∈ TB := tb_in (in_t7 (List.mem_of_getElem? (i := 208) (by decide +kernel))) (by decide +kernel)
theorem wd_1764 : ((Jvm.Cond.methodLink "GlassWatchLaw" (98 : Nat) ({ cls := "GlassWatchModel", name := "strikes", desc := "()I" } : Jvm.MethodName))) ∈ TB := tb_in (in_t7 (List.mem_of_getElem? (i := 216) (by decide +kernel))) (by decide +kernel)
theorem wd_1776 : ((Jvm.Cond.methodLink "GlassWatchLaw" (102 : Nat) ({ cls := "GlassWatchModel", name := "feared", desc := "()I" } : Jvm.MethodName))) ∈ TB := tb_in (in_t7 (List.mem_of_getElem? (i := 228) (by decide +kernel))) (by decide +kernel)
theorem wd_1780 : ((Jvm.Cond.methodLink "GlassWatchLaw" (106 : Nat) ({ cls := "GlassWatchModel", name := "canBe", desc := "(I)I" } : Jvm.MethodName))) ∈ TB := tb_in (in_t7 (List.mem_of_getElem? (i := 232) (by decide +kernel))) (by decide +kernel)
theorem wd_1788 : ((Jvm.Cond.methodLink "GlassWatchLaw" (110 : Nat) ({ cls := "GlassWatchModel", name := "perils", desc := "()I" } : Jvm.MethodName))) ∈ TB := tb_in (in_t8 (List.mem_of_getElem? (i := 0) (by decide +kernel))) (by decide +kernel)
theorem wd_1796 : ((Jvm.Cond.methodLink "GlassWatchLaw" (114 : Nat) ({ cls := "GlassWatchModel", name := "attendFor", desc := "(I)I" } : Jvm.MethodName))) ∈ TB := tb_in (in_t8 (List.mem_of_getElem? (i := 8) (by decide +kernel))) (by decide +kernel)
theorem wd_1811 : ((Jvm.Cond.methodLink "GlassWatchLaw" (118 : Nat) ({ cls := "GlassWatchModel", name := "stolenIf", desc := "(I)I" } : Jvm.MethodName))) ∈ TB := tb_in (in_t8 (List.mem_of_getElem? (i := 23) (by decide +kernel))) (by decide +kernel)
theorem wd_1819 : ((Jvm.Cond.methodLink "GlassWatchLaw" (122 : Nat) ({ cls := "GlassWatchModel", name := "lookFirst", desc := "()I" } : Jvm.MethodName))) ∈ TB := tb_in (in_t8 (List.mem_of_getElem? (i := 31) (by decide +kernel))) (by decide +kernel)
theorem wd_1823 : ((Jvm.Cond.methodLink "GlassWatchLaw" (126 : Nat) ({ cls := "GlassWatchModel", name := "change", desc := "()I" } : Jvm.MethodName))) ∈ TB := tb_in (in_t8 (List.mem_of_getElem? (i := 35) (by decide +kernel))) (by decide +kernel)
theorem wd_1827 : ((Jvm.Cond.methodLink "GlassWatchLaw" (130 : Nat) ({ cls := "GlassWatchModel", name := "strikesIf", desc := "(II)I" } : Jvm.MethodName))) ∈ TB := tb_in (in_t8 (List.mem_of_getElem? (i := 39) (by decide +kernel))) (by decide +kernel)
theorem wd_1831 : ((Jvm.Cond.methodLink "GlassWatchLaw" (134 : Nat) ({ cls := "GlassWatchModel", name := "relief", desc := "(I)I" } : Jvm.MethodName))) ∈ TB := tb_in (in_t8 (List.mem_of_getElem? (i := 43) (by decide +kernel))) (by decide +kernel)
theorem wd_1836 : ((Jvm.Cond.methodLink "GlassWatchLaw" (138 : Nat) ({ cls := "GlassWatchModel", name := "fits", desc := "()I" } : Jvm.MethodName))) ∈ TB := tb_in (in_t8 (List.mem_of_getElem? (i := 48) (by decide +kernel))) (by decide +kernel)
theorem wd_1848 : ((Jvm.Cond.methodLink "GlassWatchLaw" (142 : Nat) ({ cls := "GlassWatchModel", name := "fitAt", desc := "(I)I" } : Jvm.MethodName))) ∈ TB := tb_in (in_t8 (List.mem_of_getElem? (i := 60) (by decide +kernel))) (by decide +kernel)
theorem wd_1852 : ((Jvm.Cond.methodLink "GlassWatchLaw" (146 : Nat) ({ cls := "GlassWatchModel", name := "could", desc := "()I" } : Jvm.MethodName))) ∈ TB := tb_in (in_t8 (List.mem_of_getElem? (i := 64) (by decide +kernel))) (by decide +kernel)
theorem wd_1856 : ((Jvm.Cond.methodLink "GlassWatchLaw" (150 : Nat) ({ cls := "GlassWatchModel", name := "surely", desc := "()I" } : Jvm.MethodName))) ∈ TB := tb_in (in_t8 (List.mem_of_getElem? (i := 68) (by decide +kernel))) (by decide +kernel)
theorem wd_1860 : ((Jvm.Cond.methodLink "GlassWatchLaw" (154 : Nat) ({ cls := "GlassWatchModel", name := "fix", desc := "()I" } : Jvm.MethodName))) ∈ TB := tb_in (in_t8 (List.mem_of_getElem? (i := 72) (by decide +kernel))) (by decide +kernel)
theorem wd_1872 : ((Jvm.Cond.methodLink "GlassWatchLaw" (158 : Nat) ({ cls := "GlassWatchModel", name := "fixLeaves", desc := "()I" } : Jvm.MethodName))) ∈ TB := tb_in (in_t8 (List.mem_of_getElem? (i := 84) (by decide +kernel))) (by decide +kernel)
theorem wd_1876 : ((Jvm.Cond.methodLink "GlassWatchLaw" (162 : Nat) ({ cls := "GlassWatchModel", name := "judge", desc := "()I" } : Jvm.MethodName))) ∈ TB := tb_in (in_t8 (List.mem_of_getElem? (i := 88) (by decide +kernel))) (by decide +kernel)
theorem wd_1880 : ((Jvm.Cond.methodLink "GlassWatchLaw" (167 : Nat) ({ cls := "GlassWatchModel", name := "odds", desc := "(IIZ)J" } : Jvm.MethodName))) ∈ TB := tb_in (in_t8 (List.mem_of_getElem? (i := 92) (by decide +kernel))) (by decide +kernel)
theorem wd_1891 : ((Jvm.Cond.methodLink "GlassWatchLaw" (172 : Nat) ({ cls := "GlassWatchModel", name := "mean", desc := "(IZ)J" } : Jvm.MethodName))) ∈ TB := tb_in (in_t8 (List.mem_of_getElem? (i := 103) (by decide +kernel))) (by decide +kernel)
theorem wd_1895 : ((Jvm.Cond.methodLink "GlassWatchLaw" (176 : Nat) ({ cls := "GlassWatchModel", name := "dearest", desc := "()I" } : Jvm.MethodName))) ∈ TB := tb_in (in_t8 (List.mem_of_getElem? (i := 107) (by decide +kernel))) (by decide +kernel)
theorem wd_1903 : ((Jvm.Cond.methodLink "GlassWatchLaw" (181 : Nat) ({ cls := "GlassWatchModel", name := "steals", desc := "(IZZZ)I" } : Jvm.MethodName))) ∈ TB := tb_in (in_t8 (List.mem_of_getElem? (i := 115) (by decide +kernel))) (by decide +kernel)
theorem wd_1910 : ((Jvm.Cond.methodLink "GlassWatchLaw" (185 : Nat) ({ cls := "GlassWatchModel", name := "rests", desc := "(I)I" } : Jvm.MethodName))) ∈ TB := tb_in (in_t8 (List.mem_of_getElem? (i := 122) (by decide +kernel))) (by decide +kernel)
theorem wd_1918 : ((Jvm.Cond.methodLink "GlassWatchLaw" (189 : Nat) ({ cls := "GlassWatchModel", name := "rest", desc := "(I)I" } : Jvm.MethodName))) ∈ TB := tb_in (in_t8 (List.mem_of_getElem? (i := 130) (by decide +kernel))) (by decide +kernel)
theorem wd_1922 : ((Jvm.Cond.methodLink "GlassWatchLaw" (193 : Nat) ({ cls := "GlassWatchModel", name := "idled", desc := "(II)I" } : Jvm.MethodName))) ∈ TB := tb_in (in_t8 (List.mem_of_getElem? (i := 134) (by decide +kernel))) (by decide +kernel)
theorem wd_1931 : ((Jvm.Cond.methodLink "GlassWatchLaw" (197 : Nat) ({ cls := "GlassWatchModel", name := "squareBy", desc := "(II)I" } : Jvm.MethodName))) ∈ TB := tb_in (in_t8 (List.mem_of_getElem? (i := 143) (by decide +kernel))) (by decide +kernel)
theorem wd_1935 : ((Jvm.Cond.methodLink "GlassWatchLaw" (201 : Nat) ({ cls := "GlassWatchModel", name := "wrecks", desc := "(II)I" } : Jvm.MethodName))) ∈ TB := tb_in (in_t8 (List.mem_of_getElem? (i := 147) (by decide +kernel))) (by decide +kernel)
theorem wd_1939 : ((Jvm.Cond.methodLink "GlassWatchLaw" (205 : Nat) ({ cls := "GlassWatchModel", name := "attend", desc := "(I)I" } : Jvm.MethodName))) ∈ TB := tb_in (in_t8 (List.mem_of_getElem? (i := 151) (by decide +kernel))) (by decide +kernel)
theorem wd_1947 : ((Jvm.Cond.methodLink "GlassWatchLaw" (210 : Nat) ({ cls := "GlassWatchModel", name := "steer", desc := "(II)Z" } : Jvm.MethodName))) ∈ TB := tb_in (in_t8 (List.mem_of_getElem? (i := 159) (by decide +kernel))) (by decide +kernel)
theorem wd_1955 : ((Jvm.Cond.methodLink "GlassWatchLaw" (214 : Nat) ({ cls := "GlassWatchModel", name := "relieve", desc := "(II)I" } : Jvm.MethodName))) ∈ TB := tb_in (in_t8 (List.mem_of_getElem? (i := 167) (by decide +kernel))) (by decide +kernel)
theorem wd_1959 : ((Jvm.Cond.methodLink "GlassWatchLaw" (219 : Nat) ({ cls := "GlassWatchModel", name := "undo", desc := "()Z" } : Jvm.MethodName))) ∈ TB := tb_in (in_t8 (List.mem_of_getElem? (i := 171) (by decide +kernel))) (by decide +kernel)
theorem wd_1963 : ((Jvm.Cond.methodLink "GlassWatchLaw" (223 : Nat) ({ cls := "GlassWatchModel", name := "image", desc := "()I" } : Jvm.MethodName))) ∈ TB := tb_in (in_t8 (List.mem_of_getElem? (i := 175) (by decide +kernel))) (by decide +kernel)
theorem wd_1967 : ((Jvm.Cond.methodLink "GlassWatchLaw" (228 : Nat) ({ cls := "GlassWatchModel", name := "back", desc := "(I)Z" } : Jvm.MethodName))) ∈ TB := tb_in (in_t8 (List.mem_of_getElem? (i := 179) (by decide +kernel))) (by decide +kernel)
theorem wd_1971 : ((Jvm.Cond.methodLink "GlassWatchLaw" (234 : Nat) ({ cls := "GlassWatchModel", name := "led", desc := "(I)I" } : Jvm.MethodName))) ∈ TB := tb_in (in_t8 (List.mem_of_getElem? (i := 183) (by decide +kernel))) (by decide +kernel)
theorem wd_1975 : ((Jvm.Cond.methodLink "GlassWatchLaw" (241 : Nat) ({ cls := "GlassWatchModel", name := "size", desc := "(I)I" } : Jvm.MethodName))) ∈ TB := tb_in (in_t8 (List.mem_of_getElem? (i := 187) (by decide +kernel))) (by decide +kernel)
theorem wd_1979 : ((Jvm.Cond.methodLink "GlassWatchLaw" (245 : Nat) ({ cls := "GlassWatchModel", name := "trouble", desc := "()I" } : Jvm.MethodName))) ∈ TB := tb_in (in_t8 (List.mem_of_getElem? (i := 191) (by decide +kernel))) (by decide +kernel)
theorem nl_L_16 : NL "GlassWatchLaw" 16 11 45 [.int 0, .null, .int 0, .int 0, .int 0, .int 0, .int 0, .int 0, .int 0, .int 0, .int 0, .int 0, .null, .int 0, .int 0, .null, .null, .null, .null, .null, .null, .null, .int 0, .int 0, .null, .null, .null, .null, .null, .null, .null, .int 0, .int 0, .int 0, .null, .null, .null, .int 0, .int 0, .int 0, .int 0, .long 0, .long 0, .long 0, .int 0] := ⟨RX11, TX11, tyX11, rfl, ux11, tyX11_ok, wd_1320, wd_1321, wd_121, by decide, by decide⟩
theorem nl_L_8 : NL "GlassWatchLaw" 8 10 15 [.null, .null, .null, .null, .null, .null, .null, .null, .null, .null, .null, .int 0, .int 0, .int 0, .int 0] := ⟨RX10, TX10, tyX10, rfl, ux10, tyX10_ok, wd_131, wd_132, wd_109, by decide, by decide⟩
theorem dL_law_0 : decode cL_law 0 = .ok (.new 8, 3) := by decide +kernel
theorem dL_law_3 : decode cL_law 3 = .ok (.dup, 1) := by decide +kernel
theorem dL_law_4 : decode cL_law 4 = .ok (.invokespecial 15, 3) := by decide +kernel
theorem dL_law_7 : decode cL_law 7 = .ok (.astore_n 1, 1) := by decide +kernel
theorem dL_law_8 : decode cL_law 8 = .ok (.new 16, 3) := by decide +kernel
theorem dL_law_11 : decode cL_law 11 = .ok (.dup, 1) := by decide +kernel
theorem dL_law_12 : decode cL_law 12 = .ok (.invokespecial 18, 3) := by decide +kernel
theorem dL_law_15 : decode cL_law 15 = .ok (.astore_n 2, 1) := by decide +kernel
theorem dL_law_16 : decode cL_law 16 = .ok (.iconst 1, 1) := by decide +kernel
theorem dL_law_17 : decode cL_law 17 = .ok (.newarray .long, 2) := by decide +kernel
theorem dL_law_19 : decode cL_law 19 = .ok (.astore_n 3, 1) := by decide +kernel
theorem dL_law_20 : decode cL_law 20 = .ok (.iconst 0, 1) := by decide +kernel
theorem dL_law_21 : decode cL_law 21 = .ok (.istore 4, 2) := by decide +kernel
theorem dL_law_23 : decode cL_law 23 = .ok (.iload 4, 2) := by decide +kernel
theorem dL_law_25 : decode cL_law 25 = .ok (.aload_n 0, 1) := by decide +kernel
theorem dL_law_26 : decode cL_law 26 = .ok (.arraylength, 1) := by decide +kernel
theorem dL_law_27 : decode cL_law 27 = .ok (.bipush 6, 2) := by decide +kernel
theorem dL_law_29 : decode cL_law 29 = .ok (.isub, 1) := by decide +kernel
theorem dL_law_30 : decode cL_law 30 = .ok (.if_icmp .gt 1738, 3) := by decide +kernel
theorem dL_law_33 : decode cL_law 33 = .ok (.aload_n 0, 1) := by decide +kernel
theorem dL_law_34 : decode cL_law 34 = .ok (.iload 4, 2) := by decide +kernel
theorem dL_law_36 : decode cL_law 36 = .ok (.iaload, 1) := by decide +kernel
theorem dL_law_37 : decode cL_law 37 = .ok (.bipush 63, 2) := by decide +kernel
theorem dL_law_39 : decode cL_law 39 = .ok (.iand, 1) := by decide +kernel
theorem dL_law_40 : decode cL_law 40 = .ok (.tableswitch 1722 0 52 #[228, 301, 326, 339, 352, 389, 426, 463, 500, 525, 550, 563, 576, 629, 682, 707, 720, 745, 770, 783, 796, 821, 834, 859, 884, 897, 910, 947, 972, 985, 1010, 1023, 1036, 1049, 1062, 1075, 1141, 1195, 1208, 1317, 1342, 1367, 1404, 1441, 1478, 1503, 1540, 1577, 1590, 1603, 1628, 1684, 1709], 228) := by decide +kernel
theorem dL_law_268 : decode cL_law 268 = .ok (.aload_n 1, 1) := by decide +kernel
theorem dL_law_269 : decode cL_law 269 = .ok (.aload_n 0, 1) := by decide +kernel
theorem dL_law_270 : decode cL_law 270 = .ok (.iload 4, 2) := by decide +kernel
theorem dL_law_272 : decode cL_law 272 = .ok (.iconst 1, 1) := by decide +kernel
theorem dL_law_273 : decode cL_law 273 = .ok (.iadd, 1) := by decide +kernel
theorem dL_law_274 : decode cL_law 274 = .ok (.iaload, 1) := by decide +kernel
theorem dL_law_275 : decode cL_law 275 = .ok (.aload_n 0, 1) := by decide +kernel
theorem dL_law_276 : decode cL_law 276 = .ok (.iload 4, 2) := by decide +kernel
theorem dL_law_278 : decode cL_law 278 = .ok (.iconst 2, 1) := by decide +kernel
theorem dL_law_279 : decode cL_law 279 = .ok (.iadd, 1) := by decide +kernel
theorem dL_law_280 : decode cL_law 280 = .ok (.iaload, 1) := by decide +kernel
theorem dL_law_281 : decode cL_law 281 = .ok (.aload_n 0, 1) := by decide +kernel
theorem dL_law_282 : decode cL_law 282 = .ok (.iload 4, 2) := by decide +kernel
theorem dL_law_284 : decode cL_law 284 = .ok (.iconst 3, 1) := by decide +kernel
theorem dL_law_285 : decode cL_law 285 = .ok (.iadd, 1) := by decide +kernel
theorem dL_law_286 : decode cL_law 286 = .ok (.iaload, 1) := by decide +kernel
theorem dL_law_287 : decode cL_law 287 = .ok (.aload_n 0, 1) := by decide +kernel
theorem dL_law_288 : decode cL_law 288 = .ok (.iload 4, 2) := by decide +kernel
theorem dL_law_290 : decode cL_law 290 = .ok (.iconst 4, 1) := by decide +kernel
theorem dL_law_291 : decode cL_law 291 = .ok (.iadd, 1) := by decide +kernel
theorem dL_law_292 : decode cL_law 292 = .ok (.iaload, 1) := by decide +kernel
theorem dL_law_293 : decode cL_law 293 = .ok (.aload_n 0, 1) := by decide +kernel
theorem dL_law_294 : decode cL_law 294 = .ok (.iload 4, 2) := by decide +kernel
theorem dL_law_296 : decode cL_law 296 = .ok (.iconst 5, 1) := by decide +kernel
theorem dL_law_297 : decode cL_law 297 = .ok (.iadd, 1) := by decide +kernel
theorem dL_law_298 : decode cL_law 298 = .ok (.iaload, 1) := by decide +kernel
theorem dL_law_299 : decode cL_law 299 = .ok (.invokevirtual 19, 3) := by decide +kernel
theorem dL_law_302 : decode cL_law 302 = .ok (.aload_n 2, 1) := by decide +kernel
theorem dL_law_303 : decode cL_law 303 = .ok (.aload_n 0, 1) := by decide +kernel
theorem dL_law_304 : decode cL_law 304 = .ok (.iload 4, 2) := by decide +kernel
theorem dL_law_306 : decode cL_law 306 = .ok (.iconst 1, 1) := by decide +kernel
theorem dL_law_307 : decode cL_law 307 = .ok (.iadd, 1) := by decide +kernel
theorem dL_law_308 : decode cL_law 308 = .ok (.iaload, 1) := by decide +kernel
theorem dL_law_309 : decode cL_law 309 = .ok (.aload_n 0, 1) := by decide +kernel
theorem dL_law_310 : decode cL_law 310 = .ok (.iload 4, 2) := by decide +kernel
theorem dL_law_312 : decode cL_law 312 = .ok (.iconst 2, 1) := by decide +kernel
theorem dL_law_313 : decode cL_law 313 = .ok (.iadd, 1) := by decide +kernel
theorem dL_law_314 : decode cL_law 314 = .ok (.iaload, 1) := by decide +kernel
theorem dL_law_315 : decode cL_law 315 = .ok (.aload_n 0, 1) := by decide +kernel
theorem dL_law_316 : decode cL_law 316 = .ok (.iload 4, 2) := by decide +kernel
theorem dL_law_318 : decode cL_law 318 = .ok (.iconst 3, 1) := by decide +kernel
theorem dL_law_319 : decode cL_law 319 = .ok (.iadd, 1) := by decide +kernel
theorem dL_law_320 : decode cL_law 320 = .ok (.iaload, 1) := by decide +kernel
theorem dL_law_321 : decode cL_law 321 = .ok (.aload_n 0, 1) := by decide +kernel
theorem dL_law_322 : decode cL_law 322 = .ok (.iload 4, 2) := by decide +kernel
theorem dL_law_324 : decode cL_law 324 = .ok (.iconst 4, 1) := by decide +kernel
theorem dL_law_325 : decode cL_law 325 = .ok (.iadd, 1) := by decide +kernel
theorem dL_law_326 : decode cL_law 326 = .ok (.iaload, 1) := by decide +kernel
theorem dL_law_327 : decode cL_law 327 = .ok (.aload_n 0, 1) := by decide +kernel
theorem dL_law_328 : decode cL_law 328 = .ok (.iload 4, 2) := by decide +kernel
theorem dL_law_330 : decode cL_law 330 = .ok (.iconst 5, 1) := by decide +kernel
theorem dL_law_331 : decode cL_law 331 = .ok (.iadd, 1) := by decide +kernel
theorem dL_law_332 : decode cL_law 332 = .ok (.iaload, 1) := by decide +kernel
theorem dL_law_333 : decode cL_law 333 = .ok (.invokevirtual 23, 3) := by decide +kernel
theorem dL_law_336 : decode cL_law 336 = .ok (.if_icmp .eq 1426, 3) := by decide +kernel
theorem dL_law_339 : decode cL_law 339 = .ok (.iconst 0, 1) := by decide +kernel
theorem dL_law_340 : decode cL_law 340 = .ok (.ireturn, 1) := by decide +kernel
theorem dL_law_341 : decode cL_law 341 = .ok (.aload_n 1, 1) := by decide +kernel
theorem dL_law_342 : decode cL_law 342 = .ok (.aload_n 0, 1) := by decide +kernel
theorem dL_law_343 : decode cL_law 343 = .ok (.iload 4, 2) := by decide +kernel
theorem dL_law_345 : decode cL_law 345 = .ok (.iconst 1, 1) := by decide +kernel
theorem dL_law_346 : decode cL_law 346 = .ok (.iadd, 1) := by decide +kernel
theorem dL_law_347 : decode cL_law 347 = .ok (.iaload, 1) := by decide +kernel
theorem dL_law_348 : decode cL_law 348 = .ok (.invokevirtual 24, 3) := by decide +kernel
theorem dL_law_351 : decode cL_law 351 = .ok (.aload_n 2, 1) := by decide +kernel
theorem dL_law_352 : decode cL_law 352 = .ok (.aload_n 0, 1) := by decide +kernel
theorem dL_law_353 : decode cL_law 353 = .ok (.iload 4, 2) := by decide +kernel
theorem dL_law_355 : decode cL_law 355 = .ok (.iconst 1, 1) := by decide +kernel
theorem dL_law_356 : decode cL_law 356 = .ok (.iadd, 1) := by decide +kernel
theorem dL_law_357 : decode cL_law 357 = .ok (.iaload, 1) := by decide +kernel
theorem dL_law_358 : decode cL_law 358 = .ok (.invokevirtual 27, 3) := by decide +kernel
theorem dL_law_361 : decode cL_law 361 = .ok (.if_icmp .eq 1401, 3) := by decide +kernel
theorem dL_law_364 : decode cL_law 364 = .ok (.iconst 0, 1) := by decide +kernel
theorem dL_law_365 : decode cL_law 365 = .ok (.ireturn, 1) := by decide +kernel
theorem dL_law_366 : decode cL_law 366 = .ok (.aload_n 1, 1) := by decide +kernel
theorem dL_law_367 : decode cL_law 367 = .ok (.invokevirtual 28, 3) := by decide +kernel
theorem dL_law_370 : decode cL_law 370 = .ok (.aload_n 2, 1) := by decide +kernel
theorem dL_law_371 : decode cL_law 371 = .ok (.invokevirtual 32, 3) := by decide +kernel
theorem dL_law_374 : decode cL_law 374 = .ok (.if_icmp .eq 1388, 3) := by decide +kernel
theorem dL_law_377 : decode cL_law 377 = .ok (.iconst 0, 1) := by decide +kernel
theorem dL_law_378 : decode cL_law 378 = .ok (.ireturn, 1) := by decide +kernel
theorem dL_law_379 : decode cL_law 379 = .ok (.aload_n 1, 1) := by decide +kernel
theorem dL_law_380 : decode cL_law 380 = .ok (.invokevirtual 33, 3) := by decide +kernel
theorem dL_law_383 : decode cL_law 383 = .ok (.aload_n 2, 1) := by decide +kernel
theorem dL_law_384 : decode cL_law 384 = .ok (.invokevirtual 36, 3) := by decide +kernel
theorem dL_law_387 : decode cL_law 387 = .ok (.if_icmp .eq 1375, 3) := by decide +kernel
theorem dL_law_390 : decode cL_law 390 = .ok (.iconst 0, 1) := by decide +kernel
theorem dL_law_391 : decode cL_law 391 = .ok (.ireturn, 1) := by decide +kernel
theorem dL_law_392 : decode cL_law 392 = .ok (.aload_n 1, 1) := by decide +kernel
theorem dL_law_393 : decode cL_law 393 = .ok (.aload_n 0, 1) := by decide +kernel
theorem dL_law_394 : decode cL_law 394 = .ok (.iload 4, 2) := by decide +kernel
theorem dL_law_396 : decode cL_law 396 = .ok (.iconst 1, 1) := by decide +kernel
theorem dL_law_397 : decode cL_law 397 = .ok (.iadd, 1) := by decide +kernel
theorem dL_law_398 : decode cL_law 398 = .ok (.iaload, 1) := by decide +kernel
theorem dL_law_399 : decode cL_law 399 = .ok (.aload_n 0, 1) := by decide +kernel
theorem dL_law_400 : decode cL_law 400 = .ok (.iload 4, 2) := by decide +kernel
theorem dL_law_402 : decode cL_law 402 = .ok (.iconst 2, 1) := by decide +kernel
theorem dL_law_403 : decode cL_law 403 = .ok (.iadd, 1) := by decide +kernel
theorem dL_law_404 : decode cL_law 404 = .ok (.iaload, 1) := by decide +kernel
theorem dL_law_405 : decode cL_law 405 = .ok (.invokevirtual 37, 3) := by decide +kernel
theorem dL_law_408 : decode cL_law 408 = .ok (.aload_n 2, 1) := by decide +kernel
theorem dL_law_409 : decode cL_law 409 = .ok (.aload_n 0, 1) := by decide +kernel
theorem dL_law_410 : decode cL_law 410 = .ok (.iload 4, 2) := by decide +kernel
theorem dL_law_412 : decode cL_law 412 = .ok (.iconst 1, 1) := by decide +kernel
theorem dL_law_413 : decode cL_law 413 = .ok (.iadd, 1) := by decide +kernel
theorem dL_law_414 : decode cL_law 414 = .ok (.iaload, 1) := by decide +kernel
theorem dL_law_415 : decode cL_law 415 = .ok (.aload_n 0, 1) := by decide +kernel
theorem dL_law_416 : decode cL_law 416 = .ok (.iload 4, 2) := by decide +kernel
theorem dL_law_418 : decode cL_law 418 = .ok (.iconst 2, 1) := by decide +kernel
theorem dL_law_419 : decode cL_law 419 = .ok (.iadd, 1) := by decide +kernel
theorem dL_law_420 : decode cL_law 420 = .ok (.iaload, 1) := by decide +kernel
theorem dL_law_421 : decode cL_law 421 = .ok (.invokevirtual 41, 3) := by decide +kernel
theorem dL_law_424 : decode cL_law 424 = .ok (.if_icmp .eq 1338, 3) := by decide +kernel
theorem dL_law_427 : decode cL_law 427 = .ok (.iconst 0, 1) := by decide +kernel
theorem dL_law_428 : decode cL_law 428 = .ok (.ireturn, 1) := by decide +kernel
theorem dL_law_429 : decode cL_law 429 = .ok (.aload_n 1, 1) := by decide +kernel
theorem dL_law_430 : decode cL_law 430 = .ok (.aload_n 0, 1) := by decide +kernel
theorem dL_law_431 : decode cL_law 431 = .ok (.iload 4, 2) := by decide +kernel
theorem dL_law_433 : decode cL_law 433 = .ok (.iconst 1, 1) := by decide +kernel
theorem dL_law_434 : decode cL_law 434 = .ok (.iadd, 1) := by decide +kernel
theorem dL_law_435 : decode cL_law 435 = .ok (.iaload, 1) := by decide +kernel
theorem dL_law_436 : decode cL_law 436 = .ok (.aload_n 0, 1) := by decide +kernel
theorem dL_law_437 : decode cL_law 437 = .ok (.iload 4, 2) := by decide +kernel
theorem dL_law_439 : decode cL_law 439 = .ok (.iconst 2, 1) := by decide +kernel
theorem dL_law_440 : decode cL_law 440 = .ok (.iadd, 1) := by decide +kernel
theorem dL_law_441 : decode cL_law 441 = .ok (.iaload, 1) := by decide +kernel
theorem dL_law_442 : decode cL_law 442 = .ok (.invokevirtual 42, 3) := by decide +kernel
theorem dL_law_445 : decode cL_law 445 = .ok (.aload_n 2, 1) := by decide +kernel
theorem dL_law_446 : decode cL_law 446 = .ok (.aload_n 0, 1) := by decide +kernel
theorem dL_law_447 : decode cL_law 447 = .ok (.iload 4, 2) := by decide +kernel
theorem dL_law_449 : decode cL_law 449 = .ok (.iconst 1, 1) := by decide +kernel
theorem dL_law_450 : decode cL_law 450 = .ok (.iadd, 1) := by decide +kernel
theorem dL_law_451 : decode cL_law 451 = .ok (.iaload, 1) := by decide +kernel
theorem dL_law_452 : decode cL_law 452 = .ok (.aload_n 0, 1) := by decide +kernel
theorem dL_law_453 : decode cL_law 453 = .ok (.iload 4, 2) := by decide +kernel
theorem dL_law_455 : decode cL_law 455 = .ok (.iconst 2, 1) := by decide +kernel
theorem dL_law_456 : decode cL_law 456 = .ok (.iadd, 1) := by decide +kernel
theorem dL_law_457 : decode cL_law 457 = .ok (.iaload, 1) := by decide +kernel
theorem dL_law_458 : decode cL_law 458 = .ok (.invokevirtual 45, 3) := by decide +kernel
theorem dL_law_461 : decode cL_law 461 = .ok (.if_icmp .eq 1301, 3) := by decide +kernel
theorem dL_law_464 : decode cL_law 464 = .ok (.iconst 0, 1) := by decide +kernel
theorem dL_law_465 : decode cL_law 465 = .ok (.ireturn, 1) := by decide +kernel
theorem dL_law_466 : decode cL_law 466 = .ok (.aload_n 1, 1) := by decide +kernel
theorem dL_law_467 : decode cL_law 467 = .ok (.aload_n 0, 1) := by decide +kernel
theorem dL_law_468 : decode cL_law 468 = .ok (.iload 4, 2) := by decide +kernel
theorem dL_law_470 : decode cL_law 470 = .ok (.iconst 1, 1) := by decide +kernel
theorem dL_law_471 : decode cL_law 471 = .ok (.iadd, 1) := by decide +kernel
theorem dL_law_472 : decode cL_law 472 = .ok (.iaload, 1) := by decide +kernel
theorem dL_law_473 : decode cL_law 473 = .ok (.aload_n 0, 1) := by decide +kernel
theorem dL_law_474 : decode cL_law 474 = .ok (.iload 4, 2) := by decide +kernel
theorem dL_law_476 : decode cL_law 476 = .ok (.iconst 2, 1) := by decide +kernel
theorem dL_law_477 : decode cL_law 477 = .ok (.iadd, 1) := by decide +kernel
theorem dL_law_478 : decode cL_law 478 = .ok (.iaload, 1) := by decide +kernel
theorem dL_law_479 : decode cL_law 479 = .ok (.invokevirtual 46, 3) := by decide +kernel
theorem dL_law_482 : decode cL_law 482 = .ok (.aload_n 2, 1) := by decide +kernel
theorem dL_law_483 : decode cL_law 483 = .ok (.aload_n 0, 1) := by decide +kernel
theorem dL_law_484 : decode cL_law 484 = .ok (.iload 4, 2) := by decide +kernel
theorem dL_law_486 : decode cL_law 486 = .ok (.iconst 1, 1) := by decide +kernel
theorem dL_law_487 : decode cL_law 487 = .ok (.iadd, 1) := by decide +kernel
theorem dL_law_488 : decode cL_law 488 = .ok (.iaload, 1) := by decide +kernel
theorem dL_law_489 : decode cL_law 489 = .ok (.aload_n 0, 1) := by decide +kernel
theorem dL_law_490 : decode cL_law 490 = .ok (.iload 4, 2) := by decide +kernel
theorem dL_law_492 : decode cL_law 492 = .ok (.iconst 2, 1) := by decide +kernel
theorem dL_law_493 : decode cL_law 493 = .ok (.iadd, 1) := by decide +kernel
theorem dL_law_494 : decode cL_law 494 = .ok (.iaload, 1) := by decide +kernel
theorem dL_law_495 : decode cL_law 495 = .ok (.invokevirtual 49, 3) := by decide +kernel
theorem dL_law_498 : decode cL_law 498 = .ok (.if_icmp .eq 1264, 3) := by decide +kernel
theorem dL_law_501 : decode cL_law 501 = .ok (.iconst 0, 1) := by decide +kernel
theorem dL_law_502 : decode cL_law 502 = .ok (.ireturn, 1) := by decide +kernel
theorem dL_law_503 : decode cL_law 503 = .ok (.aload_n 1, 1) := by decide +kernel
theorem dL_law_504 : decode cL_law 504 = .ok (.aload_n 0, 1) := by decide +kernel
theorem dL_law_505 : decode cL_law 505 = .ok (.iload 4, 2) := by decide +kernel
theorem dL_law_507 : decode cL_law 507 = .ok (.iconst 1, 1) := by decide +kernel
theorem dL_law_508 : decode cL_law 508 = .ok (.iadd, 1) := by decide +kernel
theorem dL_law_509 : decode cL_law 509 = .ok (.iaload, 1) := by decide +kernel
theorem dL_law_510 : decode cL_law 510 = .ok (.aload_n 0, 1) := by decide +kernel
theorem dL_law_511 : decode cL_law 511 = .ok (.iload 4, 2) := by decide +kernel
theorem dL_law_513 : decode cL_law 513 = .ok (.iconst 2, 1) := by decide +kernel
theorem dL_law_514 : decode cL_law 514 = .ok (.iadd, 1) := by decide +kernel
theorem dL_law_515 : decode cL_law 515 = .ok (.iaload, 1) := by decide +kernel
theorem dL_law_516 : decode cL_law 516 = .ok (.invokevirtual 50, 3) := by decide +kernel
theorem dL_law_519 : decode cL_law 519 = .ok (.aload_n 2, 1) := by decide +kernel
theorem dL_law_520 : decode cL_law 520 = .ok (.aload_n 0, 1) := by decide +kernel
theorem dL_law_521 : decode cL_law 521 = .ok (.iload 4, 2) := by decide +kernel
theorem dL_law_523 : decode cL_law 523 = .ok (.iconst 1, 1) := by decide +kernel
theorem dL_law_524 : decode cL_law 524 = .ok (.iadd, 1) := by decide +kernel
theorem dL_law_525 : decode cL_law 525 = .ok (.iaload, 1) := by decide +kernel
theorem dL_law_526 : decode cL_law 526 = .ok (.aload_n 0, 1) := by decide +kernel
theorem dL_law_527 : decode cL_law 527 = .ok (.iload 4, 2) := by decide +kernel
theorem dL_law_529 : decode cL_law 529 = .ok (.iconst 2, 1) := by decide +kernel
theorem dL_law_530 : decode cL_law 530 = .ok (.iadd, 1) := by decide +kernel
theorem dL_law_531 : decode cL_law 531 = .ok (.iaload, 1) := by decide +kernel
theorem dL_law_532 : decode cL_law 532 = .ok (.invokevirtual 53, 3) := by decide +kernel
theorem dL_law_535 : decode cL_law 535 = .ok (.if_icmp .eq 1227, 3) := by decide +kernel
theorem dL_law_538 : decode cL_law 538 = .ok (.iconst 0, 1) := by decide +kernel
theorem dL_law_539 : decode cL_law 539 = .ok (.ireturn, 1) := by decide +kernel
theorem dL_law_540 : decode cL_law 540 = .ok (.aload_n 1, 1) := by decide +kernel
theorem dL_law_541 : decode cL_law 541 = .ok (.aload_n 0, 1) := by decide +kernel
theorem dL_law_542 : decode cL_law 542 = .ok (.iload 4, 2) := by decide +kernel
theorem dL_law_544 : decode cL_law 544 = .ok (.iconst 1, 1) := by decide +kernel
theorem dL_law_545 : decode cL_law 545 = .ok (.iadd, 1) := by decide +kernel
theorem dL_law_546 : decode cL_law 546 = .ok (.iaload, 1) := by decide +kernel
theorem dL_law_547 : decode cL_law 547 = .ok (.invokevirtual 54, 3) := by decide +kernel
theorem dL_law_550 : decode cL_law 550 = .ok (.aload_n 2, 1) := by decide +kernel
theorem dL_law_551 : decode cL_law 551 = .ok (.aload_n 0, 1) := by decide +kernel
theorem dL_law_552 : decode cL_law 552 = .ok (.iload 4, 2) := by decide +kernel
theorem dL_law_554 : decode cL_law 554 = .ok (.iconst 1, 1) := by decide +kernel
theorem dL_law_555 : decode cL_law 555 = .ok (.iadd, 1) := by decide +kernel
theorem dL_law_556 : decode cL_law 556 = .ok (.iaload, 1) := by decide +kernel
theorem dL_law_557 : decode cL_law 557 = .ok (.invokevirtual 57, 3) := by decide +kernel
theorem dL_law_560 : decode cL_law 560 = .ok (.if_icmp .eq 1202, 3) := by decide +kernel
theorem dL_law_563 : decode cL_law 563 = .ok (.iconst 0, 1) := by decide +kernel
theorem dL_law_564 : decode cL_law 564 = .ok (.ireturn, 1) := by decide +kernel
theorem dL_law_565 : decode cL_law 565 = .ok (.aload_n 1, 1) := by decide +kernel
theorem dL_law_566 : decode cL_law 566 = .ok (.aload_n 0, 1) := by decide +kernel
theorem dL_law_567 : decode cL_law 567 = .ok (.iload 4, 2) := by decide +kernel
theorem dL_law_569 : decode cL_law 569 = .ok (.iconst 1, 1) := by decide +kernel
theorem dL_law_570 : decode cL_law 570 = .ok (.iadd, 1) := by decide +kernel
theorem dL_law_571 : decode cL_law 571 = .ok (.iaload, 1) := by decide +kernel
theorem dL_law_572 : decode cL_law 572 = .ok (.invokevirtual 58, 3) := by decide +kernel
theorem dL_law_575 : decode cL_law 575 = .ok (.aload_n 2, 1) := by decide +kernel
theorem dL_law_576 : decode cL_law 576 = .ok (.aload_n 0, 1) := by decide +kernel
theorem dL_law_577 : decode cL_law 577 = .ok (.iload 4, 2) := by decide +kernel
theorem dL_law_579 : decode cL_law 579 = .ok (.iconst 1, 1) := by decide +kernel
theorem dL_law_580 : decode cL_law 580 = .ok (.iadd, 1) := by decide +kernel
theorem dL_law_581 : decode cL_law 581 = .ok (.iaload, 1) := by decide +kernel
theorem dL_law_582 : decode cL_law 582 = .ok (.invokevirtual 61, 3) := by decide +kernel
theorem dL_law_585 : decode cL_law 585 = .ok (.if_icmp .eq 1177, 3) := by decide +kernel
theorem dL_law_588 : decode cL_law 588 = .ok (.iconst 0, 1) := by decide +kernel
theorem dL_law_589 : decode cL_law 589 = .ok (.ireturn, 1) := by decide +kernel
theorem dL_law_590 : decode cL_law 590 = .ok (.aload_n 1, 1) := by decide +kernel
theorem dL_law_591 : decode cL_law 591 = .ok (.invokevirtual 62, 3) := by decide +kernel
theorem dL_law_594 : decode cL_law 594 = .ok (.aload_n 2, 1) := by decide +kernel
theorem dL_law_595 : decode cL_law 595 = .ok (.invokevirtual 65, 3) := by decide +kernel
theorem dL_law_598 : decode cL_law 598 = .ok (.if_icmp .eq 1164, 3) := by decide +kernel
theorem dL_law_601 : decode cL_law 601 = .ok (.iconst 0, 1) := by decide +kernel
theorem dL_law_602 : decode cL_law 602 = .ok (.ireturn, 1) := by decide +kernel
theorem dL_law_603 : decode cL_law 603 = .ok (.aload_n 1, 1) := by decide +kernel
theorem dL_law_604 : decode cL_law 604 = .ok (.invokevirtual 66, 3) := by decide +kernel
theorem dL_law_607 : decode cL_law 607 = .ok (.aload_n 2, 1) := by decide +kernel
theorem dL_law_608 : decode cL_law 608 = .ok (.invokevirtual 69, 3) := by decide +kernel
theorem dL_law_611 : decode cL_law 611 = .ok (.if_icmp .eq 1151, 3) := by decide +kernel
theorem dL_law_614 : decode cL_law 614 = .ok (.iconst 0, 1) := by decide +kernel
theorem dL_law_615 : decode cL_law 615 = .ok (.ireturn, 1) := by decide +kernel
theorem dL_law_616 : decode cL_law 616 = .ok (.aload_n 1, 1) := by decide +kernel
theorem dL_law_617 : decode cL_law 617 = .ok (.aload_n 0, 1) := by decide +kernel
theorem dL_law_618 : decode cL_law 618 = .ok (.iload 4, 2) := by decide +kernel
theorem dL_law_620 : decode cL_law 620 = .ok (.iconst 1, 1) := by decide +kernel
theorem dL_law_621 : decode cL_law 621 = .ok (.iadd, 1) := by decide +kernel
theorem dL_law_622 : decode cL_law 622 = .ok (.iaload, 1) := by decide +kernel
theorem dL_law_623 : decode cL_law 623 = .ok (.aload_n 0, 1) := by decide +kernel
theorem dL_law_624 : decode cL_law 624 = .ok (.iload 4, 2) := by decide +kernel
theorem dL_law_626 : decode cL_law 626 = .ok (.iconst 2, 1) := by decide +kernel
theorem dL_law_627 : decode cL_law 627 = .ok (.iadd, 1) := by decide +kernel
theorem dL_law_628 : decode cL_law 628 = .ok (.iaload, 1) := by decide +kernel
theorem dL_law_629 : decode cL_law 629 = .ok (.ifCond .eq 7, 3) := by decide +kernel
theorem dL_law_632 : decode cL_law 632 = .ok (.iconst 1, 1) := by decide +kernel
theorem dL_law_633 : decode cL_law 633 = .ok (.goto 4, 3) := by decide +kernel
theorem dL_law_636 : decode cL_law 636 = .ok (.iconst 0, 1) := by decide +kernel
theorem dL_law_637 : decode cL_law 637 = .ok (.invokevirtual 70, 3) := by decide +kernel
theorem dL_law_640 : decode cL_law 640 = .ok (.aload_n 2, 1) := by decide +kernel
theorem dL_law_641 : decode cL_law 641 = .ok (.aload_n 0, 1) := by decide +kernel
theorem dL_law_642 : decode cL_law 642 = .ok (.iload 4, 2) := by decide +kernel
theorem dL_law_644 : decode cL_law 644 = .ok (.iconst 1, 1) := by decide +kernel
theorem dL_law_645 : decode cL_law 645 = .ok (.iadd, 1) := by decide +kernel
theorem dL_law_646 : decode cL_law 646 = .ok (.iaload, 1) := by decide +kernel
theorem dL_law_647 : decode cL_law 647 = .ok (.aload_n 0, 1) := by decide +kernel
theorem dL_law_648 : decode cL_law 648 = .ok (.iload 4, 2) := by decide +kernel
theorem dL_law_650 : decode cL_law 650 = .ok (.iconst 2, 1) := by decide +kernel
theorem dL_law_651 : decode cL_law 651 = .ok (.iadd, 1) := by decide +kernel
theorem dL_law_652 : decode cL_law 652 = .ok (.iaload, 1) := by decide +kernel
theorem dL_law_653 : decode cL_law 653 = .ok (.ifCond .eq 7, 3) := by decide +kernel
theorem dL_law_656 : decode cL_law 656 = .ok (.iconst 1, 1) := by decide +kernel
theorem dL_law_657 : decode cL_law 657 = .ok (.goto 4, 3) := by decide +kernel
theorem dL_law_660 : decode cL_law 660 = .ok (.iconst 0, 1) := by decide +kernel
theorem dL_law_661 : decode cL_law 661 = .ok (.invokevirtual 74, 3) := by decide +kernel
theorem dL_law_664 : decode cL_law 664 = .ok (.if_icmp .eq 1098, 3) := by decide +kernel
theorem dL_law_667 : decode cL_law 667 = .ok (.iconst 0, 1) := by decide +kernel
theorem dL_law_668 : decode cL_law 668 = .ok (.ireturn, 1) := by decide +kernel
theorem dL_law_669 : decode cL_law 669 = .ok (.aload_n 1, 1) := by decide +kernel
theorem dL_law_670 : decode cL_law 670 = .ok (.aload_n 0, 1) := by decide +kernel
theorem dL_law_671 : decode cL_law 671 = .ok (.iload 4, 2) := by decide +kernel
theorem dL_law_673 : decode cL_law 673 = .ok (.iconst 1, 1) := by decide +kernel
theorem dL_law_674 : decode cL_law 674 = .ok (.iadd, 1) := by decide +kernel
theorem dL_law_675 : decode cL_law 675 = .ok (.iaload, 1) := by decide +kernel
theorem dL_law_676 : decode cL_law 676 = .ok (.aload_n 0, 1) := by decide +kernel
theorem dL_law_677 : decode cL_law 677 = .ok (.iload 4, 2) := by decide +kernel
theorem dL_law_679 : decode cL_law 679 = .ok (.iconst 2, 1) := by decide +kernel
theorem dL_law_680 : decode cL_law 680 = .ok (.iadd, 1) := by decide +kernel
theorem dL_law_681 : decode cL_law 681 = .ok (.iaload, 1) := by decide +kernel
theorem dL_law_682 : decode cL_law 682 = .ok (.ifCond .eq 7, 3) := by decide +kernel
theorem dL_law_685 : decode cL_law 685 = .ok (.iconst 1, 1) := by decide +kernel
theorem dL_law_686 : decode cL_law 686 = .ok (.goto 4, 3) := by decide +kernel
theorem dL_law_689 : decode cL_law 689 = .ok (.iconst 0, 1) := by decide +kernel
theorem dL_law_690 : decode cL_law 690 = .ok (.invokevirtual 75, 3) := by decide +kernel
theorem dL_law_693 : decode cL_law 693 = .ok (.aload_n 2, 1) := by decide +kernel
theorem dL_law_694 : decode cL_law 694 = .ok (.aload_n 0, 1) := by decide +kernel
theorem dL_law_695 : decode cL_law 695 = .ok (.iload 4, 2) := by decide +kernel
theorem dL_law_697 : decode cL_law 697 = .ok (.iconst 1, 1) := by decide +kernel
theorem dL_law_698 : decode cL_law 698 = .ok (.iadd, 1) := by decide +kernel
theorem dL_law_699 : decode cL_law 699 = .ok (.iaload, 1) := by decide +kernel
theorem dL_law_700 : decode cL_law 700 = .ok (.aload_n 0, 1) := by decide +kernel
theorem dL_law_701 : decode cL_law 701 = .ok (.iload 4, 2) := by decide +kernel
theorem dL_law_703 : decode cL_law 703 = .ok (.iconst 2, 1) := by decide +kernel
theorem dL_law_704 : decode cL_law 704 = .ok (.iadd, 1) := by decide +kernel
theorem dL_law_705 : decode cL_law 705 = .ok (.iaload, 1) := by decide +kernel
theorem dL_law_706 : decode cL_law 706 = .ok (.ifCond .eq 7, 3) := by decide +kernel
theorem dL_law_709 : decode cL_law 709 = .ok (.iconst 1, 1) := by decide +kernel
theorem dL_law_710 : decode cL_law 710 = .ok (.goto 4, 3) := by decide +kernel
theorem dL_law_713 : decode cL_law 713 = .ok (.iconst 0, 1) := by decide +kernel
theorem dL_law_714 : decode cL_law 714 = .ok (.invokevirtual 78, 3) := by decide +kernel
theorem dL_law_717 : decode cL_law 717 = .ok (.if_icmp .eq 1045, 3) := by decide +kernel
theorem dL_law_720 : decode cL_law 720 = .ok (.iconst 0, 1) := by decide +kernel
theorem dL_law_721 : decode cL_law 721 = .ok (.ireturn, 1) := by decide +kernel
theorem dL_law_722 : decode cL_law 722 = .ok (.aload_n 1, 1) := by decide +kernel
theorem dL_law_723 : decode cL_law 723 = .ok (.aload_n 0, 1) := by decide +kernel
theorem dL_law_724 : decode cL_law 724 = .ok (.iload 4, 2) := by decide +kernel
theorem dL_law_726 : decode cL_law 726 = .ok (.iconst 1, 1) := by decide +kernel
theorem dL_law_727 : decode cL_law 727 = .ok (.iadd, 1) := by decide +kernel
theorem dL_law_728 : decode cL_law 728 = .ok (.iaload, 1) := by decide +kernel
theorem dL_law_729 : decode cL_law 729 = .ok (.invokevirtual 79, 3) := by decide +kernel
theorem dL_law_732 : decode cL_law 732 = .ok (.aload_n 2, 1) := by decide +kernel
theorem dL_law_733 : decode cL_law 733 = .ok (.aload_n 0, 1) := by decide +kernel
theorem dL_law_734 : decode cL_law 734 = .ok (.iload 4, 2) := by decide +kernel
theorem dL_law_736 : decode cL_law 736 = .ok (.iconst 1, 1) := by decide +kernel
theorem dL_law_737 : decode cL_law 737 = .ok (.iadd, 1) := by decide +kernel
theorem dL_law_738 : decode cL_law 738 = .ok (.iaload, 1) := by decide +kernel
theorem dL_law_739 : decode cL_law 739 = .ok (.invokevirtual 82, 3) := by decide +kernel
theorem dL_law_742 : decode cL_law 742 = .ok (.if_icmp .eq 1020, 3) := by decide +kernel
theorem dL_law_745 : decode cL_law 745 = .ok (.iconst 0, 1) := by decide +kernel
theorem dL_law_746 : decode cL_law 746 = .ok (.ireturn, 1) := by decide +kernel
theorem dL_law_747 : decode cL_law 747 = .ok (.aload_n 1, 1) := by decide +kernel
theorem dL_law_748 : decode cL_law 748 = .ok (.invokevirtual 83, 3) := by decide +kernel
theorem dL_law_751 : decode cL_law 751 = .ok (.aload_n 2, 1) := by decide +kernel
theorem dL_law_752 : decode cL_law 752 = .ok (.invokevirtual 86, 3) := by decide +kernel
theorem dL_law_755 : decode cL_law 755 = .ok (.if_icmp .eq 1007, 3) := by decide +kernel
theorem dL_law_758 : decode cL_law 758 = .ok (.iconst 0, 1) := by decide +kernel
theorem dL_law_759 : decode cL_law 759 = .ok (.ireturn, 1) := by decide +kernel
theorem dL_law_760 : decode cL_law 760 = .ok (.aload_n 1, 1) := by decide +kernel
theorem dL_law_761 : decode cL_law 761 = .ok (.aload_n 0, 1) := by decide +kernel
theorem dL_law_762 : decode cL_law 762 = .ok (.iload 4, 2) := by decide +kernel
theorem dL_law_764 : decode cL_law 764 = .ok (.iconst 1, 1) := by decide +kernel
theorem dL_law_765 : decode cL_law 765 = .ok (.iadd, 1) := by decide +kernel
theorem dL_law_766 : decode cL_law 766 = .ok (.iaload, 1) := by decide +kernel
theorem dL_law_767 : decode cL_law 767 = .ok (.invokevirtual 87, 3) := by decide +kernel
theorem dL_law_770 : decode cL_law 770 = .ok (.aload_n 2, 1) := by decide +kernel
theorem dL_law_771 : decode cL_law 771 = .ok (.aload_n 0, 1) := by decide +kernel
theorem dL_law_772 : decode cL_law 772 = .ok (.iload 4, 2) := by decide +kernel
theorem dL_law_774 : decode cL_law 774 = .ok (.iconst 1, 1) := by decide +kernel
theorem dL_law_775 : decode cL_law 775 = .ok (.iadd, 1) := by decide +kernel
theorem dL_law_776 : decode cL_law 776 = .ok (.iaload, 1) := by decide +kernel
theorem dL_law_777 : decode cL_law 777 = .ok (.invokevirtual 90, 3) := by decide +kernel
theorem dL_law_780 : decode cL_law 780 = .ok (.if_icmp .eq 982, 3) := by decide +kernel
theorem dL_law_783 : decode cL_law 783 = .ok (.iconst 0, 1) := by decide +kernel
theorem dL_law_784 : decode cL_law 784 = .ok (.ireturn, 1) := by decide +kernel
theorem dL_law_785 : decode cL_law 785 = .ok (.aload_n 1, 1) := by decide +kernel
theorem dL_law_786 : decode cL_law 786 = .ok (.aload_n 0, 1) := by decide +kernel
theorem dL_law_787 : decode cL_law 787 = .ok (.iload 4, 2) := by decide +kernel
theorem dL_law_789 : decode cL_law 789 = .ok (.iconst 1, 1) := by decide +kernel
theorem dL_law_790 : decode cL_law 790 = .ok (.iadd, 1) := by decide +kernel
theorem dL_law_791 : decode cL_law 791 = .ok (.iaload, 1) := by decide +kernel
theorem dL_law_792 : decode cL_law 792 = .ok (.invokevirtual 91, 3) := by decide +kernel
theorem dL_law_795 : decode cL_law 795 = .ok (.aload_n 2, 1) := by decide +kernel
theorem dL_law_796 : decode cL_law 796 = .ok (.aload_n 0, 1) := by decide +kernel
theorem dL_law_797 : decode cL_law 797 = .ok (.iload 4, 2) := by decide +kernel
theorem dL_law_799 : decode cL_law 799 = .ok (.iconst 1, 1) := by decide +kernel
theorem dL_law_800 : decode cL_law 800 = .ok (.iadd, 1) := by decide +kernel
theorem dL_law_801 : decode cL_law 801 = .ok (.iaload, 1) := by decide +kernel
theorem dL_law_802 : decode cL_law 802 = .ok (.invokevirtual 94, 3) := by decide +kernel
theorem dL_law_805 : decode cL_law 805 = .ok (.if_icmp .eq 957, 3) := by decide +kernel
theorem dL_law_808 : decode cL_law 808 = .ok (.iconst 0, 1) := by decide +kernel
theorem dL_law_809 : decode cL_law 809 = .ok (.ireturn, 1) := by decide +kernel
theorem dL_law_810 : decode cL_law 810 = .ok (.aload_n 1, 1) := by decide +kernel
theorem dL_law_811 : decode cL_law 811 = .ok (.invokevirtual 95, 3) := by decide +kernel
theorem dL_law_814 : decode cL_law 814 = .ok (.aload_n 2, 1) := by decide +kernel
theorem dL_law_815 : decode cL_law 815 = .ok (.invokevirtual 98, 3) := by decide +kernel
theorem dL_law_818 : decode cL_law 818 = .ok (.if_icmp .eq 944, 3) := by decide +kernel
theorem dL_law_821 : decode cL_law 821 = .ok (.iconst 0, 1) := by decide +kernel
theorem dL_law_822 : decode cL_law 822 = .ok (.ireturn, 1) := by decide +kernel
theorem dL_law_823 : decode cL_law 823 = .ok (.aload_n 1, 1) := by decide +kernel
theorem dL_law_824 : decode cL_law 824 = .ok (.invokevirtual 99, 3) := by decide +kernel
theorem dL_law_827 : decode cL_law 827 = .ok (.aload_n 2, 1) := by decide +kernel
theorem dL_law_828 : decode cL_law 828 = .ok (.invokevirtual 102, 3) := by decide +kernel
theorem dL_law_831 : decode cL_law 831 = .ok (.if_icmp .eq 931, 3) := by decide +kernel
theorem dL_law_834 : decode cL_law 834 = .ok (.iconst 0, 1) := by decide +kernel
theorem dL_law_835 : decode cL_law 835 = .ok (.ireturn, 1) := by decide +kernel
theorem dL_law_836 : decode cL_law 836 = .ok (.aload_n 1, 1) := by decide +kernel
theorem dL_law_837 : decode cL_law 837 = .ok (.aload_n 0, 1) := by decide +kernel
theorem dL_law_838 : decode cL_law 838 = .ok (.iload 4, 2) := by decide +kernel
theorem dL_law_840 : decode cL_law 840 = .ok (.iconst 1, 1) := by decide +kernel
theorem dL_law_841 : decode cL_law 841 = .ok (.iadd, 1) := by decide +kernel
theorem dL_law_842 : decode cL_law 842 = .ok (.iaload, 1) := by decide +kernel
theorem dL_law_843 : decode cL_law 843 = .ok (.invokevirtual 103, 3) := by decide +kernel
theorem dL_law_846 : decode cL_law 846 = .ok (.aload_n 2, 1) := by decide +kernel
theorem dL_law_847 : decode cL_law 847 = .ok (.aload_n 0, 1) := by decide +kernel
theorem dL_law_848 : decode cL_law 848 = .ok (.iload 4, 2) := by decide +kernel
theorem dL_law_850 : decode cL_law 850 = .ok (.iconst 1, 1) := by decide +kernel
theorem dL_law_851 : decode cL_law 851 = .ok (.iadd, 1) := by decide +kernel
theorem dL_law_852 : decode cL_law 852 = .ok (.iaload, 1) := by decide +kernel
theorem dL_law_853 : decode cL_law 853 = .ok (.invokevirtual 106, 3) := by decide +kernel
theorem dL_law_856 : decode cL_law 856 = .ok (.if_icmp .eq 906, 3) := by decide +kernel
theorem dL_law_859 : decode cL_law 859 = .ok (.iconst 0, 1) := by decide +kernel
theorem dL_law_860 : decode cL_law 860 = .ok (.ireturn, 1) := by decide +kernel
theorem dL_law_861 : decode cL_law 861 = .ok (.aload_n 1, 1) := by decide +kernel
theorem dL_law_862 : decode cL_law 862 = .ok (.invokevirtual 107, 3) := by decide +kernel
theorem dL_law_865 : decode cL_law 865 = .ok (.aload_n 2, 1) := by decide +kernel
theorem dL_law_866 : decode cL_law 866 = .ok (.invokevirtual 110, 3) := by decide +kernel
theorem dL_law_869 : decode cL_law 869 = .ok (.if_icmp .eq 893, 3) := by decide +kernel
theorem dL_law_872 : decode cL_law 872 = .ok (.iconst 0, 1) := by decide +kernel
theorem dL_law_873 : decode cL_law 873 = .ok (.ireturn, 1) := by decide +kernel
theorem dL_law_874 : decode cL_law 874 = .ok (.aload_n 1, 1) := by decide +kernel
theorem dL_law_875 : decode cL_law 875 = .ok (.aload_n 0, 1) := by decide +kernel
theorem dL_law_876 : decode cL_law 876 = .ok (.iload 4, 2) := by decide +kernel
theorem dL_law_878 : decode cL_law 878 = .ok (.iconst 1, 1) := by decide +kernel
theorem dL_law_879 : decode cL_law 879 = .ok (.iadd, 1) := by decide +kernel
theorem dL_law_880 : decode cL_law 880 = .ok (.iaload, 1) := by decide +kernel
theorem dL_law_881 : decode cL_law 881 = .ok (.invokevirtual 111, 3) := by decide +kernel
theorem dL_law_884 : decode cL_law 884 = .ok (.aload_n 2, 1) := by decide +kernel
theorem dL_law_885 : decode cL_law 885 = .ok (.aload_n 0, 1) := by decide +kernel
theorem dL_law_886 : decode cL_law 886 = .ok (.iload 4, 2) := by decide +kernel
theorem dL_law_888 : decode cL_law 888 = .ok (.iconst 1, 1) := by decide +kernel
theorem dL_law_889 : decode cL_law 889 = .ok (.iadd, 1) := by decide +kernel
theorem dL_law_890 : decode cL_law 890 = .ok (.iaload, 1) := by decide +kernel
theorem dL_law_891 : decode cL_law 891 = .ok (.invokevirtual 114, 3) := by decide +kernel
theorem dL_law_894 : decode cL_law 894 = .ok (.if_icmp .eq 868, 3) := by decide +kernel
theorem dL_law_897 : decode cL_law 897 = .ok (.iconst 0, 1) := by decide +kernel
theorem dL_law_898 : decode cL_law 898 = .ok (.ireturn, 1) := by decide +kernel
theorem dL_law_899 : decode cL_law 899 = .ok (.aload_n 1, 1) := by decide +kernel
theorem dL_law_900 : decode cL_law 900 = .ok (.aload_n 0, 1) := by decide +kernel
theorem dL_law_901 : decode cL_law 901 = .ok (.iload 4, 2) := by decide +kernel
theorem dL_law_903 : decode cL_law 903 = .ok (.iconst 1, 1) := by decide +kernel
theorem dL_law_904 : decode cL_law 904 = .ok (.iadd, 1) := by decide +kernel
theorem dL_law_905 : decode cL_law 905 = .ok (.iaload, 1) := by decide +kernel
theorem dL_law_906 : decode cL_law 906 = .ok (.invokevirtual 115, 3) := by decide +kernel
theorem dL_law_909 : decode cL_law 909 = .ok (.aload_n 2, 1) := by decide +kernel
theorem dL_law_910 : decode cL_law 910 = .ok (.aload_n 0, 1) := by decide +kernel
theorem dL_law_911 : decode cL_law 911 = .ok (.iload 4, 2) := by decide +kernel
theorem dL_law_913 : decode cL_law 913 = .ok (.iconst 1, 1) := by decide +kernel
theorem dL_law_914 : decode cL_law 914 = .ok (.iadd, 1) := by decide +kernel
theorem dL_law_915 : decode cL_law 915 = .ok (.iaload, 1) := by decide +kernel
theorem dL_law_916 : decode cL_law 916 = .ok (.invokevirtual 118, 3) := by decide +kernel
theorem dL_law_919 : decode cL_law 919 = .ok (.if_icmp .eq 843, 3) := by decide +kernel
theorem dL_law_922 : decode cL_law 922 = .ok (.iconst 0, 1) := by decide +kernel
theorem dL_law_923 : decode cL_law 923 = .ok (.ireturn, 1) := by decide +kernel
theorem dL_law_924 : decode cL_law 924 = .ok (.aload_n 1, 1) := by decide +kernel
theorem dL_law_925 : decode cL_law 925 = .ok (.invokevirtual 119, 3) := by decide +kernel
theorem dL_law_928 : decode cL_law 928 = .ok (.aload_n 2, 1) := by decide +kernel
theorem dL_law_929 : decode cL_law 929 = .ok (.invokevirtual 122, 3) := by decide +kernel
theorem dL_law_932 : decode cL_law 932 = .ok (.if_icmp .eq 830, 3) := by decide +kernel
theorem dL_law_935 : decode cL_law 935 = .ok (.iconst 0, 1) := by decide +kernel
theorem dL_law_936 : decode cL_law 936 = .ok (.ireturn, 1) := by decide +kernel
theorem dL_law_937 : decode cL_law 937 = .ok (.aload_n 1, 1) := by decide +kernel
theorem dL_law_938 : decode cL_law 938 = .ok (.invokevirtual 123, 3) := by decide +kernel
theorem dL_law_941 : decode cL_law 941 = .ok (.aload_n 2, 1) := by decide +kernel
theorem dL_law_942 : decode cL_law 942 = .ok (.invokevirtual 126, 3) := by decide +kernel
theorem dL_law_945 : decode cL_law 945 = .ok (.if_icmp .eq 817, 3) := by decide +kernel
theorem dL_law_948 : decode cL_law 948 = .ok (.iconst 0, 1) := by decide +kernel
theorem dL_law_949 : decode cL_law 949 = .ok (.ireturn, 1) := by decide +kernel
theorem dL_law_950 : decode cL_law 950 = .ok (.aload_n 1, 1) := by decide +kernel
theorem dL_law_951 : decode cL_law 951 = .ok (.aload_n 0, 1) := by decide +kernel
theorem dL_law_952 : decode cL_law 952 = .ok (.iload 4, 2) := by decide +kernel
theorem dL_law_954 : decode cL_law 954 = .ok (.iconst 1, 1) := by decide +kernel
theorem dL_law_955 : decode cL_law 955 = .ok (.iadd, 1) := by decide +kernel
theorem dL_law_956 : decode cL_law 956 = .ok (.iaload, 1) := by decide +kernel
theorem dL_law_957 : decode cL_law 957 = .ok (.aload_n 0, 1) := by decide +kernel
theorem dL_law_958 : decode cL_law 958 = .ok (.iload 4, 2) := by decide +kernel
theorem dL_law_960 : decode cL_law 960 = .ok (.iconst 2, 1) := by decide +kernel
theorem dL_law_961 : decode cL_law 961 = .ok (.iadd, 1) := by decide +kernel
theorem dL_law_962 : decode cL_law 962 = .ok (.iaload, 1) := by decide +kernel
theorem dL_law_963 : decode cL_law 963 = .ok (.invokevirtual 127, 3) := by decide +kernel
theorem dL_law_966 : decode cL_law 966 = .ok (.aload_n 2, 1) := by decide +kernel
theorem dL_law_967 : decode cL_law 967 = .ok (.aload_n 0, 1) := by decide +kernel
theorem dL_law_968 : decode cL_law 968 = .ok (.iload 4, 2) := by decide +kernel
theorem dL_law_970 : decode cL_law 970 = .ok (.iconst 1, 1) := by decide +kernel
theorem dL_law_971 : decode cL_law 971 = .ok (.iadd, 1) := by decide +kernel
theorem dL_law_972 : decode cL_law 972 = .ok (.iaload, 1) := by decide +kernel
theorem dL_law_973 : decode cL_law 973 = .ok (.aload_n 0, 1) := by decide +kernel
theorem dL_law_974 : decode cL_law 974 = .ok (.iload 4, 2) := by decide +kernel
theorem dL_law_976 : decode cL_law 976 = .ok (.iconst 2, 1) := by decide +kernel
theorem dL_law_977 : decode cL_law 977 = .ok (.iadd, 1) := by decide +kernel
theorem dL_law_978 : decode cL_law 978 = .ok (.iaload, 1) := by decide +kernel
theorem dL_law_979 : decode cL_law 979 = .ok (.invokevirtual 130, 3) := by decide +kernel
theorem dL_law_982 : decode cL_law 982 = .ok (.if_icmp .eq 780, 3) := by decide +kernel
theorem dL_law_985 : decode cL_law 985 = .ok (.iconst 0, 1) := by decide +kernel
theorem dL_law_986 : decode cL_law 986 = .ok (.ireturn, 1) := by decide +kernel
theorem dL_law_987 : decode cL_law 987 = .ok (.aload_n 1, 1) := by decide +kernel
theorem dL_law_988 : decode cL_law 988 = .ok (.aload_n 0, 1) := by decide +kernel
theorem dL_law_989 : decode cL_law 989 = .ok (.iload 4, 2) := by decide +kernel
theorem dL_law_991 : decode cL_law 991 = .ok (.iconst 1, 1) := by decide +kernel
theorem dL_law_992 : decode cL_law 992 = .ok (.iadd, 1) := by decide +kernel
theorem dL_law_993 : decode cL_law 993 = .ok (.iaload, 1) := by decide +kernel
theorem dL_law_994 : decode cL_law 994 = .ok (.invokevirtual 131, 3) := by decide +kernel
theorem dL_law_997 : decode cL_law 997 = .ok (.aload_n 2, 1) := by decide +kernel
theorem dL_law_998 : decode cL_law 998 = .ok (.aload_n 0, 1) := by decide +kernel
theorem dL_law_999 : decode cL_law 999 = .ok (.iload 4, 2) := by decide +kernel
theorem dL_law_1001 : decode cL_law 1001 = .ok (.iconst 1, 1) := by decide +kernel
theorem dL_law_1002 : decode cL_law 1002 = .ok (.iadd, 1) := by decide +kernel
theorem dL_law_1003 : decode cL_law 1003 = .ok (.iaload, 1) := by decide +kernel
theorem dL_law_1004 : decode cL_law 1004 = .ok (.invokevirtual 134, 3) := by decide +kernel
theorem dL_law_1007 : decode cL_law 1007 = .ok (.if_icmp .eq 755, 3) := by decide +kernel
theorem dL_law_1010 : decode cL_law 1010 = .ok (.iconst 0, 1) := by decide +kernel
theorem dL_law_1011 : decode cL_law 1011 = .ok (.ireturn, 1) := by decide +kernel
theorem dL_law_1012 : decode cL_law 1012 = .ok (.aload_n 1, 1) := by decide +kernel
theorem dL_law_1013 : decode cL_law 1013 = .ok (.invokevirtual 135, 3) := by decide +kernel
theorem dL_law_1016 : decode cL_law 1016 = .ok (.aload_n 2, 1) := by decide +kernel
theorem dL_law_1017 : decode cL_law 1017 = .ok (.invokevirtual 138, 3) := by decide +kernel
theorem dL_law_1020 : decode cL_law 1020 = .ok (.if_icmp .eq 742, 3) := by decide +kernel
theorem dL_law_1023 : decode cL_law 1023 = .ok (.iconst 0, 1) := by decide +kernel
theorem dL_law_1024 : decode cL_law 1024 = .ok (.ireturn, 1) := by decide +kernel
theorem dL_law_1025 : decode cL_law 1025 = .ok (.aload_n 1, 1) := by decide +kernel
theorem dL_law_1026 : decode cL_law 1026 = .ok (.aload_n 0, 1) := by decide +kernel
theorem dL_law_1027 : decode cL_law 1027 = .ok (.iload 4, 2) := by decide +kernel
theorem dL_law_1029 : decode cL_law 1029 = .ok (.iconst 1, 1) := by decide +kernel
theorem dL_law_1030 : decode cL_law 1030 = .ok (.iadd, 1) := by decide +kernel
theorem dL_law_1031 : decode cL_law 1031 = .ok (.iaload, 1) := by decide +kernel
theorem dL_law_1032 : decode cL_law 1032 = .ok (.invokevirtual 139, 3) := by decide +kernel
theorem dL_law_1035 : decode cL_law 1035 = .ok (.aload_n 2, 1) := by decide +kernel
theorem dL_law_1036 : decode cL_law 1036 = .ok (.aload_n 0, 1) := by decide +kernel
theorem dL_law_1037 : decode cL_law 1037 = .ok (.iload 4, 2) := by decide +kernel
theorem dL_law_1039 : decode cL_law 1039 = .ok (.iconst 1, 1) := by decide +kernel
theorem dL_law_1040 : decode cL_law 1040 = .ok (.iadd, 1) := by decide +kernel
theorem dL_law_1041 : decode cL_law 1041 = .ok (.iaload, 1) := by decide +kernel
theorem dL_law_1042 : decode cL_law 1042 = .ok (.invokevirtual 142, 3) := by decide +kernel
theorem dL_law_1045 : decode cL_law 1045 = .ok (.if_icmp .eq 717, 3) := by decide +kernel
theorem dL_law_1048 : decode cL_law 1048 = .ok (.iconst 0, 1) := by decide +kernel
theorem dL_law_1049 : decode cL_law 1049 = .ok (.ireturn, 1) := by decide +kernel
theorem dL_law_1050 : decode cL_law 1050 = .ok (.aload_n 1, 1) := by decide +kernel
theorem dL_law_1051 : decode cL_law 1051 = .ok (.invokevirtual 143, 3) := by decide +kernel
theorem dL_law_1054 : decode cL_law 1054 = .ok (.aload_n 2, 1) := by decide +kernel
theorem dL_law_1055 : decode cL_law 1055 = .ok (.invokevirtual 146, 3) := by decide +kernel
theorem dL_law_1058 : decode cL_law 1058 = .ok (.if_icmp .eq 704, 3) := by decide +kernel
theorem dL_law_1061 : decode cL_law 1061 = .ok (.iconst 0, 1) := by decide +kernel
theorem dL_law_1062 : decode cL_law 1062 = .ok (.ireturn, 1) := by decide +kernel
theorem dL_law_1063 : decode cL_law 1063 = .ok (.aload_n 1, 1) := by decide +kernel
theorem dL_law_1064 : decode cL_law 1064 = .ok (.invokevirtual 147, 3) := by decide +kernel
theorem dL_law_1067 : decode cL_law 1067 = .ok (.aload_n 2, 1) := by decide +kernel
theorem dL_law_1068 : decode cL_law 1068 = .ok (.invokevirtual 150, 3) := by decide +kernel
theorem dL_law_1071 : decode cL_law 1071 = .ok (.if_icmp .eq 691, 3) := by decide +kernel
theorem dL_law_1074 : decode cL_law 1074 = .ok (.iconst 0, 1) := by decide +kernel
theorem dL_law_1075 : decode cL_law 1075 = .ok (.ireturn, 1) := by decide +kernel
theorem dL_law_1076 : decode cL_law 1076 = .ok (.aload_n 1, 1) := by decide +kernel
theorem dL_law_1077 : decode cL_law 1077 = .ok (.invokevirtual 151, 3) := by decide +kernel
theorem dL_law_1080 : decode cL_law 1080 = .ok (.aload_n 2, 1) := by decide +kernel
theorem dL_law_1081 : decode cL_law 1081 = .ok (.invokevirtual 154, 3) := by decide +kernel
theorem dL_law_1084 : decode cL_law 1084 = .ok (.if_icmp .eq 678, 3) := by decide +kernel
theorem dL_law_1087 : decode cL_law 1087 = .ok (.iconst 0, 1) := by decide +kernel
theorem dL_law_1088 : decode cL_law 1088 = .ok (.ireturn, 1) := by decide +kernel
theorem dL_law_1089 : decode cL_law 1089 = .ok (.aload_n 1, 1) := by decide +kernel
theorem dL_law_1090 : decode cL_law 1090 = .ok (.invokevirtual 155, 3) := by decide +kernel
theorem dL_law_1093 : decode cL_law 1093 = .ok (.aload_n 2, 1) := by decide +kernel
theorem dL_law_1094 : decode cL_law 1094 = .ok (.invokevirtual 158, 3) := by decide +kernel
theorem dL_law_1097 : decode cL_law 1097 = .ok (.if_icmp .eq 665, 3) := by decide +kernel
theorem dL_law_1100 : decode cL_law 1100 = .ok (.iconst 0, 1) := by decide +kernel
theorem dL_law_1101 : decode cL_law 1101 = .ok (.ireturn, 1) := by decide +kernel
theorem dL_law_1102 : decode cL_law 1102 = .ok (.aload_n 1, 1) := by decide +kernel
theorem dL_law_1103 : decode cL_law 1103 = .ok (.invokevirtual 159, 3) := by decide +kernel
theorem dL_law_1106 : decode cL_law 1106 = .ok (.aload_n 2, 1) := by decide +kernel
theorem dL_law_1107 : decode cL_law 1107 = .ok (.invokevirtual 162, 3) := by decide +kernel
theorem dL_law_1110 : decode cL_law 1110 = .ok (.if_icmp .eq 652, 3) := by decide +kernel
theorem dL_law_1113 : decode cL_law 1113 = .ok (.iconst 0, 1) := by decide +kernel
theorem dL_law_1114 : decode cL_law 1114 = .ok (.ireturn, 1) := by decide +kernel
theorem dL_law_1115 : decode cL_law 1115 = .ok (.aload_n 1, 1) := by decide +kernel
theorem dL_law_1116 : decode cL_law 1116 = .ok (.aload_n 0, 1) := by decide +kernel
theorem dL_law_1117 : decode cL_law 1117 = .ok (.iload 4, 2) := by decide +kernel
theorem dL_law_1119 : decode cL_law 1119 = .ok (.iconst 1, 1) := by decide +kernel
theorem dL_law_1120 : decode cL_law 1120 = .ok (.iadd, 1) := by decide +kernel
theorem dL_law_1121 : decode cL_law 1121 = .ok (.iaload, 1) := by decide +kernel
theorem dL_law_1122 : decode cL_law 1122 = .ok (.aload_n 0, 1) := by decide +kernel
theorem dL_law_1123 : decode cL_law 1123 = .ok (.iload 4, 2) := by decide +kernel
theorem dL_law_1125 : decode cL_law 1125 = .ok (.iconst 2, 1) := by decide +kernel
theorem dL_law_1126 : decode cL_law 1126 = .ok (.iadd, 1) := by decide +kernel
theorem dL_law_1127 : decode cL_law 1127 = .ok (.iaload, 1) := by decide +kernel
theorem dL_law_1128 : decode cL_law 1128 = .ok (.aload_n 0, 1) := by decide +kernel
theorem dL_law_1129 : decode cL_law 1129 = .ok (.iload 4, 2) := by decide +kernel
theorem dL_law_1131 : decode cL_law 1131 = .ok (.iconst 3, 1) := by decide +kernel
theorem dL_law_1132 : decode cL_law 1132 = .ok (.iadd, 1) := by decide +kernel
theorem dL_law_1133 : decode cL_law 1133 = .ok (.iaload, 1) := by decide +kernel
theorem dL_law_1134 : decode cL_law 1134 = .ok (.ifCond .eq 7, 3) := by decide +kernel
theorem dL_law_1137 : decode cL_law 1137 = .ok (.iconst 1, 1) := by decide +kernel
theorem dL_law_1138 : decode cL_law 1138 = .ok (.goto 4, 3) := by decide +kernel
theorem dL_law_1141 : decode cL_law 1141 = .ok (.iconst 0, 1) := by decide +kernel
theorem dL_law_1142 : decode cL_law 1142 = .ok (.invokevirtual 163, 3) := by decide +kernel
theorem dL_law_1145 : decode cL_law 1145 = .ok (.aload_n 2, 1) := by decide +kernel
theorem dL_law_1146 : decode cL_law 1146 = .ok (.aload_n 0, 1) := by decide +kernel
theorem dL_law_1147 : decode cL_law 1147 = .ok (.iload 4, 2) := by decide +kernel
theorem dL_law_1149 : decode cL_law 1149 = .ok (.iconst 1, 1) := by decide +kernel
theorem dL_law_1150 : decode cL_law 1150 = .ok (.iadd, 1) := by decide +kernel
theorem dL_law_1151 : decode cL_law 1151 = .ok (.iaload, 1) := by decide +kernel
theorem dL_law_1152 : decode cL_law 1152 = .ok (.aload_n 0, 1) := by decide +kernel
theorem dL_law_1153 : decode cL_law 1153 = .ok (.iload 4, 2) := by decide +kernel
theorem dL_law_1155 : decode cL_law 1155 = .ok (.iconst 2, 1) := by decide +kernel
theorem dL_law_1156 : decode cL_law 1156 = .ok (.iadd, 1) := by decide +kernel
theorem dL_law_1157 : decode cL_law 1157 = .ok (.iaload, 1) := by decide +kernel
theorem dL_law_1158 : decode cL_law 1158 = .ok (.aload_n 0, 1) := by decide +kernel
theorem dL_law_1159 : decode cL_law 1159 = .ok (.iload 4, 2) := by decide +kernel
theorem dL_law_1161 : decode cL_law 1161 = .ok (.iconst 3, 1) := by decide +kernel
theorem dL_law_1162 : decode cL_law 1162 = .ok (.iadd, 1) := by decide +kernel
theorem dL_law_1163 : decode cL_law 1163 = .ok (.iaload, 1) := by decide +kernel
theorem dL_law_1164 : decode cL_law 1164 = .ok (.ifCond .eq 7, 3) := by decide +kernel
theorem dL_law_1167 : decode cL_law 1167 = .ok (.iconst 1, 1) := by decide +kernel
theorem dL_law_1168 : decode cL_law 1168 = .ok (.goto 4, 3) := by decide +kernel
theorem dL_law_1171 : decode cL_law 1171 = .ok (.iconst 0, 1) := by decide +kernel
theorem dL_law_1172 : decode cL_law 1172 = .ok (.invokevirtual 167, 3) := by decide +kernel
theorem dL_law_1175 : decode cL_law 1175 = .ok (.lcmp, 1) := by decide +kernel
theorem dL_law_1176 : decode cL_law 1176 = .ok (.ifCond .eq 586, 3) := by decide +kernel
theorem dL_law_1179 : decode cL_law 1179 = .ok (.iconst 0, 1) := by decide +kernel
theorem dL_law_1180 : decode cL_law 1180 = .ok (.ireturn, 1) := by decide +kernel
theorem dL_law_1181 : decode cL_law 1181 = .ok (.aload_n 1, 1) := by decide +kernel
theorem dL_law_1182 : decode cL_law 1182 = .ok (.aload_n 0, 1) := by decide +kernel
theorem dL_law_1183 : decode cL_law 1183 = .ok (.iload 4, 2) := by decide +kernel
theorem dL_law_1185 : decode cL_law 1185 = .ok (.iconst 1, 1) := by decide +kernel
theorem dL_law_1186 : decode cL_law 1186 = .ok (.iadd, 1) := by decide +kernel
theorem dL_law_1187 : decode cL_law 1187 = .ok (.iaload, 1) := by decide +kernel
theorem dL_law_1188 : decode cL_law 1188 = .ok (.aload_n 0, 1) := by decide +kernel
theorem dL_law_1189 : decode cL_law 1189 = .ok (.iload 4, 2) := by decide +kernel
theorem dL_law_1191 : decode cL_law 1191 = .ok (.iconst 2, 1) := by decide +kernel
theorem dL_law_1192 : decode cL_law 1192 = .ok (.iadd, 1) := by decide +kernel
theorem dL_law_1193 : decode cL_law 1193 = .ok (.iaload, 1) := by decide +kernel
theorem dL_law_1194 : decode cL_law 1194 = .ok (.ifCond .eq 7, 3) := by decide +kernel
theorem dL_law_1197 : decode cL_law 1197 = .ok (.iconst 1, 1) := by decide +kernel
theorem dL_law_1198 : decode cL_law 1198 = .ok (.goto 4, 3) := by decide +kernel
theorem dL_law_1201 : decode cL_law 1201 = .ok (.iconst 0, 1) := by decide +kernel
theorem dL_law_1202 : decode cL_law 1202 = .ok (.invokevirtual 168, 3) := by decide +kernel
theorem dL_law_1205 : decode cL_law 1205 = .ok (.aload_n 2, 1) := by decide +kernel
theorem dL_law_1206 : decode cL_law 1206 = .ok (.aload_n 0, 1) := by decide +kernel
theorem dL_law_1207 : decode cL_law 1207 = .ok (.iload 4, 2) := by decide +kernel
theorem dL_law_1209 : decode cL_law 1209 = .ok (.iconst 1, 1) := by decide +kernel
theorem dL_law_1210 : decode cL_law 1210 = .ok (.iadd, 1) := by decide +kernel
theorem dL_law_1211 : decode cL_law 1211 = .ok (.iaload, 1) := by decide +kernel
theorem dL_law_1212 : decode cL_law 1212 = .ok (.aload_n 0, 1) := by decide +kernel
theorem dL_law_1213 : decode cL_law 1213 = .ok (.iload 4, 2) := by decide +kernel
theorem dL_law_1215 : decode cL_law 1215 = .ok (.iconst 2, 1) := by decide +kernel
theorem dL_law_1216 : decode cL_law 1216 = .ok (.iadd, 1) := by decide +kernel
theorem dL_law_1217 : decode cL_law 1217 = .ok (.iaload, 1) := by decide +kernel
theorem dL_law_1218 : decode cL_law 1218 = .ok (.ifCond .eq 7, 3) := by decide +kernel
theorem dL_law_1221 : decode cL_law 1221 = .ok (.iconst 1, 1) := by decide +kernel
theorem dL_law_1222 : decode cL_law 1222 = .ok (.goto 4, 3) := by decide +kernel
theorem dL_law_1225 : decode cL_law 1225 = .ok (.iconst 0, 1) := by decide +kernel
theorem dL_law_1226 : decode cL_law 1226 = .ok (.invokevirtual 172, 3) := by decide +kernel
theorem dL_law_1229 : decode cL_law 1229 = .ok (.lcmp, 1) := by decide +kernel
theorem dL_law_1230 : decode cL_law 1230 = .ok (.ifCond .eq 532, 3) := by decide +kernel
theorem dL_law_1233 : decode cL_law 1233 = .ok (.iconst 0, 1) := by decide +kernel
theorem dL_law_1234 : decode cL_law 1234 = .ok (.ireturn, 1) := by decide +kernel
theorem dL_law_1235 : decode cL_law 1235 = .ok (.aload_n 1, 1) := by decide +kernel
theorem dL_law_1236 : decode cL_law 1236 = .ok (.invokevirtual 173, 3) := by decide +kernel
theorem dL_law_1239 : decode cL_law 1239 = .ok (.aload_n 2, 1) := by decide +kernel
theorem dL_law_1240 : decode cL_law 1240 = .ok (.invokevirtual 176, 3) := by decide +kernel
theorem dL_law_1243 : decode cL_law 1243 = .ok (.if_icmp .eq 519, 3) := by decide +kernel
theorem dL_law_1246 : decode cL_law 1246 = .ok (.iconst 0, 1) := by decide +kernel
theorem dL_law_1247 : decode cL_law 1247 = .ok (.ireturn, 1) := by decide +kernel
theorem dL_law_1248 : decode cL_law 1248 = .ok (.aload_n 1, 1) := by decide +kernel
theorem dL_law_1249 : decode cL_law 1249 = .ok (.aload_n 0, 1) := by decide +kernel
theorem dL_law_1250 : decode cL_law 1250 = .ok (.iload 4, 2) := by decide +kernel
theorem dL_law_1252 : decode cL_law 1252 = .ok (.iconst 1, 1) := by decide +kernel
theorem dL_law_1253 : decode cL_law 1253 = .ok (.iadd, 1) := by decide +kernel
theorem dL_law_1254 : decode cL_law 1254 = .ok (.iaload, 1) := by decide +kernel
theorem dL_law_1255 : decode cL_law 1255 = .ok (.aload_n 0, 1) := by decide +kernel
theorem dL_law_1256 : decode cL_law 1256 = .ok (.iload 4, 2) := by decide +kernel
theorem dL_law_1258 : decode cL_law 1258 = .ok (.iconst 2, 1) := by decide +kernel
theorem dL_law_1259 : decode cL_law 1259 = .ok (.iadd, 1) := by decide +kernel
theorem dL_law_1260 : decode cL_law 1260 = .ok (.iaload, 1) := by decide +kernel
theorem dL_law_1261 : decode cL_law 1261 = .ok (.ifCond .eq 7, 3) := by decide +kernel
theorem dL_law_1264 : decode cL_law 1264 = .ok (.iconst 1, 1) := by decide +kernel
theorem dL_law_1265 : decode cL_law 1265 = .ok (.goto 4, 3) := by decide +kernel
theorem dL_law_1268 : decode cL_law 1268 = .ok (.iconst 0, 1) := by decide +kernel
theorem dL_law_1269 : decode cL_law 1269 = .ok (.aload_n 0, 1) := by decide +kernel
theorem dL_law_1270 : decode cL_law 1270 = .ok (.iload 4, 2) := by decide +kernel
theorem dL_law_1272 : decode cL_law 1272 = .ok (.iconst 3, 1) := by decide +kernel
theorem dL_law_1273 : decode cL_law 1273 = .ok (.iadd, 1) := by decide +kernel
theorem dL_law_1274 : decode cL_law 1274 = .ok (.iaload, 1) := by decide +kernel
theorem dL_law_1275 : decode cL_law 1275 = .ok (.ifCond .eq 7, 3) := by decide +kernel
theorem dL_law_1278 : decode cL_law 1278 = .ok (.iconst 1, 1) := by decide +kernel
theorem dL_law_1279 : decode cL_law 1279 = .ok (.goto 4, 3) := by decide +kernel
theorem dL_law_1282 : decode cL_law 1282 = .ok (.iconst 0, 1) := by decide +kernel
theorem dL_law_1283 : decode cL_law 1283 = .ok (.aload_n 0, 1) := by decide +kernel
theorem dL_law_1284 : decode cL_law 1284 = .ok (.iload 4, 2) := by decide +kernel
theorem dL_law_1286 : decode cL_law 1286 = .ok (.iconst 4, 1) := by decide +kernel
theorem dL_law_1287 : decode cL_law 1287 = .ok (.iadd, 1) := by decide +kernel
theorem dL_law_1288 : decode cL_law 1288 = .ok (.iaload, 1) := by decide +kernel
theorem dL_law_1289 : decode cL_law 1289 = .ok (.ifCond .eq 7, 3) := by decide +kernel
theorem dL_law_1292 : decode cL_law 1292 = .ok (.iconst 1, 1) := by decide +kernel
theorem dL_law_1293 : decode cL_law 1293 = .ok (.goto 4, 3) := by decide +kernel
theorem dL_law_1296 : decode cL_law 1296 = .ok (.iconst 0, 1) := by decide +kernel
theorem dL_law_1297 : decode cL_law 1297 = .ok (.invokevirtual 177, 3) := by decide +kernel
theorem dL_law_1300 : decode cL_law 1300 = .ok (.aload_n 2, 1) := by decide +kernel
theorem dL_law_1301 : decode cL_law 1301 = .ok (.aload_n 0, 1) := by decide +kernel
theorem dL_law_1302 : decode cL_law 1302 = .ok (.iload 4, 2) := by decide +kernel
theorem dL_law_1304 : decode cL_law 1304 = .ok (.iconst 1, 1) := by decide +kernel
theorem dL_law_1305 : decode cL_law 1305 = .ok (.iadd, 1) := by decide +kernel
theorem dL_law_1306 : decode cL_law 1306 = .ok (.iaload, 1) := by decide +kernel
theorem dL_law_1307 : decode cL_law 1307 = .ok (.aload_n 0, 1) := by decide +kernel
theorem dL_law_1308 : decode cL_law 1308 = .ok (.iload 4, 2) := by decide +kernel
theorem dL_law_1310 : decode cL_law 1310 = .ok (.iconst 2, 1) := by decide +kernel
theorem dL_law_1311 : decode cL_law 1311 = .ok (.iadd, 1) := by decide +kernel
theorem dL_law_1312 : decode cL_law 1312 = .ok (.iaload, 1) := by decide +kernel
theorem dL_law_1313 : decode cL_law 1313 = .ok (.ifCond .eq 7, 3) := by decide +kernel
theorem dL_law_1316 : decode cL_law 1316 = .ok (.iconst 1, 1) := by decide +kernel
theorem dL_law_1317 : decode cL_law 1317 = .ok (.goto 4, 3) := by decide +kernel
theorem dL_law_1320 : decode cL_law 1320 = .ok (.iconst 0, 1) := by decide +kernel
theorem dL_law_1321 : decode cL_law 1321 = .ok (.aload_n 0, 1) := by decide +kernel
theorem dL_law_1322 : decode cL_law 1322 = .ok (.iload 4, 2) := by decide +kernel
theorem dL_law_1324 : decode cL_law 1324 = .ok (.iconst 3, 1) := by decide +kernel
theorem dL_law_1325 : decode cL_law 1325 = .ok (.iadd, 1) := by decide +kernel
theorem dL_law_1326 : decode cL_law 1326 = .ok (.iaload, 1) := by decide +kernel
theorem dL_law_1327 : decode cL_law 1327 = .ok (.ifCond .eq 7, 3) := by decide +kernel
theorem dL_law_1330 : decode cL_law 1330 = .ok (.iconst 1, 1) := by decide +kernel
theorem dL_law_1331 : decode cL_law 1331 = .ok (.goto 4, 3) := by decide +kernel
theorem dL_law_1334 : decode cL_law 1334 = .ok (.iconst 0, 1) := by decide +kernel
theorem dL_law_1335 : decode cL_law 1335 = .ok (.aload_n 0, 1) := by decide +kernel
theorem dL_law_1336 : decode cL_law 1336 = .ok (.iload 4, 2) := by decide +kernel
theorem dL_law_1338 : decode cL_law 1338 = .ok (.iconst 4, 1) := by decide +kernel
theorem dL_law_1339 : decode cL_law 1339 = .ok (.iadd, 1) := by decide +kernel
theorem dL_law_1340 : decode cL_law 1340 = .ok (.iaload, 1) := by decide +kernel
theorem dL_law_1341 : decode cL_law 1341 = .ok (.ifCond .eq 7, 3) := by decide +kernel
theorem dL_law_1344 : decode cL_law 1344 = .ok (.iconst 1, 1) := by decide +kernel
theorem dL_law_1345 : decode cL_law 1345 = .ok (.goto 4, 3) := by decide +kernel
theorem dL_law_1348 : decode cL_law 1348 = .ok (.iconst 0, 1) := by decide +kernel
theorem dL_law_1349 : decode cL_law 1349 = .ok (.invokevirtual 181, 3) := by decide +kernel
theorem dL_law_1352 : decode cL_law 1352 = .ok (.if_icmp .eq 410, 3) := by decide +kernel
theorem dL_law_1355 : decode cL_law 1355 = .ok (.iconst 0, 1) := by decide +kernel
theorem dL_law_1356 : decode cL_law 1356 = .ok (.ireturn, 1) := by decide +kernel
theorem dL_law_1357 : decode cL_law 1357 = .ok (.aload_n 1, 1) := by decide +kernel
theorem dL_law_1358 : decode cL_law 1358 = .ok (.aload_n 0, 1) := by decide +kernel
theorem dL_law_1359 : decode cL_law 1359 = .ok (.iload 4, 2) := by decide +kernel
theorem dL_law_1361 : decode cL_law 1361 = .ok (.iconst 1, 1) := by decide +kernel
theorem dL_law_1362 : decode cL_law 1362 = .ok (.iadd, 1) := by decide +kernel
theorem dL_law_1363 : decode cL_law 1363 = .ok (.iaload, 1) := by decide +kernel
theorem dL_law_1364 : decode cL_law 1364 = .ok (.invokevirtual 182, 3) := by decide +kernel
theorem dL_law_1367 : decode cL_law 1367 = .ok (.aload_n 2, 1) := by decide +kernel
theorem dL_law_1368 : decode cL_law 1368 = .ok (.aload_n 0, 1) := by decide +kernel
theorem dL_law_1369 : decode cL_law 1369 = .ok (.iload 4, 2) := by decide +kernel
theorem dL_law_1371 : decode cL_law 1371 = .ok (.iconst 1, 1) := by decide +kernel
theorem dL_law_1372 : decode cL_law 1372 = .ok (.iadd, 1) := by decide +kernel
theorem dL_law_1373 : decode cL_law 1373 = .ok (.iaload, 1) := by decide +kernel
theorem dL_law_1374 : decode cL_law 1374 = .ok (.invokevirtual 185, 3) := by decide +kernel
theorem dL_law_1377 : decode cL_law 1377 = .ok (.if_icmp .eq 385, 3) := by decide +kernel
theorem dL_law_1380 : decode cL_law 1380 = .ok (.iconst 0, 1) := by decide +kernel
theorem dL_law_1381 : decode cL_law 1381 = .ok (.ireturn, 1) := by decide +kernel
theorem dL_law_1382 : decode cL_law 1382 = .ok (.aload_n 1, 1) := by decide +kernel
theorem dL_law_1383 : decode cL_law 1383 = .ok (.aload_n 0, 1) := by decide +kernel
theorem dL_law_1384 : decode cL_law 1384 = .ok (.iload 4, 2) := by decide +kernel
theorem dL_law_1386 : decode cL_law 1386 = .ok (.iconst 1, 1) := by decide +kernel
theorem dL_law_1387 : decode cL_law 1387 = .ok (.iadd, 1) := by decide +kernel
theorem dL_law_1388 : decode cL_law 1388 = .ok (.iaload, 1) := by decide +kernel
theorem dL_law_1389 : decode cL_law 1389 = .ok (.invokevirtual 186, 3) := by decide +kernel
theorem dL_law_1392 : decode cL_law 1392 = .ok (.aload_n 2, 1) := by decide +kernel
theorem dL_law_1393 : decode cL_law 1393 = .ok (.aload_n 0, 1) := by decide +kernel
theorem dL_law_1394 : decode cL_law 1394 = .ok (.iload 4, 2) := by decide +kernel
theorem dL_law_1396 : decode cL_law 1396 = .ok (.iconst 1, 1) := by decide +kernel
theorem dL_law_1397 : decode cL_law 1397 = .ok (.iadd, 1) := by decide +kernel
theorem dL_law_1398 : decode cL_law 1398 = .ok (.iaload, 1) := by decide +kernel
theorem dL_law_1399 : decode cL_law 1399 = .ok (.invokevirtual 189, 3) := by decide +kernel
theorem dL_law_1402 : decode cL_law 1402 = .ok (.if_icmp .eq 360, 3) := by decide +kernel
theorem dL_law_1405 : decode cL_law 1405 = .ok (.iconst 0, 1) := by decide +kernel
theorem dL_law_1406 : decode cL_law 1406 = .ok (.ireturn, 1) := by decide +kernel
theorem dL_law_1407 : decode cL_law 1407 = .ok (.aload_n 1, 1) := by decide +kernel
theorem dL_law_1408 : decode cL_law 1408 = .ok (.aload_n 0, 1) := by decide +kernel
theorem dL_law_1409 : decode cL_law 1409 = .ok (.iload 4, 2) := by decide +kernel
theorem dL_law_1411 : decode cL_law 1411 = .ok (.iconst 1, 1) := by decide +kernel
theorem dL_law_1412 : decode cL_law 1412 = .ok (.iadd, 1) := by decide +kernel
theorem dL_law_1413 : decode cL_law 1413 = .ok (.iaload, 1) := by decide +kernel
theorem dL_law_1414 : decode cL_law 1414 = .ok (.aload_n 0, 1) := by decide +kernel
theorem dL_law_1415 : decode cL_law 1415 = .ok (.iload 4, 2) := by decide +kernel
theorem dL_law_1417 : decode cL_law 1417 = .ok (.iconst 2, 1) := by decide +kernel
theorem dL_law_1418 : decode cL_law 1418 = .ok (.iadd, 1) := by decide +kernel
theorem dL_law_1419 : decode cL_law 1419 = .ok (.iaload, 1) := by decide +kernel
theorem dL_law_1420 : decode cL_law 1420 = .ok (.invokevirtual 190, 3) := by decide +kernel
theorem dL_law_1423 : decode cL_law 1423 = .ok (.aload_n 2, 1) := by decide +kernel
theorem dL_law_1424 : decode cL_law 1424 = .ok (.aload_n 0, 1) := by decide +kernel
theorem dL_law_1425 : decode cL_law 1425 = .ok (.iload 4, 2) := by decide +kernel
theorem dL_law_1427 : decode cL_law 1427 = .ok (.iconst 1, 1) := by decide +kernel
theorem dL_law_1428 : decode cL_law 1428 = .ok (.iadd, 1) := by decide +kernel
theorem dL_law_1429 : decode cL_law 1429 = .ok (.iaload, 1) := by decide +kernel
theorem dL_law_1430 : decode cL_law 1430 = .ok (.aload_n 0, 1) := by decide +kernel
theorem dL_law_1431 : decode cL_law 1431 = .ok (.iload 4, 2) := by decide +kernel
theorem dL_law_1433 : decode cL_law 1433 = .ok (.iconst 2, 1) := by decide +kernel
theorem dL_law_1434 : decode cL_law 1434 = .ok (.iadd, 1) := by decide +kernel
theorem dL_law_1435 : decode cL_law 1435 = .ok (.iaload, 1) := by decide +kernel
theorem dL_law_1436 : decode cL_law 1436 = .ok (.invokevirtual 193, 3) := by decide +kernel
theorem dL_law_1439 : decode cL_law 1439 = .ok (.if_icmp .eq 323, 3) := by decide +kernel
theorem dL_law_1442 : decode cL_law 1442 = .ok (.iconst 0, 1) := by decide +kernel
theorem dL_law_1443 : decode cL_law 1443 = .ok (.ireturn, 1) := by decide +kernel
theorem dL_law_1444 : decode cL_law 1444 = .ok (.aload_n 1, 1) := by decide +kernel
theorem dL_law_1445 : decode cL_law 1445 = .ok (.aload_n 0, 1) := by decide +kernel
theorem dL_law_1446 : decode cL_law 1446 = .ok (.iload 4, 2) := by decide +kernel
theorem dL_law_1448 : decode cL_law 1448 = .ok (.iconst 1, 1) := by decide +kernel
theorem dL_law_1449 : decode cL_law 1449 = .ok (.iadd, 1) := by decide +kernel
theorem dL_law_1450 : decode cL_law 1450 = .ok (.iaload, 1) := by decide +kernel
theorem dL_law_1451 : decode cL_law 1451 = .ok (.aload_n 0, 1) := by decide +kernel
theorem dL_law_1452 : decode cL_law 1452 = .ok (.iload 4, 2) := by decide +kernel
theorem dL_law_1454 : decode cL_law 1454 = .ok (.iconst 2, 1) := by decide +kernel
theorem dL_law_1455 : decode cL_law 1455 = .ok (.iadd, 1) := by decide +kernel
theorem dL_law_1456 : decode cL_law 1456 = .ok (.iaload, 1) := by decide +kernel
theorem dL_law_1457 : decode cL_law 1457 = .ok (.invokevirtual 194, 3) := by decide +kernel
theorem dL_law_1460 : decode cL_law 1460 = .ok (.aload_n 2, 1) := by decide +kernel
theorem dL_law_1461 : decode cL_law 1461 = .ok (.aload_n 0, 1) := by decide +kernel
theorem dL_law_1462 : decode cL_law 1462 = .ok (.iload 4, 2) := by decide +kernel
theorem dL_law_1464 : decode cL_law 1464 = .ok (.iconst 1, 1) := by decide +kernel
theorem dL_law_1465 : decode cL_law 1465 = .ok (.iadd, 1) := by decide +kernel
theorem dL_law_1466 : decode cL_law 1466 = .ok (.iaload, 1) := by decide +kernel
theorem dL_law_1467 : decode cL_law 1467 = .ok (.aload_n 0, 1) := by decide +kernel
theorem dL_law_1468 : decode cL_law 1468 = .ok (.iload 4, 2) := by decide +kernel
theorem dL_law_1470 : decode cL_law 1470 = .ok (.iconst 2, 1) := by decide +kernel
theorem dL_law_1471 : decode cL_law 1471 = .ok (.iadd, 1) := by decide +kernel
theorem dL_law_1472 : decode cL_law 1472 = .ok (.iaload, 1) := by decide +kernel
theorem dL_law_1473 : decode cL_law 1473 = .ok (.invokevirtual 197, 3) := by decide +kernel
theorem dL_law_1476 : decode cL_law 1476 = .ok (.if_icmp .eq 286, 3) := by decide +kernel
theorem dL_law_1479 : decode cL_law 1479 = .ok (.iconst 0, 1) := by decide +kernel
theorem dL_law_1480 : decode cL_law 1480 = .ok (.ireturn, 1) := by decide +kernel
theorem dL_law_1481 : decode cL_law 1481 = .ok (.aload_n 1, 1) := by decide +kernel
theorem dL_law_1482 : decode cL_law 1482 = .ok (.aload_n 0, 1) := by decide +kernel
theorem dL_law_1483 : decode cL_law 1483 = .ok (.iload 4, 2) := by decide +kernel
theorem dL_law_1485 : decode cL_law 1485 = .ok (.iconst 1, 1) := by decide +kernel
theorem dL_law_1486 : decode cL_law 1486 = .ok (.iadd, 1) := by decide +kernel
theorem dL_law_1487 : decode cL_law 1487 = .ok (.iaload, 1) := by decide +kernel
theorem dL_law_1488 : decode cL_law 1488 = .ok (.aload_n 0, 1) := by decide +kernel
theorem dL_law_1489 : decode cL_law 1489 = .ok (.iload 4, 2) := by decide +kernel
theorem dL_law_1491 : decode cL_law 1491 = .ok (.iconst 2, 1) := by decide +kernel
theorem dL_law_1492 : decode cL_law 1492 = .ok (.iadd, 1) := by decide +kernel
theorem dL_law_1493 : decode cL_law 1493 = .ok (.iaload, 1) := by decide +kernel
theorem dL_law_1494 : decode cL_law 1494 = .ok (.invokevirtual 198, 3) := by decide +kernel
theorem dL_law_1497 : decode cL_law 1497 = .ok (.aload_n 2, 1) := by decide +kernel
theorem dL_law_1498 : decode cL_law 1498 = .ok (.aload_n 0, 1) := by decide +kernel
theorem dL_law_1499 : decode cL_law 1499 = .ok (.iload 4, 2) := by decide +kernel
theorem dL_law_1501 : decode cL_law 1501 = .ok (.iconst 1, 1) := by decide +kernel
theorem dL_law_1502 : decode cL_law 1502 = .ok (.iadd, 1) := by decide +kernel
theorem dL_law_1503 : decode cL_law 1503 = .ok (.iaload, 1) := by decide +kernel
theorem dL_law_1504 : decode cL_law 1504 = .ok (.aload_n 0, 1) := by decide +kernel
theorem dL_law_1505 : decode cL_law 1505 = .ok (.iload 4, 2) := by decide +kernel
theorem dL_law_1507 : decode cL_law 1507 = .ok (.iconst 2, 1) := by decide +kernel
theorem dL_law_1508 : decode cL_law 1508 = .ok (.iadd, 1) := by decide +kernel
theorem dL_law_1509 : decode cL_law 1509 = .ok (.iaload, 1) := by decide +kernel
theorem dL_law_1510 : decode cL_law 1510 = .ok (.invokevirtual 201, 3) := by decide +kernel
theorem dL_law_1513 : decode cL_law 1513 = .ok (.if_icmp .eq 249, 3) := by decide +kernel
theorem dL_law_1516 : decode cL_law 1516 = .ok (.iconst 0, 1) := by decide +kernel
theorem dL_law_1517 : decode cL_law 1517 = .ok (.ireturn, 1) := by decide +kernel
theorem dL_law_1518 : decode cL_law 1518 = .ok (.aload_n 1, 1) := by decide +kernel
theorem dL_law_1519 : decode cL_law 1519 = .ok (.aload_n 0, 1) := by decide +kernel
theorem dL_law_1520 : decode cL_law 1520 = .ok (.iload 4, 2) := by decide +kernel
theorem dL_law_1522 : decode cL_law 1522 = .ok (.iconst 1, 1) := by decide +kernel
theorem dL_law_1523 : decode cL_law 1523 = .ok (.iadd, 1) := by decide +kernel
theorem dL_law_1524 : decode cL_law 1524 = .ok (.iaload, 1) := by decide +kernel
theorem dL_law_1525 : decode cL_law 1525 = .ok (.invokevirtual 202, 3) := by decide +kernel
theorem dL_law_1528 : decode cL_law 1528 = .ok (.aload_n 2, 1) := by decide +kernel
theorem dL_law_1529 : decode cL_law 1529 = .ok (.aload_n 0, 1) := by decide +kernel
theorem dL_law_1530 : decode cL_law 1530 = .ok (.iload 4, 2) := by decide +kernel
theorem dL_law_1532 : decode cL_law 1532 = .ok (.iconst 1, 1) := by decide +kernel
theorem dL_law_1533 : decode cL_law 1533 = .ok (.iadd, 1) := by decide +kernel
theorem dL_law_1534 : decode cL_law 1534 = .ok (.iaload, 1) := by decide +kernel
theorem dL_law_1535 : decode cL_law 1535 = .ok (.invokevirtual 205, 3) := by decide +kernel
theorem dL_law_1538 : decode cL_law 1538 = .ok (.if_icmp .eq 224, 3) := by decide +kernel
theorem dL_law_1541 : decode cL_law 1541 = .ok (.iconst 0, 1) := by decide +kernel
theorem dL_law_1542 : decode cL_law 1542 = .ok (.ireturn, 1) := by decide +kernel
theorem dL_law_1543 : decode cL_law 1543 = .ok (.aload_n 1, 1) := by decide +kernel
theorem dL_law_1544 : decode cL_law 1544 = .ok (.aload_n 0, 1) := by decide +kernel
theorem dL_law_1545 : decode cL_law 1545 = .ok (.iload 4, 2) := by decide +kernel
theorem dL_law_1547 : decode cL_law 1547 = .ok (.iconst 1, 1) := by decide +kernel
theorem dL_law_1548 : decode cL_law 1548 = .ok (.iadd, 1) := by decide +kernel
theorem dL_law_1549 : decode cL_law 1549 = .ok (.iaload, 1) := by decide +kernel
theorem dL_law_1550 : decode cL_law 1550 = .ok (.aload_n 0, 1) := by decide +kernel
theorem dL_law_1551 : decode cL_law 1551 = .ok (.iload 4, 2) := by decide +kernel
theorem dL_law_1553 : decode cL_law 1553 = .ok (.iconst 2, 1) := by decide +kernel
theorem dL_law_1554 : decode cL_law 1554 = .ok (.iadd, 1) := by decide +kernel
theorem dL_law_1555 : decode cL_law 1555 = .ok (.iaload, 1) := by decide +kernel
theorem dL_law_1556 : decode cL_law 1556 = .ok (.invokevirtual 206, 3) := by decide +kernel
theorem dL_law_1559 : decode cL_law 1559 = .ok (.aload_n 2, 1) := by decide +kernel
theorem dL_law_1560 : decode cL_law 1560 = .ok (.aload_n 0, 1) := by decide +kernel
theorem dL_law_1561 : decode cL_law 1561 = .ok (.iload 4, 2) := by decide +kernel
theorem dL_law_1563 : decode cL_law 1563 = .ok (.iconst 1, 1) := by decide +kernel
theorem dL_law_1564 : decode cL_law 1564 = .ok (.iadd, 1) := by decide +kernel
theorem dL_law_1565 : decode cL_law 1565 = .ok (.iaload, 1) := by decide +kernel
theorem dL_law_1566 : decode cL_law 1566 = .ok (.aload_n 0, 1) := by decide +kernel
theorem dL_law_1567 : decode cL_law 1567 = .ok (.iload 4, 2) := by decide +kernel
theorem dL_law_1569 : decode cL_law 1569 = .ok (.iconst 2, 1) := by decide +kernel
theorem dL_law_1570 : decode cL_law 1570 = .ok (.iadd, 1) := by decide +kernel
theorem dL_law_1571 : decode cL_law 1571 = .ok (.iaload, 1) := by decide +kernel
theorem dL_law_1572 : decode cL_law 1572 = .ok (.invokevirtual 210, 3) := by decide +kernel
theorem dL_law_1575 : decode cL_law 1575 = .ok (.if_icmp .eq 187, 3) := by decide +kernel
theorem dL_law_1578 : decode cL_law 1578 = .ok (.iconst 0, 1) := by decide +kernel
theorem dL_law_1579 : decode cL_law 1579 = .ok (.ireturn, 1) := by decide +kernel
theorem dL_law_1580 : decode cL_law 1580 = .ok (.aload_n 1, 1) := by decide +kernel
theorem dL_law_1581 : decode cL_law 1581 = .ok (.aload_n 0, 1) := by decide +kernel
theorem dL_law_1582 : decode cL_law 1582 = .ok (.iload 4, 2) := by decide +kernel
theorem dL_law_1584 : decode cL_law 1584 = .ok (.iconst 1, 1) := by decide +kernel
theorem dL_law_1585 : decode cL_law 1585 = .ok (.iadd, 1) := by decide +kernel
theorem dL_law_1586 : decode cL_law 1586 = .ok (.iaload, 1) := by decide +kernel
theorem dL_law_1587 : decode cL_law 1587 = .ok (.aload_n 0, 1) := by decide +kernel
theorem dL_law_1588 : decode cL_law 1588 = .ok (.iload 4, 2) := by decide +kernel
theorem dL_law_1590 : decode cL_law 1590 = .ok (.iconst 2, 1) := by decide +kernel
theorem dL_law_1591 : decode cL_law 1591 = .ok (.iadd, 1) := by decide +kernel
theorem dL_law_1592 : decode cL_law 1592 = .ok (.iaload, 1) := by decide +kernel
theorem dL_law_1593 : decode cL_law 1593 = .ok (.invokevirtual 211, 3) := by decide +kernel
theorem dL_law_1596 : decode cL_law 1596 = .ok (.aload_n 2, 1) := by decide +kernel
theorem dL_law_1597 : decode cL_law 1597 = .ok (.aload_n 0, 1) := by decide +kernel
theorem dL_law_1598 : decode cL_law 1598 = .ok (.iload 4, 2) := by decide +kernel
theorem dL_law_1600 : decode cL_law 1600 = .ok (.iconst 1, 1) := by decide +kernel
theorem dL_law_1601 : decode cL_law 1601 = .ok (.iadd, 1) := by decide +kernel
theorem dL_law_1602 : decode cL_law 1602 = .ok (.iaload, 1) := by decide +kernel
theorem dL_law_1603 : decode cL_law 1603 = .ok (.aload_n 0, 1) := by decide +kernel
theorem dL_law_1604 : decode cL_law 1604 = .ok (.iload 4, 2) := by decide +kernel
theorem dL_law_1606 : decode cL_law 1606 = .ok (.iconst 2, 1) := by decide +kernel
theorem dL_law_1607 : decode cL_law 1607 = .ok (.iadd, 1) := by decide +kernel
theorem dL_law_1608 : decode cL_law 1608 = .ok (.iaload, 1) := by decide +kernel
theorem dL_law_1609 : decode cL_law 1609 = .ok (.invokevirtual 214, 3) := by decide +kernel
theorem dL_law_1612 : decode cL_law 1612 = .ok (.if_icmp .eq 150, 3) := by decide +kernel
theorem dL_law_1615 : decode cL_law 1615 = .ok (.iconst 0, 1) := by decide +kernel
theorem dL_law_1616 : decode cL_law 1616 = .ok (.ireturn, 1) := by decide +kernel
theorem dL_law_1617 : decode cL_law 1617 = .ok (.aload_n 1, 1) := by decide +kernel
theorem dL_law_1618 : decode cL_law 1618 = .ok (.invokevirtual 215, 3) := by decide +kernel
theorem dL_law_1621 : decode cL_law 1621 = .ok (.aload_n 2, 1) := by decide +kernel
theorem dL_law_1622 : decode cL_law 1622 = .ok (.invokevirtual 219, 3) := by decide +kernel
theorem dL_law_1625 : decode cL_law 1625 = .ok (.if_icmp .eq 137, 3) := by decide +kernel
theorem dL_law_1628 : decode cL_law 1628 = .ok (.iconst 0, 1) := by decide +kernel
theorem dL_law_1629 : decode cL_law 1629 = .ok (.ireturn, 1) := by decide +kernel
theorem dL_law_1630 : decode cL_law 1630 = .ok (.aload_n 1, 1) := by decide +kernel
theorem dL_law_1631 : decode cL_law 1631 = .ok (.invokevirtual 220, 3) := by decide +kernel
theorem dL_law_1634 : decode cL_law 1634 = .ok (.aload_n 2, 1) := by decide +kernel
theorem dL_law_1635 : decode cL_law 1635 = .ok (.invokevirtual 223, 3) := by decide +kernel
theorem dL_law_1638 : decode cL_law 1638 = .ok (.if_icmp .eq 124, 3) := by decide +kernel
theorem dL_law_1641 : decode cL_law 1641 = .ok (.iconst 0, 1) := by decide +kernel
theorem dL_law_1642 : decode cL_law 1642 = .ok (.ireturn, 1) := by decide +kernel
theorem dL_law_1643 : decode cL_law 1643 = .ok (.aload_n 1, 1) := by decide +kernel
theorem dL_law_1644 : decode cL_law 1644 = .ok (.aload_n 0, 1) := by decide +kernel
theorem dL_law_1645 : decode cL_law 1645 = .ok (.iload 4, 2) := by decide +kernel
theorem dL_law_1647 : decode cL_law 1647 = .ok (.iconst 1, 1) := by decide +kernel
theorem dL_law_1648 : decode cL_law 1648 = .ok (.iadd, 1) := by decide +kernel
theorem dL_law_1649 : decode cL_law 1649 = .ok (.iaload, 1) := by decide +kernel
theorem dL_law_1650 : decode cL_law 1650 = .ok (.invokevirtual 224, 3) := by decide +kernel
theorem dL_law_1653 : decode cL_law 1653 = .ok (.aload_n 2, 1) := by decide +kernel
theorem dL_law_1654 : decode cL_law 1654 = .ok (.aload_n 0, 1) := by decide +kernel
theorem dL_law_1655 : decode cL_law 1655 = .ok (.iload 4, 2) := by decide +kernel
theorem dL_law_1657 : decode cL_law 1657 = .ok (.iconst 1, 1) := by decide +kernel
theorem dL_law_1658 : decode cL_law 1658 = .ok (.iadd, 1) := by decide +kernel
theorem dL_law_1659 : decode cL_law 1659 = .ok (.iaload, 1) := by decide +kernel
theorem dL_law_1660 : decode cL_law 1660 = .ok (.invokevirtual 228, 3) := by decide +kernel
theorem dL_law_1663 : decode cL_law 1663 = .ok (.if_icmp .eq 99, 3) := by decide +kernel
theorem dL_law_1666 : decode cL_law 1666 = .ok (.iconst 0, 1) := by decide +kernel
theorem dL_law_1667 : decode cL_law 1667 = .ok (.ireturn, 1) := by decide +kernel
theorem dL_law_1668 : decode cL_law 1668 = .ok (.aload_n 1, 1) := by decide +kernel
theorem dL_law_1669 : decode cL_law 1669 = .ok (.aload_n 0, 1) := by decide +kernel
theorem dL_law_1670 : decode cL_law 1670 = .ok (.iload 4, 2) := by decide +kernel
theorem dL_law_1672 : decode cL_law 1672 = .ok (.iconst 1, 1) := by decide +kernel
theorem dL_law_1673 : decode cL_law 1673 = .ok (.iadd, 1) := by decide +kernel
theorem dL_law_1674 : decode cL_law 1674 = .ok (.iaload, 1) := by decide +kernel
theorem dL_law_1675 : decode cL_law 1675 = .ok (.aload_n 3, 1) := by decide +kernel
theorem dL_law_1676 : decode cL_law 1676 = .ok (.invokestatic 229, 3) := by decide +kernel
theorem dL_law_1679 : decode cL_law 1679 = .ok (.istore 5, 2) := by decide +kernel
theorem dL_law_1681 : decode cL_law 1681 = .ok (.aload_n 2, 1) := by decide +kernel
theorem dL_law_1682 : decode cL_law 1682 = .ok (.aload_n 0, 1) := by decide +kernel
theorem dL_law_1683 : decode cL_law 1683 = .ok (.iload 4, 2) := by decide +kernel
theorem dL_law_1685 : decode cL_law 1685 = .ok (.iconst 1, 1) := by decide +kernel
theorem dL_law_1686 : decode cL_law 1686 = .ok (.iadd, 1) := by decide +kernel
theorem dL_law_1687 : decode cL_law 1687 = .ok (.iaload, 1) := by decide +kernel
theorem dL_law_1688 : decode cL_law 1688 = .ok (.invokevirtual 234, 3) := by decide +kernel
theorem dL_law_1691 : decode cL_law 1691 = .ok (.istore 6, 2) := by decide +kernel
theorem dL_law_1693 : decode cL_law 1693 = .ok (.aload_n 2, 1) := by decide +kernel
theorem dL_law_1694 : decode cL_law 1694 = .ok (.invokevirtual 235, 3) := by decide +kernel
theorem dL_law_1697 : decode cL_law 1697 = .ok (.iload 5, 2) := by decide +kernel
theorem dL_law_1699 : decode cL_law 1699 = .ok (.if_icmp .eq 5, 3) := by decide +kernel
theorem dL_law_1702 : decode cL_law 1702 = .ok (.iconst 0, 1) := by decide +kernel
theorem dL_law_1703 : decode cL_law 1703 = .ok (.ireturn, 1) := by decide +kernel
theorem dL_law_1704 : decode cL_law 1704 = .ok (.iload 5, 2) := by decide +kernel
theorem dL_law_1706 : decode cL_law 1706 = .ok (.ifCond .ne 15, 3) := by decide +kernel
theorem dL_law_1709 : decode cL_law 1709 = .ok (.aload_n 3, 1) := by decide +kernel
theorem dL_law_1710 : decode cL_law 1710 = .ok (.iconst 0, 1) := by decide +kernel
theorem dL_law_1711 : decode cL_law 1711 = .ok (.laload, 1) := by decide +kernel
theorem dL_law_1712 : decode cL_law 1712 = .ok (.iload 6, 2) := by decide +kernel
theorem dL_law_1714 : decode cL_law 1714 = .ok (.i2l, 1) := by decide +kernel
theorem dL_law_1715 : decode cL_law 1715 = .ok (.lcmp, 1) := by decide +kernel
theorem dL_law_1716 : decode cL_law 1716 = .ok (.ifCond .eq 5, 3) := by decide +kernel
theorem dL_law_1719 : decode cL_law 1719 = .ok (.iconst 0, 1) := by decide +kernel
theorem dL_law_1720 : decode cL_law 1720 = .ok (.ireturn, 1) := by decide +kernel
theorem dL_law_1721 : decode cL_law 1721 = .ok (.goto 41, 3) := by decide +kernel
theorem dL_law_1724 : decode cL_law 1724 = .ok (.aload_n 1, 1) := by decide +kernel
theorem dL_law_1725 : decode cL_law 1725 = .ok (.aload_n 0, 1) := by decide +kernel
theorem dL_law_1726 : decode cL_law 1726 = .ok (.iload 4, 2) := by decide +kernel
theorem dL_law_1728 : decode cL_law 1728 = .ok (.iconst 1, 1) := by decide +kernel
theorem dL_law_1729 : decode cL_law 1729 = .ok (.iadd, 1) := by decide +kernel
theorem dL_law_1730 : decode cL_law 1730 = .ok (.iaload, 1) := by decide +kernel
theorem dL_law_1731 : decode cL_law 1731 = .ok (.invokevirtual 238, 3) := by decide +kernel
theorem dL_law_1734 : decode cL_law 1734 = .ok (.aload_n 2, 1) := by decide +kernel
theorem dL_law_1735 : decode cL_law 1735 = .ok (.aload_n 0, 1) := by decide +kernel
theorem dL_law_1736 : decode cL_law 1736 = .ok (.iload 4, 2) := by decide +kernel
theorem dL_law_1738 : decode cL_law 1738 = .ok (.iconst 1, 1) := by decide +kernel
theorem dL_law_1739 : decode cL_law 1739 = .ok (.iadd, 1) := by decide +kernel
theorem dL_law_1740 : decode cL_law 1740 = .ok (.iaload, 1) := by decide +kernel
theorem dL_law_1741 : decode cL_law 1741 = .ok (.invokevirtual 241, 3) := by decide +kernel
theorem dL_law_1744 : decode cL_law 1744 = .ok (.if_icmp .eq 18, 3) := by decide +kernel
theorem dL_law_1747 : decode cL_law 1747 = .ok (.iconst 0, 1) := by decide +kernel
theorem dL_law_1748 : decode cL_law 1748 = .ok (.ireturn, 1) := by decide +kernel
theorem dL_law_1749 : decode cL_law 1749 = .ok (.aload_n 1, 1) := by decide +kernel
theorem dL_law_1750 : decode cL_law 1750 = .ok (.invokevirtual 242, 3) := by decide +kernel
theorem dL_law_1753 : decode cL_law 1753 = .ok (.aload_n 2, 1) := by decide +kernel
theorem dL_law_1754 : decode cL_law 1754 = .ok (.invokevirtual 245, 3) := by decide +kernel
theorem dL_law_1757 : decode cL_law 1757 = .ok (.if_icmp .eq 5, 3) := by decide +kernel
theorem dL_law_1760 : decode cL_law 1760 = .ok (.iconst 0, 1) := by decide +kernel
theorem dL_law_1761 : decode cL_law 1761 = .ok (.ireturn, 1) := by decide +kernel
theorem dL_law_1762 : decode cL_law 1762 = .ok (.iinc 4 6, 3) := by decide +kernel
theorem dL_law_1765 : decode cL_law 1765 = .ok (.goto (-1742), 3) := by decide +kernel
theorem dL_law_1768 : decode cL_law 1768 = .ok (.iconst 1, 1) := by decide +kernel
theorem dL_law_1769 : decode cL_law 1769 = .ok (.ireturn, 1) := by decide +kernel
def L_law_B1762 (N : Nat) (xs : Nat → Int32) (rc23 : Nat → Nat → Nat → Int32 → Hp → Option (Unit)) (a1 : Nat) (a2 : Nat) (a3 : Nat) (a4 : Int32) (h : Hp) : Option Unit :=
  rc23 a1 a2 a3 (a4 + 6) h
theorem L_law_B1762_ok {N : Nat} {xs : Nat → Int32} {KB NB : Nat} (hKB2 : KB ≤ 52000) (hNB2 : NB ≤ 62000) (rc23 : Nat → Nat → Nat → Int32 → Hp → Option (Unit)) (hrc23 : ∀ (a1 : Nat) (a2 : Nat) (a3 : Nat) (a4 : Int32) (h : Hp) (k n : Nat), k ≤ KB + 10 → n ≤ NB + 10 → rc23 a1 a2 a3 a4 h = some () → Go (PL N xs) M_L_law 23 [some (.retAddr 1000), some (.ref a1), some (.ref a2), some (.ref a3), some (.int a4), none, none] [] h k n) (a1 : Nat) (a2 : Nat) (a3 : Nat) (a4 : Int32) (h : Hp) (k n : Nat) (hk : k ≤ KB + 5) (hn : n ≤ NB + 9) (H : L_law_B1762 N xs rc23 a1 a2 a3 a4 h = some ()) : Go (PL N xs) M_L_law 1762 [some (.retAddr 1000), some (.ref a1), some (.ref a2), some (.ref a3), some (.int a4), none, none] [] h k n := by
  have hkn : k ≤ 600128 ∧ n ≤ 7301098 := by omega
  unfold L_law_B1762 at H
  refine go_iinc (pc := 1762) (v := a4 + 6) (L' := [some (.retAddr 1000), some (.ref a1), some (.ref a2), some (.ref a3), some (.int (a4 + 6)), none, none]) dL_law_1762 rfl rfl (Nat.le_of_ble_eq_true rfl) rfl ?_
  refine go_goto (pc := 1765) (tgt := 23) dL_law_1765 (by decide) ?_
  exact Go.weak (L' := [some (.retAddr 1000), some (.ref a1), some (.ref a2), some (.ref a3), some (.int (a4 + 6)), none, none]) ⟨rfl, ⟨rfl, ⟨rfl, ⟨rfl, ⟨rfl, trivial⟩⟩⟩⟩⟩ (hrc23 a1 a2 a3 (a4 + 6) h (k) (n) (by omega) (by omega) H)

def L_law_B661 (N : Nat) (xs : Nat → Int32) (rc23 : Nat → Nat → Nat → Int32 → Hp → Option (Unit)) (a1 : Nat) (a2 : Nat) (a3 : Nat) (a4 : Int32) (s0 : Int32) (s1 : Nat) (s2 : Int32) (s3 : Int32) (h : Hp) : Option Unit :=
  cV h s1 11 (X11_at s1 s2 s3 h) fun v402 h401 =>
  if s0 = v402 then (
    L_law_B1762 N xs rc23 a1 a2 a3 a4 h401)
  else (
    lwR 0)
theorem L_law_B661_ok {N : Nat} {xs : Nat → Int32} {KB NB : Nat} (hKB2 : KB ≤ 52000) (hNB2 : NB ≤ 62000) (rc23 : Nat → Nat → Nat → Int32 → Hp → Option (Unit)) (hrc23 : ∀ (a1 : Nat) (a2 : Nat) (a3 : Nat) (a4 : Int32) (h : Hp) (k n : Nat), k ≤ KB + 10 → n ≤ NB + 10 → rc23 a1 a2 a3 a4 h = some () → Go (PL N xs) M_L_law 23 [some (.retAddr 1000), some (.ref a1), some (.ref a2), some (.ref a3), some (.int a4), none, none] [] h k n) (a1 : Nat) (a2 : Nat) (a3 : Nat) (a4 : Int32) (s0 : Int32) (s1 : Nat) (s2 : Int32) (s3 : Int32) (h : Hp) (k n : Nat) (hk : k ≤ KB + 5) (hn : n ≤ NB + 9) (H : L_law_B661 N xs rc23 a1 a2 a3 a4 s0 s1 s2 s3 h = some ()) : Go (PL N xs) M_L_law 661 [some (.retAddr 1000), some (.ref a1), some (.ref a2), some (.ref a3), some (.int a4), none, none] [.int s3, .int s2, .ref s1, .int s0] h k n := by
  have hkn : k ≤ 600128 ∧ n ≤ 7301098 := by omega
  unfold L_law_B661 at H
  refine go_cVi (pc := 661) (Mz := M_X11_at) (as := [.int s2, .int s3]) (a := s1) (st := [.int s0]) dL_law_661 wd_1718 cv_X11_at X11_at_ok rfl rfl ⟨Nat.le_of_ble_eq_true rfl, Nat.le_of_ble_eq_true rfl⟩ (Nat.le_of_ble_eq_true rfl) ⟨rfl, rfl⟩ hkn H (fun v402 h401 H => ?_)
  refine go_icmp_eq (pc := 664) (tgt := 1762) dL_law_664 (by decide) H (fun H => ?_) (fun H => ?_)
  · exact Go.weak (L' := [some (.retAddr 1000), some (.ref a1), some (.ref a2), some (.ref a3), some (.int a4), none, none]) ⟨rfl, ⟨rfl, ⟨rfl, ⟨rfl, ⟨rfl, trivial⟩⟩⟩⟩⟩ (L_law_B1762_ok hKB2 hNB2 _ hrc23 a1 a2 a3 a4 h401 (k) (n) (by omega) (by omega) H)
  · refine go_iconst (pc := 667) (v := 0) dL_law_667 (by decide) ?_
    exact go_lawret (pc := 668) dL_law_668 hkn H

def L_law_B637 (N : Nat) (xs : Nat → Int32) (rc23 : Nat → Nat → Nat → Int32 → Hp → Option (Unit)) (a1 : Nat) (a2 : Nat) (a3 : Nat) (a4 : Int32) (s0 : Nat) (s1 : Int32) (s2 : Int32) (h : Hp) : Option Unit :=
  cV h s0 10 (X10_at s0 s1 s2 h) fun v302 h301 =>
  (xA N xs (a4 + 1)).bind fun v303 =>
  (xA N xs (a4 + 2)).bind fun v304 =>
  if v304 = 0 then (
    L_law_B661 N xs rc23 a1 a2 a3 a4 v302 a2 v303 0 h301)
  else (
    L_law_B661 N xs rc23 a1 a2 a3 a4 v302 a2 v303 1 h301)
theorem L_law_B637_ok {N : Nat} {xs : Nat → Int32} {KB NB : Nat} (hKB2 : KB ≤ 52000) (hNB2 : NB ≤ 62000) (rc23 : Nat → Nat → Nat → Int32 → Hp → Option (Unit)) (hrc23 : ∀ (a1 : Nat) (a2 : Nat) (a3 : Nat) (a4 : Int32) (h : Hp) (k n : Nat), k ≤ KB + 10 → n ≤ NB + 10 → rc23 a1 a2 a3 a4 h = some () → Go (PL N xs) M_L_law 23 [some (.retAddr 1000), some (.ref a1), some (.ref a2), some (.ref a3), some (.int a4), none, none] [] h k n) (a1 : Nat) (a2 : Nat) (a3 : Nat) (a4 : Int32) (s0 : Nat) (s1 : Int32) (s2 : Int32) (h : Hp) (k n : Nat) (hk : k ≤ KB + 5) (hn : n ≤ NB + 9) (H : L_law_B637 N xs rc23 a1 a2 a3 a4 s0 s1 s2 h = some ()) : Go (PL N xs) M_L_law 637 [some (.retAddr 1000), some (.ref a1), some (.ref a2), some (.ref a3), some (.int a4), none, none] [.int s2, .int s1, .ref s0] h k n := by
  have hkn : k ≤ 600128 ∧ n ≤ 7301098 := by omega
  unfold L_law_B637 at H
  refine go_cVi (pc := 637) (Mz := M_X10_at) (as := [.int s1, .int s2]) (a := s0) (st := []) dL_law_637 wd_839 cv_X10_at X10_at_ok rfl rfl ⟨Nat.le_of_ble_eq_true rfl, Nat.le_of_ble_eq_true rfl⟩ (Nat.le_of_ble_eq_true rfl) ⟨rfl, rfl⟩ hkn H (fun v302 h301 H => ?_)
  refine go_aload_n (pc := 640) dL_law_640 rfl rfl ?_
  refine go_aload_nS (pc := 641) dL_law_641 rfl rfl ?_
  refine go_iload (pc := 642) dL_law_642 rfl ?_
  refine go_iconst (pc := 644) (v := 1) dL_law_644 (by decide) ?_
  refine go_iadd (pc := 645) dL_law_645 ?_
  refine go_xld (pc := 646) dL_law_646 H (fun v303 H => ?_)
  refine go_aload_nS (pc := 647) dL_law_647 rfl rfl ?_
  refine go_iload (pc := 648) dL_law_648 rfl ?_
  refine go_iconst (pc := 650) (v := 2) dL_law_650 (by decide) ?_
  refine go_iadd (pc := 651) dL_law_651 ?_
  refine go_xld (pc := 652) dL_law_652 H (fun v304 H => ?_)
  refine go_if_eq (pc := 653) (tgt := 660) dL_law_653 (by decide) H (fun H => ?_) (fun H => ?_)
  · refine go_iconst (pc := 660) (v := 0) dL_law_660 (by decide) ?_
    exact Go.weak (L' := [some (.retAddr 1000), some (.ref a1), some (.ref a2), some (.ref a3), some (.int a4), none, none]) ⟨rfl, ⟨rfl, ⟨rfl, ⟨rfl, ⟨rfl, trivial⟩⟩⟩⟩⟩ (L_law_B661_ok hKB2 hNB2 _ hrc23 a1 a2 a3 a4 v302 a2 v303 0 h301 (k) (n) (by omega) (by omega) H)
  · refine go_iconst (pc := 656) (v := 1) dL_law_656 (by decide) ?_
    refine go_goto (pc := 657) (tgt := 661) dL_law_657 (by decide) ?_
    exact Go.weak (L' := [some (.retAddr 1000), some (.ref a1), some (.ref a2), some (.ref a3), some (.int a4), none, none]) ⟨rfl, ⟨rfl, ⟨rfl, ⟨rfl, ⟨rfl, trivial⟩⟩⟩⟩⟩ (L_law_B661_ok hKB2 hNB2 _ hrc23 a1 a2 a3 a4 v302 a2 v303 1 h301 (k) (n) (by omega) (by omega) H)

def L_law_B714 (N : Nat) (xs : Nat → Int32) (rc23 : Nat → Nat → Nat → Int32 → Hp → Option (Unit)) (a1 : Nat) (a2 : Nat) (a3 : Nat) (a4 : Int32) (s0 : Int32) (s1 : Nat) (s2 : Int32) (s3 : Int32) (h : Hp) : Option Unit :=
  cV h s1 11 (X11_thought s1 s2 s3 h) fun v602 h601 =>
  if s0 = v602 then (
    L_law_B1762 N xs rc23 a1 a2 a3 a4 h601)
  else (
    lwR 0)
theorem L_law_B714_ok {N : Nat} {xs : Nat → Int32} {KB NB : Nat} (hKB2 : KB ≤ 52000) (hNB2 : NB ≤ 62000) (rc23 : Nat → Nat → Nat → Int32 → Hp → Option (Unit)) (hrc23 : ∀ (a1 : Nat) (a2 : Nat) (a3 : Nat) (a4 : Int32) (h : Hp) (k n : Nat), k ≤ KB + 10 → n ≤ NB + 10 → rc23 a1 a2 a3 a4 h = some () → Go (PL N xs) M_L_law 23 [some (.retAddr 1000), some (.ref a1), some (.ref a2), some (.ref a3), some (.int a4), none, none] [] h k n) (a1 : Nat) (a2 : Nat) (a3 : Nat) (a4 : Int32) (s0 : Int32) (s1 : Nat) (s2 : Int32) (s3 : Int32) (h : Hp) (k n : Nat) (hk : k ≤ KB + 5) (hn : n ≤ NB + 9) (H : L_law_B714 N xs rc23 a1 a2 a3 a4 s0 s1 s2 s3 h = some ()) : Go (PL N xs) M_L_law 714 [some (.retAddr 1000), some (.ref a1), some (.ref a2), some (.ref a3), some (.int a4), none, none] [.int s3, .int s2, .ref s1, .int s0] h k n := by
  have hkn : k ≤ 600128 ∧ n ≤ 7301098 := by omega
  unfold L_law_B714 at H
  refine go_cVi (pc := 714) (Mz := M_X11_thought) (as := [.int s2, .int s3]) (a := s1) (st := [.int s0]) dL_law_714 wd_1723 cv_X11_thought X11_thought_ok rfl rfl ⟨Nat.le_of_ble_eq_true rfl, Nat.le_of_ble_eq_true rfl⟩ (Nat.le_of_ble_eq_true rfl) ⟨rfl, rfl⟩ hkn H (fun v602 h601 H => ?_)
  refine go_icmp_eq (pc := 717) (tgt := 1762) dL_law_717 (by decide) H (fun H => ?_) (fun H => ?_)
  · exact Go.weak (L' := [some (.retAddr 1000), some (.ref a1), some (.ref a2), some (.ref a3), some (.int a4), none, none]) ⟨rfl, ⟨rfl, ⟨rfl, ⟨rfl, ⟨rfl, trivial⟩⟩⟩⟩⟩ (L_law_B1762_ok hKB2 hNB2 _ hrc23 a1 a2 a3 a4 h601 (k) (n) (by omega) (by omega) H)
  · refine go_iconst (pc := 720) (v := 0) dL_law_720 (by decide) ?_
    exact go_lawret (pc := 721) dL_law_721 hkn H

def L_law_B690 (N : Nat) (xs : Nat → Int32) (rc23 : Nat → Nat → Nat → Int32 → Hp → Option (Unit)) (a1 : Nat) (a2 : Nat) (a3 : Nat) (a4 : Int32) (s0 : Nat) (s1 : Int32) (s2 : Int32) (h : Hp) : Option Unit :=
  cV h s0 10 (X10_thought s0 s1 s2 h) fun v502 h501 =>
  (xA N xs (a4 + 1)).bind fun v503 =>
  (xA N xs (a4 + 2)).bind fun v504 =>
  if v504 = 0 then (
    L_law_B714 N xs rc23 a1 a2 a3 a4 v502 a2 v503 0 h501)
  else (
    L_law_B714 N xs rc23 a1 a2 a3 a4 v502 a2 v503 1 h501)
theorem L_law_B690_ok {N : Nat} {xs : Nat → Int32} {KB NB : Nat} (hKB2 : KB ≤ 52000) (hNB2 : NB ≤ 62000) (rc23 : Nat → Nat → Nat → Int32 → Hp → Option (Unit)) (hrc23 : ∀ (a1 : Nat) (a2 : Nat) (a3 : Nat) (a4 : Int32) (h : Hp) (k n : Nat), k ≤ KB + 10 → n ≤ NB + 10 → rc23 a1 a2 a3 a4 h = some () → Go (PL N xs) M_L_law 23 [some (.retAddr 1000), some (.ref a1), some (.ref a2), some (.ref a3), some (.int a4), none, none] [] h k n) (a1 : Nat) (a2 : Nat) (a3 : Nat) (a4 : Int32) (s0 : Nat) (s1 : Int32) (s2 : Int32) (h : Hp) (k n : Nat) (hk : k ≤ KB + 5) (hn : n ≤ NB + 9) (H : L_law_B690 N xs rc23 a1 a2 a3 a4 s0 s1 s2 h = some ()) : Go (PL N xs) M_L_law 690 [some (.retAddr 1000), some (.ref a1), some (.ref a2), some (.ref a3), some (.int a4), none, none] [.int s2, .int s1, .ref s0] h k n := by
  have hkn : k ≤ 600128 ∧ n ≤ 7301098 := by omega
  unfold L_law_B690 at H
  refine go_cVi (pc := 690) (Mz := M_X10_thought) (as := [.int s1, .int s2]) (a := s0) (st := []) dL_law_690 wd_869 cv_X10_thought X10_thought_ok rfl rfl ⟨Nat.le_of_ble_eq_true rfl, Nat.le_of_ble_eq_true rfl⟩ (Nat.le_of_ble_eq_true rfl) ⟨rfl, rfl⟩ hkn H (fun v502 h501 H => ?_)
  refine go_aload_n (pc := 693) dL_law_693 rfl rfl ?_
  refine go_aload_nS (pc := 694) dL_law_694 rfl rfl ?_
  refine go_iload (pc := 695) dL_law_695 rfl ?_
  refine go_iconst (pc := 697) (v := 1) dL_law_697 (by decide) ?_
  refine go_iadd (pc := 698) dL_law_698 ?_
  refine go_xld (pc := 699) dL_law_699 H (fun v503 H => ?_)
  refine go_aload_nS (pc := 700) dL_law_700 rfl rfl ?_
  refine go_iload (pc := 701) dL_law_701 rfl ?_
  refine go_iconst (pc := 703) (v := 2) dL_law_703 (by decide) ?_
  refine go_iadd (pc := 704) dL_law_704 ?_
  refine go_xld (pc := 705) dL_law_705 H (fun v504 H => ?_)
  refine go_if_eq (pc := 706) (tgt := 713) dL_law_706 (by decide) H (fun H => ?_) (fun H => ?_)
  · refine go_iconst (pc := 713) (v := 0) dL_law_713 (by decide) ?_
    exact Go.weak (L' := [some (.retAddr 1000), some (.ref a1), some (.ref a2), some (.ref a3), some (.int a4), none, none]) ⟨rfl, ⟨rfl, ⟨rfl, ⟨rfl, ⟨rfl, trivial⟩⟩⟩⟩⟩ (L_law_B714_ok hKB2 hNB2 _ hrc23 a1 a2 a3 a4 v502 a2 v503 0 h501 (k) (n) (by omega) (by omega) H)
  · refine go_iconst (pc := 709) (v := 1) dL_law_709 (by decide) ?_
    refine go_goto (pc := 710) (tgt := 714) dL_law_710 (by decide) ?_
    exact Go.weak (L' := [some (.retAddr 1000), some (.ref a1), some (.ref a2), some (.ref a3), some (.int a4), none, none]) ⟨rfl, ⟨rfl, ⟨rfl, ⟨rfl, ⟨rfl, trivial⟩⟩⟩⟩⟩ (L_law_B714_ok hKB2 hNB2 _ hrc23 a1 a2 a3 a4 v502 a2 v503 1 h501 (k) (n) (by omega) (by omega) H)

def L_law_B1172 (N : Nat) (xs : Nat → Int32) (rc23 : Nat → Nat → Nat → Int32 → Hp → Option (Unit)) (a1 : Nat) (a2 : Nat) (a3 : Nat) (a4 : Int32) (s0 : Int64) (s1 : Nat) (s2 : Int32) (s3 : Int32) (s4 : Int32) (h : Hp) : Option Unit :=
  cV h s1 11 (X11_odds s1 s2 s3 s4 h) fun v802 h801 =>
  if (lg_cmp s0 v802) = 0 then (
    L_law_B1762 N xs rc23 a1 a2 a3 a4 h801)
  else (
    lwR 0)
theorem L_law_B1172_ok {N : Nat} {xs : Nat → Int32} {KB NB : Nat} (hKB2 : KB ≤ 52000) (hNB2 : NB ≤ 62000) (rc23 : Nat → Nat → Nat → Int32 → Hp → Option (Unit)) (hrc23 : ∀ (a1 : Nat) (a2 : Nat) (a3 : Nat) (a4 : Int32) (h : Hp) (k n : Nat), k ≤ KB + 10 → n ≤ NB + 10 → rc23 a1 a2 a3 a4 h = some () → Go (PL N xs) M_L_law 23 [some (.retAddr 1000), some (.ref a1), some (.ref a2), some (.ref a3), some (.int a4), none, none] [] h k n) (a1 : Nat) (a2 : Nat) (a3 : Nat) (a4 : Int32) (s0 : Int64) (s1 : Nat) (s2 : Int32) (s3 : Int32) (s4 : Int32) (h : Hp) (k n : Nat) (hk : k ≤ KB + 5) (hn : n ≤ NB + 9) (H : L_law_B1172 N xs rc23 a1 a2 a3 a4 s0 s1 s2 s3 s4 h = some ()) : Go (PL N xs) M_L_law 1172 [some (.retAddr 1000), some (.ref a1), some (.ref a2), some (.ref a3), some (.int a4), none, none] [.int s4, .int s3, .int s2, .ref s1, .long s0] h k n := by
  have hkn : k ≤ 600128 ∧ n ≤ 7301098 := by omega
  unfold L_law_B1172 at H
  refine go_cVl (pc := 1172) (Mz := M_X11_odds) (as := [.int s2, .int s3, .int s4]) (a := s1) (st := [.long s0]) dL_law_1172 wd_1880 cv_X11_odds X11_odds_ok rfl rfl ⟨Nat.le_of_ble_eq_true rfl, Nat.le_of_ble_eq_true rfl⟩ (Nat.le_of_ble_eq_true rfl) ⟨rfl, rfl⟩ hkn H (fun v802 h801 H => ?_)
  refine go_lcmp (pc := 1175) dL_law_1175 ?_
  refine go_if_eq (pc := 1176) (tgt := 1762) dL_law_1176 (by decide) H (fun H => ?_) (fun H => ?_)
  · exact Go.weak (L' := [some (.retAddr 1000), some (.ref a1), some (.ref a2), some (.ref a3), some (.int a4), none, none]) ⟨rfl, ⟨rfl, ⟨rfl, ⟨rfl, ⟨rfl, trivial⟩⟩⟩⟩⟩ (L_law_B1762_ok hKB2 hNB2 _ hrc23 a1 a2 a3 a4 h801 (k) (n) (by omega) (by omega) H)
  · refine go_iconst (pc := 1179) (v := 0) dL_law_1179 (by decide) ?_
    exact go_lawret (pc := 1180) dL_law_1180 hkn H

def L_law_B1142 (N : Nat) (xs : Nat → Int32) (rc23 : Nat → Nat → Nat → Int32 → Hp → Option (Unit)) (a1 : Nat) (a2 : Nat) (a3 : Nat) (a4 : Int32) (s0 : Nat) (s1 : Int32) (s2 : Int32) (s3 : Int32) (h : Hp) : Option Unit :=
  cV h s0 10 (X10_odds s0 s1 s2 s3 h) fun v702 h701 =>
  (xA N xs (a4 + 1)).bind fun v703 =>
  (xA N xs (a4 + 2)).bind fun v704 =>
  (xA N xs (a4 + 3)).bind fun v705 =>
  if v705 = 0 then (
    L_law_B1172 N xs rc23 a1 a2 a3 a4 v702 a2 v703 v704 0 h701)
  else (
    L_law_B1172 N xs rc23 a1 a2 a3 a4 v702 a2 v703 v704 1 h701)
theorem L_law_B1142_ok {N : Nat} {xs : Nat → Int32} {KB NB : Nat} (hKB2 : KB ≤ 52000) (hNB2 : NB ≤ 62000) (rc23 : Nat → Nat → Nat → Int32 → Hp → Option (Unit)) (hrc23 : ∀ (a1 : Nat) (a2 : Nat) (a3 : Nat) (a4 : Int32) (h : Hp) (k n : Nat), k ≤ KB + 10 → n ≤ NB + 10 → rc23 a1 a2 a3 a4 h = some () → Go (PL N xs) M_L_law 23 [some (.retAddr 1000), some (.ref a1), some (.ref a2), some (.ref a3), some (.int a4), none, none] [] h k n) (a1 : Nat) (a2 : Nat) (a3 : Nat) (a4 : Int32) (s0 : Nat) (s1 : Int32) (s2 : Int32) (s3 : Int32) (h : Hp) (k n : Nat) (hk : k ≤ KB + 5) (hn : n ≤ NB + 9) (H : L_law_B1142 N xs rc23 a1 a2 a3 a4 s0 s1 s2 s3 h = some ()) : Go (PL N xs) M_L_law 1142 [some (.retAddr 1000), some (.ref a1), some (.ref a2), some (.ref a3), some (.int a4), none, none] [.int s3, .int s2, .int s1, .ref s0] h k n := by
  have hkn : k ≤ 600128 ∧ n ≤ 7301098 := by omega
  unfold L_law_B1142 at H
  refine go_cVl (pc := 1142) (Mz := M_X10_odds) (as := [.int s1, .int s2, .int s3]) (a := s0) (st := []) dL_law_1142 wd_1104 cv_X10_odds X10_odds_ok rfl rfl ⟨Nat.le_of_ble_eq_true rfl, Nat.le_of_ble_eq_true rfl⟩ (Nat.le_of_ble_eq_true rfl) ⟨rfl, rfl⟩ hkn H (fun v702 h701 H => ?_)
  refine go_aload_n (pc := 1145) dL_law_1145 rfl rfl ?_
  refine go_aload_nS (pc := 1146) dL_law_1146 rfl rfl ?_
  refine go_iload (pc := 1147) dL_law_1147 rfl ?_
  refine go_iconst (pc := 1149) (v := 1) dL_law_1149 (by decide) ?_
  refine go_iadd (pc := 1150) dL_law_1150 ?_
  refine go_xld (pc := 1151) dL_law_1151 H (fun v703 H => ?_)
  refine go_aload_nS (pc := 1152) dL_law_1152 rfl rfl ?_
  refine go_iload (pc := 1153) dL_law_1153 rfl ?_
  refine go_iconst (pc := 1155) (v := 2) dL_law_1155 (by decide) ?_
  refine go_iadd (pc := 1156) dL_law_1156 ?_
  refine go_xld (pc := 1157) dL_law_1157 H (fun v704 H => ?_)
  refine go_aload_nS (pc := 1158) dL_law_1158 rfl rfl ?_
  refine go_iload (pc := 1159) dL_law_1159 rfl ?_
  refine go_iconst (pc := 1161) (v := 3) dL_law_1161 (by decide) ?_
  refine go_iadd (pc := 1162) dL_law_1162 ?_
  refine go_xld (pc := 1163) dL_law_1163 H (fun v705 H => ?_)
  refine go_if_eq (pc := 1164) (tgt := 1171) dL_law_1164 (by decide) H (fun H => ?_) (fun H => ?_)
  · refine go_iconst (pc := 1171) (v := 0) dL_law_1171 (by decide) ?_
    exact Go.weak (L' := [some (.retAddr 1000), some (.ref a1), some (.ref a2), some (.ref a3), some (.int a4), none, none]) ⟨rfl, ⟨rfl, ⟨rfl, ⟨rfl, ⟨rfl, trivial⟩⟩⟩⟩⟩ (L_law_B1172_ok hKB2 hNB2 _ hrc23 a1 a2 a3 a4 v702 a2 v703 v704 0 h701 (k) (n) (by omega) (by omega) H)
  · refine go_iconst (pc := 1167) (v := 1) dL_law_1167 (by decide) ?_
    refine go_goto (pc := 1168) (tgt := 1172) dL_law_1168 (by decide) ?_
    exact Go.weak (L' := [some (.retAddr 1000), some (.ref a1), some (.ref a2), some (.ref a3), some (.int a4), none, none]) ⟨rfl, ⟨rfl, ⟨rfl, ⟨rfl, ⟨rfl, trivial⟩⟩⟩⟩⟩ (L_law_B1172_ok hKB2 hNB2 _ hrc23 a1 a2 a3 a4 v702 a2 v703 v704 1 h701 (k) (n) (by omega) (by omega) H)

def L_law_B1226 (N : Nat) (xs : Nat → Int32) (rc23 : Nat → Nat → Nat → Int32 → Hp → Option (Unit)) (a1 : Nat) (a2 : Nat) (a3 : Nat) (a4 : Int32) (s0 : Int64) (s1 : Nat) (s2 : Int32) (s3 : Int32) (h : Hp) : Option Unit :=
  cV h s1 11 (X11_mean s1 s2 s3 h) fun v1002 h1001 =>
  if (lg_cmp s0 v1002) = 0 then (
    L_law_B1762 N xs rc23 a1 a2 a3 a4 h1001)
  else (
    lwR 0)
theorem L_law_B1226_ok {N : Nat} {xs : Nat → Int32} {KB NB : Nat} (hKB2 : KB ≤ 52000) (hNB2 : NB ≤ 62000) (rc23 : Nat → Nat → Nat → Int32 → Hp → Option (Unit)) (hrc23 : ∀ (a1 : Nat) (a2 : Nat) (a3 : Nat) (a4 : Int32) (h : Hp) (k n : Nat), k ≤ KB + 10 → n ≤ NB + 10 → rc23 a1 a2 a3 a4 h = some () → Go (PL N xs) M_L_law 23 [some (.retAddr 1000), some (.ref a1), some (.ref a2), some (.ref a3), some (.int a4), none, none] [] h k n) (a1 : Nat) (a2 : Nat) (a3 : Nat) (a4 : Int32) (s0 : Int64) (s1 : Nat) (s2 : Int32) (s3 : Int32) (h : Hp) (k n : Nat) (hk : k ≤ KB + 5) (hn : n ≤ NB + 9) (H : L_law_B1226 N xs rc23 a1 a2 a3 a4 s0 s1 s2 s3 h = some ()) : Go (PL N xs) M_L_law 1226 [some (.retAddr 1000), some (.ref a1), some (.ref a2), some (.ref a3), some (.int a4), none, none] [.int s3, .int s2, .ref s1, .long s0] h k n := by
  have hkn : k ≤ 600128 ∧ n ≤ 7301098 := by omega
  unfold L_law_B1226 at H
  refine go_cVl (pc := 1226) (Mz := M_X11_mean) (as := [.int s2, .int s3]) (a := s1) (st := [.long s0]) dL_law_1226 wd_1891 cv_X11_mean X11_mean_ok rfl rfl ⟨Nat.le_of_ble_eq_true rfl, Nat.le_of_ble_eq_true rfl⟩ (Nat.le_of_ble_eq_true rfl) ⟨rfl, rfl⟩ hkn H (fun v1002 h1001 H => ?_)
  refine go_lcmp (pc := 1229) dL_law_1229 ?_
  refine go_if_eq (pc := 1230) (tgt := 1762) dL_law_1230 (by decide) H (fun H => ?_) (fun H => ?_)
  · exact Go.weak (L' := [some (.retAddr 1000), some (.ref a1), some (.ref a2), some (.ref a3), some (.int a4), none, none]) ⟨rfl, ⟨rfl, ⟨rfl, ⟨rfl, ⟨rfl, trivial⟩⟩⟩⟩⟩ (L_law_B1762_ok hKB2 hNB2 _ hrc23 a1 a2 a3 a4 h1001 (k) (n) (by omega) (by omega) H)
  · refine go_iconst (pc := 1233) (v := 0) dL_law_1233 (by decide) ?_
    exact go_lawret (pc := 1234) dL_law_1234 hkn H

def L_law_B1202 (N : Nat) (xs : Nat → Int32) (rc23 : Nat → Nat → Nat → Int32 → Hp → Option (Unit)) (a1 : Nat) (a2 : Nat) (a3 : Nat) (a4 : Int32) (s0 : Nat) (s1 : Int32) (s2 : Int32) (h : Hp) : Option Unit :=
  cV h s0 10 (X10_mean s0 s1 s2 h) fun v902 h901 =>
  (xA N xs (a4 + 1)).bind fun v903 =>
  (xA N xs (a4 + 2)).bind fun v904 =>
  if v904 = 0 then (
    L_law_B1226 N xs rc23 a1 a2 a3 a4 v902 a2 v903 0 h901)
  else (
    L_law_B1226 N xs rc23 a1 a2 a3 a4 v902 a2 v903 1 h901)
theorem L_law_B1202_ok {N : Nat} {xs : Nat → Int32} {KB NB : Nat} (hKB2 : KB ≤ 52000) (hNB2 : NB ≤ 62000) (rc23 : Nat → Nat → Nat → Int32 → Hp → Option (Unit)) (hrc23 : ∀ (a1 : Nat) (a2 : Nat) (a3 : Nat) (a4 : Int32) (h : Hp) (k n : Nat), k ≤ KB + 10 → n ≤ NB + 10 → rc23 a1 a2 a3 a4 h = some () → Go (PL N xs) M_L_law 23 [some (.retAddr 1000), some (.ref a1), some (.ref a2), some (.ref a3), some (.int a4), none, none] [] h k n) (a1 : Nat) (a2 : Nat) (a3 : Nat) (a4 : Int32) (s0 : Nat) (s1 : Int32) (s2 : Int32) (h : Hp) (k n : Nat) (hk : k ≤ KB + 5) (hn : n ≤ NB + 9) (H : L_law_B1202 N xs rc23 a1 a2 a3 a4 s0 s1 s2 h = some ()) : Go (PL N xs) M_L_law 1202 [some (.retAddr 1000), some (.ref a1), some (.ref a2), some (.ref a3), some (.int a4), none, none] [.int s2, .int s1, .ref s0] h k n := by
  have hkn : k ≤ 600128 ∧ n ≤ 7301098 := by omega
  unfold L_law_B1202 at H
  refine go_cVl (pc := 1202) (Mz := M_X10_mean) (as := [.int s1, .int s2]) (a := s0) (st := []) dL_law_1202 wd_1133 cv_X10_mean X10_mean_ok rfl rfl ⟨Nat.le_of_ble_eq_true rfl, Nat.le_of_ble_eq_true rfl⟩ (Nat.le_of_ble_eq_true rfl) ⟨rfl, rfl⟩ hkn H (fun v902 h901 H => ?_)
  refine go_aload_n (pc := 1205) dL_law_1205 rfl rfl ?_
  refine go_aload_nS (pc := 1206) dL_law_1206 rfl rfl ?_
  refine go_iload (pc := 1207) dL_law_1207 rfl ?_
  refine go_iconst (pc := 1209) (v := 1) dL_law_1209 (by decide) ?_
  refine go_iadd (pc := 1210) dL_law_1210 ?_
  refine go_xld (pc := 1211) dL_law_1211 H (fun v903 H => ?_)
  refine go_aload_nS (pc := 1212) dL_law_1212 rfl rfl ?_
  refine go_iload (pc := 1213) dL_law_1213 rfl ?_
  refine go_iconst (pc := 1215) (v := 2) dL_law_1215 (by decide) ?_
  refine go_iadd (pc := 1216) dL_law_1216 ?_
  refine go_xld (pc := 1217) dL_law_1217 H (fun v904 H => ?_)
  refine go_if_eq (pc := 1218) (tgt := 1225) dL_law_1218 (by decide) H (fun H => ?_) (fun H => ?_)
  · refine go_iconst (pc := 1225) (v := 0) dL_law_1225 (by decide) ?_
    exact Go.weak (L' := [some (.retAddr 1000), some (.ref a1), some (.ref a2), some (.ref a3), some (.int a4), none, none]) ⟨rfl, ⟨rfl, ⟨rfl, ⟨rfl, ⟨rfl, trivial⟩⟩⟩⟩⟩ (L_law_B1226_ok hKB2 hNB2 _ hrc23 a1 a2 a3 a4 v902 a2 v903 0 h901 (k) (n) (by omega) (by omega) H)
  · refine go_iconst (pc := 1221) (v := 1) dL_law_1221 (by decide) ?_
    refine go_goto (pc := 1222) (tgt := 1226) dL_law_1222 (by decide) ?_
    exact Go.weak (L' := [some (.retAddr 1000), some (.ref a1), some (.ref a2), some (.ref a3), some (.int a4), none, none]) ⟨rfl, ⟨rfl, ⟨rfl, ⟨rfl, ⟨rfl, trivial⟩⟩⟩⟩⟩ (L_law_B1226_ok hKB2 hNB2 _ hrc23 a1 a2 a3 a4 v902 a2 v903 1 h901 (k) (n) (by omega) (by omega) H)

def L_law_B1349 (N : Nat) (xs : Nat → Int32) (rc23 : Nat → Nat → Nat → Int32 → Hp → Option (Unit)) (a1 : Nat) (a2 : Nat) (a3 : Nat) (a4 : Int32) (s0 : Int32) (s1 : Nat) (s2 : Int32) (s3 : Int32) (s4 : Int32) (s5 : Int32) (h : Hp) : Option Unit :=
  cV h s1 11 (X11_steals s1 s2 s3 s4 s5 h) fun v1602 h1601 =>
  if s0 = v1602 then (
    L_law_B1762 N xs rc23 a1 a2 a3 a4 h1601)
  else (
    lwR 0)
theorem L_law_B1349_ok {N : Nat} {xs : Nat → Int32} {KB NB : Nat} (hKB2 : KB ≤ 52000) (hNB2 : NB ≤ 62000) (rc23 : Nat → Nat → Nat → Int32 → Hp → Option (Unit)) (hrc23 : ∀ (a1 : Nat) (a2 : Nat) (a3 : Nat) (a4 : Int32) (h : Hp) (k n : Nat), k ≤ KB + 10 → n ≤ NB + 10 → rc23 a1 a2 a3 a4 h = some () → Go (PL N xs) M_L_law 23 [some (.retAddr 1000), some (.ref a1), some (.ref a2), some (.ref a3), some (.int a4), none, none] [] h k n) (a1 : Nat) (a2 : Nat) (a3 : Nat) (a4 : Int32) (s0 : Int32) (s1 : Nat) (s2 : Int32) (s3 : Int32) (s4 : Int32) (s5 : Int32) (h : Hp) (k n : Nat) (hk : k ≤ KB + 5) (hn : n ≤ NB + 9) (H : L_law_B1349 N xs rc23 a1 a2 a3 a4 s0 s1 s2 s3 s4 s5 h = some ()) : Go (PL N xs) M_L_law 1349 [some (.retAddr 1000), some (.ref a1), some (.ref a2), some (.ref a3), some (.int a4), none, none] [.int s5, .int s4, .int s3, .int s2, .ref s1, .int s0] h k n := by
  have hkn : k ≤ 600128 ∧ n ≤ 7301098 := by omega
  unfold L_law_B1349 at H
  refine go_cVi (pc := 1349) (Mz := M_X11_steals) (as := [.int s2, .int s3, .int s4, .int s5]) (a := s1) (st := [.int s0]) dL_law_1349 wd_1903 cv_X11_steals X11_steals_ok rfl rfl ⟨Nat.le_of_ble_eq_true rfl, Nat.le_of_ble_eq_true rfl⟩ (Nat.le_of_ble_eq_true rfl) ⟨rfl, rfl⟩ hkn H (fun v1602 h1601 H => ?_)
  refine go_icmp_eq (pc := 1352) (tgt := 1762) dL_law_1352 (by decide) H (fun H => ?_) (fun H => ?_)
  · exact Go.weak (L' := [some (.retAddr 1000), some (.ref a1), some (.ref a2), some (.ref a3), some (.int a4), none, none]) ⟨rfl, ⟨rfl, ⟨rfl, ⟨rfl, ⟨rfl, trivial⟩⟩⟩⟩⟩ (L_law_B1762_ok hKB2 hNB2 _ hrc23 a1 a2 a3 a4 h1601 (k) (n) (by omega) (by omega) H)
  · refine go_iconst (pc := 1355) (v := 0) dL_law_1355 (by decide) ?_
    exact go_lawret (pc := 1356) dL_law_1356 hkn H

def L_law_B1335 (N : Nat) (xs : Nat → Int32) (rc23 : Nat → Nat → Nat → Int32 → Hp → Option (Unit)) (a1 : Nat) (a2 : Nat) (a3 : Nat) (a4 : Int32) (s0 : Int32) (s1 : Nat) (s2 : Int32) (s3 : Int32) (s4 : Int32) (h : Hp) : Option Unit :=
  (xA N xs (a4 + 4)).bind fun v1501 =>
  if v1501 = 0 then (
    L_law_B1349 N xs rc23 a1 a2 a3 a4 s0 s1 s2 s3 s4 0 h)
  else (
    L_law_B1349 N xs rc23 a1 a2 a3 a4 s0 s1 s2 s3 s4 1 h)
theorem L_law_B1335_ok {N : Nat} {xs : Nat → Int32} {KB NB : Nat} (hKB2 : KB ≤ 52000) (hNB2 : NB ≤ 62000) (rc23 : Nat → Nat → Nat → Int32 → Hp → Option (Unit)) (hrc23 : ∀ (a1 : Nat) (a2 : Nat) (a3 : Nat) (a4 : Int32) (h : Hp) (k n : Nat), k ≤ KB + 10 → n ≤ NB + 10 → rc23 a1 a2 a3 a4 h = some () → Go (PL N xs) M_L_law 23 [some (.retAddr 1000), some (.ref a1), some (.ref a2), some (.ref a3), some (.int a4), none, none] [] h k n) (a1 : Nat) (a2 : Nat) (a3 : Nat) (a4 : Int32) (s0 : Int32) (s1 : Nat) (s2 : Int32) (s3 : Int32) (s4 : Int32) (h : Hp) (k n : Nat) (hk : k ≤ KB + 5) (hn : n ≤ NB + 9) (H : L_law_B1335 N xs rc23 a1 a2 a3 a4 s0 s1 s2 s3 s4 h = some ()) : Go (PL N xs) M_L_law 1335 [some (.retAddr 1000), some (.ref a1), some (.ref a2), some (.ref a3), some (.int a4), none, none] [.int s4, .int s3, .int s2, .ref s1, .int s0] h k n := by
  have hkn : k ≤ 600128 ∧ n ≤ 7301098 := by omega
  unfold L_law_B1335 at H
  refine go_aload_nS (pc := 1335) dL_law_1335 rfl rfl ?_
  refine go_iload (pc := 1336) dL_law_1336 rfl ?_
  refine go_iconst (pc := 1338) (v := 4) dL_law_1338 (by decide) ?_
  refine go_iadd (pc := 1339) dL_law_1339 ?_
  refine go_xld (pc := 1340) dL_law_1340 H (fun v1501 H => ?_)
  refine go_if_eq (pc := 1341) (tgt := 1348) dL_law_1341 (by decide) H (fun H => ?_) (fun H => ?_)
  · refine go_iconst (pc := 1348) (v := 0) dL_law_1348 (by decide) ?_
    exact Go.weak (L' := [some (.retAddr 1000), some (.ref a1), some (.ref a2), some (.ref a3), some (.int a4), none, none]) ⟨rfl, ⟨rfl, ⟨rfl, ⟨rfl, ⟨rfl, trivial⟩⟩⟩⟩⟩ (L_law_B1349_ok hKB2 hNB2 _ hrc23 a1 a2 a3 a4 s0 s1 s2 s3 s4 0 h (k) (n) (by omega) (by omega) H)
  · refine go_iconst (pc := 1344) (v := 1) dL_law_1344 (by decide) ?_
    refine go_goto (pc := 1345) (tgt := 1349) dL_law_1345 (by decide) ?_
    exact Go.weak (L' := [some (.retAddr 1000), some (.ref a1), some (.ref a2), some (.ref a3), some (.int a4), none, none]) ⟨rfl, ⟨rfl, ⟨rfl, ⟨rfl, ⟨rfl, trivial⟩⟩⟩⟩⟩ (L_law_B1349_ok hKB2 hNB2 _ hrc23 a1 a2 a3 a4 s0 s1 s2 s3 s4 1 h (k) (n) (by omega) (by omega) H)

def L_law_B1321 (N : Nat) (xs : Nat → Int32) (rc23 : Nat → Nat → Nat → Int32 → Hp → Option (Unit)) (a1 : Nat) (a2 : Nat) (a3 : Nat) (a4 : Int32) (s0 : Int32) (s1 : Nat) (s2 : Int32) (s3 : Int32) (h : Hp) : Option Unit :=
  (xA N xs (a4 + 3)).bind fun v1401 =>
  if v1401 = 0 then (
    L_law_B1335 N xs rc23 a1 a2 a3 a4 s0 s1 s2 s3 0 h)
  else (
    L_law_B1335 N xs rc23 a1 a2 a3 a4 s0 s1 s2 s3 1 h)
theorem L_law_B1321_ok {N : Nat} {xs : Nat → Int32} {KB NB : Nat} (hKB2 : KB ≤ 52000) (hNB2 : NB ≤ 62000) (rc23 : Nat → Nat → Nat → Int32 → Hp → Option (Unit)) (hrc23 : ∀ (a1 : Nat) (a2 : Nat) (a3 : Nat) (a4 : Int32) (h : Hp) (k n : Nat), k ≤ KB + 10 → n ≤ NB + 10 → rc23 a1 a2 a3 a4 h = some () → Go (PL N xs) M_L_law 23 [some (.retAddr 1000), some (.ref a1), some (.ref a2), some (.ref a3), some (.int a4), none, none] [] h k n) (a1 : Nat) (a2 : Nat) (a3 : Nat) (a4 : Int32) (s0 : Int32) (s1 : Nat) (s2 : Int32) (s3 : Int32) (h : Hp) (k n : Nat) (hk : k ≤ KB + 5) (hn : n ≤ NB + 9) (H : L_law_B1321 N xs rc23 a1 a2 a3 a4 s0 s1 s2 s3 h = some ()) : Go (PL N xs) M_L_law 1321 [some (.retAddr 1000), some (.ref a1), some (.ref a2), some (.ref a3), some (.int a4), none, none] [.int s3, .int s2, .ref s1, .int s0] h k n := by
  have hkn : k ≤ 600128 ∧ n ≤ 7301098 := by omega
  unfold L_law_B1321 at H
  refine go_aload_nS (pc := 1321) dL_law_1321 rfl rfl ?_
  refine go_iload (pc := 1322) dL_law_1322 rfl ?_
  refine go_iconst (pc := 1324) (v := 3) dL_law_1324 (by decide) ?_
  refine go_iadd (pc := 1325) dL_law_1325 ?_
  refine go_xld (pc := 1326) dL_law_1326 H (fun v1401 H => ?_)
  refine go_if_eq (pc := 1327) (tgt := 1334) dL_law_1327 (by decide) H (fun H => ?_) (fun H => ?_)
  · refine go_iconst (pc := 1334) (v := 0) dL_law_1334 (by decide) ?_
    exact Go.weak (L' := [some (.retAddr 1000), some (.ref a1), some (.ref a2), some (.ref a3), some (.int a4), none, none]) ⟨rfl, ⟨rfl, ⟨rfl, ⟨rfl, ⟨rfl, trivial⟩⟩⟩⟩⟩ (L_law_B1335_ok hKB2 hNB2 _ hrc23 a1 a2 a3 a4 s0 s1 s2 s3 0 h (k) (n) (by omega) (by omega) H)
  · refine go_iconst (pc := 1330) (v := 1) dL_law_1330 (by decide) ?_
    refine go_goto (pc := 1331) (tgt := 1335) dL_law_1331 (by decide) ?_
    exact Go.weak (L' := [some (.retAddr 1000), some (.ref a1), some (.ref a2), some (.ref a3), some (.int a4), none, none]) ⟨rfl, ⟨rfl, ⟨rfl, ⟨rfl, ⟨rfl, trivial⟩⟩⟩⟩⟩ (L_law_B1335_ok hKB2 hNB2 _ hrc23 a1 a2 a3 a4 s0 s1 s2 s3 1 h (k) (n) (by omega) (by omega) H)

def L_law_B1297 (N : Nat) (xs : Nat → Int32) (rc23 : Nat → Nat → Nat → Int32 → Hp → Option (Unit)) (a1 : Nat) (a2 : Nat) (a3 : Nat) (a4 : Int32) (s0 : Nat) (s1 : Int32) (s2 : Int32) (s3 : Int32) (s4 : Int32) (h : Hp) : Option Unit :=
  cV h s0 10 (X10_steals s0 s1 s2 s3 s4 h) fun v1302 h1301 =>
  (xA N xs (a4 + 1)).bind fun v1303 =>
  (xA N xs (a4 + 2)).bind fun v1304 =>
  if v1304 = 0 then (
    L_law_B1321 N xs rc23 a1 a2 a3 a4 v1302 a2 v1303 0 h1301)
  else (
    L_law_B1321 N xs rc23 a1 a2 a3 a4 v1302 a2 v1303 1 h1301)
theorem L_law_B1297_ok {N : Nat} {xs : Nat → Int32} {KB NB : Nat} (hKB2 : KB ≤ 52000) (hNB2 : NB ≤ 62000) (rc23 : Nat → Nat → Nat → Int32 → Hp → Option (Unit)) (hrc23 : ∀ (a1 : Nat) (a2 : Nat) (a3 : Nat) (a4 : Int32) (h : Hp) (k n : Nat), k ≤ KB + 10 → n ≤ NB + 10 → rc23 a1 a2 a3 a4 h = some () → Go (PL N xs) M_L_law 23 [some (.retAddr 1000), some (.ref a1), some (.ref a2), some (.ref a3), some (.int a4), none, none] [] h k n) (a1 : Nat) (a2 : Nat) (a3 : Nat) (a4 : Int32) (s0 : Nat) (s1 : Int32) (s2 : Int32) (s3 : Int32) (s4 : Int32) (h : Hp) (k n : Nat) (hk : k ≤ KB + 5) (hn : n ≤ NB + 9) (H : L_law_B1297 N xs rc23 a1 a2 a3 a4 s0 s1 s2 s3 s4 h = some ()) : Go (PL N xs) M_L_law 1297 [some (.retAddr 1000), some (.ref a1), some (.ref a2), some (.ref a3), some (.int a4), none, none] [.int s4, .int s3, .int s2, .int s1, .ref s0] h k n := by
  have hkn : k ≤ 600128 ∧ n ≤ 7301098 := by omega
  unfold L_law_B1297 at H
  refine go_cVi (pc := 1297) (Mz := M_X10_steals) (as := [.int s1, .int s2, .int s3, .int s4]) (a := s0) (st := []) dL_law_1297 wd_1149 cv_X10_steals X10_steals_ok rfl rfl ⟨Nat.le_of_ble_eq_true rfl, Nat.le_of_ble_eq_true rfl⟩ (Nat.le_of_ble_eq_true rfl) ⟨rfl, rfl⟩ hkn H (fun v1302 h1301 H => ?_)
  refine go_aload_n (pc := 1300) dL_law_1300 rfl rfl ?_
  refine go_aload_nS (pc := 1301) dL_law_1301 rfl rfl ?_
  refine go_iload (pc := 1302) dL_law_1302 rfl ?_
  refine go_iconst (pc := 1304) (v := 1) dL_law_1304 (by decide) ?_
  refine go_iadd (pc := 1305) dL_law_1305 ?_
  refine go_xld (pc := 1306) dL_law_1306 H (fun v1303 H => ?_)
  refine go_aload_nS (pc := 1307) dL_law_1307 rfl rfl ?_
  refine go_iload (pc := 1308) dL_law_1308 rfl ?_
  refine go_iconst (pc := 1310) (v := 2) dL_law_1310 (by decide) ?_
  refine go_iadd (pc := 1311) dL_law_1311 ?_
  refine go_xld (pc := 1312) dL_law_1312 H (fun v1304 H => ?_)
  refine go_if_eq (pc := 1313) (tgt := 1320) dL_law_1313 (by decide) H (fun H => ?_) (fun H => ?_)
  · refine go_iconst (pc := 1320) (v := 0) dL_law_1320 (by decide) ?_
    exact Go.weak (L' := [some (.retAddr 1000), some (.ref a1), some (.ref a2), some (.ref a3), some (.int a4), none, none]) ⟨rfl, ⟨rfl, ⟨rfl, ⟨rfl, ⟨rfl, trivial⟩⟩⟩⟩⟩ (L_law_B1321_ok hKB2 hNB2 _ hrc23 a1 a2 a3 a4 v1302 a2 v1303 0 h1301 (k) (n) (by omega) (by omega) H)
  · refine go_iconst (pc := 1316) (v := 1) dL_law_1316 (by decide) ?_
    refine go_goto (pc := 1317) (tgt := 1321) dL_law_1317 (by decide) ?_
    exact Go.weak (L' := [some (.retAddr 1000), some (.ref a1), some (.ref a2), some (.ref a3), some (.int a4), none, none]) ⟨rfl, ⟨rfl, ⟨rfl, ⟨rfl, ⟨rfl, trivial⟩⟩⟩⟩⟩ (L_law_B1321_ok hKB2 hNB2 _ hrc23 a1 a2 a3 a4 v1302 a2 v1303 1 h1301 (k) (n) (by omega) (by omega) H)

def L_law_B1283 (N : Nat) (xs : Nat → Int32) (rc23 : Nat → Nat → Nat → Int32 → Hp → Option (Unit)) (a1 : Nat) (a2 : Nat) (a3 : Nat) (a4 : Int32) (s0 : Nat) (s1 : Int32) (s2 : Int32) (s3 : Int32) (h : Hp) : Option Unit :=
  (xA N xs (a4 + 4)).bind fun v1201 =>
  if v1201 = 0 then (
    L_law_B1297 N xs rc23 a1 a2 a3 a4 s0 s1 s2 s3 0 h)
  else (
    L_law_B1297 N xs rc23 a1 a2 a3 a4 s0 s1 s2 s3 1 h)
theorem L_law_B1283_ok {N : Nat} {xs : Nat → Int32} {KB NB : Nat} (hKB2 : KB ≤ 52000) (hNB2 : NB ≤ 62000) (rc23 : Nat → Nat → Nat → Int32 → Hp → Option (Unit)) (hrc23 : ∀ (a1 : Nat) (a2 : Nat) (a3 : Nat) (a4 : Int32) (h : Hp) (k n : Nat), k ≤ KB + 10 → n ≤ NB + 10 → rc23 a1 a2 a3 a4 h = some () → Go (PL N xs) M_L_law 23 [some (.retAddr 1000), some (.ref a1), some (.ref a2), some (.ref a3), some (.int a4), none, none] [] h k n) (a1 : Nat) (a2 : Nat) (a3 : Nat) (a4 : Int32) (s0 : Nat) (s1 : Int32) (s2 : Int32) (s3 : Int32) (h : Hp) (k n : Nat) (hk : k ≤ KB + 5) (hn : n ≤ NB + 9) (H : L_law_B1283 N xs rc23 a1 a2 a3 a4 s0 s1 s2 s3 h = some ()) : Go (PL N xs) M_L_law 1283 [some (.retAddr 1000), some (.ref a1), some (.ref a2), some (.ref a3), some (.int a4), none, none] [.int s3, .int s2, .int s1, .ref s0] h k n := by
  have hkn : k ≤ 600128 ∧ n ≤ 7301098 := by omega
  unfold L_law_B1283 at H
  refine go_aload_nS (pc := 1283) dL_law_1283 rfl rfl ?_
  refine go_iload (pc := 1284) dL_law_1284 rfl ?_
  refine go_iconst (pc := 1286) (v := 4) dL_law_1286 (by decide) ?_
  refine go_iadd (pc := 1287) dL_law_1287 ?_
  refine go_xld (pc := 1288) dL_law_1288 H (fun v1201 H => ?_)
  refine go_if_eq (pc := 1289) (tgt := 1296) dL_law_1289 (by decide) H (fun H => ?_) (fun H => ?_)
  · refine go_iconst (pc := 1296) (v := 0) dL_law_1296 (by decide) ?_
    exact Go.weak (L' := [some (.retAddr 1000), some (.ref a1), some (.ref a2), some (.ref a3), some (.int a4), none, none]) ⟨rfl, ⟨rfl, ⟨rfl, ⟨rfl, ⟨rfl, trivial⟩⟩⟩⟩⟩ (L_law_B1297_ok hKB2 hNB2 _ hrc23 a1 a2 a3 a4 s0 s1 s2 s3 0 h (k) (n) (by omega) (by omega) H)
  · refine go_iconst (pc := 1292) (v := 1) dL_law_1292 (by decide) ?_
    refine go_goto (pc := 1293) (tgt := 1297) dL_law_1293 (by decide) ?_
    exact Go.weak (L' := [some (.retAddr 1000), some (.ref a1), some (.ref a2), some (.ref a3), some (.int a4), none, none]) ⟨rfl, ⟨rfl, ⟨rfl, ⟨rfl, ⟨rfl, trivial⟩⟩⟩⟩⟩ (L_law_B1297_ok hKB2 hNB2 _ hrc23 a1 a2 a3 a4 s0 s1 s2 s3 1 h (k) (n) (by omega) (by omega) H)

def L_law_B1269 (N : Nat) (xs : Nat → Int32) (rc23 : Nat → Nat → Nat → Int32 → Hp → Option (Unit)) (a1 : Nat) (a2 : Nat) (a3 : Nat) (a4 : Int32) (s0 : Nat) (s1 : Int32) (s2 : Int32) (h : Hp) : Option Unit :=
  (xA N xs (a4 + 3)).bind fun v1101 =>
  if v1101 = 0 then (
    L_law_B1283 N xs rc23 a1 a2 a3 a4 s0 s1 s2 0 h)
  else (
    L_law_B1283 N xs rc23 a1 a2 a3 a4 s0 s1 s2 1 h)
theorem L_law_B1269_ok {N : Nat} {xs : Nat → Int32} {KB NB : Nat} (hKB2 : KB ≤ 52000) (hNB2 : NB ≤ 62000) (rc23 : Nat → Nat → Nat → Int32 → Hp → Option (Unit)) (hrc23 : ∀ (a1 : Nat) (a2 : Nat) (a3 : Nat) (a4 : Int32) (h : Hp) (k n : Nat), k ≤ KB + 10 → n ≤ NB + 10 → rc23 a1 a2 a3 a4 h = some () → Go (PL N xs) M_L_law 23 [some (.retAddr 1000), some (.ref a1), some (.ref a2), some (.ref a3), some (.int a4), none, none] [] h k n) (a1 : Nat) (a2 : Nat) (a3 : Nat) (a4 : Int32) (s0 : Nat) (s1 : Int32) (s2 : Int32) (h : Hp) (k n : Nat) (hk : k ≤ KB + 5) (hn : n ≤ NB + 9) (H : L_law_B1269 N xs rc23 a1 a2 a3 a4 s0 s1 s2 h = some ()) : Go (PL N xs) M_L_law 1269 [some (.retAddr 1000), some (.ref a1), some (.ref a2), some (.ref a3), some (.int a4), none, none] [.int s2, .int s1, .ref s0] h k n := by
  have hkn : k ≤ 600128 ∧ n ≤ 7301098 := by omega
  unfold L_law_B1269 at H
  refine go_aload_nS (pc := 1269) dL_law_1269 rfl rfl ?_
  refine go_iload (pc := 1270) dL_law_1270 rfl ?_
  refine go_iconst (pc := 1272) (v := 3) dL_law_1272 (by decide) ?_
  refine go_iadd (pc := 1273) dL_law_1273 ?_
  refine go_xld (pc := 1274) dL_law_1274 H (fun v1101 H => ?_)
  refine go_if_eq (pc := 1275) (tgt := 1282) dL_law_1275 (by decide) H (fun H => ?_) (fun H => ?_)
  · refine go_iconst (pc := 1282) (v := 0) dL_law_1282 (by decide) ?_
    exact Go.weak (L' := [some (.retAddr 1000), some (.ref a1), some (.ref a2), some (.ref a3), some (.int a4), none, none]) ⟨rfl, ⟨rfl, ⟨rfl, ⟨rfl, ⟨rfl, trivial⟩⟩⟩⟩⟩ (L_law_B1283_ok hKB2 hNB2 _ hrc23 a1 a2 a3 a4 s0 s1 s2 0 h (k) (n) (by omega) (by omega) H)
  · refine go_iconst (pc := 1278) (v := 1) dL_law_1278 (by decide) ?_
    refine go_goto (pc := 1279) (tgt := 1283) dL_law_1279 (by decide) ?_
    exact Go.weak (L' := [some (.retAddr 1000), some (.ref a1), some (.ref a2), some (.ref a3), some (.int a4), none, none]) ⟨rfl, ⟨rfl, ⟨rfl, ⟨rfl, ⟨rfl, trivial⟩⟩⟩⟩⟩ (L_law_B1283_ok hKB2 hNB2 _ hrc23 a1 a2 a3 a4 s0 s1 s2 1 h (k) (n) (by omega) (by omega) H)

def L_law_B1721 (N : Nat) (xs : Nat → Int32) (rc23 : Nat → Nat → Nat → Int32 → Hp → Option (Unit)) (a1 : Nat) (a2 : Nat) (a3 : Nat) (a4 : Int32) (h : Hp) : Option Unit :=
  L_law_B1762 N xs rc23 a1 a2 a3 a4 h
theorem L_law_B1721_ok {N : Nat} {xs : Nat → Int32} {KB NB : Nat} (hKB2 : KB ≤ 52000) (hNB2 : NB ≤ 62000) (rc23 : Nat → Nat → Nat → Int32 → Hp → Option (Unit)) (hrc23 : ∀ (a1 : Nat) (a2 : Nat) (a3 : Nat) (a4 : Int32) (h : Hp) (k n : Nat), k ≤ KB + 10 → n ≤ NB + 10 → rc23 a1 a2 a3 a4 h = some () → Go (PL N xs) M_L_law 23 [some (.retAddr 1000), some (.ref a1), some (.ref a2), some (.ref a3), some (.int a4), none, none] [] h k n) (a1 : Nat) (a2 : Nat) (a3 : Nat) (a4 : Int32) (h : Hp) (k n : Nat) (hk : k ≤ KB + 5) (hn : n ≤ NB + 9) (H : L_law_B1721 N xs rc23 a1 a2 a3 a4 h = some ()) : Go (PL N xs) M_L_law 1721 [some (.retAddr 1000), some (.ref a1), some (.ref a2), some (.ref a3), some (.int a4), none, none] [] h k n := by
  have hkn : k ≤ 600128 ∧ n ≤ 7301098 := by omega
  unfold L_law_B1721 at H
  refine go_goto (pc := 1721) (tgt := 1762) dL_law_1721 (by decide) ?_
  exact Go.weak (L' := [some (.retAddr 1000), some (.ref a1), some (.ref a2), some (.ref a3), some (.int a4), none, none]) ⟨rfl, ⟨rfl, ⟨rfl, ⟨rfl, ⟨rfl, trivial⟩⟩⟩⟩⟩ (L_law_B1762_ok hKB2 hNB2 _ hrc23 a1 a2 a3 a4 h (k) (n) (by omega) (by omega) H)

def L_law_L23_s (N : Nat) (xs : Nat → Int32) (rc23 : Nat → Nat → Nat → Int32 → Hp → Option (Unit)) (a1 : Nat) (a2 : Nat) (a3 : Nat) (a4 : Int32) (h : Hp) : Option Unit :=
  if ((nI N) - 6) < a4 then (
    lwR 1)
  else (
    (xA N xs a4).bind fun v101 =>
    pin (v101 &&& 63) fun v102 =>
    if v102 = 0 then (
      (xA N xs (a4 + 1)).bind fun v103 =>
      (xA N xs (a4 + 2)).bind fun v104 =>
      (xA N xs (a4 + 3)).bind fun v105 =>
      (xA N xs (a4 + 4)).bind fun v106 =>
      (xA N xs (a4 + 5)).bind fun v107 =>
      cV h a1 10 (X10_feed a1 v103 v104 v105 v106 v107 h) fun v109 h108 =>
      (xA N xs (a4 + 1)).bind fun v110 =>
      (xA N xs (a4 + 2)).bind fun v111 =>
      (xA N xs (a4 + 3)).bind fun v112 =>
      (xA N xs (a4 + 4)).bind fun v113 =>
      (xA N xs (a4 + 5)).bind fun v114 =>
      cV h108 a2 11 (X11_feed a2 v110 v111 v112 v113 v114 h108) fun v116 h115 =>
      if v109 = v116 then (
        L_law_B1762 N xs rc23 a1 a2 a3 a4 h115)
      else (
        lwR 0))
    else if v102 = 1 then (
      (xA N xs (a4 + 1)).bind fun v117 =>
      cV h a1 10 (X10_voyage a1 v117 h) fun v119 h118 =>
      (xA N xs (a4 + 1)).bind fun v120 =>
      cV h118 a2 11 (X11_voyage a2 v120 h118) fun v122 h121 =>
      if v119 = v122 then (
        L_law_B1762 N xs rc23 a1 a2 a3 a4 h121)
      else (
        lwR 0))
    else if v102 = 2 then (
      cV h a1 10 (X10_fault a1 h) fun v124 h123 =>
      cV h123 a2 11 (X11_fault a2 h123) fun v126 h125 =>
      if v124 = v126 then (
        L_law_B1762 N xs rc23 a1 a2 a3 a4 h125)
      else (
        lwR 0))
    else if v102 = 3 then (
      cV h a1 10 (X10_where a1 h) fun v128 h127 =>
      cV h127 a2 11 (X11_where a2 h127) fun v130 h129 =>
      if v128 = v130 then (
        L_law_B1762 N xs rc23 a1 a2 a3 a4 h129)
      else (
        lwR 0))
    else if v102 = 4 then (
      (xA N xs (a4 + 1)).bind fun v131 =>
      (xA N xs (a4 + 2)).bind fun v132 =>
      cV h a1 10 (X10_watch a1 v131 v132 h) fun v134 h133 =>
      (xA N xs (a4 + 1)).bind fun v135 =>
      (xA N xs (a4 + 2)).bind fun v136 =>
      cV h133 a2 11 (X11_watch a2 v135 v136 h133) fun v138 h137 =>
      if v134 = v138 then (
        L_law_B1762 N xs rc23 a1 a2 a3 a4 h137)
      else (
        lwR 0))
    else if v102 = 5 then (
      (xA N xs (a4 + 1)).bind fun v139 =>
      (xA N xs (a4 + 2)).bind fun v140 =>
      cV h a1 10 (X10_boy a1 v139 v140 h) fun v142 h141 =>
      (xA N xs (a4 + 1)).bind fun v143 =>
      (xA N xs (a4 + 2)).bind fun v144 =>
      cV h141 a2 11 (X11_boy a2 v143 v144 h141) fun v146 h145 =>
      if v142 = v146 then (
        L_law_B1762 N xs rc23 a1 a2 a3 a4 h145)
      else (
        lwR 0))
    else if v102 = 6 then (
      (xA N xs (a4 + 1)).bind fun v147 =>
      (xA N xs (a4 + 2)).bind fun v148 =>
      cV h a1 10 (X10_officer a1 v147 v148 h) fun v150 h149 =>
      (xA N xs (a4 + 1)).bind fun v151 =>
      (xA N xs (a4 + 2)).bind fun v152 =>
      cV h149 a2 11 (X11_officer a2 v151 v152 h149) fun v154 h153 =>
      if v150 = v154 then (
        L_law_B1762 N xs rc23 a1 a2 a3 a4 h153)
      else (
        lwR 0))
    else if v102 = 7 then (
      (xA N xs (a4 + 1)).bind fun v155 =>
      (xA N xs (a4 + 2)).bind fun v156 =>
      cV h a1 10 (X10_glass a1 v155 v156 h) fun v158 h157 =>
      (xA N xs (a4 + 1)).bind fun v159 =>
      (xA N xs (a4 + 2)).bind fun v160 =>
      cV h157 a2 11 (X11_glass a2 v159 v160 h157) fun v162 h161 =>
      if v158 = v162 then (
        L_law_B1762 N xs rc23 a1 a2 a3 a4 h161)
      else (
        lwR 0))
    else if v102 = 8 then (
      (xA N xs (a4 + 1)).bind fun v163 =>
      cV h a1 10 (X10_stolen a1 v163 h) fun v165 h164 =>
      (xA N xs (a4 + 1)).bind fun v166 =>
      cV h164 a2 11 (X11_stolen a2 v166 h164) fun v168 h167 =>
      if v165 = v168 then (
        L_law_B1762 N xs rc23 a1 a2 a3 a4 h167)
      else (
        lwR 0))
    else if v102 = 9 then (
      (xA N xs (a4 + 1)).bind fun v169 =>
      cV h a1 10 (X10_stolenBy a1 v169 h) fun v171 h170 =>
      (xA N xs (a4 + 1)).bind fun v172 =>
      cV h170 a2 11 (X11_stolenBy a2 v172 h170) fun v174 h173 =>
      if v171 = v174 then (
        L_law_B1762 N xs rc23 a1 a2 a3 a4 h173)
      else (
        lwR 0))
    else if v102 = 10 then (
      cV h a1 10 (X10_thief a1 h) fun v176 h175 =>
      cV h175 a2 11 (X11_thief a2 h175) fun v178 h177 =>
      if v176 = v178 then (
        L_law_B1762 N xs rc23 a1 a2 a3 a4 h177)
      else (
        lwR 0))
    else if v102 = 11 then (
      cV h a1 10 (X10_lostWatch a1 h) fun v180 h179 =>
      cV h179 a2 11 (X11_lostWatch a2 h179) fun v182 h181 =>
      if v180 = v182 then (
        L_law_B1762 N xs rc23 a1 a2 a3 a4 h181)
      else (
        lwR 0))
    else if v102 = 12 then (
      (xA N xs (a4 + 1)).bind fun v183 =>
      (xA N xs (a4 + 2)).bind fun v184 =>
      if v184 = 0 then (
        L_law_B637 N xs rc23 a1 a2 a3 a4 a1 v183 0 h)
      else (
        L_law_B637 N xs rc23 a1 a2 a3 a4 a1 v183 1 h))
    else if v102 = 13 then (
      (xA N xs (a4 + 1)).bind fun v185 =>
      (xA N xs (a4 + 2)).bind fun v186 =>
      if v186 = 0 then (
        L_law_B690 N xs rc23 a1 a2 a3 a4 a1 v185 0 h)
      else (
        L_law_B690 N xs rc23 a1 a2 a3 a4 a1 v185 1 h))
    else if v102 = 14 then (
      (xA N xs (a4 + 1)).bind fun v187 =>
      cV h a1 10 (X10_error a1 v187 h) fun v189 h188 =>
      (xA N xs (a4 + 1)).bind fun v190 =>
      cV h188 a2 11 (X11_error a2 v190 h188) fun v192 h191 =>
      if v189 = v192 then (
        L_law_B1762 N xs rc23 a1 a2 a3 a4 h191)
      else (
        lwR 0))
    else if v102 = 15 then (
      cV h a1 10 (X10_worst a1 h) fun v194 h193 =>
      cV h193 a2 11 (X11_worst a2 h193) fun v196 h195 =>
      if v194 = v196 then (
        L_law_B1762 N xs rc23 a1 a2 a3 a4 h195)
      else (
        lwR 0))
    else if v102 = 16 then (
      (xA N xs (a4 + 1)).bind fun v197 =>
      cV h a1 10 (X10_square a1 v197 h) fun v199 h198 =>
      (xA N xs (a4 + 1)).bind fun v200 =>
      cV h198 a2 11 (X11_square a2 v200 h198) fun v202 h201 =>
      if v199 = v202 then (
        L_law_B1762 N xs rc23 a1 a2 a3 a4 h201)
      else (
        lwR 0))
    else if v102 = 17 then (
      (xA N xs (a4 + 1)).bind fun v203 =>
      cV h a1 10 (X10_squareThought a1 v203 h) fun v205 h204 =>
      (xA N xs (a4 + 1)).bind fun v206 =>
      cV h204 a2 11 (X11_squareThought a2 v206 h204) fun v208 h207 =>
      if v205 = v208 then (
        L_law_B1762 N xs rc23 a1 a2 a3 a4 h207)
      else (
        lwR 0))
    else if v102 = 18 then (
      cV h a1 10 (X10_strikes a1 h) fun v210 h209 =>
      cV h209 a2 11 (X11_strikes a2 h209) fun v212 h211 =>
      if v210 = v212 then (
        L_law_B1762 N xs rc23 a1 a2 a3 a4 h211)
      else (
        lwR 0))
    else if v102 = 19 then (
      cV h a1 10 (X10_feared a1 h) fun v214 h213 =>
      cV h213 a2 11 (X11_feared a2 h213) fun v216 h215 =>
      if v214 = v216 then (
        L_law_B1762 N xs rc23 a1 a2 a3 a4 h215)
      else (
        lwR 0))
    else if v102 = 20 then (
      (xA N xs (a4 + 1)).bind fun v217 =>
      cV h a1 10 (X10_canBe a1 v217 h) fun v219 h218 =>
      (xA N xs (a4 + 1)).bind fun v220 =>
      cV h218 a2 11 (X11_canBe a2 v220 h218) fun v222 h221 =>
      if v219 = v222 then (
        L_law_B1762 N xs rc23 a1 a2 a3 a4 h221)
      else (
        lwR 0))
    else if v102 = 21 then (
      cV h a1 10 (X10_perils a1 h) fun v224 h223 =>
      cV h223 a2 11 (X11_perils a2 h223) fun v226 h225 =>
      if v224 = v226 then (
        L_law_B1762 N xs rc23 a1 a2 a3 a4 h225)
      else (
        lwR 0))
    else if v102 = 22 then (
      (xA N xs (a4 + 1)).bind fun v227 =>
      cV h a1 10 (X10_attendFor a1 v227 h) fun v229 h228 =>
      (xA N xs (a4 + 1)).bind fun v230 =>
      cV h228 a2 11 (X11_attendFor a2 v230 h228) fun v232 h231 =>
      if v229 = v232 then (
        L_law_B1762 N xs rc23 a1 a2 a3 a4 h231)
      else (
        lwR 0))
    else if v102 = 23 then (
      (xA N xs (a4 + 1)).bind fun v233 =>
      cV h a1 10 (X10_stolenIf a1 v233 h) fun v235 h234 =>
      (xA N xs (a4 + 1)).bind fun v236 =>
      cV h234 a2 11 (X11_stolenIf a2 v236 h234) fun v238 h237 =>
      if v235 = v238 then (
        L_law_B1762 N xs rc23 a1 a2 a3 a4 h237)
      else (
        lwR 0))
    else if v102 = 24 then (
      cV h a1 10 (X10_lookFirst a1 h) fun v240 h239 =>
      cV h239 a2 11 (X11_lookFirst a2 h239) fun v242 h241 =>
      if v240 = v242 then (
        L_law_B1762 N xs rc23 a1 a2 a3 a4 h241)
      else (
        lwR 0))
    else if v102 = 25 then (
      cV h a1 10 (X10_change a1 h) fun v244 h243 =>
      cV h243 a2 11 (X11_change a2 h243) fun v246 h245 =>
      if v244 = v246 then (
        L_law_B1762 N xs rc23 a1 a2 a3 a4 h245)
      else (
        lwR 0))
    else if v102 = 26 then (
      (xA N xs (a4 + 1)).bind fun v247 =>
      (xA N xs (a4 + 2)).bind fun v248 =>
      cV h a1 10 (X10_strikesIf a1 v247 v248 h) fun v250 h249 =>
      (xA N xs (a4 + 1)).bind fun v251 =>
      (xA N xs (a4 + 2)).bind fun v252 =>
      cV h249 a2 11 (X11_strikesIf a2 v251 v252 h249) fun v254 h253 =>
      if v250 = v254 then (
        L_law_B1762 N xs rc23 a1 a2 a3 a4 h253)
      else (
        lwR 0))
    else if v102 = 27 then (
      (xA N xs (a4 + 1)).bind fun v255 =>
      cV h a1 10 (X10_relief a1 v255 h) fun v257 h256 =>
      (xA N xs (a4 + 1)).bind fun v258 =>
      cV h256 a2 11 (X11_relief a2 v258 h256) fun v260 h259 =>
      if v257 = v260 then (
        L_law_B1762 N xs rc23 a1 a2 a3 a4 h259)
      else (
        lwR 0))
    else if v102 = 28 then (
      cV h a1 10 (X10_fits a1 h) fun v262 h261 =>
      cV h261 a2 11 (X11_fits a2 h261) fun v264 h263 =>
      if v262 = v264 then (
        L_law_B1762 N xs rc23 a1 a2 a3 a4 h263)
      else (
        lwR 0))
    else if v102 = 29 then (
      (xA N xs (a4 + 1)).bind fun v265 =>
      cV h a1 10 (X10_fitAt a1 v265 h) fun v267 h266 =>
      (xA N xs (a4 + 1)).bind fun v268 =>
      cV h266 a2 11 (X11_fitAt a2 v268 h266) fun v270 h269 =>
      if v267 = v270 then (
        L_law_B1762 N xs rc23 a1 a2 a3 a4 h269)
      else (
        lwR 0))
    else if v102 = 30 then (
      cV h a1 10 (X10_could a1 h) fun v272 h271 =>
      cV h271 a2 11 (X11_could a2 h271) fun v274 h273 =>
      if v272 = v274 then (
        L_law_B1762 N xs rc23 a1 a2 a3 a4 h273)
      else (
        lwR 0))
    else if v102 = 31 then (
      cV h a1 10 (X10_surely a1 h) fun v276 h275 =>
      cV h275 a2 11 (X11_surely a2 h275) fun v278 h277 =>
      if v276 = v278 then (
        L_law_B1762 N xs rc23 a1 a2 a3 a4 h277)
      else (
        lwR 0))
    else if v102 = 32 then (
      cV h a1 10 (X10_fix a1 h) fun v280 h279 =>
      cV h279 a2 11 (X11_fix a2 h279) fun v282 h281 =>
      if v280 = v282 then (
        L_law_B1762 N xs rc23 a1 a2 a3 a4 h281)
      else (
        lwR 0))
    else if v102 = 33 then (
      cV h a1 10 (X10_fixLeaves a1 h) fun v284 h283 =>
      cV h283 a2 11 (X11_fixLeaves a2 h283) fun v286 h285 =>
      if v284 = v286 then (
        L_law_B1762 N xs rc23 a1 a2 a3 a4 h285)
      else (
        lwR 0))
    else if v102 = 34 then (
      cV h a1 10 (X10_judge a1 h) fun v288 h287 =>
      cV h287 a2 11 (X11_judge a2 h287) fun v290 h289 =>
      if v288 = v290 then (
        L_law_B1762 N xs rc23 a1 a2 a3 a4 h289)
      else (
        lwR 0))
    else if v102 = 35 then (
      (xA N xs (a4 + 1)).bind fun v291 =>
      (xA N xs (a4 + 2)).bind fun v292 =>
      (xA N xs (a4 + 3)).bind fun v293 =>
      if v293 = 0 then (
        L_law_B1142 N xs rc23 a1 a2 a3 a4 a1 v291 v292 0 h)
      else (
        L_law_B1142 N xs rc23 a1 a2 a3 a4 a1 v291 v292 1 h))
    else if v102 = 36 then (
      (xA N xs (a4 + 1)).bind fun v294 =>
      (xA N xs (a4 + 2)).bind fun v295 =>
      if v295 = 0 then (
        L_law_B1202 N xs rc23 a1 a2 a3 a4 a1 v294 0 h)
      else (
        L_law_B1202 N xs rc23 a1 a2 a3 a4 a1 v294 1 h))
    else if v102 = 37 then (
      cV h a1 10 (X10_dearest a1 h) fun v297 h296 =>
      cV h296 a2 11 (X11_dearest a2 h296) fun v299 h298 =>
      if v297 = v299 then (
        L_law_B1762 N xs rc23 a1 a2 a3 a4 h298)
      else (
        lwR 0))
    else if v102 = 38 then (
      (xA N xs (a4 + 1)).bind fun v300 =>
      (xA N xs (a4 + 2)).bind fun v301 =>
      if v301 = 0 then (
        L_law_B1269 N xs rc23 a1 a2 a3 a4 a1 v300 0 h)
      else (
        L_law_B1269 N xs rc23 a1 a2 a3 a4 a1 v300 1 h))
    else if v102 = 39 then (
      (xA N xs (a4 + 1)).bind fun v302 =>
      cV h a1 10 (X10_rests a1 v302 h) fun v304 h303 =>
      (xA N xs (a4 + 1)).bind fun v305 =>
      cV h303 a2 11 (X11_rests a2 v305 h303) fun v307 h306 =>
      if v304 = v307 then (
        L_law_B1762 N xs rc23 a1 a2 a3 a4 h306)
      else (
        lwR 0))
    else if v102 = 40 then (
      (xA N xs (a4 + 1)).bind fun v308 =>
      cV h a1 10 (X10_rest a1 v308 h) fun v310 h309 =>
      (xA N xs (a4 + 1)).bind fun v311 =>
      cV h309 a2 11 (X11_rest a2 v311 h309) fun v313 h312 =>
      if v310 = v313 then (
        L_law_B1762 N xs rc23 a1 a2 a3 a4 h312)
      else (
        lwR 0))
    else if v102 = 41 then (
      (xA N xs (a4 + 1)).bind fun v314 =>
      (xA N xs (a4 + 2)).bind fun v315 =>
      cV h a1 10 (X10_idled a1 v314 v315 h) fun v317 h316 =>
      (xA N xs (a4 + 1)).bind fun v318 =>
      (xA N xs (a4 + 2)).bind fun v319 =>
      cV h316 a2 11 (X11_idled a2 v318 v319 h316) fun v321 h320 =>
      if v317 = v321 then (
        L_law_B1762 N xs rc23 a1 a2 a3 a4 h320)
      else (
        lwR 0))
    else if v102 = 42 then (
      (xA N xs (a4 + 1)).bind fun v322 =>
      (xA N xs (a4 + 2)).bind fun v323 =>
      cV h a1 10 (X10_squareBy a1 v322 v323 h) fun v325 h324 =>
      (xA N xs (a4 + 1)).bind fun v326 =>
      (xA N xs (a4 + 2)).bind fun v327 =>
      cV h324 a2 11 (X11_squareBy a2 v326 v327 h324) fun v329 h328 =>
      if v325 = v329 then (
        L_law_B1762 N xs rc23 a1 a2 a3 a4 h328)
      else (
        lwR 0))
    else if v102 = 43 then (
      (xA N xs (a4 + 1)).bind fun v330 =>
      (xA N xs (a4 + 2)).bind fun v331 =>
      cV h a1 10 (X10_wrecks a1 v330 v331 h) fun v333 h332 =>
      (xA N xs (a4 + 1)).bind fun v334 =>
      (xA N xs (a4 + 2)).bind fun v335 =>
      cV h332 a2 11 (X11_wrecks a2 v334 v335 h332) fun v337 h336 =>
      if v333 = v337 then (
        L_law_B1762 N xs rc23 a1 a2 a3 a4 h336)
      else (
        lwR 0))
    else if v102 = 44 then (
      (xA N xs (a4 + 1)).bind fun v338 =>
      cV h a1 10 (X10_attend a1 v338 h) fun v340 h339 =>
      (xA N xs (a4 + 1)).bind fun v341 =>
      cV h339 a2 11 (X11_attend a2 v341 h339) fun v343 h342 =>
      if v340 = v343 then (
        L_law_B1762 N xs rc23 a1 a2 a3 a4 h342)
      else (
        lwR 0))
    else if v102 = 45 then (
      (xA N xs (a4 + 1)).bind fun v344 =>
      (xA N xs (a4 + 2)).bind fun v345 =>
      cV h a1 10 (X10_steer a1 v344 v345 h) fun v347 h346 =>
      (xA N xs (a4 + 1)).bind fun v348 =>
      (xA N xs (a4 + 2)).bind fun v349 =>
      cV h346 a2 11 (X11_steer a2 v348 v349 h346) fun v351 h350 =>
      if v347 = v351 then (
        L_law_B1762 N xs rc23 a1 a2 a3 a4 h350)
      else (
        lwR 0))
    else if v102 = 46 then (
      (xA N xs (a4 + 1)).bind fun v352 =>
      (xA N xs (a4 + 2)).bind fun v353 =>
      cV h a1 10 (X10_relieve a1 v352 v353 h) fun v355 h354 =>
      (xA N xs (a4 + 1)).bind fun v356 =>
      (xA N xs (a4 + 2)).bind fun v357 =>
      cV h354 a2 11 (X11_relieve a2 v356 v357 h354) fun v359 h358 =>
      if v355 = v359 then (
        L_law_B1762 N xs rc23 a1 a2 a3 a4 h358)
      else (
        lwR 0))
    else if v102 = 47 then (
      cV h a1 10 (X10_undo a1 h) fun v361 h360 =>
      cV h360 a2 11 (X11_undo a2 h360) fun v363 h362 =>
      if v361 = v363 then (
        L_law_B1762 N xs rc23 a1 a2 a3 a4 h362)
      else (
        lwR 0))
    else if v102 = 48 then (
      cV h a1 10 (X10_image a1 h) fun v365 h364 =>
      cV h364 a2 11 (X11_image a2 h364) fun v367 h366 =>
      if v365 = v367 then (
        L_law_B1762 N xs rc23 a1 a2 a3 a4 h366)
      else (
        lwR 0))
    else if v102 = 49 then (
      (xA N xs (a4 + 1)).bind fun v368 =>
      cV h a1 10 (X10_back a1 v368 h) fun v370 h369 =>
      (xA N xs (a4 + 1)).bind fun v371 =>
      cV h369 a2 11 (X11_back a2 v371 h369) fun v373 h372 =>
      if v370 = v373 then (
        L_law_B1762 N xs rc23 a1 a2 a3 a4 h372)
      else (
        lwR 0))
    else if v102 = 50 then (
      (xA N xs (a4 + 1)).bind fun v374 =>
      bd (L_led a1 v374 a3 h) fun v376 h375 =>
      (xA N xs (a4 + 1)).bind fun v377 =>
      cV h375 a2 11 (X11_led a2 v377 h375) fun v379 h378 =>
      cV h378 a2 11 (X11_thrown a2 h378) fun v381 h380 =>
      if v381 = v376 then (
        if v376 = 0 then (
          (aJ h380 a3 0).bind fun v382 =>
          if (lg_cmp v382 (Int32.toInt64 v379)) = 0 then (
            L_law_B1721 N xs rc23 a1 a2 a3 a4 h380)
          else (
            lwR 0))
        else (
          L_law_B1721 N xs rc23 a1 a2 a3 a4 h380))
      else (
        lwR 0))
    else if v102 = 51 then (
      (xA N xs (a4 + 1)).bind fun v383 =>
      cV h a1 10 (X10_size a1 v383 h) fun v385 h384 =>
      (xA N xs (a4 + 1)).bind fun v386 =>
      cV h384 a2 11 (X11_size a2 v386 h384) fun v388 h387 =>
      if v385 = v388 then (
        L_law_B1762 N xs rc23 a1 a2 a3 a4 h387)
      else (
        lwR 0))
    else if v102 = 52 then (
      cV h a1 10 (X10_trouble a1 h) fun v390 h389 =>
      cV h389 a2 11 (X11_trouble a2 h389) fun v392 h391 =>
      if v390 = v392 then (
        L_law_B1762 N xs rc23 a1 a2 a3 a4 h391)
      else (
        lwR 0))
    else (
      L_law_B1762 N xs rc23 a1 a2 a3 a4 h))
def L_law_L23 (N : Nat) (xs : Nat → Int32) (q : Nat) : Nat → Nat → Nat → Int32 → Hp → Option (Unit) := loopN (fun _ _ _ _ _ => none) (L_law_L23_s N xs) q
set_option maxRecDepth 20000 in
set_option maxHeartbeats 4000000 in
theorem L_law_L23_ok {N : Nat} {xs : Nat → Int32} : ∀ (q : Nat), q ≤ 5000 → ∀ (a1 : Nat) (a2 : Nat) (a3 : Nat) (a4 : Int32) (h : Hp) (k n : Nat), k ≤ 1000 + 10 * (5000 - q) → n ≤ 10000 + 10 * (5000 - q) → L_law_L23 N xs q a1 a2 a3 a4 h = some () → Go (PL N xs) M_L_law 23 [some (.retAddr 1000), some (.ref a1), some (.ref a2), some (.ref a3), some (.int a4), none, none] [] h k n := by
  intro q
  induction q with
  | zero => intro _ a1 a2 a3 a4 h k n _ _ H; cases H
  | succ q ihq =>
    intro hq a1 a2 a3 a4 h k n hk hn H
    have hrc23 : ∀ (a1 : Nat) (a2 : Nat) (a3 : Nat) (a4 : Int32) (h : Hp) (k n : Nat), k ≤ (1000 + 10 * (5000 - (q + 1))) + 10 → n ≤ (10000 + 10 * (5000 - (q + 1))) + 10 → L_law_L23 N xs q a1 a2 a3 a4 h = some () → Go (PL N xs) M_L_law 23 [some (.retAddr 1000), some (.ref a1), some (.ref a2), some (.ref a3), some (.int a4), none, none] [] h k n := fun a1 a2 a3 a4 h k n a b => ihq (by omega) a1 a2 a3 a4 h k n (by omega) (by omega)
    generalize hKB : 1000 + 10 * (5000 - (q + 1)) = KB at hk hrc23
    generalize hNB : 10000 + 10 * (5000 - (q + 1)) = NB at hn hrc23
    have hKB2 : KB ≤ 52000 := by omega
    have hNB2 : NB ≤ 62000 := by omega
    have hkn : k ≤ 600128 ∧ n ≤ 7301098 := by omega
    have hkn2 : k + 1 ≤ 600128 ∧ n + 6 ≤ 7301098 := by omega
    replace H : L_law_L23_s N xs (L_law_L23 N xs q) a1 a2 a3 a4 h = some () := H
    unfold L_law_L23_s at H
    refine go_iload (pc := 23) dL_law_23 rfl ?_
    refine go_aload_nS (pc := 25) dL_law_25 rfl rfl ?_
    refine go_xlen (pc := 26) dL_law_26 ?_
    refine go_bipush (pc := 27) (v := 6) dL_law_27 (by decide) ?_
    refine go_isub (pc := 29) dL_law_29 ?_
    refine go_icmp_gt (pc := 30) (tgt := 1768) dL_law_30 (by decide) H (fun H => ?_) (fun H => ?_)
    · refine go_iconst (pc := 1768) (v := 1) dL_law_1768 (by decide) ?_
      exact go_lawret (pc := 1769) dL_law_1769 hkn H
    · refine go_aload_nS (pc := 33) dL_law_33 rfl rfl ?_
      refine go_iload (pc := 34) dL_law_34 rfl ?_
      refine go_xld (pc := 36) dL_law_36 H (fun v101 H => ?_)
      refine go_bipush (pc := 37) (v := 63) dL_law_37 (by decide) ?_
      refine go_iand (pc := 39) dL_law_39 ?_
      refine go_pin H (fun v102 H => ?_)
      by_cases c0 : v102 = 0
      · rw [if_pos c0] at H
        refine go_tabIn (pc := 40) (off := 228) (tgt := 268) dL_law_40 (by rw [c0]; decide) (by rw [c0]; decide) (by rw [c0]; decide) (by decide) ?_
        refine go_aload_n (pc := 268) dL_law_268 rfl rfl ?_
        refine go_aload_nS (pc := 269) dL_law_269 rfl rfl ?_
        refine go_iload (pc := 270) dL_law_270 rfl ?_
        refine go_iconst (pc := 272) (v := 1) dL_law_272 (by decide) ?_
        refine go_iadd (pc := 273) dL_law_273 ?_
        refine go_xld (pc := 274) dL_law_274 H (fun v103 H => ?_)
        refine go_aload_nS (pc := 275) dL_law_275 rfl rfl ?_
        refine go_iload (pc := 276) dL_law_276 rfl ?_
        refine go_iconst (pc := 278) (v := 2) dL_law_278 (by decide) ?_
        refine go_iadd (pc := 279) dL_law_279 ?_
        refine go_xld (pc := 280) dL_law_280 H (fun v104 H => ?_)
        refine go_aload_nS (pc := 281) dL_law_281 rfl rfl ?_
        refine go_iload (pc := 282) dL_law_282 rfl ?_
        refine go_iconst (pc := 284) (v := 3) dL_law_284 (by decide) ?_
        refine go_iadd (pc := 285) dL_law_285 ?_
        refine go_xld (pc := 286) dL_law_286 H (fun v105 H => ?_)
        refine go_aload_nS (pc := 287) dL_law_287 rfl rfl ?_
        refine go_iload (pc := 288) dL_law_288 rfl ?_
        refine go_iconst (pc := 290) (v := 4) dL_law_290 (by decide) ?_
        refine go_iadd (pc := 291) dL_law_291 ?_
        refine go_xld (pc := 292) dL_law_292 H (fun v106 H => ?_)
        refine go_aload_nS (pc := 293) dL_law_293 rfl rfl ?_
        refine go_iload (pc := 294) dL_law_294 rfl ?_
        refine go_iconst (pc := 296) (v := 5) dL_law_296 (by decide) ?_
        refine go_iadd (pc := 297) dL_law_297 ?_
        refine go_xld (pc := 298) dL_law_298 H (fun v107 H => ?_)
        refine go_cVi (pc := 299) (Mz := M_X10_feed) (as := [.int v103, .int v104, .int v105, .int v106, .int v107]) (a := a1) (st := []) dL_law_299 wd_499 cv_X10_feed X10_feed_ok rfl rfl ⟨Nat.le_of_ble_eq_true rfl, Nat.le_of_ble_eq_true rfl⟩ (Nat.le_of_ble_eq_true rfl) ⟨rfl, rfl⟩ hkn H (fun v109 h108 H => ?_)
        refine go_aload_n (pc := 302) dL_law_302 rfl rfl ?_
        refine go_aload_nS (pc := 303) dL_law_303 rfl rfl ?_
        refine go_iload (pc := 304) dL_law_304 rfl ?_
        refine go_iconst (pc := 306) (v := 1) dL_law_306 (by decide) ?_
        refine go_iadd (pc := 307) dL_law_307 ?_
        refine go_xld (pc := 308) dL_law_308 H (fun v110 H => ?_)
        refine go_aload_nS (pc := 309) dL_law_309 rfl rfl ?_
        refine go_iload (pc := 310) dL_law_310 rfl ?_
        refine go_iconst (pc := 312) (v := 2) dL_law_312 (by decide) ?_
        refine go_iadd (pc := 313) dL_law_313 ?_
        refine go_xld (pc := 314) dL_law_314 H (fun v111 H => ?_)
        refine go_aload_nS (pc := 315) dL_law_315 rfl rfl ?_
        refine go_iload (pc := 316) dL_law_316 rfl ?_
        refine go_iconst (pc := 318) (v := 3) dL_law_318 (by decide) ?_
        refine go_iadd (pc := 319) dL_law_319 ?_
        refine go_xld (pc := 320) dL_law_320 H (fun v112 H => ?_)
        refine go_aload_nS (pc := 321) dL_law_321 rfl rfl ?_
        refine go_iload (pc := 322) dL_law_322 rfl ?_
        refine go_iconst (pc := 324) (v := 4) dL_law_324 (by decide) ?_
        refine go_iadd (pc := 325) dL_law_325 ?_
        refine go_xld (pc := 326) dL_law_326 H (fun v113 H => ?_)
        refine go_aload_nS (pc := 327) dL_law_327 rfl rfl ?_
        refine go_iload (pc := 328) dL_law_328 rfl ?_
        refine go_iconst (pc := 330) (v := 5) dL_law_330 (by decide) ?_
        refine go_iadd (pc := 331) dL_law_331 ?_
        refine go_xld (pc := 332) dL_law_332 H (fun v114 H => ?_)
        refine go_cVi (pc := 333) (Mz := M_X11_feed) (as := [.int v110, .int v111, .int v112, .int v113, .int v114]) (a := a2) (st := [.int v109]) dL_law_333 wd_1466 cv_X11_feed X11_feed_ok rfl rfl ⟨Nat.le_of_ble_eq_true rfl, Nat.le_of_ble_eq_true rfl⟩ (Nat.le_of_ble_eq_true rfl) ⟨rfl, rfl⟩ hkn H (fun v116 h115 H => ?_)
        refine go_icmp_eq (pc := 336) (tgt := 1762) dL_law_336 (by decide) H (fun H => ?_) (fun H => ?_)
        · exact Go.weak (L' := [some (.retAddr 1000), some (.ref a1), some (.ref a2), some (.ref a3), some (.int a4), none, none]) ⟨rfl, ⟨rfl, ⟨rfl, ⟨rfl, ⟨rfl, trivial⟩⟩⟩⟩⟩ (L_law_B1762_ok hKB2 hNB2 _ hrc23 a1 a2 a3 a4 h115 (k) (n) (by omega) (by omega) H)
        · refine go_iconst (pc := 339) (v := 0) dL_law_339 (by decide) ?_
          exact go_lawret (pc := 340) dL_law_340 hkn H
      rw [if_neg c0] at H
      by_cases c1 : v102 = 1
      · rw [if_pos c1] at H
        refine go_tabIn (pc := 40) (off := 301) (tgt := 341) dL_law_40 (by rw [c1]; decide) (by rw [c1]; decide) (by rw [c1]; decide) (by decide) ?_
        refine go_aload_n (pc := 341) dL_law_341 rfl rfl ?_
        refine go_aload_nS (pc := 342) dL_law_342 rfl rfl ?_
        refine go_iload (pc := 343) dL_law_343 rfl ?_
        refine go_iconst (pc := 345) (v := 1) dL_law_345 (by decide) ?_
        refine go_iadd (pc := 346) dL_law_346 ?_
        refine go_xld (pc := 347) dL_law_347 H (fun v117 H => ?_)
        refine go_cVi (pc := 348) (Mz := M_X10_voyage) (as := [.int v117]) (a := a1) (st := []) dL_law_348 wd_507 cv_X10_voyage X10_voyage_ok rfl rfl ⟨Nat.le_of_ble_eq_true rfl, Nat.le_of_ble_eq_true rfl⟩ (Nat.le_of_ble_eq_true rfl) ⟨rfl, rfl⟩ hkn H (fun v119 h118 H => ?_)
        refine go_aload_n (pc := 351) dL_law_351 rfl rfl ?_
        refine go_aload_nS (pc := 352) dL_law_352 rfl rfl ?_
        refine go_iload (pc := 353) dL_law_353 rfl ?_
        refine go_iconst (pc := 355) (v := 1) dL_law_355 (by decide) ?_
        refine go_iadd (pc := 356) dL_law_356 ?_
        refine go_xld (pc := 357) dL_law_357 H (fun v120 H => ?_)
        refine go_cVi (pc := 358) (Mz := M_X11_voyage) (as := [.int v120]) (a := a2) (st := [.int v119]) dL_law_358 wd_1470 cv_X11_voyage X11_voyage_ok rfl rfl ⟨Nat.le_of_ble_eq_true rfl, Nat.le_of_ble_eq_true rfl⟩ (Nat.le_of_ble_eq_true rfl) ⟨rfl, rfl⟩ hkn H (fun v122 h121 H => ?_)
        refine go_icmp_eq (pc := 361) (tgt := 1762) dL_law_361 (by decide) H (fun H => ?_) (fun H => ?_)
        · exact Go.weak (L' := [some (.retAddr 1000), some (.ref a1), some (.ref a2), some (.ref a3), some (.int a4), none, none]) ⟨rfl, ⟨rfl, ⟨rfl, ⟨rfl, ⟨rfl, trivial⟩⟩⟩⟩⟩ (L_law_B1762_ok hKB2 hNB2 _ hrc23 a1 a2 a3 a4 h121 (k) (n) (by omega) (by omega) H)
        · refine go_iconst (pc := 364) (v := 0) dL_law_364 (by decide) ?_
          exact go_lawret (pc := 365) dL_law_365 hkn H
      rw [if_neg c1] at H
      by_cases c2 : v102 = 2
      · rw [if_pos c2] at H
        refine go_tabIn (pc := 40) (off := 326) (tgt := 366) dL_law_40 (by rw [c2]; decide) (by rw [c2]; decide) (by rw [c2]; decide) (by decide) ?_
        refine go_aload_n (pc := 366) dL_law_366 rfl rfl ?_
        refine go_cVi (pc := 367) (Mz := M_X10_fault) (as := []) (a := a1) (st := []) dL_law_367 wd_737 cv_X10_fault X10_fault_ok rfl rfl ⟨Nat.le_of_ble_eq_true rfl, Nat.le_of_ble_eq_true rfl⟩ (Nat.le_of_ble_eq_true rfl) ⟨rfl, rfl⟩ hkn H (fun v124 h123 H => ?_)
        refine go_aload_n (pc := 370) dL_law_370 rfl rfl ?_
        refine go_cVi (pc := 371) (Mz := M_X11_fault) (as := []) (a := a2) (st := [.int v124]) dL_law_371 wd_1614 cv_X11_fault X11_fault_ok rfl rfl ⟨Nat.le_of_ble_eq_true rfl, Nat.le_of_ble_eq_true rfl⟩ (Nat.le_of_ble_eq_true rfl) ⟨rfl, rfl⟩ hkn H (fun v126 h125 H => ?_)
        refine go_icmp_eq (pc := 374) (tgt := 1762) dL_law_374 (by decide) H (fun H => ?_) (fun H => ?_)
        · exact Go.weak (L' := [some (.retAddr 1000), some (.ref a1), some (.ref a2), some (.ref a3), some (.int a4), none, none]) ⟨rfl, ⟨rfl, ⟨rfl, ⟨rfl, ⟨rfl, trivial⟩⟩⟩⟩⟩ (L_law_B1762_ok hKB2 hNB2 _ hrc23 a1 a2 a3 a4 h125 (k) (n) (by omega) (by omega) H)
        · refine go_iconst (pc := 377) (v := 0) dL_law_377 (by decide) ?_
          exact go_lawret (pc := 378) dL_law_378 hkn H
      rw [if_neg c2] at H
      by_cases c3 : v102 = 3
      · rw [if_pos c3] at H
        refine go_tabIn (pc := 40) (off := 339) (tgt := 379) dL_law_40 (by rw [c3]; decide) (by rw [c3]; decide) (by rw [c3]; decide) (by decide) ?_
        refine go_aload_n (pc := 379) dL_law_379 rfl rfl ?_
        refine go_cVi (pc := 380) (Mz := M_X10_where) (as := []) (a := a1) (st := []) dL_law_380 wd_741 cv_X10_where X10_where_ok rfl rfl ⟨Nat.le_of_ble_eq_true rfl, Nat.le_of_ble_eq_true rfl⟩ (Nat.le_of_ble_eq_true rfl) ⟨rfl, rfl⟩ hkn H (fun v128 h127 H => ?_)
        refine go_aload_n (pc := 383) dL_law_383 rfl rfl ?_
        refine go_cVi (pc := 384) (Mz := M_X11_where) (as := []) (a := a2) (st := [.int v128]) dL_law_384 wd_1618 cv_X11_where X11_where_ok rfl rfl ⟨Nat.le_of_ble_eq_true rfl, Nat.le_of_ble_eq_true rfl⟩ (Nat.le_of_ble_eq_true rfl) ⟨rfl, rfl⟩ hkn H (fun v130 h129 H => ?_)
        refine go_icmp_eq (pc := 387) (tgt := 1762) dL_law_387 (by decide) H (fun H => ?_) (fun H => ?_)
        · exact Go.weak (L' := [some (.retAddr 1000), some (.ref a1), some (.ref a2), some (.ref a3), some (.int a4), none, none]) ⟨rfl, ⟨rfl, ⟨rfl, ⟨rfl, ⟨rfl, trivial⟩⟩⟩⟩⟩ (L_law_B1762_ok hKB2 hNB2 _ hrc23 a1 a2 a3 a4 h129 (k) (n) (by omega) (by omega) H)
        · refine go_iconst (pc := 390) (v := 0) dL_law_390 (by decide) ?_
          exact go_lawret (pc := 391) dL_law_391 hkn H
      rw [if_neg c3] at H
      by_cases c4 : v102 = 4
      · rw [if_pos c4] at H
        refine go_tabIn (pc := 40) (off := 352) (tgt := 392) dL_law_40 (by rw [c4]; decide) (by rw [c4]; decide) (by rw [c4]; decide) (by decide) ?_
        refine go_aload_n (pc := 392) dL_law_392 rfl rfl ?_
        refine go_aload_nS (pc := 393) dL_law_393 rfl rfl ?_
        refine go_iload (pc := 394) dL_law_394 rfl ?_
        refine go_iconst (pc := 396) (v := 1) dL_law_396 (by decide) ?_
        refine go_iadd (pc := 397) dL_law_397 ?_
        refine go_xld (pc := 398) dL_law_398 H (fun v131 H => ?_)
        refine go_aload_nS (pc := 399) dL_law_399 rfl rfl ?_
        refine go_iload (pc := 400) dL_law_400 rfl ?_
        refine go_iconst (pc := 402) (v := 2) dL_law_402 (by decide) ?_
        refine go_iadd (pc := 403) dL_law_403 ?_
        refine go_xld (pc := 404) dL_law_404 H (fun v132 H => ?_)
        refine go_cVi (pc := 405) (Mz := M_X10_watch) (as := [.int v131, .int v132]) (a := a1) (st := []) dL_law_405 wd_745 cv_X10_watch X10_watch_ok rfl rfl ⟨Nat.le_of_ble_eq_true rfl, Nat.le_of_ble_eq_true rfl⟩ (Nat.le_of_ble_eq_true rfl) ⟨rfl, rfl⟩ hkn H (fun v134 h133 H => ?_)
        refine go_aload_n (pc := 408) dL_law_408 rfl rfl ?_
        refine go_aload_nS (pc := 409) dL_law_409 rfl rfl ?_
        refine go_iload (pc := 410) dL_law_410 rfl ?_
        refine go_iconst (pc := 412) (v := 1) dL_law_412 (by decide) ?_
        refine go_iadd (pc := 413) dL_law_413 ?_
        refine go_xld (pc := 414) dL_law_414 H (fun v135 H => ?_)
        refine go_aload_nS (pc := 415) dL_law_415 rfl rfl ?_
        refine go_iload (pc := 416) dL_law_416 rfl ?_
        refine go_iconst (pc := 418) (v := 2) dL_law_418 (by decide) ?_
        refine go_iadd (pc := 419) dL_law_419 ?_
        refine go_xld (pc := 420) dL_law_420 H (fun v136 H => ?_)
        refine go_cVi (pc := 421) (Mz := M_X11_watch) (as := [.int v135, .int v136]) (a := a2) (st := [.int v134]) dL_law_421 wd_1622 cv_X11_watch X11_watch_ok rfl rfl ⟨Nat.le_of_ble_eq_true rfl, Nat.le_of_ble_eq_true rfl⟩ (Nat.le_of_ble_eq_true rfl) ⟨rfl, rfl⟩ hkn H (fun v138 h137 H => ?_)
        refine go_icmp_eq (pc := 424) (tgt := 1762) dL_law_424 (by decide) H (fun H => ?_) (fun H => ?_)
        · exact Go.weak (L' := [some (.retAddr 1000), some (.ref a1), some (.ref a2), some (.ref a3), some (.int a4), none, none]) ⟨rfl, ⟨rfl, ⟨rfl, ⟨rfl, ⟨rfl, trivial⟩⟩⟩⟩⟩ (L_law_B1762_ok hKB2 hNB2 _ hrc23 a1 a2 a3 a4 h137 (k) (n) (by omega) (by omega) H)
        · refine go_iconst (pc := 427) (v := 0) dL_law_427 (by decide) ?_
          exact go_lawret (pc := 428) dL_law_428 hkn H
      rw [if_neg c4] at H
      by_cases c5 : v102 = 5
      · rw [if_pos c5] at H
        refine go_tabIn (pc := 40) (off := 389) (tgt := 429) dL_law_40 (by rw [c5]; decide) (by rw [c5]; decide) (by rw [c5]; decide) (by decide) ?_
        refine go_aload_n (pc := 429) dL_law_429 rfl rfl ?_
        refine go_aload_nS (pc := 430) dL_law_430 rfl rfl ?_
        refine go_iload (pc := 431) dL_law_431 rfl ?_
        refine go_iconst (pc := 433) (v := 1) dL_law_433 (by decide) ?_
        refine go_iadd (pc := 434) dL_law_434 ?_
        refine go_xld (pc := 435) dL_law_435 H (fun v139 H => ?_)
        refine go_aload_nS (pc := 436) dL_law_436 rfl rfl ?_
        refine go_iload (pc := 437) dL_law_437 rfl ?_
        refine go_iconst (pc := 439) (v := 2) dL_law_439 (by decide) ?_
        refine go_iadd (pc := 440) dL_law_440 ?_
        refine go_xld (pc := 441) dL_law_441 H (fun v140 H => ?_)
        refine go_cVi (pc := 442) (Mz := M_X10_boy) (as := [.int v139, .int v140]) (a := a1) (st := []) dL_law_442 wd_759 cv_X10_boy X10_boy_ok rfl rfl ⟨Nat.le_of_ble_eq_true rfl, Nat.le_of_ble_eq_true rfl⟩ (Nat.le_of_ble_eq_true rfl) ⟨rfl, rfl⟩ hkn H (fun v142 h141 H => ?_)
        refine go_aload_n (pc := 445) dL_law_445 rfl rfl ?_
        refine go_aload_nS (pc := 446) dL_law_446 rfl rfl ?_
        refine go_iload (pc := 447) dL_law_447 rfl ?_
        refine go_iconst (pc := 449) (v := 1) dL_law_449 (by decide) ?_
        refine go_iadd (pc := 450) dL_law_450 ?_
        refine go_xld (pc := 451) dL_law_451 H (fun v143 H => ?_)
        refine go_aload_nS (pc := 452) dL_law_452 rfl rfl ?_
        refine go_iload (pc := 453) dL_law_453 rfl ?_
        refine go_iconst (pc := 455) (v := 2) dL_law_455 (by decide) ?_
        refine go_iadd (pc := 456) dL_law_456 ?_
        refine go_xld (pc := 457) dL_law_457 H (fun v144 H => ?_)
        refine go_cVi (pc := 458) (Mz := M_X11_boy) (as := [.int v143, .int v144]) (a := a2) (st := [.int v142]) dL_law_458 wd_1645 cv_X11_boy X11_boy_ok rfl rfl ⟨Nat.le_of_ble_eq_true rfl, Nat.le_of_ble_eq_true rfl⟩ (Nat.le_of_ble_eq_true rfl) ⟨rfl, rfl⟩ hkn H (fun v146 h145 H => ?_)
        refine go_icmp_eq (pc := 461) (tgt := 1762) dL_law_461 (by decide) H (fun H => ?_) (fun H => ?_)
        · exact Go.weak (L' := [some (.retAddr 1000), some (.ref a1), some (.ref a2), some (.ref a3), some (.int a4), none, none]) ⟨rfl, ⟨rfl, ⟨rfl, ⟨rfl, ⟨rfl, trivial⟩⟩⟩⟩⟩ (L_law_B1762_ok hKB2 hNB2 _ hrc23 a1 a2 a3 a4 h145 (k) (n) (by omega) (by omega) H)
        · refine go_iconst (pc := 464) (v := 0) dL_law_464 (by decide) ?_
          exact go_lawret (pc := 465) dL_law_465 hkn H
      rw [if_neg c5] at H
      by_cases c6 : v102 = 6
      · rw [if_pos c6] at H
        refine go_tabIn (pc := 40) (off := 426) (tgt := 466) dL_law_40 (by rw [c6]; decide) (by rw [c6]; decide) (by rw [c6]; decide) (by decide) ?_
        refine go_aload_n (pc := 466) dL_law_466 rfl rfl ?_
        refine go_aload_nS (pc := 467) dL_law_467 rfl rfl ?_
        refine go_iload (pc := 468) dL_law_468 rfl ?_
        refine go_iconst (pc := 470) (v := 1) dL_law_470 (by decide) ?_
        refine go_iadd (pc := 471) dL_law_471 ?_
        refine go_xld (pc := 472) dL_law_472 H (fun v147 H => ?_)
        refine go_aload_nS (pc := 473) dL_law_473 rfl rfl ?_
        refine go_iload (pc := 474) dL_law_474 rfl ?_
        refine go_iconst (pc := 476) (v := 2) dL_law_476 (by decide) ?_
        refine go_iadd (pc := 477) dL_law_477 ?_
        refine go_xld (pc := 478) dL_law_478 H (fun v148 H => ?_)
        refine go_cVi (pc := 479) (Mz := M_X10_officer) (as := [.int v147, .int v148]) (a := a1) (st := []) dL_law_479 wd_790 cv_X10_officer X10_officer_ok rfl rfl ⟨Nat.le_of_ble_eq_true rfl, Nat.le_of_ble_eq_true rfl⟩ (Nat.le_of_ble_eq_true rfl) ⟨rfl, rfl⟩ hkn H (fun v150 h149 H => ?_)
        refine go_aload_n (pc := 482) dL_law_482 rfl rfl ?_
        refine go_aload_nS (pc := 483) dL_law_483 rfl rfl ?_
        refine go_iload (pc := 484) dL_law_484 rfl ?_
        refine go_iconst (pc := 486) (v := 1) dL_law_486 (by decide) ?_
        refine go_iadd (pc := 487) dL_law_487 ?_
        refine go_xld (pc := 488) dL_law_488 H (fun v151 H => ?_)
        refine go_aload_nS (pc := 489) dL_law_489 rfl rfl ?_
        refine go_iload (pc := 490) dL_law_490 rfl ?_
        refine go_iconst (pc := 492) (v := 2) dL_law_492 (by decide) ?_
        refine go_iadd (pc := 493) dL_law_493 ?_
        refine go_xld (pc := 494) dL_law_494 H (fun v152 H => ?_)
        refine go_cVi (pc := 495) (Mz := M_X11_officer) (as := [.int v151, .int v152]) (a := a2) (st := [.int v150]) dL_law_495 wd_1682 cv_X11_officer X11_officer_ok rfl rfl ⟨Nat.le_of_ble_eq_true rfl, Nat.le_of_ble_eq_true rfl⟩ (Nat.le_of_ble_eq_true rfl) ⟨rfl, rfl⟩ hkn H (fun v154 h153 H => ?_)
        refine go_icmp_eq (pc := 498) (tgt := 1762) dL_law_498 (by decide) H (fun H => ?_) (fun H => ?_)
        · exact Go.weak (L' := [some (.retAddr 1000), some (.ref a1), some (.ref a2), some (.ref a3), some (.int a4), none, none]) ⟨rfl, ⟨rfl, ⟨rfl, ⟨rfl, ⟨rfl, trivial⟩⟩⟩⟩⟩ (L_law_B1762_ok hKB2 hNB2 _ hrc23 a1 a2 a3 a4 h153 (k) (n) (by omega) (by omega) H)
        · refine go_iconst (pc := 501) (v := 0) dL_law_501 (by decide) ?_
          exact go_lawret (pc := 502) dL_law_502 hkn H
      rw [if_neg c6] at H
      by_cases c7 : v102 = 7
      · rw [if_pos c7] at H
        refine go_tabIn (pc := 40) (off := 463) (tgt := 503) dL_law_40 (by rw [c7]; decide) (by rw [c7]; decide) (by rw [c7]; decide) (by decide) ?_
        refine go_aload_n (pc := 503) dL_law_503 rfl rfl ?_
        refine go_aload_nS (pc := 504) dL_law_504 rfl rfl ?_
        refine go_iload (pc := 505) dL_law_505 rfl ?_
        refine go_iconst (pc := 507) (v := 1) dL_law_507 (by decide) ?_
        refine go_iadd (pc := 508) dL_law_508 ?_
        refine go_xld (pc := 509) dL_law_509 H (fun v155 H => ?_)
        refine go_aload_nS (pc := 510) dL_law_510 rfl rfl ?_
        refine go_iload (pc := 511) dL_law_511 rfl ?_
        refine go_iconst (pc := 513) (v := 2) dL_law_513 (by decide) ?_
        refine go_iadd (pc := 514) dL_law_514 ?_
        refine go_xld (pc := 515) dL_law_515 H (fun v156 H => ?_)
        refine go_cVi (pc := 516) (Mz := M_X10_glass) (as := [.int v155, .int v156]) (a := a1) (st := []) dL_law_516 wd_794 cv_X10_glass X10_glass_ok rfl rfl ⟨Nat.le_of_ble_eq_true rfl, Nat.le_of_ble_eq_true rfl⟩ (Nat.le_of_ble_eq_true rfl) ⟨rfl, rfl⟩ hkn H (fun v158 h157 H => ?_)
        refine go_aload_n (pc := 519) dL_law_519 rfl rfl ?_
        refine go_aload_nS (pc := 520) dL_law_520 rfl rfl ?_
        refine go_iload (pc := 521) dL_law_521 rfl ?_
        refine go_iconst (pc := 523) (v := 1) dL_law_523 (by decide) ?_
        refine go_iadd (pc := 524) dL_law_524 ?_
        refine go_xld (pc := 525) dL_law_525 H (fun v159 H => ?_)
        refine go_aload_nS (pc := 526) dL_law_526 rfl rfl ?_
        refine go_iload (pc := 527) dL_law_527 rfl ?_
        refine go_iconst (pc := 529) (v := 2) dL_law_529 (by decide) ?_
        refine go_iadd (pc := 530) dL_law_530 ?_
        refine go_xld (pc := 531) dL_law_531 H (fun v160 H => ?_)
        refine go_cVi (pc := 532) (Mz := M_X11_glass) (as := [.int v159, .int v160]) (a := a2) (st := [.int v158]) dL_law_532 wd_1686 cv_X11_glass X11_glass_ok rfl rfl ⟨Nat.le_of_ble_eq_true rfl, Nat.le_of_ble_eq_true rfl⟩ (Nat.le_of_ble_eq_true rfl) ⟨rfl, rfl⟩ hkn H (fun v162 h161 H => ?_)
        refine go_icmp_eq (pc := 535) (tgt := 1762) dL_law_535 (by decide) H (fun H => ?_) (fun H => ?_)
        · exact Go.weak (L' := [some (.retAddr 1000), some (.ref a1), some (.ref a2), some (.ref a3), some (.int a4), none, none]) ⟨rfl, ⟨rfl, ⟨rfl, ⟨rfl, ⟨rfl, trivial⟩⟩⟩⟩⟩ (L_law_B1762_ok hKB2 hNB2 _ hrc23 a1 a2 a3 a4 h161 (k) (n) (by omega) (by omega) H)
        · refine go_iconst (pc := 538) (v := 0) dL_law_538 (by decide) ?_
          exact go_lawret (pc := 539) dL_law_539 hkn H
      rw [if_neg c7] at H
      by_cases c8 : v102 = 8
      · rw [if_pos c8] at H
        refine go_tabIn (pc := 40) (off := 500) (tgt := 540) dL_law_40 (by rw [c8]; decide) (by rw [c8]; decide) (by rw [c8]; decide) (by decide) ?_
        refine go_aload_n (pc := 540) dL_law_540 rfl rfl ?_
        refine go_aload_nS (pc := 541) dL_law_541 rfl rfl ?_
        refine go_iload (pc := 542) dL_law_542 rfl ?_
        refine go_iconst (pc := 544) (v := 1) dL_law_544 (by decide) ?_
        refine go_iadd (pc := 545) dL_law_545 ?_
        refine go_xld (pc := 546) dL_law_546 H (fun v163 H => ?_)
        refine go_cVi (pc := 547) (Mz := M_X10_stolen) (as := [.int v163]) (a := a1) (st := []) dL_law_547 wd_805 cv_X10_stolen X10_stolen_ok rfl rfl ⟨Nat.le_of_ble_eq_true rfl, Nat.le_of_ble_eq_true rfl⟩ (Nat.le_of_ble_eq_true rfl) ⟨rfl, rfl⟩ hkn H (fun v165 h164 H => ?_)
        refine go_aload_n (pc := 550) dL_law_550 rfl rfl ?_
        refine go_aload_nS (pc := 551) dL_law_551 rfl rfl ?_
        refine go_iload (pc := 552) dL_law_552 rfl ?_
        refine go_iconst (pc := 554) (v := 1) dL_law_554 (by decide) ?_
        refine go_iadd (pc := 555) dL_law_555 ?_
        refine go_xld (pc := 556) dL_law_556 H (fun v166 H => ?_)
        refine go_cVi (pc := 557) (Mz := M_X11_stolen) (as := [.int v166]) (a := a2) (st := [.int v165]) dL_law_557 wd_1694 cv_X11_stolen X11_stolen_ok rfl rfl ⟨Nat.le_of_ble_eq_true rfl, Nat.le_of_ble_eq_true rfl⟩ (Nat.le_of_ble_eq_true rfl) ⟨rfl, rfl⟩ hkn H (fun v168 h167 H => ?_)
        refine go_icmp_eq (pc := 560) (tgt := 1762) dL_law_560 (by decide) H (fun H => ?_) (fun H => ?_)
        · exact Go.weak (L' := [some (.retAddr 1000), some (.ref a1), some (.ref a2), some (.ref a3), some (.int a4), none, none]) ⟨rfl, ⟨rfl, ⟨rfl, ⟨rfl, ⟨rfl, trivial⟩⟩⟩⟩⟩ (L_law_B1762_ok hKB2 hNB2 _ hrc23 a1 a2 a3 a4 h167 (k) (n) (by omega) (by omega) H)
        · refine go_iconst (pc := 563) (v := 0) dL_law_563 (by decide) ?_
          exact go_lawret (pc := 564) dL_law_564 hkn H
      rw [if_neg c8] at H
      by_cases c9 : v102 = 9
      · rw [if_pos c9] at H
        refine go_tabIn (pc := 40) (off := 525) (tgt := 565) dL_law_40 (by rw [c9]; decide) (by rw [c9]; decide) (by rw [c9]; decide) (by decide) ?_
        refine go_aload_n (pc := 565) dL_law_565 rfl rfl ?_
        refine go_aload_nS (pc := 566) dL_law_566 rfl rfl ?_
        refine go_iload (pc := 567) dL_law_567 rfl ?_
        refine go_iconst (pc := 569) (v := 1) dL_law_569 (by decide) ?_
        refine go_iadd (pc := 570) dL_law_570 ?_
        refine go_xld (pc := 571) dL_law_571 H (fun v169 H => ?_)
        refine go_cVi (pc := 572) (Mz := M_X10_stolenBy) (as := [.int v169]) (a := a1) (st := []) dL_law_572 wd_810 cv_X10_stolenBy X10_stolenBy_ok rfl rfl ⟨Nat.le_of_ble_eq_true rfl, Nat.le_of_ble_eq_true rfl⟩ (Nat.le_of_ble_eq_true rfl) ⟨rfl, rfl⟩ hkn H (fun v171 h170 H => ?_)
        refine go_aload_n (pc := 575) dL_law_575 rfl rfl ?_
        refine go_aload_nS (pc := 576) dL_law_576 rfl rfl ?_
        refine go_iload (pc := 577) dL_law_577 rfl ?_
        refine go_iconst (pc := 579) (v := 1) dL_law_579 (by decide) ?_
        refine go_iadd (pc := 580) dL_law_580 ?_
        refine go_xld (pc := 581) dL_law_581 H (fun v172 H => ?_)
        refine go_cVi (pc := 582) (Mz := M_X11_stolenBy) (as := [.int v172]) (a := a2) (st := [.int v171]) dL_law_582 wd_1698 cv_X11_stolenBy X11_stolenBy_ok rfl rfl ⟨Nat.le_of_ble_eq_true rfl, Nat.le_of_ble_eq_true rfl⟩ (Nat.le_of_ble_eq_true rfl) ⟨rfl, rfl⟩ hkn H (fun v174 h173 H => ?_)
        refine go_icmp_eq (pc := 585) (tgt := 1762) dL_law_585 (by decide) H (fun H => ?_) (fun H => ?_)
        · exact Go.weak (L' := [some (.retAddr 1000), some (.ref a1), some (.ref a2), some (.ref a3), some (.int a4), none, none]) ⟨rfl, ⟨rfl, ⟨rfl, ⟨rfl, ⟨rfl, trivial⟩⟩⟩⟩⟩ (L_law_B1762_ok hKB2 hNB2 _ hrc23 a1 a2 a3 a4 h173 (k) (n) (by omega) (by omega) H)
        · refine go_iconst (pc := 588) (v := 0) dL_law_588 (by decide) ?_
          exact go_lawret (pc := 589) dL_law_589 hkn H
      rw [if_neg c9] at H
      by_cases c10 : v102 = 10
      · rw [if_pos c10] at H
        refine go_tabIn (pc := 40) (off := 550) (tgt := 590) dL_law_40 (by rw [c10]; decide) (by rw [c10]; decide) (by rw [c10]; decide) (by decide) ?_
        refine go_aload_n (pc := 590) dL_law_590 rfl rfl ?_
        refine go_cVi (pc := 591) (Mz := M_X10_thief) (as := []) (a := a1) (st := []) dL_law_591 wd_827 cv_X10_thief X10_thief_ok rfl rfl ⟨Nat.le_of_ble_eq_true rfl, Nat.le_of_ble_eq_true rfl⟩ (Nat.le_of_ble_eq_true rfl) ⟨rfl, rfl⟩ hkn H (fun v176 h175 H => ?_)
        refine go_aload_n (pc := 594) dL_law_594 rfl rfl ?_
        refine go_cVi (pc := 595) (Mz := M_X11_thief) (as := []) (a := a2) (st := [.int v176]) dL_law_595 wd_1710 cv_X11_thief X11_thief_ok rfl rfl ⟨Nat.le_of_ble_eq_true rfl, Nat.le_of_ble_eq_true rfl⟩ (Nat.le_of_ble_eq_true rfl) ⟨rfl, rfl⟩ hkn H (fun v178 h177 H => ?_)
        refine go_icmp_eq (pc := 598) (tgt := 1762) dL_law_598 (by decide) H (fun H => ?_) (fun H => ?_)
        · exact Go.weak (L' := [some (.retAddr 1000), some (.ref a1), some (.ref a2), some (.ref a3), some (.int a4), none, none]) ⟨rfl, ⟨rfl, ⟨rfl, ⟨rfl, ⟨rfl, trivial⟩⟩⟩⟩⟩ (L_law_B1762_ok hKB2 hNB2 _ hrc23 a1 a2 a3 a4 h177 (k) (n) (by omega) (by omega) H)
        · refine go_iconst (pc := 601) (v := 0) dL_law_601 (by decide) ?_
          exact go_lawret (pc := 602) dL_law_602 hkn H
      rw [if_neg c10] at H
      by_cases c11 : v102 = 11
      · rw [if_pos c11] at H
        refine go_tabIn (pc := 40) (off := 563) (tgt := 603) dL_law_40 (by rw [c11]; decide) (by rw [c11]; decide) (by rw [c11]; decide) (by decide) ?_
        refine go_aload_n (pc := 603) dL_law_603 rfl rfl ?_
        refine go_cVi (pc := 604) (Mz := M_X10_lostWatch) (as := []) (a := a1) (st := []) dL_law_604 wd_835 cv_X10_lostWatch X10_lostWatch_ok rfl rfl ⟨Nat.le_of_ble_eq_true rfl, Nat.le_of_ble_eq_true rfl⟩ (Nat.le_of_ble_eq_true rfl) ⟨rfl, rfl⟩ hkn H (fun v180 h179 H => ?_)
        refine go_aload_n (pc := 607) dL_law_607 rfl rfl ?_
        refine go_cVi (pc := 608) (Mz := M_X11_lostWatch) (as := []) (a := a2) (st := [.int v180]) dL_law_608 wd_1714 cv_X11_lostWatch X11_lostWatch_ok rfl rfl ⟨Nat.le_of_ble_eq_true rfl, Nat.le_of_ble_eq_true rfl⟩ (Nat.le_of_ble_eq_true rfl) ⟨rfl, rfl⟩ hkn H (fun v182 h181 H => ?_)
        refine go_icmp_eq (pc := 611) (tgt := 1762) dL_law_611 (by decide) H (fun H => ?_) (fun H => ?_)
        · exact Go.weak (L' := [some (.retAddr 1000), some (.ref a1), some (.ref a2), some (.ref a3), some (.int a4), none, none]) ⟨rfl, ⟨rfl, ⟨rfl, ⟨rfl, ⟨rfl, trivial⟩⟩⟩⟩⟩ (L_law_B1762_ok hKB2 hNB2 _ hrc23 a1 a2 a3 a4 h181 (k) (n) (by omega) (by omega) H)
        · refine go_iconst (pc := 614) (v := 0) dL_law_614 (by decide) ?_
          exact go_lawret (pc := 615) dL_law_615 hkn H
      rw [if_neg c11] at H
      by_cases c12 : v102 = 12
      · rw [if_pos c12] at H
        refine go_tabIn (pc := 40) (off := 576) (tgt := 616) dL_law_40 (by rw [c12]; decide) (by rw [c12]; decide) (by rw [c12]; decide) (by decide) ?_
        refine go_aload_n (pc := 616) dL_law_616 rfl rfl ?_
        refine go_aload_nS (pc := 617) dL_law_617 rfl rfl ?_
        refine go_iload (pc := 618) dL_law_618 rfl ?_
        refine go_iconst (pc := 620) (v := 1) dL_law_620 (by decide) ?_
        refine go_iadd (pc := 621) dL_law_621 ?_
        refine go_xld (pc := 622) dL_law_622 H (fun v183 H => ?_)
        refine go_aload_nS (pc := 623) dL_law_623 rfl rfl ?_
        refine go_iload (pc := 624) dL_law_624 rfl ?_
        refine go_iconst (pc := 626) (v := 2) dL_law_626 (by decide) ?_
        refine go_iadd (pc := 627) dL_law_627 ?_
        refine go_xld (pc := 628) dL_law_628 H (fun v184 H => ?_)
        refine go_if_eq (pc := 629) (tgt := 636) dL_law_629 (by decide) H (fun H => ?_) (fun H => ?_)
        · refine go_iconst (pc := 636) (v := 0) dL_law_636 (by decide) ?_
          exact Go.weak (L' := [some (.retAddr 1000), some (.ref a1), some (.ref a2), some (.ref a3), some (.int a4), none, none]) ⟨rfl, ⟨rfl, ⟨rfl, ⟨rfl, ⟨rfl, trivial⟩⟩⟩⟩⟩ (L_law_B637_ok hKB2 hNB2 _ hrc23 a1 a2 a3 a4 a1 v183 0 h (k) (n) (by omega) (by omega) H)
        · refine go_iconst (pc := 632) (v := 1) dL_law_632 (by decide) ?_
          refine go_goto (pc := 633) (tgt := 637) dL_law_633 (by decide) ?_
          exact Go.weak (L' := [some (.retAddr 1000), some (.ref a1), some (.ref a2), some (.ref a3), some (.int a4), none, none]) ⟨rfl, ⟨rfl, ⟨rfl, ⟨rfl, ⟨rfl, trivial⟩⟩⟩⟩⟩ (L_law_B637_ok hKB2 hNB2 _ hrc23 a1 a2 a3 a4 a1 v183 1 h (k) (n) (by omega) (by omega) H)
      rw [if_neg c12] at H
      by_cases c13 : v102 = 13
      · rw [if_pos c13] at H
        refine go_tabIn (pc := 40) (off := 629) (tgt := 669) dL_law_40 (by rw [c13]; decide) (by rw [c13]; decide) (by rw [c13]; decide) (by decide) ?_
        refine go_aload_n (pc := 669) dL_law_669 rfl rfl ?_
        refine go_aload_nS (pc := 670) dL_law_670 rfl rfl ?_
        refine go_iload (pc := 671) dL_law_671 rfl ?_
        refine go_iconst (pc := 673) (v := 1) dL_law_673 (by decide) ?_
        refine go_iadd (pc := 674) dL_law_674 ?_
        refine go_xld (pc := 675) dL_law_675 H (fun v185 H => ?_)
        refine go_aload_nS (pc := 676) dL_law_676 rfl rfl ?_
        refine go_iload (pc := 677) dL_law_677 rfl ?_
        refine go_iconst (pc := 679) (v := 2) dL_law_679 (by decide) ?_
        refine go_iadd (pc := 680) dL_law_680 ?_
        refine go_xld (pc := 681) dL_law_681 H (fun v186 H => ?_)
        refine go_if_eq (pc := 682) (tgt := 689) dL_law_682 (by decide) H (fun H => ?_) (fun H => ?_)
        · refine go_iconst (pc := 689) (v := 0) dL_law_689 (by decide) ?_
          exact Go.weak (L' := [some (.retAddr 1000), some (.ref a1), some (.ref a2), some (.ref a3), some (.int a4), none, none]) ⟨rfl, ⟨rfl, ⟨rfl, ⟨rfl, ⟨rfl, trivial⟩⟩⟩⟩⟩ (L_law_B690_ok hKB2 hNB2 _ hrc23 a1 a2 a3 a4 a1 v185 0 h (k) (n) (by omega) (by omega) H)
        · refine go_iconst (pc := 685) (v := 1) dL_law_685 (by decide) ?_
          refine go_goto (pc := 686) (tgt := 690) dL_law_686 (by decide) ?_
          exact Go.weak (L' := [some (.retAddr 1000), some (.ref a1), some (.ref a2), some (.ref a3), some (.int a4), none, none]) ⟨rfl, ⟨rfl, ⟨rfl, ⟨rfl, ⟨rfl, trivial⟩⟩⟩⟩⟩ (L_law_B690_ok hKB2 hNB2 _ hrc23 a1 a2 a3 a4 a1 v185 1 h (k) (n) (by omega) (by omega) H)
      rw [if_neg c13] at H
      by_cases c14 : v102 = 14
      · rw [if_pos c14] at H
        refine go_tabIn (pc := 40) (off := 682) (tgt := 722) dL_law_40 (by rw [c14]; decide) (by rw [c14]; decide) (by rw [c14]; decide) (by decide) ?_
        refine go_aload_n (pc := 722) dL_law_722 rfl rfl ?_
        refine go_aload_nS (pc := 723) dL_law_723 rfl rfl ?_
        refine go_iload (pc := 724) dL_law_724 rfl ?_
        refine go_iconst (pc := 726) (v := 1) dL_law_726 (by decide) ?_
        refine go_iadd (pc := 727) dL_law_727 ?_
        refine go_xld (pc := 728) dL_law_728 H (fun v187 H => ?_)
        refine go_cVi (pc := 729) (Mz := M_X10_error) (as := [.int v187]) (a := a1) (st := []) dL_law_729 wd_873 cv_X10_error X10_error_ok rfl rfl ⟨Nat.le_of_ble_eq_true rfl, Nat.le_of_ble_eq_true rfl⟩ (Nat.le_of_ble_eq_true rfl) ⟨rfl, rfl⟩ hkn H (fun v189 h188 H => ?_)
        refine go_aload_n (pc := 732) dL_law_732 rfl rfl ?_
        refine go_aload_nS (pc := 733) dL_law_733 rfl rfl ?_
        refine go_iload (pc := 734) dL_law_734 rfl ?_
        refine go_iconst (pc := 736) (v := 1) dL_law_736 (by decide) ?_
        refine go_iadd (pc := 737) dL_law_737 ?_
        refine go_xld (pc := 738) dL_law_738 H (fun v190 H => ?_)
        refine go_cVi (pc := 739) (Mz := M_X11_error) (as := [.int v190]) (a := a2) (st := [.int v189]) dL_law_739 wd_1727 cv_X11_error X11_error_ok rfl rfl ⟨Nat.le_of_ble_eq_true rfl, Nat.le_of_ble_eq_true rfl⟩ (Nat.le_of_ble_eq_true rfl) ⟨rfl, rfl⟩ hkn H (fun v192 h191 H => ?_)
        refine go_icmp_eq (pc := 742) (tgt := 1762) dL_law_742 (by decide) H (fun H => ?_) (fun H => ?_)
        · exact Go.weak (L' := [some (.retAddr 1000), some (.ref a1), some (.ref a2), some (.ref a3), some (.int a4), none, none]) ⟨rfl, ⟨rfl, ⟨rfl, ⟨rfl, ⟨rfl, trivial⟩⟩⟩⟩⟩ (L_law_B1762_ok hKB2 hNB2 _ hrc23 a1 a2 a3 a4 h191 (k) (n) (by omega) (by omega) H)
        · refine go_iconst (pc := 745) (v := 0) dL_law_745 (by decide) ?_
          exact go_lawret (pc := 746) dL_law_746 hkn H
      rw [if_neg c14] at H
      by_cases c15 : v102 = 15
      · rw [if_pos c15] at H
        refine go_tabIn (pc := 40) (off := 707) (tgt := 747) dL_law_40 (by rw [c15]; decide) (by rw [c15]; decide) (by rw [c15]; decide) (by decide) ?_
        refine go_aload_n (pc := 747) dL_law_747 rfl rfl ?_
        refine go_cVi (pc := 748) (Mz := M_X10_worst) (as := []) (a := a1) (st := []) dL_law_748 wd_884 cv_X10_worst X10_worst_ok rfl rfl ⟨Nat.le_of_ble_eq_true rfl, Nat.le_of_ble_eq_true rfl⟩ (Nat.le_of_ble_eq_true rfl) ⟨rfl, rfl⟩ hkn H (fun v194 h193 H => ?_)
        refine go_aload_n (pc := 751) dL_law_751 rfl rfl ?_
        refine go_cVi (pc := 752) (Mz := M_X11_worst) (as := []) (a := a2) (st := [.int v194]) dL_law_752 wd_1738 cv_X11_worst X11_worst_ok rfl rfl ⟨Nat.le_of_ble_eq_true rfl, Nat.le_of_ble_eq_true rfl⟩ (Nat.le_of_ble_eq_true rfl) ⟨rfl, rfl⟩ hkn H (fun v196 h195 H => ?_)
        refine go_icmp_eq (pc := 755) (tgt := 1762) dL_law_755 (by decide) H (fun H => ?_) (fun H => ?_)
        · exact Go.weak (L' := [some (.retAddr 1000), some (.ref a1), some (.ref a2), some (.ref a3), some (.int a4), none, none]) ⟨rfl, ⟨rfl, ⟨rfl, ⟨rfl, ⟨rfl, trivial⟩⟩⟩⟩⟩ (L_law_B1762_ok hKB2 hNB2 _ hrc23 a1 a2 a3 a4 h195 (k) (n) (by omega) (by omega) H)
        · refine go_iconst (pc := 758) (v := 0) dL_law_758 (by decide) ?_
          exact go_lawret (pc := 759) dL_law_759 hkn H
      rw [if_neg c15] at H
      by_cases c16 : v102 = 16
      · rw [if_pos c16] at H
        refine go_tabIn (pc := 40) (off := 720) (tgt := 760) dL_law_40 (by rw [c16]; decide) (by rw [c16]; decide) (by rw [c16]; decide) (by decide) ?_
        refine go_aload_n (pc := 760) dL_law_760 rfl rfl ?_
        refine go_aload_nS (pc := 761) dL_law_761 rfl rfl ?_
        refine go_iload (pc := 762) dL_law_762 rfl ?_
        refine go_iconst (pc := 764) (v := 1) dL_law_764 (by decide) ?_
        refine go_iadd (pc := 765) dL_law_765 ?_
        refine go_xld (pc := 766) dL_law_766 H (fun v197 H => ?_)
        refine go_cVi (pc := 767) (Mz := M_X10_square) (as := [.int v197]) (a := a1) (st := []) dL_law_767 wd_890 cv_X10_square X10_square_ok rfl rfl ⟨Nat.le_of_ble_eq_true rfl, Nat.le_of_ble_eq_true rfl⟩ (Nat.le_of_ble_eq_true rfl) ⟨rfl, rfl⟩ hkn H (fun v199 h198 H => ?_)
        refine go_aload_n (pc := 770) dL_law_770 rfl rfl ?_
        refine go_aload_nS (pc := 771) dL_law_771 rfl rfl ?_
        refine go_iload (pc := 772) dL_law_772 rfl ?_
        refine go_iconst (pc := 774) (v := 1) dL_law_774 (by decide) ?_
        refine go_iadd (pc := 775) dL_law_775 ?_
        refine go_xld (pc := 776) dL_law_776 H (fun v200 H => ?_)
        refine go_cVi (pc := 777) (Mz := M_X11_square) (as := [.int v200]) (a := a2) (st := [.int v199]) dL_law_777 wd_1742 cv_X11_square X11_square_ok rfl rfl ⟨Nat.le_of_ble_eq_true rfl, Nat.le_of_ble_eq_true rfl⟩ (Nat.le_of_ble_eq_true rfl) ⟨rfl, rfl⟩ hkn H (fun v202 h201 H => ?_)
        refine go_icmp_eq (pc := 780) (tgt := 1762) dL_law_780 (by decide) H (fun H => ?_) (fun H => ?_)
        · exact Go.weak (L' := [some (.retAddr 1000), some (.ref a1), some (.ref a2), some (.ref a3), some (.int a4), none, none]) ⟨rfl, ⟨rfl, ⟨rfl, ⟨rfl, ⟨rfl, trivial⟩⟩⟩⟩⟩ (L_law_B1762_ok hKB2 hNB2 _ hrc23 a1 a2 a3 a4 h201 (k) (n) (by omega) (by omega) H)
        · refine go_iconst (pc := 783) (v := 0) dL_law_783 (by decide) ?_
          exact go_lawret (pc := 784) dL_law_784 hkn H
      rw [if_neg c16] at H
      by_cases c17 : v102 = 17
      · rw [if_pos c17] at H
        refine go_tabIn (pc := 40) (off := 745) (tgt := 785) dL_law_40 (by rw [c17]; decide) (by rw [c17]; decide) (by rw [c17]; decide) (by decide) ?_
        refine go_aload_n (pc := 785) dL_law_785 rfl rfl ?_
        refine go_aload_nS (pc := 786) dL_law_786 rfl rfl ?_
        refine go_iload (pc := 787) dL_law_787 rfl ?_
        refine go_iconst (pc := 789) (v := 1) dL_law_789 (by decide) ?_
        refine go_iadd (pc := 790) dL_law_790 ?_
        refine go_xld (pc := 791) dL_law_791 H (fun v203 H => ?_)
        refine go_cVi (pc := 792) (Mz := M_X10_squareThought) (as := [.int v203]) (a := a1) (st := []) dL_law_792 wd_902 cv_X10_squareThought X10_squareThought_ok rfl rfl ⟨Nat.le_of_ble_eq_true rfl, Nat.le_of_ble_eq_true rfl⟩ (Nat.le_of_ble_eq_true rfl) ⟨rfl, rfl⟩ hkn H (fun v205 h204 H => ?_)
        refine go_aload_n (pc := 795) dL_law_795 rfl rfl ?_
        refine go_aload_nS (pc := 796) dL_law_796 rfl rfl ?_
        refine go_iload (pc := 797) dL_law_797 rfl ?_
        refine go_iconst (pc := 799) (v := 1) dL_law_799 (by decide) ?_
        refine go_iadd (pc := 800) dL_law_800 ?_
        refine go_xld (pc := 801) dL_law_801 H (fun v206 H => ?_)
        refine go_cVi (pc := 802) (Mz := M_X11_squareThought) (as := [.int v206]) (a := a2) (st := [.int v205]) dL_law_802 wd_1756 cv_X11_squareThought X11_squareThought_ok rfl rfl ⟨Nat.le_of_ble_eq_true rfl, Nat.le_of_ble_eq_true rfl⟩ (Nat.le_of_ble_eq_true rfl) ⟨rfl, rfl⟩ hkn H (fun v208 h207 H => ?_)
        refine go_icmp_eq (pc := 805) (tgt := 1762) dL_law_805 (by decide) H (fun H => ?_) (fun H => ?_)
        · exact Go.weak (L' := [some (.retAddr 1000), some (.ref a1), some (.ref a2), some (.ref a3), some (.int a4), none, none]) ⟨rfl, ⟨rfl, ⟨rfl, ⟨rfl, ⟨rfl, trivial⟩⟩⟩⟩⟩ (L_law_B1762_ok hKB2 hNB2 _ hrc23 a1 a2 a3 a4 h207 (k) (n) (by omega) (by omega) H)
        · refine go_iconst (pc := 808) (v := 0) dL_law_808 (by decide) ?_
          exact go_lawret (pc := 809) dL_law_809 hkn H
      rw [if_neg c17] at H
      by_cases c18 : v102 = 18
      · rw [if_pos c18] at H
        refine go_tabIn (pc := 40) (off := 770) (tgt := 810) dL_law_40 (by rw [c18]; decide) (by rw [c18]; decide) (by rw [c18]; decide) (by decide) ?_
        refine go_aload_n (pc := 810) dL_law_810 rfl rfl ?_
        refine go_cVi (pc := 811) (Mz := M_X10_strikes) (as := []) (a := a1) (st := []) dL_law_811 wd_910 cv_X10_strikes X10_strikes_ok rfl rfl ⟨Nat.le_of_ble_eq_true rfl, Nat.le_of_ble_eq_true rfl⟩ (Nat.le_of_ble_eq_true rfl) ⟨rfl, rfl⟩ hkn H (fun v210 h209 H => ?_)
        refine go_aload_n (pc := 814) dL_law_814 rfl rfl ?_
        refine go_cVi (pc := 815) (Mz := M_X11_strikes) (as := []) (a := a2) (st := [.int v210]) dL_law_815 wd_1764 cv_X11_strikes X11_strikes_ok rfl rfl ⟨Nat.le_of_ble_eq_true rfl, Nat.le_of_ble_eq_true rfl⟩ (Nat.le_of_ble_eq_true rfl) ⟨rfl, rfl⟩ hkn H (fun v212 h211 H => ?_)
        refine go_icmp_eq (pc := 818) (tgt := 1762) dL_law_818 (by decide) H (fun H => ?_) (fun H => ?_)
        · exact Go.weak (L' := [some (.retAddr 1000), some (.ref a1), some (.ref a2), some (.ref a3), some (.int a4), none, none]) ⟨rfl, ⟨rfl, ⟨rfl, ⟨rfl, ⟨rfl, trivial⟩⟩⟩⟩⟩ (L_law_B1762_ok hKB2 hNB2 _ hrc23 a1 a2 a3 a4 h211 (k) (n) (by omega) (by omega) H)
        · refine go_iconst (pc := 821) (v := 0) dL_law_821 (by decide) ?_
          exact go_lawret (pc := 822) dL_law_822 hkn H
      rw [if_neg c18] at H
      by_cases c19 : v102 = 19
      · rw [if_pos c19] at H
        refine go_tabIn (pc := 40) (off := 783) (tgt := 823) dL_law_40 (by rw [c19]; decide) (by rw [c19]; decide) (by rw [c19]; decide) (by decide) ?_
        refine go_aload_n (pc := 823) dL_law_823 rfl rfl ?_
        refine go_cVi (pc := 824) (Mz := M_X10_feared) (as := []) (a := a1) (st := []) dL_law_824 wd_922 cv_X10_feared X10_feared_ok rfl rfl ⟨Nat.le_of_ble_eq_true rfl, Nat.le_of_ble_eq_true rfl⟩ (Nat.le_of_ble_eq_true rfl) ⟨rfl, rfl⟩ hkn H (fun v214 h213 H => ?_)
        refine go_aload_n (pc := 827) dL_law_827 rfl rfl ?_
        refine go_cVi (pc := 828) (Mz := M_X11_feared) (as := []) (a := a2) (st := [.int v214]) dL_law_828 wd_1776 cv_X11_feared X11_feared_ok rfl rfl ⟨Nat.le_of_ble_eq_true rfl, Nat.le_of_ble_eq_true rfl⟩ (Nat.le_of_ble_eq_true rfl) ⟨rfl, rfl⟩ hkn H (fun v216 h215 H => ?_)
        refine go_icmp_eq (pc := 831) (tgt := 1762) dL_law_831 (by decide) H (fun H => ?_) (fun H => ?_)
        · exact Go.weak (L' := [some (.retAddr 1000), some (.ref a1), some (.ref a2), some (.ref a3), some (.int a4), none, none]) ⟨rfl, ⟨rfl, ⟨rfl, ⟨rfl, ⟨rfl, trivial⟩⟩⟩⟩⟩ (L_law_B1762_ok hKB2 hNB2 _ hrc23 a1 a2 a3 a4 h215 (k) (n) (by omega) (by omega) H)
        · refine go_iconst (pc := 834) (v := 0) dL_law_834 (by decide) ?_
          exact go_lawret (pc := 835) dL_law_835 hkn H
      rw [if_neg c19] at H
      by_cases c20 : v102 = 20
      · rw [if_pos c20] at H
        refine go_tabIn (pc := 40) (off := 796) (tgt := 836) dL_law_40 (by rw [c20]; decide) (by rw [c20]; decide) (by rw [c20]; decide) (by decide) ?_
        refine go_aload_n (pc := 836) dL_law_836 rfl rfl ?_
        refine go_aload_nS (pc := 837) dL_law_837 rfl rfl ?_
        refine go_iload (pc := 838) dL_law_838 rfl ?_
        refine go_iconst (pc := 840) (v := 1) dL_law_840 (by decide) ?_
        refine go_iadd (pc := 841) dL_law_841 ?_
        refine go_xld (pc := 842) dL_law_842 H (fun v217 H => ?_)
        refine go_cVi (pc := 843) (Mz := M_X10_canBe) (as := [.int v217]) (a := a1) (st := []) dL_law_843 wd_926 cv_X10_canBe X10_canBe_ok rfl rfl ⟨Nat.le_of_ble_eq_true rfl, Nat.le_of_ble_eq_true rfl⟩ (Nat.le_of_ble_eq_true rfl) ⟨rfl, rfl⟩ hkn H (fun v219 h218 H => ?_)
        refine go_aload_n (pc := 846) dL_law_846 rfl rfl ?_
        refine go_aload_nS (pc := 847) dL_law_847 rfl rfl ?_
        refine go_iload (pc := 848) dL_law_848 rfl ?_
        refine go_iconst (pc := 850) (v := 1) dL_law_850 (by decide) ?_
        refine go_iadd (pc := 851) dL_law_851 ?_
        refine go_xld (pc := 852) dL_law_852 H (fun v220 H => ?_)
        refine go_cVi (pc := 853) (Mz := M_X11_canBe) (as := [.int v220]) (a := a2) (st := [.int v219]) dL_law_853 wd_1780 cv_X11_canBe X11_canBe_ok rfl rfl ⟨Nat.le_of_ble_eq_true rfl, Nat.le_of_ble_eq_true rfl⟩ (Nat.le_of_ble_eq_true rfl) ⟨rfl, rfl⟩ hkn H (fun v222 h221 H => ?_)
        refine go_icmp_eq (pc := 856) (tgt := 1762) dL_law_856 (by decide) H (fun H => ?_) (fun H => ?_)
        · exact Go.weak (L' := [some (.retAddr 1000), some (.ref a1), some (.ref a2), some (.ref a3), some (.int a4), none, none]) ⟨rfl, ⟨rfl, ⟨rfl, ⟨rfl, ⟨rfl, trivial⟩⟩⟩⟩⟩ (L_law_B1762_ok hKB2 hNB2 _ hrc23 a1 a2 a3 a4 h221 (k) (n) (by omega) (by omega) H)
        · refine go_iconst (pc := 859) (v := 0) dL_law_859 (by decide) ?_
          exact go_lawret (pc := 860) dL_law_860 hkn H
      rw [if_neg c20] at H
      by_cases c21 : v102 = 21
      · rw [if_pos c21] at H
        refine go_tabIn (pc := 40) (off := 821) (tgt := 861) dL_law_40 (by rw [c21]; decide) (by rw [c21]; decide) (by rw [c21]; decide) (by decide) ?_
        refine go_aload_n (pc := 861) dL_law_861 rfl rfl ?_
        refine go_cVi (pc := 862) (Mz := M_X10_perils) (as := []) (a := a1) (st := []) dL_law_862 wd_964 cv_X10_perils X10_perils_ok rfl rfl ⟨Nat.le_of_ble_eq_true rfl, Nat.le_of_ble_eq_true rfl⟩ (Nat.le_of_ble_eq_true rfl) ⟨rfl, rfl⟩ hkn H (fun v224 h223 H => ?_)
        refine go_aload_n (pc := 865) dL_law_865 rfl rfl ?_
        refine go_cVi (pc := 866) (Mz := M_X11_perils) (as := []) (a := a2) (st := [.int v224]) dL_law_866 wd_1788 cv_X11_perils X11_perils_ok rfl rfl ⟨Nat.le_of_ble_eq_true rfl, Nat.le_of_ble_eq_true rfl⟩ (Nat.le_of_ble_eq_true rfl) ⟨rfl, rfl⟩ hkn H (fun v226 h225 H => ?_)
        refine go_icmp_eq (pc := 869) (tgt := 1762) dL_law_869 (by decide) H (fun H => ?_) (fun H => ?_)
        · exact Go.weak (L' := [some (.retAddr 1000), some (.ref a1), some (.ref a2), some (.ref a3), some (.int a4), none, none]) ⟨rfl, ⟨rfl, ⟨rfl, ⟨rfl, ⟨rfl, trivial⟩⟩⟩⟩⟩ (L_law_B1762_ok hKB2 hNB2 _ hrc23 a1 a2 a3 a4 h225 (k) (n) (by omega) (by omega) H)
        · refine go_iconst (pc := 872) (v := 0) dL_law_872 (by decide) ?_
          exact go_lawret (pc := 873) dL_law_873 hkn H
      rw [if_neg c21] at H
      by_cases c22 : v102 = 22
      · rw [if_pos c22] at H
        refine go_tabIn (pc := 40) (off := 834) (tgt := 874) dL_law_40 (by rw [c22]; decide) (by rw [c22]; decide) (by rw [c22]; decide) (by decide) ?_
        refine go_aload_n (pc := 874) dL_law_874 rfl rfl ?_
        refine go_aload_nS (pc := 875) dL_law_875 rfl rfl ?_
        refine go_iload (pc := 876) dL_law_876 rfl ?_
        refine go_iconst (pc := 878) (v := 1) dL_law_878 (by decide) ?_
        refine go_iadd (pc := 879) dL_law_879 ?_
        refine go_xld (pc := 880) dL_law_880 H (fun v227 H => ?_)
        refine go_cVi (pc := 881) (Mz := M_X10_attendFor) (as := [.int v227]) (a := a1) (st := []) dL_law_881 wd_974 cv_X10_attendFor X10_attendFor_ok rfl rfl ⟨Nat.le_of_ble_eq_true rfl, Nat.le_of_ble_eq_true rfl⟩ (Nat.le_of_ble_eq_true rfl) ⟨rfl, rfl⟩ hkn H (fun v229 h228 H => ?_)
        refine go_aload_n (pc := 884) dL_law_884 rfl rfl ?_
        refine go_aload_nS (pc := 885) dL_law_885 rfl rfl ?_
        refine go_iload (pc := 886) dL_law_886 rfl ?_
        refine go_iconst (pc := 888) (v := 1) dL_law_888 (by decide) ?_
        refine go_iadd (pc := 889) dL_law_889 ?_
        refine go_xld (pc := 890) dL_law_890 H (fun v230 H => ?_)
        refine go_cVi (pc := 891) (Mz := M_X11_attendFor) (as := [.int v230]) (a := a2) (st := [.int v229]) dL_law_891 wd_1796 cv_X11_attendFor X11_attendFor_ok rfl rfl ⟨Nat.le_of_ble_eq_true rfl, Nat.le_of_ble_eq_true rfl⟩ (Nat.le_of_ble_eq_true rfl) ⟨rfl, rfl⟩ hkn H (fun v232 h231 H => ?_)
        refine go_icmp_eq (pc := 894) (tgt := 1762) dL_law_894 (by decide) H (fun H => ?_) (fun H => ?_)
        · exact Go.weak (L' := [some (.retAddr 1000), some (.ref a1), some (.ref a2), some (.ref a3), some (.int a4), none, none]) ⟨rfl, ⟨rfl, ⟨rfl, ⟨rfl, ⟨rfl, trivial⟩⟩⟩⟩⟩ (L_law_B1762_ok hKB2 hNB2 _ hrc23 a1 a2 a3 a4 h231 (k) (n) (by omega) (by omega) H)
        · refine go_iconst (pc := 897) (v := 0) dL_law_897 (by decide) ?_
          exact go_lawret (pc := 898) dL_law_898 hkn H
      rw [if_neg c22] at H
      by_cases c23 : v102 = 23
      · rw [if_pos c23] at H
        refine go_tabIn (pc := 40) (off := 859) (tgt := 899) dL_law_40 (by rw [c23]; decide) (by rw [c23]; decide) (by rw [c23]; decide) (by decide) ?_
        refine go_aload_n (pc := 899) dL_law_899 rfl rfl ?_
        refine go_aload_nS (pc := 900) dL_law_900 rfl rfl ?_
        refine go_iload (pc := 901) dL_law_901 rfl ?_
        refine go_iconst (pc := 903) (v := 1) dL_law_903 (by decide) ?_
        refine go_iadd (pc := 904) dL_law_904 ?_
        refine go_xld (pc := 905) dL_law_905 H (fun v233 H => ?_)
        refine go_cVi (pc := 906) (Mz := M_X10_stolenIf) (as := [.int v233]) (a := a1) (st := []) dL_law_906 wd_1004 cv_X10_stolenIf X10_stolenIf_ok rfl rfl ⟨Nat.le_of_ble_eq_true rfl, Nat.le_of_ble_eq_true rfl⟩ (Nat.le_of_ble_eq_true rfl) ⟨rfl, rfl⟩ hkn H (fun v235 h234 H => ?_)
        refine go_aload_n (pc := 909) dL_law_909 rfl rfl ?_
        refine go_aload_nS (pc := 910) dL_law_910 rfl rfl ?_
        refine go_iload (pc := 911) dL_law_911 rfl ?_
        refine go_iconst (pc := 913) (v := 1) dL_law_913 (by decide) ?_
        refine go_iadd (pc := 914) dL_law_914 ?_
        refine go_xld (pc := 915) dL_law_915 H (fun v236 H => ?_)
        refine go_cVi (pc := 916) (Mz := M_X11_stolenIf) (as := [.int v236]) (a := a2) (st := [.int v235]) dL_law_916 wd_1811 cv_X11_stolenIf X11_stolenIf_ok rfl rfl ⟨Nat.le_of_ble_eq_true rfl, Nat.le_of_ble_eq_true rfl⟩ (Nat.le_of_ble_eq_true rfl) ⟨rfl, rfl⟩ hkn H (fun v238 h237 H => ?_)
        refine go_icmp_eq (pc := 919) (tgt := 1762) dL_law_919 (by decide) H (fun H => ?_) (fun H => ?_)
        · exact Go.weak (L' := [some (.retAddr 1000), some (.ref a1), some (.ref a2), some (.ref a3), some (.int a4), none, none]) ⟨rfl, ⟨rfl, ⟨rfl, ⟨rfl, ⟨rfl, trivial⟩⟩⟩⟩⟩ (L_law_B1762_ok hKB2 hNB2 _ hrc23 a1 a2 a3 a4 h237 (k) (n) (by omega) (by omega) H)
        · refine go_iconst (pc := 922) (v := 0) dL_law_922 (by decide) ?_
          exact go_lawret (pc := 923) dL_law_923 hkn H
      rw [if_neg c23] at H
      by_cases c24 : v102 = 24
      · rw [if_pos c24] at H
        refine go_tabIn (pc := 40) (off := 884) (tgt := 924) dL_law_40 (by rw [c24]; decide) (by rw [c24]; decide) (by rw [c24]; decide) (by decide) ?_
        refine go_aload_n (pc := 924) dL_law_924 rfl rfl ?_
        refine go_cVi (pc := 925) (Mz := M_X10_lookFirst) (as := []) (a := a1) (st := []) dL_law_925 wd_1009 cv_X10_lookFirst X10_lookFirst_ok rfl rfl ⟨Nat.le_of_ble_eq_true rfl, Nat.le_of_ble_eq_true rfl⟩ (Nat.le_of_ble_eq_true rfl) ⟨rfl, rfl⟩ hkn H (fun v240 h239 H => ?_)
        refine go_aload_n (pc := 928) dL_law_928 rfl rfl ?_
        refine go_cVi (pc := 929) (Mz := M_X11_lookFirst) (as := []) (a := a2) (st := [.int v240]) dL_law_929 wd_1819 cv_X11_lookFirst X11_lookFirst_ok rfl rfl ⟨Nat.le_of_ble_eq_true rfl, Nat.le_of_ble_eq_true rfl⟩ (Nat.le_of_ble_eq_true rfl) ⟨rfl, rfl⟩ hkn H (fun v242 h241 H => ?_)
        refine go_icmp_eq (pc := 932) (tgt := 1762) dL_law_932 (by decide) H (fun H => ?_) (fun H => ?_)
        · exact Go.weak (L' := [some (.retAddr 1000), some (.ref a1), some (.ref a2), some (.ref a3), some (.int a4), none, none]) ⟨rfl, ⟨rfl, ⟨rfl, ⟨rfl, ⟨rfl, trivial⟩⟩⟩⟩⟩ (L_law_B1762_ok hKB2 hNB2 _ hrc23 a1 a2 a3 a4 h241 (k) (n) (by omega) (by omega) H)
        · refine go_iconst (pc := 935) (v := 0) dL_law_935 (by decide) ?_
          exact go_lawret (pc := 936) dL_law_936 hkn H
      rw [if_neg c24] at H
      by_cases c25 : v102 = 25
      · rw [if_pos c25] at H
        refine go_tabIn (pc := 40) (off := 897) (tgt := 937) dL_law_40 (by rw [c25]; decide) (by rw [c25]; decide) (by rw [c25]; decide) (by decide) ?_
        refine go_aload_n (pc := 937) dL_law_937 rfl rfl ?_
        refine go_cVi (pc := 938) (Mz := M_X10_change) (as := []) (a := a1) (st := []) dL_law_938 wd_1017 cv_X10_change X10_change_ok rfl rfl ⟨Nat.le_of_ble_eq_true rfl, Nat.le_of_ble_eq_true rfl⟩ (Nat.le_of_ble_eq_true rfl) ⟨rfl, rfl⟩ hkn H (fun v244 h243 H => ?_)
        refine go_aload_n (pc := 941) dL_law_941 rfl rfl ?_
        refine go_cVi (pc := 942) (Mz := M_X11_change) (as := []) (a := a2) (st := [.int v244]) dL_law_942 wd_1823 cv_X11_change X11_change_ok rfl rfl ⟨Nat.le_of_ble_eq_true rfl, Nat.le_of_ble_eq_true rfl⟩ (Nat.le_of_ble_eq_true rfl) ⟨rfl, rfl⟩ hkn H (fun v246 h245 H => ?_)
        refine go_icmp_eq (pc := 945) (tgt := 1762) dL_law_945 (by decide) H (fun H => ?_) (fun H => ?_)
        · exact Go.weak (L' := [some (.retAddr 1000), some (.ref a1), some (.ref a2), some (.ref a3), some (.int a4), none, none]) ⟨rfl, ⟨rfl, ⟨rfl, ⟨rfl, ⟨rfl, trivial⟩⟩⟩⟩⟩ (L_law_B1762_ok hKB2 hNB2 _ hrc23 a1 a2 a3 a4 h245 (k) (n) (by omega) (by omega) H)
        · refine go_iconst (pc := 948) (v := 0) dL_law_948 (by decide) ?_
          exact go_lawret (pc := 949) dL_law_949 hkn H
      rw [if_neg c25] at H
      by_cases c26 : v102 = 26
      · rw [if_pos c26] at H
        refine go_tabIn (pc := 40) (off := 910) (tgt := 950) dL_law_40 (by rw [c26]; decide) (by rw [c26]; decide) (by rw [c26]; decide) (by decide) ?_
        refine go_aload_n (pc := 950) dL_law_950 rfl rfl ?_
        refine go_aload_nS (pc := 951) dL_law_951 rfl rfl ?_
        refine go_iload (pc := 952) dL_law_952 rfl ?_
        refine go_iconst (pc := 954) (v := 1) dL_law_954 (by decide) ?_
        refine go_iadd (pc := 955) dL_law_955 ?_
        refine go_xld (pc := 956) dL_law_956 H (fun v247 H => ?_)
        refine go_aload_nS (pc := 957) dL_law_957 rfl rfl ?_
        refine go_iload (pc := 958) dL_law_958 rfl ?_
        refine go_iconst (pc := 960) (v := 2) dL_law_960 (by decide) ?_
        refine go_iadd (pc := 961) dL_law_961 ?_
        refine go_xld (pc := 962) dL_law_962 H (fun v248 H => ?_)
        refine go_cVi (pc := 963) (Mz := M_X10_strikesIf) (as := [.int v247, .int v248]) (a := a1) (st := []) dL_law_963 wd_1025 cv_X10_strikesIf X10_strikesIf_ok rfl rfl ⟨Nat.le_of_ble_eq_true rfl, Nat.le_of_ble_eq_true rfl⟩ (Nat.le_of_ble_eq_true rfl) ⟨rfl, rfl⟩ hkn H (fun v250 h249 H => ?_)
        refine go_aload_n (pc := 966) dL_law_966 rfl rfl ?_
        refine go_aload_nS (pc := 967) dL_law_967 rfl rfl ?_
        refine go_iload (pc := 968) dL_law_968 rfl ?_
        refine go_iconst (pc := 970) (v := 1) dL_law_970 (by decide) ?_
        refine go_iadd (pc := 971) dL_law_971 ?_
        refine go_xld (pc := 972) dL_law_972 H (fun v251 H => ?_)
        refine go_aload_nS (pc := 973) dL_law_973 rfl rfl ?_
        refine go_iload (pc := 974) dL_law_974 rfl ?_
        refine go_iconst (pc := 976) (v := 2) dL_law_976 (by decide) ?_
        refine go_iadd (pc := 977) dL_law_977 ?_
        refine go_xld (pc := 978) dL_law_978 H (fun v252 H => ?_)
        refine go_cVi (pc := 979) (Mz := M_X11_strikesIf) (as := [.int v251, .int v252]) (a := a2) (st := [.int v250]) dL_law_979 wd_1827 cv_X11_strikesIf X11_strikesIf_ok rfl rfl ⟨Nat.le_of_ble_eq_true rfl, Nat.le_of_ble_eq_true rfl⟩ (Nat.le_of_ble_eq_true rfl) ⟨rfl, rfl⟩ hkn H (fun v254 h253 H => ?_)
        refine go_icmp_eq (pc := 982) (tgt := 1762) dL_law_982 (by decide) H (fun H => ?_) (fun H => ?_)
        · exact Go.weak (L' := [some (.retAddr 1000), some (.ref a1), some (.ref a2), some (.ref a3), some (.int a4), none, none]) ⟨rfl, ⟨rfl, ⟨rfl, ⟨rfl, ⟨rfl, trivial⟩⟩⟩⟩⟩ (L_law_B1762_ok hKB2 hNB2 _ hrc23 a1 a2 a3 a4 h253 (k) (n) (by omega) (by omega) H)
        · refine go_iconst (pc := 985) (v := 0) dL_law_985 (by decide) ?_
          exact go_lawret (pc := 986) dL_law_986 hkn H
      rw [if_neg c26] at H
      by_cases c27 : v102 = 27
      · rw [if_pos c27] at H
        refine go_tabIn (pc := 40) (off := 947) (tgt := 987) dL_law_40 (by rw [c27]; decide) (by rw [c27]; decide) (by rw [c27]; decide) (by decide) ?_
        refine go_aload_n (pc := 987) dL_law_987 rfl rfl ?_
        refine go_aload_nS (pc := 988) dL_law_988 rfl rfl ?_
        refine go_iload (pc := 989) dL_law_989 rfl ?_
        refine go_iconst (pc := 991) (v := 1) dL_law_991 (by decide) ?_
        refine go_iadd (pc := 992) dL_law_992 ?_
        refine go_xld (pc := 993) dL_law_993 H (fun v255 H => ?_)
        refine go_cVi (pc := 994) (Mz := M_X10_relief) (as := [.int v255]) (a := a1) (st := []) dL_law_994 wd_1034 cv_X10_relief X10_relief_ok rfl rfl ⟨Nat.le_of_ble_eq_true rfl, Nat.le_of_ble_eq_true rfl⟩ (Nat.le_of_ble_eq_true rfl) ⟨rfl, rfl⟩ hkn H (fun v257 h256 H => ?_)
        refine go_aload_n (pc := 997) dL_law_997 rfl rfl ?_
        refine go_aload_nS (pc := 998) dL_law_998 rfl rfl ?_
        refine go_iload (pc := 999) dL_law_999 rfl ?_
        refine go_iconst (pc := 1001) (v := 1) dL_law_1001 (by decide) ?_
        refine go_iadd (pc := 1002) dL_law_1002 ?_
        refine go_xld (pc := 1003) dL_law_1003 H (fun v258 H => ?_)
        refine go_cVi (pc := 1004) (Mz := M_X11_relief) (as := [.int v258]) (a := a2) (st := [.int v257]) dL_law_1004 wd_1831 cv_X11_relief X11_relief_ok rfl rfl ⟨Nat.le_of_ble_eq_true rfl, Nat.le_of_ble_eq_true rfl⟩ (Nat.le_of_ble_eq_true rfl) ⟨rfl, rfl⟩ hkn H (fun v260 h259 H => ?_)
        refine go_icmp_eq (pc := 1007) (tgt := 1762) dL_law_1007 (by decide) H (fun H => ?_) (fun H => ?_)
        · exact Go.weak (L' := [some (.retAddr 1000), some (.ref a1), some (.ref a2), some (.ref a3), some (.int a4), none, none]) ⟨rfl, ⟨rfl, ⟨rfl, ⟨rfl, ⟨rfl, trivial⟩⟩⟩⟩⟩ (L_law_B1762_ok hKB2 hNB2 _ hrc23 a1 a2 a3 a4 h259 (k) (n) (by omega) (by omega) H)
        · refine go_iconst (pc := 1010) (v := 0) dL_law_1010 (by decide) ?_
          exact go_lawret (pc := 1011) dL_law_1011 hkn H
      rw [if_neg c27] at H
      by_cases c28 : v102 = 28
      · rw [if_pos c28] at H
        refine go_tabIn (pc := 40) (off := 972) (tgt := 1012) dL_law_40 (by rw [c28]; decide) (by rw [c28]; decide) (by rw [c28]; decide) (by decide) ?_
        refine go_aload_n (pc := 1012) dL_law_1012 rfl rfl ?_
        refine go_cVi (pc := 1013) (Mz := M_X10_fits) (as := []) (a := a1) (st := []) dL_law_1013 wd_1038 cv_X10_fits X10_fits_ok rfl rfl ⟨Nat.le_of_ble_eq_true rfl, Nat.le_of_ble_eq_true rfl⟩ (Nat.le_of_ble_eq_true rfl) ⟨rfl, rfl⟩ hkn H (fun v262 h261 H => ?_)
        refine go_aload_n (pc := 1016) dL_law_1016 rfl rfl ?_
        refine go_cVi (pc := 1017) (Mz := M_X11_fits) (as := []) (a := a2) (st := [.int v262]) dL_law_1017 wd_1836 cv_X11_fits X11_fits_ok rfl rfl ⟨Nat.le_of_ble_eq_true rfl, Nat.le_of_ble_eq_true rfl⟩ (Nat.le_of_ble_eq_true rfl) ⟨rfl, rfl⟩ hkn H (fun v264 h263 H => ?_)
        refine go_icmp_eq (pc := 1020) (tgt := 1762) dL_law_1020 (by decide) H (fun H => ?_) (fun H => ?_)
        · exact Go.weak (L' := [some (.retAddr 1000), some (.ref a1), some (.ref a2), some (.ref a3), some (.int a4), none, none]) ⟨rfl, ⟨rfl, ⟨rfl, ⟨rfl, ⟨rfl, trivial⟩⟩⟩⟩⟩ (L_law_B1762_ok hKB2 hNB2 _ hrc23 a1 a2 a3 a4 h263 (k) (n) (by omega) (by omega) H)
        · refine go_iconst (pc := 1023) (v := 0) dL_law_1023 (by decide) ?_
          exact go_lawret (pc := 1024) dL_law_1024 hkn H
      rw [if_neg c28] at H
      by_cases c29 : v102 = 29
      · rw [if_pos c29] at H
        refine go_tabIn (pc := 40) (off := 985) (tgt := 1025) dL_law_40 (by rw [c29]; decide) (by rw [c29]; decide) (by rw [c29]; decide) (by decide) ?_
        refine go_aload_n (pc := 1025) dL_law_1025 rfl rfl ?_
        refine go_aload_nS (pc := 1026) dL_law_1026 rfl rfl ?_
        refine go_iload (pc := 1027) dL_law_1027 rfl ?_
        refine go_iconst (pc := 1029) (v := 1) dL_law_1029 (by decide) ?_
        refine go_iadd (pc := 1030) dL_law_1030 ?_
        refine go_xld (pc := 1031) dL_law_1031 H (fun v265 H => ?_)
        refine go_cVi (pc := 1032) (Mz := M_X10_fitAt) (as := [.int v265]) (a := a1) (st := []) dL_law_1032 wd_1057 cv_X10_fitAt X10_fitAt_ok rfl rfl ⟨Nat.le_of_ble_eq_true rfl, Nat.le_of_ble_eq_true rfl⟩ (Nat.le_of_ble_eq_true rfl) ⟨rfl, rfl⟩ hkn H (fun v267 h266 H => ?_)
        refine go_aload_n (pc := 1035) dL_law_1035 rfl rfl ?_
        refine go_aload_nS (pc := 1036) dL_law_1036 rfl rfl ?_
        refine go_iload (pc := 1037) dL_law_1037 rfl ?_
        refine go_iconst (pc := 1039) (v := 1) dL_law_1039 (by decide) ?_
        refine go_iadd (pc := 1040) dL_law_1040 ?_
        refine go_xld (pc := 1041) dL_law_1041 H (fun v268 H => ?_)
        refine go_cVi (pc := 1042) (Mz := M_X11_fitAt) (as := [.int v268]) (a := a2) (st := [.int v267]) dL_law_1042 wd_1848 cv_X11_fitAt X11_fitAt_ok rfl rfl ⟨Nat.le_of_ble_eq_true rfl, Nat.le_of_ble_eq_true rfl⟩ (Nat.le_of_ble_eq_true rfl) ⟨rfl, rfl⟩ hkn H (fun v270 h269 H => ?_)
        refine go_icmp_eq (pc := 1045) (tgt := 1762) dL_law_1045 (by decide) H (fun H => ?_) (fun H => ?_)
        · exact Go.weak (L' := [some (.retAddr 1000), some (.ref a1), some (.ref a2), some (.ref a3), some (.int a4), none, none]) ⟨rfl, ⟨rfl, ⟨rfl, ⟨rfl, ⟨rfl, trivial⟩⟩⟩⟩⟩ (L_law_B1762_ok hKB2 hNB2 _ hrc23 a1 a2 a3 a4 h269 (k) (n) (by omega) (by omega) H)
        · refine go_iconst (pc := 1048) (v := 0) dL_law_1048 (by decide) ?_
          exact go_lawret (pc := 1049) dL_law_1049 hkn H
      rw [if_neg c29] at H
      by_cases c30 : v102 = 30
      · rw [if_pos c30] at H
        refine go_tabIn (pc := 40) (off := 1010) (tgt := 1050) dL_law_40 (by rw [c30]; decide) (by rw [c30]; decide) (by rw [c30]; decide) (by decide) ?_
        refine go_aload_n (pc := 1050) dL_law_1050 rfl rfl ?_
        refine go_cVi (pc := 1051) (Mz := M_X10_could) (as := []) (a := a1) (st := []) dL_law_1051 wd_1065 cv_X10_could X10_could_ok rfl rfl ⟨Nat.le_of_ble_eq_true rfl, Nat.le_of_ble_eq_true rfl⟩ (Nat.le_of_ble_eq_true rfl) ⟨rfl, rfl⟩ hkn H (fun v272 h271 H => ?_)
        refine go_aload_n (pc := 1054) dL_law_1054 rfl rfl ?_
        refine go_cVi (pc := 1055) (Mz := M_X11_could) (as := []) (a := a2) (st := [.int v272]) dL_law_1055 wd_1852 cv_X11_could X11_could_ok rfl rfl ⟨Nat.le_of_ble_eq_true rfl, Nat.le_of_ble_eq_true rfl⟩ (Nat.le_of_ble_eq_true rfl) ⟨rfl, rfl⟩ hkn H (fun v274 h273 H => ?_)
        refine go_icmp_eq (pc := 1058) (tgt := 1762) dL_law_1058 (by decide) H (fun H => ?_) (fun H => ?_)
        · exact Go.weak (L' := [some (.retAddr 1000), some (.ref a1), some (.ref a2), some (.ref a3), some (.int a4), none, none]) ⟨rfl, ⟨rfl, ⟨rfl, ⟨rfl, ⟨rfl, trivial⟩⟩⟩⟩⟩ (L_law_B1762_ok hKB2 hNB2 _ hrc23 a1 a2 a3 a4 h273 (k) (n) (by omega) (by omega) H)
        · refine go_iconst (pc := 1061) (v := 0) dL_law_1061 (by decide) ?_
          exact go_lawret (pc := 1062) dL_law_1062 hkn H
      rw [if_neg c30] at H
      by_cases c31 : v102 = 31
      · rw [if_pos c31] at H
        refine go_tabIn (pc := 40) (off := 1023) (tgt := 1063) dL_law_40 (by rw [c31]; decide) (by rw [c31]; decide) (by rw [c31]; decide) (by decide) ?_
        refine go_aload_n (pc := 1063) dL_law_1063 rfl rfl ?_
        refine go_cVi (pc := 1064) (Mz := M_X10_surely) (as := []) (a := a1) (st := []) dL_law_1064 wd_1073 cv_X10_surely X10_surely_ok rfl rfl ⟨Nat.le_of_ble_eq_true rfl, Nat.le_of_ble_eq_true rfl⟩ (Nat.le_of_ble_eq_true rfl) ⟨rfl, rfl⟩ hkn H (fun v276 h275 H => ?_)
        refine go_aload_n (pc := 1067) dL_law_1067 rfl rfl ?_
        refine go_cVi (pc := 1068) (Mz := M_X11_surely) (as := []) (a := a2) (st := [.int v276]) dL_law_1068 wd_1856 cv_X11_surely X11_surely_ok rfl rfl ⟨Nat.le_of_ble_eq_true rfl, Nat.le_of_ble_eq_true rfl⟩ (Nat.le_of_ble_eq_true rfl) ⟨rfl, rfl⟩ hkn H (fun v278 h277 H => ?_)
        refine go_icmp_eq (pc := 1071) (tgt := 1762) dL_law_1071 (by decide) H (fun H => ?_) (fun H => ?_)
        · exact Go.weak (L' := [some (.retAddr 1000), some (.ref a1), some (.ref a2), some (.ref a3), some (.int a4), none, none]) ⟨rfl, ⟨rfl, ⟨rfl, ⟨rfl, ⟨rfl, trivial⟩⟩⟩⟩⟩ (L_law_B1762_ok hKB2 hNB2 _ hrc23 a1 a2 a3 a4 h277 (k) (n) (by omega) (by omega) H)
        · refine go_iconst (pc := 1074) (v := 0) dL_law_1074 (by decide) ?_
          exact go_lawret (pc := 1075) dL_law_1075 hkn H
      rw [if_neg c31] at H
      by_cases c32 : v102 = 32
      · rw [if_pos c32] at H
        refine go_tabIn (pc := 40) (off := 1036) (tgt := 1076) dL_law_40 (by rw [c32]; decide) (by rw [c32]; decide) (by rw [c32]; decide) (by decide) ?_
        refine go_aload_n (pc := 1076) dL_law_1076 rfl rfl ?_
        refine go_cVi (pc := 1077) (Mz := M_X10_fix) (as := []) (a := a1) (st := []) dL_law_1077 wd_1081 cv_X10_fix X10_fix_ok rfl rfl ⟨Nat.le_of_ble_eq_true rfl, Nat.le_of_ble_eq_true rfl⟩ (Nat.le_of_ble_eq_true rfl) ⟨rfl, rfl⟩ hkn H (fun v280 h279 H => ?_)
        refine go_aload_n (pc := 1080) dL_law_1080 rfl rfl ?_
        refine go_cVi (pc := 1081) (Mz := M_X11_fix) (as := []) (a := a2) (st := [.int v280]) dL_law_1081 wd_1860 cv_X11_fix X11_fix_ok rfl rfl ⟨Nat.le_of_ble_eq_true rfl, Nat.le_of_ble_eq_true rfl⟩ (Nat.le_of_ble_eq_true rfl) ⟨rfl, rfl⟩ hkn H (fun v282 h281 H => ?_)
        refine go_icmp_eq (pc := 1084) (tgt := 1762) dL_law_1084 (by decide) H (fun H => ?_) (fun H => ?_)
        · exact Go.weak (L' := [some (.retAddr 1000), some (.ref a1), some (.ref a2), some (.ref a3), some (.int a4), none, none]) ⟨rfl, ⟨rfl, ⟨rfl, ⟨rfl, ⟨rfl, trivial⟩⟩⟩⟩⟩ (L_law_B1762_ok hKB2 hNB2 _ hrc23 a1 a2 a3 a4 h281 (k) (n) (by omega) (by omega) H)
        · refine go_iconst (pc := 1087) (v := 0) dL_law_1087 (by decide) ?_
          exact go_lawret (pc := 1088) dL_law_1088 hkn H
      rw [if_neg c32] at H
      by_cases c33 : v102 = 33
      · rw [if_pos c33] at H
        refine go_tabIn (pc := 40) (off := 1049) (tgt := 1089) dL_law_40 (by rw [c33]; decide) (by rw [c33]; decide) (by rw [c33]; decide) (by decide) ?_
        refine go_aload_n (pc := 1089) dL_law_1089 rfl rfl ?_
        refine go_cVi (pc := 1090) (Mz := M_X10_fixLeaves) (as := []) (a := a1) (st := []) dL_law_1090 wd_1094 cv_X10_fixLeaves X10_fixLeaves_ok rfl rfl ⟨Nat.le_of_ble_eq_true rfl, Nat.le_of_ble_eq_true rfl⟩ (Nat.le_of_ble_eq_true rfl) ⟨rfl, rfl⟩ hkn H (fun v284 h283 H => ?_)
        refine go_aload_n (pc := 1093) dL_law_1093 rfl rfl ?_
        refine go_cVi (pc := 1094) (Mz := M_X11_fixLeaves) (as := []) (a := a2) (st := [.int v284]) dL_law_1094 wd_1872 cv_X11_fixLeaves X11_fixLeaves_ok rfl rfl ⟨Nat.le_of_ble_eq_true rfl, Nat.le_of_ble_eq_true rfl⟩ (Nat.le_of_ble_eq_true rfl) ⟨rfl, rfl⟩ hkn H (fun v286 h285 H => ?_)
        refine go_icmp_eq (pc := 1097) (tgt := 1762) dL_law_1097 (by decide) H (fun H => ?_) (fun H => ?_)
        · exact Go.weak (L' := [some (.retAddr 1000), some (.ref a1), some (.ref a2), some (.ref a3), some (.int a4), none, none]) ⟨rfl, ⟨rfl, ⟨rfl, ⟨rfl, ⟨rfl, trivial⟩⟩⟩⟩⟩ (L_law_B1762_ok hKB2 hNB2 _ hrc23 a1 a2 a3 a4 h285 (k) (n) (by omega) (by omega) H)
        · refine go_iconst (pc := 1100) (v := 0) dL_law_1100 (by decide) ?_
          exact go_lawret (pc := 1101) dL_law_1101 hkn H
      rw [if_neg c33] at H
      by_cases c34 : v102 = 34
      · rw [if_pos c34] at H
        refine go_tabIn (pc := 40) (off := 1062) (tgt := 1102) dL_law_40 (by rw [c34]; decide) (by rw [c34]; decide) (by rw [c34]; decide) (by decide) ?_
        refine go_aload_n (pc := 1102) dL_law_1102 rfl rfl ?_
        refine go_cVi (pc := 1103) (Mz := M_X10_judge) (as := []) (a := a1) (st := []) dL_law_1103 wd_1099 cv_X10_judge X10_judge_ok rfl rfl ⟨Nat.le_of_ble_eq_true rfl, Nat.le_of_ble_eq_true rfl⟩ (Nat.le_of_ble_eq_true rfl) ⟨rfl, rfl⟩ hkn H (fun v288 h287 H => ?_)
        refine go_aload_n (pc := 1106) dL_law_1106 rfl rfl ?_
        refine go_cVi (pc := 1107) (Mz := M_X11_judge) (as := []) (a := a2) (st := [.int v288]) dL_law_1107 wd_1876 cv_X11_judge X11_judge_ok rfl rfl ⟨Nat.le_of_ble_eq_true rfl, Nat.le_of_ble_eq_true rfl⟩ (Nat.le_of_ble_eq_true rfl) ⟨rfl, rfl⟩ hkn H (fun v290 h289 H => ?_)
        refine go_icmp_eq (pc := 1110) (tgt := 1762) dL_law_1110 (by decide) H (fun H => ?_) (fun H => ?_)
        · exact Go.weak (L' := [some (.retAddr 1000), some (.ref a1), some (.ref a2), some (.ref a3), some (.int a4), none, none]) ⟨rfl, ⟨rfl, ⟨rfl, ⟨rfl, ⟨rfl, trivial⟩⟩⟩⟩⟩ (L_law_B1762_ok hKB2 hNB2 _ hrc23 a1 a2 a3 a4 h289 (k) (n) (by omega) (by omega) H)
        · refine go_iconst (pc := 1113) (v := 0) dL_law_1113 (by decide) ?_
          exact go_lawret (pc := 1114) dL_law_1114 hkn H
      rw [if_neg c34] at H
      by_cases c35 : v102 = 35
      · rw [if_pos c35] at H
        refine go_tabIn (pc := 40) (off := 1075) (tgt := 1115) dL_law_40 (by rw [c35]; decide) (by rw [c35]; decide) (by rw [c35]; decide) (by decide) ?_
        refine go_aload_n (pc := 1115) dL_law_1115 rfl rfl ?_
        refine go_aload_nS (pc := 1116) dL_law_1116 rfl rfl ?_
        refine go_iload (pc := 1117) dL_law_1117 rfl ?_
        refine go_iconst (pc := 1119) (v := 1) dL_law_1119 (by decide) ?_
        refine go_iadd (pc := 1120) dL_law_1120 ?_
        refine go_xld (pc := 1121) dL_law_1121 H (fun v291 H => ?_)
        refine go_aload_nS (pc := 1122) dL_law_1122 rfl rfl ?_
        refine go_iload (pc := 1123) dL_law_1123 rfl ?_
        refine go_iconst (pc := 1125) (v := 2) dL_law_1125 (by decide) ?_
        refine go_iadd (pc := 1126) dL_law_1126 ?_
        refine go_xld (pc := 1127) dL_law_1127 H (fun v292 H => ?_)
        refine go_aload_nS (pc := 1128) dL_law_1128 rfl rfl ?_
        refine go_iload (pc := 1129) dL_law_1129 rfl ?_
        refine go_iconst (pc := 1131) (v := 3) dL_law_1131 (by decide) ?_
        refine go_iadd (pc := 1132) dL_law_1132 ?_
        refine go_xld (pc := 1133) dL_law_1133 H (fun v293 H => ?_)
        refine go_if_eq (pc := 1134) (tgt := 1141) dL_law_1134 (by decide) H (fun H => ?_) (fun H => ?_)
        · refine go_iconst (pc := 1141) (v := 0) dL_law_1141 (by decide) ?_
          exact Go.weak (L' := [some (.retAddr 1000), some (.ref a1), some (.ref a2), some (.ref a3), some (.int a4), none, none]) ⟨rfl, ⟨rfl, ⟨rfl, ⟨rfl, ⟨rfl, trivial⟩⟩⟩⟩⟩ (L_law_B1142_ok hKB2 hNB2 _ hrc23 a1 a2 a3 a4 a1 v291 v292 0 h (k) (n) (by omega) (by omega) H)
        · refine go_iconst (pc := 1137) (v := 1) dL_law_1137 (by decide) ?_
          refine go_goto (pc := 1138) (tgt := 1142) dL_law_1138 (by decide) ?_
          exact Go.weak (L' := [some (.retAddr 1000), some (.ref a1), some (.ref a2), some (.ref a3), some (.int a4), none, none]) ⟨rfl, ⟨rfl, ⟨rfl, ⟨rfl, ⟨rfl, trivial⟩⟩⟩⟩⟩ (L_law_B1142_ok hKB2 hNB2 _ hrc23 a1 a2 a3 a4 a1 v291 v292 1 h (k) (n) (by omega) (by omega) H)
      rw [if_neg c35] at H
      by_cases c36 : v102 = 36
      · rw [if_pos c36] at H
        refine go_tabIn (pc := 40) (off := 1141) (tgt := 1181) dL_law_40 (by rw [c36]; decide) (by rw [c36]; decide) (by rw [c36]; decide) (by decide) ?_
        refine go_aload_n (pc := 1181) dL_law_1181 rfl rfl ?_
        refine go_aload_nS (pc := 1182) dL_law_1182 rfl rfl ?_
        refine go_iload (pc := 1183) dL_law_1183 rfl ?_
        refine go_iconst (pc := 1185) (v := 1) dL_law_1185 (by decide) ?_
        refine go_iadd (pc := 1186) dL_law_1186 ?_
        refine go_xld (pc := 1187) dL_law_1187 H (fun v294 H => ?_)
        refine go_aload_nS (pc := 1188) dL_law_1188 rfl rfl ?_
        refine go_iload (pc := 1189) dL_law_1189 rfl ?_
        refine go_iconst (pc := 1191) (v := 2) dL_law_1191 (by decide) ?_
        refine go_iadd (pc := 1192) dL_law_1192 ?_
        refine go_xld (pc := 1193) dL_law_1193 H (fun v295 H => ?_)
        refine go_if_eq (pc := 1194) (tgt := 1201) dL_law_1194 (by decide) H (fun H => ?_) (fun H => ?_)
        · refine go_iconst (pc := 1201) (v := 0) dL_law_1201 (by decide) ?_
          exact Go.weak (L' := [some (.retAddr 1000), some (.ref a1), some (.ref a2), some (.ref a3), some (.int a4), none, none]) ⟨rfl, ⟨rfl, ⟨rfl, ⟨rfl, ⟨rfl, trivial⟩⟩⟩⟩⟩ (L_law_B1202_ok hKB2 hNB2 _ hrc23 a1 a2 a3 a4 a1 v294 0 h (k) (n) (by omega) (by omega) H)
        · refine go_iconst (pc := 1197) (v := 1) dL_law_1197 (by decide) ?_
          refine go_goto (pc := 1198) (tgt := 1202) dL_law_1198 (by decide) ?_
          exact Go.weak (L' := [some (.retAddr 1000), some (.ref a1), some (.ref a2), some (.ref a3), some (.int a4), none, none]) ⟨rfl, ⟨rfl, ⟨rfl, ⟨rfl, ⟨rfl, trivial⟩⟩⟩⟩⟩ (L_law_B1202_ok hKB2 hNB2 _ hrc23 a1 a2 a3 a4 a1 v294 1 h (k) (n) (by omega) (by omega) H)
      rw [if_neg c36] at H
      by_cases c37 : v102 = 37
      · rw [if_pos c37] at H
        refine go_tabIn (pc := 40) (off := 1195) (tgt := 1235) dL_law_40 (by rw [c37]; decide) (by rw [c37]; decide) (by rw [c37]; decide) (by decide) ?_
        refine go_aload_n (pc := 1235) dL_law_1235 rfl rfl ?_
        refine go_cVi (pc := 1236) (Mz := M_X10_dearest) (as := []) (a := a1) (st := []) dL_law_1236 wd_1141 cv_X10_dearest X10_dearest_ok rfl rfl ⟨Nat.le_of_ble_eq_true rfl, Nat.le_of_ble_eq_true rfl⟩ (Nat.le_of_ble_eq_true rfl) ⟨rfl, rfl⟩ hkn H (fun v297 h296 H => ?_)
        refine go_aload_n (pc := 1239) dL_law_1239 rfl rfl ?_
        refine go_cVi (pc := 1240) (Mz := M_X11_dearest) (as := []) (a := a2) (st := [.int v297]) dL_law_1240 wd_1895 cv_X11_dearest X11_dearest_ok rfl rfl ⟨Nat.le_of_ble_eq_true rfl, Nat.le_of_ble_eq_true rfl⟩ (Nat.le_of_ble_eq_true rfl) ⟨rfl, rfl⟩ hkn H (fun v299 h298 H => ?_)
        refine go_icmp_eq (pc := 1243) (tgt := 1762) dL_law_1243 (by decide) H (fun H => ?_) (fun H => ?_)
        · exact Go.weak (L' := [some (.retAddr 1000), some (.ref a1), some (.ref a2), some (.ref a3), some (.int a4), none, none]) ⟨rfl, ⟨rfl, ⟨rfl, ⟨rfl, ⟨rfl, trivial⟩⟩⟩⟩⟩ (L_law_B1762_ok hKB2 hNB2 _ hrc23 a1 a2 a3 a4 h298 (k) (n) (by omega) (by omega) H)
        · refine go_iconst (pc := 1246) (v := 0) dL_law_1246 (by decide) ?_
          exact go_lawret (pc := 1247) dL_law_1247 hkn H
      rw [if_neg c37] at H
      by_cases c38 : v102 = 38
      · rw [if_pos c38] at H
        refine go_tabIn (pc := 40) (off := 1208) (tgt := 1248) dL_law_40 (by rw [c38]; decide) (by rw [c38]; decide) (by rw [c38]; decide) (by decide) ?_
        refine go_aload_n (pc := 1248) dL_law_1248 rfl rfl ?_
        refine go_aload_nS (pc := 1249) dL_law_1249 rfl rfl ?_
        refine go_iload (pc := 1250) dL_law_1250 rfl ?_
        refine go_iconst (pc := 1252) (v := 1) dL_law_1252 (by decide) ?_
        refine go_iadd (pc := 1253) dL_law_1253 ?_
        refine go_xld (pc := 1254) dL_law_1254 H (fun v300 H => ?_)
        refine go_aload_nS (pc := 1255) dL_law_1255 rfl rfl ?_
        refine go_iload (pc := 1256) dL_law_1256 rfl ?_
        refine go_iconst (pc := 1258) (v := 2) dL_law_1258 (by decide) ?_
        refine go_iadd (pc := 1259) dL_law_1259 ?_
        refine go_xld (pc := 1260) dL_law_1260 H (fun v301 H => ?_)
        refine go_if_eq (pc := 1261) (tgt := 1268) dL_law_1261 (by decide) H (fun H => ?_) (fun H => ?_)
        · refine go_iconst (pc := 1268) (v := 0) dL_law_1268 (by decide) ?_
          exact Go.weak (L' := [some (.retAddr 1000), some (.ref a1), some (.ref a2), some (.ref a3), some (.int a4), none, none]) ⟨rfl, ⟨rfl, ⟨rfl, ⟨rfl, ⟨rfl, trivial⟩⟩⟩⟩⟩ (L_law_B1269_ok hKB2 hNB2 _ hrc23 a1 a2 a3 a4 a1 v300 0 h (k) (n) (by omega) (by omega) H)
        · refine go_iconst (pc := 1264) (v := 1) dL_law_1264 (by decide) ?_
          refine go_goto (pc := 1265) (tgt := 1269) dL_law_1265 (by decide) ?_
          exact Go.weak (L' := [some (.retAddr 1000), some (.ref a1), some (.ref a2), some (.ref a3), some (.int a4), none, none]) ⟨rfl, ⟨rfl, ⟨rfl, ⟨rfl, ⟨rfl, trivial⟩⟩⟩⟩⟩ (L_law_B1269_ok hKB2 hNB2 _ hrc23 a1 a2 a3 a4 a1 v300 1 h (k) (n) (by omega) (by omega) H)
      rw [if_neg c38] at H
      by_cases c39 : v102 = 39
      · rw [if_pos c39] at H
        refine go_tabIn (pc := 40) (off := 1317) (tgt := 1357) dL_law_40 (by rw [c39]; decide) (by rw [c39]; decide) (by rw [c39]; decide) (by decide) ?_
        refine go_aload_n (pc := 1357) dL_law_1357 rfl rfl ?_
        refine go_aload_nS (pc := 1358) dL_law_1358 rfl rfl ?_
        refine go_iload (pc := 1359) dL_law_1359 rfl ?_
        refine go_iconst (pc := 1361) (v := 1) dL_law_1361 (by decide) ?_
        refine go_iadd (pc := 1362) dL_law_1362 ?_
        refine go_xld (pc := 1363) dL_law_1363 H (fun v302 H => ?_)
        refine go_cVi (pc := 1364) (Mz := M_X10_rests) (as := [.int v302]) (a := a1) (st := []) dL_law_1364 wd_1159 cv_X10_rests X10_rests_ok rfl rfl ⟨Nat.le_of_ble_eq_true rfl, Nat.le_of_ble_eq_true rfl⟩ (Nat.le_of_ble_eq_true rfl) ⟨rfl, rfl⟩ hkn H (fun v304 h303 H => ?_)
        refine go_aload_n (pc := 1367) dL_law_1367 rfl rfl ?_
        refine go_aload_nS (pc := 1368) dL_law_1368 rfl rfl ?_
        refine go_iload (pc := 1369) dL_law_1369 rfl ?_
        refine go_iconst (pc := 1371) (v := 1) dL_law_1371 (by decide) ?_
        refine go_iadd (pc := 1372) dL_law_1372 ?_
        refine go_xld (pc := 1373) dL_law_1373 H (fun v305 H => ?_)
        refine go_cVi (pc := 1374) (Mz := M_X11_rests) (as := [.int v305]) (a := a2) (st := [.int v304]) dL_law_1374 wd_1910 cv_X11_rests X11_rests_ok rfl rfl ⟨Nat.le_of_ble_eq_true rfl, Nat.le_of_ble_eq_true rfl⟩ (Nat.le_of_ble_eq_true rfl) ⟨rfl, rfl⟩ hkn H (fun v307 h306 H => ?_)
        refine go_icmp_eq (pc := 1377) (tgt := 1762) dL_law_1377 (by decide) H (fun H => ?_) (fun H => ?_)
        · exact Go.weak (L' := [some (.retAddr 1000), some (.ref a1), some (.ref a2), some (.ref a3), some (.int a4), none, none]) ⟨rfl, ⟨rfl, ⟨rfl, ⟨rfl, ⟨rfl, trivial⟩⟩⟩⟩⟩ (L_law_B1762_ok hKB2 hNB2 _ hrc23 a1 a2 a3 a4 h306 (k) (n) (by omega) (by omega) H)
        · refine go_iconst (pc := 1380) (v := 0) dL_law_1380 (by decide) ?_
          exact go_lawret (pc := 1381) dL_law_1381 hkn H
      rw [if_neg c39] at H
      by_cases c40 : v102 = 40
      · rw [if_pos c40] at H
        refine go_tabIn (pc := 40) (off := 1342) (tgt := 1382) dL_law_40 (by rw [c40]; decide) (by rw [c40]; decide) (by rw [c40]; decide) (by decide) ?_
        refine go_aload_n (pc := 1382) dL_law_1382 rfl rfl ?_
        refine go_aload_nS (pc := 1383) dL_law_1383 rfl rfl ?_
        refine go_iload (pc := 1384) dL_law_1384 rfl ?_
        refine go_iconst (pc := 1386) (v := 1) dL_law_1386 (by decide) ?_
        refine go_iadd (pc := 1387) dL_law_1387 ?_
        refine go_xld (pc := 1388) dL_law_1388 H (fun v308 H => ?_)
        refine go_cVi (pc := 1389) (Mz := M_X10_rest) (as := [.int v308]) (a := a1) (st := []) dL_law_1389 wd_1166 cv_X10_rest X10_rest_ok rfl rfl ⟨Nat.le_of_ble_eq_true rfl, Nat.le_of_ble_eq_true rfl⟩ (Nat.le_of_ble_eq_true rfl) ⟨rfl, rfl⟩ hkn H (fun v310 h309 H => ?_)
        refine go_aload_n (pc := 1392) dL_law_1392 rfl rfl ?_
        refine go_aload_nS (pc := 1393) dL_law_1393 rfl rfl ?_
        refine go_iload (pc := 1394) dL_law_1394 rfl ?_
        refine go_iconst (pc := 1396) (v := 1) dL_law_1396 (by decide) ?_
        refine go_iadd (pc := 1397) dL_law_1397 ?_
        refine go_xld (pc := 1398) dL_law_1398 H (fun v311 H => ?_)
        refine go_cVi (pc := 1399) (Mz := M_X11_rest) (as := [.int v311]) (a := a2) (st := [.int v310]) dL_law_1399 wd_1918 cv_X11_rest X11_rest_ok rfl rfl ⟨Nat.le_of_ble_eq_true rfl, Nat.le_of_ble_eq_true rfl⟩ (Nat.le_of_ble_eq_true rfl) ⟨rfl, rfl⟩ hkn H (fun v313 h312 H => ?_)
        refine go_icmp_eq (pc := 1402) (tgt := 1762) dL_law_1402 (by decide) H (fun H => ?_) (fun H => ?_)
        · exact Go.weak (L' := [some (.retAddr 1000), some (.ref a1), some (.ref a2), some (.ref a3), some (.int a4), none, none]) ⟨rfl, ⟨rfl, ⟨rfl, ⟨rfl, ⟨rfl, trivial⟩⟩⟩⟩⟩ (L_law_B1762_ok hKB2 hNB2 _ hrc23 a1 a2 a3 a4 h312 (k) (n) (by omega) (by omega) H)
        · refine go_iconst (pc := 1405) (v := 0) dL_law_1405 (by decide) ?_
          exact go_lawret (pc := 1406) dL_law_1406 hkn H
      rw [if_neg c40] at H
      by_cases c41 : v102 = 41
      · rw [if_pos c41] at H
        refine go_tabIn (pc := 40) (off := 1367) (tgt := 1407) dL_law_40 (by rw [c41]; decide) (by rw [c41]; decide) (by rw [c41]; decide) (by decide) ?_
        refine go_aload_n (pc := 1407) dL_law_1407 rfl rfl ?_
        refine go_aload_nS (pc := 1408) dL_law_1408 rfl rfl ?_
        refine go_iload (pc := 1409) dL_law_1409 rfl ?_
        refine go_iconst (pc := 1411) (v := 1) dL_law_1411 (by decide) ?_
        refine go_iadd (pc := 1412) dL_law_1412 ?_
        refine go_xld (pc := 1413) dL_law_1413 H (fun v314 H => ?_)
        refine go_aload_nS (pc := 1414) dL_law_1414 rfl rfl ?_
        refine go_iload (pc := 1415) dL_law_1415 rfl ?_
        refine go_iconst (pc := 1417) (v := 2) dL_law_1417 (by decide) ?_
        refine go_iadd (pc := 1418) dL_law_1418 ?_
        refine go_xld (pc := 1419) dL_law_1419 H (fun v315 H => ?_)
        refine go_cVi (pc := 1420) (Mz := M_X10_idled) (as := [.int v314, .int v315]) (a := a1) (st := []) dL_law_1420 wd_1170 cv_X10_idled X10_idled_ok rfl rfl ⟨Nat.le_of_ble_eq_true rfl, Nat.le_of_ble_eq_true rfl⟩ (Nat.le_of_ble_eq_true rfl) ⟨rfl, rfl⟩ hkn H (fun v317 h316 H => ?_)
        refine go_aload_n (pc := 1423) dL_law_1423 rfl rfl ?_
        refine go_aload_nS (pc := 1424) dL_law_1424 rfl rfl ?_
        refine go_iload (pc := 1425) dL_law_1425 rfl ?_
        refine go_iconst (pc := 1427) (v := 1) dL_law_1427 (by decide) ?_
        refine go_iadd (pc := 1428) dL_law_1428 ?_
        refine go_xld (pc := 1429) dL_law_1429 H (fun v318 H => ?_)
        refine go_aload_nS (pc := 1430) dL_law_1430 rfl rfl ?_
        refine go_iload (pc := 1431) dL_law_1431 rfl ?_
        refine go_iconst (pc := 1433) (v := 2) dL_law_1433 (by decide) ?_
        refine go_iadd (pc := 1434) dL_law_1434 ?_
        refine go_xld (pc := 1435) dL_law_1435 H (fun v319 H => ?_)
        refine go_cVi (pc := 1436) (Mz := M_X11_idled) (as := [.int v318, .int v319]) (a := a2) (st := [.int v317]) dL_law_1436 wd_1922 cv_X11_idled X11_idled_ok rfl rfl ⟨Nat.le_of_ble_eq_true rfl, Nat.le_of_ble_eq_true rfl⟩ (Nat.le_of_ble_eq_true rfl) ⟨rfl, rfl⟩ hkn H (fun v321 h320 H => ?_)
        refine go_icmp_eq (pc := 1439) (tgt := 1762) dL_law_1439 (by decide) H (fun H => ?_) (fun H => ?_)
        · exact Go.weak (L' := [some (.retAddr 1000), some (.ref a1), some (.ref a2), some (.ref a3), some (.int a4), none, none]) ⟨rfl, ⟨rfl, ⟨rfl, ⟨rfl, ⟨rfl, trivial⟩⟩⟩⟩⟩ (L_law_B1762_ok hKB2 hNB2 _ hrc23 a1 a2 a3 a4 h320 (k) (n) (by omega) (by omega) H)
        · refine go_iconst (pc := 1442) (v := 0) dL_law_1442 (by decide) ?_
          exact go_lawret (pc := 1443) dL_law_1443 hkn H
      rw [if_neg c41] at H
      by_cases c42 : v102 = 42
      · rw [if_pos c42] at H
        refine go_tabIn (pc := 40) (off := 1404) (tgt := 1444) dL_law_40 (by rw [c42]; decide) (by rw [c42]; decide) (by rw [c42]; decide) (by decide) ?_
        refine go_aload_n (pc := 1444) dL_law_1444 rfl rfl ?_
        refine go_aload_nS (pc := 1445) dL_law_1445 rfl rfl ?_
        refine go_iload (pc := 1446) dL_law_1446 rfl ?_
        refine go_iconst (pc := 1448) (v := 1) dL_law_1448 (by decide) ?_
        refine go_iadd (pc := 1449) dL_law_1449 ?_
        refine go_xld (pc := 1450) dL_law_1450 H (fun v322 H => ?_)
        refine go_aload_nS (pc := 1451) dL_law_1451 rfl rfl ?_
        refine go_iload (pc := 1452) dL_law_1452 rfl ?_
        refine go_iconst (pc := 1454) (v := 2) dL_law_1454 (by decide) ?_
        refine go_iadd (pc := 1455) dL_law_1455 ?_
        refine go_xld (pc := 1456) dL_law_1456 H (fun v323 H => ?_)
        refine go_cVi (pc := 1457) (Mz := M_X10_squareBy) (as := [.int v322, .int v323]) (a := a1) (st := []) dL_law_1457 wd_1192 cv_X10_squareBy X10_squareBy_ok rfl rfl ⟨Nat.le_of_ble_eq_true rfl, Nat.le_of_ble_eq_true rfl⟩ (Nat.le_of_ble_eq_true rfl) ⟨rfl, rfl⟩ hkn H (fun v325 h324 H => ?_)
        refine go_aload_n (pc := 1460) dL_law_1460 rfl rfl ?_
        refine go_aload_nS (pc := 1461) dL_law_1461 rfl rfl ?_
        refine go_iload (pc := 1462) dL_law_1462 rfl ?_
        refine go_iconst (pc := 1464) (v := 1) dL_law_1464 (by decide) ?_
        refine go_iadd (pc := 1465) dL_law_1465 ?_
        refine go_xld (pc := 1466) dL_law_1466 H (fun v326 H => ?_)
        refine go_aload_nS (pc := 1467) dL_law_1467 rfl rfl ?_
        refine go_iload (pc := 1468) dL_law_1468 rfl ?_
        refine go_iconst (pc := 1470) (v := 2) dL_law_1470 (by decide) ?_
        refine go_iadd (pc := 1471) dL_law_1471 ?_
        refine go_xld (pc := 1472) dL_law_1472 H (fun v327 H => ?_)
        refine go_cVi (pc := 1473) (Mz := M_X11_squareBy) (as := [.int v326, .int v327]) (a := a2) (st := [.int v325]) dL_law_1473 wd_1931 cv_X11_squareBy X11_squareBy_ok rfl rfl ⟨Nat.le_of_ble_eq_true rfl, Nat.le_of_ble_eq_true rfl⟩ (Nat.le_of_ble_eq_true rfl) ⟨rfl, rfl⟩ hkn H (fun v329 h328 H => ?_)
        refine go_icmp_eq (pc := 1476) (tgt := 1762) dL_law_1476 (by decide) H (fun H => ?_) (fun H => ?_)
        · exact Go.weak (L' := [some (.retAddr 1000), some (.ref a1), some (.ref a2), some (.ref a3), some (.int a4), none, none]) ⟨rfl, ⟨rfl, ⟨rfl, ⟨rfl, ⟨rfl, trivial⟩⟩⟩⟩⟩ (L_law_B1762_ok hKB2 hNB2 _ hrc23 a1 a2 a3 a4 h328 (k) (n) (by omega) (by omega) H)
        · refine go_iconst (pc := 1479) (v := 0) dL_law_1479 (by decide) ?_
          exact go_lawret (pc := 1480) dL_law_1480 hkn H
      rw [if_neg c42] at H
      by_cases c43 : v102 = 43
      · rw [if_pos c43] at H
        refine go_tabIn (pc := 40) (off := 1441) (tgt := 1481) dL_law_40 (by rw [c43]; decide) (by rw [c43]; decide) (by rw [c43]; decide) (by decide) ?_
        refine go_aload_n (pc := 1481) dL_law_1481 rfl rfl ?_
        refine go_aload_nS (pc := 1482) dL_law_1482 rfl rfl ?_
        refine go_iload (pc := 1483) dL_law_1483 rfl ?_
        refine go_iconst (pc := 1485) (v := 1) dL_law_1485 (by decide) ?_
        refine go_iadd (pc := 1486) dL_law_1486 ?_
        refine go_xld (pc := 1487) dL_law_1487 H (fun v330 H => ?_)
        refine go_aload_nS (pc := 1488) dL_law_1488 rfl rfl ?_
        refine go_iload (pc := 1489) dL_law_1489 rfl ?_
        refine go_iconst (pc := 1491) (v := 2) dL_law_1491 (by decide) ?_
        refine go_iadd (pc := 1492) dL_law_1492 ?_
        refine go_xld (pc := 1493) dL_law_1493 H (fun v331 H => ?_)
        refine go_cVi (pc := 1494) (Mz := M_X10_wrecks) (as := [.int v330, .int v331]) (a := a1) (st := []) dL_law_1494 wd_1196 cv_X10_wrecks X10_wrecks_ok rfl rfl ⟨Nat.le_of_ble_eq_true rfl, Nat.le_of_ble_eq_true rfl⟩ (Nat.le_of_ble_eq_true rfl) ⟨rfl, rfl⟩ hkn H (fun v333 h332 H => ?_)
        refine go_aload_n (pc := 1497) dL_law_1497 rfl rfl ?_
        refine go_aload_nS (pc := 1498) dL_law_1498 rfl rfl ?_
        refine go_iload (pc := 1499) dL_law_1499 rfl ?_
        refine go_iconst (pc := 1501) (v := 1) dL_law_1501 (by decide) ?_
        refine go_iadd (pc := 1502) dL_law_1502 ?_
        refine go_xld (pc := 1503) dL_law_1503 H (fun v334 H => ?_)
        refine go_aload_nS (pc := 1504) dL_law_1504 rfl rfl ?_
        refine go_iload (pc := 1505) dL_law_1505 rfl ?_
        refine go_iconst (pc := 1507) (v := 2) dL_law_1507 (by decide) ?_
        refine go_iadd (pc := 1508) dL_law_1508 ?_
        refine go_xld (pc := 1509) dL_law_1509 H (fun v335 H => ?_)
        refine go_cVi (pc := 1510) (Mz := M_X11_wrecks) (as := [.int v334, .int v335]) (a := a2) (st := [.int v333]) dL_law_1510 wd_1935 cv_X11_wrecks X11_wrecks_ok rfl rfl ⟨Nat.le_of_ble_eq_true rfl, Nat.le_of_ble_eq_true rfl⟩ (Nat.le_of_ble_eq_true rfl) ⟨rfl, rfl⟩ hkn H (fun v337 h336 H => ?_)
        refine go_icmp_eq (pc := 1513) (tgt := 1762) dL_law_1513 (by decide) H (fun H => ?_) (fun H => ?_)
        · exact Go.weak (L' := [some (.retAddr 1000), some (.ref a1), some (.ref a2), some (.ref a3), some (.int a4), none, none]) ⟨rfl, ⟨rfl, ⟨rfl, ⟨rfl, ⟨rfl, trivial⟩⟩⟩⟩⟩ (L_law_B1762_ok hKB2 hNB2 _ hrc23 a1 a2 a3 a4 h336 (k) (n) (by omega) (by omega) H)
        · refine go_iconst (pc := 1516) (v := 0) dL_law_1516 (by decide) ?_
          exact go_lawret (pc := 1517) dL_law_1517 hkn H
      rw [if_neg c43] at H
      by_cases c44 : v102 = 44
      · rw [if_pos c44] at H
        refine go_tabIn (pc := 40) (off := 1478) (tgt := 1518) dL_law_40 (by rw [c44]; decide) (by rw [c44]; decide) (by rw [c44]; decide) (by decide) ?_
        refine go_aload_n (pc := 1518) dL_law_1518 rfl rfl ?_
        refine go_aload_nS (pc := 1519) dL_law_1519 rfl rfl ?_
        refine go_iload (pc := 1520) dL_law_1520 rfl ?_
        refine go_iconst (pc := 1522) (v := 1) dL_law_1522 (by decide) ?_
        refine go_iadd (pc := 1523) dL_law_1523 ?_
        refine go_xld (pc := 1524) dL_law_1524 H (fun v338 H => ?_)
        refine go_cVi (pc := 1525) (Mz := M_X10_attend) (as := [.int v338]) (a := a1) (st := []) dL_law_1525 wd_1200 cv_X10_attend X10_attend_ok rfl rfl ⟨Nat.le_of_ble_eq_true rfl, Nat.le_of_ble_eq_true rfl⟩ (Nat.le_of_ble_eq_true rfl) ⟨rfl, rfl⟩ hkn H (fun v340 h339 H => ?_)
        refine go_aload_n (pc := 1528) dL_law_1528 rfl rfl ?_
        refine go_aload_nS (pc := 1529) dL_law_1529 rfl rfl ?_
        refine go_iload (pc := 1530) dL_law_1530 rfl ?_
        refine go_iconst (pc := 1532) (v := 1) dL_law_1532 (by decide) ?_
        refine go_iadd (pc := 1533) dL_law_1533 ?_
        refine go_xld (pc := 1534) dL_law_1534 H (fun v341 H => ?_)
        refine go_cVi (pc := 1535) (Mz := M_X11_attend) (as := [.int v341]) (a := a2) (st := [.int v340]) dL_law_1535 wd_1939 cv_X11_attend X11_attend_ok rfl rfl ⟨Nat.le_of_ble_eq_true rfl, Nat.le_of_ble_eq_true rfl⟩ (Nat.le_of_ble_eq_true rfl) ⟨rfl, rfl⟩ hkn H (fun v343 h342 H => ?_)
        refine go_icmp_eq (pc := 1538) (tgt := 1762) dL_law_1538 (by decide) H (fun H => ?_) (fun H => ?_)
        · exact Go.weak (L' := [some (.retAddr 1000), some (.ref a1), some (.ref a2), some (.ref a3), some (.int a4), none, none]) ⟨rfl, ⟨rfl, ⟨rfl, ⟨rfl, ⟨rfl, trivial⟩⟩⟩⟩⟩ (L_law_B1762_ok hKB2 hNB2 _ hrc23 a1 a2 a3 a4 h342 (k) (n) (by omega) (by omega) H)
        · refine go_iconst (pc := 1541) (v := 0) dL_law_1541 (by decide) ?_
          exact go_lawret (pc := 1542) dL_law_1542 hkn H
      rw [if_neg c44] at H
      by_cases c45 : v102 = 45
      · rw [if_pos c45] at H
        refine go_tabIn (pc := 40) (off := 1503) (tgt := 1543) dL_law_40 (by rw [c45]; decide) (by rw [c45]; decide) (by rw [c45]; decide) (by decide) ?_
        refine go_aload_n (pc := 1543) dL_law_1543 rfl rfl ?_
        refine go_aload_nS (pc := 1544) dL_law_1544 rfl rfl ?_
        refine go_iload (pc := 1545) dL_law_1545 rfl ?_
        refine go_iconst (pc := 1547) (v := 1) dL_law_1547 (by decide) ?_
        refine go_iadd (pc := 1548) dL_law_1548 ?_
        refine go_xld (pc := 1549) dL_law_1549 H (fun v344 H => ?_)
        refine go_aload_nS (pc := 1550) dL_law_1550 rfl rfl ?_
        refine go_iload (pc := 1551) dL_law_1551 rfl ?_
        refine go_iconst (pc := 1553) (v := 2) dL_law_1553 (by decide) ?_
        refine go_iadd (pc := 1554) dL_law_1554 ?_
        refine go_xld (pc := 1555) dL_law_1555 H (fun v345 H => ?_)
        refine go_cVi (pc := 1556) (Mz := M_X10_steer) (as := [.int v344, .int v345]) (a := a1) (st := []) dL_law_1556 wd_1213 cv_X10_steer X10_steer_ok rfl rfl ⟨Nat.le_of_ble_eq_true rfl, Nat.le_of_ble_eq_true rfl⟩ (Nat.le_of_ble_eq_true rfl) ⟨rfl, rfl⟩ hkn H (fun v347 h346 H => ?_)
        refine go_aload_n (pc := 1559) dL_law_1559 rfl rfl ?_
        refine go_aload_nS (pc := 1560) dL_law_1560 rfl rfl ?_
        refine go_iload (pc := 1561) dL_law_1561 rfl ?_
        refine go_iconst (pc := 1563) (v := 1) dL_law_1563 (by decide) ?_
        refine go_iadd (pc := 1564) dL_law_1564 ?_
        refine go_xld (pc := 1565) dL_law_1565 H (fun v348 H => ?_)
        refine go_aload_nS (pc := 1566) dL_law_1566 rfl rfl ?_
        refine go_iload (pc := 1567) dL_law_1567 rfl ?_
        refine go_iconst (pc := 1569) (v := 2) dL_law_1569 (by decide) ?_
        refine go_iadd (pc := 1570) dL_law_1570 ?_
        refine go_xld (pc := 1571) dL_law_1571 H (fun v349 H => ?_)
        refine go_cVi (pc := 1572) (Mz := M_X11_steer) (as := [.int v348, .int v349]) (a := a2) (st := [.int v347]) dL_law_1572 wd_1947 cv_X11_steer X11_steer_ok rfl rfl ⟨Nat.le_of_ble_eq_true rfl, Nat.le_of_ble_eq_true rfl⟩ (Nat.le_of_ble_eq_true rfl) ⟨rfl, rfl⟩ hkn H (fun v351 h350 H => ?_)
        refine go_icmp_eq (pc := 1575) (tgt := 1762) dL_law_1575 (by decide) H (fun H => ?_) (fun H => ?_)
        · exact Go.weak (L' := [some (.retAddr 1000), some (.ref a1), some (.ref a2), some (.ref a3), some (.int a4), none, none]) ⟨rfl, ⟨rfl, ⟨rfl, ⟨rfl, ⟨rfl, trivial⟩⟩⟩⟩⟩ (L_law_B1762_ok hKB2 hNB2 _ hrc23 a1 a2 a3 a4 h350 (k) (n) (by omega) (by omega) H)
        · refine go_iconst (pc := 1578) (v := 0) dL_law_1578 (by decide) ?_
          exact go_lawret (pc := 1579) dL_law_1579 hkn H
      rw [if_neg c45] at H
      by_cases c46 : v102 = 46
      · rw [if_pos c46] at H
        refine go_tabIn (pc := 40) (off := 1540) (tgt := 1580) dL_law_40 (by rw [c46]; decide) (by rw [c46]; decide) (by rw [c46]; decide) (by decide) ?_
        refine go_aload_n (pc := 1580) dL_law_1580 rfl rfl ?_
        refine go_aload_nS (pc := 1581) dL_law_1581 rfl rfl ?_
        refine go_iload (pc := 1582) dL_law_1582 rfl ?_
        refine go_iconst (pc := 1584) (v := 1) dL_law_1584 (by decide) ?_
        refine go_iadd (pc := 1585) dL_law_1585 ?_
        refine go_xld (pc := 1586) dL_law_1586 H (fun v352 H => ?_)
        refine go_aload_nS (pc := 1587) dL_law_1587 rfl rfl ?_
        refine go_iload (pc := 1588) dL_law_1588 rfl ?_
        refine go_iconst (pc := 1590) (v := 2) dL_law_1590 (by decide) ?_
        refine go_iadd (pc := 1591) dL_law_1591 ?_
        refine go_xld (pc := 1592) dL_law_1592 H (fun v353 H => ?_)
        refine go_cVi (pc := 1593) (Mz := M_X10_relieve) (as := [.int v352, .int v353]) (a := a1) (st := []) dL_law_1593 wd_1217 cv_X10_relieve X10_relieve_ok rfl rfl ⟨Nat.le_of_ble_eq_true rfl, Nat.le_of_ble_eq_true rfl⟩ (Nat.le_of_ble_eq_true rfl) ⟨rfl, rfl⟩ hkn H (fun v355 h354 H => ?_)
        refine go_aload_n (pc := 1596) dL_law_1596 rfl rfl ?_
        refine go_aload_nS (pc := 1597) dL_law_1597 rfl rfl ?_
        refine go_iload (pc := 1598) dL_law_1598 rfl ?_
        refine go_iconst (pc := 1600) (v := 1) dL_law_1600 (by decide) ?_
        refine go_iadd (pc := 1601) dL_law_1601 ?_
        refine go_xld (pc := 1602) dL_law_1602 H (fun v356 H => ?_)
        refine go_aload_nS (pc := 1603) dL_law_1603 rfl rfl ?_
        refine go_iload (pc := 1604) dL_law_1604 rfl ?_
        refine go_iconst (pc := 1606) (v := 2) dL_law_1606 (by decide) ?_
        refine go_iadd (pc := 1607) dL_law_1607 ?_
        refine go_xld (pc := 1608) dL_law_1608 H (fun v357 H => ?_)
        refine go_cVi (pc := 1609) (Mz := M_X11_relieve) (as := [.int v356, .int v357]) (a := a2) (st := [.int v355]) dL_law_1609 wd_1955 cv_X11_relieve X11_relieve_ok rfl rfl ⟨Nat.le_of_ble_eq_true rfl, Nat.le_of_ble_eq_true rfl⟩ (Nat.le_of_ble_eq_true rfl) ⟨rfl, rfl⟩ hkn H (fun v359 h358 H => ?_)
        refine go_icmp_eq (pc := 1612) (tgt := 1762) dL_law_1612 (by decide) H (fun H => ?_) (fun H => ?_)
        · exact Go.weak (L' := [some (.retAddr 1000), some (.ref a1), some (.ref a2), some (.ref a3), some (.int a4), none, none]) ⟨rfl, ⟨rfl, ⟨rfl, ⟨rfl, ⟨rfl, trivial⟩⟩⟩⟩⟩ (L_law_B1762_ok hKB2 hNB2 _ hrc23 a1 a2 a3 a4 h358 (k) (n) (by omega) (by omega) H)
        · refine go_iconst (pc := 1615) (v := 0) dL_law_1615 (by decide) ?_
          exact go_lawret (pc := 1616) dL_law_1616 hkn H
      rw [if_neg c46] at H
      by_cases c47 : v102 = 47
      · rw [if_pos c47] at H
        refine go_tabIn (pc := 40) (off := 1577) (tgt := 1617) dL_law_40 (by rw [c47]; decide) (by rw [c47]; decide) (by rw [c47]; decide) (by decide) ?_
        refine go_aload_n (pc := 1617) dL_law_1617 rfl rfl ?_
        refine go_cVi (pc := 1618) (Mz := M_X10_undo) (as := []) (a := a1) (st := []) dL_law_1618 wd_1221 cv_X10_undo X10_undo_ok rfl rfl ⟨Nat.le_of_ble_eq_true rfl, Nat.le_of_ble_eq_true rfl⟩ (Nat.le_of_ble_eq_true rfl) ⟨rfl, rfl⟩ hkn H (fun v361 h360 H => ?_)
        refine go_aload_n (pc := 1621) dL_law_1621 rfl rfl ?_
        refine go_cVi (pc := 1622) (Mz := M_X11_undo) (as := []) (a := a2) (st := [.int v361]) dL_law_1622 wd_1959 cv_X11_undo X11_undo_ok rfl rfl ⟨Nat.le_of_ble_eq_true rfl, Nat.le_of_ble_eq_true rfl⟩ (Nat.le_of_ble_eq_true rfl) ⟨rfl, rfl⟩ hkn H (fun v363 h362 H => ?_)
        refine go_icmp_eq (pc := 1625) (tgt := 1762) dL_law_1625 (by decide) H (fun H => ?_) (fun H => ?_)
        · exact Go.weak (L' := [some (.retAddr 1000), some (.ref a1), some (.ref a2), some (.ref a3), some (.int a4), none, none]) ⟨rfl, ⟨rfl, ⟨rfl, ⟨rfl, ⟨rfl, trivial⟩⟩⟩⟩⟩ (L_law_B1762_ok hKB2 hNB2 _ hrc23 a1 a2 a3 a4 h362 (k) (n) (by omega) (by omega) H)
        · refine go_iconst (pc := 1628) (v := 0) dL_law_1628 (by decide) ?_
          exact go_lawret (pc := 1629) dL_law_1629 hkn H
      rw [if_neg c47] at H
      by_cases c48 : v102 = 48
      · rw [if_pos c48] at H
        refine go_tabIn (pc := 40) (off := 1590) (tgt := 1630) dL_law_40 (by rw [c48]; decide) (by rw [c48]; decide) (by rw [c48]; decide) (by decide) ?_
        refine go_aload_n (pc := 1630) dL_law_1630 rfl rfl ?_
        refine go_cVi (pc := 1631) (Mz := M_X10_image) (as := []) (a := a1) (st := []) dL_law_1631 wd_1230 cv_X10_image X10_image_ok rfl rfl ⟨Nat.le_of_ble_eq_true rfl, Nat.le_of_ble_eq_true rfl⟩ (Nat.le_of_ble_eq_true rfl) ⟨rfl, rfl⟩ hkn H (fun v365 h364 H => ?_)
        refine go_aload_n (pc := 1634) dL_law_1634 rfl rfl ?_
        refine go_cVi (pc := 1635) (Mz := M_X11_image) (as := []) (a := a2) (st := [.int v365]) dL_law_1635 wd_1963 cv_X11_image X11_image_ok rfl rfl ⟨Nat.le_of_ble_eq_true rfl, Nat.le_of_ble_eq_true rfl⟩ (Nat.le_of_ble_eq_true rfl) ⟨rfl, rfl⟩ hkn H (fun v367 h366 H => ?_)
        refine go_icmp_eq (pc := 1638) (tgt := 1762) dL_law_1638 (by decide) H (fun H => ?_) (fun H => ?_)
        · exact Go.weak (L' := [some (.retAddr 1000), some (.ref a1), some (.ref a2), some (.ref a3), some (.int a4), none, none]) ⟨rfl, ⟨rfl, ⟨rfl, ⟨rfl, ⟨rfl, trivial⟩⟩⟩⟩⟩ (L_law_B1762_ok hKB2 hNB2 _ hrc23 a1 a2 a3 a4 h366 (k) (n) (by omega) (by omega) H)
        · refine go_iconst (pc := 1641) (v := 0) dL_law_1641 (by decide) ?_
          exact go_lawret (pc := 1642) dL_law_1642 hkn H
      rw [if_neg c48] at H
      by_cases c49 : v102 = 49
      · rw [if_pos c49] at H
        refine go_tabIn (pc := 40) (off := 1603) (tgt := 1643) dL_law_40 (by rw [c49]; decide) (by rw [c49]; decide) (by rw [c49]; decide) (by decide) ?_
        refine go_aload_n (pc := 1643) dL_law_1643 rfl rfl ?_
        refine go_aload_nS (pc := 1644) dL_law_1644 rfl rfl ?_
        refine go_iload (pc := 1645) dL_law_1645 rfl ?_
        refine go_iconst (pc := 1647) (v := 1) dL_law_1647 (by decide) ?_
        refine go_iadd (pc := 1648) dL_law_1648 ?_
        refine go_xld (pc := 1649) dL_law_1649 H (fun v368 H => ?_)
        refine go_cVi (pc := 1650) (Mz := M_X10_back) (as := [.int v368]) (a := a1) (st := []) dL_law_1650 wd_1239 cv_X10_back X10_back_ok rfl rfl ⟨Nat.le_of_ble_eq_true rfl, Nat.le_of_ble_eq_true rfl⟩ (Nat.le_of_ble_eq_true rfl) ⟨rfl, rfl⟩ hkn H (fun v370 h369 H => ?_)
        refine go_aload_n (pc := 1653) dL_law_1653 rfl rfl ?_
        refine go_aload_nS (pc := 1654) dL_law_1654 rfl rfl ?_
        refine go_iload (pc := 1655) dL_law_1655 rfl ?_
        refine go_iconst (pc := 1657) (v := 1) dL_law_1657 (by decide) ?_
        refine go_iadd (pc := 1658) dL_law_1658 ?_
        refine go_xld (pc := 1659) dL_law_1659 H (fun v371 H => ?_)
        refine go_cVi (pc := 1660) (Mz := M_X11_back) (as := [.int v371]) (a := a2) (st := [.int v370]) dL_law_1660 wd_1967 cv_X11_back X11_back_ok rfl rfl ⟨Nat.le_of_ble_eq_true rfl, Nat.le_of_ble_eq_true rfl⟩ (Nat.le_of_ble_eq_true rfl) ⟨rfl, rfl⟩ hkn H (fun v373 h372 H => ?_)
        refine go_icmp_eq (pc := 1663) (tgt := 1762) dL_law_1663 (by decide) H (fun H => ?_) (fun H => ?_)
        · exact Go.weak (L' := [some (.retAddr 1000), some (.ref a1), some (.ref a2), some (.ref a3), some (.int a4), none, none]) ⟨rfl, ⟨rfl, ⟨rfl, ⟨rfl, ⟨rfl, trivial⟩⟩⟩⟩⟩ (L_law_B1762_ok hKB2 hNB2 _ hrc23 a1 a2 a3 a4 h372 (k) (n) (by omega) (by omega) H)
        · refine go_iconst (pc := 1666) (v := 0) dL_law_1666 (by decide) ?_
          exact go_lawret (pc := 1667) dL_law_1667 hkn H
      rw [if_neg c49] at H
      by_cases c50 : v102 = 50
      · rw [if_pos c50] at H
        refine go_tabIn (pc := 40) (off := 1628) (tgt := 1668) dL_law_40 (by rw [c50]; decide) (by rw [c50]; decide) (by rw [c50]; decide) (by decide) ?_
        refine go_aload_n (pc := 1668) dL_law_1668 rfl rfl ?_
        refine go_aload_nS (pc := 1669) dL_law_1669 rfl rfl ?_
        refine go_iload (pc := 1670) dL_law_1670 rfl ?_
        refine go_iconst (pc := 1672) (v := 1) dL_law_1672 (by decide) ?_
        refine go_iadd (pc := 1673) dL_law_1673 ?_
        refine go_xld (pc := 1674) dL_law_1674 H (fun v374 H => ?_)
        refine go_aload_n (pc := 1675) dL_law_1675 rfl rfl ?_
        refine go_led (pc := 1676) (st := []) dL_law_1676 wd_1251 ⟨Nat.le_of_ble_eq_true rfl, Nat.le_of_ble_eq_true rfl⟩ (Nat.le_of_ble_eq_true rfl) hkn2 H (fun v376 h375 H => ?_)
        have hkn : k + 1 ≤ 600128 ∧ n + 6 ≤ 7301098 := hkn2
        refine go_istore (pc := 1679) (L' := [some (.retAddr 1000), some (.ref a1), some (.ref a2), some (.ref a3), some (.int a4), some (.int v376), none]) dL_law_1679 (Nat.le_of_ble_eq_true rfl) rfl ?_
        refine go_aload_n (pc := 1681) dL_law_1681 rfl rfl ?_
        refine go_aload_nS (pc := 1682) dL_law_1682 rfl rfl ?_
        refine go_iload (pc := 1683) dL_law_1683 rfl ?_
        refine go_iconst (pc := 1685) (v := 1) dL_law_1685 (by decide) ?_
        refine go_iadd (pc := 1686) dL_law_1686 ?_
        refine go_xld (pc := 1687) dL_law_1687 H (fun v377 H => ?_)
        refine go_cVi (pc := 1688) (Mz := M_X11_led) (as := [.int v377]) (a := a2) (st := []) dL_law_1688 wd_1971 cv_X11_led X11_led_ok rfl rfl ⟨Nat.le_of_ble_eq_true rfl, Nat.le_of_ble_eq_true rfl⟩ (Nat.le_of_ble_eq_true rfl) ⟨rfl, rfl⟩ hkn H (fun v379 h378 H => ?_)
        refine go_istore (pc := 1691) (L' := [some (.retAddr 1000), some (.ref a1), some (.ref a2), some (.ref a3), some (.int a4), some (.int v376), some (.int v379)]) dL_law_1691 (Nat.le_of_ble_eq_true rfl) rfl ?_
        refine go_aload_n (pc := 1693) dL_law_1693 rfl rfl ?_
        refine go_cVi (pc := 1694) (Mz := M_X11_thrown) (as := []) (a := a2) (st := []) dL_law_1694 wd_1462 cv_X11_thrown X11_thrown_ok rfl rfl ⟨Nat.le_of_ble_eq_true rfl, Nat.le_of_ble_eq_true rfl⟩ (Nat.le_of_ble_eq_true rfl) ⟨rfl, rfl⟩ hkn H (fun v381 h380 H => ?_)
        refine go_iload (pc := 1697) dL_law_1697 rfl ?_
        refine go_icmp_eq (pc := 1699) (tgt := 1704) dL_law_1699 (by decide) H (fun H => ?_) (fun H => ?_)
        · refine go_iload (pc := 1704) dL_law_1704 rfl ?_
          refine go_if_ne (pc := 1706) (tgt := 1721) dL_law_1706 (by decide) H (fun H => ?_) (fun H => ?_)
          · exact Go.weak (L' := [some (.retAddr 1000), some (.ref a1), some (.ref a2), some (.ref a3), some (.int a4), none, none]) ⟨rfl, ⟨rfl, ⟨rfl, ⟨rfl, ⟨rfl, trivial⟩⟩⟩⟩⟩ (L_law_B1721_ok hKB2 hNB2 _ hrc23 a1 a2 a3 a4 h380 (k + 1) (n + 6) (by omega) (by omega) H)
          · refine go_aload_n (pc := 1709) dL_law_1709 rfl rfl ?_
            refine go_iconst (pc := 1710) (v := 0) dL_law_1710 (by decide) ?_
            refine go_laload (pc := 1711) dL_law_1711 H (fun v382 H => ?_)
            refine go_iload (pc := 1712) dL_law_1712 rfl ?_
            refine go_i2l (pc := 1714) dL_law_1714 ?_
            refine go_lcmp (pc := 1715) dL_law_1715 ?_
            refine go_if_eq (pc := 1716) (tgt := 1721) dL_law_1716 (by decide) H (fun H => ?_) (fun H => ?_)
            · exact Go.weak (L' := [some (.retAddr 1000), some (.ref a1), some (.ref a2), some (.ref a3), some (.int a4), none, none]) ⟨rfl, ⟨rfl, ⟨rfl, ⟨rfl, ⟨rfl, trivial⟩⟩⟩⟩⟩ (L_law_B1721_ok hKB2 hNB2 _ hrc23 a1 a2 a3 a4 h380 (k + 1) (n + 6) (by omega) (by omega) H)
            · refine go_iconst (pc := 1719) (v := 0) dL_law_1719 (by decide) ?_
              exact go_lawret (pc := 1720) dL_law_1720 hkn H
        · refine go_iconst (pc := 1702) (v := 0) dL_law_1702 (by decide) ?_
          exact go_lawret (pc := 1703) dL_law_1703 hkn H
      rw [if_neg c50] at H
      by_cases c51 : v102 = 51
      · rw [if_pos c51] at H
        refine go_tabIn (pc := 40) (off := 1684) (tgt := 1724) dL_law_40 (by rw [c51]; decide) (by rw [c51]; decide) (by rw [c51]; decide) (by decide) ?_
        refine go_aload_n (pc := 1724) dL_law_1724 rfl rfl ?_
        refine go_aload_nS (pc := 1725) dL_law_1725 rfl rfl ?_
        refine go_iload (pc := 1726) dL_law_1726 rfl ?_
        refine go_iconst (pc := 1728) (v := 1) dL_law_1728 (by decide) ?_
        refine go_iadd (pc := 1729) dL_law_1729 ?_
        refine go_xld (pc := 1730) dL_law_1730 H (fun v383 H => ?_)
        refine go_cVi (pc := 1731) (Mz := M_X10_size) (as := [.int v383]) (a := a1) (st := []) dL_law_1731 wd_1243 cv_X10_size X10_size_ok rfl rfl ⟨Nat.le_of_ble_eq_true rfl, Nat.le_of_ble_eq_true rfl⟩ (Nat.le_of_ble_eq_true rfl) ⟨rfl, rfl⟩ hkn H (fun v385 h384 H => ?_)
        refine go_aload_n (pc := 1734) dL_law_1734 rfl rfl ?_
        refine go_aload_nS (pc := 1735) dL_law_1735 rfl rfl ?_
        refine go_iload (pc := 1736) dL_law_1736 rfl ?_
        refine go_iconst (pc := 1738) (v := 1) dL_law_1738 (by decide) ?_
        refine go_iadd (pc := 1739) dL_law_1739 ?_
        refine go_xld (pc := 1740) dL_law_1740 H (fun v386 H => ?_)
        refine go_cVi (pc := 1741) (Mz := M_X11_size) (as := [.int v386]) (a := a2) (st := [.int v385]) dL_law_1741 wd_1975 cv_X11_size X11_size_ok rfl rfl ⟨Nat.le_of_ble_eq_true rfl, Nat.le_of_ble_eq_true rfl⟩ (Nat.le_of_ble_eq_true rfl) ⟨rfl, rfl⟩ hkn H (fun v388 h387 H => ?_)
        refine go_icmp_eq (pc := 1744) (tgt := 1762) dL_law_1744 (by decide) H (fun H => ?_) (fun H => ?_)
        · exact Go.weak (L' := [some (.retAddr 1000), some (.ref a1), some (.ref a2), some (.ref a3), some (.int a4), none, none]) ⟨rfl, ⟨rfl, ⟨rfl, ⟨rfl, ⟨rfl, trivial⟩⟩⟩⟩⟩ (L_law_B1762_ok hKB2 hNB2 _ hrc23 a1 a2 a3 a4 h387 (k) (n) (by omega) (by omega) H)
        · refine go_iconst (pc := 1747) (v := 0) dL_law_1747 (by decide) ?_
          exact go_lawret (pc := 1748) dL_law_1748 hkn H
      rw [if_neg c51] at H
      by_cases c52 : v102 = 52
      · rw [if_pos c52] at H
        refine go_tabIn (pc := 40) (off := 1709) (tgt := 1749) dL_law_40 (by rw [c52]; decide) (by rw [c52]; decide) (by rw [c52]; decide) (by decide) ?_
        refine go_aload_n (pc := 1749) dL_law_1749 rfl rfl ?_
        refine go_cVi (pc := 1750) (Mz := M_X10_trouble) (as := []) (a := a1) (st := []) dL_law_1750 wd_1247 cv_X10_trouble X10_trouble_ok rfl rfl ⟨Nat.le_of_ble_eq_true rfl, Nat.le_of_ble_eq_true rfl⟩ (Nat.le_of_ble_eq_true rfl) ⟨rfl, rfl⟩ hkn H (fun v390 h389 H => ?_)
        refine go_aload_n (pc := 1753) dL_law_1753 rfl rfl ?_
        refine go_cVi (pc := 1754) (Mz := M_X11_trouble) (as := []) (a := a2) (st := [.int v390]) dL_law_1754 wd_1979 cv_X11_trouble X11_trouble_ok rfl rfl ⟨Nat.le_of_ble_eq_true rfl, Nat.le_of_ble_eq_true rfl⟩ (Nat.le_of_ble_eq_true rfl) ⟨rfl, rfl⟩ hkn H (fun v392 h391 H => ?_)
        refine go_icmp_eq (pc := 1757) (tgt := 1762) dL_law_1757 (by decide) H (fun H => ?_) (fun H => ?_)
        · exact Go.weak (L' := [some (.retAddr 1000), some (.ref a1), some (.ref a2), some (.ref a3), some (.int a4), none, none]) ⟨rfl, ⟨rfl, ⟨rfl, ⟨rfl, ⟨rfl, trivial⟩⟩⟩⟩⟩ (L_law_B1762_ok hKB2 hNB2 _ hrc23 a1 a2 a3 a4 h391 (k) (n) (by omega) (by omega) H)
        · refine go_iconst (pc := 1760) (v := 0) dL_law_1760 (by decide) ?_
          exact go_lawret (pc := 1761) dL_law_1761 hkn H
      rw [if_neg c52] at H
      refine go_tabOut (pc := 40) (tgt := 1762) dL_law_40 (by have z0 : v102.toInt ≠ 0 := i32_ne c0; have z1 : v102.toInt ≠ 1 := i32_ne c1; have z2 : v102.toInt ≠ 2 := i32_ne c2; have z3 : v102.toInt ≠ 3 := i32_ne c3; have z4 : v102.toInt ≠ 4 := i32_ne c4; have z5 : v102.toInt ≠ 5 := i32_ne c5; have z6 : v102.toInt ≠ 6 := i32_ne c6; have z7 : v102.toInt ≠ 7 := i32_ne c7; have z8 : v102.toInt ≠ 8 := i32_ne c8; have z9 : v102.toInt ≠ 9 := i32_ne c9; have z10 : v102.toInt ≠ 10 := i32_ne c10; have z11 : v102.toInt ≠ 11 := i32_ne c11; have z12 : v102.toInt ≠ 12 := i32_ne c12; have z13 : v102.toInt ≠ 13 := i32_ne c13; have z14 : v102.toInt ≠ 14 := i32_ne c14; have z15 : v102.toInt ≠ 15 := i32_ne c15; have z16 : v102.toInt ≠ 16 := i32_ne c16; have z17 : v102.toInt ≠ 17 := i32_ne c17; have z18 : v102.toInt ≠ 18 := i32_ne c18; have z19 : v102.toInt ≠ 19 := i32_ne c19; have z20 : v102.toInt ≠ 20 := i32_ne c20; have z21 : v102.toInt ≠ 21 := i32_ne c21; have z22 : v102.toInt ≠ 22 := i32_ne c22; have z23 : v102.toInt ≠ 23 := i32_ne c23; have z24 : v102.toInt ≠ 24 := i32_ne c24; have z25 : v102.toInt ≠ 25 := i32_ne c25; have z26 : v102.toInt ≠ 26 := i32_ne c26; have z27 : v102.toInt ≠ 27 := i32_ne c27; have z28 : v102.toInt ≠ 28 := i32_ne c28; have z29 : v102.toInt ≠ 29 := i32_ne c29; have z30 : v102.toInt ≠ 30 := i32_ne c30; have z31 : v102.toInt ≠ 31 := i32_ne c31; have z32 : v102.toInt ≠ 32 := i32_ne c32; have z33 : v102.toInt ≠ 33 := i32_ne c33; have z34 : v102.toInt ≠ 34 := i32_ne c34; have z35 : v102.toInt ≠ 35 := i32_ne c35; have z36 : v102.toInt ≠ 36 := i32_ne c36; have z37 : v102.toInt ≠ 37 := i32_ne c37; have z38 : v102.toInt ≠ 38 := i32_ne c38; have z39 : v102.toInt ≠ 39 := i32_ne c39; have z40 : v102.toInt ≠ 40 := i32_ne c40; have z41 : v102.toInt ≠ 41 := i32_ne c41; have z42 : v102.toInt ≠ 42 := i32_ne c42; have z43 : v102.toInt ≠ 43 := i32_ne c43; have z44 : v102.toInt ≠ 44 := i32_ne c44; have z45 : v102.toInt ≠ 45 := i32_ne c45; have z46 : v102.toInt ≠ 46 := i32_ne c46; have z47 : v102.toInt ≠ 47 := i32_ne c47; have z48 : v102.toInt ≠ 48 := i32_ne c48; have z49 : v102.toInt ≠ 49 := i32_ne c49; have z50 : v102.toInt ≠ 50 := i32_ne c50; have z51 : v102.toInt ≠ 51 := i32_ne c51; have z52 : v102.toInt ≠ 52 := i32_ne c52; omega) (by decide) ?_
      exact Go.weak (L' := [some (.retAddr 1000), some (.ref a1), some (.ref a2), some (.ref a3), some (.int a4), none, none]) ⟨rfl, ⟨rfl, ⟨rfl, ⟨rfl, ⟨rfl, trivial⟩⟩⟩⟩⟩ (L_law_B1762_ok hKB2 hNB2 _ hrc23 a1 a2 a3 a4 h (k) (n) (by omega) (by omega) H)

def L_law (N : Nat) (xs : Nat → Int32) (h : Hp) : Option Unit :=
  pin (nw h (.inr (10, [.null, .null, .null, .null, .null, .null, .null, .null, .null, .null, .null, .int 0, .int 0, .int 0, .int 0]))) fun h1 =>
  (X10_init h.1 h1).bind fun h2 =>
  pin (nw h2 (.inr (11, [.int 0, .null, .int 0, .int 0, .int 0, .int 0, .int 0, .int 0, .int 0, .int 0, .int 0, .int 0, .null, .int 0, .int 0, .null, .null, .null, .null, .null, .null, .null, .int 0, .int 0, .null, .null, .null, .null, .null, .null, .null, .int 0, .int 0, .int 0, .null, .null, .null, .int 0, .int 0, .int 0, .int 0, .long 0, .long 0, .long 0, .int 0]))) fun h3 =>
  (X11_init h2.1 h3).bind fun h4 =>
  if (1 : Int32) < 0 ∨ Int32.toNatClampNeg 1 ≠ 1 then none else
  pin (nw h4 (.inl (2, 1, .inr (.inl (fun _ => 0))))) fun h5 =>
  L_law_L23 N xs 5000 h.1 h2.1 h4.1 0 h5
theorem L_law_ok {N : Nat} {xs : Nat → Int32} {h : Hp} (H : L_law N xs h = some ()) : Go (PL N xs) M_L_law 0 [some (.retAddr 1000), none, none, none, none, none, none] [] h 0 0 := by
  unfold L_law at H
  refine go_new (pc := 0) dL_law_0 nl_L_8 (Nat.le_of_ble_eq_true rfl) (Nat.le_of_ble_eq_true rfl) ?_
  refine go_pinH H (fun h1 H => ?_)
  refine go_dup (pc := 3) dL_law_3 rfl ?_
  refine go_cIv (pc := 4) (Mz := M_X10_init) (as := []) (a := h.1) (st := [.ref h.1]) dL_law_4 wd_133 ci_X10_init X10_init_ok rfl rfl ⟨Nat.le_of_ble_eq_true rfl, Nat.le_of_ble_eq_true rfl⟩ (Nat.le_of_ble_eq_true rfl) ⟨Nat.le_of_ble_eq_true rfl, Nat.le_of_ble_eq_true rfl⟩ H (fun h2 H => ?_)
  refine go_astore_n (pc := 7) (L' := [some (.retAddr 1000), some (.ref h.1), none, none, none, none, none]) dL_law_7 rfl (Nat.le_of_ble_eq_true rfl) rfl ?_
  refine go_new (pc := 8) dL_law_8 nl_L_16 (Nat.le_of_ble_eq_true rfl) (Nat.le_of_ble_eq_true rfl) ?_
  refine go_pinH H (fun h3 H => ?_)
  refine go_dup (pc := 11) dL_law_11 rfl ?_
  refine go_cIv (pc := 12) (Mz := M_X11_init) (as := []) (a := h2.1) (st := [.ref h2.1]) dL_law_12 wd_1322 ci_X11_init X11_init_ok rfl rfl ⟨Nat.le_of_ble_eq_true rfl, Nat.le_of_ble_eq_true rfl⟩ (Nat.le_of_ble_eq_true rfl) ⟨Nat.le_of_ble_eq_true rfl, Nat.le_of_ble_eq_true rfl⟩ H (fun h4 H => ?_)
  refine go_astore_n (pc := 15) (L' := [some (.retAddr 1000), some (.ref h.1), some (.ref h2.1), none, none, none, none]) dL_law_15 rfl (Nat.le_of_ble_eq_true rfl) rfl ?_
  refine go_iconst (pc := 16) (v := 1) dL_law_16 (by decide) ?_
  refine go_newJ (pc := 17) (N := 1) dL_law_17 wd_300 H (Nat.le_of_ble_eq_true rfl) (Nat.le_of_ble_eq_true rfl) (Nat.le_of_ble_eq_true rfl) (fun H => ?_)
  refine go_pinH H (fun h5 H => ?_)
  refine go_astore_n (pc := 19) (L' := [some (.retAddr 1000), some (.ref h.1), some (.ref h2.1), some (.ref h4.1), none, none, none]) dL_law_19 rfl (Nat.le_of_ble_eq_true rfl) rfl ?_
  refine go_iconst (pc := 20) (v := 0) dL_law_20 (by decide) ?_
  refine go_istore (pc := 21) (L' := [some (.retAddr 1000), some (.ref h.1), some (.ref h2.1), some (.ref h4.1), some (.int 0), none, none]) dL_law_21 (Nat.le_of_ble_eq_true rfl) rfl ?_
  exact Go.weak (L' := [some (.retAddr 1000), some (.ref h.1), some (.ref h2.1), some (.ref h4.1), some (.int 0), none, none]) ⟨rfl, ⟨rfl, ⟨rfl, ⟨rfl, ⟨rfl, trivial⟩⟩⟩⟩⟩ (L_law_L23_ok 5000 (Nat.le_refl _) h.1 h2.1 h4.1 0 h5 _ _ (Nat.le_of_ble_eq_true rfl) (Nat.le_of_ble_eq_true rfl) H)
