theorem wd_7_182 : (Cond.methodLink RX12 136 yX12_in) ∈ gT := gt_m7 182 (by decide +kernel) (by decide +kernel)
theorem wd_7_183 : (Cond.static yX12_in) ∈ gT := gt_m7 183 (by decide +kernel) (by decide +kernel)
theorem wd_1_12 : (Cond.initialized RX12) ∈ gT := gt_m1 12 (by decide +kernel) (by decide +kernel)
theorem wd_7_184 : (Cond.code yX12_in cX12_in 6 (some .boolean)) ∈ gT := gt_m7 184 (by decide +kernel) (by decide +kernel)
theorem wd_2_174 : (Cond.methodLink RX10 43 yJ7_fill_53178) ∈ gT := gt_m2 174 (by decide +kernel) (by decide +kernel)
theorem wd_2_175 : (Cond.static yJ7_fill_53178) ∈ gT := gt_m2 175 (by decide +kernel) (by decide +kernel)
theorem wd_1_13 : (Cond.initialized RJ7) ∈ gT := gt_m1 13 (by decide +kernel) (by decide +kernel)
theorem wd_2_176 : (Cond.code yJ7_fill_53178 cJ7_fill_53178 4 none) ∈ gT := gt_m2 176 (by decide +kernel) (by decide +kernel)
theorem wd_2_170 : (Cond.methodLink RX11 112 yX10_read) ∈ gT := gt_m2 170 (by decide +kernel) (by decide +kernel)
theorem wd_2_171 : (Cond.instanceMethod yX10_read) ∈ gT := gt_m2 171 (by decide +kernel) (by decide +kernel)
theorem wd_2_172 : (Cond.selects RX10 yX10_read yX10_read) ∈ gT := gt_m2 172 (by decide +kernel) (by decide +kernel)
theorem wd_1_6 : (Cond.initialized RX10) ∈ gT := gt_m1 6 (by decide +kernel) (by decide +kernel)
theorem wd_2_173 : (Cond.code yX10_read cX10_read 5 (some .int)) ∈ gT := gt_m2 173 (by decide +kernel) (by decide +kernel)
theorem wd_2_223 : (Cond.methodLink RX11 119 yX3_forget) ∈ gT := gt_m2 223 (by decide +kernel) (by decide +kernel)
theorem wd_2_224 : (Cond.instanceMethod yX3_forget) ∈ gT := gt_m2 224 (by decide +kernel) (by decide +kernel)
theorem wd_2_225 : (Cond.selects RX3 yX3_forget yX3_forget) ∈ gT := gt_m2 225 (by decide +kernel) (by decide +kernel)
theorem wd_1_9 : (Cond.initialized RX3) ∈ gT := gt_m1 9 (by decide +kernel) (by decide +kernel)
theorem wd_2_226 : (Cond.code yX3_forget cX3_forget 1 none) ∈ gT := gt_m2 226 (by decide +kernel) (by decide +kernel)
theorem wd_7_189 : (Cond.methodLink RX12 189 yX12_begin) ∈ gT := gt_m7 189 (by decide +kernel) (by decide +kernel)
theorem wd_7_191 : (Cond.instanceMethod yX12_begin) ∈ gT := gt_m7 191 (by decide +kernel) (by decide +kernel)
theorem wd_0_52 : (Cond.selects RX12 yX12_begin yX12_begin) ∈ gT := gt_m0 52 (by decide +kernel) (by decide +kernel)
theorem wd_7_192 : (Cond.code yX12_begin cX12_begin 4 none) ∈ gT := gt_m7 192 (by decide +kernel) (by decide +kernel)
theorem wd_3_144 : (Cond.methodLink RX11 152 yX0_copy) ∈ gT := gt_m3 144 (by decide +kernel) (by decide +kernel)
theorem wd_3_145 : (Cond.instanceMethod yX0_copy) ∈ gT := gt_m3 145 (by decide +kernel) (by decide +kernel)
theorem wd_3_146 : (Cond.selects RX0 yX0_copy yX0_copy) ∈ gT := gt_m3 146 (by decide +kernel) (by decide +kernel)
theorem wd_3_147 : (Cond.code yX0_copy cX0_copy 2 none) ∈ gT := gt_m3 147 (by decide +kernel) (by decide +kernel)
theorem wd_3_14 : (Cond.methodLink RX11 141 yX6_read) ∈ gT := gt_m3 14 (by decide +kernel) (by decide +kernel)
theorem wd_3_15 : (Cond.instanceMethod yX6_read) ∈ gT := gt_m3 15 (by decide +kernel) (by decide +kernel)
theorem wd_3_16 : (Cond.selects RX6 yX6_read yX6_read) ∈ gT := gt_m3 16 (by decide +kernel) (by decide +kernel)
theorem wd_1_7 : (Cond.initialized RX6) ∈ gT := gt_m1 7 (by decide +kernel) (by decide +kernel)
theorem wd_3_17 : (Cond.code yX6_read cX6_read 5 (some .int)) ∈ gT := gt_m3 17 (by decide +kernel) (by decide +kernel)
theorem wd_3_137 : (Cond.methodLink RX6 61 yX6_settle) ∈ gT := gt_m3 137 (by decide +kernel) (by decide +kernel)
theorem wd_3_139 : (Cond.instanceMethod yX6_settle) ∈ gT := gt_m3 139 (by decide +kernel) (by decide +kernel)
theorem wd_0_17 : (Cond.selects RX6 yX6_settle yX6_settle) ∈ gT := gt_m0 17 (by decide +kernel) (by decide +kernel)
theorem wd_3_140 : (Cond.code yX6_settle cX6_settle 2 none) ∈ gT := gt_m3 140 (by decide +kernel) (by decide +kernel)
theorem wd_1_46 : (Cond.fieldLink RX10 49 "SoldToBehind$Text" "size" "I") ∈ gT := gt_m1 46 (by decide +kernel) (by decide +kernel)
theorem wd_2_177 : (Cond.methodLink RX10 54 Lib.Math.min.name) ∈ gT := gt_m2 177 (by decide +kernel) (by decide +kernel)
theorem wd_2_178 : (Cond.static Lib.Math.min.name) ∈ gT := gt_m2 178 (by decide +kernel) (by decide +kernel)
theorem wd_1_14 : (Cond.initialized "java/lang/Math") ∈ gT := gt_m1 14 (by decide +kernel) (by decide +kernel)
theorem wd_2_179 : (Cond.code Lib.Math.min.name Lib.Math.min.code 2 (some .int)) ∈ gT := gt_m2 179 (by decide +kernel) (by decide +kernel)
theorem wd_2_101 : (Cond.fieldLink RX11 33 "SoldToBehind" "townReader" "LSoldToBehind$TownReader;") ∈ gT := gt_m2 101 (by decide +kernel) (by decide +kernel)
theorem wd_2_100 : (Cond.fieldLink RX11 26 "SoldToBehind" "town" "LSoldToBehind$Town;") ∈ gT := gt_m2 100 (by decide +kernel) (by decide +kernel)
theorem wd_1_106 : (Cond.fieldLink RX11 109 "SoldToBehind$Town" "people" "I") ∈ gT := gt_m1 106 (by decide +kernel) (by decide +kernel)
theorem wd_1_144 : (Cond.fieldLink RX11 116 "SoldToBehind$TownReader" "lines" "I") ∈ gT := gt_m1 144 (by decide +kernel) (by decide +kernel)
theorem wd_2_106 : (Cond.fieldLink RX11 62 "SoldToBehind" "past" "LSoldToBehind$Past;") ∈ gT := gt_m2 106 (by decide +kernel) (by decide +kernel)
theorem wd_6_212 : (Cond.fieldLink RX12 154 "SoldToBehindModel" "read" "[B") ∈ gT := gt_m6 212 (by decide +kernel) (by decide +kernel)
theorem wd_6_213 : (Cond.fieldLink RX12 157 "SoldToBehindModel" "size" "I") ∈ gT := gt_m6 213 (by decide +kernel) (by decide +kernel)
theorem wd_6_214 : (Cond.fieldLink RX12 160 "SoldToBehindModel" "top" "I") ∈ gT := gt_m6 214 (by decide +kernel) (by decide +kernel)
theorem wd_6_215 : (Cond.fieldLink RX12 163 "SoldToBehindModel" "at" "I") ∈ gT := gt_m6 215 (by decide +kernel) (by decide +kernel)
theorem wd_6_216 : (Cond.fieldLink RX12 166 "SoldToBehindModel" "wrong" "I") ∈ gT := gt_m6 216 (by decide +kernel) (by decide +kernel)
theorem wd_1_87 : (Cond.fieldLink RX6 39 "SoldToBehind$Formula" "size" "I") ∈ gT := gt_m1 87 (by decide +kernel) (by decide +kernel)
theorem wd_1_47 : (Cond.fieldLink RX6 42 "SoldToBehind$Text" "size" "I") ∈ gT := gt_m1 47 (by decide +kernel) (by decide +kernel)
theorem wd_3_18 : (Cond.methodLink RX6 45 Lib.Math.min.name) ∈ gT := gt_m3 18 (by decide +kernel) (by decide +kernel)
theorem wd_3_148 : (Cond.methodLink RX0 19 arraycopyName) ∈ gT := gt_m3 148 (by decide +kernel) (by decide +kernel)
theorem wd_3_9 : (Cond.native arraycopyName) ∈ gT := gt_m3 9 (by decide +kernel) (by decide +kernel)
theorem wd_3_8 : (Cond.static arraycopyName) ∈ gT := gt_m3 8 (by decide +kernel) (by decide +kernel)
theorem wd_1_15 : (Cond.initialized "java/lang/System") ∈ gT := gt_m1 15 (by decide +kernel) (by decide +kernel)
theorem wd_2_102 : (Cond.fieldLink RX11 40 "SoldToBehind" "ruleReader" "LSoldToBehind$RuleReader;") ∈ gT := gt_m2 102 (by decide +kernel) (by decide +kernel)
theorem wd_1_104 : (Cond.fieldLink RX11 144 "SoldToBehind$Town" "rules" "[LSoldToBehind$Formula;") ∈ gT := gt_m1 104 (by decide +kernel) (by decide +kernel)
theorem wd_1_178 : (Cond.fieldLink RX11 148 "SoldToBehind$RuleReader" "draft" "LSoldToBehind$Formula;") ∈ gT := gt_m1 178 (by decide +kernel) (by decide +kernel)
theorem wd_2_114 : (Cond.fieldLink RX11 95 "SoldToBehind" "reachStands" "Z") ∈ gT := gt_m2 114 (by decide +kernel) (by decide +kernel)
theorem dX12_end_0 : decode cX12_end 0 = .ok (.aload_n 0, 1) := by decide +kernel
theorem dX12_end_1 : decode cX12_end 1 = .ok (.iconst 0, 1) := by decide +kernel
theorem dX12_end_2 : decode cX12_end 2 = .ok (.putfield 127, 3) := by decide +kernel
theorem dX12_end_5 : decode cX12_end 5 = .ok (.iload_n 1, 1) := by decide +kernel
theorem dX12_end_6 : decode cX12_end 6 = .ok (.i2l, 1) := by decide +kernel
theorem dX12_end_7 : decode cX12_end 7 = .ok (.lconst 0, 1) := by decide +kernel
theorem dX12_end_8 : decode cX12_end 8 = .ok (.aload_n 0, 1) := by decide +kernel
theorem dX12_end_9 : decode cX12_end 9 = .ok (.getfield 151, 3) := by decide +kernel
theorem dX12_end_12 : decode cX12_end 12 = .ok (.i2l, 1) := by decide +kernel
theorem dX12_end_13 : decode cX12_end 13 = .ok (.invokestatic 136, 3) := by decide +kernel
theorem dX12_end_16 : decode cX12_end 16 = .ok (.ifCond .ne 5, 3) := by decide +kernel
theorem dX12_end_19 : decode cX12_end 19 = .ok (.iconst 0, 1) := by decide +kernel
theorem dX12_end_20 : decode cX12_end 20 = .ok (.ireturn, 1) := by decide +kernel
theorem dX12_end_21 : decode cX12_end 21 = .ok (.aload_n 0, 1) := by decide +kernel
theorem dX12_end_22 : decode cX12_end 22 = .ok (.iload_n 1, 1) := by decide +kernel
theorem dX12_end_23 : decode cX12_end 23 = .ok (.putfield 151, 3) := by decide +kernel
theorem dX12_end_26 : decode cX12_end 26 = .ok (.iconst 1, 1) := by decide +kernel
theorem dX12_end_27 : decode cX12_end 27 = .ok (.ireturn, 1) := by decide +kernel
theorem dJ7_fill_53178_0 : decode cJ7_fill_53178 0 = .ok (.iconst 0, 1) := by decide +kernel
theorem dJ7_fill_53178_1 : decode cJ7_fill_53178 1 = .ok (.istore_n 2, 1) := by decide +kernel
theorem dJ7_fill_53178_2 : decode cJ7_fill_53178 2 = .ok (.aload_n 0, 1) := by decide +kernel
theorem dJ7_fill_53178_3 : decode cJ7_fill_53178 3 = .ok (.arraylength, 1) := by decide +kernel
theorem dJ7_fill_53178_4 : decode cJ7_fill_53178 4 = .ok (.istore_n 3, 1) := by decide +kernel
theorem dJ7_fill_53178_5 : decode cJ7_fill_53178 5 = .ok (.iload_n 2, 1) := by decide +kernel
theorem dJ7_fill_53178_6 : decode cJ7_fill_53178 6 = .ok (.iload_n 3, 1) := by decide +kernel
theorem dJ7_fill_53178_7 : decode cJ7_fill_53178 7 = .ok (.if_icmp .ge 13, 3) := by decide +kernel
theorem dJ7_fill_53178_10 : decode cJ7_fill_53178 10 = .ok (.aload_n 0, 1) := by decide +kernel
theorem dJ7_fill_53178_11 : decode cJ7_fill_53178 11 = .ok (.iload_n 2, 1) := by decide +kernel
theorem dJ7_fill_53178_12 : decode cJ7_fill_53178 12 = .ok (.iload_n 1, 1) := by decide +kernel
theorem dJ7_fill_53178_13 : decode cJ7_fill_53178 13 = .ok (.iastore, 1) := by decide +kernel
theorem dJ7_fill_53178_14 : decode cJ7_fill_53178 14 = .ok (.iinc 2 1, 3) := by decide +kernel
theorem dJ7_fill_53178_17 : decode cJ7_fill_53178 17 = .ok (.goto (-12), 3) := by decide +kernel
theorem dJ7_fill_53178_20 : decode cJ7_fill_53178 20 = .ok (.return_, 1) := by decide +kernel
theorem dX10_read_0 : decode cX10_read 0 = .ok (.aload_n 0, 1) := by decide +kernel
theorem dX10_read_1 : decode cX10_read 1 = .ok (.getfield 21, 3) := by decide +kernel
theorem dX10_read_4 : decode cX10_read 4 = .ok (.iconst 0, 1) := by decide +kernel
theorem dX10_read_5 : decode cX10_read 5 = .ok (.invokestatic 43, 3) := by decide +kernel
theorem dX10_read_8 : decode cX10_read 8 = .ok (.aload_n 0, 1) := by decide +kernel
theorem dX10_read_9 : decode cX10_read 9 = .ok (.iconst 0, 1) := by decide +kernel
theorem dX10_read_10 : decode cX10_read 10 = .ok (.putfield 24, 3) := by decide +kernel
theorem dX10_read_13 : decode cX10_read 13 = .ok (.aload_n 0, 1) := by decide +kernel
theorem dX10_read_14 : decode cX10_read 14 = .ok (.iload_n 2, 1) := by decide +kernel
theorem dX10_read_15 : decode cX10_read 15 = .ok (.putfield 28, 3) := by decide +kernel
theorem dX10_read_18 : decode cX10_read 18 = .ok (.aload_n 0, 1) := by decide +kernel
theorem dX10_read_19 : decode cX10_read 19 = .ok (.aload_n 1, 1) := by decide +kernel
theorem dX10_read_20 : decode cX10_read 20 = .ok (.getfield 49, 3) := by decide +kernel
theorem dX10_read_23 : decode cX10_read 23 = .ok (.ifCond .ne 7, 3) := by decide +kernel
theorem dX10_read_26 : decode cX10_read 26 = .ok (.iconst 0, 1) := by decide +kernel
theorem dX10_read_27 : decode cX10_read 27 = .ok (.goto 4, 3) := by decide +kernel
theorem dX10_read_31 : decode cX10_read 31 = .ok (.putfield 31, 3) := by decide +kernel
theorem dX10_read_34 : decode cX10_read 34 = .ok (.aload_n 0, 1) := by decide +kernel
theorem dX10_read_35 : decode cX10_read 35 = .ok (.iconst 0, 1) := by decide +kernel
theorem dX10_read_36 : decode cX10_read 36 = .ok (.putfield 34, 3) := by decide +kernel
theorem dX10_read_39 : decode cX10_read 39 = .ok (.aload_n 1, 1) := by decide +kernel
theorem dX10_read_40 : decode cX10_read 40 = .ok (.getfield 49, 3) := by decide +kernel
theorem dX10_read_43 : decode cX10_read 43 = .ok (.bipush 76, 2) := by decide +kernel
theorem dX10_read_45 : decode cX10_read 45 = .ok (.invokestatic 54, 3) := by decide +kernel
theorem dX10_read_48 : decode cX10_read 48 = .ok (.istore_n 3, 1) := by decide +kernel
theorem dX10_read_49 : decode cX10_read 49 = .ok (.iconst 0, 1) := by decide +kernel
theorem dX10_read_50 : decode cX10_read 50 = .ok (.istore 4, 2) := by decide +kernel
theorem dX10_read_52 : decode cX10_read 52 = .ok (.iload 4, 2) := by decide +kernel
theorem dX10_read_54 : decode cX10_read 54 = .ok (.iload_n 3, 1) := by decide +kernel
theorem dX10_read_55 : decode cX10_read 55 = .ok (.if_icmp .ge 26, 3) := by decide +kernel
theorem dX10_read_81 : decode cX10_read 81 = .ok (.aload_n 1, 1) := by decide +kernel
theorem dX10_read_82 : decode cX10_read 82 = .ok (.getfield 49, 3) := by decide +kernel
theorem dX10_read_85 : decode cX10_read 85 = .ok (.bipush 76, 2) := by decide +kernel
theorem dX10_read_87 : decode cX10_read 87 = .ok (.if_icmp .le 6, 3) := by decide +kernel
theorem dX10_read_93 : decode cX10_read 93 = .ok (.aload_n 1, 1) := by decide +kernel
theorem dX10_read_94 : decode cX10_read 94 = .ok (.getfield 49, 3) := by decide +kernel
theorem dX10_read_97 : decode cX10_read 97 = .ok (.ifCond .eq 20, 3) := by decide +kernel
theorem dX10_read_117 : decode cX10_read 117 = .ok (.iconst 1, 1) := by decide +kernel
theorem dX10_read_118 : decode cX10_read 118 = .ok (.goto 4, 3) := by decide +kernel
theorem dX10_read_122 : decode cX10_read 122 = .ok (.istore 4, 2) := by decide +kernel
theorem dX10_read_124 : decode cX10_read 124 = .ok (.iload 4, 2) := by decide +kernel
theorem dX10_read_126 : decode cX10_read 126 = .ok (.ifCond .eq 7, 3) := by decide +kernel
theorem dX10_read_129 : decode cX10_read 129 = .ok (.iconst (-1), 1) := by decide +kernel
theorem dX10_read_130 : decode cX10_read 130 = .ok (.goto 7, 3) := by decide +kernel
theorem dX10_read_137 : decode cX10_read 137 = .ok (.ireturn, 1) := by decide +kernel
theorem dX3_forget_0 : decode cX3_forget 0 = .ok (.aload_n 0, 1) := by decide +kernel
theorem dX3_forget_1 : decode cX3_forget 1 = .ok (.iconst 0, 1) := by decide +kernel
theorem dX3_forget_2 : decode cX3_forget 2 = .ok (.putfield 24, 3) := by decide +kernel
theorem dX3_forget_5 : decode cX3_forget 5 = .ok (.return_, 1) := by decide +kernel
theorem dX11_town_0 : decode cX11_town 0 = .ok (.aload_n 0, 1) := by decide +kernel
theorem dX11_town_1 : decode cX11_town 1 = .ok (.getfield 33, 3) := by decide +kernel
theorem dX11_town_4 : decode cX11_town 4 = .ok (.aload_n 0, 1) := by decide +kernel
theorem dX11_town_5 : decode cX11_town 5 = .ok (.getfield 10, 3) := by decide +kernel
theorem dX11_town_8 : decode cX11_town 8 = .ok (.aload_n 0, 1) := by decide +kernel
theorem dX11_town_9 : decode cX11_town 9 = .ok (.getfield 26, 3) := by decide +kernel
theorem dX11_town_12 : decode cX11_town 12 = .ok (.getfield 109, 3) := by decide +kernel
theorem dX11_town_15 : decode cX11_town 15 = .ok (.invokevirtual 112, 3) := by decide +kernel
theorem dX11_town_18 : decode cX11_town 18 = .ok (.istore_n 1, 1) := by decide +kernel
theorem dX11_town_19 : decode cX11_town 19 = .ok (.aload_n 0, 1) := by decide +kernel
theorem dX11_town_20 : decode cX11_town 20 = .ok (.getfield 10, 3) := by decide +kernel
theorem dX11_town_23 : decode cX11_town 23 = .ok (.iconst 0, 1) := by decide +kernel
theorem dX11_town_24 : decode cX11_town 24 = .ok (.invokevirtual 106, 3) := by decide +kernel
theorem dX11_town_27 : decode cX11_town 27 = .ok (.pop, 1) := by decide +kernel
theorem dX11_town_28 : decode cX11_town 28 = .ok (.iload_n 1, 1) := by decide +kernel
theorem dX11_town_29 : decode cX11_town 29 = .ok (.iconst (-1), 1) := by decide +kernel
theorem dX11_town_30 : decode cX11_town 30 = .ok (.if_icmp .eq 7, 3) := by decide +kernel
theorem dX11_town_37 : decode cX11_town 37 = .ok (.aload_n 0, 1) := by decide +kernel
theorem dX11_town_38 : decode cX11_town 38 = .ok (.getfield 33, 3) := by decide +kernel
theorem dX11_town_41 : decode cX11_town 41 = .ok (.getfield 116, 3) := by decide +kernel
theorem dX11_town_44 : decode cX11_town 44 = .ok (.ifCond .ne 12, 3) := by decide +kernel
theorem dX11_town_47 : decode cX11_town 47 = .ok (.aload_n 0, 1) := by decide +kernel
theorem dX11_town_48 : decode cX11_town 48 = .ok (.getfield 62, 3) := by decide +kernel
theorem dX11_town_51 : decode cX11_town 51 = .ok (.invokevirtual 119, 3) := by decide +kernel
theorem dX11_town_54 : decode cX11_town 54 = .ok (.iconst 0, 1) := by decide +kernel
theorem dX11_town_55 : decode cX11_town 55 = .ok (.ireturn, 1) := by decide +kernel
theorem dX12_begin_0 : decode cX12_begin 0 = .ok (.aload_n 0, 1) := by decide +kernel
theorem dX12_begin_1 : decode cX12_begin 1 = .ok (.aload_n 1, 1) := by decide +kernel
theorem dX12_begin_2 : decode cX12_begin 2 = .ok (.putfield 154, 3) := by decide +kernel
theorem dX12_begin_5 : decode cX12_begin 5 = .ok (.aload_n 0, 1) := by decide +kernel
theorem dX12_begin_6 : decode cX12_begin 6 = .ok (.iload_n 2, 1) := by decide +kernel
theorem dX12_begin_7 : decode cX12_begin 7 = .ok (.putfield 157, 3) := by decide +kernel
theorem dX12_begin_10 : decode cX12_begin 10 = .ok (.aload_n 0, 1) := by decide +kernel
theorem dX12_begin_11 : decode cX12_begin 11 = .ok (.iload_n 3, 1) := by decide +kernel
theorem dX12_begin_12 : decode cX12_begin 12 = .ok (.putfield 160, 3) := by decide +kernel
theorem dX12_begin_15 : decode cX12_begin 15 = .ok (.aload_n 0, 1) := by decide +kernel
theorem dX12_begin_16 : decode cX12_begin 16 = .ok (.iconst 0, 1) := by decide +kernel
theorem dX12_begin_17 : decode cX12_begin 17 = .ok (.putfield 163, 3) := by decide +kernel
theorem dX12_begin_20 : decode cX12_begin 20 = .ok (.aload_n 0, 1) := by decide +kernel
theorem dX12_begin_21 : decode cX12_begin 21 = .ok (.iconst (-1), 1) := by decide +kernel
theorem dX12_begin_22 : decode cX12_begin 22 = .ok (.putfield 166, 3) := by decide +kernel
theorem dX12_begin_25 : decode cX12_begin 25 = .ok (.return_, 1) := by decide +kernel
theorem dX12_town_0 : decode cX12_town 0 = .ok (.aload_n 0, 1) := by decide +kernel
theorem dX12_town_1 : decode cX12_town 1 = .ok (.iconst 0, 1) := by decide +kernel
theorem dX12_town_2 : decode cX12_town 2 = .ok (.putfield 127, 3) := by decide +kernel
theorem dX12_town_5 : decode cX12_town 5 = .ok (.aload_n 0, 1) := by decide +kernel
theorem dX12_town_6 : decode cX12_town 6 = .ok (.aload_n 0, 1) := by decide +kernel
theorem dX12_town_7 : decode cX12_town 7 = .ok (.getfield 45, 3) := by decide +kernel
theorem dX12_town_10 : decode cX12_town 10 = .ok (.aload_n 0, 1) := by decide +kernel
theorem dX12_town_11 : decode cX12_town 11 = .ok (.getfield 151, 3) := by decide +kernel
theorem dX12_town_14 : decode cX12_town 14 = .ok (.bipush 76, 2) := by decide +kernel
theorem dX12_town_16 : decode cX12_town 16 = .ok (.invokevirtual 189, 3) := by decide +kernel
theorem dX12_town_19 : decode cX12_town 19 = .ok (.aload_n 0, 1) := by decide +kernel
theorem dX12_town_20 : decode cX12_town 20 = .ok (.iconst 0, 1) := by decide +kernel
theorem dX12_town_21 : decode cX12_town 21 = .ok (.putfield 151, 3) := by decide +kernel
theorem dX12_town_24 : decode cX12_town 24 = .ok (.aload_n 0, 1) := by decide +kernel
theorem dX12_town_25 : decode cX12_town 25 = .ok (.getfield 157, 3) := by decide +kernel
theorem dX12_town_28 : decode cX12_town 28 = .ok (.ifCond .ne 5, 3) := by decide +kernel
theorem dX12_town_31 : decode cX12_town 31 = .ok (.iconst 0, 1) := by decide +kernel
theorem dX12_town_32 : decode cX12_town 32 = .ok (.ireturn, 1) := by decide +kernel
theorem dX11_rule_0 : decode cX11_rule 0 = .ok (.iload_n 1, 1) := by decide +kernel
theorem dX11_rule_1 : decode cX11_rule 1 = .ok (.ifCond .lt 12, 3) := by decide +kernel
theorem dX11_rule_4 : decode cX11_rule 4 = .ok (.iload_n 1, 1) := by decide +kernel
theorem dX11_rule_5 : decode cX11_rule 5 = .ok (.iconst 4, 1) := by decide +kernel
theorem dX11_rule_6 : decode cX11_rule 6 = .ok (.if_icmp .ge 7, 3) := by decide +kernel
theorem dX11_rule_9 : decode cX11_rule 9 = .ok (.iconst 1, 1) := by decide +kernel
theorem dX11_rule_10 : decode cX11_rule 10 = .ok (.goto 4, 3) := by decide +kernel
theorem dX11_rule_13 : decode cX11_rule 13 = .ok (.iconst 0, 1) := by decide +kernel
theorem dX11_rule_14 : decode cX11_rule 14 = .ok (.istore_n 2, 1) := by decide +kernel
theorem dX11_rule_15 : decode cX11_rule 15 = .ok (.iload_n 2, 1) := by decide +kernel
theorem dX11_rule_16 : decode cX11_rule 16 = .ok (.ifCond .eq 17, 3) := by decide +kernel
theorem dX11_rule_19 : decode cX11_rule 19 = .ok (.aload_n 0, 1) := by decide +kernel
theorem dX11_rule_20 : decode cX11_rule 20 = .ok (.getfield 40, 3) := by decide +kernel
theorem dX11_rule_23 : decode cX11_rule 23 = .ok (.aload_n 0, 1) := by decide +kernel
theorem dX11_rule_24 : decode cX11_rule 24 = .ok (.getfield 10, 3) := by decide +kernel
theorem dX11_rule_27 : decode cX11_rule 27 = .ok (.invokevirtual 141, 3) := by decide +kernel
theorem dX11_rule_30 : decode cX11_rule 30 = .ok (.goto 4, 3) := by decide +kernel
theorem dX11_rule_33 : decode cX11_rule 33 = .ok (.iconst (-1), 1) := by decide +kernel
theorem dX11_rule_34 : decode cX11_rule 34 = .ok (.istore_n 3, 1) := by decide +kernel
theorem dX11_rule_35 : decode cX11_rule 35 = .ok (.aload_n 0, 1) := by decide +kernel
theorem dX11_rule_36 : decode cX11_rule 36 = .ok (.getfield 10, 3) := by decide +kernel
theorem dX11_rule_39 : decode cX11_rule 39 = .ok (.iconst 0, 1) := by decide +kernel
theorem dX11_rule_40 : decode cX11_rule 40 = .ok (.invokevirtual 106, 3) := by decide +kernel
theorem dX11_rule_43 : decode cX11_rule 43 = .ok (.pop, 1) := by decide +kernel
theorem dX11_rule_44 : decode cX11_rule 44 = .ok (.iload_n 2, 1) := by decide +kernel
theorem dX11_rule_45 : decode cX11_rule 45 = .ok (.ifCond .ne 6, 3) := by decide +kernel
theorem dX11_rule_48 : decode cX11_rule 48 = .ok (.bipush (-100), 2) := by decide +kernel
theorem dX11_rule_50 : decode cX11_rule 50 = .ok (.ireturn, 1) := by decide +kernel
theorem dX11_rule_51 : decode cX11_rule 51 = .ok (.iload_n 3, 1) := by decide +kernel
theorem dX11_rule_52 : decode cX11_rule 52 = .ok (.iconst (-1), 1) := by decide +kernel
theorem dX11_rule_53 : decode cX11_rule 53 = .ok (.if_icmp .eq 7, 3) := by decide +kernel
theorem dX11_rule_60 : decode cX11_rule 60 = .ok (.aload_n 0, 1) := by decide +kernel
theorem dX11_rule_61 : decode cX11_rule 61 = .ok (.getfield 26, 3) := by decide +kernel
theorem dX11_rule_64 : decode cX11_rule 64 = .ok (.getfield 144, 3) := by decide +kernel
theorem dX11_rule_67 : decode cX11_rule 67 = .ok (.iload_n 1, 1) := by decide +kernel
theorem dX11_rule_68 : decode cX11_rule 68 = .ok (.aaload, 1) := by decide +kernel
theorem dX11_rule_69 : decode cX11_rule 69 = .ok (.aload_n 0, 1) := by decide +kernel
theorem dX11_rule_70 : decode cX11_rule 70 = .ok (.getfield 40, 3) := by decide +kernel
theorem dX11_rule_73 : decode cX11_rule 73 = .ok (.getfield 148, 3) := by decide +kernel
theorem dX11_rule_76 : decode cX11_rule 76 = .ok (.invokevirtual 152, 3) := by decide +kernel
theorem dX11_rule_79 : decode cX11_rule 79 = .ok (.aload_n 0, 1) := by decide +kernel
theorem dX11_rule_80 : decode cX11_rule 80 = .ok (.iconst 0, 1) := by decide +kernel
theorem dX11_rule_81 : decode cX11_rule 81 = .ok (.putfield 95, 3) := by decide +kernel
theorem dX11_rule_84 : decode cX11_rule 84 = .ok (.iconst 0, 1) := by decide +kernel
theorem dX11_rule_85 : decode cX11_rule 85 = .ok (.ireturn, 1) := by decide +kernel
theorem dX6_settle_0 : decode cX6_settle 0 = .ok (.aload_n 0, 1) := by decide +kernel
theorem dX6_settle_1 : decode cX6_settle 1 = .ok (.getfield 22, 3) := by decide +kernel
theorem dX6_settle_4 : decode cX6_settle 4 = .ok (.ifCond .le 54, 3) := by decide +kernel
theorem dX6_settle_58 : decode cX6_settle 58 = .ok (.return_, 1) := by decide +kernel
theorem dX6_read_0 : decode cX6_read 0 = .ok (.aload_n 0, 1) := by decide +kernel
theorem dX6_read_1 : decode cX6_read 1 = .ok (.getfield 12, 3) := by decide +kernel
theorem dX6_read_4 : decode cX6_read 4 = .ok (.iconst 0, 1) := by decide +kernel
theorem dX6_read_5 : decode cX6_read 5 = .ok (.putfield 39, 3) := by decide +kernel
theorem dX6_read_8 : decode cX6_read 8 = .ok (.aload_n 0, 1) := by decide +kernel
theorem dX6_read_9 : decode cX6_read 9 = .ok (.iconst 0, 1) := by decide +kernel
theorem dX6_read_10 : decode cX6_read 10 = .ok (.putfield 22, 3) := by decide +kernel
theorem dX6_read_13 : decode cX6_read 13 = .ok (.aload_n 0, 1) := by decide +kernel
theorem dX6_read_14 : decode cX6_read 14 = .ok (.iconst 0, 1) := by decide +kernel
theorem dX6_read_15 : decode cX6_read 15 = .ok (.putfield 26, 3) := by decide +kernel
theorem dX6_read_18 : decode cX6_read 18 = .ok (.aload_n 0, 1) := by decide +kernel
theorem dX6_read_19 : decode cX6_read 19 = .ok (.iconst 0, 1) := by decide +kernel
theorem dX6_read_20 : decode cX6_read 20 = .ok (.putfield 29, 3) := by decide +kernel
theorem dX6_read_23 : decode cX6_read 23 = .ok (.aload_n 0, 1) := by decide +kernel
theorem dX6_read_24 : decode cX6_read 24 = .ok (.iconst 0, 1) := by decide +kernel
theorem dX6_read_25 : decode cX6_read 25 = .ok (.putfield 32, 3) := by decide +kernel
theorem dX6_read_28 : decode cX6_read 28 = .ok (.aload_n 0, 1) := by decide +kernel
theorem dX6_read_29 : decode cX6_read 29 = .ok (.iconst 1, 1) := by decide +kernel
theorem dX6_read_30 : decode cX6_read 30 = .ok (.putfield 35, 3) := by decide +kernel
theorem dX6_read_33 : decode cX6_read 33 = .ok (.aload_n 1, 1) := by decide +kernel
theorem dX6_read_34 : decode cX6_read 34 = .ok (.getfield 42, 3) := by decide +kernel
theorem dX6_read_37 : decode cX6_read 37 = .ok (.bipush 40, 2) := by decide +kernel
theorem dX6_read_39 : decode cX6_read 39 = .ok (.invokestatic 45, 3) := by decide +kernel
theorem dX6_read_42 : decode cX6_read 42 = .ok (.istore_n 2, 1) := by decide +kernel
theorem dX6_read_43 : decode cX6_read 43 = .ok (.iconst 0, 1) := by decide +kernel
theorem dX6_read_44 : decode cX6_read 44 = .ok (.istore_n 3, 1) := by decide +kernel
theorem dX6_read_45 : decode cX6_read 45 = .ok (.iload_n 3, 1) := by decide +kernel
theorem dX6_read_46 : decode cX6_read 46 = .ok (.iload_n 2, 1) := by decide +kernel
theorem dX6_read_47 : decode cX6_read 47 = .ok (.if_icmp .ge 48, 3) := by decide +kernel
theorem dX6_read_95 : decode cX6_read 95 = .ok (.aload_n 1, 1) := by decide +kernel
theorem dX6_read_96 : decode cX6_read 96 = .ok (.getfield 42, 3) := by decide +kernel
theorem dX6_read_99 : decode cX6_read 99 = .ok (.bipush 40, 2) := by decide +kernel
theorem dX6_read_101 : decode cX6_read 101 = .ok (.if_icmp .le 6, 3) := by decide +kernel
theorem dX6_read_107 : decode cX6_read 107 = .ok (.aload_n 1, 1) := by decide +kernel
theorem dX6_read_108 : decode cX6_read 108 = .ok (.getfield 42, 3) := by decide +kernel
theorem dX6_read_111 : decode cX6_read 111 = .ok (.ifCond .le 22, 3) := by decide +kernel
theorem dX6_read_133 : decode cX6_read 133 = .ok (.aload_n 0, 1) := by decide +kernel
theorem dX6_read_134 : decode cX6_read 134 = .ok (.iconst 1, 1) := by decide +kernel
theorem dX6_read_135 : decode cX6_read 135 = .ok (.invokevirtual 61, 3) := by decide +kernel
theorem dX6_read_138 : decode cX6_read 138 = .ok (.iconst (-1), 1) := by decide +kernel
theorem dX6_read_139 : decode cX6_read 139 = .ok (.ireturn, 1) := by decide +kernel
theorem dX0_copy_0 : decode cX0_copy 0 = .ok (.aload_n 1, 1) := by decide +kernel
theorem dX0_copy_1 : decode cX0_copy 1 = .ok (.getfield 9, 3) := by decide +kernel
theorem dX0_copy_4 : decode cX0_copy 4 = .ok (.iconst 0, 1) := by decide +kernel
theorem dX0_copy_5 : decode cX0_copy 5 = .ok (.aload_n 0, 1) := by decide +kernel
theorem dX0_copy_6 : decode cX0_copy 6 = .ok (.getfield 9, 3) := by decide +kernel
theorem dX0_copy_9 : decode cX0_copy 9 = .ok (.iconst 0, 1) := by decide +kernel
theorem dX0_copy_10 : decode cX0_copy 10 = .ok (.bipush 40, 2) := by decide +kernel
theorem dX0_copy_12 : decode cX0_copy 12 = .ok (.invokestatic 19, 3) := by decide +kernel
theorem dX0_copy_15 : decode cX0_copy 15 = .ok (.aload_n 0, 1) := by decide +kernel
theorem dX0_copy_16 : decode cX0_copy 16 = .ok (.aload_n 1, 1) := by decide +kernel
theorem dX0_copy_17 : decode cX0_copy 17 = .ok (.getfield 15, 3) := by decide +kernel
theorem dX0_copy_20 : decode cX0_copy 20 = .ok (.putfield 15, 3) := by decide +kernel
theorem dX0_copy_23 : decode cX0_copy 23 = .ok (.return_, 1) := by decide +kernel
theorem gX12_end_X12_in : GoodIn wsX12_end (va_wsS RX12 136 yX12_in wsX12_in) := gi_S wd_7_182 wd_7_183 wd_1_12 wd_7_184
theorem gX10_read_J7_fill_53178 : GoodIn wsX10_read (va_wsS RX10 43 yJ7_fill_53178 wsJ7_fill_53178) := gi_S wd_2_174 wd_2_175 wd_1_13 wd_2_176
theorem gX11_town_X10_read : GoodIn wsX11_town (wsV RX11 112 RX10 yX10_read wsX10_read) := gi_V wd_2_170 wd_2_171 wd_2_172 wd_1_6 wd_2_173
theorem gX11_town_X3_forget : GoodIn wsX11_town (wsV RX11 119 RX3 yX3_forget wsX3_forget) := gi_V wd_2_223 wd_2_224 wd_2_225 wd_1_9 wd_2_226
theorem gX11_town_X8_cut : GoodIn wsX11_town (wsV RX11 106 RX8 yX8_cut wsX8_cut) := gi_V wd_2_162 wd_2_163 wd_2_164 wd_1_2 wd_2_165
theorem gX12_town_X12_begin : GoodIn wsX12_town (wsV RX12 189 RX12 yX12_begin wsX12_begin) := gi_V wd_7_189 wd_7_191 wd_0_52 wd_1_12 wd_7_192
theorem gX11_rule_X0_copy : GoodIn wsX11_rule (wsV RX11 152 RX0 yX0_copy wsX0_copy) := gi_V wd_3_144 wd_3_145 wd_3_146 wd_1_5 wd_3_147
theorem gX11_rule_X6_read : GoodIn wsX11_rule (wsV RX11 141 RX6 yX6_read wsX6_read) := gi_V wd_3_14 wd_3_15 wd_3_16 wd_1_7 wd_3_17
theorem gX11_rule_X8_cut : GoodIn wsX11_rule (wsV RX11 106 RX8 yX8_cut wsX8_cut) := gi_V wd_2_162 wd_2_163 wd_2_164 wd_1_2 wd_2_165
theorem gX6_read_X6_settle : GoodIn wsX6_read (wsV RX6 61 RX6 yX6_settle wsX6_settle) := gi_V wd_3_137 wd_3_139 wd_0_17 wd_1_7 wd_3_140
set_option maxRecDepth 100000 in
set_option maxHeartbeats 4000000 in
theorem cX12_end_1 (l : Launch) (D : va_G) (y : Nat → ClassId) (a0 : Nat) (n0 : Int32) (hn0h : n0 ≤ (-1)) (a1 : Nat) (a2 : Nat) (a3 : Nat) (a4 : Nat) (a5 : Nat) (a6 : Nat) (a7 : Nat) (a8 : Nat) (a9 : Nat) (a10 : Nat) (a11 : Nat) (a12 : Nat) (a13 : Nat) (a14 : Nat) (a15 : Nat) (a16 : Nat) (a17 : Nat) (a18 : Nat) (a19 : Nat) (a20 : Nat) (a21 : Nat) (a22 : Nat) (a23 : Nat) (a24 : Nat) (a25 : Nat) (a26 : Nat) (a27 : Nat) (a28 : Nat) (a29 : Nat) (a30 : Nat) (a31 : Nat) (a32 : Nat) (a33 : Nat) (a34 : Nat) (a35 : Nat) (sz : Nat) : Met l yX12_end wsX12_end { frames := 3, cells := 0, slots := 0, locals := 225 } (nPc D y nT [.ref a0, .int n0] [(a0, .inr (12, (.int 0 :: .ref a1 :: .ref a2 :: .ref a3 :: .ref a4 :: .ref a5 :: .ref a6 :: .ref a7 :: .int 0 :: .ref a8 :: .int 0 :: .ref a9 :: .ref a10 :: .int 1 :: .ref a11 :: .int 0 :: .ref a12 :: .int 0 :: .int 0 :: .null :: .int 0 :: .int 0 :: .int 0 :: .int 0 :: .ref a13 :: .ref a14 :: .ref a15 :: .int (-1) :: .int 0 :: .int 0 :: .int 0 :: .int 0 :: .int 0 :: .int 0 :: .int 0 :: .ref a16 :: .int 0 :: .ref a17 :: .int 0 :: .ref a18 :: .ref a19 :: .int 0 :: .int 0 :: .int 0 :: .int 0 :: .ref a20 :: .ref a21 :: .ref a22 :: .ref a23 :: .ref a24 :: .ref a25 :: .ref a26 :: .ref a27 :: .ref a28 :: .int 0 :: .ref a29 :: .ref a30 :: .ref a31 :: .long 0 :: .int 0 :: .int 0 :: .int 0 :: .long 0 :: .int 0 :: .ref a32 :: .int 0 :: .int 0 :: .int 0 :: .int 0 :: .ref a33 :: .ref a34 :: .ref a35 :: [])))] sz) ((fun A => nQi D y (fun r _ => r = 0) (fun u => [(a0, .inr (12, (.int 0 :: .ref a1 :: .ref a2 :: .ref a3 :: .ref a4 :: .ref a5 :: .ref a6 :: .ref a7 :: .int 0 :: .ref a8 :: .int 0 :: .ref a9 :: .ref a10 :: .int 1 :: .ref a11 :: .int 0 :: .ref a12 :: .int 0 :: .int 0 :: .null :: .int 0 :: .int 0 :: .int 0 :: .int 0 :: .ref a13 :: .ref a14 :: .ref a15 :: .int (-1) :: .int 0 :: .int 0 :: .int 0 :: .int 0 :: .int 0 :: .int 0 :: .int 0 :: .ref a16 :: .int 0 :: .ref a17 :: .int 0 :: .ref a18 :: .ref a19 :: .int 0 :: .int 0 :: .int 0 :: .int 0 :: .ref a20 :: .ref a21 :: .ref a22 :: .ref a23 :: .ref a24 :: .ref a25 :: .ref a26 :: .ref a27 :: .ref a28 :: .int 0 :: .ref a29 :: .ref a30 :: .ref a31 :: .long 0 :: .int 0 :: .int 0 :: .int 0 :: .long 0 :: .int 0 :: .ref a32 :: .int 0 :: .int 0 :: .int 0 :: .int 0 :: .ref a33 :: .ref a34 :: .ref a35 :: [])))]) A) (va_A [(a0, .inr (12, (.int 0 :: .ref a1 :: .ref a2 :: .ref a3 :: .ref a4 :: .ref a5 :: .ref a6 :: .ref a7 :: .int 0 :: .ref a8 :: .int 0 :: .ref a9 :: .ref a10 :: .int 1 :: .ref a11 :: .int 0 :: .ref a12 :: .int 0 :: .int 0 :: .null :: .int 0 :: .int 0 :: .int 0 :: .int 0 :: .ref a13 :: .ref a14 :: .ref a15 :: .int (-1) :: .int 0 :: .int 0 :: .int 0 :: .int 0 :: .int 0 :: .int 0 :: .int 0 :: .ref a16 :: .int 0 :: .ref a17 :: .int 0 :: .ref a18 :: .ref a19 :: .int 0 :: .int 0 :: .int 0 :: .int 0 :: .ref a20 :: .ref a21 :: .ref a22 :: .ref a23 :: .ref a24 :: .ref a25 :: .ref a26 :: .ref a27 :: .ref a28 :: .int 0 :: .ref a29 :: .ref a30 :: .ref a31 :: .long 0 :: .int 0 :: .int 0 :: .int 0 :: .long 0 :: .int 0 :: .ref a32 :: .int 0 :: .int 0 :: .int 0 :: .int 0 :: .ref a33 :: .ref a34 :: .ref a35 :: [])))] sz)) 0 0 (va_A [(a0, .inr (12, (.int 0 :: .ref a1 :: .ref a2 :: .ref a3 :: .ref a4 :: .ref a5 :: .ref a6 :: .ref a7 :: .int 0 :: .ref a8 :: .int 0 :: .ref a9 :: .ref a10 :: .int 1 :: .ref a11 :: .int 0 :: .ref a12 :: .int 0 :: .int 0 :: .null :: .int 0 :: .int 0 :: .int 0 :: .int 0 :: .ref a13 :: .ref a14 :: .ref a15 :: .int (-1) :: .int 0 :: .int 0 :: .int 0 :: .int 0 :: .int 0 :: .int 0 :: .int 0 :: .ref a16 :: .int 0 :: .ref a17 :: .int 0 :: .ref a18 :: .ref a19 :: .int 0 :: .int 0 :: .int 0 :: .int 0 :: .ref a20 :: .ref a21 :: .ref a22 :: .ref a23 :: .ref a24 :: .ref a25 :: .ref a26 :: .ref a27 :: .ref a28 :: .int 0 :: .ref a29 :: .ref a30 :: .ref a31 :: .long 0 :: .int 0 :: .int 0 :: .int 0 :: .long 0 :: .int 0 :: .ref a32 :: .int 0 :: .int 0 :: .int 0 :: .int 0 :: .ref a33 :: .ref a34 :: .ref a35 :: [])))] sz) := by
  refine nm_ofW (D := D) (y := y) (E := nT) (yy := yX12_end) (wsy := wsX12_end) (rm := { frames := 3, cells := 0, slots := 0, locals := 225 }) (as := [.ref a0, .int n0]) (ws := [(a0, .inr (12, (.int 0 :: .ref a1 :: .ref a2 :: .ref a3 :: .ref a4 :: .ref a5 :: .ref a6 :: .ref a7 :: .int 0 :: .ref a8 :: .int 0 :: .ref a9 :: .ref a10 :: .int 1 :: .ref a11 :: .int 0 :: .ref a12 :: .int 0 :: .int 0 :: .null :: .int 0 :: .int 0 :: .int 0 :: .int 0 :: .ref a13 :: .ref a14 :: .ref a15 :: .int (-1) :: .int 0 :: .int 0 :: .int 0 :: .int 0 :: .int 0 :: .int 0 :: .int 0 :: .ref a16 :: .int 0 :: .ref a17 :: .int 0 :: .ref a18 :: .ref a19 :: .int 0 :: .int 0 :: .int 0 :: .int 0 :: .ref a20 :: .ref a21 :: .ref a22 :: .ref a23 :: .ref a24 :: .ref a25 :: .ref a26 :: .ref a27 :: .ref a28 :: .int 0 :: .ref a29 :: .ref a30 :: .ref a31 :: .long 0 :: .int 0 :: .int 0 :: .int 0 :: .long 0 :: .int 0 :: .ref a32 :: .int 0 :: .int 0 :: .int 0 :: .int 0 :: .ref a33 :: .ref a34 :: .ref a35 :: [])))]) (sz := sz) (mc := 0) (ms := 0) (Qc := fun A => nQi D y (fun r _ => r = 0) (fun u => [(a0, .inr (12, (.int 0 :: .ref a1 :: .ref a2 :: .ref a3 :: .ref a4 :: .ref a5 :: .ref a6 :: .ref a7 :: .int 0 :: .ref a8 :: .int 0 :: .ref a9 :: .ref a10 :: .int 1 :: .ref a11 :: .int 0 :: .ref a12 :: .int 0 :: .int 0 :: .null :: .int 0 :: .int 0 :: .int 0 :: .int 0 :: .ref a13 :: .ref a14 :: .ref a15 :: .int (-1) :: .int 0 :: .int 0 :: .int 0 :: .int 0 :: .int 0 :: .int 0 :: .int 0 :: .ref a16 :: .int 0 :: .ref a17 :: .int 0 :: .ref a18 :: .ref a19 :: .int 0 :: .int 0 :: .int 0 :: .int 0 :: .ref a20 :: .ref a21 :: .ref a22 :: .ref a23 :: .ref a24 :: .ref a25 :: .ref a26 :: .ref a27 :: .ref a28 :: .int 0 :: .ref a29 :: .ref a30 :: .ref a31 :: .long 0 :: .int 0 :: .int 0 :: .int 0 :: .long 0 :: .int 0 :: .ref a32 :: .int 0 :: .int 0 :: .int 0 :: .int 0 :: .ref a33 :: .ref a34 :: .ref a35 :: [])))]) A) (cc := cX12_end) (maxL := 2) (ret := (some .boolean)) (by decide +kernel) rfl (Nat.le_of_ble_eq_true rfl) ?_
  intro p e s m below meth c A ls H hx hb hr hml hts hown hlocks hnm hsz hP hK hD hA hS hE hAe hl
  replace hl : lv_has ls 2 [(0, .ref a0), (1, .int n0)] := hl
  have hown : s.vm.findClass RX12 = some m.cls := hown
  have w_0 := hts (.fieldLink RX12 127 "SoldToBehindModel" "thrown" "I") (gt_k wd_6_211)
  have w_1 := hts (.fieldLink RX12 151 "SoldToBehindModel" "typed" "I") (gt_k wd_6_208)
  refine lv_aload_n hx hb dX12_end_0 rfl (lv_at hl 0 rfl) ?_
  refine lv_iconst (v := 0) hx hb dX12_end_1 (by decide +kernel) ?_
  refine nb_put (D := D) (ci := 12) (v := .int 0) (ty := .int) (C := RX12) (T := TX12) (N := 72) (ws' := [(a0, .inr (12, (.int 0 :: .ref a1 :: .ref a2 :: .ref a3 :: .ref a4 :: .ref a5 :: .ref a6 :: .ref a7 :: .int 0 :: .ref a8 :: .int 0 :: .ref a9 :: .ref a10 :: .int 1 :: .ref a11 :: .int 0 :: .ref a12 :: .int 0 :: .int 0 :: .null :: .int 0 :: .int 0 :: .int 0 :: .int 0 :: .ref a13 :: .ref a14 :: .ref a15 :: .int (-1) :: .int 0 :: .int 0 :: .int 0 :: .int 0 :: .int 0 :: .int 0 :: .int 0 :: .ref a16 :: .int 0 :: .ref a17 :: .int 0 :: .ref a18 :: .ref a19 :: .int 0 :: .int 0 :: .int 0 :: .int 0 :: .ref a20 :: .ref a21 :: .ref a22 :: .ref a23 :: .ref a24 :: .ref a25 :: .ref a26 :: .ref a27 :: .ref a28 :: .int 0 :: .ref a29 :: .ref a30 :: .ref a31 :: .long 0 :: .int 0 :: .int 0 :: .int 0 :: .long 0 :: .int 0 :: .ref a32 :: .int 0 :: .int 0 :: .int 0 :: .int 0 :: .ref a33 :: .ref a34 :: .ref a35 :: [])))]) hx hb hts (gt_c iG_X12) tyX12 tyX12_ok nmX12 hown hK hP hD hS 0 rfl rfl 18 (by decide +kernel) w_0 (fun _ h9 => h9) rfl (by decide +kernel) rfl rfl (Nat.le_of_ble_eq_true rfl) rfl dX12_end_2 (fun H locs hP hD hS => ?_)
  refine lv_iload_n hx hb dX12_end_5 rfl (lv_at hl 1 rfl) ?_
  refine lv_i2l (v := n0.toInt64) hx hb dX12_end_6 rfl ?_
  refine lv_lconst (v := 0) hx hb dX12_end_7 (by decide +kernel) ?_
  refine lv_aload_n hx hb dX12_end_8 rfl (lv_at hl 0 rfl) ?_
  refine va_get (D := D) (ci := 12) (v := .int 0) (C := RX12) (T := TX12) (N := 72) hx hb hts (gt_c iG_X12) hown hK hP 0 rfl rfl 15 (by decide +kernel) w_1 (fun _ h9 => h9) rfl dX12_end_9 ?_
  refine lv_i2l (v := 0) hx hb dX12_end_12 (by decide +kernel) ?_
  refine nj_i (ws := [(a0, .inr (12, (.int 0 :: .ref a1 :: .ref a2 :: .ref a3 :: .ref a4 :: .ref a5 :: .ref a6 :: .ref a7 :: .int 0 :: .ref a8 :: .int 0 :: .ref a9 :: .ref a10 :: .int 1 :: .ref a11 :: .int 0 :: .ref a12 :: .int 0 :: .int 0 :: .null :: .int 0 :: .int 0 :: .int 0 :: .int 0 :: .ref a13 :: .ref a14 :: .ref a15 :: .int (-1) :: .int 0 :: .int 0 :: .int 0 :: .int 0 :: .int 0 :: .int 0 :: .int 0 :: .ref a16 :: .int 0 :: .ref a17 :: .int 0 :: .ref a18 :: .ref a19 :: .int 0 :: .int 0 :: .int 0 :: .int 0 :: .ref a20 :: .ref a21 :: .ref a22 :: .ref a23 :: .ref a24 :: .ref a25 :: .ref a26 :: .ref a27 :: .ref a28 :: .int 0 :: .ref a29 :: .ref a30 :: .ref a31 :: .long 0 :: .int 0 :: .int 0 :: .int 0 :: .long 0 :: .int 0 :: .ref a32 :: .int 0 :: .int 0 :: .int 0 :: .int 0 :: .ref a33 :: .ref a34 :: .ref a35 :: [])))]) (wc := []) (wr := [(a0, .inr (12, (.int 0 :: .ref a1 :: .ref a2 :: .ref a3 :: .ref a4 :: .ref a5 :: .ref a6 :: .ref a7 :: .int 0 :: .ref a8 :: .int 0 :: .ref a9 :: .ref a10 :: .int 1 :: .ref a11 :: .int 0 :: .ref a12 :: .int 0 :: .int 0 :: .null :: .int 0 :: .int 0 :: .int 0 :: .int 0 :: .ref a13 :: .ref a14 :: .ref a15 :: .int (-1) :: .int 0 :: .int 0 :: .int 0 :: .int 0 :: .int 0 :: .int 0 :: .int 0 :: .ref a16 :: .int 0 :: .ref a17 :: .int 0 :: .ref a18 :: .ref a19 :: .int 0 :: .int 0 :: .int 0 :: .int 0 :: .ref a20 :: .ref a21 :: .ref a22 :: .ref a23 :: .ref a24 :: .ref a25 :: .ref a26 :: .ref a27 :: .ref a28 :: .int 0 :: .ref a29 :: .ref a30 :: .ref a31 :: .long 0 :: .int 0 :: .int 0 :: .int 0 :: .long 0 :: .int 0 :: .ref a32 :: .int 0 :: .int 0 :: .int 0 :: .int 0 :: .ref a33 :: .ref a34 :: .ref a35 :: [])))]) (nr_S (As := [.long n0.toInt64, .long 0, .long 0]) (rest := []) ⟨hx, hb, hml, hown, hts⟩ (cX12_in_1 l D y n0.toInt64 (q_i2lhi hn0h rfl) H.size) (va_cwS 3 hts gX12_end_X12_in rfl rfl rfl (by decide +kernel) ⟨Nat.le_of_ble_eq_true rfl, Nat.le_of_ble_eq_true rfl⟩) hK hP hD hE [] rfl (by decide +kernel) rfl rfl hl.1 rfl (lv_room (Nat.le_of_ble_eq_true rfl)) dX12_end_13 ⟨Nat.le_of_ble_eq_true rfl, Nat.le_of_ble_eq_true rfl⟩) hP hD hS hA [] [0] rfl rfl (by decide +kernel) (by decide +kernel) (fun r2 u1 H locs er2 hP hD hS => ?_)
  subst er2
  refine lv_if_ne (tgt := 21) hx hb dX12_end_16 (by decide +kernel) (fun c => absurd (by decide +kernel) c) (fun _ => ?_)
  refine lv_iconst (v := 0) hx hb dX12_end_19 (by decide +kernel) ?_
  refine W.widen (k := 0) (n := 0) (Nat.le_of_ble_eq_true rfl) (Nat.le_of_ble_eq_true rfl) ?_
  exact W.zret (v := 0) hx hb hr (by decide +kernel) (fun t ht hW => ⟨⟨0, (fun _ => 0), rfl, rfl, by rw [ht]; exact hP, va_K.moved hW.alike hK, hD⟩, hS.F ht⟩) hS.2.2 dX12_end_20 hlocks
set_option maxRecDepth 100000 in
set_option maxHeartbeats 4000000 in
theorem cX12_in_2 (l : Launch) (D : va_G) (y : Nat → ClassId)  (sz : Nat) : Met l yX12_in wsX12_in { frames := 2, cells := 0, slots := 0, locals := 200 } (nPc D y nT [.long 0, .long 0, .long 0] [] sz) ((fun A => nQi D y (fun r _ => r = 1) (fun u => []) A) (va_A [] sz)) 0 0 (va_A [] sz) := by
  refine nm_ofW (D := D) (y := y) (E := nT) (yy := yX12_in) (wsy := wsX12_in) (rm := { frames := 2, cells := 0, slots := 0, locals := 200 }) (as := [.long 0, .long 0, .long 0]) (ws := []) (sz := sz) (mc := 0) (ms := 0) (Qc := fun A => nQi D y (fun r _ => r = 1) (fun u => []) A) (cc := cX12_in) (maxL := 6) (ret := (some .boolean)) (by decide +kernel) rfl (Nat.le_of_ble_eq_true rfl) ?_
  intro p e s m below meth c A ls H hx hb hr hml hts hown hlocks hnm hsz hP hK hD hA hS hE hAe hl
  replace hl : lv_has ls 6 [(0, .long 0), (2, .long 0), (4, .long 0)] := hl
  have hown : s.vm.findClass RX12 = some m.cls := hown
  refine lv_lload_n hx hb dX12_in_0 rfl (lv_at hl 0 rfl) ?_
  refine lv_lload_n hx hb dX12_in_1 rfl (lv_at hl 1 rfl) ?_
  refine W.lcmp hx hb dX12_in_2 ?_
  refine nv_i (v := 0) (by decide +kernel) ?_
  refine lv_if_lt (tgt := 17) hx hb dX12_in_3 (by decide +kernel) (fun c => absurd c (by decide +kernel)) (fun _ => ?_)
  refine lv_lload_n hx hb dX12_in_6 rfl (lv_at hl 0 rfl) ?_
  refine lv_lload hx hb dX12_in_7 (lv_at hl 2 rfl) ?_
  refine W.lcmp hx hb dX12_in_9 ?_
  refine nv_i (v := 0) (by decide +kernel) ?_
  refine lv_if_gt (tgt := 17) hx hb dX12_in_10 (by decide +kernel) (fun c => absurd c (by decide +kernel)) (fun _ => ?_)
  refine lv_iconst (v := 1) hx hb dX12_in_13 (by decide +kernel) ?_
  refine lv_goto (tgt := 18) hx hb dX12_in_14 (by decide +kernel) ?_
  refine W.widen (k := 0) (n := 0) (Nat.le_of_ble_eq_true rfl) (Nat.le_of_ble_eq_true rfl) ?_
  exact W.zret (v := 1) hx hb hr (by decide +kernel) (fun t ht hW => ⟨⟨1, (fun _ => 0), rfl, rfl, by rw [ht]; exact hP, va_K.moved hW.alike hK, hD⟩, hS.F ht⟩) hS.2.2 dX12_in_18 hlocks
set_option maxRecDepth 100000 in
set_option maxHeartbeats 4000000 in
theorem cX12_end_2 (l : Launch) (D : va_G) (y : Nat → ClassId) (a0 : Nat) (a1 : Nat) (a2 : Nat) (a3 : Nat) (a4 : Nat) (a5 : Nat) (a6 : Nat) (a7 : Nat) (a8 : Nat) (a9 : Nat) (a10 : Nat) (a11 : Nat) (a12 : Nat) (a13 : Nat) (a14 : Nat) (a15 : Nat) (a16 : Nat) (a17 : Nat) (a18 : Nat) (a19 : Nat) (a20 : Nat) (a21 : Nat) (a22 : Nat) (a23 : Nat) (a24 : Nat) (a25 : Nat) (a26 : Nat) (a27 : Nat) (a28 : Nat) (a29 : Nat) (a30 : Nat) (a31 : Nat) (a32 : Nat) (a33 : Nat) (a34 : Nat) (a35 : Nat) (sz : Nat) : Met l yX12_end wsX12_end { frames := 3, cells := 0, slots := 0, locals := 225 } (nPc D y nT [.ref a0, .int 0] [(a0, .inr (12, (.int 0 :: .ref a1 :: .ref a2 :: .ref a3 :: .ref a4 :: .ref a5 :: .ref a6 :: .ref a7 :: .int 0 :: .ref a8 :: .int 0 :: .ref a9 :: .ref a10 :: .int 1 :: .ref a11 :: .int 0 :: .ref a12 :: .int 0 :: .int 0 :: .null :: .int 0 :: .int 0 :: .int 0 :: .int 0 :: .ref a13 :: .ref a14 :: .ref a15 :: .int (-1) :: .int 0 :: .int 0 :: .int 0 :: .int 0 :: .int 0 :: .int 0 :: .int 0 :: .ref a16 :: .int 0 :: .ref a17 :: .int 0 :: .ref a18 :: .ref a19 :: .int 0 :: .int 0 :: .int 0 :: .int 0 :: .ref a20 :: .ref a21 :: .ref a22 :: .ref a23 :: .ref a24 :: .ref a25 :: .ref a26 :: .ref a27 :: .ref a28 :: .int 0 :: .ref a29 :: .ref a30 :: .ref a31 :: .long 0 :: .int 0 :: .int 0 :: .int 0 :: .long 0 :: .int 0 :: .ref a32 :: .int 0 :: .int 0 :: .int 0 :: .int 0 :: .ref a33 :: .ref a34 :: .ref a35 :: [])))] sz) ((fun A => nQi D y (fun r _ => r = 1) (fun u => [(a0, .inr (12, (.int 0 :: .ref a1 :: .ref a2 :: .ref a3 :: .ref a4 :: .ref a5 :: .ref a6 :: .ref a7 :: .int 0 :: .ref a8 :: .int 0 :: .ref a9 :: .ref a10 :: .int 1 :: .ref a11 :: .int 0 :: .ref a12 :: .int 0 :: .int 0 :: .null :: .int 0 :: .int 0 :: .int 0 :: .int 0 :: .ref a13 :: .ref a14 :: .ref a15 :: .int (-1) :: .int 0 :: .int 0 :: .int 0 :: .int 0 :: .int 0 :: .int 0 :: .int 0 :: .ref a16 :: .int 0 :: .ref a17 :: .int 0 :: .ref a18 :: .ref a19 :: .int 0 :: .int 0 :: .int 0 :: .int 0 :: .ref a20 :: .ref a21 :: .ref a22 :: .ref a23 :: .ref a24 :: .ref a25 :: .ref a26 :: .ref a27 :: .ref a28 :: .int 0 :: .ref a29 :: .ref a30 :: .ref a31 :: .long 0 :: .int 0 :: .int 0 :: .int 0 :: .long 0 :: .int 0 :: .ref a32 :: .int 0 :: .int 0 :: .int 0 :: .int 0 :: .ref a33 :: .ref a34 :: .ref a35 :: [])))]) A) (va_A [(a0, .inr (12, (.int 0 :: .ref a1 :: .ref a2 :: .ref a3 :: .ref a4 :: .ref a5 :: .ref a6 :: .ref a7 :: .int 0 :: .ref a8 :: .int 0 :: .ref a9 :: .ref a10 :: .int 1 :: .ref a11 :: .int 0 :: .ref a12 :: .int 0 :: .int 0 :: .null :: .int 0 :: .int 0 :: .int 0 :: .int 0 :: .ref a13 :: .ref a14 :: .ref a15 :: .int (-1) :: .int 0 :: .int 0 :: .int 0 :: .int 0 :: .int 0 :: .int 0 :: .int 0 :: .ref a16 :: .int 0 :: .ref a17 :: .int 0 :: .ref a18 :: .ref a19 :: .int 0 :: .int 0 :: .int 0 :: .int 0 :: .ref a20 :: .ref a21 :: .ref a22 :: .ref a23 :: .ref a24 :: .ref a25 :: .ref a26 :: .ref a27 :: .ref a28 :: .int 0 :: .ref a29 :: .ref a30 :: .ref a31 :: .long 0 :: .int 0 :: .int 0 :: .int 0 :: .long 0 :: .int 0 :: .ref a32 :: .int 0 :: .int 0 :: .int 0 :: .int 0 :: .ref a33 :: .ref a34 :: .ref a35 :: [])))] sz)) 0 0 (va_A [(a0, .inr (12, (.int 0 :: .ref a1 :: .ref a2 :: .ref a3 :: .ref a4 :: .ref a5 :: .ref a6 :: .ref a7 :: .int 0 :: .ref a8 :: .int 0 :: .ref a9 :: .ref a10 :: .int 1 :: .ref a11 :: .int 0 :: .ref a12 :: .int 0 :: .int 0 :: .null :: .int 0 :: .int 0 :: .int 0 :: .int 0 :: .ref a13 :: .ref a14 :: .ref a15 :: .int (-1) :: .int 0 :: .int 0 :: .int 0 :: .int 0 :: .int 0 :: .int 0 :: .int 0 :: .ref a16 :: .int 0 :: .ref a17 :: .int 0 :: .ref a18 :: .ref a19 :: .int 0 :: .int 0 :: .int 0 :: .int 0 :: .ref a20 :: .ref a21 :: .ref a22 :: .ref a23 :: .ref a24 :: .ref a25 :: .ref a26 :: .ref a27 :: .ref a28 :: .int 0 :: .ref a29 :: .ref a30 :: .ref a31 :: .long 0 :: .int 0 :: .int 0 :: .int 0 :: .long 0 :: .int 0 :: .ref a32 :: .int 0 :: .int 0 :: .int 0 :: .int 0 :: .ref a33 :: .ref a34 :: .ref a35 :: [])))] sz) := by
  refine nm_ofW (D := D) (y := y) (E := nT) (yy := yX12_end) (wsy := wsX12_end) (rm := { frames := 3, cells := 0, slots := 0, locals := 225 }) (as := [.ref a0, .int 0]) (ws := [(a0, .inr (12, (.int 0 :: .ref a1 :: .ref a2 :: .ref a3 :: .ref a4 :: .ref a5 :: .ref a6 :: .ref a7 :: .int 0 :: .ref a8 :: .int 0 :: .ref a9 :: .ref a10 :: .int 1 :: .ref a11 :: .int 0 :: .ref a12 :: .int 0 :: .int 0 :: .null :: .int 0 :: .int 0 :: .int 0 :: .int 0 :: .ref a13 :: .ref a14 :: .ref a15 :: .int (-1) :: .int 0 :: .int 0 :: .int 0 :: .int 0 :: .int 0 :: .int 0 :: .int 0 :: .ref a16 :: .int 0 :: .ref a17 :: .int 0 :: .ref a18 :: .ref a19 :: .int 0 :: .int 0 :: .int 0 :: .int 0 :: .ref a20 :: .ref a21 :: .ref a22 :: .ref a23 :: .ref a24 :: .ref a25 :: .ref a26 :: .ref a27 :: .ref a28 :: .int 0 :: .ref a29 :: .ref a30 :: .ref a31 :: .long 0 :: .int 0 :: .int 0 :: .int 0 :: .long 0 :: .int 0 :: .ref a32 :: .int 0 :: .int 0 :: .int 0 :: .int 0 :: .ref a33 :: .ref a34 :: .ref a35 :: [])))]) (sz := sz) (mc := 0) (ms := 0) (Qc := fun A => nQi D y (fun r _ => r = 1) (fun u => [(a0, .inr (12, (.int 0 :: .ref a1 :: .ref a2 :: .ref a3 :: .ref a4 :: .ref a5 :: .ref a6 :: .ref a7 :: .int 0 :: .ref a8 :: .int 0 :: .ref a9 :: .ref a10 :: .int 1 :: .ref a11 :: .int 0 :: .ref a12 :: .int 0 :: .int 0 :: .null :: .int 0 :: .int 0 :: .int 0 :: .int 0 :: .ref a13 :: .ref a14 :: .ref a15 :: .int (-1) :: .int 0 :: .int 0 :: .int 0 :: .int 0 :: .int 0 :: .int 0 :: .int 0 :: .ref a16 :: .int 0 :: .ref a17 :: .int 0 :: .ref a18 :: .ref a19 :: .int 0 :: .int 0 :: .int 0 :: .int 0 :: .ref a20 :: .ref a21 :: .ref a22 :: .ref a23 :: .ref a24 :: .ref a25 :: .ref a26 :: .ref a27 :: .ref a28 :: .int 0 :: .ref a29 :: .ref a30 :: .ref a31 :: .long 0 :: .int 0 :: .int 0 :: .int 0 :: .long 0 :: .int 0 :: .ref a32 :: .int 0 :: .int 0 :: .int 0 :: .int 0 :: .ref a33 :: .ref a34 :: .ref a35 :: [])))]) A) (cc := cX12_end) (maxL := 2) (ret := (some .boolean)) (by decide +kernel) rfl (Nat.le_of_ble_eq_true rfl) ?_
  intro p e s m below meth c A ls H hx hb hr hml hts hown hlocks hnm hsz hP hK hD hA hS hE hAe hl
  replace hl : lv_has ls 2 [(0, .ref a0), (1, .int 0)] := hl
  have hown : s.vm.findClass RX12 = some m.cls := hown
  have w_0 := hts (.fieldLink RX12 127 "SoldToBehindModel" "thrown" "I") (gt_k wd_6_211)
  have w_1 := hts (.fieldLink RX12 151 "SoldToBehindModel" "typed" "I") (gt_k wd_6_208)
  refine lv_aload_n hx hb dX12_end_0 rfl (lv_at hl 0 rfl) ?_
  refine lv_iconst (v := 0) hx hb dX12_end_1 (by decide +kernel) ?_
  refine nb_put (D := D) (ci := 12) (v := .int 0) (ty := .int) (C := RX12) (T := TX12) (N := 72) (ws' := [(a0, .inr (12, (.int 0 :: .ref a1 :: .ref a2 :: .ref a3 :: .ref a4 :: .ref a5 :: .ref a6 :: .ref a7 :: .int 0 :: .ref a8 :: .int 0 :: .ref a9 :: .ref a10 :: .int 1 :: .ref a11 :: .int 0 :: .ref a12 :: .int 0 :: .int 0 :: .null :: .int 0 :: .int 0 :: .int 0 :: .int 0 :: .ref a13 :: .ref a14 :: .ref a15 :: .int (-1) :: .int 0 :: .int 0 :: .int 0 :: .int 0 :: .int 0 :: .int 0 :: .int 0 :: .ref a16 :: .int 0 :: .ref a17 :: .int 0 :: .ref a18 :: .ref a19 :: .int 0 :: .int 0 :: .int 0 :: .int 0 :: .ref a20 :: .ref a21 :: .ref a22 :: .ref a23 :: .ref a24 :: .ref a25 :: .ref a26 :: .ref a27 :: .ref a28 :: .int 0 :: .ref a29 :: .ref a30 :: .ref a31 :: .long 0 :: .int 0 :: .int 0 :: .int 0 :: .long 0 :: .int 0 :: .ref a32 :: .int 0 :: .int 0 :: .int 0 :: .int 0 :: .ref a33 :: .ref a34 :: .ref a35 :: [])))]) hx hb hts (gt_c iG_X12) tyX12 tyX12_ok nmX12 hown hK hP hD hS 0 rfl rfl 18 (by decide +kernel) w_0 (fun _ h9 => h9) rfl (by decide +kernel) rfl rfl (Nat.le_of_ble_eq_true rfl) rfl dX12_end_2 (fun H locs hP hD hS => ?_)
  refine lv_iload_n hx hb dX12_end_5 rfl (lv_at hl 1 rfl) ?_
  refine lv_i2l (v := 0) hx hb dX12_end_6 (by decide +kernel) ?_
  refine lv_lconst (v := 0) hx hb dX12_end_7 (by decide +kernel) ?_
  refine lv_aload_n hx hb dX12_end_8 rfl (lv_at hl 0 rfl) ?_
  refine va_get (D := D) (ci := 12) (v := .int 0) (C := RX12) (T := TX12) (N := 72) hx hb hts (gt_c iG_X12) hown hK hP 0 rfl rfl 15 (by decide +kernel) w_1 (fun _ h9 => h9) rfl dX12_end_9 ?_
  refine lv_i2l (v := 0) hx hb dX12_end_12 (by decide +kernel) ?_
  refine nj_i (ws := [(a0, .inr (12, (.int 0 :: .ref a1 :: .ref a2 :: .ref a3 :: .ref a4 :: .ref a5 :: .ref a6 :: .ref a7 :: .int 0 :: .ref a8 :: .int 0 :: .ref a9 :: .ref a10 :: .int 1 :: .ref a11 :: .int 0 :: .ref a12 :: .int 0 :: .int 0 :: .null :: .int 0 :: .int 0 :: .int 0 :: .int 0 :: .ref a13 :: .ref a14 :: .ref a15 :: .int (-1) :: .int 0 :: .int 0 :: .int 0 :: .int 0 :: .int 0 :: .int 0 :: .int 0 :: .ref a16 :: .int 0 :: .ref a17 :: .int 0 :: .ref a18 :: .ref a19 :: .int 0 :: .int 0 :: .int 0 :: .int 0 :: .ref a20 :: .ref a21 :: .ref a22 :: .ref a23 :: .ref a24 :: .ref a25 :: .ref a26 :: .ref a27 :: .ref a28 :: .int 0 :: .ref a29 :: .ref a30 :: .ref a31 :: .long 0 :: .int 0 :: .int 0 :: .int 0 :: .long 0 :: .int 0 :: .ref a32 :: .int 0 :: .int 0 :: .int 0 :: .int 0 :: .ref a33 :: .ref a34 :: .ref a35 :: [])))]) (wc := []) (wr := [(a0, .inr (12, (.int 0 :: .ref a1 :: .ref a2 :: .ref a3 :: .ref a4 :: .ref a5 :: .ref a6 :: .ref a7 :: .int 0 :: .ref a8 :: .int 0 :: .ref a9 :: .ref a10 :: .int 1 :: .ref a11 :: .int 0 :: .ref a12 :: .int 0 :: .int 0 :: .null :: .int 0 :: .int 0 :: .int 0 :: .int 0 :: .ref a13 :: .ref a14 :: .ref a15 :: .int (-1) :: .int 0 :: .int 0 :: .int 0 :: .int 0 :: .int 0 :: .int 0 :: .int 0 :: .ref a16 :: .int 0 :: .ref a17 :: .int 0 :: .ref a18 :: .ref a19 :: .int 0 :: .int 0 :: .int 0 :: .int 0 :: .ref a20 :: .ref a21 :: .ref a22 :: .ref a23 :: .ref a24 :: .ref a25 :: .ref a26 :: .ref a27 :: .ref a28 :: .int 0 :: .ref a29 :: .ref a30 :: .ref a31 :: .long 0 :: .int 0 :: .int 0 :: .int 0 :: .long 0 :: .int 0 :: .ref a32 :: .int 0 :: .int 0 :: .int 0 :: .int 0 :: .ref a33 :: .ref a34 :: .ref a35 :: [])))]) (nr_S (As := [.long 0, .long 0, .long 0]) (rest := []) ⟨hx, hb, hml, hown, hts⟩ (cX12_in_2 l D y  H.size) (va_cwS 3 hts gX12_end_X12_in rfl rfl rfl (by decide +kernel) ⟨Nat.le_of_ble_eq_true rfl, Nat.le_of_ble_eq_true rfl⟩) hK hP hD hE [] rfl (by decide +kernel) rfl rfl hl.1 rfl (lv_room (Nat.le_of_ble_eq_true rfl)) dX12_end_13 ⟨Nat.le_of_ble_eq_true rfl, Nat.le_of_ble_eq_true rfl⟩) hP hD hS hA [] [0] rfl rfl (by decide +kernel) (by decide +kernel) (fun r2 u1 H locs er2 hP hD hS => ?_)
  subst er2
  refine lv_if_ne (tgt := 21) hx hb dX12_end_16 (by decide +kernel) (fun _ => ?_) (fun c => absurd c (by decide +kernel))
  refine lv_aload_n hx hb dX12_end_21 rfl (lv_at hl 0 rfl) ?_
  refine lv_iload_n hx hb dX12_end_22 rfl (lv_at hl 1 rfl) ?_
  refine nb_put (D := D) (ci := 12) (v := .int 0) (ty := .int) (C := RX12) (T := TX12) (N := 72) (ws' := [(a0, .inr (12, (.int 0 :: .ref a1 :: .ref a2 :: .ref a3 :: .ref a4 :: .ref a5 :: .ref a6 :: .ref a7 :: .int 0 :: .ref a8 :: .int 0 :: .ref a9 :: .ref a10 :: .int 1 :: .ref a11 :: .int 0 :: .ref a12 :: .int 0 :: .int 0 :: .null :: .int 0 :: .int 0 :: .int 0 :: .int 0 :: .ref a13 :: .ref a14 :: .ref a15 :: .int (-1) :: .int 0 :: .int 0 :: .int 0 :: .int 0 :: .int 0 :: .int 0 :: .int 0 :: .ref a16 :: .int 0 :: .ref a17 :: .int 0 :: .ref a18 :: .ref a19 :: .int 0 :: .int 0 :: .int 0 :: .int 0 :: .ref a20 :: .ref a21 :: .ref a22 :: .ref a23 :: .ref a24 :: .ref a25 :: .ref a26 :: .ref a27 :: .ref a28 :: .int 0 :: .ref a29 :: .ref a30 :: .ref a31 :: .long 0 :: .int 0 :: .int 0 :: .int 0 :: .long 0 :: .int 0 :: .ref a32 :: .int 0 :: .int 0 :: .int 0 :: .int 0 :: .ref a33 :: .ref a34 :: .ref a35 :: [])))]) hx hb hts (gt_c iG_X12) tyX12 tyX12_ok nmX12 hown hK hP hD hS 0 rfl rfl 15 (by decide +kernel) w_1 (fun _ h9 => h9) rfl (by decide +kernel) rfl rfl (Nat.le_of_ble_eq_true rfl) rfl dX12_end_23 (fun H locs hP hD hS => ?_)
  refine lv_iconst (v := 1) hx hb dX12_end_26 (by decide +kernel) ?_
  refine W.widen (k := 0) (n := 0) (Nat.le_of_ble_eq_true rfl) (Nat.le_of_ble_eq_true rfl) ?_
  exact W.zret (v := 1) hx hb hr (by decide +kernel) (fun t ht hW => ⟨⟨1, (fun _ => 0), rfl, rfl, by rw [ht]; exact hP, va_K.moved hW.alike hK, hD⟩, hS.F ht⟩) hS.2.2 dX12_end_27 hlocks
set_option maxRecDepth 100000 in
set_option maxHeartbeats 4000000 in
theorem cX12_in_3 (l : Launch) (D : va_G) (y : Nat → ClassId) (n0 : Int64) (hn0l : 1 ≤ n0) (sz : Nat) : Met l yX12_in wsX12_in { frames := 2, cells := 0, slots := 0, locals := 200 } (nPc D y nT [.long n0, .long 0, .long 0] [] sz) ((fun A => nQi D y (fun r _ => r = 0) (fun u => []) A) (va_A [] sz)) 0 0 (va_A [] sz) := by
  refine nm_ofW (D := D) (y := y) (E := nT) (yy := yX12_in) (wsy := wsX12_in) (rm := { frames := 2, cells := 0, slots := 0, locals := 200 }) (as := [.long n0, .long 0, .long 0]) (ws := []) (sz := sz) (mc := 0) (ms := 0) (Qc := fun A => nQi D y (fun r _ => r = 0) (fun u => []) A) (cc := cX12_in) (maxL := 6) (ret := (some .boolean)) (by decide +kernel) rfl (Nat.le_of_ble_eq_true rfl) ?_
  intro p e s m below meth c A ls H hx hb hr hml hts hown hlocks hnm hsz hP hK hD hA hS hE hAe hl
  replace hl : lv_has ls 6 [(0, .long n0), (2, .long 0), (4, .long 0)] := hl
  have hown : s.vm.findClass RX12 = some m.cls := hown
  refine lv_lload_n hx hb dX12_in_0 rfl (lv_at hl 0 rfl) ?_
  refine lv_lload_n hx hb dX12_in_1 rfl (lv_at hl 1 rfl) ?_
  refine W.lcmp hx hb dX12_in_2 ?_
  refine lv_if_lt (tgt := 17) hx hb dX12_in_3 (by decide +kernel) (fun c => absurd c (fun h => (q_nltL hn0l (by decide +kernel)) ((lg_cmp_lt _ _).mp h))) (fun _ => ?_)
  refine lv_lload_n hx hb dX12_in_6 rfl (lv_at hl 0 rfl) ?_
  refine lv_lload hx hb dX12_in_7 (lv_at hl 2 rfl) ?_
  refine W.lcmp hx hb dX12_in_9 ?_
  refine lv_if_gt (tgt := 17) hx hb dX12_in_10 (by decide +kernel) (fun _ => ?_) (fun c => absurd ((lg_cmp_gt _ _).mpr (q_gtL hn0l (by decide +kernel))) c)
  refine lv_iconst (v := 0) hx hb dX12_in_17 (by decide +kernel) ?_
  refine W.widen (k := 0) (n := 0) (Nat.le_of_ble_eq_true rfl) (Nat.le_of_ble_eq_true rfl) ?_
  exact W.zret (v := 0) hx hb hr (by decide +kernel) (fun t ht hW => ⟨⟨0, (fun _ => 0), rfl, rfl, by rw [ht]; exact hP, va_K.moved hW.alike hK, hD⟩, hS.F ht⟩) hS.2.2 dX12_in_18 hlocks
set_option maxRecDepth 100000 in
set_option maxHeartbeats 4000000 in
theorem cX12_end_3 (l : Launch) (D : va_G) (y : Nat → ClassId) (a0 : Nat) (n0 : Int32) (hn0l : 1 ≤ n0) (a1 : Nat) (a2 : Nat) (a3 : Nat) (a4 : Nat) (a5 : Nat) (a6 : Nat) (a7 : Nat) (a8 : Nat) (a9 : Nat) (a10 : Nat) (a11 : Nat) (a12 : Nat) (a13 : Nat) (a14 : Nat) (a15 : Nat) (a16 : Nat) (a17 : Nat) (a18 : Nat) (a19 : Nat) (a20 : Nat) (a21 : Nat) (a22 : Nat) (a23 : Nat) (a24 : Nat) (a25 : Nat) (a26 : Nat) (a27 : Nat) (a28 : Nat) (a29 : Nat) (a30 : Nat) (a31 : Nat) (a32 : Nat) (a33 : Nat) (a34 : Nat) (a35 : Nat) (sz : Nat) : Met l yX12_end wsX12_end { frames := 3, cells := 0, slots := 0, locals := 225 } (nPc D y nT [.ref a0, .int n0] [(a0, .inr (12, (.int 0 :: .ref a1 :: .ref a2 :: .ref a3 :: .ref a4 :: .ref a5 :: .ref a6 :: .ref a7 :: .int 0 :: .ref a8 :: .int 0 :: .ref a9 :: .ref a10 :: .int 1 :: .ref a11 :: .int 0 :: .ref a12 :: .int 0 :: .int 0 :: .null :: .int 0 :: .int 0 :: .int 0 :: .int 0 :: .ref a13 :: .ref a14 :: .ref a15 :: .int (-1) :: .int 0 :: .int 0 :: .int 0 :: .int 0 :: .int 0 :: .int 0 :: .int 0 :: .ref a16 :: .int 0 :: .ref a17 :: .int 0 :: .ref a18 :: .ref a19 :: .int 0 :: .int 0 :: .int 0 :: .int 0 :: .ref a20 :: .ref a21 :: .ref a22 :: .ref a23 :: .ref a24 :: .ref a25 :: .ref a26 :: .ref a27 :: .ref a28 :: .int 0 :: .ref a29 :: .ref a30 :: .ref a31 :: .long 0 :: .int 0 :: .int 0 :: .int 0 :: .long 0 :: .int 0 :: .ref a32 :: .int 0 :: .int 0 :: .int 0 :: .int 0 :: .ref a33 :: .ref a34 :: .ref a35 :: [])))] sz) ((fun A => nQi D y (fun r _ => r = 0) (fun u => [(a0, .inr (12, (.int 0 :: .ref a1 :: .ref a2 :: .ref a3 :: .ref a4 :: .ref a5 :: .ref a6 :: .ref a7 :: .int 0 :: .ref a8 :: .int 0 :: .ref a9 :: .ref a10 :: .int 1 :: .ref a11 :: .int 0 :: .ref a12 :: .int 0 :: .int 0 :: .null :: .int 0 :: .int 0 :: .int 0 :: .int 0 :: .ref a13 :: .ref a14 :: .ref a15 :: .int (-1) :: .int 0 :: .int 0 :: .int 0 :: .int 0 :: .int 0 :: .int 0 :: .int 0 :: .ref a16 :: .int 0 :: .ref a17 :: .int 0 :: .ref a18 :: .ref a19 :: .int 0 :: .int 0 :: .int 0 :: .int 0 :: .ref a20 :: .ref a21 :: .ref a22 :: .ref a23 :: .ref a24 :: .ref a25 :: .ref a26 :: .ref a27 :: .ref a28 :: .int 0 :: .ref a29 :: .ref a30 :: .ref a31 :: .long 0 :: .int 0 :: .int 0 :: .int 0 :: .long 0 :: .int 0 :: .ref a32 :: .int 0 :: .int 0 :: .int 0 :: .int 0 :: .ref a33 :: .ref a34 :: .ref a35 :: [])))]) A) (va_A [(a0, .inr (12, (.int 0 :: .ref a1 :: .ref a2 :: .ref a3 :: .ref a4 :: .ref a5 :: .ref a6 :: .ref a7 :: .int 0 :: .ref a8 :: .int 0 :: .ref a9 :: .ref a10 :: .int 1 :: .ref a11 :: .int 0 :: .ref a12 :: .int 0 :: .int 0 :: .null :: .int 0 :: .int 0 :: .int 0 :: .int 0 :: .ref a13 :: .ref a14 :: .ref a15 :: .int (-1) :: .int 0 :: .int 0 :: .int 0 :: .int 0 :: .int 0 :: .int 0 :: .int 0 :: .ref a16 :: .int 0 :: .ref a17 :: .int 0 :: .ref a18 :: .ref a19 :: .int 0 :: .int 0 :: .int 0 :: .int 0 :: .ref a20 :: .ref a21 :: .ref a22 :: .ref a23 :: .ref a24 :: .ref a25 :: .ref a26 :: .ref a27 :: .ref a28 :: .int 0 :: .ref a29 :: .ref a30 :: .ref a31 :: .long 0 :: .int 0 :: .int 0 :: .int 0 :: .long 0 :: .int 0 :: .ref a32 :: .int 0 :: .int 0 :: .int 0 :: .int 0 :: .ref a33 :: .ref a34 :: .ref a35 :: [])))] sz)) 0 0 (va_A [(a0, .inr (12, (.int 0 :: .ref a1 :: .ref a2 :: .ref a3 :: .ref a4 :: .ref a5 :: .ref a6 :: .ref a7 :: .int 0 :: .ref a8 :: .int 0 :: .ref a9 :: .ref a10 :: .int 1 :: .ref a11 :: .int 0 :: .ref a12 :: .int 0 :: .int 0 :: .null :: .int 0 :: .int 0 :: .int 0 :: .int 0 :: .ref a13 :: .ref a14 :: .ref a15 :: .int (-1) :: .int 0 :: .int 0 :: .int 0 :: .int 0 :: .int 0 :: .int 0 :: .int 0 :: .ref a16 :: .int 0 :: .ref a17 :: .int 0 :: .ref a18 :: .ref a19 :: .int 0 :: .int 0 :: .int 0 :: .int 0 :: .ref a20 :: .ref a21 :: .ref a22 :: .ref a23 :: .ref a24 :: .ref a25 :: .ref a26 :: .ref a27 :: .ref a28 :: .int 0 :: .ref a29 :: .ref a30 :: .ref a31 :: .long 0 :: .int 0 :: .int 0 :: .int 0 :: .long 0 :: .int 0 :: .ref a32 :: .int 0 :: .int 0 :: .int 0 :: .int 0 :: .ref a33 :: .ref a34 :: .ref a35 :: [])))] sz) := by
  refine nm_ofW (D := D) (y := y) (E := nT) (yy := yX12_end) (wsy := wsX12_end) (rm := { frames := 3, cells := 0, slots := 0, locals := 225 }) (as := [.ref a0, .int n0]) (ws := [(a0, .inr (12, (.int 0 :: .ref a1 :: .ref a2 :: .ref a3 :: .ref a4 :: .ref a5 :: .ref a6 :: .ref a7 :: .int 0 :: .ref a8 :: .int 0 :: .ref a9 :: .ref a10 :: .int 1 :: .ref a11 :: .int 0 :: .ref a12 :: .int 0 :: .int 0 :: .null :: .int 0 :: .int 0 :: .int 0 :: .int 0 :: .ref a13 :: .ref a14 :: .ref a15 :: .int (-1) :: .int 0 :: .int 0 :: .int 0 :: .int 0 :: .int 0 :: .int 0 :: .int 0 :: .ref a16 :: .int 0 :: .ref a17 :: .int 0 :: .ref a18 :: .ref a19 :: .int 0 :: .int 0 :: .int 0 :: .int 0 :: .ref a20 :: .ref a21 :: .ref a22 :: .ref a23 :: .ref a24 :: .ref a25 :: .ref a26 :: .ref a27 :: .ref a28 :: .int 0 :: .ref a29 :: .ref a30 :: .ref a31 :: .long 0 :: .int 0 :: .int 0 :: .int 0 :: .long 0 :: .int 0 :: .ref a32 :: .int 0 :: .int 0 :: .int 0 :: .int 0 :: .ref a33 :: .ref a34 :: .ref a35 :: [])))]) (sz := sz) (mc := 0) (ms := 0) (Qc := fun A => nQi D y (fun r _ => r = 0) (fun u => [(a0, .inr (12, (.int 0 :: .ref a1 :: .ref a2 :: .ref a3 :: .ref a4 :: .ref a5 :: .ref a6 :: .ref a7 :: .int 0 :: .ref a8 :: .int 0 :: .ref a9 :: .ref a10 :: .int 1 :: .ref a11 :: .int 0 :: .ref a12 :: .int 0 :: .int 0 :: .null :: .int 0 :: .int 0 :: .int 0 :: .int 0 :: .ref a13 :: .ref a14 :: .ref a15 :: .int (-1) :: .int 0 :: .int 0 :: .int 0 :: .int 0 :: .int 0 :: .int 0 :: .int 0 :: .ref a16 :: .int 0 :: .ref a17 :: .int 0 :: .ref a18 :: .ref a19 :: .int 0 :: .int 0 :: .int 0 :: .int 0 :: .ref a20 :: .ref a21 :: .ref a22 :: .ref a23 :: .ref a24 :: .ref a25 :: .ref a26 :: .ref a27 :: .ref a28 :: .int 0 :: .ref a29 :: .ref a30 :: .ref a31 :: .long 0 :: .int 0 :: .int 0 :: .int 0 :: .long 0 :: .int 0 :: .ref a32 :: .int 0 :: .int 0 :: .int 0 :: .int 0 :: .ref a33 :: .ref a34 :: .ref a35 :: [])))]) A) (cc := cX12_end) (maxL := 2) (ret := (some .boolean)) (by decide +kernel) rfl (Nat.le_of_ble_eq_true rfl) ?_
  intro p e s m below meth c A ls H hx hb hr hml hts hown hlocks hnm hsz hP hK hD hA hS hE hAe hl
  replace hl : lv_has ls 2 [(0, .ref a0), (1, .int n0)] := hl
  have hown : s.vm.findClass RX12 = some m.cls := hown
  have w_0 := hts (.fieldLink RX12 127 "SoldToBehindModel" "thrown" "I") (gt_k wd_6_211)
  have w_1 := hts (.fieldLink RX12 151 "SoldToBehindModel" "typed" "I") (gt_k wd_6_208)
  refine lv_aload_n hx hb dX12_end_0 rfl (lv_at hl 0 rfl) ?_
  refine lv_iconst (v := 0) hx hb dX12_end_1 (by decide +kernel) ?_
  refine nb_put (D := D) (ci := 12) (v := .int 0) (ty := .int) (C := RX12) (T := TX12) (N := 72) (ws' := [(a0, .inr (12, (.int 0 :: .ref a1 :: .ref a2 :: .ref a3 :: .ref a4 :: .ref a5 :: .ref a6 :: .ref a7 :: .int 0 :: .ref a8 :: .int 0 :: .ref a9 :: .ref a10 :: .int 1 :: .ref a11 :: .int 0 :: .ref a12 :: .int 0 :: .int 0 :: .null :: .int 0 :: .int 0 :: .int 0 :: .int 0 :: .ref a13 :: .ref a14 :: .ref a15 :: .int (-1) :: .int 0 :: .int 0 :: .int 0 :: .int 0 :: .int 0 :: .int 0 :: .int 0 :: .ref a16 :: .int 0 :: .ref a17 :: .int 0 :: .ref a18 :: .ref a19 :: .int 0 :: .int 0 :: .int 0 :: .int 0 :: .ref a20 :: .ref a21 :: .ref a22 :: .ref a23 :: .ref a24 :: .ref a25 :: .ref a26 :: .ref a27 :: .ref a28 :: .int 0 :: .ref a29 :: .ref a30 :: .ref a31 :: .long 0 :: .int 0 :: .int 0 :: .int 0 :: .long 0 :: .int 0 :: .ref a32 :: .int 0 :: .int 0 :: .int 0 :: .int 0 :: .ref a33 :: .ref a34 :: .ref a35 :: [])))]) hx hb hts (gt_c iG_X12) tyX12 tyX12_ok nmX12 hown hK hP hD hS 0 rfl rfl 18 (by decide +kernel) w_0 (fun _ h9 => h9) rfl (by decide +kernel) rfl rfl (Nat.le_of_ble_eq_true rfl) rfl dX12_end_2 (fun H locs hP hD hS => ?_)
  refine lv_iload_n hx hb dX12_end_5 rfl (lv_at hl 1 rfl) ?_
  refine lv_i2l (v := n0.toInt64) hx hb dX12_end_6 rfl ?_
  refine lv_lconst (v := 0) hx hb dX12_end_7 (by decide +kernel) ?_
  refine lv_aload_n hx hb dX12_end_8 rfl (lv_at hl 0 rfl) ?_
  refine va_get (D := D) (ci := 12) (v := .int 0) (C := RX12) (T := TX12) (N := 72) hx hb hts (gt_c iG_X12) hown hK hP 0 rfl rfl 15 (by decide +kernel) w_1 (fun _ h9 => h9) rfl dX12_end_9 ?_
  refine lv_i2l (v := 0) hx hb dX12_end_12 (by decide +kernel) ?_
  refine nj_i (ws := [(a0, .inr (12, (.int 0 :: .ref a1 :: .ref a2 :: .ref a3 :: .ref a4 :: .ref a5 :: .ref a6 :: .ref a7 :: .int 0 :: .ref a8 :: .int 0 :: .ref a9 :: .ref a10 :: .int 1 :: .ref a11 :: .int 0 :: .ref a12 :: .int 0 :: .int 0 :: .null :: .int 0 :: .int 0 :: .int 0 :: .int 0 :: .ref a13 :: .ref a14 :: .ref a15 :: .int (-1) :: .int 0 :: .int 0 :: .int 0 :: .int 0 :: .int 0 :: .int 0 :: .int 0 :: .ref a16 :: .int 0 :: .ref a17 :: .int 0 :: .ref a18 :: .ref a19 :: .int 0 :: .int 0 :: .int 0 :: .int 0 :: .ref a20 :: .ref a21 :: .ref a22 :: .ref a23 :: .ref a24 :: .ref a25 :: .ref a26 :: .ref a27 :: .ref a28 :: .int 0 :: .ref a29 :: .ref a30 :: .ref a31 :: .long 0 :: .int 0 :: .int 0 :: .int 0 :: .long 0 :: .int 0 :: .ref a32 :: .int 0 :: .int 0 :: .int 0 :: .int 0 :: .ref a33 :: .ref a34 :: .ref a35 :: [])))]) (wc := []) (wr := [(a0, .inr (12, (.int 0 :: .ref a1 :: .ref a2 :: .ref a3 :: .ref a4 :: .ref a5 :: .ref a6 :: .ref a7 :: .int 0 :: .ref a8 :: .int 0 :: .ref a9 :: .ref a10 :: .int 1 :: .ref a11 :: .int 0 :: .ref a12 :: .int 0 :: .int 0 :: .null :: .int 0 :: .int 0 :: .int 0 :: .int 0 :: .ref a13 :: .ref a14 :: .ref a15 :: .int (-1) :: .int 0 :: .int 0 :: .int 0 :: .int 0 :: .int 0 :: .int 0 :: .int 0 :: .ref a16 :: .int 0 :: .ref a17 :: .int 0 :: .ref a18 :: .ref a19 :: .int 0 :: .int 0 :: .int 0 :: .int 0 :: .ref a20 :: .ref a21 :: .ref a22 :: .ref a23 :: .ref a24 :: .ref a25 :: .ref a26 :: .ref a27 :: .ref a28 :: .int 0 :: .ref a29 :: .ref a30 :: .ref a31 :: .long 0 :: .int 0 :: .int 0 :: .int 0 :: .long 0 :: .int 0 :: .ref a32 :: .int 0 :: .int 0 :: .int 0 :: .int 0 :: .ref a33 :: .ref a34 :: .ref a35 :: [])))]) (nr_S (As := [.long n0.toInt64, .long 0, .long 0]) (rest := []) ⟨hx, hb, hml, hown, hts⟩ (cX12_in_3 l D y n0.toInt64 (q_i2llo hn0l rfl) H.size) (va_cwS 3 hts gX12_end_X12_in rfl rfl rfl (by decide +kernel) ⟨Nat.le_of_ble_eq_true rfl, Nat.le_of_ble_eq_true rfl⟩) hK hP hD hE [] rfl (by decide +kernel) rfl rfl hl.1 rfl (lv_room (Nat.le_of_ble_eq_true rfl)) dX12_end_13 ⟨Nat.le_of_ble_eq_true rfl, Nat.le_of_ble_eq_true rfl⟩) hP hD hS hA [] [0] rfl rfl (by decide +kernel) (by decide +kernel) (fun r2 u1 H locs er2 hP hD hS => ?_)
  subst er2
  refine lv_if_ne (tgt := 21) hx hb dX12_end_16 (by decide +kernel) (fun c => absurd (by decide +kernel) c) (fun _ => ?_)
  refine lv_iconst (v := 0) hx hb dX12_end_19 (by decide +kernel) ?_
  refine W.widen (k := 0) (n := 0) (Nat.le_of_ble_eq_true rfl) (Nat.le_of_ble_eq_true rfl) ?_
  exact W.zret (v := 0) hx hb hr (by decide +kernel) (fun t ht hW => ⟨⟨0, (fun _ => 0), rfl, rfl, by rw [ht]; exact hP, va_K.moved hW.alike hK, hD⟩, hS.F ht⟩) hS.2.2 dX12_end_20 hlocks
set_option maxRecDepth 100000 in
set_option maxHeartbeats 4000000 in
theorem cJ7_fill_53178_1 (l : Launch) (D : va_G) (y : Nat → ClassId) (a0 : Nat) (sz : Nat) : Met l yJ7_fill_53178 wsJ7_fill_53178 { frames := 2, cells := 0, slots := 0, locals := 200 } (nPc D y nT [.ref a0, .int 0] [(a0, .inl (y 0, 9, .inl nz))] sz) ((fun A => nQv D y (fun _ => True) (fun u => [(a0, .inl (y 0, 9, .inl nz))]) A) (va_A [(a0, .inl (y 0, 9, .inl nz))] sz)) 0 0 (va_A [(a0, .inl (y 0, 9, .inl nz))] sz) := by
  refine nm_ofW (D := D) (y := y) (E := nT) (yy := yJ7_fill_53178) (wsy := wsJ7_fill_53178) (rm := { frames := 2, cells := 0, slots := 0, locals := 200 }) (as := [.ref a0, .int 0]) (ws := [(a0, .inl (y 0, 9, .inl nz))]) (sz := sz) (mc := 0) (ms := 0) (Qc := fun A => nQv D y (fun _ => True) (fun u => [(a0, .inl (y 0, 9, .inl nz))]) A) (cc := cJ7_fill_53178) (maxL := 4) (ret := none) (by decide +kernel) rfl (Nat.le_of_ble_eq_true rfl) ?_
  intro p e s m below meth c A ls H hx hb hr hml hts hown hlocks hnm hsz hP hK hD hA hS hE hAe hl
  replace hl : lv_has ls 4 [(0, .ref a0), (1, .int 0)] := hl
  have hown : s.vm.findClass RJ7 = some m.cls := hown
  refine lv_iconst (v := 0) hx hb dJ7_fill_53178_0 (by decide +kernel) ?_
  refine lv_istore_n (lv' := [(2, .int 0), (0, .ref a0), (1, .int 0)]) hx hb dJ7_fill_53178_1 rfl hl (by decide +kernel) rfl (fun ls hl => ?_)
  refine lv_aload_n hx hb dJ7_fill_53178_2 rfl (lv_at hl 1 rfl) ?_
  refine va_alen (v := 9) hx hb hK hP 0 0 rfl rfl (by decide +kernel) dJ7_fill_53178_3 ?_
  refine lv_istore_n (lv' := [(3, .int 9), (2, .int 0), (0, .ref a0), (1, .int 0)]) hx hb dJ7_fill_53178_4 rfl hl (by decide +kernel) rfl (fun ls hl => ?_)
  refine lv_iload_n hx hb dJ7_fill_53178_5 rfl (lv_at hl 1 rfl) ?_
  refine lv_iload_n hx hb dJ7_fill_53178_6 rfl (lv_at hl 0 rfl) ?_
  refine lv_icmp_ge (tgt := 20) hx hb dJ7_fill_53178_7 (by decide +kernel) (fun c => absurd c (by decide +kernel)) (fun _ => ?_)
  refine lv_aload_n hx hb dJ7_fill_53178_10 rfl (lv_at hl 2 rfl) ?_
  refine lv_iload_n hx hb dJ7_fill_53178_11 rfl (lv_at hl 1 rfl) ?_
  refine lv_iload_n hx hb dJ7_fill_53178_12 rfl (lv_at hl 3 rfl) ?_
  refine nb_iast (ws' := [(a0, .inl (y 0, 9, .inl nz))]) hx hb hK hP hD hS 0 0 rfl rfl (n_in (by decide +kernel)) (by rw [nb_upI (f := nz) (i := Int32.toNatClampNeg 0) (x := 0) rfl]; rfl) dJ7_fill_53178_13 (fun H locs hP hD hS => ?_)
  refine lv_iinc (v := 1) (lv' := [(2, .int 1), (3, .int 9), (0, .ref a0), (1, .int 0)]) hx hb dJ7_fill_53178_14 hl (k := 1) rfl (by decide +kernel) (by decide +kernel) rfl (fun ls hl => ?_)
  refine lv_goto (tgt := 5) hx hb dJ7_fill_53178_17 (by decide +kernel) ?_
  refine lv_iload_n hx hb dJ7_fill_53178_5 rfl (lv_at hl 0 rfl) ?_
  refine lv_iload_n hx hb dJ7_fill_53178_6 rfl (lv_at hl 1 rfl) ?_
  refine lv_icmp_ge (tgt := 20) hx hb dJ7_fill_53178_7 (by decide +kernel) (fun c => absurd c (by decide +kernel)) (fun _ => ?_)
  refine lv_aload_n hx hb dJ7_fill_53178_10 rfl (lv_at hl 2 rfl) ?_
  refine lv_iload_n hx hb dJ7_fill_53178_11 rfl (lv_at hl 0 rfl) ?_
  refine lv_iload_n hx hb dJ7_fill_53178_12 rfl (lv_at hl 3 rfl) ?_
  refine nb_iast (ws' := [(a0, .inl (y 0, 9, .inl nz))]) hx hb hK hP hD hS 0 0 rfl rfl (n_in (by decide +kernel)) (by rw [nb_upI (f := nz) (i := Int32.toNatClampNeg 1) (x := 0) rfl]; rfl) dJ7_fill_53178_13 (fun H locs hP hD hS => ?_)
  refine lv_iinc (v := 2) (lv' := [(2, .int 2), (3, .int 9), (0, .ref a0), (1, .int 0)]) hx hb dJ7_fill_53178_14 hl (k := 0) rfl (by decide +kernel) (by decide +kernel) rfl (fun ls hl => ?_)
  refine lv_goto (tgt := 5) hx hb dJ7_fill_53178_17 (by decide +kernel) ?_
  refine lv_iload_n hx hb dJ7_fill_53178_5 rfl (lv_at hl 0 rfl) ?_
  refine lv_iload_n hx hb dJ7_fill_53178_6 rfl (lv_at hl 1 rfl) ?_
  refine lv_icmp_ge (tgt := 20) hx hb dJ7_fill_53178_7 (by decide +kernel) (fun c => absurd c (by decide +kernel)) (fun _ => ?_)
  refine lv_aload_n hx hb dJ7_fill_53178_10 rfl (lv_at hl 2 rfl) ?_
  refine lv_iload_n hx hb dJ7_fill_53178_11 rfl (lv_at hl 0 rfl) ?_
  refine lv_iload_n hx hb dJ7_fill_53178_12 rfl (lv_at hl 3 rfl) ?_
  refine nb_iast (ws' := [(a0, .inl (y 0, 9, .inl nz))]) hx hb hK hP hD hS 0 0 rfl rfl (n_in (by decide +kernel)) (by rw [nb_upI (f := nz) (i := Int32.toNatClampNeg 2) (x := 0) rfl]; rfl) dJ7_fill_53178_13 (fun H locs hP hD hS => ?_)
  refine lv_iinc (v := 3) (lv' := [(2, .int 3), (3, .int 9), (0, .ref a0), (1, .int 0)]) hx hb dJ7_fill_53178_14 hl (k := 0) rfl (by decide +kernel) (by decide +kernel) rfl (fun ls hl => ?_)
  refine lv_goto (tgt := 5) hx hb dJ7_fill_53178_17 (by decide +kernel) ?_
  refine lv_iload_n hx hb dJ7_fill_53178_5 rfl (lv_at hl 0 rfl) ?_
  refine lv_iload_n hx hb dJ7_fill_53178_6 rfl (lv_at hl 1 rfl) ?_
  refine lv_icmp_ge (tgt := 20) hx hb dJ7_fill_53178_7 (by decide +kernel) (fun c => absurd c (by decide +kernel)) (fun _ => ?_)
  refine lv_aload_n hx hb dJ7_fill_53178_10 rfl (lv_at hl 2 rfl) ?_
  refine lv_iload_n hx hb dJ7_fill_53178_11 rfl (lv_at hl 0 rfl) ?_
  refine lv_iload_n hx hb dJ7_fill_53178_12 rfl (lv_at hl 3 rfl) ?_
  refine nb_iast (ws' := [(a0, .inl (y 0, 9, .inl nz))]) hx hb hK hP hD hS 0 0 rfl rfl (n_in (by decide +kernel)) (by rw [nb_upI (f := nz) (i := Int32.toNatClampNeg 3) (x := 0) rfl]; rfl) dJ7_fill_53178_13 (fun H locs hP hD hS => ?_)
  refine lv_iinc (v := 4) (lv' := [(2, .int 4), (3, .int 9), (0, .ref a0), (1, .int 0)]) hx hb dJ7_fill_53178_14 hl (k := 0) rfl (by decide +kernel) (by decide +kernel) rfl (fun ls hl => ?_)
  refine lv_goto (tgt := 5) hx hb dJ7_fill_53178_17 (by decide +kernel) ?_
  refine lv_iload_n hx hb dJ7_fill_53178_5 rfl (lv_at hl 0 rfl) ?_
  refine lv_iload_n hx hb dJ7_fill_53178_6 rfl (lv_at hl 1 rfl) ?_
  refine lv_icmp_ge (tgt := 20) hx hb dJ7_fill_53178_7 (by decide +kernel) (fun c => absurd c (by decide +kernel)) (fun _ => ?_)
  refine lv_aload_n hx hb dJ7_fill_53178_10 rfl (lv_at hl 2 rfl) ?_
  refine lv_iload_n hx hb dJ7_fill_53178_11 rfl (lv_at hl 0 rfl) ?_
  refine lv_iload_n hx hb dJ7_fill_53178_12 rfl (lv_at hl 3 rfl) ?_
  refine nb_iast (ws' := [(a0, .inl (y 0, 9, .inl nz))]) hx hb hK hP hD hS 0 0 rfl rfl (n_in (by decide +kernel)) (by rw [nb_upI (f := nz) (i := Int32.toNatClampNeg 4) (x := 0) rfl]; rfl) dJ7_fill_53178_13 (fun H locs hP hD hS => ?_)
  refine lv_iinc (v := 5) (lv' := [(2, .int 5), (3, .int 9), (0, .ref a0), (1, .int 0)]) hx hb dJ7_fill_53178_14 hl (k := 0) rfl (by decide +kernel) (by decide +kernel) rfl (fun ls hl => ?_)
  refine lv_goto (tgt := 5) hx hb dJ7_fill_53178_17 (by decide +kernel) ?_
  refine lv_iload_n hx hb dJ7_fill_53178_5 rfl (lv_at hl 0 rfl) ?_
  refine lv_iload_n hx hb dJ7_fill_53178_6 rfl (lv_at hl 1 rfl) ?_
  refine lv_icmp_ge (tgt := 20) hx hb dJ7_fill_53178_7 (by decide +kernel) (fun c => absurd c (by decide +kernel)) (fun _ => ?_)
  refine lv_aload_n hx hb dJ7_fill_53178_10 rfl (lv_at hl 2 rfl) ?_
  refine lv_iload_n hx hb dJ7_fill_53178_11 rfl (lv_at hl 0 rfl) ?_
  refine lv_iload_n hx hb dJ7_fill_53178_12 rfl (lv_at hl 3 rfl) ?_
  refine nb_iast (ws' := [(a0, .inl (y 0, 9, .inl nz))]) hx hb hK hP hD hS 0 0 rfl rfl (n_in (by decide +kernel)) (by rw [nb_upI (f := nz) (i := Int32.toNatClampNeg 5) (x := 0) rfl]; rfl) dJ7_fill_53178_13 (fun H locs hP hD hS => ?_)
  refine lv_iinc (v := 6) (lv' := [(2, .int 6), (3, .int 9), (0, .ref a0), (1, .int 0)]) hx hb dJ7_fill_53178_14 hl (k := 0) rfl (by decide +kernel) (by decide +kernel) rfl (fun ls hl => ?_)
  refine lv_goto (tgt := 5) hx hb dJ7_fill_53178_17 (by decide +kernel) ?_
  refine lv_iload_n hx hb dJ7_fill_53178_5 rfl (lv_at hl 0 rfl) ?_
  refine lv_iload_n hx hb dJ7_fill_53178_6 rfl (lv_at hl 1 rfl) ?_
  refine lv_icmp_ge (tgt := 20) hx hb dJ7_fill_53178_7 (by decide +kernel) (fun c => absurd c (by decide +kernel)) (fun _ => ?_)
  refine lv_aload_n hx hb dJ7_fill_53178_10 rfl (lv_at hl 2 rfl) ?_
  refine lv_iload_n hx hb dJ7_fill_53178_11 rfl (lv_at hl 0 rfl) ?_
  refine lv_iload_n hx hb dJ7_fill_53178_12 rfl (lv_at hl 3 rfl) ?_
  refine nb_iast (ws' := [(a0, .inl (y 0, 9, .inl nz))]) hx hb hK hP hD hS 0 0 rfl rfl (n_in (by decide +kernel)) (by rw [nb_upI (f := nz) (i := Int32.toNatClampNeg 6) (x := 0) rfl]; rfl) dJ7_fill_53178_13 (fun H locs hP hD hS => ?_)
  refine lv_iinc (v := 7) (lv' := [(2, .int 7), (3, .int 9), (0, .ref a0), (1, .int 0)]) hx hb dJ7_fill_53178_14 hl (k := 0) rfl (by decide +kernel) (by decide +kernel) rfl (fun ls hl => ?_)
  refine lv_goto (tgt := 5) hx hb dJ7_fill_53178_17 (by decide +kernel) ?_
  refine lv_iload_n hx hb dJ7_fill_53178_5 rfl (lv_at hl 0 rfl) ?_
  refine lv_iload_n hx hb dJ7_fill_53178_6 rfl (lv_at hl 1 rfl) ?_
  refine lv_icmp_ge (tgt := 20) hx hb dJ7_fill_53178_7 (by decide +kernel) (fun c => absurd c (by decide +kernel)) (fun _ => ?_)
  refine lv_aload_n hx hb dJ7_fill_53178_10 rfl (lv_at hl 2 rfl) ?_
  refine lv_iload_n hx hb dJ7_fill_53178_11 rfl (lv_at hl 0 rfl) ?_
  refine lv_iload_n hx hb dJ7_fill_53178_12 rfl (lv_at hl 3 rfl) ?_
  refine nb_iast (ws' := [(a0, .inl (y 0, 9, .inl nz))]) hx hb hK hP hD hS 0 0 rfl rfl (n_in (by decide +kernel)) (by rw [nb_upI (f := nz) (i := Int32.toNatClampNeg 7) (x := 0) rfl]; rfl) dJ7_fill_53178_13 (fun H locs hP hD hS => ?_)
  refine lv_iinc (v := 8) (lv' := [(2, .int 8), (3, .int 9), (0, .ref a0), (1, .int 0)]) hx hb dJ7_fill_53178_14 hl (k := 0) rfl (by decide +kernel) (by decide +kernel) rfl (fun ls hl => ?_)
  refine lv_goto (tgt := 5) hx hb dJ7_fill_53178_17 (by decide +kernel) ?_
  refine lv_iload_n hx hb dJ7_fill_53178_5 rfl (lv_at hl 0 rfl) ?_
  refine lv_iload_n hx hb dJ7_fill_53178_6 rfl (lv_at hl 1 rfl) ?_
  refine lv_icmp_ge (tgt := 20) hx hb dJ7_fill_53178_7 (by decide +kernel) (fun c => absurd c (by decide +kernel)) (fun _ => ?_)
  refine lv_aload_n hx hb dJ7_fill_53178_10 rfl (lv_at hl 2 rfl) ?_
  refine lv_iload_n hx hb dJ7_fill_53178_11 rfl (lv_at hl 0 rfl) ?_
  refine lv_iload_n hx hb dJ7_fill_53178_12 rfl (lv_at hl 3 rfl) ?_
  refine nb_iast (ws' := [(a0, .inl (y 0, 9, .inl nz))]) hx hb hK hP hD hS 0 0 rfl rfl (n_in (by decide +kernel)) (by rw [nb_upI (f := nz) (i := Int32.toNatClampNeg 8) (x := 0) rfl]; rfl) dJ7_fill_53178_13 (fun H locs hP hD hS => ?_)
  refine lv_iinc (v := 9) (lv' := [(2, .int 9), (3, .int 9), (0, .ref a0), (1, .int 0)]) hx hb dJ7_fill_53178_14 hl (k := 0) rfl (by decide +kernel) (by decide +kernel) rfl (fun ls hl => ?_)
  refine lv_goto (tgt := 5) hx hb dJ7_fill_53178_17 (by decide +kernel) ?_
  refine lv_iload_n hx hb dJ7_fill_53178_5 rfl (lv_at hl 0 rfl) ?_
  refine lv_iload_n hx hb dJ7_fill_53178_6 rfl (lv_at hl 1 rfl) ?_
  refine lv_icmp_ge (tgt := 20) hx hb dJ7_fill_53178_7 (by decide +kernel) (fun _ => ?_) (fun c => absurd (by decide +kernel) c)
  refine W.widen (k := 0) (n := 0) (Nat.le_of_ble_eq_true rfl) (Nat.le_of_ble_eq_true rfl) ?_
  exact W.vret hx hb hr (fun t ht hW => ⟨⟨(fun _ => 0), rfl, trivial, by rw [ht]; exact hP, va_K.moved hW.alike hK, hD⟩, hS.F ht⟩) hS.2.2 dJ7_fill_53178_20 hlocks
set_option maxRecDepth 100000 in
set_option maxHeartbeats 4000000 in
theorem cX10_read_1 (l : Launch) (D : va_G) (y : Nat → ClassId) (a0 : Nat) (a1 : Nat) (a2 : Nat) (a3 : Nat) (a4 : Nat) (a5 : Nat) (a6 : Nat) (sz : Nat) : Met l yX10_read wsX10_read { frames := 3, cells := 0, slots := 0, locals := 223 } (nPc D y nT [.ref a0, .ref a1, .int 0] [(a0, .inr (10, [.ref a2, .ref a3, .ref a4, .ref a5, .int 0, .int 0, .int 0, .int 0, .int 0, .int 0])), (a5, .inl (y 0, 9, .inl nz)), (a1, .inr (8, [.ref a6, .int 0]))] sz) ((fun A => nQi D y (fun r _ => r = (-1)) (fun u => [(a0, .inr (10, [.ref a2, .ref a3, .ref a4, .ref a5, .int 0, .int 0, .int 0, .int 0, .int 0, .int 0])), (a1, .inr (8, [.ref a6, .int 0])), (a5, .inl (y 0, 9, .inl nz))]) A) (va_A [(a0, .inr (10, [.ref a2, .ref a3, .ref a4, .ref a5, .int 0, .int 0, .int 0, .int 0, .int 0, .int 0])), (a5, .inl (y 0, 9, .inl nz)), (a1, .inr (8, [.ref a6, .int 0]))] sz)) 0 0 (va_A [(a0, .inr (10, [.ref a2, .ref a3, .ref a4, .ref a5, .int 0, .int 0, .int 0, .int 0, .int 0, .int 0])), (a5, .inl (y 0, 9, .inl nz)), (a1, .inr (8, [.ref a6, .int 0]))] sz) := by
  refine nm_ofW (D := D) (y := y) (E := nT) (yy := yX10_read) (wsy := wsX10_read) (rm := { frames := 3, cells := 0, slots := 0, locals := 223 }) (as := [.ref a0, .ref a1, .int 0]) (ws := [(a0, .inr (10, [.ref a2, .ref a3, .ref a4, .ref a5, .int 0, .int 0, .int 0, .int 0, .int 0, .int 0])), (a5, .inl (y 0, 9, .inl nz)), (a1, .inr (8, [.ref a6, .int 0]))]) (sz := sz) (mc := 0) (ms := 0) (Qc := fun A => nQi D y (fun r _ => r = (-1)) (fun u => [(a0, .inr (10, [.ref a2, .ref a3, .ref a4, .ref a5, .int 0, .int 0, .int 0, .int 0, .int 0, .int 0])), (a1, .inr (8, [.ref a6, .int 0])), (a5, .inl (y 0, 9, .inl nz))]) A) (cc := cX10_read) (maxL := 5) (ret := (some .int)) (by decide +kernel) rfl (Nat.le_of_ble_eq_true rfl) ?_
  intro p e s m below meth c A ls H hx hb hr hml hts hown hlocks hnm hsz hP hK hD hA hS hE hAe hl
  replace hl : lv_has ls 5 [(0, .ref a0), (1, .ref a1), (2, .int 0)] := hl
  have hown : s.vm.findClass RX10 = some m.cls := hown
  have w_0 := hts (.fieldLink RX10 21 "SoldToBehind$TownReader" "friends" "[I") (gt_k wd_1_136)
  have w_1 := hts (.fieldLink RX10 24 "SoldToBehind$TownReader" "stubborn" "I") (gt_k wd_1_138)
  have w_2 := hts (.fieldLink RX10 28 "SoldToBehind$TownReader" "people" "I") (gt_k wd_1_140)
  have w_3 := hts (.fieldLink RX10 49 "SoldToBehind$Text" "size" "I") (gt_k wd_1_46)
  have w_4 := hts (.fieldLink RX10 31 "SoldToBehind$TownReader" "lines" "I") (gt_k wd_1_143)
  have w_5 := hts (.fieldLink RX10 34 "SoldToBehind$TownReader" "state" "I") (gt_k wd_1_145)
  have w_6 := hts (.methodLink RX10 54 Lib.Math.min.name) (gt_k wd_2_177)
  have w_7 := hts (.static Lib.Math.min.name) (gt_k wd_2_178)
  have w_8 := hts (.initialized "java/lang/Math") (gt_k wd_1_14)
  have w_9 := hts (.code Lib.Math.min.name Lib.Math.min.code 2 (some .int)) (gt_k wd_2_179)
  refine lv_aload_n hx hb dX10_read_0 rfl (lv_at hl 0 rfl) ?_
  refine va_get (D := D) (ci := 10) (v := .ref a5) (C := RX10) (T := TX10) (N := 10) hx hb hts (gt_c iG_X10) hown hK hP 0 rfl rfl 3 (by decide +kernel) w_0 (fun _ h9 => h9) rfl dX10_read_1 ?_
  refine lv_iconst (v := 0) hx hb dX10_read_4 (by decide +kernel) ?_
  refine nj_v (ws := [(a0, .inr (10, [.ref a2, .ref a3, .ref a4, .ref a5, .int 0, .int 0, .int 0, .int 0, .int 0, .int 0])), (a5, .inl (y 0, 9, .inl nz)), (a1, .inr (8, [.ref a6, .int 0]))]) (wc := [(a5, .inl (y 0, 9, .inl nz))]) (wr := [(a0, .inr (10, [.ref a2, .ref a3, .ref a4, .ref a5, .int 0, .int 0, .int 0, .int 0, .int 0, .int 0])), (a1, .inr (8, [.ref a6, .int 0]))]) (nr_S (As := [.ref a5, .int 0]) (rest := []) ⟨hx, hb, hml, hown, hts⟩ (cJ7_fill_53178_1 l D y a5 H.size) (va_cwS 2 hts gX10_read_J7_fill_53178 rfl rfl rfl (by decide +kernel) ⟨Nat.le_of_ble_eq_true rfl, Nat.le_of_ble_eq_true rfl⟩) hK hP hD hE [1] rfl (by decide +kernel) rfl rfl hl.1 rfl (lv_room (Nat.le_of_ble_eq_true rfl)) dX10_read_5 ⟨Nat.le_of_ble_eq_true rfl, Nat.le_of_ble_eq_true rfl⟩) hP hD hS hA [1] [0, 2] rfl rfl (by decide +kernel) (by decide +kernel) (fun u1 H locs _ hP hD hS => ?_)
  refine lv_aload_n hx hb dX10_read_8 rfl (lv_at hl 0 rfl) ?_
  refine lv_iconst (v := 0) hx hb dX10_read_9 (by decide +kernel) ?_
  refine nb_put (D := D) (ci := 10) (v := .int 0) (ty := .int) (C := RX10) (T := TX10) (N := 10) (ws' := [(a0, .inr (10, [.ref a2, .ref a3, .ref a4, .ref a5, .int 0, .int 0, .int 0, .int 0, .int 0, .int 0])), (a1, .inr (8, [.ref a6, .int 0])), (a5, .inl (y 0, 9, .inl nz))]) hx hb hts (gt_c iG_X10) tyX10 tyX10_ok nmX10 hown hK hP hD hS 0 rfl rfl 4 (by decide +kernel) w_1 (fun _ h9 => h9) rfl (by decide +kernel) rfl rfl (Nat.le_of_ble_eq_true rfl) rfl dX10_read_10 (fun H locs hP hD hS => ?_)
  refine lv_aload_n hx hb dX10_read_13 rfl (lv_at hl 0 rfl) ?_
  refine lv_iload_n hx hb dX10_read_14 rfl (lv_at hl 2 rfl) ?_
  refine nb_put (D := D) (ci := 10) (v := .int 0) (ty := .int) (C := RX10) (T := TX10) (N := 10) (ws' := [(a0, .inr (10, [.ref a2, .ref a3, .ref a4, .ref a5, .int 0, .int 0, .int 0, .int 0, .int 0, .int 0])), (a1, .inr (8, [.ref a6, .int 0])), (a5, .inl (y 0, 9, .inl nz))]) hx hb hts (gt_c iG_X10) tyX10 tyX10_ok nmX10 hown hK hP hD hS 0 rfl rfl 5 (by decide +kernel) w_2 (fun _ h9 => h9) rfl (by decide +kernel) rfl rfl (Nat.le_of_ble_eq_true rfl) rfl dX10_read_15 (fun H locs hP hD hS => ?_)
  refine lv_aload_n hx hb dX10_read_18 rfl (lv_at hl 0 rfl) ?_
  refine lv_aload_n hx hb dX10_read_19 rfl (lv_at hl 1 rfl) ?_
  refine va_get (D := D) (ci := 8) (v := .int 0) (C := RX8) (T := TX8) (N := 2) hx hb hts (gt_c iG_X8) hown hK hP 1 rfl rfl 1 (by decide +kernel) w_3 (fun _ h9 => h9) rfl dX10_read_20 ?_
  refine lv_if_ne (tgt := 30) hx hb dX10_read_23 (by decide +kernel) (fun c => absurd (by decide +kernel) c) (fun _ => ?_)
  refine lv_iconst (v := 0) hx hb dX10_read_26 (by decide +kernel) ?_
  refine lv_goto (tgt := 31) hx hb dX10_read_27 (by decide +kernel) ?_
  refine nb_put (D := D) (ci := 10) (v := .int 0) (ty := .int) (C := RX10) (T := TX10) (N := 10) (ws' := [(a0, .inr (10, [.ref a2, .ref a3, .ref a4, .ref a5, .int 0, .int 0, .int 0, .int 0, .int 0, .int 0])), (a1, .inr (8, [.ref a6, .int 0])), (a5, .inl (y 0, 9, .inl nz))]) hx hb hts (gt_c iG_X10) tyX10 tyX10_ok nmX10 hown hK hP hD hS 0 rfl rfl 6 (by decide +kernel) w_4 (fun _ h9 => h9) rfl (by decide +kernel) rfl rfl (Nat.le_of_ble_eq_true rfl) rfl dX10_read_31 (fun H locs hP hD hS => ?_)
  refine lv_aload_n hx hb dX10_read_34 rfl (lv_at hl 0 rfl) ?_
  refine lv_iconst (v := 0) hx hb dX10_read_35 (by decide +kernel) ?_
  refine nb_put (D := D) (ci := 10) (v := .int 0) (ty := .int) (C := RX10) (T := TX10) (N := 10) (ws' := [(a0, .inr (10, [.ref a2, .ref a3, .ref a4, .ref a5, .int 0, .int 0, .int 0, .int 0, .int 0, .int 0])), (a1, .inr (8, [.ref a6, .int 0])), (a5, .inl (y 0, 9, .inl nz))]) hx hb hts (gt_c iG_X10) tyX10 tyX10_ok nmX10 hown hK hP hD hS 0 rfl rfl 7 (by decide +kernel) w_5 (fun _ h9 => h9) rfl (by decide +kernel) rfl rfl (Nat.le_of_ble_eq_true rfl) rfl dX10_read_36 (fun H locs hP hD hS => ?_)
  refine lv_aload_n hx hb dX10_read_39 rfl (lv_at hl 1 rfl) ?_
  refine va_get (D := D) (ci := 8) (v := .int 0) (C := RX8) (T := TX8) (N := 2) hx hb hts (gt_c iG_X8) hown hK hP 1 rfl rfl 1 (by decide +kernel) w_3 (fun _ h9 => h9) rfl dX10_read_40 ?_
  refine lv_bipush (v := 76) hx hb dX10_read_43 (by decide +kernel) ?_
  refine va_mmin hx hb (by rw [hml]; exact hl.1.symm) hown w_6 w_7 w_8 w_9 (Nat.le_of_ble_eq_true rfl) (Nat.le_of_ble_eq_true rfl) (Nat.le_of_ble_eq_true rfl) (Nat.le_of_ble_eq_true rfl) dX10_read_45 ?_
  refine nv_i (v := 0) (by decide +kernel) ?_
  refine lv_istore_n (lv' := [(3, .int 0), (0, .ref a0), (1, .ref a1), (2, .int 0)]) hx hb dX10_read_48 rfl hl (by decide +kernel) rfl (fun ls hl => ?_)
  refine lv_iconst (v := 0) hx hb dX10_read_49 (by decide +kernel) ?_
  refine lv_istore (lv' := [(4, .int 0), (3, .int 0), (0, .ref a0), (1, .ref a1), (2, .int 0)]) hx hb dX10_read_50 hl (by decide +kernel) rfl (fun ls hl => ?_)
  refine lv_iload hx hb dX10_read_52 (lv_at hl 0 rfl) ?_
  refine lv_iload_n hx hb dX10_read_54 rfl (lv_at hl 1 rfl) ?_
  refine lv_icmp_ge (tgt := 81) hx hb dX10_read_55 (by decide +kernel) (fun _ => ?_) (fun c => absurd (by decide +kernel) c)
  refine lv_aload_n hx hb dX10_read_81 rfl (lv_at hl 3 rfl) ?_
  refine va_get (D := D) (ci := 8) (v := .int 0) (C := RX8) (T := TX8) (N := 2) hx hb hts (gt_c iG_X8) hown hK hP 1 rfl rfl 1 (by decide +kernel) w_3 (fun _ h9 => h9) rfl dX10_read_82 ?_
  refine lv_bipush (v := 76) hx hb dX10_read_85 (by decide +kernel) ?_
  refine lv_icmp_le (tgt := 93) hx hb dX10_read_87 (by decide +kernel) (fun _ => ?_) (fun c => absurd (by decide +kernel) c)
  refine lv_aload_n hx hb dX10_read_93 rfl (lv_at hl 3 rfl) ?_
  refine va_get (D := D) (ci := 8) (v := .int 0) (C := RX8) (T := TX8) (N := 2) hx hb hts (gt_c iG_X8) hown hK hP 1 rfl rfl 1 (by decide +kernel) w_3 (fun _ h9 => h9) rfl dX10_read_94 ?_
  refine lv_if_eq (tgt := 117) hx hb dX10_read_97 (by decide +kernel) (fun _ => ?_) (fun c => absurd (by decide +kernel) c)
  refine lv_iconst (v := 1) hx hb dX10_read_117 (by decide +kernel) ?_
  refine lv_goto (tgt := 122) hx hb dX10_read_118 (by decide +kernel) ?_
  refine lv_istore (lv' := [(4, .int 1), (3, .int 0), (0, .ref a0), (1, .ref a1), (2, .int 0)]) hx hb dX10_read_122 hl (by decide +kernel) rfl (fun ls hl => ?_)
  refine lv_iload hx hb dX10_read_124 (lv_at hl 0 rfl) ?_
  refine lv_if_eq (tgt := 133) hx hb dX10_read_126 (by decide +kernel) (fun c => absurd c (by decide +kernel)) (fun _ => ?_)
  refine lv_iconst (v := (-1)) hx hb dX10_read_129 (by decide +kernel) ?_
  refine lv_goto (tgt := 137) hx hb dX10_read_130 (by decide +kernel) ?_
  refine W.widen (k := 0) (n := 0) (Nat.le_of_ble_eq_true rfl) (Nat.le_of_ble_eq_true rfl) ?_
  exact W.iret (v := (-1)) hx hb hr (fun t ht hW => ⟨⟨(-1), (fun _ => 0), rfl, rfl, by rw [ht]; exact hP, va_K.moved hW.alike hK, hD⟩, hS.F ht⟩) hS.2.2 dX10_read_137 hlocks
set_option maxRecDepth 100000 in
set_option maxHeartbeats 4000000 in
theorem cX3_forget_1 (l : Launch) (D : va_G) (y : Nat → ClassId) (a0 : Nat) (a1 : Nat) (sz : Nat) : Met l yX3_forget wsX3_forget { frames := 2, cells := 0, slots := 0, locals := 200 } (nPc D y nT [.ref a0] [(a0, .inr (3, [.ref a1, .int 0, .int 0]))] sz) ((fun A => nQv D y (fun _ => True) (fun u => [(a0, .inr (3, [.ref a1, .int 0, .int 0]))]) A) (va_A [(a0, .inr (3, [.ref a1, .int 0, .int 0]))] sz)) 0 0 (va_A [(a0, .inr (3, [.ref a1, .int 0, .int 0]))] sz) := by
  refine nm_ofW (D := D) (y := y) (E := nT) (yy := yX3_forget) (wsy := wsX3_forget) (rm := { frames := 2, cells := 0, slots := 0, locals := 200 }) (as := [.ref a0]) (ws := [(a0, .inr (3, [.ref a1, .int 0, .int 0]))]) (sz := sz) (mc := 0) (ms := 0) (Qc := fun A => nQv D y (fun _ => True) (fun u => [(a0, .inr (3, [.ref a1, .int 0, .int 0]))]) A) (cc := cX3_forget) (maxL := 1) (ret := none) (by decide +kernel) rfl (Nat.le_of_ble_eq_true rfl) ?_
  intro p e s m below meth c A ls H hx hb hr hml hts hown hlocks hnm hsz hP hK hD hA hS hE hAe hl
  replace hl : lv_has ls 1 [(0, .ref a0)] := hl
  have hown : s.vm.findClass RX3 = some m.cls := hown
  have w_0 := hts (.fieldLink RX3 24 "SoldToBehind$Past" "size" "I") (gt_k wd_2_43)
  refine lv_aload_n hx hb dX3_forget_0 rfl (lv_at hl 0 rfl) ?_
  refine lv_iconst (v := 0) hx hb dX3_forget_1 (by decide +kernel) ?_
  refine nb_put (D := D) (ci := 3) (v := .int 0) (ty := .int) (C := RX3) (T := TX3) (N := 3) (ws' := [(a0, .inr (3, [.ref a1, .int 0, .int 0]))]) hx hb hts (gt_c iG_X3) tyX3 tyX3_ok nmX3 hown hK hP hD hS 0 rfl rfl 2 (by decide +kernel) w_0 (fun _ h9 => h9) rfl (by decide +kernel) rfl rfl (Nat.le_of_ble_eq_true rfl) rfl dX3_forget_2 (fun H locs hP hD hS => ?_)
  refine W.widen (k := 0) (n := 0) (Nat.le_of_ble_eq_true rfl) (Nat.le_of_ble_eq_true rfl) ?_
  exact W.vret hx hb hr (fun t ht hW => ⟨⟨(fun _ => 0), rfl, trivial, by rw [ht]; exact hP, va_K.moved hW.alike hK, hD⟩, hS.F ht⟩) hS.2.2 dX3_forget_5 hlocks
set_option maxRecDepth 100000 in
set_option maxHeartbeats 4000000 in
theorem cX11_town_1 (l : Launch) (D : va_G) (y : Nat → ClassId) (a0 : Nat) (a1 : Nat) (a2 : Nat) (a3 : Nat) (a4 : Nat) (a5 : Nat) (a6 : Nat) (a7 : Nat) (a8 : Nat) (a9 : Nat) (a10 : Nat) (a11 : Nat) (a12 : Nat) (a13 : Nat) (a14 : Nat) (a15 : Nat) (a16 : Nat) (a17 : Nat) (a18 : Nat) (a19 : Nat) (a20 : Nat) (a21 : Nat) (a22 : Nat) (a23 : Nat) (a24 : Nat) (a25 : Nat) (a26 : Nat) (sz : Nat) : Met l yX11_town wsX11_town { frames := 4, cells := 0, slots := 0, locals := 247 } (nPc D y nT [.ref a0] [(a0, .inr (11, [.ref a1, .ref a2, .ref a3, .ref a4, .ref a5, .ref a6, .ref a7, .ref a8, .ref a9, .ref a10, .ref a11, .ref a12, .ref a13, .ref a14, .int 1, .null, .int 0])), (a3, .inr (9, [.ref a15, .ref a16, .ref a17, .ref a18, .int 0, .ref a19, .ref a20])), (a4, .inr (10, [.ref a21, .ref a22, .ref a23, .ref a24, .int 0, .int 0, .int 0, .int 0, .int 0, .int 0])), (a24, .inl (y 0, 9, .inl nz)), (a1, .inr (8, [.ref a25, .int 0])), (a9, .inr (3, [.ref a26, .int 0, .int 0]))] sz) ((fun A => nQi D y (fun r _ => r = 0) (fun u => [(a0, .inr (11, [.ref a1, .ref a2, .ref a3, .ref a4, .ref a5, .ref a6, .ref a7, .ref a8, .ref a9, .ref a10, .ref a11, .ref a12, .ref a13, .ref a14, .int 1, .null, .int 0])), (a3, .inr (9, [.ref a15, .ref a16, .ref a17, .ref a18, .int 0, .ref a19, .ref a20])), (a4, .inr (10, [.ref a21, .ref a22, .ref a23, .ref a24, .int 0, .int 0, .int 0, .int 0, .int 0, .int 0])), (a24, .inl (y 0, 9, .inl nz)), (a1, .inr (8, [.ref a25, .int 0])), (a9, .inr (3, [.ref a26, .int 0, .int 0]))]) A) (va_A [(a0, .inr (11, [.ref a1, .ref a2, .ref a3, .ref a4, .ref a5, .ref a6, .ref a7, .ref a8, .ref a9, .ref a10, .ref a11, .ref a12, .ref a13, .ref a14, .int 1, .null, .int 0])), (a3, .inr (9, [.ref a15, .ref a16, .ref a17, .ref a18, .int 0, .ref a19, .ref a20])), (a4, .inr (10, [.ref a21, .ref a22, .ref a23, .ref a24, .int 0, .int 0, .int 0, .int 0, .int 0, .int 0])), (a24, .inl (y 0, 9, .inl nz)), (a1, .inr (8, [.ref a25, .int 0])), (a9, .inr (3, [.ref a26, .int 0, .int 0]))] sz)) 0 0 (va_A [(a0, .inr (11, [.ref a1, .ref a2, .ref a3, .ref a4, .ref a5, .ref a6, .ref a7, .ref a8, .ref a9, .ref a10, .ref a11, .ref a12, .ref a13, .ref a14, .int 1, .null, .int 0])), (a3, .inr (9, [.ref a15, .ref a16, .ref a17, .ref a18, .int 0, .ref a19, .ref a20])), (a4, .inr (10, [.ref a21, .ref a22, .ref a23, .ref a24, .int 0, .int 0, .int 0, .int 0, .int 0, .int 0])), (a24, .inl (y 0, 9, .inl nz)), (a1, .inr (8, [.ref a25, .int 0])), (a9, .inr (3, [.ref a26, .int 0, .int 0]))] sz) := by
  refine nm_ofW (D := D) (y := y) (E := nT) (yy := yX11_town) (wsy := wsX11_town) (rm := { frames := 4, cells := 0, slots := 0, locals := 247 }) (as := [.ref a0]) (ws := [(a0, .inr (11, [.ref a1, .ref a2, .ref a3, .ref a4, .ref a5, .ref a6, .ref a7, .ref a8, .ref a9, .ref a10, .ref a11, .ref a12, .ref a13, .ref a14, .int 1, .null, .int 0])), (a3, .inr (9, [.ref a15, .ref a16, .ref a17, .ref a18, .int 0, .ref a19, .ref a20])), (a4, .inr (10, [.ref a21, .ref a22, .ref a23, .ref a24, .int 0, .int 0, .int 0, .int 0, .int 0, .int 0])), (a24, .inl (y 0, 9, .inl nz)), (a1, .inr (8, [.ref a25, .int 0])), (a9, .inr (3, [.ref a26, .int 0, .int 0]))]) (sz := sz) (mc := 0) (ms := 0) (Qc := fun A => nQi D y (fun r _ => r = 0) (fun u => [(a0, .inr (11, [.ref a1, .ref a2, .ref a3, .ref a4, .ref a5, .ref a6, .ref a7, .ref a8, .ref a9, .ref a10, .ref a11, .ref a12, .ref a13, .ref a14, .int 1, .null, .int 0])), (a3, .inr (9, [.ref a15, .ref a16, .ref a17, .ref a18, .int 0, .ref a19, .ref a20])), (a4, .inr (10, [.ref a21, .ref a22, .ref a23, .ref a24, .int 0, .int 0, .int 0, .int 0, .int 0, .int 0])), (a24, .inl (y 0, 9, .inl nz)), (a1, .inr (8, [.ref a25, .int 0])), (a9, .inr (3, [.ref a26, .int 0, .int 0]))]) A) (cc := cX11_town) (maxL := 3) (ret := (some .int)) (by decide +kernel) rfl (Nat.le_of_ble_eq_true rfl) ?_
  intro p e s m below meth c A ls H hx hb hr hml hts hown hlocks hnm hsz hP hK hD hA hS hE hAe hl
  replace hl : lv_has ls 3 [(0, .ref a0)] := hl
  have hown : s.vm.findClass RX11 = some m.cls := hown
  have w_0 := hts (.fieldLink RX11 33 "SoldToBehind" "townReader" "LSoldToBehind$TownReader;") (gt_k wd_2_101)
  have w_1 := hts (.fieldLink RX11 10 "SoldToBehind" "text" "LSoldToBehind$Text;") (gt_k wd_2_98)
  have w_2 := hts (.fieldLink RX11 26 "SoldToBehind" "town" "LSoldToBehind$Town;") (gt_k wd_2_100)
  have w_3 := hts (.fieldLink RX11 109 "SoldToBehind$Town" "people" "I") (gt_k wd_1_106)
  have w_4 := hts (.fieldLink RX11 116 "SoldToBehind$TownReader" "lines" "I") (gt_k wd_1_144)
  have w_5 := hts (.fieldLink RX11 62 "SoldToBehind" "past" "LSoldToBehind$Past;") (gt_k wd_2_106)
  refine lv_aload_n hx hb dX11_town_0 rfl (lv_at hl 0 rfl) ?_
  refine va_get (D := D) (ci := 11) (v := .ref a4) (C := RX11) (T := TX11) (N := 17) hx hb hts (gt_c iG_X11) hown hK hP 0 rfl rfl 3 (by decide +kernel) w_0 (fun _ h9 => h9) rfl dX11_town_1 ?_
  refine lv_aload_n hx hb dX11_town_4 rfl (lv_at hl 0 rfl) ?_
  refine va_get (D := D) (ci := 11) (v := .ref a1) (C := RX11) (T := TX11) (N := 17) hx hb hts (gt_c iG_X11) hown hK hP 0 rfl rfl 0 (by decide +kernel) w_1 (fun _ h9 => h9) rfl dX11_town_5 ?_
  refine lv_aload_n hx hb dX11_town_8 rfl (lv_at hl 0 rfl) ?_
  refine va_get (D := D) (ci := 11) (v := .ref a3) (C := RX11) (T := TX11) (N := 17) hx hb hts (gt_c iG_X11) hown hK hP 0 rfl rfl 2 (by decide +kernel) w_2 (fun _ h9 => h9) rfl dX11_town_9 ?_
  refine va_get (D := D) (ci := 9) (v := .int 0) (C := RX9) (T := TX9) (N := 7) hx hb hts (gt_c iG_X9) hown hK hP 1 rfl rfl 4 (by decide +kernel) w_3 (fun _ h9 => h9) rfl dX11_town_12 ?_
  refine nj_i (ws := [(a0, .inr (11, [.ref a1, .ref a2, .ref a3, .ref a4, .ref a5, .ref a6, .ref a7, .ref a8, .ref a9, .ref a10, .ref a11, .ref a12, .ref a13, .ref a14, .int 1, .null, .int 0])), (a3, .inr (9, [.ref a15, .ref a16, .ref a17, .ref a18, .int 0, .ref a19, .ref a20])), (a4, .inr (10, [.ref a21, .ref a22, .ref a23, .ref a24, .int 0, .int 0, .int 0, .int 0, .int 0, .int 0])), (a24, .inl (y 0, 9, .inl nz)), (a1, .inr (8, [.ref a25, .int 0])), (a9, .inr (3, [.ref a26, .int 0, .int 0]))]) (wc := [(a4, .inr (10, [.ref a21, .ref a22, .ref a23, .ref a24, .int 0, .int 0, .int 0, .int 0, .int 0, .int 0])), (a24, .inl (y 0, 9, .inl nz)), (a1, .inr (8, [.ref a25, .int 0]))]) (wr := [(a0, .inr (11, [.ref a1, .ref a2, .ref a3, .ref a4, .ref a5, .ref a6, .ref a7, .ref a8, .ref a9, .ref a10, .ref a11, .ref a12, .ref a13, .ref a14, .int 1, .null, .int 0])), (a3, .inr (9, [.ref a15, .ref a16, .ref a17, .ref a18, .int 0, .ref a19, .ref a20])), (a9, .inr (3, [.ref a26, .int 0, .int 0]))]) (nr_V (As := [.ref a1, .int 0]) (rest := []) ⟨hx, hb, hml, hown, hts⟩ (cX10_read_1 l D y a4 a1 a21 a22 a23 a24 a25 H.size) (cwV 2 hts gX11_town_X10_read rfl rfl rfl (by decide +kernel) ⟨Nat.le_of_ble_eq_true rfl, Nat.le_of_ble_eq_true rfl⟩) hK hP hD hE [2, 3, 4] rfl (by decide +kernel) 0 10 rfl rfl rfl rfl rfl hl.1 rfl (lv_room (Nat.le_of_ble_eq_true rfl)) dX11_town_15 ⟨Nat.le_of_ble_eq_true rfl, Nat.le_of_ble_eq_true rfl⟩) hP hD hS hA [2, 3, 4] [0, 1, 5] rfl rfl (by decide +kernel) (by decide +kernel) (fun r2 u1 H locs er2 hP hD hS => ?_)
  subst er2
  refine lv_istore_n (lv' := [(1, .int (-1)), (0, .ref a0)]) hx hb dX11_town_18 rfl hl (by decide +kernel) rfl (fun ls hl => ?_)
  refine lv_aload_n hx hb dX11_town_19 rfl (lv_at hl 1 rfl) ?_
  refine va_get (D := D) (ci := 11) (v := .ref a1) (C := RX11) (T := TX11) (N := 17) hx hb hts (gt_c iG_X11) hown hK hP 0 rfl rfl 0 (by decide +kernel) w_1 (fun _ h9 => h9) rfl dX11_town_20 ?_
  refine lv_iconst (v := 0) hx hb dX11_town_23 (by decide +kernel) ?_
  refine nj_i (ws := [(a0, .inr (11, [.ref a1, .ref a2, .ref a3, .ref a4, .ref a5, .ref a6, .ref a7, .ref a8, .ref a9, .ref a10, .ref a11, .ref a12, .ref a13, .ref a14, .int 1, .null, .int 0])), (a3, .inr (9, [.ref a15, .ref a16, .ref a17, .ref a18, .int 0, .ref a19, .ref a20])), (a9, .inr (3, [.ref a26, .int 0, .int 0])), (a4, .inr (10, [.ref a21, .ref a22, .ref a23, .ref a24, .int 0, .int 0, .int 0, .int 0, .int 0, .int 0])), (a1, .inr (8, [.ref a25, .int 0])), (a24, .inl (y 0, 9, .inl nz))]) (wc := [(a1, .inr (8, [.ref a25, .int 0]))]) (wr := [(a0, .inr (11, [.ref a1, .ref a2, .ref a3, .ref a4, .ref a5, .ref a6, .ref a7, .ref a8, .ref a9, .ref a10, .ref a11, .ref a12, .ref a13, .ref a14, .int 1, .null, .int 0])), (a3, .inr (9, [.ref a15, .ref a16, .ref a17, .ref a18, .int 0, .ref a19, .ref a20])), (a9, .inr (3, [.ref a26, .int 0, .int 0])), (a4, .inr (10, [.ref a21, .ref a22, .ref a23, .ref a24, .int 0, .int 0, .int 0, .int 0, .int 0, .int 0])), (a24, .inl (y 0, 9, .inl nz))]) (nr_V (As := [.int 0]) (rest := []) ⟨hx, hb, hml, hown, hts⟩ (cX8_cut_2 l D y a1 a25 H.size) (cwV 1 hts gX11_town_X8_cut rfl rfl rfl (by decide +kernel) ⟨Nat.le_of_ble_eq_true rfl, Nat.le_of_ble_eq_true rfl⟩) hK hP hD hE [4] rfl (by decide +kernel) 0 8 rfl rfl rfl rfl rfl hl.1 rfl (lv_room (Nat.le_of_ble_eq_true rfl)) dX11_town_24 ⟨Nat.le_of_ble_eq_true rfl, Nat.le_of_ble_eq_true rfl⟩) hP hD hS hA [4] [0, 1, 2, 3, 5] rfl rfl (by decide +kernel) (by decide +kernel) (fun r4 u3 H locs er4 hP hD hS => ?_)
  subst er4
  refine lv_pop hx hb dX11_town_27 rfl ?_
  refine lv_iload_n hx hb dX11_town_28 rfl (lv_at hl 0 rfl) ?_
  refine lv_iconst (v := (-1)) hx hb dX11_town_29 (by decide +kernel) ?_
  refine lv_icmp_eq (tgt := 37) hx hb dX11_town_30 (by decide +kernel) (fun _ => ?_) (fun c => absurd (by decide +kernel) c)
  refine lv_aload_n hx hb dX11_town_37 rfl (lv_at hl 1 rfl) ?_
  refine va_get (D := D) (ci := 11) (v := .ref a4) (C := RX11) (T := TX11) (N := 17) hx hb hts (gt_c iG_X11) hown hK hP 0 rfl rfl 3 (by decide +kernel) w_0 (fun _ h9 => h9) rfl dX11_town_38 ?_
  refine va_get (D := D) (ci := 10) (v := .int 0) (C := RX10) (T := TX10) (N := 10) hx hb hts (gt_c iG_X10) hown hK hP 3 rfl rfl 6 (by decide +kernel) w_4 (fun _ h9 => h9) rfl dX11_town_41 ?_
  refine lv_if_ne (tgt := 56) hx hb dX11_town_44 (by decide +kernel) (fun c => absurd (by decide +kernel) c) (fun _ => ?_)
  refine lv_aload_n hx hb dX11_town_47 rfl (lv_at hl 1 rfl) ?_
  refine va_get (D := D) (ci := 11) (v := .ref a9) (C := RX11) (T := TX11) (N := 17) hx hb hts (gt_c iG_X11) hown hK hP 0 rfl rfl 8 (by decide +kernel) w_5 (fun _ h9 => h9) rfl dX11_town_48 ?_
  refine nj_v (ws := [(a0, .inr (11, [.ref a1, .ref a2, .ref a3, .ref a4, .ref a5, .ref a6, .ref a7, .ref a8, .ref a9, .ref a10, .ref a11, .ref a12, .ref a13, .ref a14, .int 1, .null, .int 0])), (a3, .inr (9, [.ref a15, .ref a16, .ref a17, .ref a18, .int 0, .ref a19, .ref a20])), (a9, .inr (3, [.ref a26, .int 0, .int 0])), (a4, .inr (10, [.ref a21, .ref a22, .ref a23, .ref a24, .int 0, .int 0, .int 0, .int 0, .int 0, .int 0])), (a24, .inl (y 0, 9, .inl nz)), (a1, .inr (8, [.ref a25, .int 0]))]) (wc := [(a9, .inr (3, [.ref a26, .int 0, .int 0]))]) (wr := [(a0, .inr (11, [.ref a1, .ref a2, .ref a3, .ref a4, .ref a5, .ref a6, .ref a7, .ref a8, .ref a9, .ref a10, .ref a11, .ref a12, .ref a13, .ref a14, .int 1, .null, .int 0])), (a3, .inr (9, [.ref a15, .ref a16, .ref a17, .ref a18, .int 0, .ref a19, .ref a20])), (a4, .inr (10, [.ref a21, .ref a22, .ref a23, .ref a24, .int 0, .int 0, .int 0, .int 0, .int 0, .int 0])), (a24, .inl (y 0, 9, .inl nz)), (a1, .inr (8, [.ref a25, .int 0]))]) (nr_V (As := []) (rest := []) ⟨hx, hb, hml, hown, hts⟩ (cX3_forget_1 l D y a9 a26 H.size) (cwV 0 hts gX11_town_X3_forget rfl rfl rfl (by decide +kernel) ⟨Nat.le_of_ble_eq_true rfl, Nat.le_of_ble_eq_true rfl⟩) hK hP hD hE [2] rfl (by decide +kernel) 0 3 rfl rfl rfl rfl rfl hl.1 rfl (lv_room (Nat.le_of_ble_eq_true rfl)) dX11_town_51 ⟨Nat.le_of_ble_eq_true rfl, Nat.le_of_ble_eq_true rfl⟩) hP hD hS hA [2] [0, 1, 3, 4, 5] rfl rfl (by decide +kernel) (by decide +kernel) (fun u5 H locs _ hP hD hS => ?_)
  refine lv_iconst (v := 0) hx hb dX11_town_54 (by decide +kernel) ?_
  refine W.widen (k := 0) (n := 0) (Nat.le_of_ble_eq_true rfl) (Nat.le_of_ble_eq_true rfl) ?_
  exact W.iret (v := 0) hx hb hr (fun t ht hW => ⟨⟨0, (fun _ => 0), rfl, rfl, by rw [ht]; exact hP, va_K.moved hW.alike hK, hD⟩, hS.F ht⟩) hS.2.2 dX11_town_55 hlocks
set_option maxRecDepth 100000 in
set_option maxHeartbeats 4000000 in
theorem cX12_begin_1 (l : Launch) (D : va_G) (y : Nat → ClassId) (a0 : Nat) (a1 : Nat) (a2 : Nat) (a3 : Nat) (a4 : Nat) (a5 : Nat) (a6 : Nat) (a7 : Nat) (a8 : Nat) (a9 : Nat) (a10 : Nat) (a11 : Nat) (a12 : Nat) (a13 : Nat) (a14 : Nat) (a15 : Nat) (a16 : Nat) (a17 : Nat) (a18 : Nat) (a19 : Nat) (a20 : Nat) (a21 : Nat) (a22 : Nat) (a23 : Nat) (a24 : Nat) (a25 : Nat) (a26 : Nat) (a27 : Nat) (a28 : Nat) (a29 : Nat) (a30 : Nat) (a31 : Nat) (a32 : Nat) (a33 : Nat) (a34 : Nat) (a35 : Nat) (sz : Nat) : Met l yX12_begin wsX12_begin { frames := 2, cells := 0, slots := 0, locals := 200 } (nPc D y nT [.ref a0, .ref a1, .int 0, .int 76] [(a0, .inr (12, (.int 0 :: .ref a2 :: .ref a3 :: .ref a4 :: .ref a5 :: .ref a6 :: .ref a7 :: .ref a8 :: .int 0 :: .ref a9 :: .int 0 :: .ref a10 :: .ref a11 :: .int 1 :: .ref a1 :: .int 0 :: .ref a12 :: .int 0 :: .int 0 :: .null :: .int 0 :: .int 0 :: .int 0 :: .int 0 :: .ref a13 :: .ref a14 :: .ref a15 :: .int (-1) :: .int 0 :: .int 0 :: .int 0 :: .int 0 :: .int 0 :: .int 0 :: .int 0 :: .ref a16 :: .int 0 :: .ref a17 :: .int 0 :: .ref a18 :: .ref a19 :: .int 0 :: .int 0 :: .int 0 :: .int 0 :: .ref a20 :: .ref a21 :: .ref a22 :: .ref a23 :: .ref a24 :: .ref a25 :: .ref a26 :: .ref a27 :: .ref a28 :: .int 0 :: .ref a29 :: .ref a30 :: .ref a31 :: .long 0 :: .int 0 :: .int 0 :: .int 0 :: .long 0 :: .int 0 :: .ref a32 :: .int 0 :: .int 0 :: .int 0 :: .int 0 :: .ref a33 :: .ref a34 :: .ref a35 :: [])))] sz) ((fun A => nQv D y (fun _ => True) (fun u => [(a0, .inr (12, (.int 0 :: .ref a2 :: .ref a3 :: .ref a4 :: .ref a5 :: .ref a6 :: .ref a7 :: .ref a8 :: .int 0 :: .ref a9 :: .int 0 :: .ref a10 :: .ref a11 :: .int 1 :: .ref a1 :: .int 0 :: .ref a12 :: .int 0 :: .int 0 :: .ref a1 :: .int 0 :: .int 76 :: .int 0 :: .int (-1) :: .ref a13 :: .ref a14 :: .ref a15 :: .int (-1) :: .int 0 :: .int 0 :: .int 0 :: .int 0 :: .int 0 :: .int 0 :: .int 0 :: .ref a16 :: .int 0 :: .ref a17 :: .int 0 :: .ref a18 :: .ref a19 :: .int 0 :: .int 0 :: .int 0 :: .int 0 :: .ref a20 :: .ref a21 :: .ref a22 :: .ref a23 :: .ref a24 :: .ref a25 :: .ref a26 :: .ref a27 :: .ref a28 :: .int 0 :: .ref a29 :: .ref a30 :: .ref a31 :: .long 0 :: .int 0 :: .int 0 :: .int 0 :: .long 0 :: .int 0 :: .ref a32 :: .int 0 :: .int 0 :: .int 0 :: .int 0 :: .ref a33 :: .ref a34 :: .ref a35 :: [])))]) A) (va_A [(a0, .inr (12, (.int 0 :: .ref a2 :: .ref a3 :: .ref a4 :: .ref a5 :: .ref a6 :: .ref a7 :: .ref a8 :: .int 0 :: .ref a9 :: .int 0 :: .ref a10 :: .ref a11 :: .int 1 :: .ref a1 :: .int 0 :: .ref a12 :: .int 0 :: .int 0 :: .null :: .int 0 :: .int 0 :: .int 0 :: .int 0 :: .ref a13 :: .ref a14 :: .ref a15 :: .int (-1) :: .int 0 :: .int 0 :: .int 0 :: .int 0 :: .int 0 :: .int 0 :: .int 0 :: .ref a16 :: .int 0 :: .ref a17 :: .int 0 :: .ref a18 :: .ref a19 :: .int 0 :: .int 0 :: .int 0 :: .int 0 :: .ref a20 :: .ref a21 :: .ref a22 :: .ref a23 :: .ref a24 :: .ref a25 :: .ref a26 :: .ref a27 :: .ref a28 :: .int 0 :: .ref a29 :: .ref a30 :: .ref a31 :: .long 0 :: .int 0 :: .int 0 :: .int 0 :: .long 0 :: .int 0 :: .ref a32 :: .int 0 :: .int 0 :: .int 0 :: .int 0 :: .ref a33 :: .ref a34 :: .ref a35 :: [])))] sz)) 0 0 (va_A [(a0, .inr (12, (.int 0 :: .ref a2 :: .ref a3 :: .ref a4 :: .ref a5 :: .ref a6 :: .ref a7 :: .ref a8 :: .int 0 :: .ref a9 :: .int 0 :: .ref a10 :: .ref a11 :: .int 1 :: .ref a1 :: .int 0 :: .ref a12 :: .int 0 :: .int 0 :: .null :: .int 0 :: .int 0 :: .int 0 :: .int 0 :: .ref a13 :: .ref a14 :: .ref a15 :: .int (-1) :: .int 0 :: .int 0 :: .int 0 :: .int 0 :: .int 0 :: .int 0 :: .int 0 :: .ref a16 :: .int 0 :: .ref a17 :: .int 0 :: .ref a18 :: .ref a19 :: .int 0 :: .int 0 :: .int 0 :: .int 0 :: .ref a20 :: .ref a21 :: .ref a22 :: .ref a23 :: .ref a24 :: .ref a25 :: .ref a26 :: .ref a27 :: .ref a28 :: .int 0 :: .ref a29 :: .ref a30 :: .ref a31 :: .long 0 :: .int 0 :: .int 0 :: .int 0 :: .long 0 :: .int 0 :: .ref a32 :: .int 0 :: .int 0 :: .int 0 :: .int 0 :: .ref a33 :: .ref a34 :: .ref a35 :: [])))] sz) := by
  refine nm_ofW (D := D) (y := y) (E := nT) (yy := yX12_begin) (wsy := wsX12_begin) (rm := { frames := 2, cells := 0, slots := 0, locals := 200 }) (as := [.ref a0, .ref a1, .int 0, .int 76]) (ws := [(a0, .inr (12, (.int 0 :: .ref a2 :: .ref a3 :: .ref a4 :: .ref a5 :: .ref a6 :: .ref a7 :: .ref a8 :: .int 0 :: .ref a9 :: .int 0 :: .ref a10 :: .ref a11 :: .int 1 :: .ref a1 :: .int 0 :: .ref a12 :: .int 0 :: .int 0 :: .null :: .int 0 :: .int 0 :: .int 0 :: .int 0 :: .ref a13 :: .ref a14 :: .ref a15 :: .int (-1) :: .int 0 :: .int 0 :: .int 0 :: .int 0 :: .int 0 :: .int 0 :: .int 0 :: .ref a16 :: .int 0 :: .ref a17 :: .int 0 :: .ref a18 :: .ref a19 :: .int 0 :: .int 0 :: .int 0 :: .int 0 :: .ref a20 :: .ref a21 :: .ref a22 :: .ref a23 :: .ref a24 :: .ref a25 :: .ref a26 :: .ref a27 :: .ref a28 :: .int 0 :: .ref a29 :: .ref a30 :: .ref a31 :: .long 0 :: .int 0 :: .int 0 :: .int 0 :: .long 0 :: .int 0 :: .ref a32 :: .int 0 :: .int 0 :: .int 0 :: .int 0 :: .ref a33 :: .ref a34 :: .ref a35 :: [])))]) (sz := sz) (mc := 0) (ms := 0) (Qc := fun A => nQv D y (fun _ => True) (fun u => [(a0, .inr (12, (.int 0 :: .ref a2 :: .ref a3 :: .ref a4 :: .ref a5 :: .ref a6 :: .ref a7 :: .ref a8 :: .int 0 :: .ref a9 :: .int 0 :: .ref a10 :: .ref a11 :: .int 1 :: .ref a1 :: .int 0 :: .ref a12 :: .int 0 :: .int 0 :: .ref a1 :: .int 0 :: .int 76 :: .int 0 :: .int (-1) :: .ref a13 :: .ref a14 :: .ref a15 :: .int (-1) :: .int 0 :: .int 0 :: .int 0 :: .int 0 :: .int 0 :: .int 0 :: .int 0 :: .ref a16 :: .int 0 :: .ref a17 :: .int 0 :: .ref a18 :: .ref a19 :: .int 0 :: .int 0 :: .int 0 :: .int 0 :: .ref a20 :: .ref a21 :: .ref a22 :: .ref a23 :: .ref a24 :: .ref a25 :: .ref a26 :: .ref a27 :: .ref a28 :: .int 0 :: .ref a29 :: .ref a30 :: .ref a31 :: .long 0 :: .int 0 :: .int 0 :: .int 0 :: .long 0 :: .int 0 :: .ref a32 :: .int 0 :: .int 0 :: .int 0 :: .int 0 :: .ref a33 :: .ref a34 :: .ref a35 :: [])))]) A) (cc := cX12_begin) (maxL := 4) (ret := none) (by decide +kernel) rfl (Nat.le_of_ble_eq_true rfl) ?_
  intro p e s m below meth c A ls H hx hb hr hml hts hown hlocks hnm hsz hP hK hD hA hS hE hAe hl
  replace hl : lv_has ls 4 [(0, .ref a0), (1, .ref a1), (2, .int 0), (3, .int 76)] := hl
  have hown : s.vm.findClass RX12 = some m.cls := hown
  have w_0 := hts (.fieldLink RX12 154 "SoldToBehindModel" "read" "[B") (gt_k wd_6_212)
  have w_1 := hts (.fieldLink RX12 157 "SoldToBehindModel" "size" "I") (gt_k wd_6_213)
  have w_2 := hts (.fieldLink RX12 160 "SoldToBehindModel" "top" "I") (gt_k wd_6_214)
  have w_3 := hts (.fieldLink RX12 163 "SoldToBehindModel" "at" "I") (gt_k wd_6_215)
  have w_4 := hts (.fieldLink RX12 166 "SoldToBehindModel" "wrong" "I") (gt_k wd_6_216)
  refine lv_aload_n hx hb dX12_begin_0 rfl (lv_at hl 0 rfl) ?_
  refine lv_aload_n hx hb dX12_begin_1 rfl (lv_at hl 1 rfl) ?_
  refine nb_put (D := D) (ci := 12) (v := .ref a1) (ty := .array .byte) (C := RX12) (T := TX12) (N := 72) (ws' := [(a0, .inr (12, (.int 0 :: .ref a2 :: .ref a3 :: .ref a4 :: .ref a5 :: .ref a6 :: .ref a7 :: .ref a8 :: .int 0 :: .ref a9 :: .int 0 :: .ref a10 :: .ref a11 :: .int 1 :: .ref a1 :: .int 0 :: .ref a12 :: .int 0 :: .int 0 :: .ref a1 :: .int 0 :: .int 0 :: .int 0 :: .int 0 :: .ref a13 :: .ref a14 :: .ref a15 :: .int (-1) :: .int 0 :: .int 0 :: .int 0 :: .int 0 :: .int 0 :: .int 0 :: .int 0 :: .ref a16 :: .int 0 :: .ref a17 :: .int 0 :: .ref a18 :: .ref a19 :: .int 0 :: .int 0 :: .int 0 :: .int 0 :: .ref a20 :: .ref a21 :: .ref a22 :: .ref a23 :: .ref a24 :: .ref a25 :: .ref a26 :: .ref a27 :: .ref a28 :: .int 0 :: .ref a29 :: .ref a30 :: .ref a31 :: .long 0 :: .int 0 :: .int 0 :: .int 0 :: .long 0 :: .int 0 :: .ref a32 :: .int 0 :: .int 0 :: .int 0 :: .int 0 :: .ref a33 :: .ref a34 :: .ref a35 :: [])))]) hx hb hts (gt_c iG_X12) tyX12 tyX12_ok nmX12 hown hK hP hD hS 0 rfl rfl 19 (by decide +kernel) w_0 (fun _ h9 => h9) rfl (by decide +kernel) rfl rfl (Nat.le_of_ble_eq_true rfl) rfl dX12_begin_2 (fun H locs hP hD hS => ?_)
  refine lv_aload_n hx hb dX12_begin_5 rfl (lv_at hl 0 rfl) ?_
  refine lv_iload_n hx hb dX12_begin_6 rfl (lv_at hl 2 rfl) ?_
  refine nb_put (D := D) (ci := 12) (v := .int 0) (ty := .int) (C := RX12) (T := TX12) (N := 72) (ws' := [(a0, .inr (12, (.int 0 :: .ref a2 :: .ref a3 :: .ref a4 :: .ref a5 :: .ref a6 :: .ref a7 :: .ref a8 :: .int 0 :: .ref a9 :: .int 0 :: .ref a10 :: .ref a11 :: .int 1 :: .ref a1 :: .int 0 :: .ref a12 :: .int 0 :: .int 0 :: .ref a1 :: .int 0 :: .int 0 :: .int 0 :: .int 0 :: .ref a13 :: .ref a14 :: .ref a15 :: .int (-1) :: .int 0 :: .int 0 :: .int 0 :: .int 0 :: .int 0 :: .int 0 :: .int 0 :: .ref a16 :: .int 0 :: .ref a17 :: .int 0 :: .ref a18 :: .ref a19 :: .int 0 :: .int 0 :: .int 0 :: .int 0 :: .ref a20 :: .ref a21 :: .ref a22 :: .ref a23 :: .ref a24 :: .ref a25 :: .ref a26 :: .ref a27 :: .ref a28 :: .int 0 :: .ref a29 :: .ref a30 :: .ref a31 :: .long 0 :: .int 0 :: .int 0 :: .int 0 :: .long 0 :: .int 0 :: .ref a32 :: .int 0 :: .int 0 :: .int 0 :: .int 0 :: .ref a33 :: .ref a34 :: .ref a35 :: [])))]) hx hb hts (gt_c iG_X12) tyX12 tyX12_ok nmX12 hown hK hP hD hS 0 rfl rfl 20 (by decide +kernel) w_1 (fun _ h9 => h9) rfl (by decide +kernel) rfl rfl (Nat.le_of_ble_eq_true rfl) rfl dX12_begin_7 (fun H locs hP hD hS => ?_)
  refine lv_aload_n hx hb dX12_begin_10 rfl (lv_at hl 0 rfl) ?_
  refine lv_iload_n hx hb dX12_begin_11 rfl (lv_at hl 3 rfl) ?_
  refine nb_put (D := D) (ci := 12) (v := .int 76) (ty := .int) (C := RX12) (T := TX12) (N := 72) (ws' := [(a0, .inr (12, (.int 0 :: .ref a2 :: .ref a3 :: .ref a4 :: .ref a5 :: .ref a6 :: .ref a7 :: .ref a8 :: .int 0 :: .ref a9 :: .int 0 :: .ref a10 :: .ref a11 :: .int 1 :: .ref a1 :: .int 0 :: .ref a12 :: .int 0 :: .int 0 :: .ref a1 :: .int 0 :: .int 76 :: .int 0 :: .int 0 :: .ref a13 :: .ref a14 :: .ref a15 :: .int (-1) :: .int 0 :: .int 0 :: .int 0 :: .int 0 :: .int 0 :: .int 0 :: .int 0 :: .ref a16 :: .int 0 :: .ref a17 :: .int 0 :: .ref a18 :: .ref a19 :: .int 0 :: .int 0 :: .int 0 :: .int 0 :: .ref a20 :: .ref a21 :: .ref a22 :: .ref a23 :: .ref a24 :: .ref a25 :: .ref a26 :: .ref a27 :: .ref a28 :: .int 0 :: .ref a29 :: .ref a30 :: .ref a31 :: .long 0 :: .int 0 :: .int 0 :: .int 0 :: .long 0 :: .int 0 :: .ref a32 :: .int 0 :: .int 0 :: .int 0 :: .int 0 :: .ref a33 :: .ref a34 :: .ref a35 :: [])))]) hx hb hts (gt_c iG_X12) tyX12 tyX12_ok nmX12 hown hK hP hD hS 0 rfl rfl 21 (by decide +kernel) w_2 (fun _ h9 => h9) rfl (by decide +kernel) rfl rfl (Nat.le_of_ble_eq_true rfl) rfl dX12_begin_12 (fun H locs hP hD hS => ?_)
  refine lv_aload_n hx hb dX12_begin_15 rfl (lv_at hl 0 rfl) ?_
  refine lv_iconst (v := 0) hx hb dX12_begin_16 (by decide +kernel) ?_
  refine nb_put (D := D) (ci := 12) (v := .int 0) (ty := .int) (C := RX12) (T := TX12) (N := 72) (ws' := [(a0, .inr (12, (.int 0 :: .ref a2 :: .ref a3 :: .ref a4 :: .ref a5 :: .ref a6 :: .ref a7 :: .ref a8 :: .int 0 :: .ref a9 :: .int 0 :: .ref a10 :: .ref a11 :: .int 1 :: .ref a1 :: .int 0 :: .ref a12 :: .int 0 :: .int 0 :: .ref a1 :: .int 0 :: .int 76 :: .int 0 :: .int 0 :: .ref a13 :: .ref a14 :: .ref a15 :: .int (-1) :: .int 0 :: .int 0 :: .int 0 :: .int 0 :: .int 0 :: .int 0 :: .int 0 :: .ref a16 :: .int 0 :: .ref a17 :: .int 0 :: .ref a18 :: .ref a19 :: .int 0 :: .int 0 :: .int 0 :: .int 0 :: .ref a20 :: .ref a21 :: .ref a22 :: .ref a23 :: .ref a24 :: .ref a25 :: .ref a26 :: .ref a27 :: .ref a28 :: .int 0 :: .ref a29 :: .ref a30 :: .ref a31 :: .long 0 :: .int 0 :: .int 0 :: .int 0 :: .long 0 :: .int 0 :: .ref a32 :: .int 0 :: .int 0 :: .int 0 :: .int 0 :: .ref a33 :: .ref a34 :: .ref a35 :: [])))]) hx hb hts (gt_c iG_X12) tyX12 tyX12_ok nmX12 hown hK hP hD hS 0 rfl rfl 22 (by decide +kernel) w_3 (fun _ h9 => h9) rfl (by decide +kernel) rfl rfl (Nat.le_of_ble_eq_true rfl) rfl dX12_begin_17 (fun H locs hP hD hS => ?_)
  refine lv_aload_n hx hb dX12_begin_20 rfl (lv_at hl 0 rfl) ?_
  refine lv_iconst (v := (-1)) hx hb dX12_begin_21 (by decide +kernel) ?_
  refine nb_put (D := D) (ci := 12) (v := .int (-1)) (ty := .int) (C := RX12) (T := TX12) (N := 72) (ws' := [(a0, .inr (12, (.int 0 :: .ref a2 :: .ref a3 :: .ref a4 :: .ref a5 :: .ref a6 :: .ref a7 :: .ref a8 :: .int 0 :: .ref a9 :: .int 0 :: .ref a10 :: .ref a11 :: .int 1 :: .ref a1 :: .int 0 :: .ref a12 :: .int 0 :: .int 0 :: .ref a1 :: .int 0 :: .int 76 :: .int 0 :: .int (-1) :: .ref a13 :: .ref a14 :: .ref a15 :: .int (-1) :: .int 0 :: .int 0 :: .int 0 :: .int 0 :: .int 0 :: .int 0 :: .int 0 :: .ref a16 :: .int 0 :: .ref a17 :: .int 0 :: .ref a18 :: .ref a19 :: .int 0 :: .int 0 :: .int 0 :: .int 0 :: .ref a20 :: .ref a21 :: .ref a22 :: .ref a23 :: .ref a24 :: .ref a25 :: .ref a26 :: .ref a27 :: .ref a28 :: .int 0 :: .ref a29 :: .ref a30 :: .ref a31 :: .long 0 :: .int 0 :: .int 0 :: .int 0 :: .long 0 :: .int 0 :: .ref a32 :: .int 0 :: .int 0 :: .int 0 :: .int 0 :: .ref a33 :: .ref a34 :: .ref a35 :: [])))]) hx hb hts (gt_c iG_X12) tyX12 tyX12_ok nmX12 hown hK hP hD hS 0 rfl rfl 23 (by decide +kernel) w_4 (fun _ h9 => h9) rfl (by decide +kernel) rfl rfl (Nat.le_of_ble_eq_true rfl) rfl dX12_begin_22 (fun H locs hP hD hS => ?_)
  refine W.widen (k := 0) (n := 0) (Nat.le_of_ble_eq_true rfl) (Nat.le_of_ble_eq_true rfl) ?_
  exact W.vret hx hb hr (fun t ht hW => ⟨⟨(fun _ => 0), rfl, trivial, by rw [ht]; exact hP, va_K.moved hW.alike hK, hD⟩, hS.F ht⟩) hS.2.2 dX12_begin_25 hlocks
set_option maxRecDepth 100000 in
set_option maxHeartbeats 4000000 in
theorem cX12_town_1 (l : Launch) (D : va_G) (y : Nat → ClassId) (a0 : Nat) (a1 : Nat) (a2 : Nat) (a3 : Nat) (a4 : Nat) (a5 : Nat) (a6 : Nat) (a7 : Nat) (a8 : Nat) (a9 : Nat) (a10 : Nat) (a11 : Nat) (a12 : Nat) (a13 : Nat) (a14 : Nat) (a15 : Nat) (a16 : Nat) (a17 : Nat) (a18 : Nat) (a19 : Nat) (a20 : Nat) (a21 : Nat) (a22 : Nat) (a23 : Nat) (a24 : Nat) (a25 : Nat) (a26 : Nat) (a27 : Nat) (a28 : Nat) (a29 : Nat) (a30 : Nat) (a31 : Nat) (a32 : Nat) (a33 : Nat) (a34 : Nat) (a35 : Nat) (sz : Nat) : Met l yX12_town wsX12_town { frames := 3, cells := 0, slots := 0, locals := 223 } (nPc D y nT [.ref a0] [(a0, .inr (12, (.int 0 :: .ref a1 :: .ref a2 :: .ref a3 :: .ref a4 :: .ref a5 :: .ref a6 :: .ref a7 :: .int 0 :: .ref a8 :: .int 0 :: .ref a9 :: .ref a10 :: .int 1 :: .ref a11 :: .int 0 :: .ref a12 :: .int 0 :: .int 0 :: .null :: .int 0 :: .int 0 :: .int 0 :: .int 0 :: .ref a13 :: .ref a14 :: .ref a15 :: .int (-1) :: .int 0 :: .int 0 :: .int 0 :: .int 0 :: .int 0 :: .int 0 :: .int 0 :: .ref a16 :: .int 0 :: .ref a17 :: .int 0 :: .ref a18 :: .ref a19 :: .int 0 :: .int 0 :: .int 0 :: .int 0 :: .ref a20 :: .ref a21 :: .ref a22 :: .ref a23 :: .ref a24 :: .ref a25 :: .ref a26 :: .ref a27 :: .ref a28 :: .int 0 :: .ref a29 :: .ref a30 :: .ref a31 :: .long 0 :: .int 0 :: .int 0 :: .int 0 :: .long 0 :: .int 0 :: .ref a32 :: .int 0 :: .int 0 :: .int 0 :: .int 0 :: .ref a33 :: .ref a34 :: .ref a35 :: [])))] sz) ((fun A => nQi D y (fun r _ => r = 0) (fun u => [(a0, .inr (12, (.int 0 :: .ref a1 :: .ref a2 :: .ref a3 :: .ref a4 :: .ref a5 :: .ref a6 :: .ref a7 :: .int 0 :: .ref a8 :: .int 0 :: .ref a9 :: .ref a10 :: .int 1 :: .ref a11 :: .int 0 :: .ref a12 :: .int 0 :: .int 0 :: .ref a11 :: .int 0 :: .int 76 :: .int 0 :: .int (-1) :: .ref a13 :: .ref a14 :: .ref a15 :: .int (-1) :: .int 0 :: .int 0 :: .int 0 :: .int 0 :: .int 0 :: .int 0 :: .int 0 :: .ref a16 :: .int 0 :: .ref a17 :: .int 0 :: .ref a18 :: .ref a19 :: .int 0 :: .int 0 :: .int 0 :: .int 0 :: .ref a20 :: .ref a21 :: .ref a22 :: .ref a23 :: .ref a24 :: .ref a25 :: .ref a26 :: .ref a27 :: .ref a28 :: .int 0 :: .ref a29 :: .ref a30 :: .ref a31 :: .long 0 :: .int 0 :: .int 0 :: .int 0 :: .long 0 :: .int 0 :: .ref a32 :: .int 0 :: .int 0 :: .int 0 :: .int 0 :: .ref a33 :: .ref a34 :: .ref a35 :: [])))]) A) (va_A [(a0, .inr (12, (.int 0 :: .ref a1 :: .ref a2 :: .ref a3 :: .ref a4 :: .ref a5 :: .ref a6 :: .ref a7 :: .int 0 :: .ref a8 :: .int 0 :: .ref a9 :: .ref a10 :: .int 1 :: .ref a11 :: .int 0 :: .ref a12 :: .int 0 :: .int 0 :: .null :: .int 0 :: .int 0 :: .int 0 :: .int 0 :: .ref a13 :: .ref a14 :: .ref a15 :: .int (-1) :: .int 0 :: .int 0 :: .int 0 :: .int 0 :: .int 0 :: .int 0 :: .int 0 :: .ref a16 :: .int 0 :: .ref a17 :: .int 0 :: .ref a18 :: .ref a19 :: .int 0 :: .int 0 :: .int 0 :: .int 0 :: .ref a20 :: .ref a21 :: .ref a22 :: .ref a23 :: .ref a24 :: .ref a25 :: .ref a26 :: .ref a27 :: .ref a28 :: .int 0 :: .ref a29 :: .ref a30 :: .ref a31 :: .long 0 :: .int 0 :: .int 0 :: .int 0 :: .long 0 :: .int 0 :: .ref a32 :: .int 0 :: .int 0 :: .int 0 :: .int 0 :: .ref a33 :: .ref a34 :: .ref a35 :: [])))] sz)) 0 0 (va_A [(a0, .inr (12, (.int 0 :: .ref a1 :: .ref a2 :: .ref a3 :: .ref a4 :: .ref a5 :: .ref a6 :: .ref a7 :: .int 0 :: .ref a8 :: .int 0 :: .ref a9 :: .ref a10 :: .int 1 :: .ref a11 :: .int 0 :: .ref a12 :: .int 0 :: .int 0 :: .null :: .int 0 :: .int 0 :: .int 0 :: .int 0 :: .ref a13 :: .ref a14 :: .ref a15 :: .int (-1) :: .int 0 :: .int 0 :: .int 0 :: .int 0 :: .int 0 :: .int 0 :: .int 0 :: .ref a16 :: .int 0 :: .ref a17 :: .int 0 :: .ref a18 :: .ref a19 :: .int 0 :: .int 0 :: .int 0 :: .int 0 :: .ref a20 :: .ref a21 :: .ref a22 :: .ref a23 :: .ref a24 :: .ref a25 :: .ref a26 :: .ref a27 :: .ref a28 :: .int 0 :: .ref a29 :: .ref a30 :: .ref a31 :: .long 0 :: .int 0 :: .int 0 :: .int 0 :: .long 0 :: .int 0 :: .ref a32 :: .int 0 :: .int 0 :: .int 0 :: .int 0 :: .ref a33 :: .ref a34 :: .ref a35 :: [])))] sz) := by
  refine nm_ofW (D := D) (y := y) (E := nT) (yy := yX12_town) (wsy := wsX12_town) (rm := { frames := 3, cells := 0, slots := 0, locals := 223 }) (as := [.ref a0]) (ws := [(a0, .inr (12, (.int 0 :: .ref a1 :: .ref a2 :: .ref a3 :: .ref a4 :: .ref a5 :: .ref a6 :: .ref a7 :: .int 0 :: .ref a8 :: .int 0 :: .ref a9 :: .ref a10 :: .int 1 :: .ref a11 :: .int 0 :: .ref a12 :: .int 0 :: .int 0 :: .null :: .int 0 :: .int 0 :: .int 0 :: .int 0 :: .ref a13 :: .ref a14 :: .ref a15 :: .int (-1) :: .int 0 :: .int 0 :: .int 0 :: .int 0 :: .int 0 :: .int 0 :: .int 0 :: .ref a16 :: .int 0 :: .ref a17 :: .int 0 :: .ref a18 :: .ref a19 :: .int 0 :: .int 0 :: .int 0 :: .int 0 :: .ref a20 :: .ref a21 :: .ref a22 :: .ref a23 :: .ref a24 :: .ref a25 :: .ref a26 :: .ref a27 :: .ref a28 :: .int 0 :: .ref a29 :: .ref a30 :: .ref a31 :: .long 0 :: .int 0 :: .int 0 :: .int 0 :: .long 0 :: .int 0 :: .ref a32 :: .int 0 :: .int 0 :: .int 0 :: .int 0 :: .ref a33 :: .ref a34 :: .ref a35 :: [])))]) (sz := sz) (mc := 0) (ms := 0) (Qc := fun A => nQi D y (fun r _ => r = 0) (fun u => [(a0, .inr (12, (.int 0 :: .ref a1 :: .ref a2 :: .ref a3 :: .ref a4 :: .ref a5 :: .ref a6 :: .ref a7 :: .int 0 :: .ref a8 :: .int 0 :: .ref a9 :: .ref a10 :: .int 1 :: .ref a11 :: .int 0 :: .ref a12 :: .int 0 :: .int 0 :: .ref a11 :: .int 0 :: .int 76 :: .int 0 :: .int (-1) :: .ref a13 :: .ref a14 :: .ref a15 :: .int (-1) :: .int 0 :: .int 0 :: .int 0 :: .int 0 :: .int 0 :: .int 0 :: .int 0 :: .ref a16 :: .int 0 :: .ref a17 :: .int 0 :: .ref a18 :: .ref a19 :: .int 0 :: .int 0 :: .int 0 :: .int 0 :: .ref a20 :: .ref a21 :: .ref a22 :: .ref a23 :: .ref a24 :: .ref a25 :: .ref a26 :: .ref a27 :: .ref a28 :: .int 0 :: .ref a29 :: .ref a30 :: .ref a31 :: .long 0 :: .int 0 :: .int 0 :: .int 0 :: .long 0 :: .int 0 :: .ref a32 :: .int 0 :: .int 0 :: .int 0 :: .int 0 :: .ref a33 :: .ref a34 :: .ref a35 :: [])))]) A) (cc := cX12_town) (maxL := 7) (ret := (some .int)) (by decide +kernel) rfl (Nat.le_of_ble_eq_true rfl) ?_
  intro p e s m below meth c A ls H hx hb hr hml hts hown hlocks hnm hsz hP hK hD hA hS hE hAe hl
  replace hl : lv_has ls 7 [(0, .ref a0)] := hl
  have hown : s.vm.findClass RX12 = some m.cls := hown
  have w_0 := hts (.fieldLink RX12 127 "SoldToBehindModel" "thrown" "I") (gt_k wd_6_211)
  have w_1 := hts (.fieldLink RX12 45 "SoldToBehindModel" "text" "[B") (gt_k wd_6_207)
  have w_2 := hts (.fieldLink RX12 151 "SoldToBehindModel" "typed" "I") (gt_k wd_6_208)
  have w_3 := hts (.fieldLink RX12 157 "SoldToBehindModel" "size" "I") (gt_k wd_6_213)
  refine lv_aload_n hx hb dX12_town_0 rfl (lv_at hl 0 rfl) ?_
  refine lv_iconst (v := 0) hx hb dX12_town_1 (by decide +kernel) ?_
  refine nb_put (D := D) (ci := 12) (v := .int 0) (ty := .int) (C := RX12) (T := TX12) (N := 72) (ws' := [(a0, .inr (12, (.int 0 :: .ref a1 :: .ref a2 :: .ref a3 :: .ref a4 :: .ref a5 :: .ref a6 :: .ref a7 :: .int 0 :: .ref a8 :: .int 0 :: .ref a9 :: .ref a10 :: .int 1 :: .ref a11 :: .int 0 :: .ref a12 :: .int 0 :: .int 0 :: .null :: .int 0 :: .int 0 :: .int 0 :: .int 0 :: .ref a13 :: .ref a14 :: .ref a15 :: .int (-1) :: .int 0 :: .int 0 :: .int 0 :: .int 0 :: .int 0 :: .int 0 :: .int 0 :: .ref a16 :: .int 0 :: .ref a17 :: .int 0 :: .ref a18 :: .ref a19 :: .int 0 :: .int 0 :: .int 0 :: .int 0 :: .ref a20 :: .ref a21 :: .ref a22 :: .ref a23 :: .ref a24 :: .ref a25 :: .ref a26 :: .ref a27 :: .ref a28 :: .int 0 :: .ref a29 :: .ref a30 :: .ref a31 :: .long 0 :: .int 0 :: .int 0 :: .int 0 :: .long 0 :: .int 0 :: .ref a32 :: .int 0 :: .int 0 :: .int 0 :: .int 0 :: .ref a33 :: .ref a34 :: .ref a35 :: [])))]) hx hb hts (gt_c iG_X12) tyX12 tyX12_ok nmX12 hown hK hP hD hS 0 rfl rfl 18 (by decide +kernel) w_0 (fun _ h9 => h9) rfl (by decide +kernel) rfl rfl (Nat.le_of_ble_eq_true rfl) rfl dX12_town_2 (fun H locs hP hD hS => ?_)
  refine lv_aload_n hx hb dX12_town_5 rfl (lv_at hl 0 rfl) ?_
  refine lv_aload_n hx hb dX12_town_6 rfl (lv_at hl 0 rfl) ?_
  refine va_get (D := D) (ci := 12) (v := .ref a11) (C := RX12) (T := TX12) (N := 72) hx hb hts (gt_c iG_X12) hown hK hP 0 rfl rfl 14 (by decide +kernel) w_1 (fun _ h9 => h9) rfl dX12_town_7 ?_
  refine lv_aload_n hx hb dX12_town_10 rfl (lv_at hl 0 rfl) ?_
  refine va_get (D := D) (ci := 12) (v := .int 0) (C := RX12) (T := TX12) (N := 72) hx hb hts (gt_c iG_X12) hown hK hP 0 rfl rfl 15 (by decide +kernel) w_2 (fun _ h9 => h9) rfl dX12_town_11 ?_
  refine lv_bipush (v := 76) hx hb dX12_town_14 (by decide +kernel) ?_
  refine nj_v (ws := [(a0, .inr (12, (.int 0 :: .ref a1 :: .ref a2 :: .ref a3 :: .ref a4 :: .ref a5 :: .ref a6 :: .ref a7 :: .int 0 :: .ref a8 :: .int 0 :: .ref a9 :: .ref a10 :: .int 1 :: .ref a11 :: .int 0 :: .ref a12 :: .int 0 :: .int 0 :: .null :: .int 0 :: .int 0 :: .int 0 :: .int 0 :: .ref a13 :: .ref a14 :: .ref a15 :: .int (-1) :: .int 0 :: .int 0 :: .int 0 :: .int 0 :: .int 0 :: .int 0 :: .int 0 :: .ref a16 :: .int 0 :: .ref a17 :: .int 0 :: .ref a18 :: .ref a19 :: .int 0 :: .int 0 :: .int 0 :: .int 0 :: .ref a20 :: .ref a21 :: .ref a22 :: .ref a23 :: .ref a24 :: .ref a25 :: .ref a26 :: .ref a27 :: .ref a28 :: .int 0 :: .ref a29 :: .ref a30 :: .ref a31 :: .long 0 :: .int 0 :: .int 0 :: .int 0 :: .long 0 :: .int 0 :: .ref a32 :: .int 0 :: .int 0 :: .int 0 :: .int 0 :: .ref a33 :: .ref a34 :: .ref a35 :: [])))]) (wc := [(a0, .inr (12, (.int 0 :: .ref a1 :: .ref a2 :: .ref a3 :: .ref a4 :: .ref a5 :: .ref a6 :: .ref a7 :: .int 0 :: .ref a8 :: .int 0 :: .ref a9 :: .ref a10 :: .int 1 :: .ref a11 :: .int 0 :: .ref a12 :: .int 0 :: .int 0 :: .null :: .int 0 :: .int 0 :: .int 0 :: .int 0 :: .ref a13 :: .ref a14 :: .ref a15 :: .int (-1) :: .int 0 :: .int 0 :: .int 0 :: .int 0 :: .int 0 :: .int 0 :: .int 0 :: .ref a16 :: .int 0 :: .ref a17 :: .int 0 :: .ref a18 :: .ref a19 :: .int 0 :: .int 0 :: .int 0 :: .int 0 :: .ref a20 :: .ref a21 :: .ref a22 :: .ref a23 :: .ref a24 :: .ref a25 :: .ref a26 :: .ref a27 :: .ref a28 :: .int 0 :: .ref a29 :: .ref a30 :: .ref a31 :: .long 0 :: .int 0 :: .int 0 :: .int 0 :: .long 0 :: .int 0 :: .ref a32 :: .int 0 :: .int 0 :: .int 0 :: .int 0 :: .ref a33 :: .ref a34 :: .ref a35 :: [])))]) (wr := []) (nr_V (As := [.ref a11, .int 0, .int 76]) (rest := []) ⟨hx, hb, hml, hown, hts⟩ (cX12_begin_1 l D y a0 a11 a1 a2 a3 a4 a5 a6 a7 a8 a9 a10 a12 a13 a14 a15 a16 a17 a18 a19 a20 a21 a22 a23 a24 a25 a26 a27 a28 a29 a30 a31 a32 a33 a34 a35 H.size) (cwV 3 hts gX12_town_X12_begin rfl rfl rfl (by decide +kernel) ⟨Nat.le_of_ble_eq_true rfl, Nat.le_of_ble_eq_true rfl⟩) hK hP hD hE [0] rfl (by decide +kernel) 0 12 rfl rfl rfl rfl rfl hl.1 rfl (lv_room (Nat.le_of_ble_eq_true rfl)) dX12_town_16 ⟨Nat.le_of_ble_eq_true rfl, Nat.le_of_ble_eq_true rfl⟩) hP hD hS hA [0] [] rfl rfl (by decide +kernel) (by decide +kernel) (fun u1 H locs _ hP hD hS => ?_)
  refine lv_aload_n hx hb dX12_town_19 rfl (lv_at hl 0 rfl) ?_
  refine lv_iconst (v := 0) hx hb dX12_town_20 (by decide +kernel) ?_
  refine nb_put (D := D) (ci := 12) (v := .int 0) (ty := .int) (C := RX12) (T := TX12) (N := 72) (ws' := [(a0, .inr (12, (.int 0 :: .ref a1 :: .ref a2 :: .ref a3 :: .ref a4 :: .ref a5 :: .ref a6 :: .ref a7 :: .int 0 :: .ref a8 :: .int 0 :: .ref a9 :: .ref a10 :: .int 1 :: .ref a11 :: .int 0 :: .ref a12 :: .int 0 :: .int 0 :: .ref a11 :: .int 0 :: .int 76 :: .int 0 :: .int (-1) :: .ref a13 :: .ref a14 :: .ref a15 :: .int (-1) :: .int 0 :: .int 0 :: .int 0 :: .int 0 :: .int 0 :: .int 0 :: .int 0 :: .ref a16 :: .int 0 :: .ref a17 :: .int 0 :: .ref a18 :: .ref a19 :: .int 0 :: .int 0 :: .int 0 :: .int 0 :: .ref a20 :: .ref a21 :: .ref a22 :: .ref a23 :: .ref a24 :: .ref a25 :: .ref a26 :: .ref a27 :: .ref a28 :: .int 0 :: .ref a29 :: .ref a30 :: .ref a31 :: .long 0 :: .int 0 :: .int 0 :: .int 0 :: .long 0 :: .int 0 :: .ref a32 :: .int 0 :: .int 0 :: .int 0 :: .int 0 :: .ref a33 :: .ref a34 :: .ref a35 :: [])))]) hx hb hts (gt_c iG_X12) tyX12 tyX12_ok nmX12 hown hK hP hD hS 0 rfl rfl 15 (by decide +kernel) w_2 (fun _ h9 => h9) rfl (by decide +kernel) rfl rfl (Nat.le_of_ble_eq_true rfl) rfl dX12_town_21 (fun H locs hP hD hS => ?_)
  refine lv_aload_n hx hb dX12_town_24 rfl (lv_at hl 0 rfl) ?_
  refine va_get (D := D) (ci := 12) (v := .int 0) (C := RX12) (T := TX12) (N := 72) hx hb hts (gt_c iG_X12) hown hK hP 0 rfl rfl 20 (by decide +kernel) w_3 (fun _ h9 => h9) rfl dX12_town_25 ?_
  refine lv_if_ne (tgt := 33) hx hb dX12_town_28 (by decide +kernel) (fun c => absurd (by decide +kernel) c) (fun _ => ?_)
  refine lv_iconst (v := 0) hx hb dX12_town_31 (by decide +kernel) ?_
  refine W.widen (k := 0) (n := 0) (Nat.le_of_ble_eq_true rfl) (Nat.le_of_ble_eq_true rfl) ?_
  exact W.iret (v := 0) hx hb hr (fun t ht hW => ⟨⟨0, (fun _ => 0), rfl, rfl, by rw [ht]; exact hP, va_K.moved hW.alike hK, hD⟩, hS.F ht⟩) hS.2.2 dX12_town_32 hlocks
set_option maxRecDepth 100000 in
set_option maxHeartbeats 4000000 in
theorem cX11_rule_1 (l : Launch) (D : va_G) (y : Nat → ClassId) (a0 : Nat) (n0 : Int32) (hn0h : n0 ≤ (-1)) (a1 : Nat) (a2 : Nat) (a3 : Nat) (a4 : Nat) (a5 : Nat) (a6 : Nat) (a7 : Nat) (a8 : Nat) (a9 : Nat) (a10 : Nat) (a11 : Nat) (a12 : Nat) (a13 : Nat) (a14 : Nat) (a15 : Nat) (sz : Nat) : Met l yX11_rule wsX11_rule { frames := 3, cells := 0, slots := 0, locals := 221 } (nPc D y nT [.ref a0, .int n0] [(a0, .inr (11, [.ref a1, .ref a2, .ref a3, .ref a4, .ref a5, .ref a6, .ref a7, .ref a8, .ref a9, .ref a10, .ref a11, .ref a12, .ref a13, .ref a14, .int 1, .null, .int 0])), (a1, .inr (8, [.ref a15, .int 0]))] sz) ((fun A => nQi D y (fun r _ => r = (-100)) (fun u => [(a0, .inr (11, [.ref a1, .ref a2, .ref a3, .ref a4, .ref a5, .ref a6, .ref a7, .ref a8, .ref a9, .ref a10, .ref a11, .ref a12, .ref a13, .ref a14, .int 1, .null, .int 0])), (a1, .inr (8, [.ref a15, .int 0]))]) A) (va_A [(a0, .inr (11, [.ref a1, .ref a2, .ref a3, .ref a4, .ref a5, .ref a6, .ref a7, .ref a8, .ref a9, .ref a10, .ref a11, .ref a12, .ref a13, .ref a14, .int 1, .null, .int 0])), (a1, .inr (8, [.ref a15, .int 0]))] sz)) 0 0 (va_A [(a0, .inr (11, [.ref a1, .ref a2, .ref a3, .ref a4, .ref a5, .ref a6, .ref a7, .ref a8, .ref a9, .ref a10, .ref a11, .ref a12, .ref a13, .ref a14, .int 1, .null, .int 0])), (a1, .inr (8, [.ref a15, .int 0]))] sz) := by
  refine nm_ofW (D := D) (y := y) (E := nT) (yy := yX11_rule) (wsy := wsX11_rule) (rm := { frames := 3, cells := 0, slots := 0, locals := 221 }) (as := [.ref a0, .int n0]) (ws := [(a0, .inr (11, [.ref a1, .ref a2, .ref a3, .ref a4, .ref a5, .ref a6, .ref a7, .ref a8, .ref a9, .ref a10, .ref a11, .ref a12, .ref a13, .ref a14, .int 1, .null, .int 0])), (a1, .inr (8, [.ref a15, .int 0]))]) (sz := sz) (mc := 0) (ms := 0) (Qc := fun A => nQi D y (fun r _ => r = (-100)) (fun u => [(a0, .inr (11, [.ref a1, .ref a2, .ref a3, .ref a4, .ref a5, .ref a6, .ref a7, .ref a8, .ref a9, .ref a10, .ref a11, .ref a12, .ref a13, .ref a14, .int 1, .null, .int 0])), (a1, .inr (8, [.ref a15, .int 0]))]) A) (cc := cX11_rule) (maxL := 4) (ret := (some .int)) (by decide +kernel) rfl (Nat.le_of_ble_eq_true rfl) ?_
  intro p e s m below meth c A ls H hx hb hr hml hts hown hlocks hnm hsz hP hK hD hA hS hE hAe hl
  replace hl : lv_has ls 4 [(0, .ref a0), (1, .int n0)] := hl
  have hown : s.vm.findClass RX11 = some m.cls := hown
  have w_0 := hts (.fieldLink RX11 10 "SoldToBehind" "text" "LSoldToBehind$Text;") (gt_k wd_2_98)
  refine lv_iload_n hx hb dX11_rule_0 rfl (lv_at hl 1 rfl) ?_
  refine lv_if_lt (tgt := 13) hx hb dX11_rule_1 (by decide +kernel) (fun _ => ?_) (fun c => absurd (q_lt hn0h (by decide +kernel)) c)
  refine lv_iconst (v := 0) hx hb dX11_rule_13 (by decide +kernel) ?_
  refine lv_istore_n (lv' := [(2, .int 0), (0, .ref a0), (1, .int n0)]) hx hb dX11_rule_14 rfl hl (by decide +kernel) rfl (fun ls hl => ?_)
  refine lv_iload_n hx hb dX11_rule_15 rfl (lv_at hl 0 rfl) ?_
  refine lv_if_eq (tgt := 33) hx hb dX11_rule_16 (by decide +kernel) (fun _ => ?_) (fun c => absurd (by decide +kernel) c)
  refine lv_iconst (v := (-1)) hx hb dX11_rule_33 (by decide +kernel) ?_
  refine lv_istore_n (lv' := [(3, .int (-1)), (2, .int 0), (0, .ref a0), (1, .int n0)]) hx hb dX11_rule_34 rfl hl (by decide +kernel) rfl (fun ls hl => ?_)
  refine lv_aload_n hx hb dX11_rule_35 rfl (lv_at hl 2 rfl) ?_
  refine va_get (D := D) (ci := 11) (v := .ref a1) (C := RX11) (T := TX11) (N := 17) hx hb hts (gt_c iG_X11) hown hK hP 0 rfl rfl 0 (by decide +kernel) w_0 (fun _ h9 => h9) rfl dX11_rule_36 ?_
  refine lv_iconst (v := 0) hx hb dX11_rule_39 (by decide +kernel) ?_
  refine nj_i (ws := [(a0, .inr (11, [.ref a1, .ref a2, .ref a3, .ref a4, .ref a5, .ref a6, .ref a7, .ref a8, .ref a9, .ref a10, .ref a11, .ref a12, .ref a13, .ref a14, .int 1, .null, .int 0])), (a1, .inr (8, [.ref a15, .int 0]))]) (wc := [(a1, .inr (8, [.ref a15, .int 0]))]) (wr := [(a0, .inr (11, [.ref a1, .ref a2, .ref a3, .ref a4, .ref a5, .ref a6, .ref a7, .ref a8, .ref a9, .ref a10, .ref a11, .ref a12, .ref a13, .ref a14, .int 1, .null, .int 0]))]) (nr_V (As := [.int 0]) (rest := []) ⟨hx, hb, hml, hown, hts⟩ (cX8_cut_2 l D y a1 a15 H.size) (cwV 1 hts gX11_rule_X8_cut rfl rfl rfl (by decide +kernel) ⟨Nat.le_of_ble_eq_true rfl, Nat.le_of_ble_eq_true rfl⟩) hK hP hD hE [1] rfl (by decide +kernel) 0 8 rfl rfl rfl rfl rfl hl.1 rfl (lv_room (Nat.le_of_ble_eq_true rfl)) dX11_rule_40 ⟨Nat.le_of_ble_eq_true rfl, Nat.le_of_ble_eq_true rfl⟩) hP hD hS hA [1] [0] rfl rfl (by decide +kernel) (by decide +kernel) (fun r2 u1 H locs er2 hP hD hS => ?_)
  subst er2
  refine lv_pop hx hb dX11_rule_43 rfl ?_
  refine lv_iload_n hx hb dX11_rule_44 rfl (lv_at hl 1 rfl) ?_
  refine lv_if_ne (tgt := 51) hx hb dX11_rule_45 (by decide +kernel) (fun c => absurd (by decide +kernel) c) (fun _ => ?_)
  refine lv_bipush (v := (-100)) hx hb dX11_rule_48 (by decide +kernel) ?_
  refine W.widen (k := 0) (n := 0) (Nat.le_of_ble_eq_true rfl) (Nat.le_of_ble_eq_true rfl) ?_
  exact W.iret (v := (-100)) hx hb hr (fun t ht hW => ⟨⟨(-100), (fun _ => 0), rfl, rfl, by rw [ht]; exact hP, va_K.moved hW.alike hK, hD⟩, hS.F ht⟩) hS.2.2 dX11_rule_50 hlocks
set_option maxRecDepth 100000 in
set_option maxHeartbeats 4000000 in
theorem cX6_settle_1 (l : Launch) (D : va_G) (y : Nat → ClassId) (a0 : Nat) (a1 : Nat) (a2 : Nat) (sz : Nat) : Met l yX6_settle wsX6_settle { frames := 2, cells := 0, slots := 0, locals := 200 } (nPc D y nT [.ref a0, .int 1] [(a0, .inr (6, [.ref a1, .ref a2, .int 0, .int 0, .int 0, .int 0, .int 1]))] sz) ((fun A => nQv D y (fun _ => True) (fun u => [(a0, .inr (6, [.ref a1, .ref a2, .int 0, .int 0, .int 0, .int 0, .int 1]))]) A) (va_A [(a0, .inr (6, [.ref a1, .ref a2, .int 0, .int 0, .int 0, .int 0, .int 1]))] sz)) 0 0 (va_A [(a0, .inr (6, [.ref a1, .ref a2, .int 0, .int 0, .int 0, .int 0, .int 1]))] sz) := by
  refine nm_ofW (D := D) (y := y) (E := nT) (yy := yX6_settle) (wsy := wsX6_settle) (rm := { frames := 2, cells := 0, slots := 0, locals := 200 }) (as := [.ref a0, .int 1]) (ws := [(a0, .inr (6, [.ref a1, .ref a2, .int 0, .int 0, .int 0, .int 0, .int 1]))]) (sz := sz) (mc := 0) (ms := 0) (Qc := fun A => nQv D y (fun _ => True) (fun u => [(a0, .inr (6, [.ref a1, .ref a2, .int 0, .int 0, .int 0, .int 0, .int 1]))]) A) (cc := cX6_settle) (maxL := 2) (ret := none) (by decide +kernel) rfl (Nat.le_of_ble_eq_true rfl) ?_
  intro p e s m below meth c A ls H hx hb hr hml hts hown hlocks hnm hsz hP hK hD hA hS hE hAe hl
  replace hl : lv_has ls 2 [(0, .ref a0), (1, .int 1)] := hl
  have hown : s.vm.findClass RX6 = some m.cls := hown
  have w_0 := hts (.fieldLink RX6 22 "SoldToBehind$RuleReader" "waits" "I") (gt_k wd_1_180)
  refine lv_aload_n hx hb dX6_settle_0 rfl (lv_at hl 0 rfl) ?_
  refine va_get (D := D) (ci := 6) (v := .int 0) (C := RX6) (T := TX6) (N := 7) hx hb hts (gt_c iG_X6) hown hK hP 0 rfl rfl 2 (by decide +kernel) w_0 (fun _ h9 => h9) rfl dX6_settle_1 ?_
  refine lv_if_le (tgt := 58) hx hb dX6_settle_4 (by decide +kernel) (fun _ => ?_) (fun c => absurd (by decide +kernel) c)
  refine W.widen (k := 0) (n := 0) (Nat.le_of_ble_eq_true rfl) (Nat.le_of_ble_eq_true rfl) ?_
  exact W.vret hx hb hr (fun t ht hW => ⟨⟨(fun _ => 0), rfl, trivial, by rw [ht]; exact hP, va_K.moved hW.alike hK, hD⟩, hS.F ht⟩) hS.2.2 dX6_settle_58 hlocks
set_option maxRecDepth 100000 in
set_option maxHeartbeats 4000000 in
theorem cX6_read_1 (l : Launch) (D : va_G) (y : Nat → ClassId) (a0 : Nat) (a1 : Nat) (a2 : Nat) (a3 : Nat) (a4 : Nat) (a5 : Nat) (sz : Nat) : Met l yX6_read wsX6_read { frames := 3, cells := 0, slots := 0, locals := 221 } (nPc D y nT [.ref a0, .ref a1] [(a0, .inr (6, [.ref a2, .ref a3, .int 0, .int 0, .int 0, .int 0, .int 1])), (a2, .inr (0, [.ref a4, .int 0])), (a1, .inr (8, [.ref a5, .int 0]))] sz) ((fun A => nQi D y (fun r _ => r = (-1)) (fun u => [(a2, .inr (0, [.ref a4, .int 0])), (a1, .inr (8, [.ref a5, .int 0])), (a0, .inr (6, [.ref a2, .ref a3, .int 0, .int 0, .int 0, .int 0, .int 1]))]) A) (va_A [(a0, .inr (6, [.ref a2, .ref a3, .int 0, .int 0, .int 0, .int 0, .int 1])), (a2, .inr (0, [.ref a4, .int 0])), (a1, .inr (8, [.ref a5, .int 0]))] sz)) 0 0 (va_A [(a0, .inr (6, [.ref a2, .ref a3, .int 0, .int 0, .int 0, .int 0, .int 1])), (a2, .inr (0, [.ref a4, .int 0])), (a1, .inr (8, [.ref a5, .int 0]))] sz) := by
  refine nm_ofW (D := D) (y := y) (E := nT) (yy := yX6_read) (wsy := wsX6_read) (rm := { frames := 3, cells := 0, slots := 0, locals := 221 }) (as := [.ref a0, .ref a1]) (ws := [(a0, .inr (6, [.ref a2, .ref a3, .int 0, .int 0, .int 0, .int 0, .int 1])), (a2, .inr (0, [.ref a4, .int 0])), (a1, .inr (8, [.ref a5, .int 0]))]) (sz := sz) (mc := 0) (ms := 0) (Qc := fun A => nQi D y (fun r _ => r = (-1)) (fun u => [(a2, .inr (0, [.ref a4, .int 0])), (a1, .inr (8, [.ref a5, .int 0])), (a0, .inr (6, [.ref a2, .ref a3, .int 0, .int 0, .int 0, .int 0, .int 1]))]) A) (cc := cX6_read) (maxL := 5) (ret := (some .int)) (by decide +kernel) rfl (Nat.le_of_ble_eq_true rfl) ?_
  intro p e s m below meth c A ls H hx hb hr hml hts hown hlocks hnm hsz hP hK hD hA hS hE hAe hl
  replace hl : lv_has ls 5 [(0, .ref a0), (1, .ref a1)] := hl
  have hown : s.vm.findClass RX6 = some m.cls := hown
  have w_0 := hts (.fieldLink RX6 12 "SoldToBehind$RuleReader" "draft" "LSoldToBehind$Formula;") (gt_k wd_1_177)
  have w_1 := hts (.fieldLink RX6 39 "SoldToBehind$Formula" "size" "I") (gt_k wd_1_87)
  have w_2 := hts (.fieldLink RX6 22 "SoldToBehind$RuleReader" "waits" "I") (gt_k wd_1_180)
  have w_3 := hts (.fieldLink RX6 26 "SoldToBehind$RuleReader" "depth" "I") (gt_k wd_1_181)
  have w_4 := hts (.fieldLink RX6 29 "SoldToBehind$RuleReader" "compared" "I") (gt_k wd_1_182)
  have w_5 := hts (.fieldLink RX6 32 "SoldToBehind$RuleReader" "digits" "I") (gt_k wd_1_183)
  have w_6 := hts (.fieldLink RX6 35 "SoldToBehind$RuleReader" "wantsThing" "Z") (gt_k wd_1_184)
  have w_7 := hts (.fieldLink RX6 42 "SoldToBehind$Text" "size" "I") (gt_k wd_1_47)
  have w_8 := hts (.methodLink RX6 45 Lib.Math.min.name) (gt_k wd_3_18)
  have w_9 := hts (.static Lib.Math.min.name) (gt_k wd_2_178)
  have w_10 := hts (.initialized "java/lang/Math") (gt_k wd_1_14)
  have w_11 := hts (.code Lib.Math.min.name Lib.Math.min.code 2 (some .int)) (gt_k wd_2_179)
  refine lv_aload_n hx hb dX6_read_0 rfl (lv_at hl 0 rfl) ?_
  refine va_get (D := D) (ci := 6) (v := .ref a2) (C := RX6) (T := TX6) (N := 7) hx hb hts (gt_c iG_X6) hown hK hP 0 rfl rfl 0 (by decide +kernel) w_0 (fun _ h9 => h9) rfl dX6_read_1 ?_
  refine lv_iconst (v := 0) hx hb dX6_read_4 (by decide +kernel) ?_
  refine nb_put (D := D) (ci := 0) (v := .int 0) (ty := .int) (C := RX0) (T := TX0) (N := 2) (ws' := [(a0, .inr (6, [.ref a2, .ref a3, .int 0, .int 0, .int 0, .int 0, .int 1])), (a2, .inr (0, [.ref a4, .int 0])), (a1, .inr (8, [.ref a5, .int 0]))]) hx hb hts (gt_c iG_X0) tyX0 tyX0_ok nmX0 hown hK hP hD hS 1 rfl rfl 1 (by decide +kernel) w_1 (fun _ h9 => h9) rfl (by decide +kernel) rfl rfl (Nat.le_of_ble_eq_true rfl) rfl dX6_read_5 (fun H locs hP hD hS => ?_)
  refine lv_aload_n hx hb dX6_read_8 rfl (lv_at hl 0 rfl) ?_
  refine lv_iconst (v := 0) hx hb dX6_read_9 (by decide +kernel) ?_
  refine nb_put (D := D) (ci := 6) (v := .int 0) (ty := .int) (C := RX6) (T := TX6) (N := 7) (ws' := [(a0, .inr (6, [.ref a2, .ref a3, .int 0, .int 0, .int 0, .int 0, .int 1])), (a2, .inr (0, [.ref a4, .int 0])), (a1, .inr (8, [.ref a5, .int 0]))]) hx hb hts (gt_c iG_X6) tyX6 tyX6_ok nmX6 hown hK hP hD hS 0 rfl rfl 2 (by decide +kernel) w_2 (fun _ h9 => h9) rfl (by decide +kernel) rfl rfl (Nat.le_of_ble_eq_true rfl) rfl dX6_read_10 (fun H locs hP hD hS => ?_)
  refine lv_aload_n hx hb dX6_read_13 rfl (lv_at hl 0 rfl) ?_
  refine lv_iconst (v := 0) hx hb dX6_read_14 (by decide +kernel) ?_
  refine nb_put (D := D) (ci := 6) (v := .int 0) (ty := .int) (C := RX6) (T := TX6) (N := 7) (ws' := [(a0, .inr (6, [.ref a2, .ref a3, .int 0, .int 0, .int 0, .int 0, .int 1])), (a2, .inr (0, [.ref a4, .int 0])), (a1, .inr (8, [.ref a5, .int 0]))]) hx hb hts (gt_c iG_X6) tyX6 tyX6_ok nmX6 hown hK hP hD hS 0 rfl rfl 3 (by decide +kernel) w_3 (fun _ h9 => h9) rfl (by decide +kernel) rfl rfl (Nat.le_of_ble_eq_true rfl) rfl dX6_read_15 (fun H locs hP hD hS => ?_)
  refine lv_aload_n hx hb dX6_read_18 rfl (lv_at hl 0 rfl) ?_
  refine lv_iconst (v := 0) hx hb dX6_read_19 (by decide +kernel) ?_
  refine nb_put (D := D) (ci := 6) (v := .int 0) (ty := .int) (C := RX6) (T := TX6) (N := 7) (ws' := [(a0, .inr (6, [.ref a2, .ref a3, .int 0, .int 0, .int 0, .int 0, .int 1])), (a2, .inr (0, [.ref a4, .int 0])), (a1, .inr (8, [.ref a5, .int 0]))]) hx hb hts (gt_c iG_X6) tyX6 tyX6_ok nmX6 hown hK hP hD hS 0 rfl rfl 4 (by decide +kernel) w_4 (fun _ h9 => h9) rfl (by decide +kernel) rfl rfl (Nat.le_of_ble_eq_true rfl) rfl dX6_read_20 (fun H locs hP hD hS => ?_)
  refine lv_aload_n hx hb dX6_read_23 rfl (lv_at hl 0 rfl) ?_
  refine lv_iconst (v := 0) hx hb dX6_read_24 (by decide +kernel) ?_
  refine nb_put (D := D) (ci := 6) (v := .int 0) (ty := .int) (C := RX6) (T := TX6) (N := 7) (ws' := [(a0, .inr (6, [.ref a2, .ref a3, .int 0, .int 0, .int 0, .int 0, .int 1])), (a2, .inr (0, [.ref a4, .int 0])), (a1, .inr (8, [.ref a5, .int 0]))]) hx hb hts (gt_c iG_X6) tyX6 tyX6_ok nmX6 hown hK hP hD hS 0 rfl rfl 5 (by decide +kernel) w_5 (fun _ h9 => h9) rfl (by decide +kernel) rfl rfl (Nat.le_of_ble_eq_true rfl) rfl dX6_read_25 (fun H locs hP hD hS => ?_)
  refine lv_aload_n hx hb dX6_read_28 rfl (lv_at hl 0 rfl) ?_
  refine lv_iconst (v := 1) hx hb dX6_read_29 (by decide +kernel) ?_
  refine nb_put (D := D) (ci := 6) (v := .int 1) (ty := .boolean) (C := RX6) (T := TX6) (N := 7) (ws' := [(a0, .inr (6, [.ref a2, .ref a3, .int 0, .int 0, .int 0, .int 0, .int 1])), (a2, .inr (0, [.ref a4, .int 0])), (a1, .inr (8, [.ref a5, .int 0]))]) hx hb hts (gt_c iG_X6) tyX6 tyX6_ok nmX6 hown hK hP hD hS 0 rfl rfl 6 (by decide +kernel) w_6 (fun _ h9 => h9) rfl (by decide +kernel) rfl rfl (Nat.le_of_ble_eq_true rfl) rfl dX6_read_30 (fun H locs hP hD hS => ?_)
  refine lv_aload_n hx hb dX6_read_33 rfl (lv_at hl 1 rfl) ?_
  refine va_get (D := D) (ci := 8) (v := .int 0) (C := RX8) (T := TX8) (N := 2) hx hb hts (gt_c iG_X8) hown hK hP 2 rfl rfl 1 (by decide +kernel) w_7 (fun _ h9 => h9) rfl dX6_read_34 ?_
  refine lv_bipush (v := 40) hx hb dX6_read_37 (by decide +kernel) ?_
  refine va_mmin hx hb (by rw [hml]; exact hl.1.symm) hown w_8 w_9 w_10 w_11 (Nat.le_of_ble_eq_true rfl) (Nat.le_of_ble_eq_true rfl) (Nat.le_of_ble_eq_true rfl) (Nat.le_of_ble_eq_true rfl) dX6_read_39 ?_
  refine nv_i (v := 0) (by decide +kernel) ?_
  refine lv_istore_n (lv' := [(2, .int 0), (0, .ref a0), (1, .ref a1)]) hx hb dX6_read_42 rfl hl (by decide +kernel) rfl (fun ls hl => ?_)
  refine lv_iconst (v := 0) hx hb dX6_read_43 (by decide +kernel) ?_
  refine lv_istore_n (lv' := [(3, .int 0), (2, .int 0), (0, .ref a0), (1, .ref a1)]) hx hb dX6_read_44 rfl hl (by decide +kernel) rfl (fun ls hl => ?_)
  refine lv_iload_n hx hb dX6_read_45 rfl (lv_at hl 0 rfl) ?_
  refine lv_iload_n hx hb dX6_read_46 rfl (lv_at hl 1 rfl) ?_
  refine lv_icmp_ge (tgt := 95) hx hb dX6_read_47 (by decide +kernel) (fun _ => ?_) (fun c => absurd (by decide +kernel) c)
  refine lv_aload_n hx hb dX6_read_95 rfl (lv_at hl 3 rfl) ?_
  refine va_get (D := D) (ci := 8) (v := .int 0) (C := RX8) (T := TX8) (N := 2) hx hb hts (gt_c iG_X8) hown hK hP 2 rfl rfl 1 (by decide +kernel) w_7 (fun _ h9 => h9) rfl dX6_read_96 ?_
  refine lv_bipush (v := 40) hx hb dX6_read_99 (by decide +kernel) ?_
  refine lv_icmp_le (tgt := 107) hx hb dX6_read_101 (by decide +kernel) (fun _ => ?_) (fun c => absurd (by decide +kernel) c)
  refine lv_aload_n hx hb dX6_read_107 rfl (lv_at hl 3 rfl) ?_
  refine va_get (D := D) (ci := 8) (v := .int 0) (C := RX8) (T := TX8) (N := 2) hx hb hts (gt_c iG_X8) hown hK hP 2 rfl rfl 1 (by decide +kernel) w_7 (fun _ h9 => h9) rfl dX6_read_108 ?_
  refine lv_if_le (tgt := 133) hx hb dX6_read_111 (by decide +kernel) (fun _ => ?_) (fun c => absurd (by decide +kernel) c)
  refine lv_aload_n hx hb dX6_read_133 rfl (lv_at hl 2 rfl) ?_
  refine lv_iconst (v := 1) hx hb dX6_read_134 (by decide +kernel) ?_
  refine nj_v (ws := [(a0, .inr (6, [.ref a2, .ref a3, .int 0, .int 0, .int 0, .int 0, .int 1])), (a2, .inr (0, [.ref a4, .int 0])), (a1, .inr (8, [.ref a5, .int 0]))]) (wc := [(a0, .inr (6, [.ref a2, .ref a3, .int 0, .int 0, .int 0, .int 0, .int 1]))]) (wr := [(a2, .inr (0, [.ref a4, .int 0])), (a1, .inr (8, [.ref a5, .int 0]))]) (nr_V (As := [.int 1]) (rest := []) ⟨hx, hb, hml, hown, hts⟩ (cX6_settle_1 l D y a0 a2 a3 H.size) (cwV 1 hts gX6_read_X6_settle rfl rfl rfl (by decide +kernel) ⟨Nat.le_of_ble_eq_true rfl, Nat.le_of_ble_eq_true rfl⟩) hK hP hD hE [0] rfl (by decide +kernel) 0 6 rfl rfl rfl rfl rfl hl.1 rfl (lv_room (Nat.le_of_ble_eq_true rfl)) dX6_read_135 ⟨Nat.le_of_ble_eq_true rfl, Nat.le_of_ble_eq_true rfl⟩) hP hD hS hA [0] [1, 2] rfl rfl (by decide +kernel) (by decide +kernel) (fun u1 H locs _ hP hD hS => ?_)
  refine lv_iconst (v := (-1)) hx hb dX6_read_138 (by decide +kernel) ?_
  refine W.widen (k := 0) (n := 0) (Nat.le_of_ble_eq_true rfl) (Nat.le_of_ble_eq_true rfl) ?_
  exact W.iret (v := (-1)) hx hb hr (fun t ht hW => ⟨⟨(-1), (fun _ => 0), rfl, rfl, by rw [ht]; exact hP, va_K.moved hW.alike hK, hD⟩, hS.F ht⟩) hS.2.2 dX6_read_139 hlocks
set_option maxRecDepth 100000 in
set_option maxHeartbeats 4000000 in
theorem cX11_rule_2 (l : Launch) (D : va_G) (y : Nat → ClassId) (a0 : Nat) (n0 : Int32) (hn0l : 4 ≤ n0) (a1 : Nat) (a2 : Nat) (a3 : Nat) (a4 : Nat) (a5 : Nat) (a6 : Nat) (a7 : Nat) (a8 : Nat) (a9 : Nat) (a10 : Nat) (a11 : Nat) (a12 : Nat) (a13 : Nat) (a14 : Nat) (a15 : Nat) (sz : Nat) : Met l yX11_rule wsX11_rule { frames := 3, cells := 0, slots := 0, locals := 221 } (nPc D y nT [.ref a0, .int n0] [(a0, .inr (11, [.ref a1, .ref a2, .ref a3, .ref a4, .ref a5, .ref a6, .ref a7, .ref a8, .ref a9, .ref a10, .ref a11, .ref a12, .ref a13, .ref a14, .int 1, .null, .int 0])), (a1, .inr (8, [.ref a15, .int 0]))] sz) ((fun A => nQi D y (fun r _ => r = (-100)) (fun u => [(a0, .inr (11, [.ref a1, .ref a2, .ref a3, .ref a4, .ref a5, .ref a6, .ref a7, .ref a8, .ref a9, .ref a10, .ref a11, .ref a12, .ref a13, .ref a14, .int 1, .null, .int 0])), (a1, .inr (8, [.ref a15, .int 0]))]) A) (va_A [(a0, .inr (11, [.ref a1, .ref a2, .ref a3, .ref a4, .ref a5, .ref a6, .ref a7, .ref a8, .ref a9, .ref a10, .ref a11, .ref a12, .ref a13, .ref a14, .int 1, .null, .int 0])), (a1, .inr (8, [.ref a15, .int 0]))] sz)) 0 0 (va_A [(a0, .inr (11, [.ref a1, .ref a2, .ref a3, .ref a4, .ref a5, .ref a6, .ref a7, .ref a8, .ref a9, .ref a10, .ref a11, .ref a12, .ref a13, .ref a14, .int 1, .null, .int 0])), (a1, .inr (8, [.ref a15, .int 0]))] sz) := by
  refine nm_ofW (D := D) (y := y) (E := nT) (yy := yX11_rule) (wsy := wsX11_rule) (rm := { frames := 3, cells := 0, slots := 0, locals := 221 }) (as := [.ref a0, .int n0]) (ws := [(a0, .inr (11, [.ref a1, .ref a2, .ref a3, .ref a4, .ref a5, .ref a6, .ref a7, .ref a8, .ref a9, .ref a10, .ref a11, .ref a12, .ref a13, .ref a14, .int 1, .null, .int 0])), (a1, .inr (8, [.ref a15, .int 0]))]) (sz := sz) (mc := 0) (ms := 0) (Qc := fun A => nQi D y (fun r _ => r = (-100)) (fun u => [(a0, .inr (11, [.ref a1, .ref a2, .ref a3, .ref a4, .ref a5, .ref a6, .ref a7, .ref a8, .ref a9, .ref a10, .ref a11, .ref a12, .ref a13, .ref a14, .int 1, .null, .int 0])), (a1, .inr (8, [.ref a15, .int 0]))]) A) (cc := cX11_rule) (maxL := 4) (ret := (some .int)) (by decide +kernel) rfl (Nat.le_of_ble_eq_true rfl) ?_
  intro p e s m below meth c A ls H hx hb hr hml hts hown hlocks hnm hsz hP hK hD hA hS hE hAe hl
  replace hl : lv_has ls 4 [(0, .ref a0), (1, .int n0)] := hl
  have hown : s.vm.findClass RX11 = some m.cls := hown
  have w_0 := hts (.fieldLink RX11 10 "SoldToBehind" "text" "LSoldToBehind$Text;") (gt_k wd_2_98)
  refine lv_iload_n hx hb dX11_rule_0 rfl (lv_at hl 1 rfl) ?_
  refine lv_if_lt (tgt := 13) hx hb dX11_rule_1 (by decide +kernel) (fun c => absurd c (q_nlt hn0l (by decide +kernel))) (fun _ => ?_)
  refine lv_iload_n hx hb dX11_rule_4 rfl (lv_at hl 1 rfl) ?_
  refine lv_iconst (v := 4) hx hb dX11_rule_5 (by decide +kernel) ?_
  refine lv_icmp_ge (tgt := 13) hx hb dX11_rule_6 (by decide +kernel) (fun _ => ?_) (fun c => absurd (q_ge hn0l (by decide +kernel)) c)
  refine lv_iconst (v := 0) hx hb dX11_rule_13 (by decide +kernel) ?_
  refine lv_istore_n (lv' := [(2, .int 0), (0, .ref a0), (1, .int n0)]) hx hb dX11_rule_14 rfl hl (by decide +kernel) rfl (fun ls hl => ?_)
  refine lv_iload_n hx hb dX11_rule_15 rfl (lv_at hl 0 rfl) ?_
  refine lv_if_eq (tgt := 33) hx hb dX11_rule_16 (by decide +kernel) (fun _ => ?_) (fun c => absurd (by decide +kernel) c)
  refine lv_iconst (v := (-1)) hx hb dX11_rule_33 (by decide +kernel) ?_
  refine lv_istore_n (lv' := [(3, .int (-1)), (2, .int 0), (0, .ref a0), (1, .int n0)]) hx hb dX11_rule_34 rfl hl (by decide +kernel) rfl (fun ls hl => ?_)
  refine lv_aload_n hx hb dX11_rule_35 rfl (lv_at hl 2 rfl) ?_
  refine va_get (D := D) (ci := 11) (v := .ref a1) (C := RX11) (T := TX11) (N := 17) hx hb hts (gt_c iG_X11) hown hK hP 0 rfl rfl 0 (by decide +kernel) w_0 (fun _ h9 => h9) rfl dX11_rule_36 ?_
  refine lv_iconst (v := 0) hx hb dX11_rule_39 (by decide +kernel) ?_
  refine nj_i (ws := [(a0, .inr (11, [.ref a1, .ref a2, .ref a3, .ref a4, .ref a5, .ref a6, .ref a7, .ref a8, .ref a9, .ref a10, .ref a11, .ref a12, .ref a13, .ref a14, .int 1, .null, .int 0])), (a1, .inr (8, [.ref a15, .int 0]))]) (wc := [(a1, .inr (8, [.ref a15, .int 0]))]) (wr := [(a0, .inr (11, [.ref a1, .ref a2, .ref a3, .ref a4, .ref a5, .ref a6, .ref a7, .ref a8, .ref a9, .ref a10, .ref a11, .ref a12, .ref a13, .ref a14, .int 1, .null, .int 0]))]) (nr_V (As := [.int 0]) (rest := []) ⟨hx, hb, hml, hown, hts⟩ (cX8_cut_2 l D y a1 a15 H.size) (cwV 1 hts gX11_rule_X8_cut rfl rfl rfl (by decide +kernel) ⟨Nat.le_of_ble_eq_true rfl, Nat.le_of_ble_eq_true rfl⟩) hK hP hD hE [1] rfl (by decide +kernel) 0 8 rfl rfl rfl rfl rfl hl.1 rfl (lv_room (Nat.le_of_ble_eq_true rfl)) dX11_rule_40 ⟨Nat.le_of_ble_eq_true rfl, Nat.le_of_ble_eq_true rfl⟩) hP hD hS hA [1] [0] rfl rfl (by decide +kernel) (by decide +kernel) (fun r2 u1 H locs er2 hP hD hS => ?_)
  subst er2
  refine lv_pop hx hb dX11_rule_43 rfl ?_
  refine lv_iload_n hx hb dX11_rule_44 rfl (lv_at hl 1 rfl) ?_
  refine lv_if_ne (tgt := 51) hx hb dX11_rule_45 (by decide +kernel) (fun c => absurd (by decide +kernel) c) (fun _ => ?_)
  refine lv_bipush (v := (-100)) hx hb dX11_rule_48 (by decide +kernel) ?_
  refine W.widen (k := 0) (n := 0) (Nat.le_of_ble_eq_true rfl) (Nat.le_of_ble_eq_true rfl) ?_
  exact W.iret (v := (-100)) hx hb hr (fun t ht hW => ⟨⟨(-100), (fun _ => 0), rfl, rfl, by rw [ht]; exact hP, va_K.moved hW.alike hK, hD⟩, hS.F ht⟩) hS.2.2 dX11_rule_50 hlocks
set_option maxRecDepth 100000 in
set_option maxHeartbeats 4000000 in
theorem cX0_copy_1 (l : Launch) (D : va_G) (y : Nat → ClassId) (a0 : Nat) (a1 : Nat) (a2 : Nat) (a3 : Nat) (sz : Nat) : Met l yX0_copy wsX0_copy { frames := 2, cells := 0, slots := 0, locals := 200 } (nPc D y nT [.ref a0, .ref a1] [(a0, .inr (0, [.ref a2, .int 0])), (a1, .inr (0, [.ref a3, .int 0])), (a3, .inl (y 0, 40, .inl nz)), (a2, .inl (y 0, 40, .inl nz))] sz) ((fun A => nQv D y (fun _ => True) (fun u => [(a0, .inr (0, [.ref a2, .int 0])), (a1, .inr (0, [.ref a3, .int 0])), (a3, .inl (y 0, 40, .inl nz)), (a2, .inl (y 0, 40, .inl nz))]) A) (va_A [(a0, .inr (0, [.ref a2, .int 0])), (a1, .inr (0, [.ref a3, .int 0])), (a3, .inl (y 0, 40, .inl nz)), (a2, .inl (y 0, 40, .inl nz))] sz)) 0 0 (va_A [(a0, .inr (0, [.ref a2, .int 0])), (a1, .inr (0, [.ref a3, .int 0])), (a3, .inl (y 0, 40, .inl nz)), (a2, .inl (y 0, 40, .inl nz))] sz) := by
  refine nm_ofW (D := D) (y := y) (E := nT) (yy := yX0_copy) (wsy := wsX0_copy) (rm := { frames := 2, cells := 0, slots := 0, locals := 200 }) (as := [.ref a0, .ref a1]) (ws := [(a0, .inr (0, [.ref a2, .int 0])), (a1, .inr (0, [.ref a3, .int 0])), (a3, .inl (y 0, 40, .inl nz)), (a2, .inl (y 0, 40, .inl nz))]) (sz := sz) (mc := 0) (ms := 0) (Qc := fun A => nQv D y (fun _ => True) (fun u => [(a0, .inr (0, [.ref a2, .int 0])), (a1, .inr (0, [.ref a3, .int 0])), (a3, .inl (y 0, 40, .inl nz)), (a2, .inl (y 0, 40, .inl nz))]) A) (cc := cX0_copy) (maxL := 2) (ret := none) (by decide +kernel) rfl (Nat.le_of_ble_eq_true rfl) ?_
  intro p e s m below meth c A ls H hx hb hr hml hts hown hlocks hnm hsz hP hK hD hA hS hE hAe hl
  replace hl : lv_has ls 2 [(0, .ref a0), (1, .ref a1)] := hl
  have hown : s.vm.findClass RX0 = some m.cls := hown
  have w_0 := hts (.fieldLink RX0 9 "SoldToBehind$Formula" "steps" "[I") (gt_k wd_1_85)
  have w_1 := hts (.methodLink RX0 19 arraycopyName) (gt_k wd_3_148)
  have w_2 := hts (.native arraycopyName) (gt_k wd_3_9)
  have w_3 := hts (.static arraycopyName) (gt_k wd_3_8)
  have w_4 := hts (.initialized "java/lang/System") (gt_k wd_1_15)
  have w_5 := hts (.fieldLink RX0 15 "SoldToBehind$Formula" "size" "I") (gt_k wd_1_86)
  refine lv_aload_n hx hb dX0_copy_0 rfl (lv_at hl 1 rfl) ?_
  refine va_get (D := D) (ci := 0) (v := .ref a3) (C := RX0) (T := TX0) (N := 2) hx hb hts (gt_c iG_X0) hown hK hP 1 rfl rfl 0 (by decide +kernel) w_0 (fun _ h9 => h9) rfl dX0_copy_1 ?_
  refine lv_iconst (v := 0) hx hb dX0_copy_4 (by decide +kernel) ?_
  refine lv_aload_n hx hb dX0_copy_5 rfl (lv_at hl 0 rfl) ?_
  refine va_get (D := D) (ci := 0) (v := .ref a2) (C := RX0) (T := TX0) (N := 2) hx hb hts (gt_c iG_X0) hown hK hP 0 rfl rfl 0 (by decide +kernel) w_0 (fun _ h9 => h9) rfl dX0_copy_6 ?_
  refine lv_iconst (v := 0) hx hb dX0_copy_9 (by decide +kernel) ?_
  refine lv_bipush (v := 40) hx hb dX0_copy_10 (by decide +kernel) ?_
  refine nb_copyi (ws' := [(a0, .inr (0, [.ref a2, .int 0])), (a1, .inr (0, [.ref a3, .int 0])), (a3, .inl (y 0, 40, .inl nz)), (a2, .inl (y 0, 40, .inl nz))]) hx hb (by rw [hml]; exact hl.1.symm) hown w_1 w_2 w_3 w_4 hK hP hD hS 2 3 0 0 rfl rfl rfl rfl rfl (by decide +kernel) (by decide +kernel) (by decide +kernel) (by decide +kernel) (by decide +kernel) (fun _ _ => rfl) (Nat.le_of_ble_eq_true rfl) (Nat.le_of_ble_eq_true rfl) (by rw [nb_cpy _ _ _ rfl rfl]; rfl) dX0_copy_12 (fun H locs hP hD hS => ?_)
  refine lv_aload_n hx hb dX0_copy_15 rfl (lv_at hl 0 rfl) ?_
  refine lv_aload_n hx hb dX0_copy_16 rfl (lv_at hl 1 rfl) ?_
  refine va_get (D := D) (ci := 0) (v := .int 0) (C := RX0) (T := TX0) (N := 2) hx hb hts (gt_c iG_X0) hown hK hP 1 rfl rfl 1 (by decide +kernel) w_5 (fun _ h9 => h9) rfl dX0_copy_17 ?_
  refine nb_put (D := D) (ci := 0) (v := .int 0) (ty := .int) (C := RX0) (T := TX0) (N := 2) (ws' := [(a0, .inr (0, [.ref a2, .int 0])), (a1, .inr (0, [.ref a3, .int 0])), (a3, .inl (y 0, 40, .inl nz)), (a2, .inl (y 0, 40, .inl nz))]) hx hb hts (gt_c iG_X0) tyX0 tyX0_ok nmX0 hown hK hP hD hS 0 rfl rfl 1 (by decide +kernel) w_5 (fun _ h9 => h9) rfl (by decide +kernel) rfl rfl (Nat.le_of_ble_eq_true rfl) rfl dX0_copy_20 (fun H locs hP hD hS => ?_)
  refine W.widen (k := 0) (n := 0) (Nat.le_of_ble_eq_true rfl) (Nat.le_of_ble_eq_true rfl) ?_
  exact W.vret hx hb hr (fun t ht hW => ⟨⟨(fun _ => 0), rfl, trivial, by rw [ht]; exact hP, va_K.moved hW.alike hK, hD⟩, hS.F ht⟩) hS.2.2 dX0_copy_23 hlocks
set_option maxRecDepth 100000 in
set_option maxHeartbeats 4000000 in
theorem cX11_rule_3 (l : Launch) (D : va_G) (y : Nat → ClassId) (a0 : Nat) (a1 : Nat) (a2 : Nat) (a3 : Nat) (a4 : Nat) (a5 : Nat) (a6 : Nat) (a7 : Nat) (a8 : Nat) (a9 : Nat) (a10 : Nat) (a11 : Nat) (a12 : Nat) (a13 : Nat) (a14 : Nat) (a15 : Nat) (a16 : Nat) (a17 : Nat) (a18 : Nat) (a19 : Nat) (a20 : Nat) (a21 : Nat) (a22 : Nat) (a23 : Nat) (a24 : Nat) (a25 : Nat) (a26 : Nat) (a27 : Nat) (a28 : Nat) (a29 : Nat) (sz : Nat) : Met l yX11_rule wsX11_rule { frames := 4, cells := 0, slots := 0, locals := 245 } (nPc D y nT [.ref a0, .int 0] [(a0, .inr (11, [.ref a1, .ref a2, .ref a3, .ref a4, .ref a5, .ref a6, .ref a7, .ref a8, .ref a9, .ref a10, .ref a11, .ref a12, .ref a13, .ref a14, .int 1, .null, .int 0])), (a5, .inr (6, [.ref a15, .ref a16, .int 0, .int 0, .int 0, .int 0, .int 1])), (a15, .inr (0, [.ref a17, .int 0])), (a1, .inr (8, [.ref a18, .int 0])), (a3, .inr (9, [.ref a19, .ref a20, .ref a21, .ref a22, .int 0, .ref a23, .ref a24])), (a22, .inl (y 4, 4, .inr (.inr (.inr (.inr (va_up (va_up (va_up (va_up nn 0 (some a25)) 1 (some a26)) 2 (some a27)) 3 (some a28))))))), (a25, .inr (0, [.ref a29, .int 0])), (a17, .inl (y 0, 40, .inl nz)), (a29, .inl (y 0, 40, .inl nz))] sz) ((fun A => nQi D y (fun r _ => r = 0) (fun u => [(a0, .inr (11, [.ref a1, .ref a2, .ref a3, .ref a4, .ref a5, .ref a6, .ref a7, .ref a8, .ref a9, .ref a10, .ref a11, .ref a12, .ref a13, .ref a14, .int 1, .null, .int 0])), (a3, .inr (9, [.ref a19, .ref a20, .ref a21, .ref a22, .int 0, .ref a23, .ref a24])), (a22, .inl (y 4, 4, .inr (.inr (.inr (.inr (va_up (va_up (va_up (va_up nn 0 (some a25)) 1 (some a26)) 2 (some a27)) 3 (some a28))))))), (a5, .inr (6, [.ref a15, .ref a16, .int 0, .int 0, .int 0, .int 0, .int 1])), (a1, .inr (8, [.ref a18, .int 0])), (a25, .inr (0, [.ref a29, .int 0])), (a15, .inr (0, [.ref a17, .int 0])), (a17, .inl (y 0, 40, .inl nz)), (a29, .inl (y 0, 40, .inl nz))]) A) (va_A [(a0, .inr (11, [.ref a1, .ref a2, .ref a3, .ref a4, .ref a5, .ref a6, .ref a7, .ref a8, .ref a9, .ref a10, .ref a11, .ref a12, .ref a13, .ref a14, .int 1, .null, .int 0])), (a5, .inr (6, [.ref a15, .ref a16, .int 0, .int 0, .int 0, .int 0, .int 1])), (a15, .inr (0, [.ref a17, .int 0])), (a1, .inr (8, [.ref a18, .int 0])), (a3, .inr (9, [.ref a19, .ref a20, .ref a21, .ref a22, .int 0, .ref a23, .ref a24])), (a22, .inl (y 4, 4, .inr (.inr (.inr (.inr (va_up (va_up (va_up (va_up nn 0 (some a25)) 1 (some a26)) 2 (some a27)) 3 (some a28))))))), (a25, .inr (0, [.ref a29, .int 0])), (a17, .inl (y 0, 40, .inl nz)), (a29, .inl (y 0, 40, .inl nz))] sz)) 0 0 (va_A [(a0, .inr (11, [.ref a1, .ref a2, .ref a3, .ref a4, .ref a5, .ref a6, .ref a7, .ref a8, .ref a9, .ref a10, .ref a11, .ref a12, .ref a13, .ref a14, .int 1, .null, .int 0])), (a5, .inr (6, [.ref a15, .ref a16, .int 0, .int 0, .int 0, .int 0, .int 1])), (a15, .inr (0, [.ref a17, .int 0])), (a1, .inr (8, [.ref a18, .int 0])), (a3, .inr (9, [.ref a19, .ref a20, .ref a21, .ref a22, .int 0, .ref a23, .ref a24])), (a22, .inl (y 4, 4, .inr (.inr (.inr (.inr (va_up (va_up (va_up (va_up nn 0 (some a25)) 1 (some a26)) 2 (some a27)) 3 (some a28))))))), (a25, .inr (0, [.ref a29, .int 0])), (a17, .inl (y 0, 40, .inl nz)), (a29, .inl (y 0, 40, .inl nz))] sz) := by
  refine nm_ofW (D := D) (y := y) (E := nT) (yy := yX11_rule) (wsy := wsX11_rule) (rm := { frames := 4, cells := 0, slots := 0, locals := 245 }) (as := [.ref a0, .int 0]) (ws := [(a0, .inr (11, [.ref a1, .ref a2, .ref a3, .ref a4, .ref a5, .ref a6, .ref a7, .ref a8, .ref a9, .ref a10, .ref a11, .ref a12, .ref a13, .ref a14, .int 1, .null, .int 0])), (a5, .inr (6, [.ref a15, .ref a16, .int 0, .int 0, .int 0, .int 0, .int 1])), (a15, .inr (0, [.ref a17, .int 0])), (a1, .inr (8, [.ref a18, .int 0])), (a3, .inr (9, [.ref a19, .ref a20, .ref a21, .ref a22, .int 0, .ref a23, .ref a24])), (a22, .inl (y 4, 4, .inr (.inr (.inr (.inr (va_up (va_up (va_up (va_up nn 0 (some a25)) 1 (some a26)) 2 (some a27)) 3 (some a28))))))), (a25, .inr (0, [.ref a29, .int 0])), (a17, .inl (y 0, 40, .inl nz)), (a29, .inl (y 0, 40, .inl nz))]) (sz := sz) (mc := 0) (ms := 0) (Qc := fun A => nQi D y (fun r _ => r = 0) (fun u => [(a0, .inr (11, [.ref a1, .ref a2, .ref a3, .ref a4, .ref a5, .ref a6, .ref a7, .ref a8, .ref a9, .ref a10, .ref a11, .ref a12, .ref a13, .ref a14, .int 1, .null, .int 0])), (a3, .inr (9, [.ref a19, .ref a20, .ref a21, .ref a22, .int 0, .ref a23, .ref a24])), (a22, .inl (y 4, 4, .inr (.inr (.inr (.inr (va_up (va_up (va_up (va_up nn 0 (some a25)) 1 (some a26)) 2 (some a27)) 3 (some a28))))))), (a5, .inr (6, [.ref a15, .ref a16, .int 0, .int 0, .int 0, .int 0, .int 1])), (a1, .inr (8, [.ref a18, .int 0])), (a25, .inr (0, [.ref a29, .int 0])), (a15, .inr (0, [.ref a17, .int 0])), (a17, .inl (y 0, 40, .inl nz)), (a29, .inl (y 0, 40, .inl nz))]) A) (cc := cX11_rule) (maxL := 4) (ret := (some .int)) (by decide +kernel) rfl (Nat.le_of_ble_eq_true rfl) ?_
  intro p e s m below meth c A ls H hx hb hr hml hts hown hlocks hnm hsz hP hK hD hA hS hE hAe hl
  replace hl : lv_has ls 4 [(0, .ref a0), (1, .int 0)] := hl
  have hown : s.vm.findClass RX11 = some m.cls := hown
  have w_0 := hts (.fieldLink RX11 40 "SoldToBehind" "ruleReader" "LSoldToBehind$RuleReader;") (gt_k wd_2_102)
  have w_1 := hts (.fieldLink RX11 10 "SoldToBehind" "text" "LSoldToBehind$Text;") (gt_k wd_2_98)
  have w_2 := hts (.fieldLink RX11 26 "SoldToBehind" "town" "LSoldToBehind$Town;") (gt_k wd_2_100)
  have w_3 := hts (.fieldLink RX11 144 "SoldToBehind$Town" "rules" "[LSoldToBehind$Formula;") (gt_k wd_1_104)
  have w_4 := hts (.fieldLink RX11 148 "SoldToBehind$RuleReader" "draft" "LSoldToBehind$Formula;") (gt_k wd_1_178)
  have w_5 := hts (.fieldLink RX11 95 "SoldToBehind" "reachStands" "Z") (gt_k wd_2_114)
  refine lv_iload_n hx hb dX11_rule_0 rfl (lv_at hl 1 rfl) ?_
  refine lv_if_lt (tgt := 13) hx hb dX11_rule_1 (by decide +kernel) (fun c => absurd c (by decide +kernel)) (fun _ => ?_)
  refine lv_iload_n hx hb dX11_rule_4 rfl (lv_at hl 1 rfl) ?_
  refine lv_iconst (v := 4) hx hb dX11_rule_5 (by decide +kernel) ?_
  refine lv_icmp_ge (tgt := 13) hx hb dX11_rule_6 (by decide +kernel) (fun c => absurd c (by decide +kernel)) (fun _ => ?_)
  refine lv_iconst (v := 1) hx hb dX11_rule_9 (by decide +kernel) ?_
  refine lv_goto (tgt := 14) hx hb dX11_rule_10 (by decide +kernel) ?_
  refine lv_istore_n (lv' := [(2, .int 1), (0, .ref a0), (1, .int 0)]) hx hb dX11_rule_14 rfl hl (by decide +kernel) rfl (fun ls hl => ?_)
  refine lv_iload_n hx hb dX11_rule_15 rfl (lv_at hl 0 rfl) ?_
  refine lv_if_eq (tgt := 33) hx hb dX11_rule_16 (by decide +kernel) (fun c => absurd c (by decide +kernel)) (fun _ => ?_)
  refine lv_aload_n hx hb dX11_rule_19 rfl (lv_at hl 1 rfl) ?_
  refine va_get (D := D) (ci := 11) (v := .ref a5) (C := RX11) (T := TX11) (N := 17) hx hb hts (gt_c iG_X11) hown hK hP 0 rfl rfl 4 (by decide +kernel) w_0 (fun _ h9 => h9) rfl dX11_rule_20 ?_
  refine lv_aload_n hx hb dX11_rule_23 rfl (lv_at hl 1 rfl) ?_
  refine va_get (D := D) (ci := 11) (v := .ref a1) (C := RX11) (T := TX11) (N := 17) hx hb hts (gt_c iG_X11) hown hK hP 0 rfl rfl 0 (by decide +kernel) w_1 (fun _ h9 => h9) rfl dX11_rule_24 ?_
  refine nj_i (ws := [(a0, .inr (11, [.ref a1, .ref a2, .ref a3, .ref a4, .ref a5, .ref a6, .ref a7, .ref a8, .ref a9, .ref a10, .ref a11, .ref a12, .ref a13, .ref a14, .int 1, .null, .int 0])), (a5, .inr (6, [.ref a15, .ref a16, .int 0, .int 0, .int 0, .int 0, .int 1])), (a15, .inr (0, [.ref a17, .int 0])), (a1, .inr (8, [.ref a18, .int 0])), (a3, .inr (9, [.ref a19, .ref a20, .ref a21, .ref a22, .int 0, .ref a23, .ref a24])), (a22, .inl (y 4, 4, .inr (.inr (.inr (.inr (va_up (va_up (va_up (va_up nn 0 (some a25)) 1 (some a26)) 2 (some a27)) 3 (some a28))))))), (a25, .inr (0, [.ref a29, .int 0])), (a17, .inl (y 0, 40, .inl nz)), (a29, .inl (y 0, 40, .inl nz))]) (wc := [(a5, .inr (6, [.ref a15, .ref a16, .int 0, .int 0, .int 0, .int 0, .int 1])), (a15, .inr (0, [.ref a17, .int 0])), (a1, .inr (8, [.ref a18, .int 0]))]) (wr := [(a0, .inr (11, [.ref a1, .ref a2, .ref a3, .ref a4, .ref a5, .ref a6, .ref a7, .ref a8, .ref a9, .ref a10, .ref a11, .ref a12, .ref a13, .ref a14, .int 1, .null, .int 0])), (a3, .inr (9, [.ref a19, .ref a20, .ref a21, .ref a22, .int 0, .ref a23, .ref a24])), (a22, .inl (y 4, 4, .inr (.inr (.inr (.inr (va_up (va_up (va_up (va_up nn 0 (some a25)) 1 (some a26)) 2 (some a27)) 3 (some a28))))))), (a25, .inr (0, [.ref a29, .int 0])), (a17, .inl (y 0, 40, .inl nz)), (a29, .inl (y 0, 40, .inl nz))]) (nr_V (As := [.ref a1]) (rest := []) ⟨hx, hb, hml, hown, hts⟩ (cX6_read_1 l D y a5 a1 a15 a16 a17 a18 H.size) (cwV 1 hts gX11_rule_X6_read rfl rfl rfl (by decide +kernel) ⟨Nat.le_of_ble_eq_true rfl, Nat.le_of_ble_eq_true rfl⟩) hK hP hD hE [1, 2, 3] rfl (by decide +kernel) 0 6 rfl rfl rfl rfl rfl hl.1 rfl (lv_room (Nat.le_of_ble_eq_true rfl)) dX11_rule_27 ⟨Nat.le_of_ble_eq_true rfl, Nat.le_of_ble_eq_true rfl⟩) hP hD hS hA [1, 2, 3] [0, 4, 5, 6, 7, 8] rfl rfl (by decide +kernel) (by decide +kernel) (fun r2 u1 H locs er2 hP hD hS => ?_)
  subst er2
  refine lv_goto (tgt := 34) hx hb dX11_rule_30 (by decide +kernel) ?_
  refine lv_istore_n (lv' := [(3, .int (-1)), (2, .int 1), (0, .ref a0), (1, .int 0)]) hx hb dX11_rule_34 rfl hl (by decide +kernel) rfl (fun ls hl => ?_)
  refine lv_aload_n hx hb dX11_rule_35 rfl (lv_at hl 2 rfl) ?_
  refine va_get (D := D) (ci := 11) (v := .ref a1) (C := RX11) (T := TX11) (N := 17) hx hb hts (gt_c iG_X11) hown hK hP 0 rfl rfl 0 (by decide +kernel) w_1 (fun _ h9 => h9) rfl dX11_rule_36 ?_
  refine lv_iconst (v := 0) hx hb dX11_rule_39 (by decide +kernel) ?_
  refine nj_i (ws := [(a0, .inr (11, [.ref a1, .ref a2, .ref a3, .ref a4, .ref a5, .ref a6, .ref a7, .ref a8, .ref a9, .ref a10, .ref a11, .ref a12, .ref a13, .ref a14, .int 1, .null, .int 0])), (a3, .inr (9, [.ref a19, .ref a20, .ref a21, .ref a22, .int 0, .ref a23, .ref a24])), (a22, .inl (y 4, 4, .inr (.inr (.inr (.inr (va_up (va_up (va_up (va_up nn 0 (some a25)) 1 (some a26)) 2 (some a27)) 3 (some a28))))))), (a25, .inr (0, [.ref a29, .int 0])), (a17, .inl (y 0, 40, .inl nz)), (a29, .inl (y 0, 40, .inl nz)), (a15, .inr (0, [.ref a17, .int 0])), (a1, .inr (8, [.ref a18, .int 0])), (a5, .inr (6, [.ref a15, .ref a16, .int 0, .int 0, .int 0, .int 0, .int 1]))]) (wc := [(a1, .inr (8, [.ref a18, .int 0]))]) (wr := [(a0, .inr (11, [.ref a1, .ref a2, .ref a3, .ref a4, .ref a5, .ref a6, .ref a7, .ref a8, .ref a9, .ref a10, .ref a11, .ref a12, .ref a13, .ref a14, .int 1, .null, .int 0])), (a3, .inr (9, [.ref a19, .ref a20, .ref a21, .ref a22, .int 0, .ref a23, .ref a24])), (a22, .inl (y 4, 4, .inr (.inr (.inr (.inr (va_up (va_up (va_up (va_up nn 0 (some a25)) 1 (some a26)) 2 (some a27)) 3 (some a28))))))), (a25, .inr (0, [.ref a29, .int 0])), (a17, .inl (y 0, 40, .inl nz)), (a29, .inl (y 0, 40, .inl nz)), (a15, .inr (0, [.ref a17, .int 0])), (a5, .inr (6, [.ref a15, .ref a16, .int 0, .int 0, .int 0, .int 0, .int 1]))]) (nr_V (As := [.int 0]) (rest := []) ⟨hx, hb, hml, hown, hts⟩ (cX8_cut_2 l D y a1 a18 H.size) (cwV 1 hts gX11_rule_X8_cut rfl rfl rfl (by decide +kernel) ⟨Nat.le_of_ble_eq_true rfl, Nat.le_of_ble_eq_true rfl⟩) hK hP hD hE [7] rfl (by decide +kernel) 0 8 rfl rfl rfl rfl rfl hl.1 rfl (lv_room (Nat.le_of_ble_eq_true rfl)) dX11_rule_40 ⟨Nat.le_of_ble_eq_true rfl, Nat.le_of_ble_eq_true rfl⟩) hP hD hS hA [7] [0, 1, 2, 3, 4, 5, 6, 8] rfl rfl (by decide +kernel) (by decide +kernel) (fun r4 u3 H locs er4 hP hD hS => ?_)
  subst er4
  refine lv_pop hx hb dX11_rule_43 rfl ?_
  refine lv_iload_n hx hb dX11_rule_44 rfl (lv_at hl 1 rfl) ?_
  refine lv_if_ne (tgt := 51) hx hb dX11_rule_45 (by decide +kernel) (fun _ => ?_) (fun c => absurd c (by decide +kernel))
  refine lv_iload_n hx hb dX11_rule_51 rfl (lv_at hl 0 rfl) ?_
  refine lv_iconst (v := (-1)) hx hb dX11_rule_52 (by decide +kernel) ?_
  refine lv_icmp_eq (tgt := 60) hx hb dX11_rule_53 (by decide +kernel) (fun _ => ?_) (fun c => absurd (by decide +kernel) c)
  refine lv_aload_n hx hb dX11_rule_60 rfl (lv_at hl 2 rfl) ?_
  refine va_get (D := D) (ci := 11) (v := .ref a3) (C := RX11) (T := TX11) (N := 17) hx hb hts (gt_c iG_X11) hown hK hP 0 rfl rfl 2 (by decide +kernel) w_2 (fun _ h9 => h9) rfl dX11_rule_61 ?_
  refine va_get (D := D) (ci := 9) (v := .ref a22) (C := RX9) (T := TX9) (N := 7) hx hb hts (gt_c iG_X9) hown hK hP 1 rfl rfl 3 (by decide +kernel) w_3 (fun _ h9 => h9) rfl dX11_rule_64 ?_
  refine lv_iload_n hx hb dX11_rule_67 rfl (lv_at hl 3 rfl) ?_
  refine va_aldq hx hb hK hP 2 4 rfl rfl (n_in (by decide +kernel)) dX11_rule_68 ?_
  refine nv (v := .ref a25) rfl ?_
  refine lv_aload_n hx hb dX11_rule_69 rfl (lv_at hl 2 rfl) ?_
  refine va_get (D := D) (ci := 11) (v := .ref a5) (C := RX11) (T := TX11) (N := 17) hx hb hts (gt_c iG_X11) hown hK hP 0 rfl rfl 4 (by decide +kernel) w_0 (fun _ h9 => h9) rfl dX11_rule_70 ?_
  refine va_get (D := D) (ci := 6) (v := .ref a15) (C := RX6) (T := TX6) (N := 7) hx hb hts (gt_c iG_X6) hown hK hP 7 rfl rfl 0 (by decide +kernel) w_4 (fun _ h9 => h9) rfl dX11_rule_73 ?_
  refine nj_v (ws := [(a0, .inr (11, [.ref a1, .ref a2, .ref a3, .ref a4, .ref a5, .ref a6, .ref a7, .ref a8, .ref a9, .ref a10, .ref a11, .ref a12, .ref a13, .ref a14, .int 1, .null, .int 0])), (a3, .inr (9, [.ref a19, .ref a20, .ref a21, .ref a22, .int 0, .ref a23, .ref a24])), (a22, .inl (y 4, 4, .inr (.inr (.inr (.inr (va_up (va_up (va_up (va_up nn 0 (some a25)) 1 (some a26)) 2 (some a27)) 3 (some a28))))))), (a25, .inr (0, [.ref a29, .int 0])), (a17, .inl (y 0, 40, .inl nz)), (a29, .inl (y 0, 40, .inl nz)), (a15, .inr (0, [.ref a17, .int 0])), (a5, .inr (6, [.ref a15, .ref a16, .int 0, .int 0, .int 0, .int 0, .int 1])), (a1, .inr (8, [.ref a18, .int 0]))]) (wc := [(a25, .inr (0, [.ref a29, .int 0])), (a15, .inr (0, [.ref a17, .int 0])), (a17, .inl (y 0, 40, .inl nz)), (a29, .inl (y 0, 40, .inl nz))]) (wr := [(a0, .inr (11, [.ref a1, .ref a2, .ref a3, .ref a4, .ref a5, .ref a6, .ref a7, .ref a8, .ref a9, .ref a10, .ref a11, .ref a12, .ref a13, .ref a14, .int 1, .null, .int 0])), (a3, .inr (9, [.ref a19, .ref a20, .ref a21, .ref a22, .int 0, .ref a23, .ref a24])), (a22, .inl (y 4, 4, .inr (.inr (.inr (.inr (va_up (va_up (va_up (va_up nn 0 (some a25)) 1 (some a26)) 2 (some a27)) 3 (some a28))))))), (a5, .inr (6, [.ref a15, .ref a16, .int 0, .int 0, .int 0, .int 0, .int 1])), (a1, .inr (8, [.ref a18, .int 0]))]) (nr_V (As := [.ref a15]) (rest := []) ⟨hx, hb, hml, hown, hts⟩ (cX0_copy_1 l D y a25 a15 a29 a17 H.size) (cwV 1 hts gX11_rule_X0_copy rfl rfl rfl (by decide +kernel) ⟨Nat.le_of_ble_eq_true rfl, Nat.le_of_ble_eq_true rfl⟩) hK hP hD hE [3, 6, 4, 5] rfl (by decide +kernel) 0 0 rfl rfl rfl rfl rfl hl.1 rfl (lv_room (Nat.le_of_ble_eq_true rfl)) dX11_rule_76 ⟨Nat.le_of_ble_eq_true rfl, Nat.le_of_ble_eq_true rfl⟩) hP hD hS hA [3, 6, 4, 5] [0, 1, 2, 7, 8] rfl rfl (by decide +kernel) (by decide +kernel) (fun u5 H locs _ hP hD hS => ?_)
  refine lv_aload_n hx hb dX11_rule_79 rfl (lv_at hl 2 rfl) ?_
  refine lv_iconst (v := 0) hx hb dX11_rule_80 (by decide +kernel) ?_
  refine nb_put (D := D) (ci := 11) (v := .int 0) (ty := .boolean) (C := RX11) (T := TX11) (N := 17) (ws' := [(a0, .inr (11, [.ref a1, .ref a2, .ref a3, .ref a4, .ref a5, .ref a6, .ref a7, .ref a8, .ref a9, .ref a10, .ref a11, .ref a12, .ref a13, .ref a14, .int 1, .null, .int 0])), (a3, .inr (9, [.ref a19, .ref a20, .ref a21, .ref a22, .int 0, .ref a23, .ref a24])), (a22, .inl (y 4, 4, .inr (.inr (.inr (.inr (va_up (va_up (va_up (va_up nn 0 (some a25)) 1 (some a26)) 2 (some a27)) 3 (some a28))))))), (a5, .inr (6, [.ref a15, .ref a16, .int 0, .int 0, .int 0, .int 0, .int 1])), (a1, .inr (8, [.ref a18, .int 0])), (a25, .inr (0, [.ref a29, .int 0])), (a15, .inr (0, [.ref a17, .int 0])), (a17, .inl (y 0, 40, .inl nz)), (a29, .inl (y 0, 40, .inl nz))]) hx hb hts (gt_c iG_X11) tyX11 tyX11_ok nmX11 hown hK hP hD hS 0 rfl rfl 16 (by decide +kernel) w_5 (fun _ h9 => h9) rfl (by decide +kernel) rfl rfl (Nat.le_of_ble_eq_true rfl) rfl dX11_rule_81 (fun H locs hP hD hS => ?_)
  refine lv_iconst (v := 0) hx hb dX11_rule_84 (by decide +kernel) ?_
  refine W.widen (k := 0) (n := 0) (Nat.le_of_ble_eq_true rfl) (Nat.le_of_ble_eq_true rfl) ?_
  exact W.iret (v := 0) hx hb hr (fun t ht hW => ⟨⟨0, (fun _ => 0), rfl, rfl, by rw [ht]; exact hP, va_K.moved hW.alike hK, hD⟩, hS.F ht⟩) hS.2.2 dX11_rule_85 hlocks
set_option maxRecDepth 100000 in
set_option maxHeartbeats 4000000 in
theorem cX11_rule_4 (l : Launch) (D : va_G) (y : Nat → ClassId) (a0 : Nat) (a1 : Nat) (a2 : Nat) (a3 : Nat) (a4 : Nat) (a5 : Nat) (a6 : Nat) (a7 : Nat) (a8 : Nat) (a9 : Nat) (a10 : Nat) (a11 : Nat) (a12 : Nat) (a13 : Nat) (a14 : Nat) (a15 : Nat) (a16 : Nat) (a17 : Nat) (a18 : Nat) (a19 : Nat) (a20 : Nat) (a21 : Nat) (a22 : Nat) (a23 : Nat) (a24 : Nat) (a25 : Nat) (a26 : Nat) (a27 : Nat) (a28 : Nat) (a29 : Nat) (sz : Nat) : Met l yX11_rule wsX11_rule { frames := 4, cells := 0, slots := 0, locals := 245 } (nPc D y nT [.ref a0, .int 1] [(a0, .inr (11, [.ref a1, .ref a2, .ref a3, .ref a4, .ref a5, .ref a6, .ref a7, .ref a8, .ref a9, .ref a10, .ref a11, .ref a12, .ref a13, .ref a14, .int 1, .null, .int 0])), (a5, .inr (6, [.ref a15, .ref a16, .int 0, .int 0, .int 0, .int 0, .int 1])), (a15, .inr (0, [.ref a17, .int 0])), (a1, .inr (8, [.ref a18, .int 0])), (a3, .inr (9, [.ref a19, .ref a20, .ref a21, .ref a22, .int 0, .ref a23, .ref a24])), (a22, .inl (y 4, 4, .inr (.inr (.inr (.inr (va_up (va_up (va_up (va_up nn 0 (some a25)) 1 (some a26)) 2 (some a27)) 3 (some a28))))))), (a26, .inr (0, [.ref a29, .int 0])), (a17, .inl (y 0, 40, .inl nz)), (a29, .inl (y 0, 40, .inl nz))] sz) ((fun A => nQi D y (fun r _ => r = 0) (fun u => [(a0, .inr (11, [.ref a1, .ref a2, .ref a3, .ref a4, .ref a5, .ref a6, .ref a7, .ref a8, .ref a9, .ref a10, .ref a11, .ref a12, .ref a13, .ref a14, .int 1, .null, .int 0])), (a3, .inr (9, [.ref a19, .ref a20, .ref a21, .ref a22, .int 0, .ref a23, .ref a24])), (a22, .inl (y 4, 4, .inr (.inr (.inr (.inr (va_up (va_up (va_up (va_up nn 0 (some a25)) 1 (some a26)) 2 (some a27)) 3 (some a28))))))), (a5, .inr (6, [.ref a15, .ref a16, .int 0, .int 0, .int 0, .int 0, .int 1])), (a1, .inr (8, [.ref a18, .int 0])), (a26, .inr (0, [.ref a29, .int 0])), (a15, .inr (0, [.ref a17, .int 0])), (a17, .inl (y 0, 40, .inl nz)), (a29, .inl (y 0, 40, .inl nz))]) A) (va_A [(a0, .inr (11, [.ref a1, .ref a2, .ref a3, .ref a4, .ref a5, .ref a6, .ref a7, .ref a8, .ref a9, .ref a10, .ref a11, .ref a12, .ref a13, .ref a14, .int 1, .null, .int 0])), (a5, .inr (6, [.ref a15, .ref a16, .int 0, .int 0, .int 0, .int 0, .int 1])), (a15, .inr (0, [.ref a17, .int 0])), (a1, .inr (8, [.ref a18, .int 0])), (a3, .inr (9, [.ref a19, .ref a20, .ref a21, .ref a22, .int 0, .ref a23, .ref a24])), (a22, .inl (y 4, 4, .inr (.inr (.inr (.inr (va_up (va_up (va_up (va_up nn 0 (some a25)) 1 (some a26)) 2 (some a27)) 3 (some a28))))))), (a26, .inr (0, [.ref a29, .int 0])), (a17, .inl (y 0, 40, .inl nz)), (a29, .inl (y 0, 40, .inl nz))] sz)) 0 0 (va_A [(a0, .inr (11, [.ref a1, .ref a2, .ref a3, .ref a4, .ref a5, .ref a6, .ref a7, .ref a8, .ref a9, .ref a10, .ref a11, .ref a12, .ref a13, .ref a14, .int 1, .null, .int 0])), (a5, .inr (6, [.ref a15, .ref a16, .int 0, .int 0, .int 0, .int 0, .int 1])), (a15, .inr (0, [.ref a17, .int 0])), (a1, .inr (8, [.ref a18, .int 0])), (a3, .inr (9, [.ref a19, .ref a20, .ref a21, .ref a22, .int 0, .ref a23, .ref a24])), (a22, .inl (y 4, 4, .inr (.inr (.inr (.inr (va_up (va_up (va_up (va_up nn 0 (some a25)) 1 (some a26)) 2 (some a27)) 3 (some a28))))))), (a26, .inr (0, [.ref a29, .int 0])), (a17, .inl (y 0, 40, .inl nz)), (a29, .inl (y 0, 40, .inl nz))] sz) := by
  refine nm_ofW (D := D) (y := y) (E := nT) (yy := yX11_rule) (wsy := wsX11_rule) (rm := { frames := 4, cells := 0, slots := 0, locals := 245 }) (as := [.ref a0, .int 1]) (ws := [(a0, .inr (11, [.ref a1, .ref a2, .ref a3, .ref a4, .ref a5, .ref a6, .ref a7, .ref a8, .ref a9, .ref a10, .ref a11, .ref a12, .ref a13, .ref a14, .int 1, .null, .int 0])), (a5, .inr (6, [.ref a15, .ref a16, .int 0, .int 0, .int 0, .int 0, .int 1])), (a15, .inr (0, [.ref a17, .int 0])), (a1, .inr (8, [.ref a18, .int 0])), (a3, .inr (9, [.ref a19, .ref a20, .ref a21, .ref a22, .int 0, .ref a23, .ref a24])), (a22, .inl (y 4, 4, .inr (.inr (.inr (.inr (va_up (va_up (va_up (va_up nn 0 (some a25)) 1 (some a26)) 2 (some a27)) 3 (some a28))))))), (a26, .inr (0, [.ref a29, .int 0])), (a17, .inl (y 0, 40, .inl nz)), (a29, .inl (y 0, 40, .inl nz))]) (sz := sz) (mc := 0) (ms := 0) (Qc := fun A => nQi D y (fun r _ => r = 0) (fun u => [(a0, .inr (11, [.ref a1, .ref a2, .ref a3, .ref a4, .ref a5, .ref a6, .ref a7, .ref a8, .ref a9, .ref a10, .ref a11, .ref a12, .ref a13, .ref a14, .int 1, .null, .int 0])), (a3, .inr (9, [.ref a19, .ref a20, .ref a21, .ref a22, .int 0, .ref a23, .ref a24])), (a22, .inl (y 4, 4, .inr (.inr (.inr (.inr (va_up (va_up (va_up (va_up nn 0 (some a25)) 1 (some a26)) 2 (some a27)) 3 (some a28))))))), (a5, .inr (6, [.ref a15, .ref a16, .int 0, .int 0, .int 0, .int 0, .int 1])), (a1, .inr (8, [.ref a18, .int 0])), (a26, .inr (0, [.ref a29, .int 0])), (a15, .inr (0, [.ref a17, .int 0])), (a17, .inl (y 0, 40, .inl nz)), (a29, .inl (y 0, 40, .inl nz))]) A) (cc := cX11_rule) (maxL := 4) (ret := (some .int)) (by decide +kernel) rfl (Nat.le_of_ble_eq_true rfl) ?_
  intro p e s m below meth c A ls H hx hb hr hml hts hown hlocks hnm hsz hP hK hD hA hS hE hAe hl
  replace hl : lv_has ls 4 [(0, .ref a0), (1, .int 1)] := hl
  have hown : s.vm.findClass RX11 = some m.cls := hown
  have w_0 := hts (.fieldLink RX11 40 "SoldToBehind" "ruleReader" "LSoldToBehind$RuleReader;") (gt_k wd_2_102)
  have w_1 := hts (.fieldLink RX11 10 "SoldToBehind" "text" "LSoldToBehind$Text;") (gt_k wd_2_98)
  have w_2 := hts (.fieldLink RX11 26 "SoldToBehind" "town" "LSoldToBehind$Town;") (gt_k wd_2_100)
  have w_3 := hts (.fieldLink RX11 144 "SoldToBehind$Town" "rules" "[LSoldToBehind$Formula;") (gt_k wd_1_104)
  have w_4 := hts (.fieldLink RX11 148 "SoldToBehind$RuleReader" "draft" "LSoldToBehind$Formula;") (gt_k wd_1_178)
  have w_5 := hts (.fieldLink RX11 95 "SoldToBehind" "reachStands" "Z") (gt_k wd_2_114)
  refine lv_iload_n hx hb dX11_rule_0 rfl (lv_at hl 1 rfl) ?_
  refine lv_if_lt (tgt := 13) hx hb dX11_rule_1 (by decide +kernel) (fun c => absurd c (by decide +kernel)) (fun _ => ?_)
  refine lv_iload_n hx hb dX11_rule_4 rfl (lv_at hl 1 rfl) ?_
  refine lv_iconst (v := 4) hx hb dX11_rule_5 (by decide +kernel) ?_
  refine lv_icmp_ge (tgt := 13) hx hb dX11_rule_6 (by decide +kernel) (fun c => absurd c (by decide +kernel)) (fun _ => ?_)
  refine lv_iconst (v := 1) hx hb dX11_rule_9 (by decide +kernel) ?_
  refine lv_goto (tgt := 14) hx hb dX11_rule_10 (by decide +kernel) ?_
  refine lv_istore_n (lv' := [(2, .int 1), (0, .ref a0), (1, .int 1)]) hx hb dX11_rule_14 rfl hl (by decide +kernel) rfl (fun ls hl => ?_)
  refine lv_iload_n hx hb dX11_rule_15 rfl (lv_at hl 0 rfl) ?_
  refine lv_if_eq (tgt := 33) hx hb dX11_rule_16 (by decide +kernel) (fun c => absurd c (by decide +kernel)) (fun _ => ?_)
  refine lv_aload_n hx hb dX11_rule_19 rfl (lv_at hl 1 rfl) ?_
  refine va_get (D := D) (ci := 11) (v := .ref a5) (C := RX11) (T := TX11) (N := 17) hx hb hts (gt_c iG_X11) hown hK hP 0 rfl rfl 4 (by decide +kernel) w_0 (fun _ h9 => h9) rfl dX11_rule_20 ?_
  refine lv_aload_n hx hb dX11_rule_23 rfl (lv_at hl 1 rfl) ?_
  refine va_get (D := D) (ci := 11) (v := .ref a1) (C := RX11) (T := TX11) (N := 17) hx hb hts (gt_c iG_X11) hown hK hP 0 rfl rfl 0 (by decide +kernel) w_1 (fun _ h9 => h9) rfl dX11_rule_24 ?_
  refine nj_i (ws := [(a0, .inr (11, [.ref a1, .ref a2, .ref a3, .ref a4, .ref a5, .ref a6, .ref a7, .ref a8, .ref a9, .ref a10, .ref a11, .ref a12, .ref a13, .ref a14, .int 1, .null, .int 0])), (a5, .inr (6, [.ref a15, .ref a16, .int 0, .int 0, .int 0, .int 0, .int 1])), (a15, .inr (0, [.ref a17, .int 0])), (a1, .inr (8, [.ref a18, .int 0])), (a3, .inr (9, [.ref a19, .ref a20, .ref a21, .ref a22, .int 0, .ref a23, .ref a24])), (a22, .inl (y 4, 4, .inr (.inr (.inr (.inr (va_up (va_up (va_up (va_up nn 0 (some a25)) 1 (some a26)) 2 (some a27)) 3 (some a28))))))), (a26, .inr (0, [.ref a29, .int 0])), (a17, .inl (y 0, 40, .inl nz)), (a29, .inl (y 0, 40, .inl nz))]) (wc := [(a5, .inr (6, [.ref a15, .ref a16, .int 0, .int 0, .int 0, .int 0, .int 1])), (a15, .inr (0, [.ref a17, .int 0])), (a1, .inr (8, [.ref a18, .int 0]))]) (wr := [(a0, .inr (11, [.ref a1, .ref a2, .ref a3, .ref a4, .ref a5, .ref a6, .ref a7, .ref a8, .ref a9, .ref a10, .ref a11, .ref a12, .ref a13, .ref a14, .int 1, .null, .int 0])), (a3, .inr (9, [.ref a19, .ref a20, .ref a21, .ref a22, .int 0, .ref a23, .ref a24])), (a22, .inl (y 4, 4, .inr (.inr (.inr (.inr (va_up (va_up (va_up (va_up nn 0 (some a25)) 1 (some a26)) 2 (some a27)) 3 (some a28))))))), (a26, .inr (0, [.ref a29, .int 0])), (a17, .inl (y 0, 40, .inl nz)), (a29, .inl (y 0, 40, .inl nz))]) (nr_V (As := [.ref a1]) (rest := []) ⟨hx, hb, hml, hown, hts⟩ (cX6_read_1 l D y a5 a1 a15 a16 a17 a18 H.size) (cwV 1 hts gX11_rule_X6_read rfl rfl rfl (by decide +kernel) ⟨Nat.le_of_ble_eq_true rfl, Nat.le_of_ble_eq_true rfl⟩) hK hP hD hE [1, 2, 3] rfl (by decide +kernel) 0 6 rfl rfl rfl rfl rfl hl.1 rfl (lv_room (Nat.le_of_ble_eq_true rfl)) dX11_rule_27 ⟨Nat.le_of_ble_eq_true rfl, Nat.le_of_ble_eq_true rfl⟩) hP hD hS hA [1, 2, 3] [0, 4, 5, 6, 7, 8] rfl rfl (by decide +kernel) (by decide +kernel) (fun r2 u1 H locs er2 hP hD hS => ?_)
  subst er2
  refine lv_goto (tgt := 34) hx hb dX11_rule_30 (by decide +kernel) ?_
  refine lv_istore_n (lv' := [(3, .int (-1)), (2, .int 1), (0, .ref a0), (1, .int 1)]) hx hb dX11_rule_34 rfl hl (by decide +kernel) rfl (fun ls hl => ?_)
  refine lv_aload_n hx hb dX11_rule_35 rfl (lv_at hl 2 rfl) ?_
  refine va_get (D := D) (ci := 11) (v := .ref a1) (C := RX11) (T := TX11) (N := 17) hx hb hts (gt_c iG_X11) hown hK hP 0 rfl rfl 0 (by decide +kernel) w_1 (fun _ h9 => h9) rfl dX11_rule_36 ?_
  refine lv_iconst (v := 0) hx hb dX11_rule_39 (by decide +kernel) ?_
  refine nj_i (ws := [(a0, .inr (11, [.ref a1, .ref a2, .ref a3, .ref a4, .ref a5, .ref a6, .ref a7, .ref a8, .ref a9, .ref a10, .ref a11, .ref a12, .ref a13, .ref a14, .int 1, .null, .int 0])), (a3, .inr (9, [.ref a19, .ref a20, .ref a21, .ref a22, .int 0, .ref a23, .ref a24])), (a22, .inl (y 4, 4, .inr (.inr (.inr (.inr (va_up (va_up (va_up (va_up nn 0 (some a25)) 1 (some a26)) 2 (some a27)) 3 (some a28))))))), (a26, .inr (0, [.ref a29, .int 0])), (a17, .inl (y 0, 40, .inl nz)), (a29, .inl (y 0, 40, .inl nz)), (a15, .inr (0, [.ref a17, .int 0])), (a1, .inr (8, [.ref a18, .int 0])), (a5, .inr (6, [.ref a15, .ref a16, .int 0, .int 0, .int 0, .int 0, .int 1]))]) (wc := [(a1, .inr (8, [.ref a18, .int 0]))]) (wr := [(a0, .inr (11, [.ref a1, .ref a2, .ref a3, .ref a4, .ref a5, .ref a6, .ref a7, .ref a8, .ref a9, .ref a10, .ref a11, .ref a12, .ref a13, .ref a14, .int 1, .null, .int 0])), (a3, .inr (9, [.ref a19, .ref a20, .ref a21, .ref a22, .int 0, .ref a23, .ref a24])), (a22, .inl (y 4, 4, .inr (.inr (.inr (.inr (va_up (va_up (va_up (va_up nn 0 (some a25)) 1 (some a26)) 2 (some a27)) 3 (some a28))))))), (a26, .inr (0, [.ref a29, .int 0])), (a17, .inl (y 0, 40, .inl nz)), (a29, .inl (y 0, 40, .inl nz)), (a15, .inr (0, [.ref a17, .int 0])), (a5, .inr (6, [.ref a15, .ref a16, .int 0, .int 0, .int 0, .int 0, .int 1]))]) (nr_V (As := [.int 0]) (rest := []) ⟨hx, hb, hml, hown, hts⟩ (cX8_cut_2 l D y a1 a18 H.size) (cwV 1 hts gX11_rule_X8_cut rfl rfl rfl (by decide +kernel) ⟨Nat.le_of_ble_eq_true rfl, Nat.le_of_ble_eq_true rfl⟩) hK hP hD hE [7] rfl (by decide +kernel) 0 8 rfl rfl rfl rfl rfl hl.1 rfl (lv_room (Nat.le_of_ble_eq_true rfl)) dX11_rule_40 ⟨Nat.le_of_ble_eq_true rfl, Nat.le_of_ble_eq_true rfl⟩) hP hD hS hA [7] [0, 1, 2, 3, 4, 5, 6, 8] rfl rfl (by decide +kernel) (by decide +kernel) (fun r4 u3 H locs er4 hP hD hS => ?_)
  subst er4
  refine lv_pop hx hb dX11_rule_43 rfl ?_
  refine lv_iload_n hx hb dX11_rule_44 rfl (lv_at hl 1 rfl) ?_
  refine lv_if_ne (tgt := 51) hx hb dX11_rule_45 (by decide +kernel) (fun _ => ?_) (fun c => absurd c (by decide +kernel))
  refine lv_iload_n hx hb dX11_rule_51 rfl (lv_at hl 0 rfl) ?_
  refine lv_iconst (v := (-1)) hx hb dX11_rule_52 (by decide +kernel) ?_
  refine lv_icmp_eq (tgt := 60) hx hb dX11_rule_53 (by decide +kernel) (fun _ => ?_) (fun c => absurd (by decide +kernel) c)
  refine lv_aload_n hx hb dX11_rule_60 rfl (lv_at hl 2 rfl) ?_
  refine va_get (D := D) (ci := 11) (v := .ref a3) (C := RX11) (T := TX11) (N := 17) hx hb hts (gt_c iG_X11) hown hK hP 0 rfl rfl 2 (by decide +kernel) w_2 (fun _ h9 => h9) rfl dX11_rule_61 ?_
  refine va_get (D := D) (ci := 9) (v := .ref a22) (C := RX9) (T := TX9) (N := 7) hx hb hts (gt_c iG_X9) hown hK hP 1 rfl rfl 3 (by decide +kernel) w_3 (fun _ h9 => h9) rfl dX11_rule_64 ?_
  refine lv_iload_n hx hb dX11_rule_67 rfl (lv_at hl 3 rfl) ?_
  refine va_aldq hx hb hK hP 2 4 rfl rfl (n_in (by decide +kernel)) dX11_rule_68 ?_
  refine nv (v := .ref a26) rfl ?_
  refine lv_aload_n hx hb dX11_rule_69 rfl (lv_at hl 2 rfl) ?_
  refine va_get (D := D) (ci := 11) (v := .ref a5) (C := RX11) (T := TX11) (N := 17) hx hb hts (gt_c iG_X11) hown hK hP 0 rfl rfl 4 (by decide +kernel) w_0 (fun _ h9 => h9) rfl dX11_rule_70 ?_
  refine va_get (D := D) (ci := 6) (v := .ref a15) (C := RX6) (T := TX6) (N := 7) hx hb hts (gt_c iG_X6) hown hK hP 7 rfl rfl 0 (by decide +kernel) w_4 (fun _ h9 => h9) rfl dX11_rule_73 ?_
  refine nj_v (ws := [(a0, .inr (11, [.ref a1, .ref a2, .ref a3, .ref a4, .ref a5, .ref a6, .ref a7, .ref a8, .ref a9, .ref a10, .ref a11, .ref a12, .ref a13, .ref a14, .int 1, .null, .int 0])), (a3, .inr (9, [.ref a19, .ref a20, .ref a21, .ref a22, .int 0, .ref a23, .ref a24])), (a22, .inl (y 4, 4, .inr (.inr (.inr (.inr (va_up (va_up (va_up (va_up nn 0 (some a25)) 1 (some a26)) 2 (some a27)) 3 (some a28))))))), (a26, .inr (0, [.ref a29, .int 0])), (a17, .inl (y 0, 40, .inl nz)), (a29, .inl (y 0, 40, .inl nz)), (a15, .inr (0, [.ref a17, .int 0])), (a5, .inr (6, [.ref a15, .ref a16, .int 0, .int 0, .int 0, .int 0, .int 1])), (a1, .inr (8, [.ref a18, .int 0]))]) (wc := [(a26, .inr (0, [.ref a29, .int 0])), (a15, .inr (0, [.ref a17, .int 0])), (a17, .inl (y 0, 40, .inl nz)), (a29, .inl (y 0, 40, .inl nz))]) (wr := [(a0, .inr (11, [.ref a1, .ref a2, .ref a3, .ref a4, .ref a5, .ref a6, .ref a7, .ref a8, .ref a9, .ref a10, .ref a11, .ref a12, .ref a13, .ref a14, .int 1, .null, .int 0])), (a3, .inr (9, [.ref a19, .ref a20, .ref a21, .ref a22, .int 0, .ref a23, .ref a24])), (a22, .inl (y 4, 4, .inr (.inr (.inr (.inr (va_up (va_up (va_up (va_up nn 0 (some a25)) 1 (some a26)) 2 (some a27)) 3 (some a28))))))), (a5, .inr (6, [.ref a15, .ref a16, .int 0, .int 0, .int 0, .int 0, .int 1])), (a1, .inr (8, [.ref a18, .int 0]))]) (nr_V (As := [.ref a15]) (rest := []) ⟨hx, hb, hml, hown, hts⟩ (cX0_copy_1 l D y a26 a15 a29 a17 H.size) (cwV 1 hts gX11_rule_X0_copy rfl rfl rfl (by decide +kernel) ⟨Nat.le_of_ble_eq_true rfl, Nat.le_of_ble_eq_true rfl⟩) hK hP hD hE [3, 6, 4, 5] rfl (by decide +kernel) 0 0 rfl rfl rfl rfl rfl hl.1 rfl (lv_room (Nat.le_of_ble_eq_true rfl)) dX11_rule_76 ⟨Nat.le_of_ble_eq_true rfl, Nat.le_of_ble_eq_true rfl⟩) hP hD hS hA [3, 6, 4, 5] [0, 1, 2, 7, 8] rfl rfl (by decide +kernel) (by decide +kernel) (fun u5 H locs _ hP hD hS => ?_)
  refine lv_aload_n hx hb dX11_rule_79 rfl (lv_at hl 2 rfl) ?_
  refine lv_iconst (v := 0) hx hb dX11_rule_80 (by decide +kernel) ?_
  refine nb_put (D := D) (ci := 11) (v := .int 0) (ty := .boolean) (C := RX11) (T := TX11) (N := 17) (ws' := [(a0, .inr (11, [.ref a1, .ref a2, .ref a3, .ref a4, .ref a5, .ref a6, .ref a7, .ref a8, .ref a9, .ref a10, .ref a11, .ref a12, .ref a13, .ref a14, .int 1, .null, .int 0])), (a3, .inr (9, [.ref a19, .ref a20, .ref a21, .ref a22, .int 0, .ref a23, .ref a24])), (a22, .inl (y 4, 4, .inr (.inr (.inr (.inr (va_up (va_up (va_up (va_up nn 0 (some a25)) 1 (some a26)) 2 (some a27)) 3 (some a28))))))), (a5, .inr (6, [.ref a15, .ref a16, .int 0, .int 0, .int 0, .int 0, .int 1])), (a1, .inr (8, [.ref a18, .int 0])), (a26, .inr (0, [.ref a29, .int 0])), (a15, .inr (0, [.ref a17, .int 0])), (a17, .inl (y 0, 40, .inl nz)), (a29, .inl (y 0, 40, .inl nz))]) hx hb hts (gt_c iG_X11) tyX11 tyX11_ok nmX11 hown hK hP hD hS 0 rfl rfl 16 (by decide +kernel) w_5 (fun _ h9 => h9) rfl (by decide +kernel) rfl rfl (Nat.le_of_ble_eq_true rfl) rfl dX11_rule_81 (fun H locs hP hD hS => ?_)
  refine lv_iconst (v := 0) hx hb dX11_rule_84 (by decide +kernel) ?_
  refine W.widen (k := 0) (n := 0) (Nat.le_of_ble_eq_true rfl) (Nat.le_of_ble_eq_true rfl) ?_
  exact W.iret (v := 0) hx hb hr (fun t ht hW => ⟨⟨0, (fun _ => 0), rfl, rfl, by rw [ht]; exact hP, va_K.moved hW.alike hK, hD⟩, hS.F ht⟩) hS.2.2 dX11_rule_85 hlocks
