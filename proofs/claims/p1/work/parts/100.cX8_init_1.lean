theorem wd_1_83 : (Cond.code yX0_init cX0_init 1 none) ∈ gT := gt_m1 83 (by decide +kernel) (by decide +kernel)
theorem wd_2_24 : (Cond.code yX2_init cX2_init 2 none) ∈ gT := gt_m2 24 (by decide +kernel) (by decide +kernel)
theorem wd_2_154 : (Cond.methodLink RX11 99 yX8_join) ∈ gT := gt_m2 154 (by decide +kernel) (by decide +kernel)
theorem wd_2_155 : (Cond.instanceMethod yX8_join) ∈ gT := gt_m2 155 (by decide +kernel) (by decide +kernel)
theorem wd_2_156 : (Cond.selects RX8 yX8_join yX8_join) ∈ gT := gt_m2 156 (by decide +kernel) (by decide +kernel)
theorem wd_1_2 : (Cond.initialized RX8) ∈ gT := gt_m1 2 (by decide +kernel) (by decide +kernel)
theorem wd_2_157 : (Cond.code yX8_join cX8_join 3 (some .boolean)) ∈ gT := gt_m2 157 (by decide +kernel) (by decide +kernel)
theorem wd_2_162 : (Cond.methodLink RX11 106 yX8_cut) ∈ gT := gt_m2 162 (by decide +kernel) (by decide +kernel)
theorem wd_2_163 : (Cond.instanceMethod yX8_cut) ∈ gT := gt_m2 163 (by decide +kernel) (by decide +kernel)
theorem wd_2_164 : (Cond.selects RX8 yX8_cut yX8_cut) ∈ gT := gt_m2 164 (by decide +kernel) (by decide +kernel)
theorem wd_2_165 : (Cond.code yX8_cut cX8_cut 2 (some .boolean)) ∈ gT := gt_m2 165 (by decide +kernel) (by decide +kernel)
theorem wd_1_40 : (Cond.methodLink RX8 3 objectInit) ∈ gT := gt_m1 40 (by decide +kernel) (by decide +kernel)
theorem wd_1_33 : (Cond.instanceMethod objectInit) ∈ gT := gt_m1 33 (by decide +kernel) (by decide +kernel)
theorem wd_1_34 : (Cond.code objectInit ⟨#[0xb1]⟩ 1 none) ∈ gT := gt_m1 34 (by decide +kernel) (by decide +kernel)
theorem wd_1_53 : (Cond.arrayClass .int) ∈ gT := gt_m1 53 (by decide +kernel) (by decide +kernel)
theorem wd_1_41 : (Cond.fieldLink RX8 9 "SoldToBehind$Text" "signs" "[I") ∈ gT := gt_m1 41 (by decide +kernel) (by decide +kernel)
theorem wd_1_44 : (Cond.fieldLink RX8 15 "SoldToBehind$Text" "size" "I") ∈ gT := gt_m1 44 (by decide +kernel) (by decide +kernel)
theorem wd_1_59 : (Cond.methodLink RX5 3 objectInit) ∈ gT := gt_m1 59 (by decide +kernel) (by decide +kernel)
theorem wd_1_71 : (Cond.arrayClass .long) ∈ gT := gt_m1 71 (by decide +kernel) (by decide +kernel)
theorem wd_1_60 : (Cond.fieldLink RX5 9 "SoldToBehind$Row" "numbers" "[J") ∈ gT := gt_m1 60 (by decide +kernel) (by decide +kernel)
theorem wd_1_63 : (Cond.fieldLink RX5 15 "SoldToBehind$Row" "size" "I") ∈ gT := gt_m1 63 (by decide +kernel) (by decide +kernel)
theorem wd_1_84 : (Cond.methodLink RX0 3 objectInit) ∈ gT := gt_m1 84 (by decide +kernel) (by decide +kernel)
theorem wd_1_85 : (Cond.fieldLink RX0 9 "SoldToBehind$Formula" "steps" "[I") ∈ gT := gt_m1 85 (by decide +kernel) (by decide +kernel)
theorem wd_1_86 : (Cond.fieldLink RX0 15 "SoldToBehind$Formula" "size" "I") ∈ gT := gt_m1 86 (by decide +kernel) (by decide +kernel)
theorem wd_1_77 : (Cond.methodLink RX9 3 objectInit) ∈ gT := gt_m1 77 (by decide +kernel) (by decide +kernel)
theorem wd_1_94 : (Cond.fieldLink RX9 9 "SoldToBehind$Town" "minutes" "[I") ∈ gT := gt_m1 94 (by decide +kernel) (by decide +kernel)
theorem wd_1_98 : (Cond.fieldLink RX9 15 "SoldToBehind$Town" "ruleOf" "[I") ∈ gT := gt_m1 98 (by decide +kernel) (by decide +kernel)
theorem wd_1_100 : (Cond.fieldLink RX9 18 "SoldToBehind$Town" "friends" "[I") ∈ gT := gt_m1 100 (by decide +kernel) (by decide +kernel)
theorem wd_1_78 : (Cond.classLink RX9 21 RX0) ∈ gT := gt_m1 78 (by decide +kernel) (by decide +kernel)
theorem wd_1_103 : (Cond.fieldLink RX9 23 "SoldToBehind$Town" "rules" "[LSoldToBehind$Formula;") ∈ gT := gt_m1 103 (by decide +kernel) (by decide +kernel)
theorem wd_1_105 : (Cond.fieldLink RX9 27 "SoldToBehind$Town" "people" "I") ∈ gT := gt_m1 105 (by decide +kernel) (by decide +kernel)
theorem wd_1_107 : (Cond.fieldLink RX9 31 "SoldToBehind$Town" "signs" "[I") ∈ gT := gt_m1 107 (by decide +kernel) (by decide +kernel)
theorem wd_1_108 : (Cond.fieldLink RX9 34 "SoldToBehind$Town" "stack" "[I") ∈ gT := gt_m1 108 (by decide +kernel) (by decide +kernel)
theorem wd_1_80 : (Cond.instantiable RX0 2) ∈ gT := gt_m1 80 (by decide +kernel) (by decide +kernel)
theorem wd_1_5 : (Cond.initialized RX0) ∈ gT := gt_m1 5 (by decide +kernel) (by decide +kernel)
theorem wd_1_82 : (Cond.instanceMethod yX0_init) ∈ gT := gt_m1 82 (by decide +kernel) (by decide +kernel)
theorem wd_1_129 : (Cond.methodLink RX10 3 objectInit) ∈ gT := gt_m1 129 (by decide +kernel) (by decide +kernel)
theorem wd_1_130 : (Cond.fieldLink RX10 9 "SoldToBehind$TownReader" "purse" "[I") ∈ gT := gt_m1 130 (by decide +kernel) (by decide +kernel)
theorem wd_1_132 : (Cond.fieldLink RX10 15 "SoldToBehind$TownReader" "minutes" "[I") ∈ gT := gt_m1 132 (by decide +kernel) (by decide +kernel)
theorem wd_1_134 : (Cond.fieldLink RX10 18 "SoldToBehind$TownReader" "ruleOf" "[I") ∈ gT := gt_m1 134 (by decide +kernel) (by decide +kernel)
theorem wd_1_136 : (Cond.fieldLink RX10 21 "SoldToBehind$TownReader" "friends" "[I") ∈ gT := gt_m1 136 (by decide +kernel) (by decide +kernel)
theorem wd_1_138 : (Cond.fieldLink RX10 24 "SoldToBehind$TownReader" "stubborn" "I") ∈ gT := gt_m1 138 (by decide +kernel) (by decide +kernel)
theorem wd_1_140 : (Cond.fieldLink RX10 28 "SoldToBehind$TownReader" "people" "I") ∈ gT := gt_m1 140 (by decide +kernel) (by decide +kernel)
theorem wd_1_143 : (Cond.fieldLink RX10 31 "SoldToBehind$TownReader" "lines" "I") ∈ gT := gt_m1 143 (by decide +kernel) (by decide +kernel)
theorem wd_1_145 : (Cond.fieldLink RX10 34 "SoldToBehind$TownReader" "state" "I") ∈ gT := gt_m1 145 (by decide +kernel) (by decide +kernel)
theorem wd_1_146 : (Cond.fieldLink RX10 37 "SoldToBehind$TownReader" "digits" "I") ∈ gT := gt_m1 146 (by decide +kernel) (by decide +kernel)
theorem wd_1_147 : (Cond.fieldLink RX10 40 "SoldToBehind$TownReader" "one" "I") ∈ gT := gt_m1 147 (by decide +kernel) (by decide +kernel)
theorem wd_1_174 : (Cond.methodLink RX6 3 objectInit) ∈ gT := gt_m1 174 (by decide +kernel) (by decide +kernel)
theorem wd_1_175 : (Cond.classLink RX6 9 RX0) ∈ gT := gt_m1 175 (by decide +kernel) (by decide +kernel)
theorem wd_1_177 : (Cond.fieldLink RX6 12 "SoldToBehind$RuleReader" "draft" "LSoldToBehind$Formula;") ∈ gT := gt_m1 177 (by decide +kernel) (by decide +kernel)
theorem wd_1_179 : (Cond.fieldLink RX6 18 "SoldToBehind$RuleReader" "waiting" "[I") ∈ gT := gt_m1 179 (by decide +kernel) (by decide +kernel)
theorem wd_1_180 : (Cond.fieldLink RX6 22 "SoldToBehind$RuleReader" "waits" "I") ∈ gT := gt_m1 180 (by decide +kernel) (by decide +kernel)
theorem wd_1_181 : (Cond.fieldLink RX6 26 "SoldToBehind$RuleReader" "depth" "I") ∈ gT := gt_m1 181 (by decide +kernel) (by decide +kernel)
theorem wd_1_182 : (Cond.fieldLink RX6 29 "SoldToBehind$RuleReader" "compared" "I") ∈ gT := gt_m1 182 (by decide +kernel) (by decide +kernel)
theorem wd_1_183 : (Cond.fieldLink RX6 32 "SoldToBehind$RuleReader" "digits" "I") ∈ gT := gt_m1 183 (by decide +kernel) (by decide +kernel)
theorem wd_1_184 : (Cond.fieldLink RX6 35 "SoldToBehind$RuleReader" "wantsThing" "Z") ∈ gT := gt_m1 184 (by decide +kernel) (by decide +kernel)
theorem wd_1_205 : (Cond.methodLink RX7 3 objectInit) ∈ gT := gt_m1 205 (by decide +kernel) (by decide +kernel)
theorem wd_1_206 : (Cond.fieldLink RX7 9 "SoldToBehind$Standing" "who" "[I") ∈ gT := gt_m1 206 (by decide +kernel) (by decide +kernel)
theorem wd_1_210 : (Cond.fieldLink RX7 15 "SoldToBehind$Standing" "purse" "[I") ∈ gT := gt_m1 210 (by decide +kernel) (by decide +kernel)
theorem wd_1_214 : (Cond.fieldLink RX7 18 "SoldToBehind$Standing" "sales" "[I") ∈ gT := gt_m1 214 (by decide +kernel) (by decide +kernel)
theorem wd_1_217 : (Cond.fieldLink RX7 21 "SoldToBehind$Standing" "law" "[I") ∈ gT := gt_m1 217 (by decide +kernel) (by decide +kernel)
theorem wd_1_220 : (Cond.fieldLink RX7 24 "SoldToBehind$Standing" "size" "I") ∈ gT := gt_m1 220 (by decide +kernel) (by decide +kernel)
theorem wd_1_225 : (Cond.fieldLink RX7 28 "SoldToBehind$Standing" "stubborn" "I") ∈ gT := gt_m1 225 (by decide +kernel) (by decide +kernel)
theorem wd_1_227 : (Cond.fieldLink RX7 31 "SoldToBehind$Standing" "here" "[I") ∈ gT := gt_m1 227 (by decide +kernel) (by decide +kernel)
theorem wd_1_229 : (Cond.fieldLink RX7 34 "SoldToBehind$Standing" "ahead" "[I") ∈ gT := gt_m1 229 (by decide +kernel) (by decide +kernel)
theorem wd_1_230 : (Cond.fieldLink RX7 37 "SoldToBehind$Standing" "behind" "[I") ∈ gT := gt_m1 230 (by decide +kernel) (by decide +kernel)
theorem wd_1_231 : (Cond.fieldLink RX7 40 "SoldToBehind$Standing" "town" "LSoldToBehind$Town;") ∈ gT := gt_m1 231 (by decide +kernel) (by decide +kernel)
theorem wd_2_25 : (Cond.methodLink RX2 3 objectInit) ∈ gT := gt_m2 25 (by decide +kernel) (by decide +kernel)
theorem wd_2_26 : (Cond.fieldLink RX2 9 "SoldToBehind$Packed" "code" "[I") ∈ gT := gt_m2 26 (by decide +kernel) (by decide +kernel)
theorem wd_2_29 : (Cond.fieldLink RX2 15 "SoldToBehind$Packed" "low" "[J") ∈ gT := gt_m2 29 (by decide +kernel) (by decide +kernel)
theorem wd_2_30 : (Cond.fieldLink RX2 19 "SoldToBehind$Packed" "high" "[J") ∈ gT := gt_m2 30 (by decide +kernel) (by decide +kernel)
theorem wd_2_31 : (Cond.fieldLink RX2 22 "SoldToBehind$Packed" "sales" "[J") ∈ gT := gt_m2 31 (by decide +kernel) (by decide +kernel)
theorem wd_2_19 : (Cond.methodLink RX3 3 objectInit) ∈ gT := gt_m2 19 (by decide +kernel) (by decide +kernel)
theorem wd_2_20 : (Cond.classLink RX3 9 RX2) ∈ gT := gt_m2 20 (by decide +kernel) (by decide +kernel)
theorem wd_2_21 : (Cond.instantiable RX2 4) ∈ gT := gt_m2 21 (by decide +kernel) (by decide +kernel)
theorem wd_1_10 : (Cond.initialized RX2) ∈ gT := gt_m1 10 (by decide +kernel) (by decide +kernel)
theorem wd_2_22 : (Cond.methodLink RX3 11 yX2_init) ∈ gT := gt_m2 22 (by decide +kernel) (by decide +kernel)
theorem wd_2_23 : (Cond.instanceMethod yX2_init) ∈ gT := gt_m2 23 (by decide +kernel) (by decide +kernel)
theorem wd_2_41 : (Cond.fieldLink RX3 14 "SoldToBehind$Past" "lines" "LSoldToBehind$Packed;") ∈ gT := gt_m2 41 (by decide +kernel) (by decide +kernel)
theorem wd_2_42 : (Cond.fieldLink RX3 20 "SoldToBehind$Past" "oldest" "I") ∈ gT := gt_m2 42 (by decide +kernel) (by decide +kernel)
theorem wd_2_43 : (Cond.fieldLink RX3 24 "SoldToBehind$Past" "size" "I") ∈ gT := gt_m2 43 (by decide +kernel) (by decide +kernel)
theorem wd_2_57 : (Cond.methodLink RX1 3 objectInit) ∈ gT := gt_m2 57 (by decide +kernel) (by decide +kernel)
theorem wd_2_58 : (Cond.fieldLink RX1 9 "SoldToBehind$Orders" "found" "I") ∈ gT := gt_m2 58 (by decide +kernel) (by decide +kernel)
theorem wd_2_60 : (Cond.fieldLink RX1 15 "SoldToBehind$Orders" "best" "I") ∈ gT := gt_m2 60 (by decide +kernel) (by decide +kernel)
theorem wd_2_62 : (Cond.fieldLink RX1 18 "SoldToBehind$Orders" "bestCode" "J") ∈ gT := gt_m2 62 (by decide +kernel) (by decide +kernel)
theorem wd_2_64 : (Cond.fieldLink RX1 22 "SoldToBehind$Orders" "leastCode" "J") ∈ gT := gt_m2 64 (by decide +kernel) (by decide +kernel)
theorem wd_2_66 : (Cond.fieldLink RX1 25 "SoldToBehind$Orders" "tally" "[I") ∈ gT := gt_m2 66 (by decide +kernel) (by decide +kernel)
theorem wd_2_68 : (Cond.fieldLink RX1 29 "SoldToBehind$Orders" "people" "[I") ∈ gT := gt_m2 68 (by decide +kernel) (by decide +kernel)
theorem wd_2_69 : (Cond.fieldLink RX1 32 "SoldToBehind$Orders" "values" "[I") ∈ gT := gt_m2 69 (by decide +kernel) (by decide +kernel)
theorem wd_2_70 : (Cond.fieldLink RX1 35 "SoldToBehind$Orders" "chosen" "[I") ∈ gT := gt_m2 70 (by decide +kernel) (by decide +kernel)
theorem wd_2_71 : (Cond.fieldLink RX1 38 "SoldToBehind$Orders" "size" "I") ∈ gT := gt_m2 71 (by decide +kernel) (by decide +kernel)
theorem wd_2_72 : (Cond.fieldLink RX1 41 "SoldToBehind$Orders" "watched" "I") ∈ gT := gt_m2 72 (by decide +kernel) (by decide +kernel)
theorem wd_2_73 : (Cond.fieldLink RX1 44 "SoldToBehind$Orders" "restsOnly" "Z") ∈ gT := gt_m2 73 (by decide +kernel) (by decide +kernel)
theorem wd_2_98 : (Cond.fieldLink RX11 10 "SoldToBehind" "text" "LSoldToBehind$Text;") ∈ gT := gt_m2 98 (by decide +kernel) (by decide +kernel)
theorem wd_1_45 : (Cond.fieldLink RX11 103 "SoldToBehind$Text" "size" "I") ∈ gT := gt_m1 45 (by decide +kernel) (by decide +kernel)
theorem wd_6_211 : (Cond.fieldLink RX12 127 "SoldToBehindModel" "thrown" "I") ∈ gT := gt_m6 211 (by decide +kernel) (by decide +kernel)
theorem wd_6_208 : (Cond.fieldLink RX12 151 "SoldToBehindModel" "typed" "I") ∈ gT := gt_m6 208 (by decide +kernel) (by decide +kernel)
theorem wd_6_207 : (Cond.fieldLink RX12 45 "SoldToBehindModel" "text" "[B") ∈ gT := gt_m6 207 (by decide +kernel) (by decide +kernel)
theorem dX8_init_0 : decode cX8_init 0 = .ok (.aload_n 0, 1) := by decide +kernel
theorem dX8_init_1 : decode cX8_init 1 = .ok (.invokespecial 3, 3) := by decide +kernel
theorem dX8_init_4 : decode cX8_init 4 = .ok (.aload_n 0, 1) := by decide +kernel
theorem dX8_init_5 : decode cX8_init 5 = .ok (.bipush 80, 2) := by decide +kernel
theorem dX8_init_7 : decode cX8_init 7 = .ok (.newarray .int, 2) := by decide +kernel
theorem dX8_init_9 : decode cX8_init 9 = .ok (.putfield 9, 3) := by decide +kernel
theorem dX8_init_12 : decode cX8_init 12 = .ok (.aload_n 0, 1) := by decide +kernel
theorem dX8_init_13 : decode cX8_init 13 = .ok (.iconst 0, 1) := by decide +kernel
theorem dX8_init_14 : decode cX8_init 14 = .ok (.putfield 15, 3) := by decide +kernel
theorem dX8_init_17 : decode cX8_init 17 = .ok (.return_, 1) := by decide +kernel
theorem dX5_init_0 : decode cX5_init 0 = .ok (.aload_n 0, 1) := by decide +kernel
theorem dX5_init_1 : decode cX5_init 1 = .ok (.invokespecial 3, 3) := by decide +kernel
theorem dX5_init_4 : decode cX5_init 4 = .ok (.aload_n 0, 1) := by decide +kernel
theorem dX5_init_5 : decode cX5_init 5 = .ok (.bipush 9, 2) := by decide +kernel
theorem dX5_init_7 : decode cX5_init 7 = .ok (.newarray .long, 2) := by decide +kernel
theorem dX5_init_9 : decode cX5_init 9 = .ok (.putfield 9, 3) := by decide +kernel
theorem dX5_init_12 : decode cX5_init 12 = .ok (.aload_n 0, 1) := by decide +kernel
theorem dX5_init_13 : decode cX5_init 13 = .ok (.iconst 0, 1) := by decide +kernel
theorem dX5_init_14 : decode cX5_init 14 = .ok (.putfield 15, 3) := by decide +kernel
theorem dX5_init_17 : decode cX5_init 17 = .ok (.return_, 1) := by decide +kernel
theorem dX0_init_0 : decode cX0_init 0 = .ok (.aload_n 0, 1) := by decide +kernel
theorem dX0_init_1 : decode cX0_init 1 = .ok (.invokespecial 3, 3) := by decide +kernel
theorem dX0_init_4 : decode cX0_init 4 = .ok (.aload_n 0, 1) := by decide +kernel
theorem dX0_init_5 : decode cX0_init 5 = .ok (.bipush 40, 2) := by decide +kernel
theorem dX0_init_7 : decode cX0_init 7 = .ok (.newarray .int, 2) := by decide +kernel
theorem dX0_init_9 : decode cX0_init 9 = .ok (.putfield 9, 3) := by decide +kernel
theorem dX0_init_12 : decode cX0_init 12 = .ok (.aload_n 0, 1) := by decide +kernel
theorem dX0_init_13 : decode cX0_init 13 = .ok (.iconst 0, 1) := by decide +kernel
theorem dX0_init_14 : decode cX0_init 14 = .ok (.putfield 15, 3) := by decide +kernel
theorem dX0_init_17 : decode cX0_init 17 = .ok (.return_, 1) := by decide +kernel
theorem dX9_init_0 : decode cX9_init 0 = .ok (.aload_n 0, 1) := by decide +kernel
theorem dX9_init_1 : decode cX9_init 1 = .ok (.invokespecial 3, 3) := by decide +kernel
theorem dX9_init_4 : decode cX9_init 4 = .ok (.aload_n 0, 1) := by decide +kernel
theorem dX9_init_5 : decode cX9_init 5 = .ok (.bipush 9, 2) := by decide +kernel
theorem dX9_init_7 : decode cX9_init 7 = .ok (.newarray .int, 2) := by decide +kernel
theorem dX9_init_9 : decode cX9_init 9 = .ok (.putfield 9, 3) := by decide +kernel
theorem dX9_init_12 : decode cX9_init 12 = .ok (.aload_n 0, 1) := by decide +kernel
theorem dX9_init_13 : decode cX9_init 13 = .ok (.bipush 9, 2) := by decide +kernel
theorem dX9_init_15 : decode cX9_init 15 = .ok (.newarray .int, 2) := by decide +kernel
theorem dX9_init_17 : decode cX9_init 17 = .ok (.putfield 15, 3) := by decide +kernel
theorem dX9_init_20 : decode cX9_init 20 = .ok (.aload_n 0, 1) := by decide +kernel
theorem dX9_init_21 : decode cX9_init 21 = .ok (.bipush 9, 2) := by decide +kernel
theorem dX9_init_23 : decode cX9_init 23 = .ok (.newarray .int, 2) := by decide +kernel
theorem dX9_init_25 : decode cX9_init 25 = .ok (.putfield 18, 3) := by decide +kernel
theorem dX9_init_28 : decode cX9_init 28 = .ok (.aload_n 0, 1) := by decide +kernel
theorem dX9_init_29 : decode cX9_init 29 = .ok (.iconst 4, 1) := by decide +kernel
theorem dX9_init_30 : decode cX9_init 30 = .ok (.anewarray 21, 3) := by decide +kernel
theorem dX9_init_33 : decode cX9_init 33 = .ok (.putfield 23, 3) := by decide +kernel
theorem dX9_init_36 : decode cX9_init 36 = .ok (.aload_n 0, 1) := by decide +kernel
theorem dX9_init_37 : decode cX9_init 37 = .ok (.iconst 0, 1) := by decide +kernel
theorem dX9_init_38 : decode cX9_init 38 = .ok (.putfield 27, 3) := by decide +kernel
theorem dX9_init_41 : decode cX9_init 41 = .ok (.aload_n 0, 1) := by decide +kernel
theorem dX9_init_42 : decode cX9_init 42 = .ok (.bipush 7, 2) := by decide +kernel
theorem dX9_init_44 : decode cX9_init 44 = .ok (.newarray .int, 2) := by decide +kernel
theorem dX9_init_46 : decode cX9_init 46 = .ok (.putfield 31, 3) := by decide +kernel
theorem dX9_init_49 : decode cX9_init 49 = .ok (.aload_n 0, 1) := by decide +kernel
theorem dX9_init_50 : decode cX9_init 50 = .ok (.bipush 40, 2) := by decide +kernel
theorem dX9_init_52 : decode cX9_init 52 = .ok (.newarray .int, 2) := by decide +kernel
theorem dX9_init_54 : decode cX9_init 54 = .ok (.putfield 34, 3) := by decide +kernel
theorem dX9_init_57 : decode cX9_init 57 = .ok (.iconst 0, 1) := by decide +kernel
theorem dX9_init_58 : decode cX9_init 58 = .ok (.istore_n 1, 1) := by decide +kernel
theorem dX9_init_59 : decode cX9_init 59 = .ok (.iload_n 1, 1) := by decide +kernel
theorem dX9_init_60 : decode cX9_init 60 = .ok (.iconst 4, 1) := by decide +kernel
theorem dX9_init_61 : decode cX9_init 61 = .ok (.if_icmp .ge 22, 3) := by decide +kernel
theorem dX9_init_64 : decode cX9_init 64 = .ok (.aload_n 0, 1) := by decide +kernel
theorem dX9_init_65 : decode cX9_init 65 = .ok (.getfield 23, 3) := by decide +kernel
theorem dX9_init_68 : decode cX9_init 68 = .ok (.iload_n 1, 1) := by decide +kernel
theorem dX9_init_69 : decode cX9_init 69 = .ok (.new 21, 3) := by decide +kernel
theorem dX9_init_72 : decode cX9_init 72 = .ok (.dup, 1) := by decide +kernel
theorem dX9_init_73 : decode cX9_init 73 = .ok (.invokespecial 37, 3) := by decide +kernel
theorem dX9_init_76 : decode cX9_init 76 = .ok (.aastore, 1) := by decide +kernel
theorem dX9_init_77 : decode cX9_init 77 = .ok (.iinc 1 1, 3) := by decide +kernel
theorem dX9_init_80 : decode cX9_init 80 = .ok (.goto (-21), 3) := by decide +kernel
theorem dX9_init_83 : decode cX9_init 83 = .ok (.return_, 1) := by decide +kernel
theorem dX10_init_0 : decode cX10_init 0 = .ok (.aload_n 0, 1) := by decide +kernel
theorem dX10_init_1 : decode cX10_init 1 = .ok (.invokespecial 3, 3) := by decide +kernel
theorem dX10_init_4 : decode cX10_init 4 = .ok (.aload_n 0, 1) := by decide +kernel
theorem dX10_init_5 : decode cX10_init 5 = .ok (.bipush 9, 2) := by decide +kernel
theorem dX10_init_7 : decode cX10_init 7 = .ok (.newarray .int, 2) := by decide +kernel
theorem dX10_init_9 : decode cX10_init 9 = .ok (.putfield 9, 3) := by decide +kernel
theorem dX10_init_12 : decode cX10_init 12 = .ok (.aload_n 0, 1) := by decide +kernel
theorem dX10_init_13 : decode cX10_init 13 = .ok (.bipush 9, 2) := by decide +kernel
theorem dX10_init_15 : decode cX10_init 15 = .ok (.newarray .int, 2) := by decide +kernel
theorem dX10_init_17 : decode cX10_init 17 = .ok (.putfield 15, 3) := by decide +kernel
theorem dX10_init_20 : decode cX10_init 20 = .ok (.aload_n 0, 1) := by decide +kernel
theorem dX10_init_21 : decode cX10_init 21 = .ok (.bipush 9, 2) := by decide +kernel
theorem dX10_init_23 : decode cX10_init 23 = .ok (.newarray .int, 2) := by decide +kernel
theorem dX10_init_25 : decode cX10_init 25 = .ok (.putfield 18, 3) := by decide +kernel
theorem dX10_init_28 : decode cX10_init 28 = .ok (.aload_n 0, 1) := by decide +kernel
theorem dX10_init_29 : decode cX10_init 29 = .ok (.bipush 9, 2) := by decide +kernel
theorem dX10_init_31 : decode cX10_init 31 = .ok (.newarray .int, 2) := by decide +kernel
theorem dX10_init_33 : decode cX10_init 33 = .ok (.putfield 21, 3) := by decide +kernel
theorem dX10_init_36 : decode cX10_init 36 = .ok (.aload_n 0, 1) := by decide +kernel
theorem dX10_init_37 : decode cX10_init 37 = .ok (.iconst 0, 1) := by decide +kernel
theorem dX10_init_38 : decode cX10_init 38 = .ok (.putfield 24, 3) := by decide +kernel
theorem dX10_init_41 : decode cX10_init 41 = .ok (.aload_n 0, 1) := by decide +kernel
theorem dX10_init_42 : decode cX10_init 42 = .ok (.iconst 0, 1) := by decide +kernel
theorem dX10_init_43 : decode cX10_init 43 = .ok (.putfield 28, 3) := by decide +kernel
theorem dX10_init_46 : decode cX10_init 46 = .ok (.aload_n 0, 1) := by decide +kernel
theorem dX10_init_47 : decode cX10_init 47 = .ok (.iconst 0, 1) := by decide +kernel
theorem dX10_init_48 : decode cX10_init 48 = .ok (.putfield 31, 3) := by decide +kernel
theorem dX10_init_51 : decode cX10_init 51 = .ok (.aload_n 0, 1) := by decide +kernel
theorem dX10_init_52 : decode cX10_init 52 = .ok (.iconst 0, 1) := by decide +kernel
theorem dX10_init_53 : decode cX10_init 53 = .ok (.putfield 34, 3) := by decide +kernel
theorem dX10_init_56 : decode cX10_init 56 = .ok (.aload_n 0, 1) := by decide +kernel
theorem dX10_init_57 : decode cX10_init 57 = .ok (.iconst 0, 1) := by decide +kernel
theorem dX10_init_58 : decode cX10_init 58 = .ok (.putfield 37, 3) := by decide +kernel
theorem dX10_init_61 : decode cX10_init 61 = .ok (.aload_n 0, 1) := by decide +kernel
theorem dX10_init_62 : decode cX10_init 62 = .ok (.iconst 0, 1) := by decide +kernel
theorem dX10_init_63 : decode cX10_init 63 = .ok (.putfield 40, 3) := by decide +kernel
theorem dX10_init_66 : decode cX10_init 66 = .ok (.return_, 1) := by decide +kernel
theorem dX6_init_0 : decode cX6_init 0 = .ok (.aload_n 0, 1) := by decide +kernel
theorem dX6_init_1 : decode cX6_init 1 = .ok (.invokespecial 3, 3) := by decide +kernel
theorem dX6_init_4 : decode cX6_init 4 = .ok (.aload_n 0, 1) := by decide +kernel
theorem dX6_init_5 : decode cX6_init 5 = .ok (.new 9, 3) := by decide +kernel
theorem dX6_init_8 : decode cX6_init 8 = .ok (.dup, 1) := by decide +kernel
theorem dX6_init_9 : decode cX6_init 9 = .ok (.invokespecial 11, 3) := by decide +kernel
theorem dX6_init_12 : decode cX6_init 12 = .ok (.putfield 12, 3) := by decide +kernel
theorem dX6_init_15 : decode cX6_init 15 = .ok (.aload_n 0, 1) := by decide +kernel
theorem dX6_init_16 : decode cX6_init 16 = .ok (.bipush 40, 2) := by decide +kernel
theorem dX6_init_18 : decode cX6_init 18 = .ok (.newarray .int, 2) := by decide +kernel
theorem dX6_init_20 : decode cX6_init 20 = .ok (.putfield 18, 3) := by decide +kernel
theorem dX6_init_23 : decode cX6_init 23 = .ok (.aload_n 0, 1) := by decide +kernel
theorem dX6_init_24 : decode cX6_init 24 = .ok (.iconst 0, 1) := by decide +kernel
theorem dX6_init_25 : decode cX6_init 25 = .ok (.putfield 22, 3) := by decide +kernel
theorem dX6_init_28 : decode cX6_init 28 = .ok (.aload_n 0, 1) := by decide +kernel
theorem dX6_init_29 : decode cX6_init 29 = .ok (.iconst 0, 1) := by decide +kernel
theorem dX6_init_30 : decode cX6_init 30 = .ok (.putfield 26, 3) := by decide +kernel
theorem dX6_init_33 : decode cX6_init 33 = .ok (.aload_n 0, 1) := by decide +kernel
theorem dX6_init_34 : decode cX6_init 34 = .ok (.iconst 0, 1) := by decide +kernel
theorem dX6_init_35 : decode cX6_init 35 = .ok (.putfield 29, 3) := by decide +kernel
theorem dX6_init_38 : decode cX6_init 38 = .ok (.aload_n 0, 1) := by decide +kernel
theorem dX6_init_39 : decode cX6_init 39 = .ok (.iconst 0, 1) := by decide +kernel
theorem dX6_init_40 : decode cX6_init 40 = .ok (.putfield 32, 3) := by decide +kernel
theorem dX6_init_43 : decode cX6_init 43 = .ok (.aload_n 0, 1) := by decide +kernel
theorem dX6_init_44 : decode cX6_init 44 = .ok (.iconst 1, 1) := by decide +kernel
theorem dX6_init_45 : decode cX6_init 45 = .ok (.putfield 35, 3) := by decide +kernel
theorem dX6_init_48 : decode cX6_init 48 = .ok (.return_, 1) := by decide +kernel
theorem dX7_init_0 : decode cX7_init 0 = .ok (.aload_n 0, 1) := by decide +kernel
theorem dX7_init_1 : decode cX7_init 1 = .ok (.invokespecial 3, 3) := by decide +kernel
theorem dX7_init_4 : decode cX7_init 4 = .ok (.aload_n 0, 1) := by decide +kernel
theorem dX7_init_5 : decode cX7_init 5 = .ok (.bipush 9, 2) := by decide +kernel
theorem dX7_init_7 : decode cX7_init 7 = .ok (.newarray .int, 2) := by decide +kernel
theorem dX7_init_9 : decode cX7_init 9 = .ok (.putfield 9, 3) := by decide +kernel
theorem dX7_init_12 : decode cX7_init 12 = .ok (.aload_n 0, 1) := by decide +kernel
theorem dX7_init_13 : decode cX7_init 13 = .ok (.bipush 9, 2) := by decide +kernel
theorem dX7_init_15 : decode cX7_init 15 = .ok (.newarray .int, 2) := by decide +kernel
theorem dX7_init_17 : decode cX7_init 17 = .ok (.putfield 15, 3) := by decide +kernel
theorem dX7_init_20 : decode cX7_init 20 = .ok (.aload_n 0, 1) := by decide +kernel
theorem dX7_init_21 : decode cX7_init 21 = .ok (.bipush 9, 2) := by decide +kernel
theorem dX7_init_23 : decode cX7_init 23 = .ok (.newarray .int, 2) := by decide +kernel
theorem dX7_init_25 : decode cX7_init 25 = .ok (.putfield 18, 3) := by decide +kernel
theorem dX7_init_28 : decode cX7_init 28 = .ok (.aload_n 0, 1) := by decide +kernel
theorem dX7_init_29 : decode cX7_init 29 = .ok (.iconst 4, 1) := by decide +kernel
theorem dX7_init_30 : decode cX7_init 30 = .ok (.newarray .int, 2) := by decide +kernel
theorem dX7_init_32 : decode cX7_init 32 = .ok (.dup, 1) := by decide +kernel
theorem dX7_init_33 : decode cX7_init 33 = .ok (.iconst 0, 1) := by decide +kernel
theorem dX7_init_34 : decode cX7_init 34 = .ok (.iconst 0, 1) := by decide +kernel
theorem dX7_init_35 : decode cX7_init 35 = .ok (.iastore, 1) := by decide +kernel
theorem dX7_init_36 : decode cX7_init 36 = .ok (.dup, 1) := by decide +kernel
theorem dX7_init_37 : decode cX7_init 37 = .ok (.iconst 1, 1) := by decide +kernel
theorem dX7_init_38 : decode cX7_init 38 = .ok (.iconst 0, 1) := by decide +kernel
theorem dX7_init_39 : decode cX7_init 39 = .ok (.iastore, 1) := by decide +kernel
theorem dX7_init_40 : decode cX7_init 40 = .ok (.dup, 1) := by decide +kernel
theorem dX7_init_41 : decode cX7_init 41 = .ok (.iconst 2, 1) := by decide +kernel
theorem dX7_init_42 : decode cX7_init 42 = .ok (.bipush 99, 2) := by decide +kernel
theorem dX7_init_44 : decode cX7_init 44 = .ok (.iastore, 1) := by decide +kernel
theorem dX7_init_45 : decode cX7_init 45 = .ok (.dup, 1) := by decide +kernel
theorem dX7_init_46 : decode cX7_init 46 = .ok (.iconst 3, 1) := by decide +kernel
theorem dX7_init_47 : decode cX7_init 47 = .ok (.iconst 0, 1) := by decide +kernel
theorem dX7_init_48 : decode cX7_init 48 = .ok (.iastore, 1) := by decide +kernel
theorem dX7_init_49 : decode cX7_init 49 = .ok (.putfield 21, 3) := by decide +kernel
theorem dX7_init_52 : decode cX7_init 52 = .ok (.aload_n 0, 1) := by decide +kernel
theorem dX7_init_53 : decode cX7_init 53 = .ok (.iconst 0, 1) := by decide +kernel
theorem dX7_init_54 : decode cX7_init 54 = .ok (.putfield 24, 3) := by decide +kernel
theorem dX7_init_57 : decode cX7_init 57 = .ok (.aload_n 0, 1) := by decide +kernel
theorem dX7_init_58 : decode cX7_init 58 = .ok (.iconst 0, 1) := by decide +kernel
theorem dX7_init_59 : decode cX7_init 59 = .ok (.putfield 28, 3) := by decide +kernel
theorem dX7_init_62 : decode cX7_init 62 = .ok (.aload_n 0, 1) := by decide +kernel
theorem dX7_init_63 : decode cX7_init 63 = .ok (.bipush 9, 2) := by decide +kernel
theorem dX7_init_65 : decode cX7_init 65 = .ok (.newarray .int, 2) := by decide +kernel
theorem dX7_init_67 : decode cX7_init 67 = .ok (.putfield 31, 3) := by decide +kernel
theorem dX7_init_70 : decode cX7_init 70 = .ok (.aload_n 0, 1) := by decide +kernel
theorem dX7_init_71 : decode cX7_init 71 = .ok (.bipush 9, 2) := by decide +kernel
theorem dX7_init_73 : decode cX7_init 73 = .ok (.newarray .int, 2) := by decide +kernel
theorem dX7_init_75 : decode cX7_init 75 = .ok (.putfield 34, 3) := by decide +kernel
theorem dX7_init_78 : decode cX7_init 78 = .ok (.aload_n 0, 1) := by decide +kernel
theorem dX7_init_79 : decode cX7_init 79 = .ok (.bipush 9, 2) := by decide +kernel
theorem dX7_init_81 : decode cX7_init 81 = .ok (.newarray .int, 2) := by decide +kernel
theorem dX7_init_83 : decode cX7_init 83 = .ok (.putfield 37, 3) := by decide +kernel
theorem dX7_init_86 : decode cX7_init 86 = .ok (.aload_n 0, 1) := by decide +kernel
theorem dX7_init_87 : decode cX7_init 87 = .ok (.aload_n 1, 1) := by decide +kernel
theorem dX7_init_88 : decode cX7_init 88 = .ok (.putfield 40, 3) := by decide +kernel
theorem dX7_init_91 : decode cX7_init 91 = .ok (.return_, 1) := by decide +kernel
theorem dX2_init_0 : decode cX2_init 0 = .ok (.aload_n 0, 1) := by decide +kernel
theorem dX2_init_1 : decode cX2_init 1 = .ok (.invokespecial 3, 3) := by decide +kernel
theorem dX2_init_4 : decode cX2_init 4 = .ok (.aload_n 0, 1) := by decide +kernel
theorem dX2_init_5 : decode cX2_init 5 = .ok (.iload_n 1, 1) := by decide +kernel
theorem dX2_init_6 : decode cX2_init 6 = .ok (.newarray .int, 2) := by decide +kernel
theorem dX2_init_8 : decode cX2_init 8 = .ok (.putfield 9, 3) := by decide +kernel
theorem dX2_init_11 : decode cX2_init 11 = .ok (.aload_n 0, 1) := by decide +kernel
theorem dX2_init_12 : decode cX2_init 12 = .ok (.iload_n 1, 1) := by decide +kernel
theorem dX2_init_13 : decode cX2_init 13 = .ok (.newarray .long, 2) := by decide +kernel
theorem dX2_init_15 : decode cX2_init 15 = .ok (.putfield 15, 3) := by decide +kernel
theorem dX2_init_18 : decode cX2_init 18 = .ok (.aload_n 0, 1) := by decide +kernel
theorem dX2_init_19 : decode cX2_init 19 = .ok (.iload_n 1, 1) := by decide +kernel
theorem dX2_init_20 : decode cX2_init 20 = .ok (.newarray .long, 2) := by decide +kernel
theorem dX2_init_22 : decode cX2_init 22 = .ok (.putfield 19, 3) := by decide +kernel
theorem dX2_init_25 : decode cX2_init 25 = .ok (.aload_n 0, 1) := by decide +kernel
theorem dX2_init_26 : decode cX2_init 26 = .ok (.iload_n 1, 1) := by decide +kernel
theorem dX2_init_27 : decode cX2_init 27 = .ok (.newarray .long, 2) := by decide +kernel
theorem dX2_init_29 : decode cX2_init 29 = .ok (.putfield 22, 3) := by decide +kernel
theorem dX2_init_32 : decode cX2_init 32 = .ok (.return_, 1) := by decide +kernel
theorem dX3_init_0 : decode cX3_init 0 = .ok (.aload_n 0, 1) := by decide +kernel
theorem dX3_init_1 : decode cX3_init 1 = .ok (.invokespecial 3, 3) := by decide +kernel
theorem dX3_init_4 : decode cX3_init 4 = .ok (.aload_n 0, 1) := by decide +kernel
theorem dX3_init_5 : decode cX3_init 5 = .ok (.new 9, 3) := by decide +kernel
theorem dX3_init_8 : decode cX3_init 8 = .ok (.dup, 1) := by decide +kernel
theorem dX3_init_9 : decode cX3_init 9 = .ok (.bipush 40, 2) := by decide +kernel
theorem dX3_init_11 : decode cX3_init 11 = .ok (.invokespecial 11, 3) := by decide +kernel
theorem dX3_init_14 : decode cX3_init 14 = .ok (.putfield 14, 3) := by decide +kernel
theorem dX3_init_17 : decode cX3_init 17 = .ok (.aload_n 0, 1) := by decide +kernel
theorem dX3_init_18 : decode cX3_init 18 = .ok (.iconst 0, 1) := by decide +kernel
theorem dX3_init_19 : decode cX3_init 19 = .ok (.putfield 20, 3) := by decide +kernel
theorem dX3_init_22 : decode cX3_init 22 = .ok (.aload_n 0, 1) := by decide +kernel
theorem dX3_init_23 : decode cX3_init 23 = .ok (.iconst 0, 1) := by decide +kernel
theorem dX3_init_24 : decode cX3_init 24 = .ok (.putfield 24, 3) := by decide +kernel
theorem dX3_init_27 : decode cX3_init 27 = .ok (.return_, 1) := by decide +kernel
theorem dX1_init_0 : decode cX1_init 0 = .ok (.aload_n 0, 1) := by decide +kernel
theorem dX1_init_1 : decode cX1_init 1 = .ok (.invokespecial 3, 3) := by decide +kernel
theorem dX1_init_4 : decode cX1_init 4 = .ok (.aload_n 0, 1) := by decide +kernel
theorem dX1_init_5 : decode cX1_init 5 = .ok (.iconst 0, 1) := by decide +kernel
theorem dX1_init_6 : decode cX1_init 6 = .ok (.putfield 9, 3) := by decide +kernel
theorem dX1_init_9 : decode cX1_init 9 = .ok (.aload_n 0, 1) := by decide +kernel
theorem dX1_init_10 : decode cX1_init 10 = .ok (.iconst 0, 1) := by decide +kernel
theorem dX1_init_11 : decode cX1_init 11 = .ok (.putfield 15, 3) := by decide +kernel
theorem dX1_init_14 : decode cX1_init 14 = .ok (.aload_n 0, 1) := by decide +kernel
theorem dX1_init_15 : decode cX1_init 15 = .ok (.lconst 0, 1) := by decide +kernel
theorem dX1_init_16 : decode cX1_init 16 = .ok (.putfield 18, 3) := by decide +kernel
theorem dX1_init_19 : decode cX1_init 19 = .ok (.aload_n 0, 1) := by decide +kernel
theorem dX1_init_20 : decode cX1_init 20 = .ok (.lconst 0, 1) := by decide +kernel
theorem dX1_init_21 : decode cX1_init 21 = .ok (.putfield 22, 3) := by decide +kernel
theorem dX1_init_24 : decode cX1_init 24 = .ok (.aload_n 0, 1) := by decide +kernel
theorem dX1_init_25 : decode cX1_init 25 = .ok (.bipush 7, 2) := by decide +kernel
theorem dX1_init_27 : decode cX1_init 27 = .ok (.newarray .int, 2) := by decide +kernel
theorem dX1_init_29 : decode cX1_init 29 = .ok (.putfield 25, 3) := by decide +kernel
theorem dX1_init_32 : decode cX1_init 32 = .ok (.aload_n 0, 1) := by decide +kernel
theorem dX1_init_33 : decode cX1_init 33 = .ok (.bipush 7, 2) := by decide +kernel
theorem dX1_init_35 : decode cX1_init 35 = .ok (.newarray .int, 2) := by decide +kernel
theorem dX1_init_37 : decode cX1_init 37 = .ok (.putfield 29, 3) := by decide +kernel
theorem dX1_init_40 : decode cX1_init 40 = .ok (.aload_n 0, 1) := by decide +kernel
theorem dX1_init_41 : decode cX1_init 41 = .ok (.sipush 896, 3) := by decide +kernel
theorem dX1_init_44 : decode cX1_init 44 = .ok (.newarray .int, 2) := by decide +kernel
theorem dX1_init_46 : decode cX1_init 46 = .ok (.putfield 32, 3) := by decide +kernel
theorem dX1_init_49 : decode cX1_init 49 = .ok (.aload_n 0, 1) := by decide +kernel
theorem dX1_init_50 : decode cX1_init 50 = .ok (.bipush 7, 2) := by decide +kernel
theorem dX1_init_52 : decode cX1_init 52 = .ok (.newarray .int, 2) := by decide +kernel
theorem dX1_init_54 : decode cX1_init 54 = .ok (.putfield 35, 3) := by decide +kernel
theorem dX1_init_57 : decode cX1_init 57 = .ok (.aload_n 0, 1) := by decide +kernel
theorem dX1_init_58 : decode cX1_init 58 = .ok (.iconst 0, 1) := by decide +kernel
theorem dX1_init_59 : decode cX1_init 59 = .ok (.putfield 38, 3) := by decide +kernel
theorem dX1_init_62 : decode cX1_init 62 = .ok (.aload_n 0, 1) := by decide +kernel
theorem dX1_init_63 : decode cX1_init 63 = .ok (.iconst (-1), 1) := by decide +kernel
theorem dX1_init_64 : decode cX1_init 64 = .ok (.putfield 41, 3) := by decide +kernel
theorem dX1_init_67 : decode cX1_init 67 = .ok (.aload_n 0, 1) := by decide +kernel
theorem dX1_init_68 : decode cX1_init 68 = .ok (.iconst 0, 1) := by decide +kernel
theorem dX1_init_69 : decode cX1_init 69 = .ok (.putfield 44, 3) := by decide +kernel
theorem dX1_init_72 : decode cX1_init 72 = .ok (.return_, 1) := by decide +kernel
theorem dX8_join_0 : decode cX8_join 0 = .ok (.aload_n 0, 1) := by decide +kernel
theorem dX8_join_1 : decode cX8_join 1 = .ok (.getfield 15, 3) := by decide +kernel
theorem dX8_join_4 : decode cX8_join 4 = .ok (.iconst 4, 1) := by decide +kernel
theorem dX8_join_5 : decode cX8_join 5 = .ok (.iadd, 1) := by decide +kernel
theorem dX8_join_6 : decode cX8_join 6 = .ok (.bipush 80, 2) := by decide +kernel
theorem dX8_join_8 : decode cX8_join 8 = .ok (.if_icmp .le 5, 3) := by decide +kernel
theorem dX8_join_13 : decode cX8_join 13 = .ok (.bipush 24, 2) := by decide +kernel
theorem dX8_join_15 : decode cX8_join 15 = .ok (.istore_n 2, 1) := by decide +kernel
theorem dX8_join_16 : decode cX8_join 16 = .ok (.iload_n 2, 1) := by decide +kernel
theorem dX8_join_17 : decode cX8_join 17 = .ok (.ifCond .lt 35, 3) := by decide +kernel
theorem dX8_join_20 : decode cX8_join 20 = .ok (.aload_n 0, 1) := by decide +kernel
theorem dX8_join_21 : decode cX8_join 21 = .ok (.getfield 9, 3) := by decide +kernel
theorem dX8_join_24 : decode cX8_join 24 = .ok (.aload_n 0, 1) := by decide +kernel
theorem dX8_join_25 : decode cX8_join 25 = .ok (.getfield 15, 3) := by decide +kernel
theorem dX8_join_28 : decode cX8_join 28 = .ok (.iload_n 1, 1) := by decide +kernel
theorem dX8_join_29 : decode cX8_join 29 = .ok (.iload_n 2, 1) := by decide +kernel
theorem dX8_join_30 : decode cX8_join 30 = .ok (.iushr, 1) := by decide +kernel
theorem dX8_join_31 : decode cX8_join 31 = .ok (.sipush 255, 3) := by decide +kernel
theorem dX8_join_34 : decode cX8_join 34 = .ok (.iand, 1) := by decide +kernel
theorem dX8_join_35 : decode cX8_join 35 = .ok (.iastore, 1) := by decide +kernel
theorem dX8_join_36 : decode cX8_join 36 = .ok (.aload_n 0, 1) := by decide +kernel
theorem dX8_join_37 : decode cX8_join 37 = .ok (.dup, 1) := by decide +kernel
theorem dX8_join_38 : decode cX8_join 38 = .ok (.getfield 15, 3) := by decide +kernel
theorem dX8_join_41 : decode cX8_join 41 = .ok (.iconst 1, 1) := by decide +kernel
theorem dX8_join_42 : decode cX8_join 42 = .ok (.iadd, 1) := by decide +kernel
theorem dX8_join_43 : decode cX8_join 43 = .ok (.putfield 15, 3) := by decide +kernel
theorem dX8_join_46 : decode cX8_join 46 = .ok (.iinc 2 (-8), 3) := by decide +kernel
theorem dX8_join_49 : decode cX8_join 49 = .ok (.goto (-33), 3) := by decide +kernel
theorem dX8_join_52 : decode cX8_join 52 = .ok (.iconst 1, 1) := by decide +kernel
theorem dX8_join_53 : decode cX8_join 53 = .ok (.ireturn, 1) := by decide +kernel
theorem dX11_sign_0 : decode cX11_sign 0 = .ok (.aload_n 0, 1) := by decide +kernel
theorem dX11_sign_1 : decode cX11_sign 1 = .ok (.getfield 10, 3) := by decide +kernel
theorem dX11_sign_4 : decode cX11_sign 4 = .ok (.iload_n 1, 1) := by decide +kernel
theorem dX11_sign_5 : decode cX11_sign 5 = .ok (.invokevirtual 99, 3) := by decide +kernel
theorem dX11_sign_8 : decode cX11_sign 8 = .ok (.ifCond .eq 13, 3) := by decide +kernel
theorem dX11_sign_11 : decode cX11_sign 11 = .ok (.aload_n 0, 1) := by decide +kernel
theorem dX11_sign_12 : decode cX11_sign 12 = .ok (.getfield 10, 3) := by decide +kernel
theorem dX11_sign_15 : decode cX11_sign 15 = .ok (.getfield 103, 3) := by decide +kernel
theorem dX11_sign_18 : decode cX11_sign 18 = .ok (.goto 4, 3) := by decide +kernel
theorem dX11_sign_22 : decode cX11_sign 22 = .ok (.ireturn, 1) := by decide +kernel
theorem dX12_sign_0 : decode cX12_sign 0 = .ok (.aload_n 0, 1) := by decide +kernel
theorem dX12_sign_1 : decode cX12_sign 1 = .ok (.iconst 0, 1) := by decide +kernel
theorem dX12_sign_2 : decode cX12_sign 2 = .ok (.putfield 127, 3) := by decide +kernel
theorem dX12_sign_5 : decode cX12_sign 5 = .ok (.aload_n 0, 1) := by decide +kernel
theorem dX12_sign_6 : decode cX12_sign 6 = .ok (.getfield 151, 3) := by decide +kernel
theorem dX12_sign_9 : decode cX12_sign 9 = .ok (.iconst 4, 1) := by decide +kernel
theorem dX12_sign_10 : decode cX12_sign 10 = .ok (.iadd, 1) := by decide +kernel
theorem dX12_sign_11 : decode cX12_sign 11 = .ok (.bipush 80, 2) := by decide +kernel
theorem dX12_sign_13 : decode cX12_sign 13 = .ok (.if_icmp .le 5, 3) := by decide +kernel
theorem dX12_sign_18 : decode cX12_sign 18 = .ok (.iconst 3, 1) := by decide +kernel
theorem dX12_sign_19 : decode cX12_sign 19 = .ok (.istore_n 2, 1) := by decide +kernel
theorem dX12_sign_20 : decode cX12_sign 20 = .ok (.iload_n 2, 1) := by decide +kernel
theorem dX12_sign_21 : decode cX12_sign 21 = .ok (.ifCond .lt 32, 3) := by decide +kernel
theorem dX12_sign_24 : decode cX12_sign 24 = .ok (.aload_n 0, 1) := by decide +kernel
theorem dX12_sign_25 : decode cX12_sign 25 = .ok (.getfield 45, 3) := by decide +kernel
theorem dX12_sign_28 : decode cX12_sign 28 = .ok (.aload_n 0, 1) := by decide +kernel
theorem dX12_sign_29 : decode cX12_sign 29 = .ok (.dup, 1) := by decide +kernel
theorem dX12_sign_30 : decode cX12_sign 30 = .ok (.getfield 151, 3) := by decide +kernel
theorem dX12_sign_33 : decode cX12_sign 33 = .ok (.dup_x1, 1) := by decide +kernel
theorem dX12_sign_34 : decode cX12_sign 34 = .ok (.iconst 1, 1) := by decide +kernel
theorem dX12_sign_35 : decode cX12_sign 35 = .ok (.iadd, 1) := by decide +kernel
theorem dX12_sign_36 : decode cX12_sign 36 = .ok (.putfield 151, 3) := by decide +kernel
theorem dX12_sign_39 : decode cX12_sign 39 = .ok (.iload_n 1, 1) := by decide +kernel
theorem dX12_sign_40 : decode cX12_sign 40 = .ok (.bipush 8, 2) := by decide +kernel
theorem dX12_sign_42 : decode cX12_sign 42 = .ok (.iload_n 2, 1) := by decide +kernel
theorem dX12_sign_43 : decode cX12_sign 43 = .ok (.imul, 1) := by decide +kernel
theorem dX12_sign_44 : decode cX12_sign 44 = .ok (.ishr, 1) := by decide +kernel
theorem dX12_sign_45 : decode cX12_sign 45 = .ok (.i2b, 1) := by decide +kernel
theorem dX12_sign_46 : decode cX12_sign 46 = .ok (.bastore, 1) := by decide +kernel
theorem dX12_sign_47 : decode cX12_sign 47 = .ok (.iinc 2 (-1), 3) := by decide +kernel
theorem dX12_sign_50 : decode cX12_sign 50 = .ok (.goto (-30), 3) := by decide +kernel
theorem dX12_sign_53 : decode cX12_sign 53 = .ok (.aload_n 0, 1) := by decide +kernel
theorem dX12_sign_54 : decode cX12_sign 54 = .ok (.getfield 151, 3) := by decide +kernel
theorem dX12_sign_57 : decode cX12_sign 57 = .ok (.ireturn, 1) := by decide +kernel
theorem dX8_cut_0 : decode cX8_cut 0 = .ok (.iload_n 1, 1) := by decide +kernel
theorem dX8_cut_1 : decode cX8_cut 1 = .ok (.ifCond .lt 11, 3) := by decide +kernel
theorem dX8_cut_4 : decode cX8_cut 4 = .ok (.iload_n 1, 1) := by decide +kernel
theorem dX8_cut_5 : decode cX8_cut 5 = .ok (.aload_n 0, 1) := by decide +kernel
theorem dX8_cut_6 : decode cX8_cut 6 = .ok (.getfield 15, 3) := by decide +kernel
theorem dX8_cut_9 : decode cX8_cut 9 = .ok (.if_icmp .le 5, 3) := by decide +kernel
theorem dX8_cut_12 : decode cX8_cut 12 = .ok (.iconst 0, 1) := by decide +kernel
theorem dX8_cut_13 : decode cX8_cut 13 = .ok (.ireturn, 1) := by decide +kernel
theorem dX8_cut_14 : decode cX8_cut 14 = .ok (.aload_n 0, 1) := by decide +kernel
theorem dX8_cut_15 : decode cX8_cut 15 = .ok (.iload_n 1, 1) := by decide +kernel
theorem dX8_cut_16 : decode cX8_cut 16 = .ok (.putfield 15, 3) := by decide +kernel
theorem dX8_cut_19 : decode cX8_cut 19 = .ok (.iconst 1, 1) := by decide +kernel
theorem dX8_cut_20 : decode cX8_cut 20 = .ok (.ireturn, 1) := by decide +kernel
theorem dX11_end_0 : decode cX11_end 0 = .ok (.aload_n 0, 1) := by decide +kernel
theorem dX11_end_1 : decode cX11_end 1 = .ok (.getfield 10, 3) := by decide +kernel
theorem dX11_end_4 : decode cX11_end 4 = .ok (.iload_n 1, 1) := by decide +kernel
theorem dX11_end_5 : decode cX11_end 5 = .ok (.invokevirtual 106, 3) := by decide +kernel
theorem dX11_end_8 : decode cX11_end 8 = .ok (.ireturn, 1) := by decide +kernel
theorem dX12_in_0 : decode cX12_in 0 = .ok (.lload_n 0, 1) := by decide +kernel
theorem dX12_in_1 : decode cX12_in 1 = .ok (.lload_n 2, 1) := by decide +kernel
theorem dX12_in_2 : decode cX12_in 2 = .ok (.lcmp, 1) := by decide +kernel
theorem dX12_in_3 : decode cX12_in 3 = .ok (.ifCond .lt 14, 3) := by decide +kernel
theorem dX12_in_6 : decode cX12_in 6 = .ok (.lload_n 0, 1) := by decide +kernel
theorem dX12_in_7 : decode cX12_in 7 = .ok (.lload 4, 2) := by decide +kernel
theorem dX12_in_9 : decode cX12_in 9 = .ok (.lcmp, 1) := by decide +kernel
theorem dX12_in_10 : decode cX12_in 10 = .ok (.ifCond .gt 7, 3) := by decide +kernel
theorem dX12_in_13 : decode cX12_in 13 = .ok (.iconst 1, 1) := by decide +kernel
theorem dX12_in_14 : decode cX12_in 14 = .ok (.goto 4, 3) := by decide +kernel
theorem dX12_in_17 : decode cX12_in 17 = .ok (.iconst 0, 1) := by decide +kernel
theorem dX12_in_18 : decode cX12_in 18 = .ok (.ireturn, 1) := by decide +kernel
theorem gX9_init_X0_init_n37 : GoodIn wsX9_init (wsX0_init) := gi_c wd_1_83
theorem gX6_init_X0_init_n11 : GoodIn wsX6_init (wsX0_init) := gi_c wd_1_83
theorem gX3_init_X2_init : GoodIn wsX3_init (wsX2_init) := gi_c wd_2_24
theorem gX11_sign_X8_join : GoodIn wsX11_sign (wsV RX11 99 RX8 yX8_join wsX8_join) := gi_V wd_2_154 wd_2_155 wd_2_156 wd_1_2 wd_2_157
theorem gX11_end_X8_cut : GoodIn wsX11_end (wsV RX11 106 RX8 yX8_cut wsX8_cut) := gi_V wd_2_162 wd_2_163 wd_2_164 wd_1_2 wd_2_165
set_option maxRecDepth 100000 in
set_option maxHeartbeats 4000000 in
theorem cX8_init_1 (l : Launch) (D : va_G) (y : Nat → ClassId) (a0 : Nat) (sz : Nat) : Met l yX8_init wsX8_init { frames := 2, cells := 1, slots := 80, locals := 200 } (nPc D y nT [.ref a0] [(a0, .inr (8, [.null, .int 0]))] sz) ((fun A => nQv D y (fun _ => True) (fun u => [(a0, .inr (8, [.ref (u 0), .int 0])), ((u 0), .inl (y 0, 80, .inl nz))]) A) (va_A [(a0, .inr (8, [.null, .int 0]))] sz)) 1 80 (va_A [(a0, .inr (8, [.null, .int 0]))] sz) := by
  refine nm_ofW (D := D) (y := y) (E := nT) (yy := yX8_init) (wsy := wsX8_init) (rm := { frames := 2, cells := 1, slots := 80, locals := 200 }) (as := [.ref a0]) (ws := [(a0, .inr (8, [.null, .int 0]))]) (sz := sz) (mc := 1) (ms := 80) (Qc := fun A => nQv D y (fun _ => True) (fun u => [(a0, .inr (8, [.ref (u 0), .int 0])), ((u 0), .inl (y 0, 80, .inl nz))]) A) (cc := cX8_init) (maxL := 1) (ret := none) (by decide +kernel) rfl (Nat.le_of_ble_eq_true rfl) ?_
  intro p e s m below meth c A ls H hx hb hr hml hts hown hlocks hnm hsz hP hK hD hA hS hE hAe hl
  replace hl : lv_has ls 1 [(0, .ref a0)] := hl
  have hown : s.vm.findClass RX8 = some m.cls := hown
  have w_0 := hts (.methodLink RX8 3 objectInit) (gt_k wd_1_40)
  have w_1 := hts (.instanceMethod objectInit) (gt_k wd_1_33)
  have w_2 := hts (.code objectInit ⟨#[0xb1]⟩ 1 none) (gt_k wd_1_34)
  have w_3 := hts (.arrayClass .int) (gt_k wd_1_53)
  have w_4 := hts (.fieldLink RX8 9 "SoldToBehind$Text" "signs" "[I") (gt_k wd_1_41)
  have w_5 := hts (.fieldLink RX8 15 "SoldToBehind$Text" "size" "I") (gt_k wd_1_44)
  refine lv_aload_n hx hb dX8_init_0 rfl (lv_at hl 0 rfl) ?_
  refine W.objInit hx hb hown w_0 w_1 w_2 rfl (by rw [hml]; exact hl.1) rfl dX8_init_1 (Nat.le_of_ble_eq_true rfl) (Nat.le_of_ble_eq_true rfl) ?_
  refine W.eq (g2 := F0 m 4 ls []) rfl ?_
  refine lv_aload_n hx hb dX8_init_4 rfl (lv_at hl 0 rfl) ?_
  refine lv_bipush (v := 80) hx hb dX8_init_5 (by decide +kernel) ?_
  refine nb_newa (atype := .int) (ty := .int) (N' := 80) (a0 := (80, .inl nz)) hx hb w_3 rfl hK hP hD hS hA 0 rfl (fun _ _ h => h) (fun _ => rfl) (by decide +kernel) (by decide +kernel) (by decide +kernel) (Nat.le_of_ble_eq_true rfl) (Nat.le_of_ble_eq_true rfl) dX8_init_7 (fun q1 H hP hD hS => ?_)
  refine nb_putF (D := D) (ci := 8) (v := .ref q1) (ty := .array .int) (C := RX8) (T := TX8) (N := 2) (ws' := [(a0, .inr (8, [.ref q1, .int 0])), (q1, .inl (y 0, 80, .inl nz))]) hx hb hts (gt_c iG_X8) tyX8 tyX8_ok nmX8 hown hK hP hD hS 0 rfl rfl 0 (by decide +kernel) w_4 (fun _ h9 => h9) rfl hnm rfl (by decide +kernel) rfl rfl (Nat.le_of_ble_eq_true rfl) rfl dX8_init_9 (fun H locs hP hD hS => ?_)
  refine lv_aload_n hx hb dX8_init_12 rfl (lv_at hl 0 rfl) ?_
  refine lv_iconst (v := 0) hx hb dX8_init_13 (by decide +kernel) ?_
  refine nb_put (D := D) (ci := 8) (v := .int 0) (ty := .int) (C := RX8) (T := TX8) (N := 2) (ws' := [(a0, .inr (8, [.ref q1, .int 0])), (q1, .inl (y 0, 80, .inl nz))]) hx hb hts (gt_c iG_X8) tyX8 tyX8_ok nmX8 hown hK hP hD hS 0 rfl rfl 1 (by decide +kernel) w_5 (fun _ h9 => h9) rfl (by decide +kernel) rfl rfl (Nat.le_of_ble_eq_true rfl) rfl dX8_init_14 (fun H locs hP hD hS => ?_)
  refine W.widen (k := 1) (n := 80) (Nat.le_of_ble_eq_true rfl) (Nat.le_of_ble_eq_true rfl) ?_
  exact W.vret hx hb hr (fun t ht hW => ⟨⟨(fun k => if k = 0 then q1 else 0), rfl, trivial, by rw [ht]; exact hP, va_K.moved hW.alike hK, hD⟩, hS.F ht⟩) hS.2.2 dX8_init_17 hlocks
set_option maxRecDepth 100000 in
set_option maxHeartbeats 4000000 in
theorem cX5_init_1 (l : Launch) (D : va_G) (y : Nat → ClassId) (a0 : Nat) (sz : Nat) : Met l yX5_init wsX5_init { frames := 2, cells := 1, slots := 9, locals := 200 } (nPc D y nT [.ref a0] [(a0, .inr (5, [.null, .int 0]))] sz) ((fun A => nQv D y (fun _ => True) (fun u => [(a0, .inr (5, [.ref (u 0), .int 0])), ((u 0), .inl (y 1, 9, .inr (.inl nzl)))]) A) (va_A [(a0, .inr (5, [.null, .int 0]))] sz)) 1 9 (va_A [(a0, .inr (5, [.null, .int 0]))] sz) := by
  refine nm_ofW (D := D) (y := y) (E := nT) (yy := yX5_init) (wsy := wsX5_init) (rm := { frames := 2, cells := 1, slots := 9, locals := 200 }) (as := [.ref a0]) (ws := [(a0, .inr (5, [.null, .int 0]))]) (sz := sz) (mc := 1) (ms := 9) (Qc := fun A => nQv D y (fun _ => True) (fun u => [(a0, .inr (5, [.ref (u 0), .int 0])), ((u 0), .inl (y 1, 9, .inr (.inl nzl)))]) A) (cc := cX5_init) (maxL := 1) (ret := none) (by decide +kernel) rfl (Nat.le_of_ble_eq_true rfl) ?_
  intro p e s m below meth c A ls H hx hb hr hml hts hown hlocks hnm hsz hP hK hD hA hS hE hAe hl
  replace hl : lv_has ls 1 [(0, .ref a0)] := hl
  have hown : s.vm.findClass RX5 = some m.cls := hown
  have w_0 := hts (.methodLink RX5 3 objectInit) (gt_k wd_1_59)
  have w_1 := hts (.instanceMethod objectInit) (gt_k wd_1_33)
  have w_2 := hts (.code objectInit ⟨#[0xb1]⟩ 1 none) (gt_k wd_1_34)
  have w_3 := hts (.arrayClass .long) (gt_k wd_1_71)
  have w_4 := hts (.fieldLink RX5 9 "SoldToBehind$Row" "numbers" "[J") (gt_k wd_1_60)
  have w_5 := hts (.fieldLink RX5 15 "SoldToBehind$Row" "size" "I") (gt_k wd_1_63)
  refine lv_aload_n hx hb dX5_init_0 rfl (lv_at hl 0 rfl) ?_
  refine W.objInit hx hb hown w_0 w_1 w_2 rfl (by rw [hml]; exact hl.1) rfl dX5_init_1 (Nat.le_of_ble_eq_true rfl) (Nat.le_of_ble_eq_true rfl) ?_
  refine W.eq (g2 := F0 m 4 ls []) rfl ?_
  refine lv_aload_n hx hb dX5_init_4 rfl (lv_at hl 0 rfl) ?_
  refine lv_bipush (v := 9) hx hb dX5_init_5 (by decide +kernel) ?_
  refine nb_newa (atype := .long) (ty := .long) (N' := 9) (a0 := (9, .inr (.inl nzl))) hx hb w_3 rfl hK hP hD hS hA 1 rfl (fun _ _ h => h) (fun _ => rfl) (by decide +kernel) (by decide +kernel) (by decide +kernel) (Nat.le_of_ble_eq_true rfl) (Nat.le_of_ble_eq_true rfl) dX5_init_7 (fun q1 H hP hD hS => ?_)
  refine nb_putF (D := D) (ci := 5) (v := .ref q1) (ty := .array .long) (C := RX5) (T := TX5) (N := 2) (ws' := [(a0, .inr (5, [.ref q1, .int 0])), (q1, .inl (y 1, 9, .inr (.inl nzl)))]) hx hb hts (gt_c iG_X5) tyX5 tyX5_ok nmX5 hown hK hP hD hS 0 rfl rfl 0 (by decide +kernel) w_4 (fun _ h9 => h9) rfl hnm rfl (by decide +kernel) rfl rfl (Nat.le_of_ble_eq_true rfl) rfl dX5_init_9 (fun H locs hP hD hS => ?_)
  refine lv_aload_n hx hb dX5_init_12 rfl (lv_at hl 0 rfl) ?_
  refine lv_iconst (v := 0) hx hb dX5_init_13 (by decide +kernel) ?_
  refine nb_put (D := D) (ci := 5) (v := .int 0) (ty := .int) (C := RX5) (T := TX5) (N := 2) (ws' := [(a0, .inr (5, [.ref q1, .int 0])), (q1, .inl (y 1, 9, .inr (.inl nzl)))]) hx hb hts (gt_c iG_X5) tyX5 tyX5_ok nmX5 hown hK hP hD hS 0 rfl rfl 1 (by decide +kernel) w_5 (fun _ h9 => h9) rfl (by decide +kernel) rfl rfl (Nat.le_of_ble_eq_true rfl) rfl dX5_init_14 (fun H locs hP hD hS => ?_)
  refine W.widen (k := 1) (n := 9) (Nat.le_of_ble_eq_true rfl) (Nat.le_of_ble_eq_true rfl) ?_
  exact W.vret hx hb hr (fun t ht hW => ⟨⟨(fun k => if k = 0 then q1 else 0), rfl, trivial, by rw [ht]; exact hP, va_K.moved hW.alike hK, hD⟩, hS.F ht⟩) hS.2.2 dX5_init_17 hlocks
set_option maxRecDepth 100000 in
set_option maxHeartbeats 4000000 in
theorem cX0_init_1 (l : Launch) (D : va_G) (y : Nat → ClassId) (a0 : Nat) (sz : Nat) : Met l yX0_init wsX0_init { frames := 2, cells := 1, slots := 40, locals := 200 } (nPc D y nT [.ref a0] [(a0, .inr (0, [.null, .int 0]))] sz) ((fun A => nQv D y (fun _ => True) (fun u => [(a0, .inr (0, [.ref (u 0), .int 0])), ((u 0), .inl (y 0, 40, .inl nz))]) A) (va_A [(a0, .inr (0, [.null, .int 0]))] sz)) 1 40 (va_A [(a0, .inr (0, [.null, .int 0]))] sz) := by
  refine nm_ofW (D := D) (y := y) (E := nT) (yy := yX0_init) (wsy := wsX0_init) (rm := { frames := 2, cells := 1, slots := 40, locals := 200 }) (as := [.ref a0]) (ws := [(a0, .inr (0, [.null, .int 0]))]) (sz := sz) (mc := 1) (ms := 40) (Qc := fun A => nQv D y (fun _ => True) (fun u => [(a0, .inr (0, [.ref (u 0), .int 0])), ((u 0), .inl (y 0, 40, .inl nz))]) A) (cc := cX0_init) (maxL := 1) (ret := none) (by decide +kernel) rfl (Nat.le_of_ble_eq_true rfl) ?_
  intro p e s m below meth c A ls H hx hb hr hml hts hown hlocks hnm hsz hP hK hD hA hS hE hAe hl
  replace hl : lv_has ls 1 [(0, .ref a0)] := hl
  have hown : s.vm.findClass RX0 = some m.cls := hown
  have w_0 := hts (.methodLink RX0 3 objectInit) (gt_k wd_1_84)
  have w_1 := hts (.instanceMethod objectInit) (gt_k wd_1_33)
  have w_2 := hts (.code objectInit ⟨#[0xb1]⟩ 1 none) (gt_k wd_1_34)
  have w_3 := hts (.arrayClass .int) (gt_k wd_1_53)
  have w_4 := hts (.fieldLink RX0 9 "SoldToBehind$Formula" "steps" "[I") (gt_k wd_1_85)
  have w_5 := hts (.fieldLink RX0 15 "SoldToBehind$Formula" "size" "I") (gt_k wd_1_86)
  refine lv_aload_n hx hb dX0_init_0 rfl (lv_at hl 0 rfl) ?_
  refine W.objInit hx hb hown w_0 w_1 w_2 rfl (by rw [hml]; exact hl.1) rfl dX0_init_1 (Nat.le_of_ble_eq_true rfl) (Nat.le_of_ble_eq_true rfl) ?_
  refine W.eq (g2 := F0 m 4 ls []) rfl ?_
  refine lv_aload_n hx hb dX0_init_4 rfl (lv_at hl 0 rfl) ?_
  refine lv_bipush (v := 40) hx hb dX0_init_5 (by decide +kernel) ?_
  refine nb_newa (atype := .int) (ty := .int) (N' := 40) (a0 := (40, .inl nz)) hx hb w_3 rfl hK hP hD hS hA 0 rfl (fun _ _ h => h) (fun _ => rfl) (by decide +kernel) (by decide +kernel) (by decide +kernel) (Nat.le_of_ble_eq_true rfl) (Nat.le_of_ble_eq_true rfl) dX0_init_7 (fun q1 H hP hD hS => ?_)
  refine nb_putF (D := D) (ci := 0) (v := .ref q1) (ty := .array .int) (C := RX0) (T := TX0) (N := 2) (ws' := [(a0, .inr (0, [.ref q1, .int 0])), (q1, .inl (y 0, 40, .inl nz))]) hx hb hts (gt_c iG_X0) tyX0 tyX0_ok nmX0 hown hK hP hD hS 0 rfl rfl 0 (by decide +kernel) w_4 (fun _ h9 => h9) rfl hnm rfl (by decide +kernel) rfl rfl (Nat.le_of_ble_eq_true rfl) rfl dX0_init_9 (fun H locs hP hD hS => ?_)
  refine lv_aload_n hx hb dX0_init_12 rfl (lv_at hl 0 rfl) ?_
  refine lv_iconst (v := 0) hx hb dX0_init_13 (by decide +kernel) ?_
  refine nb_put (D := D) (ci := 0) (v := .int 0) (ty := .int) (C := RX0) (T := TX0) (N := 2) (ws' := [(a0, .inr (0, [.ref q1, .int 0])), (q1, .inl (y 0, 40, .inl nz))]) hx hb hts (gt_c iG_X0) tyX0 tyX0_ok nmX0 hown hK hP hD hS 0 rfl rfl 1 (by decide +kernel) w_5 (fun _ h9 => h9) rfl (by decide +kernel) rfl rfl (Nat.le_of_ble_eq_true rfl) rfl dX0_init_14 (fun H locs hP hD hS => ?_)
  refine W.widen (k := 1) (n := 40) (Nat.le_of_ble_eq_true rfl) (Nat.le_of_ble_eq_true rfl) ?_
  exact W.vret hx hb hr (fun t ht hW => ⟨⟨(fun k => if k = 0 then q1 else 0), rfl, trivial, by rw [ht]; exact hP, va_K.moved hW.alike hK, hD⟩, hS.F ht⟩) hS.2.2 dX0_init_17 hlocks
set_option maxRecDepth 100000 in
set_option maxHeartbeats 4000000 in
theorem cX9_init_1 (l : Launch) (D : va_G) (y : Nat → ClassId) (a0 : Nat) (sz : Nat) : Met l yX9_init wsX9_init { frames := 3, cells := 14, slots := 246, locals := 220 } (nPc D y nT [.ref a0] [(a0, .inr (9, [.null, .null, .null, .null, .int 0, .null, .null]))] sz) ((fun A => nQv D y (fun _ => True) (fun u => [(a0, .inr (9, [.ref (u 0), .ref (u 1), .ref (u 2), .ref (u 3), .int 0, .ref (u 4), .ref (u 5)])), ((u 0), .inl (y 0, 9, .inl nz)), ((u 1), .inl (y 0, 9, .inl nz)), ((u 2), .inl (y 0, 9, .inl nz)), ((u 3), .inl (y 4, 4, .inr (.inr (.inr (.inr (va_up (va_up (va_up (va_up nn 0 (some (u 6))) 1 (some (u 8))) 2 (some (u 10))) 3 (some (u 12)))))))), ((u 4), .inl (y 0, 7, .inl nz)), ((u 5), .inl (y 0, 40, .inl nz)), ((u 6), .inr (0, [.ref (u 7), .int 0])), ((u 7), .inl (y 0, 40, .inl nz)), ((u 8), .inr (0, [.ref (u 9), .int 0])), ((u 9), .inl (y 0, 40, .inl nz)), ((u 10), .inr (0, [.ref (u 11), .int 0])), ((u 11), .inl (y 0, 40, .inl nz)), ((u 12), .inr (0, [.ref (u 13), .int 0])), ((u 13), .inl (y 0, 40, .inl nz))]) A) (va_A [(a0, .inr (9, [.null, .null, .null, .null, .int 0, .null, .null]))] sz)) 14 246 (va_A [(a0, .inr (9, [.null, .null, .null, .null, .int 0, .null, .null]))] sz) := by
  refine nm_ofW (D := D) (y := y) (E := nT) (yy := yX9_init) (wsy := wsX9_init) (rm := { frames := 3, cells := 14, slots := 246, locals := 220 }) (as := [.ref a0]) (ws := [(a0, .inr (9, [.null, .null, .null, .null, .int 0, .null, .null]))]) (sz := sz) (mc := 14) (ms := 246) (Qc := fun A => nQv D y (fun _ => True) (fun u => [(a0, .inr (9, [.ref (u 0), .ref (u 1), .ref (u 2), .ref (u 3), .int 0, .ref (u 4), .ref (u 5)])), ((u 0), .inl (y 0, 9, .inl nz)), ((u 1), .inl (y 0, 9, .inl nz)), ((u 2), .inl (y 0, 9, .inl nz)), ((u 3), .inl (y 4, 4, .inr (.inr (.inr (.inr (va_up (va_up (va_up (va_up nn 0 (some (u 6))) 1 (some (u 8))) 2 (some (u 10))) 3 (some (u 12)))))))), ((u 4), .inl (y 0, 7, .inl nz)), ((u 5), .inl (y 0, 40, .inl nz)), ((u 6), .inr (0, [.ref (u 7), .int 0])), ((u 7), .inl (y 0, 40, .inl nz)), ((u 8), .inr (0, [.ref (u 9), .int 0])), ((u 9), .inl (y 0, 40, .inl nz)), ((u 10), .inr (0, [.ref (u 11), .int 0])), ((u 11), .inl (y 0, 40, .inl nz)), ((u 12), .inr (0, [.ref (u 13), .int 0])), ((u 13), .inl (y 0, 40, .inl nz))]) A) (cc := cX9_init) (maxL := 2) (ret := none) (by decide +kernel) rfl (Nat.le_of_ble_eq_true rfl) ?_
  intro p e s m below meth c A ls H hx hb hr hml hts hown hlocks hnm hsz hP hK hD hA hS hE hAe hl
  replace hl : lv_has ls 2 [(0, .ref a0)] := hl
  have hown : s.vm.findClass RX9 = some m.cls := hown
  have w_0 := hts (.methodLink RX9 3 objectInit) (gt_k wd_1_77)
  have w_1 := hts (.instanceMethod objectInit) (gt_k wd_1_33)
  have w_2 := hts (.code objectInit ⟨#[0xb1]⟩ 1 none) (gt_k wd_1_34)
  have w_3 := hts (.arrayClass .int) (gt_k wd_1_53)
  have w_4 := hts (.fieldLink RX9 9 "SoldToBehind$Town" "minutes" "[I") (gt_k wd_1_94)
  have w_5 := hts (.fieldLink RX9 15 "SoldToBehind$Town" "ruleOf" "[I") (gt_k wd_1_98)
  have w_6 := hts (.fieldLink RX9 18 "SoldToBehind$Town" "friends" "[I") (gt_k wd_1_100)
  have w_7 := hts (.classLink RX9 21 RX0) (gt_k wd_1_78)
  have w_8 := hts (.fieldLink RX9 23 "SoldToBehind$Town" "rules" "[LSoldToBehind$Formula;") (gt_k wd_1_103)
  have w_9 := hts (.fieldLink RX9 27 "SoldToBehind$Town" "people" "I") (gt_k wd_1_105)
  have w_10 := hts (.fieldLink RX9 31 "SoldToBehind$Town" "signs" "[I") (gt_k wd_1_107)
  have w_11 := hts (.fieldLink RX9 34 "SoldToBehind$Town" "stack" "[I") (gt_k wd_1_108)
  have w_12 := hts (.instantiable RX0 2) (gt_k wd_1_80)
  have w_13 := hts (.initialized RX0) (gt_k wd_1_5)
  have w_14 := hts (.instanceMethod yX0_init) (gt_k wd_1_82)
  refine lv_aload_n hx hb dX9_init_0 rfl (lv_at hl 0 rfl) ?_
  refine W.objInit hx hb hown w_0 w_1 w_2 rfl (by rw [hml]; exact hl.1) rfl dX9_init_1 (Nat.le_of_ble_eq_true rfl) (Nat.le_of_ble_eq_true rfl) ?_
  refine W.eq (g2 := F0 m 4 ls []) rfl ?_
  refine lv_aload_n hx hb dX9_init_4 rfl (lv_at hl 0 rfl) ?_
  refine lv_bipush (v := 9) hx hb dX9_init_5 (by decide +kernel) ?_
  refine nb_newa (atype := .int) (ty := .int) (N' := 9) (a0 := (9, .inl nz)) hx hb w_3 rfl hK hP hD hS hA 0 rfl (fun _ _ h => h) (fun _ => rfl) (by decide +kernel) (by decide +kernel) (by decide +kernel) (Nat.le_of_ble_eq_true rfl) (Nat.le_of_ble_eq_true rfl) dX9_init_7 (fun q1 H hP hD hS => ?_)
  refine nb_putF (D := D) (ci := 9) (v := .ref q1) (ty := .array .int) (C := RX9) (T := TX9) (N := 7) (ws' := [(a0, .inr (9, [.ref q1, .null, .null, .null, .int 0, .null, .null])), (q1, .inl (y 0, 9, .inl nz))]) hx hb hts (gt_c iG_X9) tyX9 tyX9_ok nmX9 hown hK hP hD hS 0 rfl rfl 0 (by decide +kernel) w_4 (fun _ h9 => h9) rfl hnm rfl (by decide +kernel) rfl rfl (Nat.le_of_ble_eq_true rfl) rfl dX9_init_9 (fun H locs hP hD hS => ?_)
  refine lv_aload_n hx hb dX9_init_12 rfl (lv_at hl 0 rfl) ?_
  refine lv_bipush (v := 9) hx hb dX9_init_13 (by decide +kernel) ?_
  refine nb_newa (atype := .int) (ty := .int) (N' := 9) (a0 := (9, .inl nz)) hx hb w_3 rfl hK hP hD hS hA 0 rfl (fun _ _ h => h) (fun _ => rfl) (by decide +kernel) (by decide +kernel) (by decide +kernel) (Nat.le_of_ble_eq_true rfl) (Nat.le_of_ble_eq_true rfl) dX9_init_15 (fun q2 H hP hD hS => ?_)
  refine nb_putF (D := D) (ci := 9) (v := .ref q2) (ty := .array .int) (C := RX9) (T := TX9) (N := 7) (ws' := [(a0, .inr (9, [.ref q1, .ref q2, .null, .null, .int 0, .null, .null])), (q1, .inl (y 0, 9, .inl nz)), (q2, .inl (y 0, 9, .inl nz))]) hx hb hts (gt_c iG_X9) tyX9 tyX9_ok nmX9 hown hK hP hD hS 0 rfl rfl 1 (by decide +kernel) w_5 (fun _ h9 => h9) rfl hnm rfl (by decide +kernel) rfl rfl (Nat.le_of_ble_eq_true rfl) rfl dX9_init_17 (fun H locs hP hD hS => ?_)
  refine lv_aload_n hx hb dX9_init_20 rfl (lv_at hl 0 rfl) ?_
  refine lv_bipush (v := 9) hx hb dX9_init_21 (by decide +kernel) ?_
  refine nb_newa (atype := .int) (ty := .int) (N' := 9) (a0 := (9, .inl nz)) hx hb w_3 rfl hK hP hD hS hA 0 rfl (fun _ _ h => h) (fun _ => rfl) (by decide +kernel) (by decide +kernel) (by decide +kernel) (Nat.le_of_ble_eq_true rfl) (Nat.le_of_ble_eq_true rfl) dX9_init_23 (fun q3 H hP hD hS => ?_)
  refine nb_putF (D := D) (ci := 9) (v := .ref q3) (ty := .array .int) (C := RX9) (T := TX9) (N := 7) (ws' := [(a0, .inr (9, [.ref q1, .ref q2, .ref q3, .null, .int 0, .null, .null])), (q1, .inl (y 0, 9, .inl nz)), (q2, .inl (y 0, 9, .inl nz)), (q3, .inl (y 0, 9, .inl nz))]) hx hb hts (gt_c iG_X9) tyX9 tyX9_ok nmX9 hown hK hP hD hS 0 rfl rfl 2 (by decide +kernel) w_6 (fun _ h9 => h9) rfl hnm rfl (by decide +kernel) rfl rfl (Nat.le_of_ble_eq_true rfl) rfl dX9_init_25 (fun H locs hP hD hS => ?_)
  refine lv_aload_n hx hb dX9_init_28 rfl (lv_at hl 0 rfl) ?_
  refine lv_iconst (v := 4) hx hb dX9_init_29 (by decide +kernel) ?_
  refine nb_newq (N' := 4) (C := RX0) hx hb hown w_7 hE.2.1 hK hP hD hS hA 4 rfl (by decide +kernel) (by decide +kernel) (by decide +kernel) (Nat.le_of_ble_eq_true rfl) (Nat.le_of_ble_eq_true rfl) dX9_init_30 (fun q4 H hP hD hS => ?_)
  refine nb_putF (D := D) (ci := 9) (v := .ref q4) (ty := .array (.object "SoldToBehind$Formula")) (C := RX9) (T := TX9) (N := 7) (ws' := [(a0, .inr (9, [.ref q1, .ref q2, .ref q3, .ref q4, .int 0, .null, .null])), (q1, .inl (y 0, 9, .inl nz)), (q2, .inl (y 0, 9, .inl nz)), (q3, .inl (y 0, 9, .inl nz)), (q4, .inl (y 4, 4, .inr (.inr (.inr (.inr nn)))))]) hx hb hts (gt_c iG_X9) tyX9 tyX9_ok nmX9 hown hK hP hD hS 0 rfl rfl 3 (by decide +kernel) w_8 (fun _ h9 => h9) rfl hnm rfl (by decide +kernel) rfl rfl (Nat.le_of_ble_eq_true rfl) rfl dX9_init_33 (fun H locs hP hD hS => ?_)
  refine lv_aload_n hx hb dX9_init_36 rfl (lv_at hl 0 rfl) ?_
  refine lv_iconst (v := 0) hx hb dX9_init_37 (by decide +kernel) ?_
  refine nb_put (D := D) (ci := 9) (v := .int 0) (ty := .int) (C := RX9) (T := TX9) (N := 7) (ws' := [(a0, .inr (9, [.ref q1, .ref q2, .ref q3, .ref q4, .int 0, .null, .null])), (q1, .inl (y 0, 9, .inl nz)), (q2, .inl (y 0, 9, .inl nz)), (q3, .inl (y 0, 9, .inl nz)), (q4, .inl (y 4, 4, .inr (.inr (.inr (.inr nn)))))]) hx hb hts (gt_c iG_X9) tyX9 tyX9_ok nmX9 hown hK hP hD hS 0 rfl rfl 4 (by decide +kernel) w_9 (fun _ h9 => h9) rfl (by decide +kernel) rfl rfl (Nat.le_of_ble_eq_true rfl) rfl dX9_init_38 (fun H locs hP hD hS => ?_)
  refine lv_aload_n hx hb dX9_init_41 rfl (lv_at hl 0 rfl) ?_
  refine lv_bipush (v := 7) hx hb dX9_init_42 (by decide +kernel) ?_
  refine nb_newa (atype := .int) (ty := .int) (N' := 7) (a0 := (7, .inl nz)) hx hb w_3 rfl hK hP hD hS hA 0 rfl (fun _ _ h => h) (fun _ => rfl) (by decide +kernel) (by decide +kernel) (by decide +kernel) (Nat.le_of_ble_eq_true rfl) (Nat.le_of_ble_eq_true rfl) dX9_init_44 (fun q5 H hP hD hS => ?_)
  refine nb_putF (D := D) (ci := 9) (v := .ref q5) (ty := .array .int) (C := RX9) (T := TX9) (N := 7) (ws' := [(a0, .inr (9, [.ref q1, .ref q2, .ref q3, .ref q4, .int 0, .ref q5, .null])), (q1, .inl (y 0, 9, .inl nz)), (q2, .inl (y 0, 9, .inl nz)), (q3, .inl (y 0, 9, .inl nz)), (q4, .inl (y 4, 4, .inr (.inr (.inr (.inr nn))))), (q5, .inl (y 0, 7, .inl nz))]) hx hb hts (gt_c iG_X9) tyX9 tyX9_ok nmX9 hown hK hP hD hS 0 rfl rfl 5 (by decide +kernel) w_10 (fun _ h9 => h9) rfl hnm rfl (by decide +kernel) rfl rfl (Nat.le_of_ble_eq_true rfl) rfl dX9_init_46 (fun H locs hP hD hS => ?_)
  refine lv_aload_n hx hb dX9_init_49 rfl (lv_at hl 0 rfl) ?_
  refine lv_bipush (v := 40) hx hb dX9_init_50 (by decide +kernel) ?_
  refine nb_newa (atype := .int) (ty := .int) (N' := 40) (a0 := (40, .inl nz)) hx hb w_3 rfl hK hP hD hS hA 0 rfl (fun _ _ h => h) (fun _ => rfl) (by decide +kernel) (by decide +kernel) (by decide +kernel) (Nat.le_of_ble_eq_true rfl) (Nat.le_of_ble_eq_true rfl) dX9_init_52 (fun q6 H hP hD hS => ?_)
  refine nb_putF (D := D) (ci := 9) (v := .ref q6) (ty := .array .int) (C := RX9) (T := TX9) (N := 7) (ws' := [(a0, .inr (9, [.ref q1, .ref q2, .ref q3, .ref q4, .int 0, .ref q5, .ref q6])), (q1, .inl (y 0, 9, .inl nz)), (q2, .inl (y 0, 9, .inl nz)), (q3, .inl (y 0, 9, .inl nz)), (q4, .inl (y 4, 4, .inr (.inr (.inr (.inr nn))))), (q5, .inl (y 0, 7, .inl nz)), (q6, .inl (y 0, 40, .inl nz))]) hx hb hts (gt_c iG_X9) tyX9 tyX9_ok nmX9 hown hK hP hD hS 0 rfl rfl 6 (by decide +kernel) w_11 (fun _ h9 => h9) rfl hnm rfl (by decide +kernel) rfl rfl (Nat.le_of_ble_eq_true rfl) rfl dX9_init_54 (fun H locs hP hD hS => ?_)
  refine lv_iconst (v := 0) hx hb dX9_init_57 (by decide +kernel) ?_
  refine lv_istore_n (lv' := [(1, .int 0), (0, .ref a0)]) hx hb dX9_init_58 rfl hl (by decide +kernel) rfl (fun ls hl => ?_)
  refine lv_iload_n hx hb dX9_init_59 rfl (lv_at hl 0 rfl) ?_
  refine lv_iconst (v := 4) hx hb dX9_init_60 (by decide +kernel) ?_
  refine lv_icmp_ge (tgt := 83) hx hb dX9_init_61 (by decide +kernel) (fun c => absurd c (by decide +kernel)) (fun _ => ?_)
  refine lv_aload_n hx hb dX9_init_64 rfl (lv_at hl 1 rfl) ?_
  refine va_get (D := D) (ci := 9) (v := .ref q4) (C := RX9) (T := TX9) (N := 7) hx hb hts (gt_c iG_X9) hown hK hP 0 rfl rfl 3 (by decide +kernel) w_8 (fun _ h9 => h9) rfl dX9_init_65 ?_
  refine lv_iload_n hx hb dX9_init_68 rfl (lv_at hl 0 rfl) ?_
  refine va_new (ci := 0) (fs := [.null, .int 0]) (C := RX0) (T := TX0) (N := 2) hx hb hts (gt_c iG_X0) tyX0 tyX0_ok hown w_7 w_12 w_13 hK hP hD hS hA rfl (by decide +kernel) (Nat.le_of_ble_eq_true rfl) (Nat.le_of_ble_eq_true rfl) dX9_init_69 (fun q7 H hP hD hS => ?_)
  refine lv_dup hx hb dX9_init_72 rfl ?_
  refine nj_v (ws := [(a0, .inr (9, [.ref q1, .ref q2, .ref q3, .ref q4, .int 0, .ref q5, .ref q6])), (q1, .inl (y 0, 9, .inl nz)), (q2, .inl (y 0, 9, .inl nz)), (q3, .inl (y 0, 9, .inl nz)), (q4, .inl (y 4, 4, .inr (.inr (.inr (.inr nn))))), (q5, .inl (y 0, 7, .inl nz)), (q6, .inl (y 0, 40, .inl nz)), (q7, .inr (0, [.null, .int 0]))]) (wc := [(q7, .inr (0, [.null, .int 0]))]) (wr := [(a0, .inr (9, [.ref q1, .ref q2, .ref q3, .ref q4, .int 0, .ref q5, .ref q6])), (q1, .inl (y 0, 9, .inl nz)), (q2, .inl (y 0, 9, .inl nz)), (q3, .inl (y 0, 9, .inl nz)), (q4, .inl (y 4, 4, .inr (.inr (.inr (.inr nn))))), (q5, .inl (y 0, 7, .inl nz)), (q6, .inl (y 0, 40, .inl nz))]) (nr_IN (host := RX11) (As := []) (rest := [.ref q7, .int 0, .ref q4]) ⟨hx, hb, hml, hown, hts⟩ (cX0_init_1 l D y q7 H.size) ⟨va_cnB 0 hts gX9_init_X0_init_n37 rfl rfl rfl (hE.1 (RX9, 37, yX0_init) (by decide +kernel)) w_13 (by decide +kernel) ⟨Nat.le_of_ble_eq_true rfl, Nat.le_of_ble_eq_true rfl⟩, rfl, w_14⟩ hK hP hD hE [7] rfl (by decide +kernel) rfl rfl hl.1 rfl (lv_room (Nat.le_of_ble_eq_true rfl)) dX9_init_73 ⟨Nat.le_of_ble_eq_true rfl, Nat.le_of_ble_eq_true rfl⟩) hP hD hS hA [7] [0, 1, 2, 3, 4, 5, 6] rfl rfl (by decide +kernel) (by decide +kernel) (fun u8 H locs _ hP hD hS => ?_)
  refine nb_astq (ws' := [(a0, .inr (9, [.ref q1, .ref q2, .ref q3, .ref q4, .int 0, .ref q5, .ref q6])), (q1, .inl (y 0, 9, .inl nz)), (q2, .inl (y 0, 9, .inl nz)), (q3, .inl (y 0, 9, .inl nz)), (q4, .inl (y 4, 4, .inr (.inr (.inr (.inr (va_up nn 0 (some q7))))))), (q5, .inl (y 0, 7, .inl nz)), (q6, .inl (y 0, 40, .inl nz)), (q7, .inr (0, [.ref (u8 0), .int 0])), ((u8 0), .inl (y 0, 40, .inl nz))]) hx hb hK hP hD hS 4 4 7 0 rfl rfl rfl rfl (n_in (by decide +kernel)) rfl dX9_init_76 (fun H locs hP hD hS => ?_)
  refine lv_iinc (v := 1) (lv' := [(1, .int 1), (0, .ref a0)]) hx hb dX9_init_77 hl (k := 0) rfl (by decide +kernel) (by decide +kernel) rfl (fun ls hl => ?_)
  refine lv_goto (tgt := 59) hx hb dX9_init_80 (by decide +kernel) ?_
  refine lv_iload_n hx hb dX9_init_59 rfl (lv_at hl 0 rfl) ?_
  refine lv_iconst (v := 4) hx hb dX9_init_60 (by decide +kernel) ?_
  refine lv_icmp_ge (tgt := 83) hx hb dX9_init_61 (by decide +kernel) (fun c => absurd c (by decide +kernel)) (fun _ => ?_)
  refine lv_aload_n hx hb dX9_init_64 rfl (lv_at hl 1 rfl) ?_
  refine va_get (D := D) (ci := 9) (v := .ref q4) (C := RX9) (T := TX9) (N := 7) hx hb hts (gt_c iG_X9) hown hK hP 0 rfl rfl 3 (by decide +kernel) w_8 (fun _ h9 => h9) rfl dX9_init_65 ?_
  refine lv_iload_n hx hb dX9_init_68 rfl (lv_at hl 0 rfl) ?_
  refine va_new (ci := 0) (fs := [.null, .int 0]) (C := RX0) (T := TX0) (N := 2) hx hb hts (gt_c iG_X0) tyX0 tyX0_ok hown w_7 w_12 w_13 hK hP hD hS hA rfl (by decide +kernel) (Nat.le_of_ble_eq_true rfl) (Nat.le_of_ble_eq_true rfl) dX9_init_69 (fun q10 H hP hD hS => ?_)
  refine lv_dup hx hb dX9_init_72 rfl ?_
  refine nj_v (ws := [(a0, .inr (9, [.ref q1, .ref q2, .ref q3, .ref q4, .int 0, .ref q5, .ref q6])), (q1, .inl (y 0, 9, .inl nz)), (q2, .inl (y 0, 9, .inl nz)), (q3, .inl (y 0, 9, .inl nz)), (q4, .inl (y 4, 4, .inr (.inr (.inr (.inr (va_up nn 0 (some q7))))))), (q5, .inl (y 0, 7, .inl nz)), (q6, .inl (y 0, 40, .inl nz)), (q7, .inr (0, [.ref (u8 0), .int 0])), ((u8 0), .inl (y 0, 40, .inl nz)), (q10, .inr (0, [.null, .int 0]))]) (wc := [(q10, .inr (0, [.null, .int 0]))]) (wr := [(a0, .inr (9, [.ref q1, .ref q2, .ref q3, .ref q4, .int 0, .ref q5, .ref q6])), (q1, .inl (y 0, 9, .inl nz)), (q2, .inl (y 0, 9, .inl nz)), (q3, .inl (y 0, 9, .inl nz)), (q4, .inl (y 4, 4, .inr (.inr (.inr (.inr (va_up nn 0 (some q7))))))), (q5, .inl (y 0, 7, .inl nz)), (q6, .inl (y 0, 40, .inl nz)), (q7, .inr (0, [.ref (u8 0), .int 0])), ((u8 0), .inl (y 0, 40, .inl nz))]) (nr_IN (host := RX11) (As := []) (rest := [.ref q10, .int 1, .ref q4]) ⟨hx, hb, hml, hown, hts⟩ (cX0_init_1 l D y q10 H.size) ⟨va_cnB 0 hts gX9_init_X0_init_n37 rfl rfl rfl (hE.1 (RX9, 37, yX0_init) (by decide +kernel)) w_13 (by decide +kernel) ⟨Nat.le_of_ble_eq_true rfl, Nat.le_of_ble_eq_true rfl⟩, rfl, w_14⟩ hK hP hD hE [9] rfl (by decide +kernel) rfl rfl hl.1 rfl (lv_room (Nat.le_of_ble_eq_true rfl)) dX9_init_73 ⟨Nat.le_of_ble_eq_true rfl, Nat.le_of_ble_eq_true rfl⟩) hP hD hS hA [9] [0, 1, 2, 3, 4, 5, 6, 7, 8] rfl rfl (by decide +kernel) (by decide +kernel) (fun u11 H locs _ hP hD hS => ?_)
  refine nb_astq (ws' := [(a0, .inr (9, [.ref q1, .ref q2, .ref q3, .ref q4, .int 0, .ref q5, .ref q6])), (q1, .inl (y 0, 9, .inl nz)), (q2, .inl (y 0, 9, .inl nz)), (q3, .inl (y 0, 9, .inl nz)), (q4, .inl (y 4, 4, .inr (.inr (.inr (.inr (va_up (va_up nn 0 (some q7)) 1 (some q10))))))), (q5, .inl (y 0, 7, .inl nz)), (q6, .inl (y 0, 40, .inl nz)), (q7, .inr (0, [.ref (u8 0), .int 0])), ((u8 0), .inl (y 0, 40, .inl nz)), (q10, .inr (0, [.ref (u11 0), .int 0])), ((u11 0), .inl (y 0, 40, .inl nz))]) hx hb hK hP hD hS 4 4 9 0 rfl rfl rfl rfl (n_in (by decide +kernel)) rfl dX9_init_76 (fun H locs hP hD hS => ?_)
  refine lv_iinc (v := 2) (lv' := [(1, .int 2), (0, .ref a0)]) hx hb dX9_init_77 hl (k := 0) rfl (by decide +kernel) (by decide +kernel) rfl (fun ls hl => ?_)
  refine lv_goto (tgt := 59) hx hb dX9_init_80 (by decide +kernel) ?_
  refine lv_iload_n hx hb dX9_init_59 rfl (lv_at hl 0 rfl) ?_
  refine lv_iconst (v := 4) hx hb dX9_init_60 (by decide +kernel) ?_
  refine lv_icmp_ge (tgt := 83) hx hb dX9_init_61 (by decide +kernel) (fun c => absurd c (by decide +kernel)) (fun _ => ?_)
  refine lv_aload_n hx hb dX9_init_64 rfl (lv_at hl 1 rfl) ?_
  refine va_get (D := D) (ci := 9) (v := .ref q4) (C := RX9) (T := TX9) (N := 7) hx hb hts (gt_c iG_X9) hown hK hP 0 rfl rfl 3 (by decide +kernel) w_8 (fun _ h9 => h9) rfl dX9_init_65 ?_
  refine lv_iload_n hx hb dX9_init_68 rfl (lv_at hl 0 rfl) ?_
  refine va_new (ci := 0) (fs := [.null, .int 0]) (C := RX0) (T := TX0) (N := 2) hx hb hts (gt_c iG_X0) tyX0 tyX0_ok hown w_7 w_12 w_13 hK hP hD hS hA rfl (by decide +kernel) (Nat.le_of_ble_eq_true rfl) (Nat.le_of_ble_eq_true rfl) dX9_init_69 (fun q13 H hP hD hS => ?_)
  refine lv_dup hx hb dX9_init_72 rfl ?_
  refine nj_v (ws := [(a0, .inr (9, [.ref q1, .ref q2, .ref q3, .ref q4, .int 0, .ref q5, .ref q6])), (q1, .inl (y 0, 9, .inl nz)), (q2, .inl (y 0, 9, .inl nz)), (q3, .inl (y 0, 9, .inl nz)), (q4, .inl (y 4, 4, .inr (.inr (.inr (.inr (va_up (va_up nn 0 (some q7)) 1 (some q10))))))), (q5, .inl (y 0, 7, .inl nz)), (q6, .inl (y 0, 40, .inl nz)), (q7, .inr (0, [.ref (u8 0), .int 0])), ((u8 0), .inl (y 0, 40, .inl nz)), (q10, .inr (0, [.ref (u11 0), .int 0])), ((u11 0), .inl (y 0, 40, .inl nz)), (q13, .inr (0, [.null, .int 0]))]) (wc := [(q13, .inr (0, [.null, .int 0]))]) (wr := [(a0, .inr (9, [.ref q1, .ref q2, .ref q3, .ref q4, .int 0, .ref q5, .ref q6])), (q1, .inl (y 0, 9, .inl nz)), (q2, .inl (y 0, 9, .inl nz)), (q3, .inl (y 0, 9, .inl nz)), (q4, .inl (y 4, 4, .inr (.inr (.inr (.inr (va_up (va_up nn 0 (some q7)) 1 (some q10))))))), (q5, .inl (y 0, 7, .inl nz)), (q6, .inl (y 0, 40, .inl nz)), (q7, .inr (0, [.ref (u8 0), .int 0])), ((u8 0), .inl (y 0, 40, .inl nz)), (q10, .inr (0, [.ref (u11 0), .int 0])), ((u11 0), .inl (y 0, 40, .inl nz))]) (nr_IN (host := RX11) (As := []) (rest := [.ref q13, .int 2, .ref q4]) ⟨hx, hb, hml, hown, hts⟩ (cX0_init_1 l D y q13 H.size) ⟨va_cnB 0 hts gX9_init_X0_init_n37 rfl rfl rfl (hE.1 (RX9, 37, yX0_init) (by decide +kernel)) w_13 (by decide +kernel) ⟨Nat.le_of_ble_eq_true rfl, Nat.le_of_ble_eq_true rfl⟩, rfl, w_14⟩ hK hP hD hE [11] rfl (by decide +kernel) rfl rfl hl.1 rfl (lv_room (Nat.le_of_ble_eq_true rfl)) dX9_init_73 ⟨Nat.le_of_ble_eq_true rfl, Nat.le_of_ble_eq_true rfl⟩) hP hD hS hA [11] [0, 1, 2, 3, 4, 5, 6, 7, 8, 9, 10] rfl rfl (by decide +kernel) (by decide +kernel) (fun u14 H locs _ hP hD hS => ?_)
  refine nb_astq (ws' := [(a0, .inr (9, [.ref q1, .ref q2, .ref q3, .ref q4, .int 0, .ref q5, .ref q6])), (q1, .inl (y 0, 9, .inl nz)), (q2, .inl (y 0, 9, .inl nz)), (q3, .inl (y 0, 9, .inl nz)), (q4, .inl (y 4, 4, .inr (.inr (.inr (.inr (va_up (va_up (va_up nn 0 (some q7)) 1 (some q10)) 2 (some q13))))))), (q5, .inl (y 0, 7, .inl nz)), (q6, .inl (y 0, 40, .inl nz)), (q7, .inr (0, [.ref (u8 0), .int 0])), ((u8 0), .inl (y 0, 40, .inl nz)), (q10, .inr (0, [.ref (u11 0), .int 0])), ((u11 0), .inl (y 0, 40, .inl nz)), (q13, .inr (0, [.ref (u14 0), .int 0])), ((u14 0), .inl (y 0, 40, .inl nz))]) hx hb hK hP hD hS 4 4 11 0 rfl rfl rfl rfl (n_in (by decide +kernel)) rfl dX9_init_76 (fun H locs hP hD hS => ?_)
  refine lv_iinc (v := 3) (lv' := [(1, .int 3), (0, .ref a0)]) hx hb dX9_init_77 hl (k := 0) rfl (by decide +kernel) (by decide +kernel) rfl (fun ls hl => ?_)
  refine lv_goto (tgt := 59) hx hb dX9_init_80 (by decide +kernel) ?_
  refine lv_iload_n hx hb dX9_init_59 rfl (lv_at hl 0 rfl) ?_
  refine lv_iconst (v := 4) hx hb dX9_init_60 (by decide +kernel) ?_
  refine lv_icmp_ge (tgt := 83) hx hb dX9_init_61 (by decide +kernel) (fun c => absurd c (by decide +kernel)) (fun _ => ?_)
  refine lv_aload_n hx hb dX9_init_64 rfl (lv_at hl 1 rfl) ?_
  refine va_get (D := D) (ci := 9) (v := .ref q4) (C := RX9) (T := TX9) (N := 7) hx hb hts (gt_c iG_X9) hown hK hP 0 rfl rfl 3 (by decide +kernel) w_8 (fun _ h9 => h9) rfl dX9_init_65 ?_
  refine lv_iload_n hx hb dX9_init_68 rfl (lv_at hl 0 rfl) ?_
  refine va_new (ci := 0) (fs := [.null, .int 0]) (C := RX0) (T := TX0) (N := 2) hx hb hts (gt_c iG_X0) tyX0 tyX0_ok hown w_7 w_12 w_13 hK hP hD hS hA rfl (by decide +kernel) (Nat.le_of_ble_eq_true rfl) (Nat.le_of_ble_eq_true rfl) dX9_init_69 (fun q16 H hP hD hS => ?_)
  refine lv_dup hx hb dX9_init_72 rfl ?_
  refine nj_v (ws := [(a0, .inr (9, [.ref q1, .ref q2, .ref q3, .ref q4, .int 0, .ref q5, .ref q6])), (q1, .inl (y 0, 9, .inl nz)), (q2, .inl (y 0, 9, .inl nz)), (q3, .inl (y 0, 9, .inl nz)), (q4, .inl (y 4, 4, .inr (.inr (.inr (.inr (va_up (va_up (va_up nn 0 (some q7)) 1 (some q10)) 2 (some q13))))))), (q5, .inl (y 0, 7, .inl nz)), (q6, .inl (y 0, 40, .inl nz)), (q7, .inr (0, [.ref (u8 0), .int 0])), ((u8 0), .inl (y 0, 40, .inl nz)), (q10, .inr (0, [.ref (u11 0), .int 0])), ((u11 0), .inl (y 0, 40, .inl nz)), (q13, .inr (0, [.ref (u14 0), .int 0])), ((u14 0), .inl (y 0, 40, .inl nz)), (q16, .inr (0, [.null, .int 0]))]) (wc := [(q16, .inr (0, [.null, .int 0]))]) (wr := [(a0, .inr (9, [.ref q1, .ref q2, .ref q3, .ref q4, .int 0, .ref q5, .ref q6])), (q1, .inl (y 0, 9, .inl nz)), (q2, .inl (y 0, 9, .inl nz)), (q3, .inl (y 0, 9, .inl nz)), (q4, .inl (y 4, 4, .inr (.inr (.inr (.inr (va_up (va_up (va_up nn 0 (some q7)) 1 (some q10)) 2 (some q13))))))), (q5, .inl (y 0, 7, .inl nz)), (q6, .inl (y 0, 40, .inl nz)), (q7, .inr (0, [.ref (u8 0), .int 0])), ((u8 0), .inl (y 0, 40, .inl nz)), (q10, .inr (0, [.ref (u11 0), .int 0])), ((u11 0), .inl (y 0, 40, .inl nz)), (q13, .inr (0, [.ref (u14 0), .int 0])), ((u14 0), .inl (y 0, 40, .inl nz))]) (nr_IN (host := RX11) (As := []) (rest := [.ref q16, .int 3, .ref q4]) ⟨hx, hb, hml, hown, hts⟩ (cX0_init_1 l D y q16 H.size) ⟨va_cnB 0 hts gX9_init_X0_init_n37 rfl rfl rfl (hE.1 (RX9, 37, yX0_init) (by decide +kernel)) w_13 (by decide +kernel) ⟨Nat.le_of_ble_eq_true rfl, Nat.le_of_ble_eq_true rfl⟩, rfl, w_14⟩ hK hP hD hE [13] rfl (by decide +kernel) rfl rfl hl.1 rfl (lv_room (Nat.le_of_ble_eq_true rfl)) dX9_init_73 ⟨Nat.le_of_ble_eq_true rfl, Nat.le_of_ble_eq_true rfl⟩) hP hD hS hA [13] [0, 1, 2, 3, 4, 5, 6, 7, 8, 9, 10, 11, 12] rfl rfl (by decide +kernel) (by decide +kernel) (fun u17 H locs _ hP hD hS => ?_)
  refine nb_astq (ws' := [(a0, .inr (9, [.ref q1, .ref q2, .ref q3, .ref q4, .int 0, .ref q5, .ref q6])), (q1, .inl (y 0, 9, .inl nz)), (q2, .inl (y 0, 9, .inl nz)), (q3, .inl (y 0, 9, .inl nz)), (q4, .inl (y 4, 4, .inr (.inr (.inr (.inr (va_up (va_up (va_up (va_up nn 0 (some q7)) 1 (some q10)) 2 (some q13)) 3 (some q16))))))), (q5, .inl (y 0, 7, .inl nz)), (q6, .inl (y 0, 40, .inl nz)), (q7, .inr (0, [.ref (u8 0), .int 0])), ((u8 0), .inl (y 0, 40, .inl nz)), (q10, .inr (0, [.ref (u11 0), .int 0])), ((u11 0), .inl (y 0, 40, .inl nz)), (q13, .inr (0, [.ref (u14 0), .int 0])), ((u14 0), .inl (y 0, 40, .inl nz)), (q16, .inr (0, [.ref (u17 0), .int 0])), ((u17 0), .inl (y 0, 40, .inl nz))]) hx hb hK hP hD hS 4 4 13 0 rfl rfl rfl rfl (n_in (by decide +kernel)) rfl dX9_init_76 (fun H locs hP hD hS => ?_)
  refine lv_iinc (v := 4) (lv' := [(1, .int 4), (0, .ref a0)]) hx hb dX9_init_77 hl (k := 0) rfl (by decide +kernel) (by decide +kernel) rfl (fun ls hl => ?_)
  refine lv_goto (tgt := 59) hx hb dX9_init_80 (by decide +kernel) ?_
  refine lv_iload_n hx hb dX9_init_59 rfl (lv_at hl 0 rfl) ?_
  refine lv_iconst (v := 4) hx hb dX9_init_60 (by decide +kernel) ?_
  refine lv_icmp_ge (tgt := 83) hx hb dX9_init_61 (by decide +kernel) (fun _ => ?_) (fun c => absurd (by decide +kernel) c)
  refine W.widen (k := 14) (n := 246) (Nat.le_of_ble_eq_true rfl) (Nat.le_of_ble_eq_true rfl) ?_
  exact W.vret hx hb hr (fun t ht hW => ⟨⟨(fun k => if k = 0 then q1 else if k = 1 then q2 else if k = 2 then q3 else if k = 3 then q4 else if k = 4 then q5 else if k = 5 then q6 else if k = 6 then q7 else if k = 7 then (u8 0) else if k = 8 then q10 else if k = 9 then (u11 0) else if k = 10 then q13 else if k = 11 then (u14 0) else if k = 12 then q16 else if k = 13 then (u17 0) else 0), rfl, trivial, by rw [ht]; exact hP, va_K.moved hW.alike hK, hD⟩, hS.F ht⟩) hS.2.2 dX9_init_83 hlocks
set_option maxRecDepth 100000 in
set_option maxHeartbeats 4000000 in
theorem cX10_init_1 (l : Launch) (D : va_G) (y : Nat → ClassId) (a0 : Nat) (sz : Nat) : Met l yX10_init wsX10_init { frames := 2, cells := 4, slots := 36, locals := 200 } (nPc D y nT [.ref a0] [(a0, .inr (10, [.null, .null, .null, .null, .int 0, .int 0, .int 0, .int 0, .int 0, .int 0]))] sz) ((fun A => nQv D y (fun _ => True) (fun u => [(a0, .inr (10, [.ref (u 0), .ref (u 1), .ref (u 2), .ref (u 3), .int 0, .int 0, .int 0, .int 0, .int 0, .int 0])), ((u 0), .inl (y 0, 9, .inl nz)), ((u 1), .inl (y 0, 9, .inl nz)), ((u 2), .inl (y 0, 9, .inl nz)), ((u 3), .inl (y 0, 9, .inl nz))]) A) (va_A [(a0, .inr (10, [.null, .null, .null, .null, .int 0, .int 0, .int 0, .int 0, .int 0, .int 0]))] sz)) 4 36 (va_A [(a0, .inr (10, [.null, .null, .null, .null, .int 0, .int 0, .int 0, .int 0, .int 0, .int 0]))] sz) := by
  refine nm_ofW (D := D) (y := y) (E := nT) (yy := yX10_init) (wsy := wsX10_init) (rm := { frames := 2, cells := 4, slots := 36, locals := 200 }) (as := [.ref a0]) (ws := [(a0, .inr (10, [.null, .null, .null, .null, .int 0, .int 0, .int 0, .int 0, .int 0, .int 0]))]) (sz := sz) (mc := 4) (ms := 36) (Qc := fun A => nQv D y (fun _ => True) (fun u => [(a0, .inr (10, [.ref (u 0), .ref (u 1), .ref (u 2), .ref (u 3), .int 0, .int 0, .int 0, .int 0, .int 0, .int 0])), ((u 0), .inl (y 0, 9, .inl nz)), ((u 1), .inl (y 0, 9, .inl nz)), ((u 2), .inl (y 0, 9, .inl nz)), ((u 3), .inl (y 0, 9, .inl nz))]) A) (cc := cX10_init) (maxL := 1) (ret := none) (by decide +kernel) rfl (Nat.le_of_ble_eq_true rfl) ?_
  intro p e s m below meth c A ls H hx hb hr hml hts hown hlocks hnm hsz hP hK hD hA hS hE hAe hl
  replace hl : lv_has ls 1 [(0, .ref a0)] := hl
  have hown : s.vm.findClass RX10 = some m.cls := hown
  have w_0 := hts (.methodLink RX10 3 objectInit) (gt_k wd_1_129)
  have w_1 := hts (.instanceMethod objectInit) (gt_k wd_1_33)
  have w_2 := hts (.code objectInit ⟨#[0xb1]⟩ 1 none) (gt_k wd_1_34)
  have w_3 := hts (.arrayClass .int) (gt_k wd_1_53)
  have w_4 := hts (.fieldLink RX10 9 "SoldToBehind$TownReader" "purse" "[I") (gt_k wd_1_130)
  have w_5 := hts (.fieldLink RX10 15 "SoldToBehind$TownReader" "minutes" "[I") (gt_k wd_1_132)
  have w_6 := hts (.fieldLink RX10 18 "SoldToBehind$TownReader" "ruleOf" "[I") (gt_k wd_1_134)
  have w_7 := hts (.fieldLink RX10 21 "SoldToBehind$TownReader" "friends" "[I") (gt_k wd_1_136)
  have w_8 := hts (.fieldLink RX10 24 "SoldToBehind$TownReader" "stubborn" "I") (gt_k wd_1_138)
  have w_9 := hts (.fieldLink RX10 28 "SoldToBehind$TownReader" "people" "I") (gt_k wd_1_140)
  have w_10 := hts (.fieldLink RX10 31 "SoldToBehind$TownReader" "lines" "I") (gt_k wd_1_143)
  have w_11 := hts (.fieldLink RX10 34 "SoldToBehind$TownReader" "state" "I") (gt_k wd_1_145)
  have w_12 := hts (.fieldLink RX10 37 "SoldToBehind$TownReader" "digits" "I") (gt_k wd_1_146)
  have w_13 := hts (.fieldLink RX10 40 "SoldToBehind$TownReader" "one" "I") (gt_k wd_1_147)
  refine lv_aload_n hx hb dX10_init_0 rfl (lv_at hl 0 rfl) ?_
  refine W.objInit hx hb hown w_0 w_1 w_2 rfl (by rw [hml]; exact hl.1) rfl dX10_init_1 (Nat.le_of_ble_eq_true rfl) (Nat.le_of_ble_eq_true rfl) ?_
  refine W.eq (g2 := F0 m 4 ls []) rfl ?_
  refine lv_aload_n hx hb dX10_init_4 rfl (lv_at hl 0 rfl) ?_
  refine lv_bipush (v := 9) hx hb dX10_init_5 (by decide +kernel) ?_
  refine nb_newa (atype := .int) (ty := .int) (N' := 9) (a0 := (9, .inl nz)) hx hb w_3 rfl hK hP hD hS hA 0 rfl (fun _ _ h => h) (fun _ => rfl) (by decide +kernel) (by decide +kernel) (by decide +kernel) (Nat.le_of_ble_eq_true rfl) (Nat.le_of_ble_eq_true rfl) dX10_init_7 (fun q1 H hP hD hS => ?_)
  refine nb_putF (D := D) (ci := 10) (v := .ref q1) (ty := .array .int) (C := RX10) (T := TX10) (N := 10) (ws' := [(a0, .inr (10, [.ref q1, .null, .null, .null, .int 0, .int 0, .int 0, .int 0, .int 0, .int 0])), (q1, .inl (y 0, 9, .inl nz))]) hx hb hts (gt_c iG_X10) tyX10 tyX10_ok nmX10 hown hK hP hD hS 0 rfl rfl 0 (by decide +kernel) w_4 (fun _ h9 => h9) rfl hnm rfl (by decide +kernel) rfl rfl (Nat.le_of_ble_eq_true rfl) rfl dX10_init_9 (fun H locs hP hD hS => ?_)
  refine lv_aload_n hx hb dX10_init_12 rfl (lv_at hl 0 rfl) ?_
  refine lv_bipush (v := 9) hx hb dX10_init_13 (by decide +kernel) ?_
  refine nb_newa (atype := .int) (ty := .int) (N' := 9) (a0 := (9, .inl nz)) hx hb w_3 rfl hK hP hD hS hA 0 rfl (fun _ _ h => h) (fun _ => rfl) (by decide +kernel) (by decide +kernel) (by decide +kernel) (Nat.le_of_ble_eq_true rfl) (Nat.le_of_ble_eq_true rfl) dX10_init_15 (fun q2 H hP hD hS => ?_)
  refine nb_putF (D := D) (ci := 10) (v := .ref q2) (ty := .array .int) (C := RX10) (T := TX10) (N := 10) (ws' := [(a0, .inr (10, [.ref q1, .ref q2, .null, .null, .int 0, .int 0, .int 0, .int 0, .int 0, .int 0])), (q1, .inl (y 0, 9, .inl nz)), (q2, .inl (y 0, 9, .inl nz))]) hx hb hts (gt_c iG_X10) tyX10 tyX10_ok nmX10 hown hK hP hD hS 0 rfl rfl 1 (by decide +kernel) w_5 (fun _ h9 => h9) rfl hnm rfl (by decide +kernel) rfl rfl (Nat.le_of_ble_eq_true rfl) rfl dX10_init_17 (fun H locs hP hD hS => ?_)
  refine lv_aload_n hx hb dX10_init_20 rfl (lv_at hl 0 rfl) ?_
  refine lv_bipush (v := 9) hx hb dX10_init_21 (by decide +kernel) ?_
  refine nb_newa (atype := .int) (ty := .int) (N' := 9) (a0 := (9, .inl nz)) hx hb w_3 rfl hK hP hD hS hA 0 rfl (fun _ _ h => h) (fun _ => rfl) (by decide +kernel) (by decide +kernel) (by decide +kernel) (Nat.le_of_ble_eq_true rfl) (Nat.le_of_ble_eq_true rfl) dX10_init_23 (fun q3 H hP hD hS => ?_)
  refine nb_putF (D := D) (ci := 10) (v := .ref q3) (ty := .array .int) (C := RX10) (T := TX10) (N := 10) (ws' := [(a0, .inr (10, [.ref q1, .ref q2, .ref q3, .null, .int 0, .int 0, .int 0, .int 0, .int 0, .int 0])), (q1, .inl (y 0, 9, .inl nz)), (q2, .inl (y 0, 9, .inl nz)), (q3, .inl (y 0, 9, .inl nz))]) hx hb hts (gt_c iG_X10) tyX10 tyX10_ok nmX10 hown hK hP hD hS 0 rfl rfl 2 (by decide +kernel) w_6 (fun _ h9 => h9) rfl hnm rfl (by decide +kernel) rfl rfl (Nat.le_of_ble_eq_true rfl) rfl dX10_init_25 (fun H locs hP hD hS => ?_)
  refine lv_aload_n hx hb dX10_init_28 rfl (lv_at hl 0 rfl) ?_
  refine lv_bipush (v := 9) hx hb dX10_init_29 (by decide +kernel) ?_
  refine nb_newa (atype := .int) (ty := .int) (N' := 9) (a0 := (9, .inl nz)) hx hb w_3 rfl hK hP hD hS hA 0 rfl (fun _ _ h => h) (fun _ => rfl) (by decide +kernel) (by decide +kernel) (by decide +kernel) (Nat.le_of_ble_eq_true rfl) (Nat.le_of_ble_eq_true rfl) dX10_init_31 (fun q4 H hP hD hS => ?_)
  refine nb_putF (D := D) (ci := 10) (v := .ref q4) (ty := .array .int) (C := RX10) (T := TX10) (N := 10) (ws' := [(a0, .inr (10, [.ref q1, .ref q2, .ref q3, .ref q4, .int 0, .int 0, .int 0, .int 0, .int 0, .int 0])), (q1, .inl (y 0, 9, .inl nz)), (q2, .inl (y 0, 9, .inl nz)), (q3, .inl (y 0, 9, .inl nz)), (q4, .inl (y 0, 9, .inl nz))]) hx hb hts (gt_c iG_X10) tyX10 tyX10_ok nmX10 hown hK hP hD hS 0 rfl rfl 3 (by decide +kernel) w_7 (fun _ h9 => h9) rfl hnm rfl (by decide +kernel) rfl rfl (Nat.le_of_ble_eq_true rfl) rfl dX10_init_33 (fun H locs hP hD hS => ?_)
  refine lv_aload_n hx hb dX10_init_36 rfl (lv_at hl 0 rfl) ?_
  refine lv_iconst (v := 0) hx hb dX10_init_37 (by decide +kernel) ?_
  refine nb_put (D := D) (ci := 10) (v := .int 0) (ty := .int) (C := RX10) (T := TX10) (N := 10) (ws' := [(a0, .inr (10, [.ref q1, .ref q2, .ref q3, .ref q4, .int 0, .int 0, .int 0, .int 0, .int 0, .int 0])), (q1, .inl (y 0, 9, .inl nz)), (q2, .inl (y 0, 9, .inl nz)), (q3, .inl (y 0, 9, .inl nz)), (q4, .inl (y 0, 9, .inl nz))]) hx hb hts (gt_c iG_X10) tyX10 tyX10_ok nmX10 hown hK hP hD hS 0 rfl rfl 4 (by decide +kernel) w_8 (fun _ h9 => h9) rfl (by decide +kernel) rfl rfl (Nat.le_of_ble_eq_true rfl) rfl dX10_init_38 (fun H locs hP hD hS => ?_)
  refine lv_aload_n hx hb dX10_init_41 rfl (lv_at hl 0 rfl) ?_
  refine lv_iconst (v := 0) hx hb dX10_init_42 (by decide +kernel) ?_
  refine nb_put (D := D) (ci := 10) (v := .int 0) (ty := .int) (C := RX10) (T := TX10) (N := 10) (ws' := [(a0, .inr (10, [.ref q1, .ref q2, .ref q3, .ref q4, .int 0, .int 0, .int 0, .int 0, .int 0, .int 0])), (q1, .inl (y 0, 9, .inl nz)), (q2, .inl (y 0, 9, .inl nz)), (q3, .inl (y 0, 9, .inl nz)), (q4, .inl (y 0, 9, .inl nz))]) hx hb hts (gt_c iG_X10) tyX10 tyX10_ok nmX10 hown hK hP hD hS 0 rfl rfl 5 (by decide +kernel) w_9 (fun _ h9 => h9) rfl (by decide +kernel) rfl rfl (Nat.le_of_ble_eq_true rfl) rfl dX10_init_43 (fun H locs hP hD hS => ?_)
  refine lv_aload_n hx hb dX10_init_46 rfl (lv_at hl 0 rfl) ?_
  refine lv_iconst (v := 0) hx hb dX10_init_47 (by decide +kernel) ?_
  refine nb_put (D := D) (ci := 10) (v := .int 0) (ty := .int) (C := RX10) (T := TX10) (N := 10) (ws' := [(a0, .inr (10, [.ref q1, .ref q2, .ref q3, .ref q4, .int 0, .int 0, .int 0, .int 0, .int 0, .int 0])), (q1, .inl (y 0, 9, .inl nz)), (q2, .inl (y 0, 9, .inl nz)), (q3, .inl (y 0, 9, .inl nz)), (q4, .inl (y 0, 9, .inl nz))]) hx hb hts (gt_c iG_X10) tyX10 tyX10_ok nmX10 hown hK hP hD hS 0 rfl rfl 6 (by decide +kernel) w_10 (fun _ h9 => h9) rfl (by decide +kernel) rfl rfl (Nat.le_of_ble_eq_true rfl) rfl dX10_init_48 (fun H locs hP hD hS => ?_)
  refine lv_aload_n hx hb dX10_init_51 rfl (lv_at hl 0 rfl) ?_
  refine lv_iconst (v := 0) hx hb dX10_init_52 (by decide +kernel) ?_
  refine nb_put (D := D) (ci := 10) (v := .int 0) (ty := .int) (C := RX10) (T := TX10) (N := 10) (ws' := [(a0, .inr (10, [.ref q1, .ref q2, .ref q3, .ref q4, .int 0, .int 0, .int 0, .int 0, .int 0, .int 0])), (q1, .inl (y 0, 9, .inl nz)), (q2, .inl (y 0, 9, .inl nz)), (q3, .inl (y 0, 9, .inl nz)), (q4, .inl (y 0, 9, .inl nz))]) hx hb hts (gt_c iG_X10) tyX10 tyX10_ok nmX10 hown hK hP hD hS 0 rfl rfl 7 (by decide +kernel) w_11 (fun _ h9 => h9) rfl (by decide +kernel) rfl rfl (Nat.le_of_ble_eq_true rfl) rfl dX10_init_53 (fun H locs hP hD hS => ?_)
  refine lv_aload_n hx hb dX10_init_56 rfl (lv_at hl 0 rfl) ?_
  refine lv_iconst (v := 0) hx hb dX10_init_57 (by decide +kernel) ?_
  refine nb_put (D := D) (ci := 10) (v := .int 0) (ty := .int) (C := RX10) (T := TX10) (N := 10) (ws' := [(a0, .inr (10, [.ref q1, .ref q2, .ref q3, .ref q4, .int 0, .int 0, .int 0, .int 0, .int 0, .int 0])), (q1, .inl (y 0, 9, .inl nz)), (q2, .inl (y 0, 9, .inl nz)), (q3, .inl (y 0, 9, .inl nz)), (q4, .inl (y 0, 9, .inl nz))]) hx hb hts (gt_c iG_X10) tyX10 tyX10_ok nmX10 hown hK hP hD hS 0 rfl rfl 8 (by decide +kernel) w_12 (fun _ h9 => h9) rfl (by decide +kernel) rfl rfl (Nat.le_of_ble_eq_true rfl) rfl dX10_init_58 (fun H locs hP hD hS => ?_)
  refine lv_aload_n hx hb dX10_init_61 rfl (lv_at hl 0 rfl) ?_
  refine lv_iconst (v := 0) hx hb dX10_init_62 (by decide +kernel) ?_
  refine nb_put (D := D) (ci := 10) (v := .int 0) (ty := .int) (C := RX10) (T := TX10) (N := 10) (ws' := [(a0, .inr (10, [.ref q1, .ref q2, .ref q3, .ref q4, .int 0, .int 0, .int 0, .int 0, .int 0, .int 0])), (q1, .inl (y 0, 9, .inl nz)), (q2, .inl (y 0, 9, .inl nz)), (q3, .inl (y 0, 9, .inl nz)), (q4, .inl (y 0, 9, .inl nz))]) hx hb hts (gt_c iG_X10) tyX10 tyX10_ok nmX10 hown hK hP hD hS 0 rfl rfl 9 (by decide +kernel) w_13 (fun _ h9 => h9) rfl (by decide +kernel) rfl rfl (Nat.le_of_ble_eq_true rfl) rfl dX10_init_63 (fun H locs hP hD hS => ?_)
  refine W.widen (k := 4) (n := 36) (Nat.le_of_ble_eq_true rfl) (Nat.le_of_ble_eq_true rfl) ?_
  exact W.vret hx hb hr (fun t ht hW => ⟨⟨(fun k => if k = 0 then q1 else if k = 1 then q2 else if k = 2 then q3 else if k = 3 then q4 else 0), rfl, trivial, by rw [ht]; exact hP, va_K.moved hW.alike hK, hD⟩, hS.F ht⟩) hS.2.2 dX10_init_66 hlocks
set_option maxRecDepth 100000 in
set_option maxHeartbeats 4000000 in
theorem cX6_init_1 (l : Launch) (D : va_G) (y : Nat → ClassId) (a0 : Nat) (sz : Nat) : Met l yX6_init wsX6_init { frames := 3, cells := 3, slots := 82, locals := 220 } (nPc D y nT [.ref a0] [(a0, .inr (6, [.null, .null, .int 0, .int 0, .int 0, .int 0, .int 0]))] sz) ((fun A => nQv D y (fun _ => True) (fun u => [(a0, .inr (6, [.ref (u 0), .ref (u 2), .int 0, .int 0, .int 0, .int 0, .int 1])), ((u 0), .inr (0, [.ref (u 1), .int 0])), ((u 1), .inl (y 0, 40, .inl nz)), ((u 2), .inl (y 0, 40, .inl nz))]) A) (va_A [(a0, .inr (6, [.null, .null, .int 0, .int 0, .int 0, .int 0, .int 0]))] sz)) 3 82 (va_A [(a0, .inr (6, [.null, .null, .int 0, .int 0, .int 0, .int 0, .int 0]))] sz) := by
  refine nm_ofW (D := D) (y := y) (E := nT) (yy := yX6_init) (wsy := wsX6_init) (rm := { frames := 3, cells := 3, slots := 82, locals := 220 }) (as := [.ref a0]) (ws := [(a0, .inr (6, [.null, .null, .int 0, .int 0, .int 0, .int 0, .int 0]))]) (sz := sz) (mc := 3) (ms := 82) (Qc := fun A => nQv D y (fun _ => True) (fun u => [(a0, .inr (6, [.ref (u 0), .ref (u 2), .int 0, .int 0, .int 0, .int 0, .int 1])), ((u 0), .inr (0, [.ref (u 1), .int 0])), ((u 1), .inl (y 0, 40, .inl nz)), ((u 2), .inl (y 0, 40, .inl nz))]) A) (cc := cX6_init) (maxL := 1) (ret := none) (by decide +kernel) rfl (Nat.le_of_ble_eq_true rfl) ?_
  intro p e s m below meth c A ls H hx hb hr hml hts hown hlocks hnm hsz hP hK hD hA hS hE hAe hl
  replace hl : lv_has ls 1 [(0, .ref a0)] := hl
  have hown : s.vm.findClass RX6 = some m.cls := hown
  have w_0 := hts (.methodLink RX6 3 objectInit) (gt_k wd_1_174)
  have w_1 := hts (.instanceMethod objectInit) (gt_k wd_1_33)
  have w_2 := hts (.code objectInit ⟨#[0xb1]⟩ 1 none) (gt_k wd_1_34)
  have w_3 := hts (.classLink RX6 9 RX0) (gt_k wd_1_175)
  have w_4 := hts (.instantiable RX0 2) (gt_k wd_1_80)
  have w_5 := hts (.initialized RX0) (gt_k wd_1_5)
  have w_6 := hts (.instanceMethod yX0_init) (gt_k wd_1_82)
  have w_7 := hts (.fieldLink RX6 12 "SoldToBehind$RuleReader" "draft" "LSoldToBehind$Formula;") (gt_k wd_1_177)
  have w_8 := hts (.arrayClass .int) (gt_k wd_1_53)
  have w_9 := hts (.fieldLink RX6 18 "SoldToBehind$RuleReader" "waiting" "[I") (gt_k wd_1_179)
  have w_10 := hts (.fieldLink RX6 22 "SoldToBehind$RuleReader" "waits" "I") (gt_k wd_1_180)
  have w_11 := hts (.fieldLink RX6 26 "SoldToBehind$RuleReader" "depth" "I") (gt_k wd_1_181)
  have w_12 := hts (.fieldLink RX6 29 "SoldToBehind$RuleReader" "compared" "I") (gt_k wd_1_182)
  have w_13 := hts (.fieldLink RX6 32 "SoldToBehind$RuleReader" "digits" "I") (gt_k wd_1_183)
  have w_14 := hts (.fieldLink RX6 35 "SoldToBehind$RuleReader" "wantsThing" "Z") (gt_k wd_1_184)
  refine lv_aload_n hx hb dX6_init_0 rfl (lv_at hl 0 rfl) ?_
  refine W.objInit hx hb hown w_0 w_1 w_2 rfl (by rw [hml]; exact hl.1) rfl dX6_init_1 (Nat.le_of_ble_eq_true rfl) (Nat.le_of_ble_eq_true rfl) ?_
  refine W.eq (g2 := F0 m 4 ls []) rfl ?_
  refine lv_aload_n hx hb dX6_init_4 rfl (lv_at hl 0 rfl) ?_
  refine va_new (ci := 0) (fs := [.null, .int 0]) (C := RX0) (T := TX0) (N := 2) hx hb hts (gt_c iG_X0) tyX0 tyX0_ok hown w_3 w_4 w_5 hK hP hD hS hA rfl (by decide +kernel) (Nat.le_of_ble_eq_true rfl) (Nat.le_of_ble_eq_true rfl) dX6_init_5 (fun q1 H hP hD hS => ?_)
  refine lv_dup hx hb dX6_init_8 rfl ?_
  refine nj_v (ws := [(a0, .inr (6, [.null, .null, .int 0, .int 0, .int 0, .int 0, .int 0])), (q1, .inr (0, [.null, .int 0]))]) (wc := [(q1, .inr (0, [.null, .int 0]))]) (wr := [(a0, .inr (6, [.null, .null, .int 0, .int 0, .int 0, .int 0, .int 0]))]) (nr_IN (host := RX11) (As := []) (rest := [.ref q1, .ref a0]) ⟨hx, hb, hml, hown, hts⟩ (cX0_init_1 l D y q1 H.size) ⟨va_cnB 0 hts gX6_init_X0_init_n11 rfl rfl rfl (hE.1 (RX6, 11, yX0_init) (by decide +kernel)) w_5 (by decide +kernel) ⟨Nat.le_of_ble_eq_true rfl, Nat.le_of_ble_eq_true rfl⟩, rfl, w_6⟩ hK hP hD hE [1] rfl (by decide +kernel) rfl rfl hl.1 rfl (lv_room (Nat.le_of_ble_eq_true rfl)) dX6_init_9 ⟨Nat.le_of_ble_eq_true rfl, Nat.le_of_ble_eq_true rfl⟩) hP hD hS hA [1] [0] rfl rfl (by decide +kernel) (by decide +kernel) (fun u2 H locs _ hP hD hS => ?_)
  refine nb_putF (D := D) (ci := 6) (v := .ref q1) (ty := .object "SoldToBehind$Formula") (C := RX6) (T := TX6) (N := 7) (ws' := [(a0, .inr (6, [.ref q1, .null, .int 0, .int 0, .int 0, .int 0, .int 0])), (q1, .inr (0, [.ref (u2 0), .int 0])), ((u2 0), .inl (y 0, 40, .inl nz))]) hx hb hts (gt_c iG_X6) tyX6 tyX6_ok nmX6 hown hK hP hD hS 0 rfl rfl 0 (by decide +kernel) w_7 (fun _ h9 => h9) rfl hnm rfl (by decide +kernel) rfl rfl (Nat.le_of_ble_eq_true rfl) rfl dX6_init_12 (fun H locs hP hD hS => ?_)
  refine lv_aload_n hx hb dX6_init_15 rfl (lv_at hl 0 rfl) ?_
  refine lv_bipush (v := 40) hx hb dX6_init_16 (by decide +kernel) ?_
  refine nb_newa (atype := .int) (ty := .int) (N' := 40) (a0 := (40, .inl nz)) hx hb w_8 rfl hK hP hD hS hA 0 rfl (fun _ _ h => h) (fun _ => rfl) (by decide +kernel) (by decide +kernel) (by decide +kernel) (Nat.le_of_ble_eq_true rfl) (Nat.le_of_ble_eq_true rfl) dX6_init_18 (fun q4 H hP hD hS => ?_)
  refine nb_putF (D := D) (ci := 6) (v := .ref q4) (ty := .array .int) (C := RX6) (T := TX6) (N := 7) (ws' := [(a0, .inr (6, [.ref q1, .ref q4, .int 0, .int 0, .int 0, .int 0, .int 0])), (q1, .inr (0, [.ref (u2 0), .int 0])), ((u2 0), .inl (y 0, 40, .inl nz)), (q4, .inl (y 0, 40, .inl nz))]) hx hb hts (gt_c iG_X6) tyX6 tyX6_ok nmX6 hown hK hP hD hS 0 rfl rfl 1 (by decide +kernel) w_9 (fun _ h9 => h9) rfl hnm rfl (by decide +kernel) rfl rfl (Nat.le_of_ble_eq_true rfl) rfl dX6_init_20 (fun H locs hP hD hS => ?_)
  refine lv_aload_n hx hb dX6_init_23 rfl (lv_at hl 0 rfl) ?_
  refine lv_iconst (v := 0) hx hb dX6_init_24 (by decide +kernel) ?_
  refine nb_put (D := D) (ci := 6) (v := .int 0) (ty := .int) (C := RX6) (T := TX6) (N := 7) (ws' := [(a0, .inr (6, [.ref q1, .ref q4, .int 0, .int 0, .int 0, .int 0, .int 0])), (q1, .inr (0, [.ref (u2 0), .int 0])), ((u2 0), .inl (y 0, 40, .inl nz)), (q4, .inl (y 0, 40, .inl nz))]) hx hb hts (gt_c iG_X6) tyX6 tyX6_ok nmX6 hown hK hP hD hS 0 rfl rfl 2 (by decide +kernel) w_10 (fun _ h9 => h9) rfl (by decide +kernel) rfl rfl (Nat.le_of_ble_eq_true rfl) rfl dX6_init_25 (fun H locs hP hD hS => ?_)
  refine lv_aload_n hx hb dX6_init_28 rfl (lv_at hl 0 rfl) ?_
  refine lv_iconst (v := 0) hx hb dX6_init_29 (by decide +kernel) ?_
  refine nb_put (D := D) (ci := 6) (v := .int 0) (ty := .int) (C := RX6) (T := TX6) (N := 7) (ws' := [(a0, .inr (6, [.ref q1, .ref q4, .int 0, .int 0, .int 0, .int 0, .int 0])), (q1, .inr (0, [.ref (u2 0), .int 0])), ((u2 0), .inl (y 0, 40, .inl nz)), (q4, .inl (y 0, 40, .inl nz))]) hx hb hts (gt_c iG_X6) tyX6 tyX6_ok nmX6 hown hK hP hD hS 0 rfl rfl 3 (by decide +kernel) w_11 (fun _ h9 => h9) rfl (by decide +kernel) rfl rfl (Nat.le_of_ble_eq_true rfl) rfl dX6_init_30 (fun H locs hP hD hS => ?_)
  refine lv_aload_n hx hb dX6_init_33 rfl (lv_at hl 0 rfl) ?_
  refine lv_iconst (v := 0) hx hb dX6_init_34 (by decide +kernel) ?_
  refine nb_put (D := D) (ci := 6) (v := .int 0) (ty := .int) (C := RX6) (T := TX6) (N := 7) (ws' := [(a0, .inr (6, [.ref q1, .ref q4, .int 0, .int 0, .int 0, .int 0, .int 0])), (q1, .inr (0, [.ref (u2 0), .int 0])), ((u2 0), .inl (y 0, 40, .inl nz)), (q4, .inl (y 0, 40, .inl nz))]) hx hb hts (gt_c iG_X6) tyX6 tyX6_ok nmX6 hown hK hP hD hS 0 rfl rfl 4 (by decide +kernel) w_12 (fun _ h9 => h9) rfl (by decide +kernel) rfl rfl (Nat.le_of_ble_eq_true rfl) rfl dX6_init_35 (fun H locs hP hD hS => ?_)
  refine lv_aload_n hx hb dX6_init_38 rfl (lv_at hl 0 rfl) ?_
  refine lv_iconst (v := 0) hx hb dX6_init_39 (by decide +kernel) ?_
  refine nb_put (D := D) (ci := 6) (v := .int 0) (ty := .int) (C := RX6) (T := TX6) (N := 7) (ws' := [(a0, .inr (6, [.ref q1, .ref q4, .int 0, .int 0, .int 0, .int 0, .int 0])), (q1, .inr (0, [.ref (u2 0), .int 0])), ((u2 0), .inl (y 0, 40, .inl nz)), (q4, .inl (y 0, 40, .inl nz))]) hx hb hts (gt_c iG_X6) tyX6 tyX6_ok nmX6 hown hK hP hD hS 0 rfl rfl 5 (by decide +kernel) w_13 (fun _ h9 => h9) rfl (by decide +kernel) rfl rfl (Nat.le_of_ble_eq_true rfl) rfl dX6_init_40 (fun H locs hP hD hS => ?_)
  refine lv_aload_n hx hb dX6_init_43 rfl (lv_at hl 0 rfl) ?_
  refine lv_iconst (v := 1) hx hb dX6_init_44 (by decide +kernel) ?_
  refine nb_put (D := D) (ci := 6) (v := .int 1) (ty := .boolean) (C := RX6) (T := TX6) (N := 7) (ws' := [(a0, .inr (6, [.ref q1, .ref q4, .int 0, .int 0, .int 0, .int 0, .int 1])), (q1, .inr (0, [.ref (u2 0), .int 0])), ((u2 0), .inl (y 0, 40, .inl nz)), (q4, .inl (y 0, 40, .inl nz))]) hx hb hts (gt_c iG_X6) tyX6 tyX6_ok nmX6 hown hK hP hD hS 0 rfl rfl 6 (by decide +kernel) w_14 (fun _ h9 => h9) rfl (by decide +kernel) rfl rfl (Nat.le_of_ble_eq_true rfl) rfl dX6_init_45 (fun H locs hP hD hS => ?_)
  refine W.widen (k := 3) (n := 82) (Nat.le_of_ble_eq_true rfl) (Nat.le_of_ble_eq_true rfl) ?_
  exact W.vret hx hb hr (fun t ht hW => ⟨⟨(fun k => if k = 0 then q1 else if k = 1 then (u2 0) else if k = 2 then q4 else 0), rfl, trivial, by rw [ht]; exact hP, va_K.moved hW.alike hK, hD⟩, hS.F ht⟩) hS.2.2 dX6_init_48 hlocks
set_option maxRecDepth 100000 in
set_option maxHeartbeats 4000000 in
theorem cX7_init_1 (l : Launch) (D : va_G) (y : Nat → ClassId) (a0 : Nat) (a1 : Nat) (sz : Nat) : Met l yX7_init wsX7_init { frames := 2, cells := 7, slots := 58, locals := 200 } (nPc D y nT [.ref a0, .ref a1] [(a0, .inr (7, [.null, .null, .null, .null, .int 0, .int 0, .null, .null, .null, .null]))] sz) ((fun A => nQv D y (fun _ => True) (fun u => [(a0, .inr (7, [.ref (u 0), .ref (u 1), .ref (u 2), .ref (u 3), .int 0, .int 0, .ref (u 4), .ref (u 5), .ref (u 6), .ref a1])), ((u 0), .inl (y 0, 9, .inl nz)), ((u 1), .inl (y 0, 9, .inl nz)), ((u 2), .inl (y 0, 9, .inl nz)), ((u 3), .inl (y 0, 4, .inl (upd nz 2 99))), ((u 4), .inl (y 0, 9, .inl nz)), ((u 5), .inl (y 0, 9, .inl nz)), ((u 6), .inl (y 0, 9, .inl nz))]) A) (va_A [(a0, .inr (7, [.null, .null, .null, .null, .int 0, .int 0, .null, .null, .null, .null]))] sz)) 7 58 (va_A [(a0, .inr (7, [.null, .null, .null, .null, .int 0, .int 0, .null, .null, .null, .null]))] sz) := by
  refine nm_ofW (D := D) (y := y) (E := nT) (yy := yX7_init) (wsy := wsX7_init) (rm := { frames := 2, cells := 7, slots := 58, locals := 200 }) (as := [.ref a0, .ref a1]) (ws := [(a0, .inr (7, [.null, .null, .null, .null, .int 0, .int 0, .null, .null, .null, .null]))]) (sz := sz) (mc := 7) (ms := 58) (Qc := fun A => nQv D y (fun _ => True) (fun u => [(a0, .inr (7, [.ref (u 0), .ref (u 1), .ref (u 2), .ref (u 3), .int 0, .int 0, .ref (u 4), .ref (u 5), .ref (u 6), .ref a1])), ((u 0), .inl (y 0, 9, .inl nz)), ((u 1), .inl (y 0, 9, .inl nz)), ((u 2), .inl (y 0, 9, .inl nz)), ((u 3), .inl (y 0, 4, .inl (upd nz 2 99))), ((u 4), .inl (y 0, 9, .inl nz)), ((u 5), .inl (y 0, 9, .inl nz)), ((u 6), .inl (y 0, 9, .inl nz))]) A) (cc := cX7_init) (maxL := 2) (ret := none) (by decide +kernel) rfl (Nat.le_of_ble_eq_true rfl) ?_
  intro p e s m below meth c A ls H hx hb hr hml hts hown hlocks hnm hsz hP hK hD hA hS hE hAe hl
  replace hl : lv_has ls 2 [(0, .ref a0), (1, .ref a1)] := hl
  have hown : s.vm.findClass RX7 = some m.cls := hown
  have w_0 := hts (.methodLink RX7 3 objectInit) (gt_k wd_1_205)
  have w_1 := hts (.instanceMethod objectInit) (gt_k wd_1_33)
  have w_2 := hts (.code objectInit ⟨#[0xb1]⟩ 1 none) (gt_k wd_1_34)
  have w_3 := hts (.arrayClass .int) (gt_k wd_1_53)
  have w_4 := hts (.fieldLink RX7 9 "SoldToBehind$Standing" "who" "[I") (gt_k wd_1_206)
  have w_5 := hts (.fieldLink RX7 15 "SoldToBehind$Standing" "purse" "[I") (gt_k wd_1_210)
  have w_6 := hts (.fieldLink RX7 18 "SoldToBehind$Standing" "sales" "[I") (gt_k wd_1_214)
  have w_7 := hts (.fieldLink RX7 21 "SoldToBehind$Standing" "law" "[I") (gt_k wd_1_217)
  have w_8 := hts (.fieldLink RX7 24 "SoldToBehind$Standing" "size" "I") (gt_k wd_1_220)
  have w_9 := hts (.fieldLink RX7 28 "SoldToBehind$Standing" "stubborn" "I") (gt_k wd_1_225)
  have w_10 := hts (.fieldLink RX7 31 "SoldToBehind$Standing" "here" "[I") (gt_k wd_1_227)
  have w_11 := hts (.fieldLink RX7 34 "SoldToBehind$Standing" "ahead" "[I") (gt_k wd_1_229)
  have w_12 := hts (.fieldLink RX7 37 "SoldToBehind$Standing" "behind" "[I") (gt_k wd_1_230)
  have w_13 := hts (.fieldLink RX7 40 "SoldToBehind$Standing" "town" "LSoldToBehind$Town;") (gt_k wd_1_231)
  refine lv_aload_n hx hb dX7_init_0 rfl (lv_at hl 0 rfl) ?_
  refine W.objInit hx hb hown w_0 w_1 w_2 rfl (by rw [hml]; exact hl.1) rfl dX7_init_1 (Nat.le_of_ble_eq_true rfl) (Nat.le_of_ble_eq_true rfl) ?_
  refine W.eq (g2 := F0 m 4 ls []) rfl ?_
  refine lv_aload_n hx hb dX7_init_4 rfl (lv_at hl 0 rfl) ?_
  refine lv_bipush (v := 9) hx hb dX7_init_5 (by decide +kernel) ?_
  refine nb_newa (atype := .int) (ty := .int) (N' := 9) (a0 := (9, .inl nz)) hx hb w_3 rfl hK hP hD hS hA 0 rfl (fun _ _ h => h) (fun _ => rfl) (by decide +kernel) (by decide +kernel) (by decide +kernel) (Nat.le_of_ble_eq_true rfl) (Nat.le_of_ble_eq_true rfl) dX7_init_7 (fun q1 H hP hD hS => ?_)
  refine nb_putF (D := D) (ci := 7) (v := .ref q1) (ty := .array .int) (C := RX7) (T := TX7) (N := 10) (ws' := [(a0, .inr (7, [.ref q1, .null, .null, .null, .int 0, .int 0, .null, .null, .null, .null])), (q1, .inl (y 0, 9, .inl nz))]) hx hb hts (gt_c iG_X7) tyX7 tyX7_ok nmX7 hown hK hP hD hS 0 rfl rfl 0 (by decide +kernel) w_4 (fun _ h9 => h9) rfl hnm rfl (by decide +kernel) rfl rfl (Nat.le_of_ble_eq_true rfl) rfl dX7_init_9 (fun H locs hP hD hS => ?_)
  refine lv_aload_n hx hb dX7_init_12 rfl (lv_at hl 0 rfl) ?_
  refine lv_bipush (v := 9) hx hb dX7_init_13 (by decide +kernel) ?_
  refine nb_newa (atype := .int) (ty := .int) (N' := 9) (a0 := (9, .inl nz)) hx hb w_3 rfl hK hP hD hS hA 0 rfl (fun _ _ h => h) (fun _ => rfl) (by decide +kernel) (by decide +kernel) (by decide +kernel) (Nat.le_of_ble_eq_true rfl) (Nat.le_of_ble_eq_true rfl) dX7_init_15 (fun q2 H hP hD hS => ?_)
  refine nb_putF (D := D) (ci := 7) (v := .ref q2) (ty := .array .int) (C := RX7) (T := TX7) (N := 10) (ws' := [(a0, .inr (7, [.ref q1, .ref q2, .null, .null, .int 0, .int 0, .null, .null, .null, .null])), (q1, .inl (y 0, 9, .inl nz)), (q2, .inl (y 0, 9, .inl nz))]) hx hb hts (gt_c iG_X7) tyX7 tyX7_ok nmX7 hown hK hP hD hS 0 rfl rfl 1 (by decide +kernel) w_5 (fun _ h9 => h9) rfl hnm rfl (by decide +kernel) rfl rfl (Nat.le_of_ble_eq_true rfl) rfl dX7_init_17 (fun H locs hP hD hS => ?_)
  refine lv_aload_n hx hb dX7_init_20 rfl (lv_at hl 0 rfl) ?_
  refine lv_bipush (v := 9) hx hb dX7_init_21 (by decide +kernel) ?_
  refine nb_newa (atype := .int) (ty := .int) (N' := 9) (a0 := (9, .inl nz)) hx hb w_3 rfl hK hP hD hS hA 0 rfl (fun _ _ h => h) (fun _ => rfl) (by decide +kernel) (by decide +kernel) (by decide +kernel) (Nat.le_of_ble_eq_true rfl) (Nat.le_of_ble_eq_true rfl) dX7_init_23 (fun q3 H hP hD hS => ?_)
  refine nb_putF (D := D) (ci := 7) (v := .ref q3) (ty := .array .int) (C := RX7) (T := TX7) (N := 10) (ws' := [(a0, .inr (7, [.ref q1, .ref q2, .ref q3, .null, .int 0, .int 0, .null, .null, .null, .null])), (q1, .inl (y 0, 9, .inl nz)), (q2, .inl (y 0, 9, .inl nz)), (q3, .inl (y 0, 9, .inl nz))]) hx hb hts (gt_c iG_X7) tyX7 tyX7_ok nmX7 hown hK hP hD hS 0 rfl rfl 2 (by decide +kernel) w_6 (fun _ h9 => h9) rfl hnm rfl (by decide +kernel) rfl rfl (Nat.le_of_ble_eq_true rfl) rfl dX7_init_25 (fun H locs hP hD hS => ?_)
  refine lv_aload_n hx hb dX7_init_28 rfl (lv_at hl 0 rfl) ?_
  refine lv_iconst (v := 4) hx hb dX7_init_29 (by decide +kernel) ?_
  refine nb_newa (atype := .int) (ty := .int) (N' := 4) (a0 := (4, .inl nz)) hx hb w_3 rfl hK hP hD hS hA 0 rfl (fun _ _ h => h) (fun _ => rfl) (by decide +kernel) (by decide +kernel) (by decide +kernel) (Nat.le_of_ble_eq_true rfl) (Nat.le_of_ble_eq_true rfl) dX7_init_30 (fun q4 H hP hD hS => ?_)
  refine lv_dup hx hb dX7_init_32 rfl ?_
  refine lv_iconst (v := 0) hx hb dX7_init_33 (by decide +kernel) ?_
  refine lv_iconst (v := 0) hx hb dX7_init_34 (by decide +kernel) ?_
  refine nb_iast (ws' := [(a0, .inr (7, [.ref q1, .ref q2, .ref q3, .null, .int 0, .int 0, .null, .null, .null, .null])), (q1, .inl (y 0, 9, .inl nz)), (q2, .inl (y 0, 9, .inl nz)), (q3, .inl (y 0, 9, .inl nz)), (q4, .inl (y 0, 4, .inl nz))]) hx hb hK hP hD hS 4 0 rfl rfl (n_in (by decide +kernel)) (by rw [nb_upI (f := nz) (i := Int32.toNatClampNeg 0) (x := 0) rfl]; rfl) dX7_init_35 (fun H locs hP hD hS => ?_)
  refine lv_dup hx hb dX7_init_36 rfl ?_
  refine lv_iconst (v := 1) hx hb dX7_init_37 (by decide +kernel) ?_
  refine lv_iconst (v := 0) hx hb dX7_init_38 (by decide +kernel) ?_
  refine nb_iast (ws' := [(a0, .inr (7, [.ref q1, .ref q2, .ref q3, .null, .int 0, .int 0, .null, .null, .null, .null])), (q1, .inl (y 0, 9, .inl nz)), (q2, .inl (y 0, 9, .inl nz)), (q3, .inl (y 0, 9, .inl nz)), (q4, .inl (y 0, 4, .inl nz))]) hx hb hK hP hD hS 4 0 rfl rfl (n_in (by decide +kernel)) (by rw [nb_upI (f := nz) (i := Int32.toNatClampNeg 1) (x := 0) rfl]; rfl) dX7_init_39 (fun H locs hP hD hS => ?_)
  refine lv_dup hx hb dX7_init_40 rfl ?_
  refine lv_iconst (v := 2) hx hb dX7_init_41 (by decide +kernel) ?_
  refine lv_bipush (v := 99) hx hb dX7_init_42 (by decide +kernel) ?_
  refine nb_iast (ws' := [(a0, .inr (7, [.ref q1, .ref q2, .ref q3, .null, .int 0, .int 0, .null, .null, .null, .null])), (q1, .inl (y 0, 9, .inl nz)), (q2, .inl (y 0, 9, .inl nz)), (q3, .inl (y 0, 9, .inl nz)), (q4, .inl (y 0, 4, .inl (upd nz 2 99)))]) hx hb hK hP hD hS 4 0 rfl rfl (n_in (by decide +kernel)) rfl dX7_init_44 (fun H locs hP hD hS => ?_)
  refine lv_dup hx hb dX7_init_45 rfl ?_
  refine lv_iconst (v := 3) hx hb dX7_init_46 (by decide +kernel) ?_
  refine lv_iconst (v := 0) hx hb dX7_init_47 (by decide +kernel) ?_
  refine nb_iast (ws' := [(a0, .inr (7, [.ref q1, .ref q2, .ref q3, .null, .int 0, .int 0, .null, .null, .null, .null])), (q1, .inl (y 0, 9, .inl nz)), (q2, .inl (y 0, 9, .inl nz)), (q3, .inl (y 0, 9, .inl nz)), (q4, .inl (y 0, 4, .inl (upd nz 2 99)))]) hx hb hK hP hD hS 4 0 rfl rfl (n_in (by decide +kernel)) (by rw [nb_upI (f := (upd nz 2 99)) (i := Int32.toNatClampNeg 3) (x := 0) rfl]; rfl) dX7_init_48 (fun H locs hP hD hS => ?_)
  refine nb_putF (D := D) (ci := 7) (v := .ref q4) (ty := .array .int) (C := RX7) (T := TX7) (N := 10) (ws' := [(a0, .inr (7, [.ref q1, .ref q2, .ref q3, .ref q4, .int 0, .int 0, .null, .null, .null, .null])), (q1, .inl (y 0, 9, .inl nz)), (q2, .inl (y 0, 9, .inl nz)), (q3, .inl (y 0, 9, .inl nz)), (q4, .inl (y 0, 4, .inl (upd nz 2 99)))]) hx hb hts (gt_c iG_X7) tyX7 tyX7_ok nmX7 hown hK hP hD hS 0 rfl rfl 3 (by decide +kernel) w_7 (fun _ h9 => h9) rfl hnm rfl (by decide +kernel) rfl rfl (Nat.le_of_ble_eq_true rfl) rfl dX7_init_49 (fun H locs hP hD hS => ?_)
  refine lv_aload_n hx hb dX7_init_52 rfl (lv_at hl 0 rfl) ?_
  refine lv_iconst (v := 0) hx hb dX7_init_53 (by decide +kernel) ?_
  refine nb_put (D := D) (ci := 7) (v := .int 0) (ty := .int) (C := RX7) (T := TX7) (N := 10) (ws' := [(a0, .inr (7, [.ref q1, .ref q2, .ref q3, .ref q4, .int 0, .int 0, .null, .null, .null, .null])), (q1, .inl (y 0, 9, .inl nz)), (q2, .inl (y 0, 9, .inl nz)), (q3, .inl (y 0, 9, .inl nz)), (q4, .inl (y 0, 4, .inl (upd nz 2 99)))]) hx hb hts (gt_c iG_X7) tyX7 tyX7_ok nmX7 hown hK hP hD hS 0 rfl rfl 4 (by decide +kernel) w_8 (fun _ h9 => h9) rfl (by decide +kernel) rfl rfl (Nat.le_of_ble_eq_true rfl) rfl dX7_init_54 (fun H locs hP hD hS => ?_)
  refine lv_aload_n hx hb dX7_init_57 rfl (lv_at hl 0 rfl) ?_
  refine lv_iconst (v := 0) hx hb dX7_init_58 (by decide +kernel) ?_
  refine nb_put (D := D) (ci := 7) (v := .int 0) (ty := .int) (C := RX7) (T := TX7) (N := 10) (ws' := [(a0, .inr (7, [.ref q1, .ref q2, .ref q3, .ref q4, .int 0, .int 0, .null, .null, .null, .null])), (q1, .inl (y 0, 9, .inl nz)), (q2, .inl (y 0, 9, .inl nz)), (q3, .inl (y 0, 9, .inl nz)), (q4, .inl (y 0, 4, .inl (upd nz 2 99)))]) hx hb hts (gt_c iG_X7) tyX7 tyX7_ok nmX7 hown hK hP hD hS 0 rfl rfl 5 (by decide +kernel) w_9 (fun _ h9 => h9) rfl (by decide +kernel) rfl rfl (Nat.le_of_ble_eq_true rfl) rfl dX7_init_59 (fun H locs hP hD hS => ?_)
  refine lv_aload_n hx hb dX7_init_62 rfl (lv_at hl 0 rfl) ?_
  refine lv_bipush (v := 9) hx hb dX7_init_63 (by decide +kernel) ?_
  refine nb_newa (atype := .int) (ty := .int) (N' := 9) (a0 := (9, .inl nz)) hx hb w_3 rfl hK hP hD hS hA 0 rfl (fun _ _ h => h) (fun _ => rfl) (by decide +kernel) (by decide +kernel) (by decide +kernel) (Nat.le_of_ble_eq_true rfl) (Nat.le_of_ble_eq_true rfl) dX7_init_65 (fun q5 H hP hD hS => ?_)
  refine nb_putF (D := D) (ci := 7) (v := .ref q5) (ty := .array .int) (C := RX7) (T := TX7) (N := 10) (ws' := [(a0, .inr (7, [.ref q1, .ref q2, .ref q3, .ref q4, .int 0, .int 0, .ref q5, .null, .null, .null])), (q1, .inl (y 0, 9, .inl nz)), (q2, .inl (y 0, 9, .inl nz)), (q3, .inl (y 0, 9, .inl nz)), (q4, .inl (y 0, 4, .inl (upd nz 2 99))), (q5, .inl (y 0, 9, .inl nz))]) hx hb hts (gt_c iG_X7) tyX7 tyX7_ok nmX7 hown hK hP hD hS 0 rfl rfl 6 (by decide +kernel) w_10 (fun _ h9 => h9) rfl hnm rfl (by decide +kernel) rfl rfl (Nat.le_of_ble_eq_true rfl) rfl dX7_init_67 (fun H locs hP hD hS => ?_)
  refine lv_aload_n hx hb dX7_init_70 rfl (lv_at hl 0 rfl) ?_
  refine lv_bipush (v := 9) hx hb dX7_init_71 (by decide +kernel) ?_
  refine nb_newa (atype := .int) (ty := .int) (N' := 9) (a0 := (9, .inl nz)) hx hb w_3 rfl hK hP hD hS hA 0 rfl (fun _ _ h => h) (fun _ => rfl) (by decide +kernel) (by decide +kernel) (by decide +kernel) (Nat.le_of_ble_eq_true rfl) (Nat.le_of_ble_eq_true rfl) dX7_init_73 (fun q6 H hP hD hS => ?_)
  refine nb_putF (D := D) (ci := 7) (v := .ref q6) (ty := .array .int) (C := RX7) (T := TX7) (N := 10) (ws' := [(a0, .inr (7, [.ref q1, .ref q2, .ref q3, .ref q4, .int 0, .int 0, .ref q5, .ref q6, .null, .null])), (q1, .inl (y 0, 9, .inl nz)), (q2, .inl (y 0, 9, .inl nz)), (q3, .inl (y 0, 9, .inl nz)), (q4, .inl (y 0, 4, .inl (upd nz 2 99))), (q5, .inl (y 0, 9, .inl nz)), (q6, .inl (y 0, 9, .inl nz))]) hx hb hts (gt_c iG_X7) tyX7 tyX7_ok nmX7 hown hK hP hD hS 0 rfl rfl 7 (by decide +kernel) w_11 (fun _ h9 => h9) rfl hnm rfl (by decide +kernel) rfl rfl (Nat.le_of_ble_eq_true rfl) rfl dX7_init_75 (fun H locs hP hD hS => ?_)
  refine lv_aload_n hx hb dX7_init_78 rfl (lv_at hl 0 rfl) ?_
  refine lv_bipush (v := 9) hx hb dX7_init_79 (by decide +kernel) ?_
  refine nb_newa (atype := .int) (ty := .int) (N' := 9) (a0 := (9, .inl nz)) hx hb w_3 rfl hK hP hD hS hA 0 rfl (fun _ _ h => h) (fun _ => rfl) (by decide +kernel) (by decide +kernel) (by decide +kernel) (Nat.le_of_ble_eq_true rfl) (Nat.le_of_ble_eq_true rfl) dX7_init_81 (fun q7 H hP hD hS => ?_)
  refine nb_putF (D := D) (ci := 7) (v := .ref q7) (ty := .array .int) (C := RX7) (T := TX7) (N := 10) (ws' := [(a0, .inr (7, [.ref q1, .ref q2, .ref q3, .ref q4, .int 0, .int 0, .ref q5, .ref q6, .ref q7, .null])), (q1, .inl (y 0, 9, .inl nz)), (q2, .inl (y 0, 9, .inl nz)), (q3, .inl (y 0, 9, .inl nz)), (q4, .inl (y 0, 4, .inl (upd nz 2 99))), (q5, .inl (y 0, 9, .inl nz)), (q6, .inl (y 0, 9, .inl nz)), (q7, .inl (y 0, 9, .inl nz))]) hx hb hts (gt_c iG_X7) tyX7 tyX7_ok nmX7 hown hK hP hD hS 0 rfl rfl 8 (by decide +kernel) w_12 (fun _ h9 => h9) rfl hnm rfl (by decide +kernel) rfl rfl (Nat.le_of_ble_eq_true rfl) rfl dX7_init_83 (fun H locs hP hD hS => ?_)
  refine lv_aload_n hx hb dX7_init_86 rfl (lv_at hl 0 rfl) ?_
  refine lv_aload_n hx hb dX7_init_87 rfl (lv_at hl 1 rfl) ?_
  refine nb_putF (D := D) (ci := 7) (v := .ref a1) (ty := .object "SoldToBehind$Town") (C := RX7) (T := TX7) (N := 10) (ws' := [(a0, .inr (7, [.ref q1, .ref q2, .ref q3, .ref q4, .int 0, .int 0, .ref q5, .ref q6, .ref q7, .ref a1])), (q1, .inl (y 0, 9, .inl nz)), (q2, .inl (y 0, 9, .inl nz)), (q3, .inl (y 0, 9, .inl nz)), (q4, .inl (y 0, 4, .inl (upd nz 2 99))), (q5, .inl (y 0, 9, .inl nz)), (q6, .inl (y 0, 9, .inl nz)), (q7, .inl (y 0, 9, .inl nz))]) hx hb hts (gt_c iG_X7) tyX7 tyX7_ok nmX7 hown hK hP hD hS 0 rfl rfl 9 (by decide +kernel) w_13 (fun _ h9 => h9) rfl hnm rfl (by decide +kernel) rfl rfl (Nat.le_of_ble_eq_true rfl) rfl dX7_init_88 (fun H locs hP hD hS => ?_)
  refine W.widen (k := 7) (n := 58) (Nat.le_of_ble_eq_true rfl) (Nat.le_of_ble_eq_true rfl) ?_
  exact W.vret hx hb hr (fun t ht hW => ⟨⟨(fun k => if k = 0 then q1 else if k = 1 then q2 else if k = 2 then q3 else if k = 3 then q4 else if k = 4 then q5 else if k = 5 then q6 else if k = 6 then q7 else 0), rfl, trivial, by rw [ht]; exact hP, va_K.moved hW.alike hK, hD⟩, hS.F ht⟩) hS.2.2 dX7_init_91 hlocks
set_option maxRecDepth 100000 in
set_option maxHeartbeats 4000000 in
theorem cX2_init_1 (l : Launch) (D : va_G) (y : Nat → ClassId) (a0 : Nat) (sz : Nat) : Met l yX2_init wsX2_init { frames := 2, cells := 4, slots := 160, locals := 200 } (nPc D y nT [.ref a0, .int 40] [(a0, .inr (2, [.null, .null, .null, .null]))] sz) ((fun A => nQv D y (fun _ => True) (fun u => [(a0, .inr (2, [.ref (u 0), .ref (u 1), .ref (u 2), .ref (u 3)])), ((u 0), .inl (y 0, 40, .inl nz)), ((u 1), .inl (y 1, 40, .inr (.inl nzl))), ((u 2), .inl (y 1, 40, .inr (.inl nzl))), ((u 3), .inl (y 1, 40, .inr (.inl nzl)))]) A) (va_A [(a0, .inr (2, [.null, .null, .null, .null]))] sz)) 4 160 (va_A [(a0, .inr (2, [.null, .null, .null, .null]))] sz) := by
  refine nm_ofW (D := D) (y := y) (E := nT) (yy := yX2_init) (wsy := wsX2_init) (rm := { frames := 2, cells := 4, slots := 160, locals := 200 }) (as := [.ref a0, .int 40]) (ws := [(a0, .inr (2, [.null, .null, .null, .null]))]) (sz := sz) (mc := 4) (ms := 160) (Qc := fun A => nQv D y (fun _ => True) (fun u => [(a0, .inr (2, [.ref (u 0), .ref (u 1), .ref (u 2), .ref (u 3)])), ((u 0), .inl (y 0, 40, .inl nz)), ((u 1), .inl (y 1, 40, .inr (.inl nzl))), ((u 2), .inl (y 1, 40, .inr (.inl nzl))), ((u 3), .inl (y 1, 40, .inr (.inl nzl)))]) A) (cc := cX2_init) (maxL := 2) (ret := none) (by decide +kernel) rfl (Nat.le_of_ble_eq_true rfl) ?_
  intro p e s m below meth c A ls H hx hb hr hml hts hown hlocks hnm hsz hP hK hD hA hS hE hAe hl
  replace hl : lv_has ls 2 [(0, .ref a0), (1, .int 40)] := hl
  have hown : s.vm.findClass RX2 = some m.cls := hown
  have w_0 := hts (.methodLink RX2 3 objectInit) (gt_k wd_2_25)
  have w_1 := hts (.instanceMethod objectInit) (gt_k wd_1_33)
  have w_2 := hts (.code objectInit ⟨#[0xb1]⟩ 1 none) (gt_k wd_1_34)
  have w_3 := hts (.arrayClass .int) (gt_k wd_1_53)
  have w_4 := hts (.fieldLink RX2 9 "SoldToBehind$Packed" "code" "[I") (gt_k wd_2_26)
  have w_5 := hts (.arrayClass .long) (gt_k wd_1_71)
  have w_6 := hts (.fieldLink RX2 15 "SoldToBehind$Packed" "low" "[J") (gt_k wd_2_29)
  have w_7 := hts (.fieldLink RX2 19 "SoldToBehind$Packed" "high" "[J") (gt_k wd_2_30)
  have w_8 := hts (.fieldLink RX2 22 "SoldToBehind$Packed" "sales" "[J") (gt_k wd_2_31)
  refine lv_aload_n hx hb dX2_init_0 rfl (lv_at hl 0 rfl) ?_
  refine W.objInit hx hb hown w_0 w_1 w_2 rfl (by rw [hml]; exact hl.1) rfl dX2_init_1 (Nat.le_of_ble_eq_true rfl) (Nat.le_of_ble_eq_true rfl) ?_
  refine W.eq (g2 := F0 m 4 ls []) rfl ?_
  refine lv_aload_n hx hb dX2_init_4 rfl (lv_at hl 0 rfl) ?_
  refine lv_iload_n hx hb dX2_init_5 rfl (lv_at hl 1 rfl) ?_
  refine nb_newa (atype := .int) (ty := .int) (N' := 40) (a0 := (40, .inl nz)) hx hb w_3 rfl hK hP hD hS hA 0 rfl (fun _ _ h => h) (fun _ => rfl) (by decide +kernel) (by decide +kernel) (by decide +kernel) (Nat.le_of_ble_eq_true rfl) (Nat.le_of_ble_eq_true rfl) dX2_init_6 (fun q1 H hP hD hS => ?_)
  refine nb_putF (D := D) (ci := 2) (v := .ref q1) (ty := .array .int) (C := RX2) (T := TX2) (N := 4) (ws' := [(a0, .inr (2, [.ref q1, .null, .null, .null])), (q1, .inl (y 0, 40, .inl nz))]) hx hb hts (gt_c iG_X2) tyX2 tyX2_ok nmX2 hown hK hP hD hS 0 rfl rfl 0 (by decide +kernel) w_4 (fun _ h9 => h9) rfl hnm rfl (by decide +kernel) rfl rfl (Nat.le_of_ble_eq_true rfl) rfl dX2_init_8 (fun H locs hP hD hS => ?_)
  refine lv_aload_n hx hb dX2_init_11 rfl (lv_at hl 0 rfl) ?_
  refine lv_iload_n hx hb dX2_init_12 rfl (lv_at hl 1 rfl) ?_
  refine nb_newa (atype := .long) (ty := .long) (N' := 40) (a0 := (40, .inr (.inl nzl))) hx hb w_5 rfl hK hP hD hS hA 1 rfl (fun _ _ h => h) (fun _ => rfl) (by decide +kernel) (by decide +kernel) (by decide +kernel) (Nat.le_of_ble_eq_true rfl) (Nat.le_of_ble_eq_true rfl) dX2_init_13 (fun q2 H hP hD hS => ?_)
  refine nb_putF (D := D) (ci := 2) (v := .ref q2) (ty := .array .long) (C := RX2) (T := TX2) (N := 4) (ws' := [(a0, .inr (2, [.ref q1, .ref q2, .null, .null])), (q1, .inl (y 0, 40, .inl nz)), (q2, .inl (y 1, 40, .inr (.inl nzl)))]) hx hb hts (gt_c iG_X2) tyX2 tyX2_ok nmX2 hown hK hP hD hS 0 rfl rfl 1 (by decide +kernel) w_6 (fun _ h9 => h9) rfl hnm rfl (by decide +kernel) rfl rfl (Nat.le_of_ble_eq_true rfl) rfl dX2_init_15 (fun H locs hP hD hS => ?_)
  refine lv_aload_n hx hb dX2_init_18 rfl (lv_at hl 0 rfl) ?_
  refine lv_iload_n hx hb dX2_init_19 rfl (lv_at hl 1 rfl) ?_
  refine nb_newa (atype := .long) (ty := .long) (N' := 40) (a0 := (40, .inr (.inl nzl))) hx hb w_5 rfl hK hP hD hS hA 1 rfl (fun _ _ h => h) (fun _ => rfl) (by decide +kernel) (by decide +kernel) (by decide +kernel) (Nat.le_of_ble_eq_true rfl) (Nat.le_of_ble_eq_true rfl) dX2_init_20 (fun q3 H hP hD hS => ?_)
  refine nb_putF (D := D) (ci := 2) (v := .ref q3) (ty := .array .long) (C := RX2) (T := TX2) (N := 4) (ws' := [(a0, .inr (2, [.ref q1, .ref q2, .ref q3, .null])), (q1, .inl (y 0, 40, .inl nz)), (q2, .inl (y 1, 40, .inr (.inl nzl))), (q3, .inl (y 1, 40, .inr (.inl nzl)))]) hx hb hts (gt_c iG_X2) tyX2 tyX2_ok nmX2 hown hK hP hD hS 0 rfl rfl 2 (by decide +kernel) w_7 (fun _ h9 => h9) rfl hnm rfl (by decide +kernel) rfl rfl (Nat.le_of_ble_eq_true rfl) rfl dX2_init_22 (fun H locs hP hD hS => ?_)
  refine lv_aload_n hx hb dX2_init_25 rfl (lv_at hl 0 rfl) ?_
  refine lv_iload_n hx hb dX2_init_26 rfl (lv_at hl 1 rfl) ?_
  refine nb_newa (atype := .long) (ty := .long) (N' := 40) (a0 := (40, .inr (.inl nzl))) hx hb w_5 rfl hK hP hD hS hA 1 rfl (fun _ _ h => h) (fun _ => rfl) (by decide +kernel) (by decide +kernel) (by decide +kernel) (Nat.le_of_ble_eq_true rfl) (Nat.le_of_ble_eq_true rfl) dX2_init_27 (fun q4 H hP hD hS => ?_)
  refine nb_putF (D := D) (ci := 2) (v := .ref q4) (ty := .array .long) (C := RX2) (T := TX2) (N := 4) (ws' := [(a0, .inr (2, [.ref q1, .ref q2, .ref q3, .ref q4])), (q1, .inl (y 0, 40, .inl nz)), (q2, .inl (y 1, 40, .inr (.inl nzl))), (q3, .inl (y 1, 40, .inr (.inl nzl))), (q4, .inl (y 1, 40, .inr (.inl nzl)))]) hx hb hts (gt_c iG_X2) tyX2 tyX2_ok nmX2 hown hK hP hD hS 0 rfl rfl 3 (by decide +kernel) w_8 (fun _ h9 => h9) rfl hnm rfl (by decide +kernel) rfl rfl (Nat.le_of_ble_eq_true rfl) rfl dX2_init_29 (fun H locs hP hD hS => ?_)
  refine W.widen (k := 4) (n := 160) (Nat.le_of_ble_eq_true rfl) (Nat.le_of_ble_eq_true rfl) ?_
  exact W.vret hx hb hr (fun t ht hW => ⟨⟨(fun k => if k = 0 then q1 else if k = 1 then q2 else if k = 2 then q3 else if k = 3 then q4 else 0), rfl, trivial, by rw [ht]; exact hP, va_K.moved hW.alike hK, hD⟩, hS.F ht⟩) hS.2.2 dX2_init_32 hlocks
set_option maxRecDepth 100000 in
set_option maxHeartbeats 4000000 in
theorem cX3_init_1 (l : Launch) (D : va_G) (y : Nat → ClassId) (a0 : Nat) (sz : Nat) : Met l yX3_init wsX3_init { frames := 3, cells := 5, slots := 164, locals := 221 } (nPc D y nT [.ref a0] [(a0, .inr (3, [.null, .int 0, .int 0]))] sz) ((fun A => nQv D y (fun _ => True) (fun u => [(a0, .inr (3, [.ref (u 0), .int 0, .int 0])), ((u 0), .inr (2, [.ref (u 1), .ref (u 2), .ref (u 3), .ref (u 4)])), ((u 1), .inl (y 0, 40, .inl nz)), ((u 2), .inl (y 1, 40, .inr (.inl nzl))), ((u 3), .inl (y 1, 40, .inr (.inl nzl))), ((u 4), .inl (y 1, 40, .inr (.inl nzl)))]) A) (va_A [(a0, .inr (3, [.null, .int 0, .int 0]))] sz)) 5 164 (va_A [(a0, .inr (3, [.null, .int 0, .int 0]))] sz) := by
  refine nm_ofW (D := D) (y := y) (E := nT) (yy := yX3_init) (wsy := wsX3_init) (rm := { frames := 3, cells := 5, slots := 164, locals := 221 }) (as := [.ref a0]) (ws := [(a0, .inr (3, [.null, .int 0, .int 0]))]) (sz := sz) (mc := 5) (ms := 164) (Qc := fun A => nQv D y (fun _ => True) (fun u => [(a0, .inr (3, [.ref (u 0), .int 0, .int 0])), ((u 0), .inr (2, [.ref (u 1), .ref (u 2), .ref (u 3), .ref (u 4)])), ((u 1), .inl (y 0, 40, .inl nz)), ((u 2), .inl (y 1, 40, .inr (.inl nzl))), ((u 3), .inl (y 1, 40, .inr (.inl nzl))), ((u 4), .inl (y 1, 40, .inr (.inl nzl)))]) A) (cc := cX3_init) (maxL := 1) (ret := none) (by decide +kernel) rfl (Nat.le_of_ble_eq_true rfl) ?_
  intro p e s m below meth c A ls H hx hb hr hml hts hown hlocks hnm hsz hP hK hD hA hS hE hAe hl
  replace hl : lv_has ls 1 [(0, .ref a0)] := hl
  have hown : s.vm.findClass RX3 = some m.cls := hown
  have w_0 := hts (.methodLink RX3 3 objectInit) (gt_k wd_2_19)
  have w_1 := hts (.instanceMethod objectInit) (gt_k wd_1_33)
  have w_2 := hts (.code objectInit ⟨#[0xb1]⟩ 1 none) (gt_k wd_1_34)
  have w_3 := hts (.classLink RX3 9 RX2) (gt_k wd_2_20)
  have w_4 := hts (.instantiable RX2 4) (gt_k wd_2_21)
  have w_5 := hts (.initialized RX2) (gt_k wd_1_10)
  have w_6 := hts (.methodLink RX3 11 yX2_init) (gt_k wd_2_22)
  have w_7 := hts (.instanceMethod yX2_init) (gt_k wd_2_23)
  have w_8 := hts (.fieldLink RX3 14 "SoldToBehind$Past" "lines" "LSoldToBehind$Packed;") (gt_k wd_2_41)
  have w_9 := hts (.fieldLink RX3 20 "SoldToBehind$Past" "oldest" "I") (gt_k wd_2_42)
  have w_10 := hts (.fieldLink RX3 24 "SoldToBehind$Past" "size" "I") (gt_k wd_2_43)
  refine lv_aload_n hx hb dX3_init_0 rfl (lv_at hl 0 rfl) ?_
  refine W.objInit hx hb hown w_0 w_1 w_2 rfl (by rw [hml]; exact hl.1) rfl dX3_init_1 (Nat.le_of_ble_eq_true rfl) (Nat.le_of_ble_eq_true rfl) ?_
  refine W.eq (g2 := F0 m 4 ls []) rfl ?_
  refine lv_aload_n hx hb dX3_init_4 rfl (lv_at hl 0 rfl) ?_
  refine va_new (ci := 2) (fs := [.null, .null, .null, .null]) (C := RX2) (T := TX2) (N := 4) hx hb hts (gt_c iG_X2) tyX2 tyX2_ok hown w_3 w_4 w_5 hK hP hD hS hA rfl (by decide +kernel) (Nat.le_of_ble_eq_true rfl) (Nat.le_of_ble_eq_true rfl) dX3_init_5 (fun q1 H hP hD hS => ?_)
  refine lv_dup hx hb dX3_init_8 rfl ?_
  refine lv_bipush (v := 40) hx hb dX3_init_9 (by decide +kernel) ?_
  refine nj_v (ws := [(a0, .inr (3, [.null, .int 0, .int 0])), (q1, .inr (2, [.null, .null, .null, .null]))]) (wc := [(q1, .inr (2, [.null, .null, .null, .null]))]) (wr := [(a0, .inr (3, [.null, .int 0, .int 0]))]) (nr_I (As := [.int 40]) (rest := [.ref q1, .ref a0]) ⟨hx, hb, hml, hown, hts⟩ (cX2_init_1 l D y q1 H.size) (cwI 1 hts gX3_init_X2_init rfl rfl rfl w_5 w_6 w_7 rfl (by decide +kernel) ⟨Nat.le_of_ble_eq_true rfl, Nat.le_of_ble_eq_true rfl⟩) hK hP hD hE [1] rfl (by decide +kernel) rfl rfl hl.1 rfl (lv_room (Nat.le_of_ble_eq_true rfl)) dX3_init_11 ⟨Nat.le_of_ble_eq_true rfl, Nat.le_of_ble_eq_true rfl⟩) hP hD hS hA [1] [0] rfl rfl (by decide +kernel) (by decide +kernel) (fun u2 H locs _ hP hD hS => ?_)
  refine nb_putF (D := D) (ci := 3) (v := .ref q1) (ty := .object "SoldToBehind$Packed") (C := RX3) (T := TX3) (N := 3) (ws' := [(a0, .inr (3, [.ref q1, .int 0, .int 0])), (q1, .inr (2, [.ref (u2 0), .ref (u2 1), .ref (u2 2), .ref (u2 3)])), ((u2 0), .inl (y 0, 40, .inl nz)), ((u2 1), .inl (y 1, 40, .inr (.inl nzl))), ((u2 2), .inl (y 1, 40, .inr (.inl nzl))), ((u2 3), .inl (y 1, 40, .inr (.inl nzl)))]) hx hb hts (gt_c iG_X3) tyX3 tyX3_ok nmX3 hown hK hP hD hS 0 rfl rfl 0 (by decide +kernel) w_8 (fun _ h9 => h9) rfl hnm rfl (by decide +kernel) rfl rfl (Nat.le_of_ble_eq_true rfl) rfl dX3_init_14 (fun H locs hP hD hS => ?_)
  refine lv_aload_n hx hb dX3_init_17 rfl (lv_at hl 0 rfl) ?_
  refine lv_iconst (v := 0) hx hb dX3_init_18 (by decide +kernel) ?_
  refine nb_put (D := D) (ci := 3) (v := .int 0) (ty := .int) (C := RX3) (T := TX3) (N := 3) (ws' := [(a0, .inr (3, [.ref q1, .int 0, .int 0])), (q1, .inr (2, [.ref (u2 0), .ref (u2 1), .ref (u2 2), .ref (u2 3)])), ((u2 0), .inl (y 0, 40, .inl nz)), ((u2 1), .inl (y 1, 40, .inr (.inl nzl))), ((u2 2), .inl (y 1, 40, .inr (.inl nzl))), ((u2 3), .inl (y 1, 40, .inr (.inl nzl)))]) hx hb hts (gt_c iG_X3) tyX3 tyX3_ok nmX3 hown hK hP hD hS 0 rfl rfl 1 (by decide +kernel) w_9 (fun _ h9 => h9) rfl (by decide +kernel) rfl rfl (Nat.le_of_ble_eq_true rfl) rfl dX3_init_19 (fun H locs hP hD hS => ?_)
  refine lv_aload_n hx hb dX3_init_22 rfl (lv_at hl 0 rfl) ?_
  refine lv_iconst (v := 0) hx hb dX3_init_23 (by decide +kernel) ?_
  refine nb_put (D := D) (ci := 3) (v := .int 0) (ty := .int) (C := RX3) (T := TX3) (N := 3) (ws' := [(a0, .inr (3, [.ref q1, .int 0, .int 0])), (q1, .inr (2, [.ref (u2 0), .ref (u2 1), .ref (u2 2), .ref (u2 3)])), ((u2 0), .inl (y 0, 40, .inl nz)), ((u2 1), .inl (y 1, 40, .inr (.inl nzl))), ((u2 2), .inl (y 1, 40, .inr (.inl nzl))), ((u2 3), .inl (y 1, 40, .inr (.inl nzl)))]) hx hb hts (gt_c iG_X3) tyX3 tyX3_ok nmX3 hown hK hP hD hS 0 rfl rfl 2 (by decide +kernel) w_10 (fun _ h9 => h9) rfl (by decide +kernel) rfl rfl (Nat.le_of_ble_eq_true rfl) rfl dX3_init_24 (fun H locs hP hD hS => ?_)
  refine W.widen (k := 5) (n := 164) (Nat.le_of_ble_eq_true rfl) (Nat.le_of_ble_eq_true rfl) ?_
  exact W.vret hx hb hr (fun t ht hW => ⟨⟨(fun k => if k = 0 then q1 else if k = 1 then (u2 0) else if k = 2 then (u2 1) else if k = 3 then (u2 2) else if k = 4 then (u2 3) else 0), rfl, trivial, by rw [ht]; exact hP, va_K.moved hW.alike hK, hD⟩, hS.F ht⟩) hS.2.2 dX3_init_27 hlocks
set_option maxRecDepth 100000 in
set_option maxHeartbeats 4000000 in
theorem cX1_init_1 (l : Launch) (D : va_G) (y : Nat → ClassId) (a0 : Nat) (sz : Nat) : Met l yX1_init wsX1_init { frames := 2, cells := 4, slots := 917, locals := 200 } (nPc D y nT [.ref a0] [(a0, .inr (1, [.int 0, .int 0, .long 0, .long 0, .null, .null, .null, .null, .int 0, .int 0, .int 0]))] sz) ((fun A => nQv D y (fun _ => True) (fun u => [(a0, .inr (1, [.int 0, .int 0, .long 0, .long 0, .ref (u 0), .ref (u 1), .ref (u 2), .ref (u 3), .int 0, .int (-1), .int 0])), ((u 0), .inl (y 0, 7, .inl nz)), ((u 1), .inl (y 0, 7, .inl nz)), ((u 2), .inl (y 0, 896, .inl nz)), ((u 3), .inl (y 0, 7, .inl nz))]) A) (va_A [(a0, .inr (1, [.int 0, .int 0, .long 0, .long 0, .null, .null, .null, .null, .int 0, .int 0, .int 0]))] sz)) 4 917 (va_A [(a0, .inr (1, [.int 0, .int 0, .long 0, .long 0, .null, .null, .null, .null, .int 0, .int 0, .int 0]))] sz) := by
  refine nm_ofW (D := D) (y := y) (E := nT) (yy := yX1_init) (wsy := wsX1_init) (rm := { frames := 2, cells := 4, slots := 917, locals := 200 }) (as := [.ref a0]) (ws := [(a0, .inr (1, [.int 0, .int 0, .long 0, .long 0, .null, .null, .null, .null, .int 0, .int 0, .int 0]))]) (sz := sz) (mc := 4) (ms := 917) (Qc := fun A => nQv D y (fun _ => True) (fun u => [(a0, .inr (1, [.int 0, .int 0, .long 0, .long 0, .ref (u 0), .ref (u 1), .ref (u 2), .ref (u 3), .int 0, .int (-1), .int 0])), ((u 0), .inl (y 0, 7, .inl nz)), ((u 1), .inl (y 0, 7, .inl nz)), ((u 2), .inl (y 0, 896, .inl nz)), ((u 3), .inl (y 0, 7, .inl nz))]) A) (cc := cX1_init) (maxL := 1) (ret := none) (by decide +kernel) rfl (Nat.le_of_ble_eq_true rfl) ?_
  intro p e s m below meth c A ls H hx hb hr hml hts hown hlocks hnm hsz hP hK hD hA hS hE hAe hl
  replace hl : lv_has ls 1 [(0, .ref a0)] := hl
  have hown : s.vm.findClass RX1 = some m.cls := hown
  have w_0 := hts (.methodLink RX1 3 objectInit) (gt_k wd_2_57)
  have w_1 := hts (.instanceMethod objectInit) (gt_k wd_1_33)
  have w_2 := hts (.code objectInit ⟨#[0xb1]⟩ 1 none) (gt_k wd_1_34)
  have w_3 := hts (.fieldLink RX1 9 "SoldToBehind$Orders" "found" "I") (gt_k wd_2_58)
  have w_4 := hts (.fieldLink RX1 15 "SoldToBehind$Orders" "best" "I") (gt_k wd_2_60)
  have w_5 := hts (.fieldLink RX1 18 "SoldToBehind$Orders" "bestCode" "J") (gt_k wd_2_62)
  have w_6 := hts (.fieldLink RX1 22 "SoldToBehind$Orders" "leastCode" "J") (gt_k wd_2_64)
  have w_7 := hts (.arrayClass .int) (gt_k wd_1_53)
  have w_8 := hts (.fieldLink RX1 25 "SoldToBehind$Orders" "tally" "[I") (gt_k wd_2_66)
  have w_9 := hts (.fieldLink RX1 29 "SoldToBehind$Orders" "people" "[I") (gt_k wd_2_68)
  have w_10 := hts (.fieldLink RX1 32 "SoldToBehind$Orders" "values" "[I") (gt_k wd_2_69)
  have w_11 := hts (.fieldLink RX1 35 "SoldToBehind$Orders" "chosen" "[I") (gt_k wd_2_70)
  have w_12 := hts (.fieldLink RX1 38 "SoldToBehind$Orders" "size" "I") (gt_k wd_2_71)
  have w_13 := hts (.fieldLink RX1 41 "SoldToBehind$Orders" "watched" "I") (gt_k wd_2_72)
  have w_14 := hts (.fieldLink RX1 44 "SoldToBehind$Orders" "restsOnly" "Z") (gt_k wd_2_73)
  refine lv_aload_n hx hb dX1_init_0 rfl (lv_at hl 0 rfl) ?_
  refine W.objInit hx hb hown w_0 w_1 w_2 rfl (by rw [hml]; exact hl.1) rfl dX1_init_1 (Nat.le_of_ble_eq_true rfl) (Nat.le_of_ble_eq_true rfl) ?_
  refine W.eq (g2 := F0 m 4 ls []) rfl ?_
  refine lv_aload_n hx hb dX1_init_4 rfl (lv_at hl 0 rfl) ?_
  refine lv_iconst (v := 0) hx hb dX1_init_5 (by decide +kernel) ?_
  refine nb_put (D := D) (ci := 1) (v := .int 0) (ty := .int) (C := RX1) (T := TX1) (N := 11) (ws' := [(a0, .inr (1, [.int 0, .int 0, .long 0, .long 0, .null, .null, .null, .null, .int 0, .int 0, .int 0]))]) hx hb hts (gt_c iG_X1) tyX1 tyX1_ok nmX1 hown hK hP hD hS 0 rfl rfl 0 (by decide +kernel) w_3 (fun _ h9 => h9) rfl (by decide +kernel) rfl rfl (Nat.le_of_ble_eq_true rfl) rfl dX1_init_6 (fun H locs hP hD hS => ?_)
  refine lv_aload_n hx hb dX1_init_9 rfl (lv_at hl 0 rfl) ?_
  refine lv_iconst (v := 0) hx hb dX1_init_10 (by decide +kernel) ?_
  refine nb_put (D := D) (ci := 1) (v := .int 0) (ty := .int) (C := RX1) (T := TX1) (N := 11) (ws' := [(a0, .inr (1, [.int 0, .int 0, .long 0, .long 0, .null, .null, .null, .null, .int 0, .int 0, .int 0]))]) hx hb hts (gt_c iG_X1) tyX1 tyX1_ok nmX1 hown hK hP hD hS 0 rfl rfl 1 (by decide +kernel) w_4 (fun _ h9 => h9) rfl (by decide +kernel) rfl rfl (Nat.le_of_ble_eq_true rfl) rfl dX1_init_11 (fun H locs hP hD hS => ?_)
  refine lv_aload_n hx hb dX1_init_14 rfl (lv_at hl 0 rfl) ?_
  refine lv_lconst (v := 0) hx hb dX1_init_15 (by decide +kernel) ?_
  refine nb_put (D := D) (ci := 1) (v := .long 0) (ty := .long) (C := RX1) (T := TX1) (N := 11) (ws' := [(a0, .inr (1, [.int 0, .int 0, .long 0, .long 0, .null, .null, .null, .null, .int 0, .int 0, .int 0]))]) hx hb hts (gt_c iG_X1) tyX1 tyX1_ok nmX1 hown hK hP hD hS 0 rfl rfl 2 (by decide +kernel) w_5 (fun _ h9 => h9) rfl (by decide +kernel) rfl rfl (Nat.le_of_ble_eq_true rfl) rfl dX1_init_16 (fun H locs hP hD hS => ?_)
  refine lv_aload_n hx hb dX1_init_19 rfl (lv_at hl 0 rfl) ?_
  refine lv_lconst (v := 0) hx hb dX1_init_20 (by decide +kernel) ?_
  refine nb_put (D := D) (ci := 1) (v := .long 0) (ty := .long) (C := RX1) (T := TX1) (N := 11) (ws' := [(a0, .inr (1, [.int 0, .int 0, .long 0, .long 0, .null, .null, .null, .null, .int 0, .int 0, .int 0]))]) hx hb hts (gt_c iG_X1) tyX1 tyX1_ok nmX1 hown hK hP hD hS 0 rfl rfl 3 (by decide +kernel) w_6 (fun _ h9 => h9) rfl (by decide +kernel) rfl rfl (Nat.le_of_ble_eq_true rfl) rfl dX1_init_21 (fun H locs hP hD hS => ?_)
  refine lv_aload_n hx hb dX1_init_24 rfl (lv_at hl 0 rfl) ?_
  refine lv_bipush (v := 7) hx hb dX1_init_25 (by decide +kernel) ?_
  refine nb_newa (atype := .int) (ty := .int) (N' := 7) (a0 := (7, .inl nz)) hx hb w_7 rfl hK hP hD hS hA 0 rfl (fun _ _ h => h) (fun _ => rfl) (by decide +kernel) (by decide +kernel) (by decide +kernel) (Nat.le_of_ble_eq_true rfl) (Nat.le_of_ble_eq_true rfl) dX1_init_27 (fun q1 H hP hD hS => ?_)
  refine nb_putF (D := D) (ci := 1) (v := .ref q1) (ty := .array .int) (C := RX1) (T := TX1) (N := 11) (ws' := [(a0, .inr (1, [.int 0, .int 0, .long 0, .long 0, .ref q1, .null, .null, .null, .int 0, .int 0, .int 0])), (q1, .inl (y 0, 7, .inl nz))]) hx hb hts (gt_c iG_X1) tyX1 tyX1_ok nmX1 hown hK hP hD hS 0 rfl rfl 4 (by decide +kernel) w_8 (fun _ h9 => h9) rfl hnm rfl (by decide +kernel) rfl rfl (Nat.le_of_ble_eq_true rfl) rfl dX1_init_29 (fun H locs hP hD hS => ?_)
  refine lv_aload_n hx hb dX1_init_32 rfl (lv_at hl 0 rfl) ?_
  refine lv_bipush (v := 7) hx hb dX1_init_33 (by decide +kernel) ?_
  refine nb_newa (atype := .int) (ty := .int) (N' := 7) (a0 := (7, .inl nz)) hx hb w_7 rfl hK hP hD hS hA 0 rfl (fun _ _ h => h) (fun _ => rfl) (by decide +kernel) (by decide +kernel) (by decide +kernel) (Nat.le_of_ble_eq_true rfl) (Nat.le_of_ble_eq_true rfl) dX1_init_35 (fun q2 H hP hD hS => ?_)
  refine nb_putF (D := D) (ci := 1) (v := .ref q2) (ty := .array .int) (C := RX1) (T := TX1) (N := 11) (ws' := [(a0, .inr (1, [.int 0, .int 0, .long 0, .long 0, .ref q1, .ref q2, .null, .null, .int 0, .int 0, .int 0])), (q1, .inl (y 0, 7, .inl nz)), (q2, .inl (y 0, 7, .inl nz))]) hx hb hts (gt_c iG_X1) tyX1 tyX1_ok nmX1 hown hK hP hD hS 0 rfl rfl 5 (by decide +kernel) w_9 (fun _ h9 => h9) rfl hnm rfl (by decide +kernel) rfl rfl (Nat.le_of_ble_eq_true rfl) rfl dX1_init_37 (fun H locs hP hD hS => ?_)
  refine lv_aload_n hx hb dX1_init_40 rfl (lv_at hl 0 rfl) ?_
  refine lv_sipush (v := 896) hx hb dX1_init_41 (by decide +kernel) ?_
  refine nb_newa (atype := .int) (ty := .int) (N' := 896) (a0 := (896, .inl nz)) hx hb w_7 rfl hK hP hD hS hA 0 rfl (fun _ _ h => h) (fun _ => rfl) (by decide +kernel) (by decide +kernel) (by decide +kernel) (Nat.le_of_ble_eq_true rfl) (Nat.le_of_ble_eq_true rfl) dX1_init_44 (fun q3 H hP hD hS => ?_)
  refine nb_putF (D := D) (ci := 1) (v := .ref q3) (ty := .array .int) (C := RX1) (T := TX1) (N := 11) (ws' := [(a0, .inr (1, [.int 0, .int 0, .long 0, .long 0, .ref q1, .ref q2, .ref q3, .null, .int 0, .int 0, .int 0])), (q1, .inl (y 0, 7, .inl nz)), (q2, .inl (y 0, 7, .inl nz)), (q3, .inl (y 0, 896, .inl nz))]) hx hb hts (gt_c iG_X1) tyX1 tyX1_ok nmX1 hown hK hP hD hS 0 rfl rfl 6 (by decide +kernel) w_10 (fun _ h9 => h9) rfl hnm rfl (by decide +kernel) rfl rfl (Nat.le_of_ble_eq_true rfl) rfl dX1_init_46 (fun H locs hP hD hS => ?_)
  refine lv_aload_n hx hb dX1_init_49 rfl (lv_at hl 0 rfl) ?_
  refine lv_bipush (v := 7) hx hb dX1_init_50 (by decide +kernel) ?_
  refine nb_newa (atype := .int) (ty := .int) (N' := 7) (a0 := (7, .inl nz)) hx hb w_7 rfl hK hP hD hS hA 0 rfl (fun _ _ h => h) (fun _ => rfl) (by decide +kernel) (by decide +kernel) (by decide +kernel) (Nat.le_of_ble_eq_true rfl) (Nat.le_of_ble_eq_true rfl) dX1_init_52 (fun q4 H hP hD hS => ?_)
  refine nb_putF (D := D) (ci := 1) (v := .ref q4) (ty := .array .int) (C := RX1) (T := TX1) (N := 11) (ws' := [(a0, .inr (1, [.int 0, .int 0, .long 0, .long 0, .ref q1, .ref q2, .ref q3, .ref q4, .int 0, .int 0, .int 0])), (q1, .inl (y 0, 7, .inl nz)), (q2, .inl (y 0, 7, .inl nz)), (q3, .inl (y 0, 896, .inl nz)), (q4, .inl (y 0, 7, .inl nz))]) hx hb hts (gt_c iG_X1) tyX1 tyX1_ok nmX1 hown hK hP hD hS 0 rfl rfl 7 (by decide +kernel) w_11 (fun _ h9 => h9) rfl hnm rfl (by decide +kernel) rfl rfl (Nat.le_of_ble_eq_true rfl) rfl dX1_init_54 (fun H locs hP hD hS => ?_)
  refine lv_aload_n hx hb dX1_init_57 rfl (lv_at hl 0 rfl) ?_
  refine lv_iconst (v := 0) hx hb dX1_init_58 (by decide +kernel) ?_
  refine nb_put (D := D) (ci := 1) (v := .int 0) (ty := .int) (C := RX1) (T := TX1) (N := 11) (ws' := [(a0, .inr (1, [.int 0, .int 0, .long 0, .long 0, .ref q1, .ref q2, .ref q3, .ref q4, .int 0, .int 0, .int 0])), (q1, .inl (y 0, 7, .inl nz)), (q2, .inl (y 0, 7, .inl nz)), (q3, .inl (y 0, 896, .inl nz)), (q4, .inl (y 0, 7, .inl nz))]) hx hb hts (gt_c iG_X1) tyX1 tyX1_ok nmX1 hown hK hP hD hS 0 rfl rfl 8 (by decide +kernel) w_12 (fun _ h9 => h9) rfl (by decide +kernel) rfl rfl (Nat.le_of_ble_eq_true rfl) rfl dX1_init_59 (fun H locs hP hD hS => ?_)
  refine lv_aload_n hx hb dX1_init_62 rfl (lv_at hl 0 rfl) ?_
  refine lv_iconst (v := (-1)) hx hb dX1_init_63 (by decide +kernel) ?_
  refine nb_put (D := D) (ci := 1) (v := .int (-1)) (ty := .int) (C := RX1) (T := TX1) (N := 11) (ws' := [(a0, .inr (1, [.int 0, .int 0, .long 0, .long 0, .ref q1, .ref q2, .ref q3, .ref q4, .int 0, .int (-1), .int 0])), (q1, .inl (y 0, 7, .inl nz)), (q2, .inl (y 0, 7, .inl nz)), (q3, .inl (y 0, 896, .inl nz)), (q4, .inl (y 0, 7, .inl nz))]) hx hb hts (gt_c iG_X1) tyX1 tyX1_ok nmX1 hown hK hP hD hS 0 rfl rfl 9 (by decide +kernel) w_13 (fun _ h9 => h9) rfl (by decide +kernel) rfl rfl (Nat.le_of_ble_eq_true rfl) rfl dX1_init_64 (fun H locs hP hD hS => ?_)
  refine lv_aload_n hx hb dX1_init_67 rfl (lv_at hl 0 rfl) ?_
  refine lv_iconst (v := 0) hx hb dX1_init_68 (by decide +kernel) ?_
  refine nb_put (D := D) (ci := 1) (v := .int 0) (ty := .boolean) (C := RX1) (T := TX1) (N := 11) (ws' := [(a0, .inr (1, [.int 0, .int 0, .long 0, .long 0, .ref q1, .ref q2, .ref q3, .ref q4, .int 0, .int (-1), .int 0])), (q1, .inl (y 0, 7, .inl nz)), (q2, .inl (y 0, 7, .inl nz)), (q3, .inl (y 0, 896, .inl nz)), (q4, .inl (y 0, 7, .inl nz))]) hx hb hts (gt_c iG_X1) tyX1 tyX1_ok nmX1 hown hK hP hD hS 0 rfl rfl 10 (by decide +kernel) w_14 (fun _ h9 => h9) rfl (by decide +kernel) rfl rfl (Nat.le_of_ble_eq_true rfl) rfl dX1_init_69 (fun H locs hP hD hS => ?_)
  refine W.widen (k := 4) (n := 917) (Nat.le_of_ble_eq_true rfl) (Nat.le_of_ble_eq_true rfl) ?_
  exact W.vret hx hb hr (fun t ht hW => ⟨⟨(fun k => if k = 0 then q1 else if k = 1 then q2 else if k = 2 then q3 else if k = 3 then q4 else 0), rfl, trivial, by rw [ht]; exact hP, va_K.moved hW.alike hK, hD⟩, hS.F ht⟩) hS.2.2 dX1_init_72 hlocks
set_option maxRecDepth 100000 in
set_option maxHeartbeats 4000000 in
theorem cX8_join_1 (l : Launch) (D : va_G) (y : Nat → ClassId) (a0 : Nat) (n0 : Int32) (a1 : Nat) (sz : Nat) : Met l yX8_join wsX8_join { frames := 2, cells := 0, slots := 0, locals := 200 } (nPc D y nT [.ref a0, .int n0] [(a0, .inr (8, [.ref a1, .int 0])), (a1, .inl (y 0, 80, .inl nz))] sz) ((fun A => nQi D y (fun r _ => r = 1) (fun u => [(a0, .inr (8, [.ref a1, .int 4]))]) A) (va_A [(a0, .inr (8, [.ref a1, .int 0])), (a1, .inl (y 0, 80, .inl nz))] sz)) 0 0 (va_A [(a0, .inr (8, [.ref a1, .int 0])), (a1, .inl (y 0, 80, .inl nz))] sz) := by
  refine nm_ofW (D := D) (y := y) (E := nT) (yy := yX8_join) (wsy := wsX8_join) (rm := { frames := 2, cells := 0, slots := 0, locals := 200 }) (as := [.ref a0, .int n0]) (ws := [(a0, .inr (8, [.ref a1, .int 0])), (a1, .inl (y 0, 80, .inl nz))]) (sz := sz) (mc := 0) (ms := 0) (Qc := fun A => nQi D y (fun r _ => r = 1) (fun u => [(a0, .inr (8, [.ref a1, .int 4]))]) A) (cc := cX8_join) (maxL := 3) (ret := (some .boolean)) (by decide +kernel) rfl (Nat.le_of_ble_eq_true rfl) ?_
  intro p e s m below meth c A ls H hx hb hr hml hts hown hlocks hnm hsz hP hK hD hA hS hE hAe hl
  replace hl : lv_has ls 3 [(0, .ref a0), (1, .int n0)] := hl
  have hown : s.vm.findClass RX8 = some m.cls := hown
  have w_0 := hts (.fieldLink RX8 15 "SoldToBehind$Text" "size" "I") (gt_k wd_1_44)
  have w_1 := hts (.fieldLink RX8 9 "SoldToBehind$Text" "signs" "[I") (gt_k wd_1_41)
  refine lv_aload_n hx hb dX8_join_0 rfl (lv_at hl 0 rfl) ?_
  refine va_get (D := D) (ci := 8) (v := .int 0) (C := RX8) (T := TX8) (N := 2) hx hb hts (gt_c iG_X8) hown hK hP 0 rfl rfl 1 (by decide +kernel) w_0 (fun _ h9 => h9) rfl dX8_join_1 ?_
  refine lv_iconst (v := 4) hx hb dX8_join_4 (by decide +kernel) ?_
  refine lv_iadd hx hb dX8_join_5 ?_
  refine nv_i (v := 4) (by decide +kernel) ?_
  refine lv_bipush (v := 80) hx hb dX8_join_6 (by decide +kernel) ?_
  refine lv_icmp_le (tgt := 13) hx hb dX8_join_8 (by decide +kernel) (fun _ => ?_) (fun c => absurd (by decide +kernel) c)
  refine lv_bipush (v := 24) hx hb dX8_join_13 (by decide +kernel) ?_
  refine lv_istore_n (lv' := [(2, .int 24), (0, .ref a0), (1, .int n0)]) hx hb dX8_join_15 rfl hl (by decide +kernel) rfl (fun ls hl => ?_)
  refine lv_iload_n hx hb dX8_join_16 rfl (lv_at hl 0 rfl) ?_
  refine lv_if_lt (tgt := 52) hx hb dX8_join_17 (by decide +kernel) (fun c => absurd c (by decide +kernel)) (fun _ => ?_)
  refine lv_aload_n hx hb dX8_join_20 rfl (lv_at hl 1 rfl) ?_
  refine va_get (D := D) (ci := 8) (v := .ref a1) (C := RX8) (T := TX8) (N := 2) hx hb hts (gt_c iG_X8) hown hK hP 0 rfl rfl 0 (by decide +kernel) w_1 (fun _ h9 => h9) rfl dX8_join_21 ?_
  refine lv_aload_n hx hb dX8_join_24 rfl (lv_at hl 1 rfl) ?_
  refine va_get (D := D) (ci := 8) (v := .int 0) (C := RX8) (T := TX8) (N := 2) hx hb hts (gt_c iG_X8) hown hK hP 0 rfl rfl 1 (by decide +kernel) w_0 (fun _ h9 => h9) rfl dX8_join_25 ?_
  refine lv_iload_n hx hb dX8_join_28 rfl (lv_at hl 2 rfl) ?_
  refine lv_iload_n hx hb dX8_join_29 rfl (lv_at hl 0 rfl) ?_
  refine lv_iushr hx hb dX8_join_30 rfl ?_
  refine lv_topi (fun x1 ex1 => ?_)
  refine lv_sipush (v := 255) hx hb dX8_join_31 (by decide +kernel) ?_
  refine lv_iand hx hb dX8_join_34 ?_
  refine lv_topi (fun x2 ex2 => ?_)
  refine nb_iast (ws' := [(a0, .inr (8, [.ref a1, .int 0])), (a1, .inl (y 0, 80, .inl (upd nz 0 x2)))]) hx hb hK hP hD hS 1 0 rfl rfl (n_in (by decide +kernel)) rfl dX8_join_35 (fun H locs hP hD hS => ?_)
  refine lv_aload_n hx hb dX8_join_36 rfl (lv_at hl 1 rfl) ?_
  refine lv_dup hx hb dX8_join_37 rfl ?_
  refine va_get (D := D) (ci := 8) (v := .int 0) (C := RX8) (T := TX8) (N := 2) hx hb hts (gt_c iG_X8) hown hK hP 0 rfl rfl 1 (by decide +kernel) w_0 (fun _ h9 => h9) rfl dX8_join_38 ?_
  refine lv_iconst (v := 1) hx hb dX8_join_41 (by decide +kernel) ?_
  refine lv_iadd hx hb dX8_join_42 ?_
  refine nv_i (v := 1) (by decide +kernel) ?_
  refine nb_put (D := D) (ci := 8) (v := .int 1) (ty := .int) (C := RX8) (T := TX8) (N := 2) (ws' := [(a0, .inr (8, [.ref a1, .int 1])), (a1, .inl (y 0, 80, .inl (upd nz 0 x2)))]) hx hb hts (gt_c iG_X8) tyX8 tyX8_ok nmX8 hown hK hP hD hS 0 rfl rfl 1 (by decide +kernel) w_0 (fun _ h9 => h9) rfl (by decide +kernel) rfl rfl (Nat.le_of_ble_eq_true rfl) rfl dX8_join_43 (fun H locs hP hD hS => ?_)
  refine lv_iinc (v := 16) (lv' := [(2, .int 16), (0, .ref a0), (1, .int n0)]) hx hb dX8_join_46 hl (k := 0) rfl (by decide +kernel) (by decide +kernel) rfl (fun ls hl => ?_)
  refine lv_goto (tgt := 16) hx hb dX8_join_49 (by decide +kernel) ?_
  refine lv_iload_n hx hb dX8_join_16 rfl (lv_at hl 0 rfl) ?_
  refine lv_if_lt (tgt := 52) hx hb dX8_join_17 (by decide +kernel) (fun c => absurd c (by decide +kernel)) (fun _ => ?_)
  refine lv_aload_n hx hb dX8_join_20 rfl (lv_at hl 1 rfl) ?_
  refine va_get (D := D) (ci := 8) (v := .ref a1) (C := RX8) (T := TX8) (N := 2) hx hb hts (gt_c iG_X8) hown hK hP 0 rfl rfl 0 (by decide +kernel) w_1 (fun _ h9 => h9) rfl dX8_join_21 ?_
  refine lv_aload_n hx hb dX8_join_24 rfl (lv_at hl 1 rfl) ?_
  refine va_get (D := D) (ci := 8) (v := .int 1) (C := RX8) (T := TX8) (N := 2) hx hb hts (gt_c iG_X8) hown hK hP 0 rfl rfl 1 (by decide +kernel) w_0 (fun _ h9 => h9) rfl dX8_join_25 ?_
  refine lv_iload_n hx hb dX8_join_28 rfl (lv_at hl 2 rfl) ?_
  refine lv_iload_n hx hb dX8_join_29 rfl (lv_at hl 0 rfl) ?_
  refine lv_iushr hx hb dX8_join_30 rfl ?_
  refine lv_topi (fun x3 ex3 => ?_)
  refine lv_sipush (v := 255) hx hb dX8_join_31 (by decide +kernel) ?_
  refine lv_iand hx hb dX8_join_34 ?_
  refine lv_topi (fun x4 ex4 => ?_)
  refine nb_iast (ws' := [(a0, .inr (8, [.ref a1, .int 1])), (a1, .inl (y 0, 80, .inl (upd (upd nz 0 x2) 1 x4)))]) hx hb hK hP hD hS 1 0 rfl rfl (n_in (by decide +kernel)) rfl dX8_join_35 (fun H locs hP hD hS => ?_)
  refine lv_aload_n hx hb dX8_join_36 rfl (lv_at hl 1 rfl) ?_
  refine lv_dup hx hb dX8_join_37 rfl ?_
  refine va_get (D := D) (ci := 8) (v := .int 1) (C := RX8) (T := TX8) (N := 2) hx hb hts (gt_c iG_X8) hown hK hP 0 rfl rfl 1 (by decide +kernel) w_0 (fun _ h9 => h9) rfl dX8_join_38 ?_
  refine lv_iconst (v := 1) hx hb dX8_join_41 (by decide +kernel) ?_
  refine lv_iadd hx hb dX8_join_42 ?_
  refine nv_i (v := 2) (by decide +kernel) ?_
  refine nb_put (D := D) (ci := 8) (v := .int 2) (ty := .int) (C := RX8) (T := TX8) (N := 2) (ws' := [(a0, .inr (8, [.ref a1, .int 2])), (a1, .inl (y 0, 80, .inl (upd (upd nz 0 x2) 1 x4)))]) hx hb hts (gt_c iG_X8) tyX8 tyX8_ok nmX8 hown hK hP hD hS 0 rfl rfl 1 (by decide +kernel) w_0 (fun _ h9 => h9) rfl (by decide +kernel) rfl rfl (Nat.le_of_ble_eq_true rfl) rfl dX8_join_43 (fun H locs hP hD hS => ?_)
  refine lv_iinc (v := 8) (lv' := [(2, .int 8), (0, .ref a0), (1, .int n0)]) hx hb dX8_join_46 hl (k := 0) rfl (by decide +kernel) (by decide +kernel) rfl (fun ls hl => ?_)
  refine lv_goto (tgt := 16) hx hb dX8_join_49 (by decide +kernel) ?_
  refine lv_iload_n hx hb dX8_join_16 rfl (lv_at hl 0 rfl) ?_
  refine lv_if_lt (tgt := 52) hx hb dX8_join_17 (by decide +kernel) (fun c => absurd c (by decide +kernel)) (fun _ => ?_)
  refine lv_aload_n hx hb dX8_join_20 rfl (lv_at hl 1 rfl) ?_
  refine va_get (D := D) (ci := 8) (v := .ref a1) (C := RX8) (T := TX8) (N := 2) hx hb hts (gt_c iG_X8) hown hK hP 0 rfl rfl 0 (by decide +kernel) w_1 (fun _ h9 => h9) rfl dX8_join_21 ?_
  refine lv_aload_n hx hb dX8_join_24 rfl (lv_at hl 1 rfl) ?_
  refine va_get (D := D) (ci := 8) (v := .int 2) (C := RX8) (T := TX8) (N := 2) hx hb hts (gt_c iG_X8) hown hK hP 0 rfl rfl 1 (by decide +kernel) w_0 (fun _ h9 => h9) rfl dX8_join_25 ?_
  refine lv_iload_n hx hb dX8_join_28 rfl (lv_at hl 2 rfl) ?_
  refine lv_iload_n hx hb dX8_join_29 rfl (lv_at hl 0 rfl) ?_
  refine lv_iushr hx hb dX8_join_30 rfl ?_
  refine lv_topi (fun x5 ex5 => ?_)
  refine lv_sipush (v := 255) hx hb dX8_join_31 (by decide +kernel) ?_
  refine lv_iand hx hb dX8_join_34 ?_
  refine lv_topi (fun x6 ex6 => ?_)
  refine nb_iast (ws' := [(a0, .inr (8, [.ref a1, .int 2])), (a1, .inl (y 0, 80, .inl (upd (upd (upd nz 0 x2) 1 x4) 2 x6)))]) hx hb hK hP hD hS 1 0 rfl rfl (n_in (by decide +kernel)) rfl dX8_join_35 (fun H locs hP hD hS => ?_)
  refine lv_aload_n hx hb dX8_join_36 rfl (lv_at hl 1 rfl) ?_
  refine lv_dup hx hb dX8_join_37 rfl ?_
  refine va_get (D := D) (ci := 8) (v := .int 2) (C := RX8) (T := TX8) (N := 2) hx hb hts (gt_c iG_X8) hown hK hP 0 rfl rfl 1 (by decide +kernel) w_0 (fun _ h9 => h9) rfl dX8_join_38 ?_
  refine lv_iconst (v := 1) hx hb dX8_join_41 (by decide +kernel) ?_
  refine lv_iadd hx hb dX8_join_42 ?_
  refine nv_i (v := 3) (by decide +kernel) ?_
  refine nb_put (D := D) (ci := 8) (v := .int 3) (ty := .int) (C := RX8) (T := TX8) (N := 2) (ws' := [(a0, .inr (8, [.ref a1, .int 3])), (a1, .inl (y 0, 80, .inl (upd (upd (upd nz 0 x2) 1 x4) 2 x6)))]) hx hb hts (gt_c iG_X8) tyX8 tyX8_ok nmX8 hown hK hP hD hS 0 rfl rfl 1 (by decide +kernel) w_0 (fun _ h9 => h9) rfl (by decide +kernel) rfl rfl (Nat.le_of_ble_eq_true rfl) rfl dX8_join_43 (fun H locs hP hD hS => ?_)
  refine lv_iinc (v := 0) (lv' := [(2, .int 0), (0, .ref a0), (1, .int n0)]) hx hb dX8_join_46 hl (k := 0) rfl (by decide +kernel) (by decide +kernel) rfl (fun ls hl => ?_)
  refine lv_goto (tgt := 16) hx hb dX8_join_49 (by decide +kernel) ?_
  refine lv_iload_n hx hb dX8_join_16 rfl (lv_at hl 0 rfl) ?_
  refine lv_if_lt (tgt := 52) hx hb dX8_join_17 (by decide +kernel) (fun c => absurd c (by decide +kernel)) (fun _ => ?_)
  refine lv_aload_n hx hb dX8_join_20 rfl (lv_at hl 1 rfl) ?_
  refine va_get (D := D) (ci := 8) (v := .ref a1) (C := RX8) (T := TX8) (N := 2) hx hb hts (gt_c iG_X8) hown hK hP 0 rfl rfl 0 (by decide +kernel) w_1 (fun _ h9 => h9) rfl dX8_join_21 ?_
  refine lv_aload_n hx hb dX8_join_24 rfl (lv_at hl 1 rfl) ?_
  refine va_get (D := D) (ci := 8) (v := .int 3) (C := RX8) (T := TX8) (N := 2) hx hb hts (gt_c iG_X8) hown hK hP 0 rfl rfl 1 (by decide +kernel) w_0 (fun _ h9 => h9) rfl dX8_join_25 ?_
  refine lv_iload_n hx hb dX8_join_28 rfl (lv_at hl 2 rfl) ?_
  refine lv_iload_n hx hb dX8_join_29 rfl (lv_at hl 0 rfl) ?_
  refine lv_iushr hx hb dX8_join_30 rfl ?_
  refine lv_topi (fun x7 ex7 => ?_)
  refine lv_sipush (v := 255) hx hb dX8_join_31 (by decide +kernel) ?_
  refine lv_iand hx hb dX8_join_34 ?_
  refine lv_topi (fun x8 ex8 => ?_)
  refine nb_iast (ws' := [(a0, .inr (8, [.ref a1, .int 3])), (a1, .inl (y 0, 80, .inl (upd (upd (upd (upd nz 0 x2) 1 x4) 2 x6) 3 x8)))]) hx hb hK hP hD hS 1 0 rfl rfl (n_in (by decide +kernel)) rfl dX8_join_35 (fun H locs hP hD hS => ?_)
  refine lv_aload_n hx hb dX8_join_36 rfl (lv_at hl 1 rfl) ?_
  refine lv_dup hx hb dX8_join_37 rfl ?_
  refine va_get (D := D) (ci := 8) (v := .int 3) (C := RX8) (T := TX8) (N := 2) hx hb hts (gt_c iG_X8) hown hK hP 0 rfl rfl 1 (by decide +kernel) w_0 (fun _ h9 => h9) rfl dX8_join_38 ?_
  refine lv_iconst (v := 1) hx hb dX8_join_41 (by decide +kernel) ?_
  refine lv_iadd hx hb dX8_join_42 ?_
  refine nv_i (v := 4) (by decide +kernel) ?_
  refine nb_put (D := D) (ci := 8) (v := .int 4) (ty := .int) (C := RX8) (T := TX8) (N := 2) (ws' := [(a0, .inr (8, [.ref a1, .int 4])), (a1, .inl (y 0, 80, .inl (upd (upd (upd (upd nz 0 x2) 1 x4) 2 x6) 3 x8)))]) hx hb hts (gt_c iG_X8) tyX8 tyX8_ok nmX8 hown hK hP hD hS 0 rfl rfl 1 (by decide +kernel) w_0 (fun _ h9 => h9) rfl (by decide +kernel) rfl rfl (Nat.le_of_ble_eq_true rfl) rfl dX8_join_43 (fun H locs hP hD hS => ?_)
  refine lv_iinc (v := (-8)) (lv' := [(2, .int (-8)), (0, .ref a0), (1, .int n0)]) hx hb dX8_join_46 hl (k := 0) rfl (by decide +kernel) (by decide +kernel) rfl (fun ls hl => ?_)
  refine lv_goto (tgt := 16) hx hb dX8_join_49 (by decide +kernel) ?_
  refine lv_iload_n hx hb dX8_join_16 rfl (lv_at hl 0 rfl) ?_
  refine lv_if_lt (tgt := 52) hx hb dX8_join_17 (by decide +kernel) (fun _ => ?_) (fun c => absurd (by decide +kernel) c)
  refine lv_iconst (v := 1) hx hb dX8_join_52 (by decide +kernel) ?_
  replace hP := hP.sub (ws' := [(a0, .inr (8, [.ref a1, .int 4]))]) [0] rfl
  replace hD := hD.sub (ws' := [(a0, .inr (8, [.ref a1, .int 4]))]) [0] (by decide +kernel) rfl
  refine W.widen (k := 0) (n := 0) (Nat.le_of_ble_eq_true rfl) (Nat.le_of_ble_eq_true rfl) ?_
  exact W.zret (v := 1) hx hb hr (by decide +kernel) (fun t ht hW => ⟨⟨1, (fun _ => 0), rfl, rfl, by rw [ht]; exact hP, va_K.moved hW.alike hK, hD⟩, hS.F ht⟩) hS.2.2 dX8_join_53 hlocks
set_option maxRecDepth 100000 in
set_option maxHeartbeats 4000000 in
theorem cX11_sign_1 (l : Launch) (D : va_G) (y : Nat → ClassId) (a0 : Nat) (n0 : Int32) (a1 : Nat) (a2 : Nat) (a3 : Nat) (a4 : Nat) (a5 : Nat) (a6 : Nat) (a7 : Nat) (a8 : Nat) (a9 : Nat) (a10 : Nat) (a11 : Nat) (a12 : Nat) (a13 : Nat) (a14 : Nat) (a15 : Nat) (sz : Nat) : Met l yX11_sign wsX11_sign { frames := 3, cells := 0, slots := 0, locals := 222 } (nPc D y nT [.ref a0, .int n0] [(a0, .inr (11, [.ref a1, .ref a2, .ref a3, .ref a4, .ref a5, .ref a6, .ref a7, .ref a8, .ref a9, .ref a10, .ref a11, .ref a12, .ref a13, .ref a14, .int 1, .null, .int 0])), (a1, .inr (8, [.ref a15, .int 0])), (a15, .inl (y 0, 80, .inl nz))] sz) ((fun A => nQi D y (fun r _ => r = 4) (fun u => [(a0, .inr (11, [.ref a1, .ref a2, .ref a3, .ref a4, .ref a5, .ref a6, .ref a7, .ref a8, .ref a9, .ref a10, .ref a11, .ref a12, .ref a13, .ref a14, .int 1, .null, .int 0])), (a1, .inr (8, [.ref a15, .int 4]))]) A) (va_A [(a0, .inr (11, [.ref a1, .ref a2, .ref a3, .ref a4, .ref a5, .ref a6, .ref a7, .ref a8, .ref a9, .ref a10, .ref a11, .ref a12, .ref a13, .ref a14, .int 1, .null, .int 0])), (a1, .inr (8, [.ref a15, .int 0])), (a15, .inl (y 0, 80, .inl nz))] sz)) 0 0 (va_A [(a0, .inr (11, [.ref a1, .ref a2, .ref a3, .ref a4, .ref a5, .ref a6, .ref a7, .ref a8, .ref a9, .ref a10, .ref a11, .ref a12, .ref a13, .ref a14, .int 1, .null, .int 0])), (a1, .inr (8, [.ref a15, .int 0])), (a15, .inl (y 0, 80, .inl nz))] sz) := by
  refine nm_ofW (D := D) (y := y) (E := nT) (yy := yX11_sign) (wsy := wsX11_sign) (rm := { frames := 3, cells := 0, slots := 0, locals := 222 }) (as := [.ref a0, .int n0]) (ws := [(a0, .inr (11, [.ref a1, .ref a2, .ref a3, .ref a4, .ref a5, .ref a6, .ref a7, .ref a8, .ref a9, .ref a10, .ref a11, .ref a12, .ref a13, .ref a14, .int 1, .null, .int 0])), (a1, .inr (8, [.ref a15, .int 0])), (a15, .inl (y 0, 80, .inl nz))]) (sz := sz) (mc := 0) (ms := 0) (Qc := fun A => nQi D y (fun r _ => r = 4) (fun u => [(a0, .inr (11, [.ref a1, .ref a2, .ref a3, .ref a4, .ref a5, .ref a6, .ref a7, .ref a8, .ref a9, .ref a10, .ref a11, .ref a12, .ref a13, .ref a14, .int 1, .null, .int 0])), (a1, .inr (8, [.ref a15, .int 4]))]) A) (cc := cX11_sign) (maxL := 2) (ret := (some .int)) (by decide +kernel) rfl (Nat.le_of_ble_eq_true rfl) ?_
  intro p e s m below meth c A ls H hx hb hr hml hts hown hlocks hnm hsz hP hK hD hA hS hE hAe hl
  replace hl : lv_has ls 2 [(0, .ref a0), (1, .int n0)] := hl
  have hown : s.vm.findClass RX11 = some m.cls := hown
  have w_0 := hts (.fieldLink RX11 10 "SoldToBehind" "text" "LSoldToBehind$Text;") (gt_k wd_2_98)
  have w_1 := hts (.fieldLink RX11 103 "SoldToBehind$Text" "size" "I") (gt_k wd_1_45)
  refine lv_aload_n hx hb dX11_sign_0 rfl (lv_at hl 0 rfl) ?_
  refine va_get (D := D) (ci := 11) (v := .ref a1) (C := RX11) (T := TX11) (N := 17) hx hb hts (gt_c iG_X11) hown hK hP 0 rfl rfl 0 (by decide +kernel) w_0 (fun _ h9 => h9) rfl dX11_sign_1 ?_
  refine lv_iload_n hx hb dX11_sign_4 rfl (lv_at hl 1 rfl) ?_
  refine nj_i (ws := [(a0, .inr (11, [.ref a1, .ref a2, .ref a3, .ref a4, .ref a5, .ref a6, .ref a7, .ref a8, .ref a9, .ref a10, .ref a11, .ref a12, .ref a13, .ref a14, .int 1, .null, .int 0])), (a1, .inr (8, [.ref a15, .int 0])), (a15, .inl (y 0, 80, .inl nz))]) (wc := [(a1, .inr (8, [.ref a15, .int 0])), (a15, .inl (y 0, 80, .inl nz))]) (wr := [(a0, .inr (11, [.ref a1, .ref a2, .ref a3, .ref a4, .ref a5, .ref a6, .ref a7, .ref a8, .ref a9, .ref a10, .ref a11, .ref a12, .ref a13, .ref a14, .int 1, .null, .int 0]))]) (nr_V (As := [.int n0]) (rest := []) ⟨hx, hb, hml, hown, hts⟩ (cX8_join_1 l D y a1 n0 a15 H.size) (cwV 1 hts gX11_sign_X8_join rfl rfl rfl (by decide +kernel) ⟨Nat.le_of_ble_eq_true rfl, Nat.le_of_ble_eq_true rfl⟩) hK hP hD hE [1, 2] rfl (by decide +kernel) 0 8 rfl rfl rfl rfl rfl hl.1 rfl (lv_room (Nat.le_of_ble_eq_true rfl)) dX11_sign_5 ⟨Nat.le_of_ble_eq_true rfl, Nat.le_of_ble_eq_true rfl⟩) hP hD hS hA [1, 2] [0] rfl rfl (by decide +kernel) (by decide +kernel) (fun r2 u1 H locs er2 hP hD hS => ?_)
  subst er2
  refine lv_if_eq (tgt := 21) hx hb dX11_sign_8 (by decide +kernel) (fun c => absurd c (by decide +kernel)) (fun _ => ?_)
  refine lv_aload_n hx hb dX11_sign_11 rfl (lv_at hl 0 rfl) ?_
  refine va_get (D := D) (ci := 11) (v := .ref a1) (C := RX11) (T := TX11) (N := 17) hx hb hts (gt_c iG_X11) hown hK hP 0 rfl rfl 0 (by decide +kernel) w_0 (fun _ h9 => h9) rfl dX11_sign_12 ?_
  refine va_get (D := D) (ci := 8) (v := .int 4) (C := RX8) (T := TX8) (N := 2) hx hb hts (gt_c iG_X8) hown hK hP 1 rfl rfl 1 (by decide +kernel) w_1 (fun _ h9 => h9) rfl dX11_sign_15 ?_
  refine lv_goto (tgt := 22) hx hb dX11_sign_18 (by decide +kernel) ?_
  refine W.widen (k := 0) (n := 0) (Nat.le_of_ble_eq_true rfl) (Nat.le_of_ble_eq_true rfl) ?_
  exact W.iret (v := 4) hx hb hr (fun t ht hW => ⟨⟨4, (fun _ => 0), rfl, rfl, by rw [ht]; exact hP, va_K.moved hW.alike hK, hD⟩, hS.F ht⟩) hS.2.2 dX11_sign_22 hlocks
set_option maxRecDepth 100000 in
set_option maxHeartbeats 4000000 in
theorem cX12_sign_1 (l : Launch) (D : va_G) (y : Nat → ClassId) (a0 : Nat) (n0 : Int32) (a1 : Nat) (a2 : Nat) (a3 : Nat) (a4 : Nat) (a5 : Nat) (a6 : Nat) (a7 : Nat) (a8 : Nat) (a9 : Nat) (a10 : Nat) (a11 : Nat) (a12 : Nat) (a13 : Nat) (a14 : Nat) (a15 : Nat) (a16 : Nat) (a17 : Nat) (a18 : Nat) (a19 : Nat) (a20 : Nat) (a21 : Nat) (a22 : Nat) (a23 : Nat) (a24 : Nat) (a25 : Nat) (a26 : Nat) (a27 : Nat) (a28 : Nat) (a29 : Nat) (a30 : Nat) (a31 : Nat) (a32 : Nat) (a33 : Nat) (a34 : Nat) (a35 : Nat) (sz : Nat) : Met l yX12_sign wsX12_sign { frames := 2, cells := 0, slots := 0, locals := 200 } (nPc D y nT [.ref a0, .int n0] [(a0, .inr (12, (.int 0 :: .ref a1 :: .ref a2 :: .ref a3 :: .ref a4 :: .ref a5 :: .ref a6 :: .ref a7 :: .int 0 :: .ref a8 :: .int 0 :: .ref a9 :: .ref a10 :: .int 1 :: .ref a11 :: .int 0 :: .ref a12 :: .int 0 :: .int 0 :: .null :: .int 0 :: .int 0 :: .int 0 :: .int 0 :: .ref a13 :: .ref a14 :: .ref a15 :: .int (-1) :: .int 0 :: .int 0 :: .int 0 :: .int 0 :: .int 0 :: .int 0 :: .int 0 :: .ref a16 :: .int 0 :: .ref a17 :: .int 0 :: .ref a18 :: .ref a19 :: .int 0 :: .int 0 :: .int 0 :: .int 0 :: .ref a20 :: .ref a21 :: .ref a22 :: .ref a23 :: .ref a24 :: .ref a25 :: .ref a26 :: .ref a27 :: .ref a28 :: .int 0 :: .ref a29 :: .ref a30 :: .ref a31 :: .long 0 :: .int 0 :: .int 0 :: .int 0 :: .long 0 :: .int 0 :: .ref a32 :: .int 0 :: .int 0 :: .int 0 :: .int 0 :: .ref a33 :: .ref a34 :: .ref a35 :: []))), (a11, .inl (y 3, 80, .inl nz))] sz) ((fun A => nQi D y (fun r _ => r = 4) (fun u => [(a0, .inr (12, (.int 0 :: .ref a1 :: .ref a2 :: .ref a3 :: .ref a4 :: .ref a5 :: .ref a6 :: .ref a7 :: .int 0 :: .ref a8 :: .int 0 :: .ref a9 :: .ref a10 :: .int 1 :: .ref a11 :: .int 4 :: .ref a12 :: .int 0 :: .int 0 :: .null :: .int 0 :: .int 0 :: .int 0 :: .int 0 :: .ref a13 :: .ref a14 :: .ref a15 :: .int (-1) :: .int 0 :: .int 0 :: .int 0 :: .int 0 :: .int 0 :: .int 0 :: .int 0 :: .ref a16 :: .int 0 :: .ref a17 :: .int 0 :: .ref a18 :: .ref a19 :: .int 0 :: .int 0 :: .int 0 :: .int 0 :: .ref a20 :: .ref a21 :: .ref a22 :: .ref a23 :: .ref a24 :: .ref a25 :: .ref a26 :: .ref a27 :: .ref a28 :: .int 0 :: .ref a29 :: .ref a30 :: .ref a31 :: .long 0 :: .int 0 :: .int 0 :: .int 0 :: .long 0 :: .int 0 :: .ref a32 :: .int 0 :: .int 0 :: .int 0 :: .int 0 :: .ref a33 :: .ref a34 :: .ref a35 :: [])))]) A) (va_A [(a0, .inr (12, (.int 0 :: .ref a1 :: .ref a2 :: .ref a3 :: .ref a4 :: .ref a5 :: .ref a6 :: .ref a7 :: .int 0 :: .ref a8 :: .int 0 :: .ref a9 :: .ref a10 :: .int 1 :: .ref a11 :: .int 0 :: .ref a12 :: .int 0 :: .int 0 :: .null :: .int 0 :: .int 0 :: .int 0 :: .int 0 :: .ref a13 :: .ref a14 :: .ref a15 :: .int (-1) :: .int 0 :: .int 0 :: .int 0 :: .int 0 :: .int 0 :: .int 0 :: .int 0 :: .ref a16 :: .int 0 :: .ref a17 :: .int 0 :: .ref a18 :: .ref a19 :: .int 0 :: .int 0 :: .int 0 :: .int 0 :: .ref a20 :: .ref a21 :: .ref a22 :: .ref a23 :: .ref a24 :: .ref a25 :: .ref a26 :: .ref a27 :: .ref a28 :: .int 0 :: .ref a29 :: .ref a30 :: .ref a31 :: .long 0 :: .int 0 :: .int 0 :: .int 0 :: .long 0 :: .int 0 :: .ref a32 :: .int 0 :: .int 0 :: .int 0 :: .int 0 :: .ref a33 :: .ref a34 :: .ref a35 :: []))), (a11, .inl (y 3, 80, .inl nz))] sz)) 0 0 (va_A [(a0, .inr (12, (.int 0 :: .ref a1 :: .ref a2 :: .ref a3 :: .ref a4 :: .ref a5 :: .ref a6 :: .ref a7 :: .int 0 :: .ref a8 :: .int 0 :: .ref a9 :: .ref a10 :: .int 1 :: .ref a11 :: .int 0 :: .ref a12 :: .int 0 :: .int 0 :: .null :: .int 0 :: .int 0 :: .int 0 :: .int 0 :: .ref a13 :: .ref a14 :: .ref a15 :: .int (-1) :: .int 0 :: .int 0 :: .int 0 :: .int 0 :: .int 0 :: .int 0 :: .int 0 :: .ref a16 :: .int 0 :: .ref a17 :: .int 0 :: .ref a18 :: .ref a19 :: .int 0 :: .int 0 :: .int 0 :: .int 0 :: .ref a20 :: .ref a21 :: .ref a22 :: .ref a23 :: .ref a24 :: .ref a25 :: .ref a26 :: .ref a27 :: .ref a28 :: .int 0 :: .ref a29 :: .ref a30 :: .ref a31 :: .long 0 :: .int 0 :: .int 0 :: .int 0 :: .long 0 :: .int 0 :: .ref a32 :: .int 0 :: .int 0 :: .int 0 :: .int 0 :: .ref a33 :: .ref a34 :: .ref a35 :: []))), (a11, .inl (y 3, 80, .inl nz))] sz) := by
  refine nm_ofW (D := D) (y := y) (E := nT) (yy := yX12_sign) (wsy := wsX12_sign) (rm := { frames := 2, cells := 0, slots := 0, locals := 200 }) (as := [.ref a0, .int n0]) (ws := [(a0, .inr (12, (.int 0 :: .ref a1 :: .ref a2 :: .ref a3 :: .ref a4 :: .ref a5 :: .ref a6 :: .ref a7 :: .int 0 :: .ref a8 :: .int 0 :: .ref a9 :: .ref a10 :: .int 1 :: .ref a11 :: .int 0 :: .ref a12 :: .int 0 :: .int 0 :: .null :: .int 0 :: .int 0 :: .int 0 :: .int 0 :: .ref a13 :: .ref a14 :: .ref a15 :: .int (-1) :: .int 0 :: .int 0 :: .int 0 :: .int 0 :: .int 0 :: .int 0 :: .int 0 :: .ref a16 :: .int 0 :: .ref a17 :: .int 0 :: .ref a18 :: .ref a19 :: .int 0 :: .int 0 :: .int 0 :: .int 0 :: .ref a20 :: .ref a21 :: .ref a22 :: .ref a23 :: .ref a24 :: .ref a25 :: .ref a26 :: .ref a27 :: .ref a28 :: .int 0 :: .ref a29 :: .ref a30 :: .ref a31 :: .long 0 :: .int 0 :: .int 0 :: .int 0 :: .long 0 :: .int 0 :: .ref a32 :: .int 0 :: .int 0 :: .int 0 :: .int 0 :: .ref a33 :: .ref a34 :: .ref a35 :: []))), (a11, .inl (y 3, 80, .inl nz))]) (sz := sz) (mc := 0) (ms := 0) (Qc := fun A => nQi D y (fun r _ => r = 4) (fun u => [(a0, .inr (12, (.int 0 :: .ref a1 :: .ref a2 :: .ref a3 :: .ref a4 :: .ref a5 :: .ref a6 :: .ref a7 :: .int 0 :: .ref a8 :: .int 0 :: .ref a9 :: .ref a10 :: .int 1 :: .ref a11 :: .int 4 :: .ref a12 :: .int 0 :: .int 0 :: .null :: .int 0 :: .int 0 :: .int 0 :: .int 0 :: .ref a13 :: .ref a14 :: .ref a15 :: .int (-1) :: .int 0 :: .int 0 :: .int 0 :: .int 0 :: .int 0 :: .int 0 :: .int 0 :: .ref a16 :: .int 0 :: .ref a17 :: .int 0 :: .ref a18 :: .ref a19 :: .int 0 :: .int 0 :: .int 0 :: .int 0 :: .ref a20 :: .ref a21 :: .ref a22 :: .ref a23 :: .ref a24 :: .ref a25 :: .ref a26 :: .ref a27 :: .ref a28 :: .int 0 :: .ref a29 :: .ref a30 :: .ref a31 :: .long 0 :: .int 0 :: .int 0 :: .int 0 :: .long 0 :: .int 0 :: .ref a32 :: .int 0 :: .int 0 :: .int 0 :: .int 0 :: .ref a33 :: .ref a34 :: .ref a35 :: [])))]) A) (cc := cX12_sign) (maxL := 3) (ret := (some .int)) (by decide +kernel) rfl (Nat.le_of_ble_eq_true rfl) ?_
  intro p e s m below meth c A ls H hx hb hr hml hts hown hlocks hnm hsz hP hK hD hA hS hE hAe hl
  replace hl : lv_has ls 3 [(0, .ref a0), (1, .int n0)] := hl
  have hown : s.vm.findClass RX12 = some m.cls := hown
  have w_0 := hts (.fieldLink RX12 127 "SoldToBehindModel" "thrown" "I") (gt_k wd_6_211)
  have w_1 := hts (.fieldLink RX12 151 "SoldToBehindModel" "typed" "I") (gt_k wd_6_208)
  have w_2 := hts (.fieldLink RX12 45 "SoldToBehindModel" "text" "[B") (gt_k wd_6_207)
  refine lv_aload_n hx hb dX12_sign_0 rfl (lv_at hl 0 rfl) ?_
  refine lv_iconst (v := 0) hx hb dX12_sign_1 (by decide +kernel) ?_
  refine nb_put (D := D) (ci := 12) (v := .int 0) (ty := .int) (C := RX12) (T := TX12) (N := 72) (ws' := [(a0, .inr (12, (.int 0 :: .ref a1 :: .ref a2 :: .ref a3 :: .ref a4 :: .ref a5 :: .ref a6 :: .ref a7 :: .int 0 :: .ref a8 :: .int 0 :: .ref a9 :: .ref a10 :: .int 1 :: .ref a11 :: .int 0 :: .ref a12 :: .int 0 :: .int 0 :: .null :: .int 0 :: .int 0 :: .int 0 :: .int 0 :: .ref a13 :: .ref a14 :: .ref a15 :: .int (-1) :: .int 0 :: .int 0 :: .int 0 :: .int 0 :: .int 0 :: .int 0 :: .int 0 :: .ref a16 :: .int 0 :: .ref a17 :: .int 0 :: .ref a18 :: .ref a19 :: .int 0 :: .int 0 :: .int 0 :: .int 0 :: .ref a20 :: .ref a21 :: .ref a22 :: .ref a23 :: .ref a24 :: .ref a25 :: .ref a26 :: .ref a27 :: .ref a28 :: .int 0 :: .ref a29 :: .ref a30 :: .ref a31 :: .long 0 :: .int 0 :: .int 0 :: .int 0 :: .long 0 :: .int 0 :: .ref a32 :: .int 0 :: .int 0 :: .int 0 :: .int 0 :: .ref a33 :: .ref a34 :: .ref a35 :: []))), (a11, .inl (y 3, 80, .inl nz))]) hx hb hts (gt_c iG_X12) tyX12 tyX12_ok nmX12 hown hK hP hD hS 0 rfl rfl 18 (by decide +kernel) w_0 (fun _ h9 => h9) rfl (by decide +kernel) rfl rfl (Nat.le_of_ble_eq_true rfl) rfl dX12_sign_2 (fun H locs hP hD hS => ?_)
  refine lv_aload_n hx hb dX12_sign_5 rfl (lv_at hl 0 rfl) ?_
  refine va_get (D := D) (ci := 12) (v := .int 0) (C := RX12) (T := TX12) (N := 72) hx hb hts (gt_c iG_X12) hown hK hP 0 rfl rfl 15 (by decide +kernel) w_1 (fun _ h9 => h9) rfl dX12_sign_6 ?_
  refine lv_iconst (v := 4) hx hb dX12_sign_9 (by decide +kernel) ?_
  refine lv_iadd hx hb dX12_sign_10 ?_
  refine nv_i (v := 4) (by decide +kernel) ?_
  refine lv_bipush (v := 80) hx hb dX12_sign_11 (by decide +kernel) ?_
  refine lv_icmp_le (tgt := 18) hx hb dX12_sign_13 (by decide +kernel) (fun _ => ?_) (fun c => absurd (by decide +kernel) c)
  refine lv_iconst (v := 3) hx hb dX12_sign_18 (by decide +kernel) ?_
  refine lv_istore_n (lv' := [(2, .int 3), (0, .ref a0), (1, .int n0)]) hx hb dX12_sign_19 rfl hl (by decide +kernel) rfl (fun ls hl => ?_)
  refine lv_iload_n hx hb dX12_sign_20 rfl (lv_at hl 0 rfl) ?_
  refine lv_if_lt (tgt := 53) hx hb dX12_sign_21 (by decide +kernel) (fun c => absurd c (by decide +kernel)) (fun _ => ?_)
  refine lv_aload_n hx hb dX12_sign_24 rfl (lv_at hl 1 rfl) ?_
  refine va_get (D := D) (ci := 12) (v := .ref a11) (C := RX12) (T := TX12) (N := 72) hx hb hts (gt_c iG_X12) hown hK hP 0 rfl rfl 14 (by decide +kernel) w_2 (fun _ h9 => h9) rfl dX12_sign_25 ?_
  refine lv_aload_n hx hb dX12_sign_28 rfl (lv_at hl 1 rfl) ?_
  refine lv_dup hx hb dX12_sign_29 rfl ?_
  refine va_get (D := D) (ci := 12) (v := .int 0) (C := RX12) (T := TX12) (N := 72) hx hb hts (gt_c iG_X12) hown hK hP 0 rfl rfl 15 (by decide +kernel) w_1 (fun _ h9 => h9) rfl dX12_sign_30 ?_
  refine lv_dup_x1 hx hb dX12_sign_33 rfl rfl ?_
  refine lv_iconst (v := 1) hx hb dX12_sign_34 (by decide +kernel) ?_
  refine lv_iadd hx hb dX12_sign_35 ?_
  refine nv_i (v := 1) (by decide +kernel) ?_
  refine nb_put (D := D) (ci := 12) (v := .int 1) (ty := .int) (C := RX12) (T := TX12) (N := 72) (ws' := [(a0, .inr (12, (.int 0 :: .ref a1 :: .ref a2 :: .ref a3 :: .ref a4 :: .ref a5 :: .ref a6 :: .ref a7 :: .int 0 :: .ref a8 :: .int 0 :: .ref a9 :: .ref a10 :: .int 1 :: .ref a11 :: .int 1 :: .ref a12 :: .int 0 :: .int 0 :: .null :: .int 0 :: .int 0 :: .int 0 :: .int 0 :: .ref a13 :: .ref a14 :: .ref a15 :: .int (-1) :: .int 0 :: .int 0 :: .int 0 :: .int 0 :: .int 0 :: .int 0 :: .int 0 :: .ref a16 :: .int 0 :: .ref a17 :: .int 0 :: .ref a18 :: .ref a19 :: .int 0 :: .int 0 :: .int 0 :: .int 0 :: .ref a20 :: .ref a21 :: .ref a22 :: .ref a23 :: .ref a24 :: .ref a25 :: .ref a26 :: .ref a27 :: .ref a28 :: .int 0 :: .ref a29 :: .ref a30 :: .ref a31 :: .long 0 :: .int 0 :: .int 0 :: .int 0 :: .long 0 :: .int 0 :: .ref a32 :: .int 0 :: .int 0 :: .int 0 :: .int 0 :: .ref a33 :: .ref a34 :: .ref a35 :: []))), (a11, .inl (y 3, 80, .inl nz))]) hx hb hts (gt_c iG_X12) tyX12 tyX12_ok nmX12 hown hK hP hD hS 0 rfl rfl 15 (by decide +kernel) w_1 (fun _ h9 => h9) rfl (by decide +kernel) rfl rfl (Nat.le_of_ble_eq_true rfl) rfl dX12_sign_36 (fun H locs hP hD hS => ?_)
  refine lv_iload_n hx hb dX12_sign_39 rfl (lv_at hl 2 rfl) ?_
  refine lv_bipush (v := 8) hx hb dX12_sign_40 (by decide +kernel) ?_
  refine lv_iload_n hx hb dX12_sign_42 rfl (lv_at hl 0 rfl) ?_
  refine lv_imul hx hb dX12_sign_43 ?_
  refine nv_i (v := 24) (by decide +kernel) ?_
  refine lv_ishr hx hb dX12_sign_44 ?_
  refine lv_topi (fun x1 ex1 => ?_)
  refine lv_i2b hx hb dX12_sign_45 rfl ?_
  refine lv_topi (fun x2 ex2 => ?_)
  refine nb_bast (ws' := [(a0, .inr (12, (.int 0 :: .ref a1 :: .ref a2 :: .ref a3 :: .ref a4 :: .ref a5 :: .ref a6 :: .ref a7 :: .int 0 :: .ref a8 :: .int 0 :: .ref a9 :: .ref a10 :: .int 1 :: .ref a11 :: .int 1 :: .ref a12 :: .int 0 :: .int 0 :: .null :: .int 0 :: .int 0 :: .int 0 :: .int 0 :: .ref a13 :: .ref a14 :: .ref a15 :: .int (-1) :: .int 0 :: .int 0 :: .int 0 :: .int 0 :: .int 0 :: .int 0 :: .int 0 :: .ref a16 :: .int 0 :: .ref a17 :: .int 0 :: .ref a18 :: .ref a19 :: .int 0 :: .int 0 :: .int 0 :: .int 0 :: .ref a20 :: .ref a21 :: .ref a22 :: .ref a23 :: .ref a24 :: .ref a25 :: .ref a26 :: .ref a27 :: .ref a28 :: .int 0 :: .ref a29 :: .ref a30 :: .ref a31 :: .long 0 :: .int 0 :: .int 0 :: .int 0 :: .long 0 :: .int 0 :: .ref a32 :: .int 0 :: .int 0 :: .int 0 :: .int 0 :: .ref a33 :: .ref a34 :: .ref a35 :: []))), (a11, .inl (y 3, 80, .inl (upd nz 0 (vp_nar .byte x2))))]) hx hb hK hP hD hS 1 3 rfl rfl (n_in (by decide +kernel)) rfl dX12_sign_46 (fun H locs hP hD hS => ?_)
  refine lv_iinc (v := 2) (lv' := [(2, .int 2), (0, .ref a0), (1, .int n0)]) hx hb dX12_sign_47 hl (k := 0) rfl (by decide +kernel) (by decide +kernel) rfl (fun ls hl => ?_)
  refine lv_goto (tgt := 20) hx hb dX12_sign_50 (by decide +kernel) ?_
  refine lv_iload_n hx hb dX12_sign_20 rfl (lv_at hl 0 rfl) ?_
  refine lv_if_lt (tgt := 53) hx hb dX12_sign_21 (by decide +kernel) (fun c => absurd c (by decide +kernel)) (fun _ => ?_)
  refine lv_aload_n hx hb dX12_sign_24 rfl (lv_at hl 1 rfl) ?_
  refine va_get (D := D) (ci := 12) (v := .ref a11) (C := RX12) (T := TX12) (N := 72) hx hb hts (gt_c iG_X12) hown hK hP 0 rfl rfl 14 (by decide +kernel) w_2 (fun _ h9 => h9) rfl dX12_sign_25 ?_
  refine lv_aload_n hx hb dX12_sign_28 rfl (lv_at hl 1 rfl) ?_
  refine lv_dup hx hb dX12_sign_29 rfl ?_
  refine va_get (D := D) (ci := 12) (v := .int 1) (C := RX12) (T := TX12) (N := 72) hx hb hts (gt_c iG_X12) hown hK hP 0 rfl rfl 15 (by decide +kernel) w_1 (fun _ h9 => h9) rfl dX12_sign_30 ?_
  refine lv_dup_x1 hx hb dX12_sign_33 rfl rfl ?_
  refine lv_iconst (v := 1) hx hb dX12_sign_34 (by decide +kernel) ?_
  refine lv_iadd hx hb dX12_sign_35 ?_
  refine nv_i (v := 2) (by decide +kernel) ?_
  refine nb_put (D := D) (ci := 12) (v := .int 2) (ty := .int) (C := RX12) (T := TX12) (N := 72) (ws' := [(a0, .inr (12, (.int 0 :: .ref a1 :: .ref a2 :: .ref a3 :: .ref a4 :: .ref a5 :: .ref a6 :: .ref a7 :: .int 0 :: .ref a8 :: .int 0 :: .ref a9 :: .ref a10 :: .int 1 :: .ref a11 :: .int 2 :: .ref a12 :: .int 0 :: .int 0 :: .null :: .int 0 :: .int 0 :: .int 0 :: .int 0 :: .ref a13 :: .ref a14 :: .ref a15 :: .int (-1) :: .int 0 :: .int 0 :: .int 0 :: .int 0 :: .int 0 :: .int 0 :: .int 0 :: .ref a16 :: .int 0 :: .ref a17 :: .int 0 :: .ref a18 :: .ref a19 :: .int 0 :: .int 0 :: .int 0 :: .int 0 :: .ref a20 :: .ref a21 :: .ref a22 :: .ref a23 :: .ref a24 :: .ref a25 :: .ref a26 :: .ref a27 :: .ref a28 :: .int 0 :: .ref a29 :: .ref a30 :: .ref a31 :: .long 0 :: .int 0 :: .int 0 :: .int 0 :: .long 0 :: .int 0 :: .ref a32 :: .int 0 :: .int 0 :: .int 0 :: .int 0 :: .ref a33 :: .ref a34 :: .ref a35 :: []))), (a11, .inl (y 3, 80, .inl (upd nz 0 (vp_nar .byte x2))))]) hx hb hts (gt_c iG_X12) tyX12 tyX12_ok nmX12 hown hK hP hD hS 0 rfl rfl 15 (by decide +kernel) w_1 (fun _ h9 => h9) rfl (by decide +kernel) rfl rfl (Nat.le_of_ble_eq_true rfl) rfl dX12_sign_36 (fun H locs hP hD hS => ?_)
  refine lv_iload_n hx hb dX12_sign_39 rfl (lv_at hl 2 rfl) ?_
  refine lv_bipush (v := 8) hx hb dX12_sign_40 (by decide +kernel) ?_
  refine lv_iload_n hx hb dX12_sign_42 rfl (lv_at hl 0 rfl) ?_
  refine lv_imul hx hb dX12_sign_43 ?_
  refine nv_i (v := 16) (by decide +kernel) ?_
  refine lv_ishr hx hb dX12_sign_44 ?_
  refine lv_topi (fun x3 ex3 => ?_)
  refine lv_i2b hx hb dX12_sign_45 rfl ?_
  refine lv_topi (fun x4 ex4 => ?_)
  refine nb_bast (ws' := [(a0, .inr (12, (.int 0 :: .ref a1 :: .ref a2 :: .ref a3 :: .ref a4 :: .ref a5 :: .ref a6 :: .ref a7 :: .int 0 :: .ref a8 :: .int 0 :: .ref a9 :: .ref a10 :: .int 1 :: .ref a11 :: .int 2 :: .ref a12 :: .int 0 :: .int 0 :: .null :: .int 0 :: .int 0 :: .int 0 :: .int 0 :: .ref a13 :: .ref a14 :: .ref a15 :: .int (-1) :: .int 0 :: .int 0 :: .int 0 :: .int 0 :: .int 0 :: .int 0 :: .int 0 :: .ref a16 :: .int 0 :: .ref a17 :: .int 0 :: .ref a18 :: .ref a19 :: .int 0 :: .int 0 :: .int 0 :: .int 0 :: .ref a20 :: .ref a21 :: .ref a22 :: .ref a23 :: .ref a24 :: .ref a25 :: .ref a26 :: .ref a27 :: .ref a28 :: .int 0 :: .ref a29 :: .ref a30 :: .ref a31 :: .long 0 :: .int 0 :: .int 0 :: .int 0 :: .long 0 :: .int 0 :: .ref a32 :: .int 0 :: .int 0 :: .int 0 :: .int 0 :: .ref a33 :: .ref a34 :: .ref a35 :: []))), (a11, .inl (y 3, 80, .inl (upd (upd nz 0 (vp_nar .byte x2)) 1 (vp_nar .byte x4))))]) hx hb hK hP hD hS 1 3 rfl rfl (n_in (by decide +kernel)) rfl dX12_sign_46 (fun H locs hP hD hS => ?_)
  refine lv_iinc (v := 1) (lv' := [(2, .int 1), (0, .ref a0), (1, .int n0)]) hx hb dX12_sign_47 hl (k := 0) rfl (by decide +kernel) (by decide +kernel) rfl (fun ls hl => ?_)
  refine lv_goto (tgt := 20) hx hb dX12_sign_50 (by decide +kernel) ?_
  refine lv_iload_n hx hb dX12_sign_20 rfl (lv_at hl 0 rfl) ?_
  refine lv_if_lt (tgt := 53) hx hb dX12_sign_21 (by decide +kernel) (fun c => absurd c (by decide +kernel)) (fun _ => ?_)
  refine lv_aload_n hx hb dX12_sign_24 rfl (lv_at hl 1 rfl) ?_
  refine va_get (D := D) (ci := 12) (v := .ref a11) (C := RX12) (T := TX12) (N := 72) hx hb hts (gt_c iG_X12) hown hK hP 0 rfl rfl 14 (by decide +kernel) w_2 (fun _ h9 => h9) rfl dX12_sign_25 ?_
  refine lv_aload_n hx hb dX12_sign_28 rfl (lv_at hl 1 rfl) ?_
  refine lv_dup hx hb dX12_sign_29 rfl ?_
  refine va_get (D := D) (ci := 12) (v := .int 2) (C := RX12) (T := TX12) (N := 72) hx hb hts (gt_c iG_X12) hown hK hP 0 rfl rfl 15 (by decide +kernel) w_1 (fun _ h9 => h9) rfl dX12_sign_30 ?_
  refine lv_dup_x1 hx hb dX12_sign_33 rfl rfl ?_
  refine lv_iconst (v := 1) hx hb dX12_sign_34 (by decide +kernel) ?_
  refine lv_iadd hx hb dX12_sign_35 ?_
  refine nv_i (v := 3) (by decide +kernel) ?_
  refine nb_put (D := D) (ci := 12) (v := .int 3) (ty := .int) (C := RX12) (T := TX12) (N := 72) (ws' := [(a0, .inr (12, (.int 0 :: .ref a1 :: .ref a2 :: .ref a3 :: .ref a4 :: .ref a5 :: .ref a6 :: .ref a7 :: .int 0 :: .ref a8 :: .int 0 :: .ref a9 :: .ref a10 :: .int 1 :: .ref a11 :: .int 3 :: .ref a12 :: .int 0 :: .int 0 :: .null :: .int 0 :: .int 0 :: .int 0 :: .int 0 :: .ref a13 :: .ref a14 :: .ref a15 :: .int (-1) :: .int 0 :: .int 0 :: .int 0 :: .int 0 :: .int 0 :: .int 0 :: .int 0 :: .ref a16 :: .int 0 :: .ref a17 :: .int 0 :: .ref a18 :: .ref a19 :: .int 0 :: .int 0 :: .int 0 :: .int 0 :: .ref a20 :: .ref a21 :: .ref a22 :: .ref a23 :: .ref a24 :: .ref a25 :: .ref a26 :: .ref a27 :: .ref a28 :: .int 0 :: .ref a29 :: .ref a30 :: .ref a31 :: .long 0 :: .int 0 :: .int 0 :: .int 0 :: .long 0 :: .int 0 :: .ref a32 :: .int 0 :: .int 0 :: .int 0 :: .int 0 :: .ref a33 :: .ref a34 :: .ref a35 :: []))), (a11, .inl (y 3, 80, .inl (upd (upd nz 0 (vp_nar .byte x2)) 1 (vp_nar .byte x4))))]) hx hb hts (gt_c iG_X12) tyX12 tyX12_ok nmX12 hown hK hP hD hS 0 rfl rfl 15 (by decide +kernel) w_1 (fun _ h9 => h9) rfl (by decide +kernel) rfl rfl (Nat.le_of_ble_eq_true rfl) rfl dX12_sign_36 (fun H locs hP hD hS => ?_)
  refine lv_iload_n hx hb dX12_sign_39 rfl (lv_at hl 2 rfl) ?_
  refine lv_bipush (v := 8) hx hb dX12_sign_40 (by decide +kernel) ?_
  refine lv_iload_n hx hb dX12_sign_42 rfl (lv_at hl 0 rfl) ?_
  refine lv_imul hx hb dX12_sign_43 ?_
  refine nv_i (v := 8) (by decide +kernel) ?_
  refine lv_ishr hx hb dX12_sign_44 ?_
  refine lv_topi (fun x5 ex5 => ?_)
  refine lv_i2b hx hb dX12_sign_45 rfl ?_
  refine lv_topi (fun x6 ex6 => ?_)
  refine nb_bast (ws' := [(a0, .inr (12, (.int 0 :: .ref a1 :: .ref a2 :: .ref a3 :: .ref a4 :: .ref a5 :: .ref a6 :: .ref a7 :: .int 0 :: .ref a8 :: .int 0 :: .ref a9 :: .ref a10 :: .int 1 :: .ref a11 :: .int 3 :: .ref a12 :: .int 0 :: .int 0 :: .null :: .int 0 :: .int 0 :: .int 0 :: .int 0 :: .ref a13 :: .ref a14 :: .ref a15 :: .int (-1) :: .int 0 :: .int 0 :: .int 0 :: .int 0 :: .int 0 :: .int 0 :: .int 0 :: .ref a16 :: .int 0 :: .ref a17 :: .int 0 :: .ref a18 :: .ref a19 :: .int 0 :: .int 0 :: .int 0 :: .int 0 :: .ref a20 :: .ref a21 :: .ref a22 :: .ref a23 :: .ref a24 :: .ref a25 :: .ref a26 :: .ref a27 :: .ref a28 :: .int 0 :: .ref a29 :: .ref a30 :: .ref a31 :: .long 0 :: .int 0 :: .int 0 :: .int 0 :: .long 0 :: .int 0 :: .ref a32 :: .int 0 :: .int 0 :: .int 0 :: .int 0 :: .ref a33 :: .ref a34 :: .ref a35 :: []))), (a11, .inl (y 3, 80, .inl (upd (upd (upd nz 0 (vp_nar .byte x2)) 1 (vp_nar .byte x4)) 2 (vp_nar .byte x6))))]) hx hb hK hP hD hS 1 3 rfl rfl (n_in (by decide +kernel)) rfl dX12_sign_46 (fun H locs hP hD hS => ?_)
  refine lv_iinc (v := 0) (lv' := [(2, .int 0), (0, .ref a0), (1, .int n0)]) hx hb dX12_sign_47 hl (k := 0) rfl (by decide +kernel) (by decide +kernel) rfl (fun ls hl => ?_)
  refine lv_goto (tgt := 20) hx hb dX12_sign_50 (by decide +kernel) ?_
  refine lv_iload_n hx hb dX12_sign_20 rfl (lv_at hl 0 rfl) ?_
  refine lv_if_lt (tgt := 53) hx hb dX12_sign_21 (by decide +kernel) (fun c => absurd c (by decide +kernel)) (fun _ => ?_)
  refine lv_aload_n hx hb dX12_sign_24 rfl (lv_at hl 1 rfl) ?_
  refine va_get (D := D) (ci := 12) (v := .ref a11) (C := RX12) (T := TX12) (N := 72) hx hb hts (gt_c iG_X12) hown hK hP 0 rfl rfl 14 (by decide +kernel) w_2 (fun _ h9 => h9) rfl dX12_sign_25 ?_
  refine lv_aload_n hx hb dX12_sign_28 rfl (lv_at hl 1 rfl) ?_
  refine lv_dup hx hb dX12_sign_29 rfl ?_
  refine va_get (D := D) (ci := 12) (v := .int 3) (C := RX12) (T := TX12) (N := 72) hx hb hts (gt_c iG_X12) hown hK hP 0 rfl rfl 15 (by decide +kernel) w_1 (fun _ h9 => h9) rfl dX12_sign_30 ?_
  refine lv_dup_x1 hx hb dX12_sign_33 rfl rfl ?_
  refine lv_iconst (v := 1) hx hb dX12_sign_34 (by decide +kernel) ?_
  refine lv_iadd hx hb dX12_sign_35 ?_
  refine nv_i (v := 4) (by decide +kernel) ?_
  refine nb_put (D := D) (ci := 12) (v := .int 4) (ty := .int) (C := RX12) (T := TX12) (N := 72) (ws' := [(a0, .inr (12, (.int 0 :: .ref a1 :: .ref a2 :: .ref a3 :: .ref a4 :: .ref a5 :: .ref a6 :: .ref a7 :: .int 0 :: .ref a8 :: .int 0 :: .ref a9 :: .ref a10 :: .int 1 :: .ref a11 :: .int 4 :: .ref a12 :: .int 0 :: .int 0 :: .null :: .int 0 :: .int 0 :: .int 0 :: .int 0 :: .ref a13 :: .ref a14 :: .ref a15 :: .int (-1) :: .int 0 :: .int 0 :: .int 0 :: .int 0 :: .int 0 :: .int 0 :: .int 0 :: .ref a16 :: .int 0 :: .ref a17 :: .int 0 :: .ref a18 :: .ref a19 :: .int 0 :: .int 0 :: .int 0 :: .int 0 :: .ref a20 :: .ref a21 :: .ref a22 :: .ref a23 :: .ref a24 :: .ref a25 :: .ref a26 :: .ref a27 :: .ref a28 :: .int 0 :: .ref a29 :: .ref a30 :: .ref a31 :: .long 0 :: .int 0 :: .int 0 :: .int 0 :: .long 0 :: .int 0 :: .ref a32 :: .int 0 :: .int 0 :: .int 0 :: .int 0 :: .ref a33 :: .ref a34 :: .ref a35 :: []))), (a11, .inl (y 3, 80, .inl (upd (upd (upd nz 0 (vp_nar .byte x2)) 1 (vp_nar .byte x4)) 2 (vp_nar .byte x6))))]) hx hb hts (gt_c iG_X12) tyX12 tyX12_ok nmX12 hown hK hP hD hS 0 rfl rfl 15 (by decide +kernel) w_1 (fun _ h9 => h9) rfl (by decide +kernel) rfl rfl (Nat.le_of_ble_eq_true rfl) rfl dX12_sign_36 (fun H locs hP hD hS => ?_)
  refine lv_iload_n hx hb dX12_sign_39 rfl (lv_at hl 2 rfl) ?_
  refine lv_bipush (v := 8) hx hb dX12_sign_40 (by decide +kernel) ?_
  refine lv_iload_n hx hb dX12_sign_42 rfl (lv_at hl 0 rfl) ?_
  refine lv_imul hx hb dX12_sign_43 ?_
  refine nv_i (v := 0) (by decide +kernel) ?_
  refine lv_ishr hx hb dX12_sign_44 ?_
  refine lv_topi (fun x7 ex7 => ?_)
  refine lv_i2b hx hb dX12_sign_45 rfl ?_
  refine lv_topi (fun x8 ex8 => ?_)
  refine nb_bast (ws' := [(a0, .inr (12, (.int 0 :: .ref a1 :: .ref a2 :: .ref a3 :: .ref a4 :: .ref a5 :: .ref a6 :: .ref a7 :: .int 0 :: .ref a8 :: .int 0 :: .ref a9 :: .ref a10 :: .int 1 :: .ref a11 :: .int 4 :: .ref a12 :: .int 0 :: .int 0 :: .null :: .int 0 :: .int 0 :: .int 0 :: .int 0 :: .ref a13 :: .ref a14 :: .ref a15 :: .int (-1) :: .int 0 :: .int 0 :: .int 0 :: .int 0 :: .int 0 :: .int 0 :: .int 0 :: .ref a16 :: .int 0 :: .ref a17 :: .int 0 :: .ref a18 :: .ref a19 :: .int 0 :: .int 0 :: .int 0 :: .int 0 :: .ref a20 :: .ref a21 :: .ref a22 :: .ref a23 :: .ref a24 :: .ref a25 :: .ref a26 :: .ref a27 :: .ref a28 :: .int 0 :: .ref a29 :: .ref a30 :: .ref a31 :: .long 0 :: .int 0 :: .int 0 :: .int 0 :: .long 0 :: .int 0 :: .ref a32 :: .int 0 :: .int 0 :: .int 0 :: .int 0 :: .ref a33 :: .ref a34 :: .ref a35 :: []))), (a11, .inl (y 3, 80, .inl (upd (upd (upd (upd nz 0 (vp_nar .byte x2)) 1 (vp_nar .byte x4)) 2 (vp_nar .byte x6)) 3 (vp_nar .byte x8))))]) hx hb hK hP hD hS 1 3 rfl rfl (n_in (by decide +kernel)) rfl dX12_sign_46 (fun H locs hP hD hS => ?_)
  refine lv_iinc (v := (-1)) (lv' := [(2, .int (-1)), (0, .ref a0), (1, .int n0)]) hx hb dX12_sign_47 hl (k := 0) rfl (by decide +kernel) (by decide +kernel) rfl (fun ls hl => ?_)
  refine lv_goto (tgt := 20) hx hb dX12_sign_50 (by decide +kernel) ?_
  refine lv_iload_n hx hb dX12_sign_20 rfl (lv_at hl 0 rfl) ?_
  refine lv_if_lt (tgt := 53) hx hb dX12_sign_21 (by decide +kernel) (fun _ => ?_) (fun c => absurd (by decide +kernel) c)
  refine lv_aload_n hx hb dX12_sign_53 rfl (lv_at hl 1 rfl) ?_
  refine va_get (D := D) (ci := 12) (v := .int 4) (C := RX12) (T := TX12) (N := 72) hx hb hts (gt_c iG_X12) hown hK hP 0 rfl rfl 15 (by decide +kernel) w_1 (fun _ h9 => h9) rfl dX12_sign_54 ?_
  replace hP := hP.sub (ws' := [(a0, .inr (12, (.int 0 :: .ref a1 :: .ref a2 :: .ref a3 :: .ref a4 :: .ref a5 :: .ref a6 :: .ref a7 :: .int 0 :: .ref a8 :: .int 0 :: .ref a9 :: .ref a10 :: .int 1 :: .ref a11 :: .int 4 :: .ref a12 :: .int 0 :: .int 0 :: .null :: .int 0 :: .int 0 :: .int 0 :: .int 0 :: .ref a13 :: .ref a14 :: .ref a15 :: .int (-1) :: .int 0 :: .int 0 :: .int 0 :: .int 0 :: .int 0 :: .int 0 :: .int 0 :: .ref a16 :: .int 0 :: .ref a17 :: .int 0 :: .ref a18 :: .ref a19 :: .int 0 :: .int 0 :: .int 0 :: .int 0 :: .ref a20 :: .ref a21 :: .ref a22 :: .ref a23 :: .ref a24 :: .ref a25 :: .ref a26 :: .ref a27 :: .ref a28 :: .int 0 :: .ref a29 :: .ref a30 :: .ref a31 :: .long 0 :: .int 0 :: .int 0 :: .int 0 :: .long 0 :: .int 0 :: .ref a32 :: .int 0 :: .int 0 :: .int 0 :: .int 0 :: .ref a33 :: .ref a34 :: .ref a35 :: [])))]) [0] rfl
  replace hD := hD.sub (ws' := [(a0, .inr (12, (.int 0 :: .ref a1 :: .ref a2 :: .ref a3 :: .ref a4 :: .ref a5 :: .ref a6 :: .ref a7 :: .int 0 :: .ref a8 :: .int 0 :: .ref a9 :: .ref a10 :: .int 1 :: .ref a11 :: .int 4 :: .ref a12 :: .int 0 :: .int 0 :: .null :: .int 0 :: .int 0 :: .int 0 :: .int 0 :: .ref a13 :: .ref a14 :: .ref a15 :: .int (-1) :: .int 0 :: .int 0 :: .int 0 :: .int 0 :: .int 0 :: .int 0 :: .int 0 :: .ref a16 :: .int 0 :: .ref a17 :: .int 0 :: .ref a18 :: .ref a19 :: .int 0 :: .int 0 :: .int 0 :: .int 0 :: .ref a20 :: .ref a21 :: .ref a22 :: .ref a23 :: .ref a24 :: .ref a25 :: .ref a26 :: .ref a27 :: .ref a28 :: .int 0 :: .ref a29 :: .ref a30 :: .ref a31 :: .long 0 :: .int 0 :: .int 0 :: .int 0 :: .long 0 :: .int 0 :: .ref a32 :: .int 0 :: .int 0 :: .int 0 :: .int 0 :: .ref a33 :: .ref a34 :: .ref a35 :: [])))]) [0] (by decide +kernel) rfl
  refine W.widen (k := 0) (n := 0) (Nat.le_of_ble_eq_true rfl) (Nat.le_of_ble_eq_true rfl) ?_
  exact W.iret (v := 4) hx hb hr (fun t ht hW => ⟨⟨4, (fun _ => 0), rfl, rfl, by rw [ht]; exact hP, va_K.moved hW.alike hK, hD⟩, hS.F ht⟩) hS.2.2 dX12_sign_57 hlocks
set_option maxRecDepth 100000 in
set_option maxHeartbeats 4000000 in
theorem cX8_cut_1 (l : Launch) (D : va_G) (y : Nat → ClassId) (a0 : Nat) (n0 : Int32) (hn0h : n0 ≤ (-1)) (a1 : Nat) (sz : Nat) : Met l yX8_cut wsX8_cut { frames := 2, cells := 0, slots := 0, locals := 200 } (nPc D y nT [.ref a0, .int n0] [(a0, .inr (8, [.ref a1, .int 0]))] sz) ((fun A => nQi D y (fun r _ => r = 0) (fun u => [(a0, .inr (8, [.ref a1, .int 0]))]) A) (va_A [(a0, .inr (8, [.ref a1, .int 0]))] sz)) 0 0 (va_A [(a0, .inr (8, [.ref a1, .int 0]))] sz) := by
  refine nm_ofW (D := D) (y := y) (E := nT) (yy := yX8_cut) (wsy := wsX8_cut) (rm := { frames := 2, cells := 0, slots := 0, locals := 200 }) (as := [.ref a0, .int n0]) (ws := [(a0, .inr (8, [.ref a1, .int 0]))]) (sz := sz) (mc := 0) (ms := 0) (Qc := fun A => nQi D y (fun r _ => r = 0) (fun u => [(a0, .inr (8, [.ref a1, .int 0]))]) A) (cc := cX8_cut) (maxL := 2) (ret := (some .boolean)) (by decide +kernel) rfl (Nat.le_of_ble_eq_true rfl) ?_
  intro p e s m below meth c A ls H hx hb hr hml hts hown hlocks hnm hsz hP hK hD hA hS hE hAe hl
  replace hl : lv_has ls 2 [(0, .ref a0), (1, .int n0)] := hl
  have hown : s.vm.findClass RX8 = some m.cls := hown
  refine lv_iload_n hx hb dX8_cut_0 rfl (lv_at hl 1 rfl) ?_
  refine lv_if_lt (tgt := 12) hx hb dX8_cut_1 (by decide +kernel) (fun _ => ?_) (fun c => absurd (q_lt hn0h (by decide +kernel)) c)
  refine lv_iconst (v := 0) hx hb dX8_cut_12 (by decide +kernel) ?_
  refine W.widen (k := 0) (n := 0) (Nat.le_of_ble_eq_true rfl) (Nat.le_of_ble_eq_true rfl) ?_
  exact W.zret (v := 0) hx hb hr (by decide +kernel) (fun t ht hW => ⟨⟨0, (fun _ => 0), rfl, rfl, by rw [ht]; exact hP, va_K.moved hW.alike hK, hD⟩, hS.F ht⟩) hS.2.2 dX8_cut_13 hlocks
set_option maxRecDepth 100000 in
set_option maxHeartbeats 4000000 in
theorem cX11_end_1 (l : Launch) (D : va_G) (y : Nat → ClassId) (a0 : Nat) (n0 : Int32) (hn0h : n0 ≤ (-1)) (a1 : Nat) (a2 : Nat) (a3 : Nat) (a4 : Nat) (a5 : Nat) (a6 : Nat) (a7 : Nat) (a8 : Nat) (a9 : Nat) (a10 : Nat) (a11 : Nat) (a12 : Nat) (a13 : Nat) (a14 : Nat) (a15 : Nat) (sz : Nat) : Met l yX11_end wsX11_end { frames := 3, cells := 0, slots := 0, locals := 221 } (nPc D y nT [.ref a0, .int n0] [(a0, .inr (11, [.ref a1, .ref a2, .ref a3, .ref a4, .ref a5, .ref a6, .ref a7, .ref a8, .ref a9, .ref a10, .ref a11, .ref a12, .ref a13, .ref a14, .int 1, .null, .int 0])), (a1, .inr (8, [.ref a15, .int 0]))] sz) ((fun A => nQi D y (fun r _ => r = 0) (fun u => [(a0, .inr (11, [.ref a1, .ref a2, .ref a3, .ref a4, .ref a5, .ref a6, .ref a7, .ref a8, .ref a9, .ref a10, .ref a11, .ref a12, .ref a13, .ref a14, .int 1, .null, .int 0])), (a1, .inr (8, [.ref a15, .int 0]))]) A) (va_A [(a0, .inr (11, [.ref a1, .ref a2, .ref a3, .ref a4, .ref a5, .ref a6, .ref a7, .ref a8, .ref a9, .ref a10, .ref a11, .ref a12, .ref a13, .ref a14, .int 1, .null, .int 0])), (a1, .inr (8, [.ref a15, .int 0]))] sz)) 0 0 (va_A [(a0, .inr (11, [.ref a1, .ref a2, .ref a3, .ref a4, .ref a5, .ref a6, .ref a7, .ref a8, .ref a9, .ref a10, .ref a11, .ref a12, .ref a13, .ref a14, .int 1, .null, .int 0])), (a1, .inr (8, [.ref a15, .int 0]))] sz) := by
  refine nm_ofW (D := D) (y := y) (E := nT) (yy := yX11_end) (wsy := wsX11_end) (rm := { frames := 3, cells := 0, slots := 0, locals := 221 }) (as := [.ref a0, .int n0]) (ws := [(a0, .inr (11, [.ref a1, .ref a2, .ref a3, .ref a4, .ref a5, .ref a6, .ref a7, .ref a8, .ref a9, .ref a10, .ref a11, .ref a12, .ref a13, .ref a14, .int 1, .null, .int 0])), (a1, .inr (8, [.ref a15, .int 0]))]) (sz := sz) (mc := 0) (ms := 0) (Qc := fun A => nQi D y (fun r _ => r = 0) (fun u => [(a0, .inr (11, [.ref a1, .ref a2, .ref a3, .ref a4, .ref a5, .ref a6, .ref a7, .ref a8, .ref a9, .ref a10, .ref a11, .ref a12, .ref a13, .ref a14, .int 1, .null, .int 0])), (a1, .inr (8, [.ref a15, .int 0]))]) A) (cc := cX11_end) (maxL := 2) (ret := (some .boolean)) (by decide +kernel) rfl (Nat.le_of_ble_eq_true rfl) ?_
  intro p e s m below meth c A ls H hx hb hr hml hts hown hlocks hnm hsz hP hK hD hA hS hE hAe hl
  replace hl : lv_has ls 2 [(0, .ref a0), (1, .int n0)] := hl
  have hown : s.vm.findClass RX11 = some m.cls := hown
  have w_0 := hts (.fieldLink RX11 10 "SoldToBehind" "text" "LSoldToBehind$Text;") (gt_k wd_2_98)
  refine lv_aload_n hx hb dX11_end_0 rfl (lv_at hl 0 rfl) ?_
  refine va_get (D := D) (ci := 11) (v := .ref a1) (C := RX11) (T := TX11) (N := 17) hx hb hts (gt_c iG_X11) hown hK hP 0 rfl rfl 0 (by decide +kernel) w_0 (fun _ h9 => h9) rfl dX11_end_1 ?_
  refine lv_iload_n hx hb dX11_end_4 rfl (lv_at hl 1 rfl) ?_
  refine nj_i (ws := [(a0, .inr (11, [.ref a1, .ref a2, .ref a3, .ref a4, .ref a5, .ref a6, .ref a7, .ref a8, .ref a9, .ref a10, .ref a11, .ref a12, .ref a13, .ref a14, .int 1, .null, .int 0])), (a1, .inr (8, [.ref a15, .int 0]))]) (wc := [(a1, .inr (8, [.ref a15, .int 0]))]) (wr := [(a0, .inr (11, [.ref a1, .ref a2, .ref a3, .ref a4, .ref a5, .ref a6, .ref a7, .ref a8, .ref a9, .ref a10, .ref a11, .ref a12, .ref a13, .ref a14, .int 1, .null, .int 0]))]) (nr_V (As := [.int n0]) (rest := []) ⟨hx, hb, hml, hown, hts⟩ (cX8_cut_1 l D y a1 n0 hn0h a15 H.size) (cwV 1 hts gX11_end_X8_cut rfl rfl rfl (by decide +kernel) ⟨Nat.le_of_ble_eq_true rfl, Nat.le_of_ble_eq_true rfl⟩) hK hP hD hE [1] rfl (by decide +kernel) 0 8 rfl rfl rfl rfl rfl hl.1 rfl (lv_room (Nat.le_of_ble_eq_true rfl)) dX11_end_5 ⟨Nat.le_of_ble_eq_true rfl, Nat.le_of_ble_eq_true rfl⟩) hP hD hS hA [1] [0] rfl rfl (by decide +kernel) (by decide +kernel) (fun r2 u1 H locs er2 hP hD hS => ?_)
  subst er2
  refine W.widen (k := 0) (n := 0) (Nat.le_of_ble_eq_true rfl) (Nat.le_of_ble_eq_true rfl) ?_
  exact W.zret (v := 0) hx hb hr (by decide +kernel) (fun t ht hW => ⟨⟨0, (fun _ => 0), rfl, rfl, by rw [ht]; exact hP, va_K.moved hW.alike hK, hD⟩, hS.F ht⟩) hS.2.2 dX11_end_8 hlocks
set_option maxRecDepth 100000 in
set_option maxHeartbeats 4000000 in
theorem cX8_cut_2 (l : Launch) (D : va_G) (y : Nat → ClassId) (a0 : Nat) (a1 : Nat) (sz : Nat) : Met l yX8_cut wsX8_cut { frames := 2, cells := 0, slots := 0, locals := 200 } (nPc D y nT [.ref a0, .int 0] [(a0, .inr (8, [.ref a1, .int 0]))] sz) ((fun A => nQi D y (fun r _ => r = 1) (fun u => [(a0, .inr (8, [.ref a1, .int 0]))]) A) (va_A [(a0, .inr (8, [.ref a1, .int 0]))] sz)) 0 0 (va_A [(a0, .inr (8, [.ref a1, .int 0]))] sz) := by
  refine nm_ofW (D := D) (y := y) (E := nT) (yy := yX8_cut) (wsy := wsX8_cut) (rm := { frames := 2, cells := 0, slots := 0, locals := 200 }) (as := [.ref a0, .int 0]) (ws := [(a0, .inr (8, [.ref a1, .int 0]))]) (sz := sz) (mc := 0) (ms := 0) (Qc := fun A => nQi D y (fun r _ => r = 1) (fun u => [(a0, .inr (8, [.ref a1, .int 0]))]) A) (cc := cX8_cut) (maxL := 2) (ret := (some .boolean)) (by decide +kernel) rfl (Nat.le_of_ble_eq_true rfl) ?_
  intro p e s m below meth c A ls H hx hb hr hml hts hown hlocks hnm hsz hP hK hD hA hS hE hAe hl
  replace hl : lv_has ls 2 [(0, .ref a0), (1, .int 0)] := hl
  have hown : s.vm.findClass RX8 = some m.cls := hown
  have w_0 := hts (.fieldLink RX8 15 "SoldToBehind$Text" "size" "I") (gt_k wd_1_44)
  refine lv_iload_n hx hb dX8_cut_0 rfl (lv_at hl 1 rfl) ?_
  refine lv_if_lt (tgt := 12) hx hb dX8_cut_1 (by decide +kernel) (fun c => absurd c (by decide +kernel)) (fun _ => ?_)
  refine lv_iload_n hx hb dX8_cut_4 rfl (lv_at hl 1 rfl) ?_
  refine lv_aload_n hx hb dX8_cut_5 rfl (lv_at hl 0 rfl) ?_
  refine va_get (D := D) (ci := 8) (v := .int 0) (C := RX8) (T := TX8) (N := 2) hx hb hts (gt_c iG_X8) hown hK hP 0 rfl rfl 1 (by decide +kernel) w_0 (fun _ h9 => h9) rfl dX8_cut_6 ?_
  refine lv_icmp_le (tgt := 14) hx hb dX8_cut_9 (by decide +kernel) (fun _ => ?_) (fun c => absurd (by decide +kernel) c)
  refine lv_aload_n hx hb dX8_cut_14 rfl (lv_at hl 0 rfl) ?_
  refine lv_iload_n hx hb dX8_cut_15 rfl (lv_at hl 1 rfl) ?_
  refine nb_put (D := D) (ci := 8) (v := .int 0) (ty := .int) (C := RX8) (T := TX8) (N := 2) (ws' := [(a0, .inr (8, [.ref a1, .int 0]))]) hx hb hts (gt_c iG_X8) tyX8 tyX8_ok nmX8 hown hK hP hD hS 0 rfl rfl 1 (by decide +kernel) w_0 (fun _ h9 => h9) rfl (by decide +kernel) rfl rfl (Nat.le_of_ble_eq_true rfl) rfl dX8_cut_16 (fun H locs hP hD hS => ?_)
  refine lv_iconst (v := 1) hx hb dX8_cut_19 (by decide +kernel) ?_
  refine W.widen (k := 0) (n := 0) (Nat.le_of_ble_eq_true rfl) (Nat.le_of_ble_eq_true rfl) ?_
  exact W.zret (v := 1) hx hb hr (by decide +kernel) (fun t ht hW => ⟨⟨1, (fun _ => 0), rfl, rfl, by rw [ht]; exact hP, va_K.moved hW.alike hK, hD⟩, hS.F ht⟩) hS.2.2 dX8_cut_20 hlocks
set_option maxRecDepth 100000 in
set_option maxHeartbeats 4000000 in
theorem cX11_end_2 (l : Launch) (D : va_G) (y : Nat → ClassId) (a0 : Nat) (a1 : Nat) (a2 : Nat) (a3 : Nat) (a4 : Nat) (a5 : Nat) (a6 : Nat) (a7 : Nat) (a8 : Nat) (a9 : Nat) (a10 : Nat) (a11 : Nat) (a12 : Nat) (a13 : Nat) (a14 : Nat) (a15 : Nat) (sz : Nat) : Met l yX11_end wsX11_end { frames := 3, cells := 0, slots := 0, locals := 221 } (nPc D y nT [.ref a0, .int 0] [(a0, .inr (11, [.ref a1, .ref a2, .ref a3, .ref a4, .ref a5, .ref a6, .ref a7, .ref a8, .ref a9, .ref a10, .ref a11, .ref a12, .ref a13, .ref a14, .int 1, .null, .int 0])), (a1, .inr (8, [.ref a15, .int 0]))] sz) ((fun A => nQi D y (fun r _ => r = 1) (fun u => [(a0, .inr (11, [.ref a1, .ref a2, .ref a3, .ref a4, .ref a5, .ref a6, .ref a7, .ref a8, .ref a9, .ref a10, .ref a11, .ref a12, .ref a13, .ref a14, .int 1, .null, .int 0])), (a1, .inr (8, [.ref a15, .int 0]))]) A) (va_A [(a0, .inr (11, [.ref a1, .ref a2, .ref a3, .ref a4, .ref a5, .ref a6, .ref a7, .ref a8, .ref a9, .ref a10, .ref a11, .ref a12, .ref a13, .ref a14, .int 1, .null, .int 0])), (a1, .inr (8, [.ref a15, .int 0]))] sz)) 0 0 (va_A [(a0, .inr (11, [.ref a1, .ref a2, .ref a3, .ref a4, .ref a5, .ref a6, .ref a7, .ref a8, .ref a9, .ref a10, .ref a11, .ref a12, .ref a13, .ref a14, .int 1, .null, .int 0])), (a1, .inr (8, [.ref a15, .int 0]))] sz) := by
  refine nm_ofW (D := D) (y := y) (E := nT) (yy := yX11_end) (wsy := wsX11_end) (rm := { frames := 3, cells := 0, slots := 0, locals := 221 }) (as := [.ref a0, .int 0]) (ws := [(a0, .inr (11, [.ref a1, .ref a2, .ref a3, .ref a4, .ref a5, .ref a6, .ref a7, .ref a8, .ref a9, .ref a10, .ref a11, .ref a12, .ref a13, .ref a14, .int 1, .null, .int 0])), (a1, .inr (8, [.ref a15, .int 0]))]) (sz := sz) (mc := 0) (ms := 0) (Qc := fun A => nQi D y (fun r _ => r = 1) (fun u => [(a0, .inr (11, [.ref a1, .ref a2, .ref a3, .ref a4, .ref a5, .ref a6, .ref a7, .ref a8, .ref a9, .ref a10, .ref a11, .ref a12, .ref a13, .ref a14, .int 1, .null, .int 0])), (a1, .inr (8, [.ref a15, .int 0]))]) A) (cc := cX11_end) (maxL := 2) (ret := (some .boolean)) (by decide +kernel) rfl (Nat.le_of_ble_eq_true rfl) ?_
  intro p e s m below meth c A ls H hx hb hr hml hts hown hlocks hnm hsz hP hK hD hA hS hE hAe hl
  replace hl : lv_has ls 2 [(0, .ref a0), (1, .int 0)] := hl
  have hown : s.vm.findClass RX11 = some m.cls := hown
  have w_0 := hts (.fieldLink RX11 10 "SoldToBehind" "text" "LSoldToBehind$Text;") (gt_k wd_2_98)
  refine lv_aload_n hx hb dX11_end_0 rfl (lv_at hl 0 rfl) ?_
  refine va_get (D := D) (ci := 11) (v := .ref a1) (C := RX11) (T := TX11) (N := 17) hx hb hts (gt_c iG_X11) hown hK hP 0 rfl rfl 0 (by decide +kernel) w_0 (fun _ h9 => h9) rfl dX11_end_1 ?_
  refine lv_iload_n hx hb dX11_end_4 rfl (lv_at hl 1 rfl) ?_
  refine nj_i (ws := [(a0, .inr (11, [.ref a1, .ref a2, .ref a3, .ref a4, .ref a5, .ref a6, .ref a7, .ref a8, .ref a9, .ref a10, .ref a11, .ref a12, .ref a13, .ref a14, .int 1, .null, .int 0])), (a1, .inr (8, [.ref a15, .int 0]))]) (wc := [(a1, .inr (8, [.ref a15, .int 0]))]) (wr := [(a0, .inr (11, [.ref a1, .ref a2, .ref a3, .ref a4, .ref a5, .ref a6, .ref a7, .ref a8, .ref a9, .ref a10, .ref a11, .ref a12, .ref a13, .ref a14, .int 1, .null, .int 0]))]) (nr_V (As := [.int 0]) (rest := []) ⟨hx, hb, hml, hown, hts⟩ (cX8_cut_2 l D y a1 a15 H.size) (cwV 1 hts gX11_end_X8_cut rfl rfl rfl (by decide +kernel) ⟨Nat.le_of_ble_eq_true rfl, Nat.le_of_ble_eq_true rfl⟩) hK hP hD hE [1] rfl (by decide +kernel) 0 8 rfl rfl rfl rfl rfl hl.1 rfl (lv_room (Nat.le_of_ble_eq_true rfl)) dX11_end_5 ⟨Nat.le_of_ble_eq_true rfl, Nat.le_of_ble_eq_true rfl⟩) hP hD hS hA [1] [0] rfl rfl (by decide +kernel) (by decide +kernel) (fun r2 u1 H locs er2 hP hD hS => ?_)
  subst er2
  refine W.widen (k := 0) (n := 0) (Nat.le_of_ble_eq_true rfl) (Nat.le_of_ble_eq_true rfl) ?_
  exact W.zret (v := 1) hx hb hr (by decide +kernel) (fun t ht hW => ⟨⟨1, (fun _ => 0), rfl, rfl, by rw [ht]; exact hP, va_K.moved hW.alike hK, hD⟩, hS.F ht⟩) hS.2.2 dX11_end_8 hlocks
set_option maxRecDepth 100000 in
set_option maxHeartbeats 4000000 in
theorem cX8_cut_3 (l : Launch) (D : va_G) (y : Nat → ClassId) (a0 : Nat) (n0 : Int32) (hn0l : 1 ≤ n0) (a1 : Nat) (sz : Nat) : Met l yX8_cut wsX8_cut { frames := 2, cells := 0, slots := 0, locals := 200 } (nPc D y nT [.ref a0, .int n0] [(a0, .inr (8, [.ref a1, .int 0]))] sz) ((fun A => nQi D y (fun r _ => r = 0) (fun u => [(a0, .inr (8, [.ref a1, .int 0]))]) A) (va_A [(a0, .inr (8, [.ref a1, .int 0]))] sz)) 0 0 (va_A [(a0, .inr (8, [.ref a1, .int 0]))] sz) := by
  refine nm_ofW (D := D) (y := y) (E := nT) (yy := yX8_cut) (wsy := wsX8_cut) (rm := { frames := 2, cells := 0, slots := 0, locals := 200 }) (as := [.ref a0, .int n0]) (ws := [(a0, .inr (8, [.ref a1, .int 0]))]) (sz := sz) (mc := 0) (ms := 0) (Qc := fun A => nQi D y (fun r _ => r = 0) (fun u => [(a0, .inr (8, [.ref a1, .int 0]))]) A) (cc := cX8_cut) (maxL := 2) (ret := (some .boolean)) (by decide +kernel) rfl (Nat.le_of_ble_eq_true rfl) ?_
  intro p e s m below meth c A ls H hx hb hr hml hts hown hlocks hnm hsz hP hK hD hA hS hE hAe hl
  replace hl : lv_has ls 2 [(0, .ref a0), (1, .int n0)] := hl
  have hown : s.vm.findClass RX8 = some m.cls := hown
  have w_0 := hts (.fieldLink RX8 15 "SoldToBehind$Text" "size" "I") (gt_k wd_1_44)
  refine lv_iload_n hx hb dX8_cut_0 rfl (lv_at hl 1 rfl) ?_
  refine lv_if_lt (tgt := 12) hx hb dX8_cut_1 (by decide +kernel) (fun c => absurd c (q_nlt hn0l (by decide +kernel))) (fun _ => ?_)
  refine lv_iload_n hx hb dX8_cut_4 rfl (lv_at hl 1 rfl) ?_
  refine lv_aload_n hx hb dX8_cut_5 rfl (lv_at hl 0 rfl) ?_
  refine va_get (D := D) (ci := 8) (v := .int 0) (C := RX8) (T := TX8) (N := 2) hx hb hts (gt_c iG_X8) hown hK hP 0 rfl rfl 1 (by decide +kernel) w_0 (fun _ h9 => h9) rfl dX8_cut_6 ?_
  refine lv_icmp_le (tgt := 14) hx hb dX8_cut_9 (by decide +kernel) (fun c => absurd c (q_nle hn0l (by decide +kernel))) (fun _ => ?_)
  refine lv_iconst (v := 0) hx hb dX8_cut_12 (by decide +kernel) ?_
  refine W.widen (k := 0) (n := 0) (Nat.le_of_ble_eq_true rfl) (Nat.le_of_ble_eq_true rfl) ?_
  exact W.zret (v := 0) hx hb hr (by decide +kernel) (fun t ht hW => ⟨⟨0, (fun _ => 0), rfl, rfl, by rw [ht]; exact hP, va_K.moved hW.alike hK, hD⟩, hS.F ht⟩) hS.2.2 dX8_cut_13 hlocks
set_option maxRecDepth 100000 in
set_option maxHeartbeats 4000000 in
theorem cX11_end_3 (l : Launch) (D : va_G) (y : Nat → ClassId) (a0 : Nat) (n0 : Int32) (hn0l : 1 ≤ n0) (a1 : Nat) (a2 : Nat) (a3 : Nat) (a4 : Nat) (a5 : Nat) (a6 : Nat) (a7 : Nat) (a8 : Nat) (a9 : Nat) (a10 : Nat) (a11 : Nat) (a12 : Nat) (a13 : Nat) (a14 : Nat) (a15 : Nat) (sz : Nat) : Met l yX11_end wsX11_end { frames := 3, cells := 0, slots := 0, locals := 221 } (nPc D y nT [.ref a0, .int n0] [(a0, .inr (11, [.ref a1, .ref a2, .ref a3, .ref a4, .ref a5, .ref a6, .ref a7, .ref a8, .ref a9, .ref a10, .ref a11, .ref a12, .ref a13, .ref a14, .int 1, .null, .int 0])), (a1, .inr (8, [.ref a15, .int 0]))] sz) ((fun A => nQi D y (fun r _ => r = 0) (fun u => [(a0, .inr (11, [.ref a1, .ref a2, .ref a3, .ref a4, .ref a5, .ref a6, .ref a7, .ref a8, .ref a9, .ref a10, .ref a11, .ref a12, .ref a13, .ref a14, .int 1, .null, .int 0])), (a1, .inr (8, [.ref a15, .int 0]))]) A) (va_A [(a0, .inr (11, [.ref a1, .ref a2, .ref a3, .ref a4, .ref a5, .ref a6, .ref a7, .ref a8, .ref a9, .ref a10, .ref a11, .ref a12, .ref a13, .ref a14, .int 1, .null, .int 0])), (a1, .inr (8, [.ref a15, .int 0]))] sz)) 0 0 (va_A [(a0, .inr (11, [.ref a1, .ref a2, .ref a3, .ref a4, .ref a5, .ref a6, .ref a7, .ref a8, .ref a9, .ref a10, .ref a11, .ref a12, .ref a13, .ref a14, .int 1, .null, .int 0])), (a1, .inr (8, [.ref a15, .int 0]))] sz) := by
  refine nm_ofW (D := D) (y := y) (E := nT) (yy := yX11_end) (wsy := wsX11_end) (rm := { frames := 3, cells := 0, slots := 0, locals := 221 }) (as := [.ref a0, .int n0]) (ws := [(a0, .inr (11, [.ref a1, .ref a2, .ref a3, .ref a4, .ref a5, .ref a6, .ref a7, .ref a8, .ref a9, .ref a10, .ref a11, .ref a12, .ref a13, .ref a14, .int 1, .null, .int 0])), (a1, .inr (8, [.ref a15, .int 0]))]) (sz := sz) (mc := 0) (ms := 0) (Qc := fun A => nQi D y (fun r _ => r = 0) (fun u => [(a0, .inr (11, [.ref a1, .ref a2, .ref a3, .ref a4, .ref a5, .ref a6, .ref a7, .ref a8, .ref a9, .ref a10, .ref a11, .ref a12, .ref a13, .ref a14, .int 1, .null, .int 0])), (a1, .inr (8, [.ref a15, .int 0]))]) A) (cc := cX11_end) (maxL := 2) (ret := (some .boolean)) (by decide +kernel) rfl (Nat.le_of_ble_eq_true rfl) ?_
  intro p e s m below meth c A ls H hx hb hr hml hts hown hlocks hnm hsz hP hK hD hA hS hE hAe hl
  replace hl : lv_has ls 2 [(0, .ref a0), (1, .int n0)] := hl
  have hown : s.vm.findClass RX11 = some m.cls := hown
  have w_0 := hts (.fieldLink RX11 10 "SoldToBehind" "text" "LSoldToBehind$Text;") (gt_k wd_2_98)
  refine lv_aload_n hx hb dX11_end_0 rfl (lv_at hl 0 rfl) ?_
  refine va_get (D := D) (ci := 11) (v := .ref a1) (C := RX11) (T := TX11) (N := 17) hx hb hts (gt_c iG_X11) hown hK hP 0 rfl rfl 0 (by decide +kernel) w_0 (fun _ h9 => h9) rfl dX11_end_1 ?_
  refine lv_iload_n hx hb dX11_end_4 rfl (lv_at hl 1 rfl) ?_
  refine nj_i (ws := [(a0, .inr (11, [.ref a1, .ref a2, .ref a3, .ref a4, .ref a5, .ref a6, .ref a7, .ref a8, .ref a9, .ref a10, .ref a11, .ref a12, .ref a13, .ref a14, .int 1, .null, .int 0])), (a1, .inr (8, [.ref a15, .int 0]))]) (wc := [(a1, .inr (8, [.ref a15, .int 0]))]) (wr := [(a0, .inr (11, [.ref a1, .ref a2, .ref a3, .ref a4, .ref a5, .ref a6, .ref a7, .ref a8, .ref a9, .ref a10, .ref a11, .ref a12, .ref a13, .ref a14, .int 1, .null, .int 0]))]) (nr_V (As := [.int n0]) (rest := []) ⟨hx, hb, hml, hown, hts⟩ (cX8_cut_3 l D y a1 n0 hn0l a15 H.size) (cwV 1 hts gX11_end_X8_cut rfl rfl rfl (by decide +kernel) ⟨Nat.le_of_ble_eq_true rfl, Nat.le_of_ble_eq_true rfl⟩) hK hP hD hE [1] rfl (by decide +kernel) 0 8 rfl rfl rfl rfl rfl hl.1 rfl (lv_room (Nat.le_of_ble_eq_true rfl)) dX11_end_5 ⟨Nat.le_of_ble_eq_true rfl, Nat.le_of_ble_eq_true rfl⟩) hP hD hS hA [1] [0] rfl rfl (by decide +kernel) (by decide +kernel) (fun r2 u1 H locs er2 hP hD hS => ?_)
  subst er2
  refine W.widen (k := 0) (n := 0) (Nat.le_of_ble_eq_true rfl) (Nat.le_of_ble_eq_true rfl) ?_
  exact W.zret (v := 0) hx hb hr (by decide +kernel) (fun t ht hW => ⟨⟨0, (fun _ => 0), rfl, rfl, by rw [ht]; exact hP, va_K.moved hW.alike hK, hD⟩, hS.F ht⟩) hS.2.2 dX11_end_8 hlocks
set_option maxRecDepth 100000 in
set_option maxHeartbeats 4000000 in
theorem cX12_in_1 (l : Launch) (D : va_G) (y : Nat → ClassId) (n0 : Int64) (hn0h : n0 ≤ (-1)) (sz : Nat) : Met l yX12_in wsX12_in { frames := 2, cells := 0, slots := 0, locals := 200 } (nPc D y nT [.long n0, .long 0, .long 0] [] sz) ((fun A => nQi D y (fun r _ => r = 0) (fun u => []) A) (va_A [] sz)) 0 0 (va_A [] sz) := by
  refine nm_ofW (D := D) (y := y) (E := nT) (yy := yX12_in) (wsy := wsX12_in) (rm := { frames := 2, cells := 0, slots := 0, locals := 200 }) (as := [.long n0, .long 0, .long 0]) (ws := []) (sz := sz) (mc := 0) (ms := 0) (Qc := fun A => nQi D y (fun r _ => r = 0) (fun u => []) A) (cc := cX12_in) (maxL := 6) (ret := (some .boolean)) (by decide +kernel) rfl (Nat.le_of_ble_eq_true rfl) ?_
  intro p e s m below meth c A ls H hx hb hr hml hts hown hlocks hnm hsz hP hK hD hA hS hE hAe hl
  replace hl : lv_has ls 6 [(0, .long n0), (2, .long 0), (4, .long 0)] := hl
  have hown : s.vm.findClass RX12 = some m.cls := hown
  refine lv_lload_n hx hb dX12_in_0 rfl (lv_at hl 0 rfl) ?_
  refine lv_lload_n hx hb dX12_in_1 rfl (lv_at hl 1 rfl) ?_
  refine W.lcmp hx hb dX12_in_2 ?_
  refine lv_if_lt (tgt := 17) hx hb dX12_in_3 (by decide +kernel) (fun _ => ?_) (fun c => absurd ((lg_cmp_lt _ _).mpr (q_ltL hn0h (by decide +kernel))) c)
  refine lv_iconst (v := 0) hx hb dX12_in_17 (by decide +kernel) ?_
  refine W.widen (k := 0) (n := 0) (Nat.le_of_ble_eq_true rfl) (Nat.le_of_ble_eq_true rfl) ?_
  exact W.zret (v := 0) hx hb hr (by decide +kernel) (fun t ht hW => ⟨⟨0, (fun _ => 0), rfl, rfl, by rw [ht]; exact hP, va_K.moved hW.alike hK, hD⟩, hS.F ht⟩) hS.2.2 dX12_in_18 hlocks
