theorem wd_5_82 : (Cond.methodLink RX4 97 yX7_isSold) ∈ gT := gt_m5 82 (by decide +kernel) (by decide +kernel)
theorem wd_5_81 : (Cond.methodLink RX4 94 yX7_total) ∈ gT := gt_m5 81 (by decide +kernel) (by decide +kernel)
theorem wd_5_60 : (Cond.methodLink RX4 71 yJ7_fill_53178) ∈ gT := gt_m5 60 (by decide +kernel) (by decide +kernel)
theorem wd_5_61 : (Cond.methodLink RX4 77 yX2_put) ∈ gT := gt_m5 61 (by decide +kernel) (by decide +kernel)
theorem wd_4_60 : (Cond.instanceMethod yX2_put) ∈ gT := gt_m4 60 (by decide +kernel) (by decide +kernel)
theorem wd_4_61 : (Cond.selects RX2 yX2_put yX2_put) ∈ gT := gt_m4 61 (by decide +kernel) (by decide +kernel)
theorem wd_4_62 : (Cond.code yX2_put cX2_put 4 none) ∈ gT := gt_m4 62 (by decide +kernel) (by decide +kernel)
theorem wd_5_75 : (Cond.methodLink RX4 85 yX2_take) ∈ gT := gt_m5 75 (by decide +kernel) (by decide +kernel)
theorem wd_4_99 : (Cond.instanceMethod yX2_take) ∈ gT := gt_m4 99 (by decide +kernel) (by decide +kernel)
theorem wd_4_100 : (Cond.selects RX2 yX2_take yX2_take) ∈ gT := gt_m4 100 (by decide +kernel) (by decide +kernel)
theorem wd_4_101 : (Cond.code yX2_take cX2_take 5 none) ∈ gT := gt_m4 101 (by decide +kernel) (by decide +kernel)
theorem wd_5_77 : (Cond.methodLink RX4 91 yX4_expand) ∈ gT := gt_m5 77 (by decide +kernel) (by decide +kernel)
theorem wd_5_79 : (Cond.instanceMethod yX4_expand) ∈ gT := gt_m5 79 (by decide +kernel) (by decide +kernel)
theorem wd_0_36 : (Cond.selects RX4 yX4_expand yX4_expand) ∈ gT := gt_m0 36 (by decide +kernel) (by decide +kernel)
theorem wd_1_26 : (Cond.initialized RX4) ∈ gT := gt_m1 26 (by decide +kernel) (by decide +kernel)
theorem wd_5_80 : (Cond.code yX4_expand cX4_expand 4 none) ∈ gT := gt_m5 80 (by decide +kernel) (by decide +kernel)
theorem wd_5_62 : (Cond.methodLink RX4 81 yX4_indexOf) ∈ gT := gt_m5 62 (by decide +kernel) (by decide +kernel)
theorem wd_5_64 : (Cond.instanceMethod yX4_indexOf) ∈ gT := gt_m5 64 (by decide +kernel) (by decide +kernel)
theorem wd_0_35 : (Cond.selects RX4 yX4_indexOf yX4_indexOf) ∈ gT := gt_m0 35 (by decide +kernel) (by decide +kernel)
theorem wd_5_65 : (Cond.code yX4_indexOf cX4_indexOf 4 (some .int)) ∈ gT := gt_m5 65 (by decide +kernel) (by decide +kernel)
theorem wd_5_59 : (Cond.methodLink RX4 67 yX7_copy) ∈ gT := gt_m5 59 (by decide +kernel) (by decide +kernel)
theorem wd_5_76 : (Cond.methodLink RX4 88 yX7_weighAll) ∈ gT := gt_m5 76 (by decide +kernel) (by decide +kernel)
theorem wd_5_55 : (Cond.methodLink RX11 336 yX4_explore) ∈ gT := gt_m5 55 (by decide +kernel) (by decide +kernel)
theorem wd_5_56 : (Cond.instanceMethod yX4_explore) ∈ gT := gt_m5 56 (by decide +kernel) (by decide +kernel)
theorem wd_5_57 : (Cond.selects RX4 yX4_explore yX4_explore) ∈ gT := gt_m5 57 (by decide +kernel) (by decide +kernel)
theorem wd_5_58 : (Cond.code yX4_explore cX4_explore 3 none) ∈ gT := gt_m5 58 (by decide +kernel) (by decide +kernel)
theorem wd_5_3 : (Cond.code yX4_init cX4_init 2 none) ∈ gT := gt_m5 3 (by decide +kernel) (by decide +kernel)
theorem wd_5_107 : (Cond.methodLink RX4 152 yX2_hashOfCode) ∈ gT := gt_m5 107 (by decide +kernel) (by decide +kernel)
theorem wd_5_108 : (Cond.instanceMethod yX2_hashOfCode) ∈ gT := gt_m5 108 (by decide +kernel) (by decide +kernel)
theorem wd_5_109 : (Cond.selects RX2 yX2_hashOfCode yX2_hashOfCode) ∈ gT := gt_m5 109 (by decide +kernel) (by decide +kernel)
theorem wd_5_110 : (Cond.code yX2_hashOfCode cX2_hashOfCode 3 (some .int)) ∈ gT := gt_m5 110 (by decide +kernel) (by decide +kernel)
theorem wd_5_103 : (Cond.methodLink RX4 158 yX4_unlikeLines) ∈ gT := gt_m5 103 (by decide +kernel) (by decide +kernel)
theorem wd_5_105 : (Cond.instanceMethod yX4_unlikeLines) ∈ gT := gt_m5 105 (by decide +kernel) (by decide +kernel)
theorem wd_0_38 : (Cond.selects RX4 yX4_unlikeLines yX4_unlikeLines) ∈ gT := gt_m0 38 (by decide +kernel) (by decide +kernel)
theorem wd_5_106 : (Cond.code yX4_unlikeLines cX4_unlikeLines 5 (some .int)) ∈ gT := gt_m5 106 (by decide +kernel) (by decide +kernel)
theorem wd_5_112 : (Cond.methodLink RX4 167 yX5_add) ∈ gT := gt_m5 112 (by decide +kernel) (by decide +kernel)
theorem wd_5_111 : (Cond.methodLink RX4 161 yX5_tell_) ∈ gT := gt_m5 111 (by decide +kernel) (by decide +kernel)
theorem wd_2_113 : (Cond.fieldLink RX11 91 "SoldToBehind" "reach" "LSoldToBehind$Reach;") ∈ gT := gt_m2 113 (by decide +kernel) (by decide +kernel)
theorem wd_4_239 : (Cond.classLink RX11 333 RX4) ∈ gT := gt_m4 239 (by decide +kernel) (by decide +kernel)
theorem wd_5_0 : (Cond.instantiable RX4 13) ∈ gT := gt_m5 0 (by decide +kernel) (by decide +kernel)
theorem wd_5_1 : (Cond.methodLink RX11 335 yX4_init) ∈ gT := gt_m5 1 (by decide +kernel) (by decide +kernel)
theorem wd_5_2 : (Cond.instanceMethod yX4_init) ∈ gT := gt_m5 2 (by decide +kernel) (by decide +kernel)
theorem wd_5_18 : (Cond.fieldLink RX11 339 "SoldToBehind$Reach" "whole" "Z") ∈ gT := gt_m5 18 (by decide +kernel) (by decide +kernel)
theorem wd_5_102 : (Cond.methodLink RX4 155 Lib.Math.max.name) ∈ gT := gt_m5 102 (by decide +kernel) (by decide +kernel)
theorem wd_3_61 : (Cond.static Lib.Math.max.name) ∈ gT := gt_m3 61 (by decide +kernel) (by decide +kernel)
theorem wd_3_62 : (Cond.code Lib.Math.max.name Lib.Math.max.code 2 (some .int)) ∈ gT := gt_m3 62 (by decide +kernel) (by decide +kernel)
theorem wd_5_89 : (Cond.methodLink RX4 120 Lib.Math.min.name) ∈ gT := gt_m5 89 (by decide +kernel) (by decide +kernel)
theorem dX4_expand_0 : decode cX4_expand 0 = .ok (.aload_n 0, 1) := by decide +kernel
theorem dX4_expand_1 : decode cX4_expand 1 = .ok (.getfield 20, 3) := by decide +kernel
theorem dX4_expand_4 : decode cX4_expand 4 = .ok (.iload_n 1, 1) := by decide +kernel
theorem dX4_expand_5 : decode cX4_expand 5 = .ok (.aload_n 0, 1) := by decide +kernel
theorem dX4_expand_6 : decode cX4_expand 6 = .ok (.getfield 63, 3) := by decide +kernel
theorem dX4_expand_9 : decode cX4_expand 9 = .ok (.invokevirtual 94, 3) := by decide +kernel
theorem dX4_expand_12 : decode cX4_expand 12 = .ok (.iastore, 1) := by decide +kernel
theorem dX4_expand_13 : decode cX4_expand 13 = .ok (.aload_n 0, 1) := by decide +kernel
theorem dX4_expand_14 : decode cX4_expand 14 = .ok (.getfield 38, 3) := by decide +kernel
theorem dX4_expand_17 : decode cX4_expand 17 = .ok (.iload_n 1, 1) := by decide +kernel
theorem dX4_expand_18 : decode cX4_expand 18 = .ok (.iconst 1, 1) := by decide +kernel
theorem dX4_expand_19 : decode cX4_expand 19 = .ok (.bastore, 1) := by decide +kernel
theorem dX4_expand_20 : decode cX4_expand 20 = .ok (.iconst 1, 1) := by decide +kernel
theorem dX4_expand_21 : decode cX4_expand 21 = .ok (.istore_n 2, 1) := by decide +kernel
theorem dX4_expand_22 : decode cX4_expand 22 = .ok (.iload_n 2, 1) := by decide +kernel
theorem dX4_expand_23 : decode cX4_expand 23 = .ok (.bipush 8, 2) := by decide +kernel
theorem dX4_expand_25 : decode cX4_expand 25 = .ok (.if_icmp .gt 61, 3) := by decide +kernel
theorem dX4_expand_28 : decode cX4_expand 28 = .ok (.iconst (-1), 1) := by decide +kernel
theorem dX4_expand_29 : decode cX4_expand 29 = .ok (.istore_n 3, 1) := by decide +kernel
theorem dX4_expand_30 : decode cX4_expand 30 = .ok (.aload_n 0, 1) := by decide +kernel
theorem dX4_expand_31 : decode cX4_expand 31 = .ok (.getfield 63, 3) := by decide +kernel
theorem dX4_expand_34 : decode cX4_expand 34 = .ok (.iload_n 2, 1) := by decide +kernel
theorem dX4_expand_35 : decode cX4_expand 35 = .ok (.invokevirtual 97, 3) := by decide +kernel
theorem dX4_expand_38 : decode cX4_expand 38 = .ok (.ifCond .eq 28, 3) := by decide +kernel
theorem dX4_expand_66 : decode cX4_expand 66 = .ok (.aload_n 0, 1) := by decide +kernel
theorem dX4_expand_67 : decode cX4_expand 67 = .ok (.getfield 42, 3) := by decide +kernel
theorem dX4_expand_70 : decode cX4_expand 70 = .ok (.iload_n 1, 1) := by decide +kernel
theorem dX4_expand_71 : decode cX4_expand 71 = .ok (.bipush 8, 2) := by decide +kernel
theorem dX4_expand_73 : decode cX4_expand 73 = .ok (.imul, 1) := by decide +kernel
theorem dX4_expand_74 : decode cX4_expand 74 = .ok (.iload_n 2, 1) := by decide +kernel
theorem dX4_expand_75 : decode cX4_expand 75 = .ok (.iadd, 1) := by decide +kernel
theorem dX4_expand_76 : decode cX4_expand 76 = .ok (.iconst 1, 1) := by decide +kernel
theorem dX4_expand_77 : decode cX4_expand 77 = .ok (.isub, 1) := by decide +kernel
theorem dX4_expand_78 : decode cX4_expand 78 = .ok (.iload_n 3, 1) := by decide +kernel
theorem dX4_expand_79 : decode cX4_expand 79 = .ok (.iastore, 1) := by decide +kernel
theorem dX4_expand_80 : decode cX4_expand 80 = .ok (.iinc 2 1, 3) := by decide +kernel
theorem dX4_expand_83 : decode cX4_expand 83 = .ok (.goto (-61), 3) := by decide +kernel
theorem dX4_expand_86 : decode cX4_expand 86 = .ok (.return_, 1) := by decide +kernel
theorem dX4_explore_0 : decode cX4_explore 0 = .ok (.aload_n 0, 1) := by decide +kernel
theorem dX4_explore_1 : decode cX4_explore 1 = .ok (.getfield 63, 3) := by decide +kernel
theorem dX4_explore_4 : decode cX4_explore 4 = .ok (.aload_n 1, 1) := by decide +kernel
theorem dX4_explore_5 : decode cX4_explore 5 = .ok (.invokevirtual 67, 3) := by decide +kernel
theorem dX4_explore_8 : decode cX4_explore 8 = .ok (.aload_n 0, 1) := by decide +kernel
theorem dX4_explore_9 : decode cX4_explore 9 = .ok (.getfield 55, 3) := by decide +kernel
theorem dX4_explore_12 : decode cX4_explore 12 = .ok (.iconst 0, 1) := by decide +kernel
theorem dX4_explore_13 : decode cX4_explore 13 = .ok (.invokestatic 71, 3) := by decide +kernel
theorem dX4_explore_16 : decode cX4_explore 16 = .ok (.aload_n 0, 1) := by decide +kernel
theorem dX4_explore_17 : decode cX4_explore 17 = .ok (.getfield 16, 3) := by decide +kernel
theorem dX4_explore_20 : decode cX4_explore 20 = .ok (.iconst 0, 1) := by decide +kernel
theorem dX4_explore_21 : decode cX4_explore 21 = .ok (.aload_n 1, 1) := by decide +kernel
theorem dX4_explore_22 : decode cX4_explore 22 = .ok (.invokevirtual 77, 3) := by decide +kernel
theorem dX4_explore_25 : decode cX4_explore 25 = .ok (.aload_n 0, 1) := by decide +kernel
theorem dX4_explore_26 : decode cX4_explore 26 = .ok (.getfield 35, 3) := by decide +kernel
theorem dX4_explore_29 : decode cX4_explore 29 = .ok (.iconst 0, 1) := by decide +kernel
theorem dX4_explore_30 : decode cX4_explore 30 = .ok (.iconst 0, 1) := by decide +kernel
theorem dX4_explore_31 : decode cX4_explore 31 = .ok (.iastore, 1) := by decide +kernel
theorem dX4_explore_32 : decode cX4_explore 32 = .ok (.aload_n 0, 1) := by decide +kernel
theorem dX4_explore_33 : decode cX4_explore 33 = .ok (.iconst 0, 1) := by decide +kernel
theorem dX4_explore_34 : decode cX4_explore 34 = .ok (.putfield 27, 3) := by decide +kernel
theorem dX4_explore_37 : decode cX4_explore 37 = .ok (.aload_n 0, 1) := by decide +kernel
theorem dX4_explore_38 : decode cX4_explore 38 = .ok (.iconst 0, 1) := by decide +kernel
theorem dX4_explore_39 : decode cX4_explore 39 = .ok (.invokevirtual 81, 3) := by decide +kernel
theorem dX4_explore_42 : decode cX4_explore 42 = .ok (.pop, 1) := by decide +kernel
theorem dX4_explore_43 : decode cX4_explore 43 = .ok (.aload_n 0, 1) := by decide +kernel
theorem dX4_explore_44 : decode cX4_explore 44 = .ok (.iconst 1, 1) := by decide +kernel
theorem dX4_explore_45 : decode cX4_explore 45 = .ok (.putfield 31, 3) := by decide +kernel
theorem dX4_explore_48 : decode cX4_explore 48 = .ok (.iconst 0, 1) := by decide +kernel
theorem dX4_explore_49 : decode cX4_explore 49 = .ok (.istore_n 2, 1) := by decide +kernel
theorem dX4_explore_50 : decode cX4_explore 50 = .ok (.iload_n 2, 1) := by decide +kernel
theorem dX4_explore_51 : decode cX4_explore 51 = .ok (.sipush 2000, 3) := by decide +kernel
theorem dX4_explore_54 : decode cX4_explore 54 = .ok (.if_icmp .ge 48, 3) := by decide +kernel
theorem dX4_explore_57 : decode cX4_explore 57 = .ok (.iload_n 2, 1) := by decide +kernel
theorem dX4_explore_58 : decode cX4_explore 58 = .ok (.aload_n 0, 1) := by decide +kernel
theorem dX4_explore_59 : decode cX4_explore 59 = .ok (.getfield 27, 3) := by decide +kernel
theorem dX4_explore_62 : decode cX4_explore 62 = .ok (.if_icmp .ge 40, 3) := by decide +kernel
theorem dX4_explore_65 : decode cX4_explore 65 = .ok (.aload_n 0, 1) := by decide +kernel
theorem dX4_explore_66 : decode cX4_explore 66 = .ok (.getfield 31, 3) := by decide +kernel
theorem dX4_explore_69 : decode cX4_explore 69 = .ok (.ifCond .eq 33, 3) := by decide +kernel
theorem dX4_explore_72 : decode cX4_explore 72 = .ok (.aload_n 0, 1) := by decide +kernel
theorem dX4_explore_73 : decode cX4_explore 73 = .ok (.getfield 16, 3) := by decide +kernel
theorem dX4_explore_76 : decode cX4_explore 76 = .ok (.iload_n 2, 1) := by decide +kernel
theorem dX4_explore_77 : decode cX4_explore 77 = .ok (.aload_n 0, 1) := by decide +kernel
theorem dX4_explore_78 : decode cX4_explore 78 = .ok (.getfield 63, 3) := by decide +kernel
theorem dX4_explore_81 : decode cX4_explore 81 = .ok (.invokevirtual 85, 3) := by decide +kernel
theorem dX4_explore_84 : decode cX4_explore 84 = .ok (.aload_n 0, 1) := by decide +kernel
theorem dX4_explore_85 : decode cX4_explore 85 = .ok (.getfield 63, 3) := by decide +kernel
theorem dX4_explore_88 : decode cX4_explore 88 = .ok (.invokevirtual 88, 3) := by decide +kernel
theorem dX4_explore_91 : decode cX4_explore 91 = .ok (.aload_n 0, 1) := by decide +kernel
theorem dX4_explore_92 : decode cX4_explore 92 = .ok (.iload_n 2, 1) := by decide +kernel
theorem dX4_explore_93 : decode cX4_explore 93 = .ok (.invokevirtual 91, 3) := by decide +kernel
theorem dX4_explore_96 : decode cX4_explore 96 = .ok (.iinc 2 1, 3) := by decide +kernel
theorem dX4_explore_99 : decode cX4_explore 99 = .ok (.goto (-49), 3) := by decide +kernel
theorem dX4_explore_102 : decode cX4_explore 102 = .ok (.return_, 1) := by decide +kernel
theorem dX11_allLines_0 : decode cX11_allLines 0 = .ok (.aload_n 0, 1) := by decide +kernel
theorem dX11_allLines_1 : decode cX11_allLines 1 = .ok (.getfield 91, 3) := by decide +kernel
theorem dX11_allLines_4 : decode cX11_allLines 4 = .ok (.ifnonnull 18, 3) := by decide +kernel
theorem dX11_allLines_7 : decode cX11_allLines 7 = .ok (.aload_n 0, 1) := by decide +kernel
theorem dX11_allLines_8 : decode cX11_allLines 8 = .ok (.new 333, 3) := by decide +kernel
theorem dX11_allLines_11 : decode cX11_allLines 11 = .ok (.dup, 1) := by decide +kernel
theorem dX11_allLines_12 : decode cX11_allLines 12 = .ok (.aload_n 0, 1) := by decide +kernel
theorem dX11_allLines_13 : decode cX11_allLines 13 = .ok (.getfield 26, 3) := by decide +kernel
theorem dX11_allLines_16 : decode cX11_allLines 16 = .ok (.invokespecial 335, 3) := by decide +kernel
theorem dX11_allLines_19 : decode cX11_allLines 19 = .ok (.putfield 91, 3) := by decide +kernel
theorem dX11_allLines_22 : decode cX11_allLines 22 = .ok (.aload_n 0, 1) := by decide +kernel
theorem dX11_allLines_23 : decode cX11_allLines 23 = .ok (.getfield 95, 3) := by decide +kernel
theorem dX11_allLines_26 : decode cX11_allLines 26 = .ok (.ifCond .ne 19, 3) := by decide +kernel
theorem dX11_allLines_29 : decode cX11_allLines 29 = .ok (.aload_n 0, 1) := by decide +kernel
theorem dX11_allLines_30 : decode cX11_allLines 30 = .ok (.getfield 91, 3) := by decide +kernel
theorem dX11_allLines_33 : decode cX11_allLines 33 = .ok (.aload_n 0, 1) := by decide +kernel
theorem dX11_allLines_34 : decode cX11_allLines 34 = .ok (.getfield 49, 3) := by decide +kernel
theorem dX11_allLines_37 : decode cX11_allLines 37 = .ok (.invokevirtual 336, 3) := by decide +kernel
theorem dX11_allLines_40 : decode cX11_allLines 40 = .ok (.aload_n 0, 1) := by decide +kernel
theorem dX11_allLines_41 : decode cX11_allLines 41 = .ok (.iconst 1, 1) := by decide +kernel
theorem dX11_allLines_42 : decode cX11_allLines 42 = .ok (.putfield 95, 3) := by decide +kernel
theorem dX11_allLines_45 : decode cX11_allLines 45 = .ok (.aload_n 0, 1) := by decide +kernel
theorem dX11_allLines_46 : decode cX11_allLines 46 = .ok (.getfield 91, 3) := by decide +kernel
theorem dX11_allLines_49 : decode cX11_allLines 49 = .ok (.getfield 339, 3) := by decide +kernel
theorem dX11_allLines_52 : decode cX11_allLines 52 = .ok (.ifCond .eq 10, 3) := by decide +kernel
theorem dX11_allLines_55 : decode cX11_allLines 55 = .ok (.aload_n 0, 1) := by decide +kernel
theorem dX11_allLines_56 : decode cX11_allLines 56 = .ok (.getfield 91, 3) := by decide +kernel
theorem dX11_allLines_59 : decode cX11_allLines 59 = .ok (.goto 4, 3) := by decide +kernel
theorem dX11_allLines_63 : decode cX11_allLines 63 = .ok (.areturn, 1) := by decide +kernel
theorem dX2_hashOfCode_0 : decode cX2_hashOfCode 0 = .ok (.aload_n 0, 1) := by decide +kernel
theorem dX2_hashOfCode_1 : decode cX2_hashOfCode 1 = .ok (.getfield 9, 3) := by decide +kernel
theorem dX2_hashOfCode_4 : decode cX2_hashOfCode 4 = .ok (.iload_n 1, 1) := by decide +kernel
theorem dX2_hashOfCode_5 : decode cX2_hashOfCode 5 = .ok (.iaload, 1) := by decide +kernel
theorem dX2_hashOfCode_6 : decode cX2_hashOfCode 6 = .ok (.i2l, 1) := by decide +kernel
theorem dX2_hashOfCode_7 : decode cX2_hashOfCode 7 = .ok (.ldc2_w 53, 3) := by decide +kernel
theorem dX2_hashOfCode_10 : decode cX2_hashOfCode 10 = .ok (.lmul, 1) := by decide +kernel
theorem dX2_hashOfCode_11 : decode cX2_hashOfCode 11 = .ok (.bipush 64, 2) := by decide +kernel
theorem dX2_hashOfCode_13 : decode cX2_hashOfCode 13 = .ok (.iload_n 2, 1) := by decide +kernel
theorem dX2_hashOfCode_14 : decode cX2_hashOfCode 14 = .ok (.isub, 1) := by decide +kernel
theorem dX2_hashOfCode_15 : decode cX2_hashOfCode 15 = .ok (.lushr, 1) := by decide +kernel
theorem dX2_hashOfCode_16 : decode cX2_hashOfCode 16 = .ok (.l2i, 1) := by decide +kernel
theorem dX2_hashOfCode_17 : decode cX2_hashOfCode 17 = .ok (.ireturn, 1) := by decide +kernel
theorem dX4_unlikeLines_0 : decode cX4_unlikeLines 0 = .ok (.aload_n 0, 1) := by decide +kernel
theorem dX4_unlikeLines_1 : decode cX4_unlikeLines 1 = .ok (.getfield 55, 3) := by decide +kernel
theorem dX4_unlikeLines_4 : decode cX4_unlikeLines 4 = .ok (.iconst 0, 1) := by decide +kernel
theorem dX4_unlikeLines_5 : decode cX4_unlikeLines 5 = .ok (.invokestatic 71, 3) := by decide +kernel
theorem dX4_unlikeLines_8 : decode cX4_unlikeLines 8 = .ok (.iconst 0, 1) := by decide +kernel
theorem dX4_unlikeLines_9 : decode cX4_unlikeLines 9 = .ok (.istore_n 1, 1) := by decide +kernel
theorem dX4_unlikeLines_10 : decode cX4_unlikeLines 10 = .ok (.iconst 0, 1) := by decide +kernel
theorem dX4_unlikeLines_11 : decode cX4_unlikeLines 11 = .ok (.istore_n 2, 1) := by decide +kernel
theorem dX4_unlikeLines_12 : decode cX4_unlikeLines 12 = .ok (.iload_n 2, 1) := by decide +kernel
theorem dX4_unlikeLines_13 : decode cX4_unlikeLines 13 = .ok (.aload_n 0, 1) := by decide +kernel
theorem dX4_unlikeLines_14 : decode cX4_unlikeLines 14 = .ok (.getfield 27, 3) := by decide +kernel
theorem dX4_unlikeLines_17 : decode cX4_unlikeLines 17 = .ok (.if_icmp .ge 103, 3) := by decide +kernel
theorem dX4_unlikeLines_20 : decode cX4_unlikeLines 20 = .ok (.aload_n 0, 1) := by decide +kernel
theorem dX4_unlikeLines_21 : decode cX4_unlikeLines 21 = .ok (.getfield 16, 3) := by decide +kernel
theorem dX4_unlikeLines_24 : decode cX4_unlikeLines 24 = .ok (.iload_n 2, 1) := by decide +kernel
theorem dX4_unlikeLines_25 : decode cX4_unlikeLines 25 = .ok (.bipush 12, 2) := by decide +kernel
theorem dX4_unlikeLines_27 : decode cX4_unlikeLines 27 = .ok (.invokevirtual 152, 3) := by decide +kernel
theorem dX4_unlikeLines_30 : decode cX4_unlikeLines 30 = .ok (.istore_n 3, 1) := by decide +kernel
theorem dX4_unlikeLines_31 : decode cX4_unlikeLines 31 = .ok (.iconst 0, 1) := by decide +kernel
theorem dX4_unlikeLines_32 : decode cX4_unlikeLines 32 = .ok (.istore 4, 2) := by decide +kernel
theorem dX4_unlikeLines_34 : decode cX4_unlikeLines 34 = .ok (.iload 4, 2) := by decide +kernel
theorem dX4_unlikeLines_36 : decode cX4_unlikeLines 36 = .ok (.sipush 4096, 3) := by decide +kernel
theorem dX4_unlikeLines_39 : decode cX4_unlikeLines 39 = .ok (.if_icmp .ge 54, 3) := by decide +kernel
theorem dX4_unlikeLines_42 : decode cX4_unlikeLines 42 = .ok (.aload_n 0, 1) := by decide +kernel
theorem dX4_unlikeLines_43 : decode cX4_unlikeLines 43 = .ok (.getfield 55, 3) := by decide +kernel
theorem dX4_unlikeLines_46 : decode cX4_unlikeLines 46 = .ok (.iload_n 3, 1) := by decide +kernel
theorem dX4_unlikeLines_47 : decode cX4_unlikeLines 47 = .ok (.iaload, 1) := by decide +kernel
theorem dX4_unlikeLines_48 : decode cX4_unlikeLines 48 = .ok (.ifCond .eq 45, 3) := by decide +kernel
theorem dX4_unlikeLines_93 : decode cX4_unlikeLines 93 = .ok (.aload_n 0, 1) := by decide +kernel
theorem dX4_unlikeLines_94 : decode cX4_unlikeLines 94 = .ok (.getfield 55, 3) := by decide +kernel
theorem dX4_unlikeLines_97 : decode cX4_unlikeLines 97 = .ok (.iload_n 3, 1) := by decide +kernel
theorem dX4_unlikeLines_98 : decode cX4_unlikeLines 98 = .ok (.iaload, 1) := by decide +kernel
theorem dX4_unlikeLines_99 : decode cX4_unlikeLines 99 = .ok (.ifCond .ne 15, 3) := by decide +kernel
theorem dX4_unlikeLines_102 : decode cX4_unlikeLines 102 = .ok (.aload_n 0, 1) := by decide +kernel
theorem dX4_unlikeLines_103 : decode cX4_unlikeLines 103 = .ok (.getfield 55, 3) := by decide +kernel
theorem dX4_unlikeLines_106 : decode cX4_unlikeLines 106 = .ok (.iload_n 3, 1) := by decide +kernel
theorem dX4_unlikeLines_107 : decode cX4_unlikeLines 107 = .ok (.iload_n 2, 1) := by decide +kernel
theorem dX4_unlikeLines_108 : decode cX4_unlikeLines 108 = .ok (.iconst 1, 1) := by decide +kernel
theorem dX4_unlikeLines_109 : decode cX4_unlikeLines 109 = .ok (.iadd, 1) := by decide +kernel
theorem dX4_unlikeLines_110 : decode cX4_unlikeLines 110 = .ok (.iastore, 1) := by decide +kernel
theorem dX4_unlikeLines_111 : decode cX4_unlikeLines 111 = .ok (.iinc 1 1, 3) := by decide +kernel
theorem dX4_unlikeLines_114 : decode cX4_unlikeLines 114 = .ok (.iinc 2 1, 3) := by decide +kernel
theorem dX4_unlikeLines_117 : decode cX4_unlikeLines 117 = .ok (.goto (-105), 3) := by decide +kernel
theorem dX4_unlikeLines_120 : decode cX4_unlikeLines 120 = .ok (.iload_n 1, 1) := by decide +kernel
theorem dX4_unlikeLines_121 : decode cX4_unlikeLines 121 = .ok (.ireturn, 1) := by decide +kernel
theorem dX4_tellRests_0 : decode cX4_tellRests 0 = .ok (.iconst 0, 1) := by decide +kernel
theorem dX4_tellRests_1 : decode cX4_tellRests 1 = .ok (.istore_n 2, 1) := by decide +kernel
theorem dX4_tellRests_2 : decode cX4_tellRests 2 = .ok (.iconst 0, 1) := by decide +kernel
theorem dX4_tellRests_3 : decode cX4_tellRests 3 = .ok (.istore_n 3, 1) := by decide +kernel
theorem dX4_tellRests_4 : decode cX4_tellRests 4 = .ok (.sipush 2000, 3) := by decide +kernel
theorem dX4_tellRests_7 : decode cX4_tellRests 7 = .ok (.istore 4, 2) := by decide +kernel
theorem dX4_tellRests_9 : decode cX4_tellRests 9 = .ok (.iconst 0, 1) := by decide +kernel
theorem dX4_tellRests_10 : decode cX4_tellRests 10 = .ok (.istore 5, 2) := by decide +kernel
theorem dX4_tellRests_12 : decode cX4_tellRests 12 = .ok (.iload 5, 2) := by decide +kernel
theorem dX4_tellRests_14 : decode cX4_tellRests 14 = .ok (.aload_n 0, 1) := by decide +kernel
theorem dX4_tellRests_15 : decode cX4_tellRests 15 = .ok (.getfield 27, 3) := by decide +kernel
theorem dX4_tellRests_18 : decode cX4_tellRests 18 = .ok (.if_icmp .ge 48, 3) := by decide +kernel
theorem dX4_tellRests_21 : decode cX4_tellRests 21 = .ok (.aload_n 0, 1) := by decide +kernel
theorem dX4_tellRests_22 : decode cX4_tellRests 22 = .ok (.getfield 38, 3) := by decide +kernel
theorem dX4_tellRests_25 : decode cX4_tellRests 25 = .ok (.iload 5, 2) := by decide +kernel
theorem dX4_tellRests_27 : decode cX4_tellRests 27 = .ok (.baload, 1) := by decide +kernel
theorem dX4_tellRests_28 : decode cX4_tellRests 28 = .ok (.ifCond .eq 32, 3) := by decide +kernel
theorem dX4_tellRests_31 : decode cX4_tellRests 31 = .ok (.iinc 2 1, 3) := by decide +kernel
theorem dX4_tellRests_34 : decode cX4_tellRests 34 = .ok (.iload_n 3, 1) := by decide +kernel
theorem dX4_tellRests_35 : decode cX4_tellRests 35 = .ok (.aload_n 0, 1) := by decide +kernel
theorem dX4_tellRests_36 : decode cX4_tellRests 36 = .ok (.getfield 35, 3) := by decide +kernel
theorem dX4_tellRests_39 : decode cX4_tellRests 39 = .ok (.iload 5, 2) := by decide +kernel
theorem dX4_tellRests_41 : decode cX4_tellRests 41 = .ok (.iaload, 1) := by decide +kernel
theorem dX4_tellRests_42 : decode cX4_tellRests 42 = .ok (.invokestatic 155, 3) := by decide +kernel
theorem dX4_tellRests_45 : decode cX4_tellRests 45 = .ok (.istore_n 3, 1) := by decide +kernel
theorem dX4_tellRests_46 : decode cX4_tellRests 46 = .ok (.iload 4, 2) := by decide +kernel
theorem dX4_tellRests_48 : decode cX4_tellRests 48 = .ok (.aload_n 0, 1) := by decide +kernel
theorem dX4_tellRests_49 : decode cX4_tellRests 49 = .ok (.getfield 35, 3) := by decide +kernel
theorem dX4_tellRests_52 : decode cX4_tellRests 52 = .ok (.iload 5, 2) := by decide +kernel
theorem dX4_tellRests_54 : decode cX4_tellRests 54 = .ok (.iaload, 1) := by decide +kernel
theorem dX4_tellRests_55 : decode cX4_tellRests 55 = .ok (.invokestatic 120, 3) := by decide +kernel
theorem dX4_tellRests_58 : decode cX4_tellRests 58 = .ok (.istore 4, 2) := by decide +kernel
theorem dX4_tellRests_60 : decode cX4_tellRests 60 = .ok (.iinc 5 1, 3) := by decide +kernel
theorem dX4_tellRests_63 : decode cX4_tellRests 63 = .ok (.goto (-51), 3) := by decide +kernel
theorem dX4_tellRests_66 : decode cX4_tellRests 66 = .ok (.aload_n 1, 1) := by decide +kernel
theorem dX4_tellRests_67 : decode cX4_tellRests 67 = .ok (.aload_n 0, 1) := by decide +kernel
theorem dX4_tellRests_68 : decode cX4_tellRests 68 = .ok (.invokevirtual 158, 3) := by decide +kernel
theorem dX4_tellRests_71 : decode cX4_tellRests 71 = .ok (.i2l, 1) := by decide +kernel
theorem dX4_tellRests_72 : decode cX4_tellRests 72 = .ok (.iload_n 2, 1) := by decide +kernel
theorem dX4_tellRests_73 : decode cX4_tellRests 73 = .ok (.i2l, 1) := by decide +kernel
theorem dX4_tellRests_74 : decode cX4_tellRests 74 = .ok (.invokevirtual 161, 3) := by decide +kernel
theorem dX4_tellRests_77 : decode cX4_tellRests 77 = .ok (.aload_n 1, 1) := by decide +kernel
theorem dX4_tellRests_78 : decode cX4_tellRests 78 = .ok (.iload_n 3, 1) := by decide +kernel
theorem dX4_tellRests_79 : decode cX4_tellRests 79 = .ok (.i2l, 1) := by decide +kernel
theorem dX4_tellRests_80 : decode cX4_tellRests 80 = .ok (.invokevirtual 167, 3) := by decide +kernel
theorem dX4_tellRests_83 : decode cX4_tellRests 83 = .ok (.aload_n 1, 1) := by decide +kernel
theorem dX4_tellRests_84 : decode cX4_tellRests 84 = .ok (.iload 4, 2) := by decide +kernel
theorem dX4_tellRests_86 : decode cX4_tellRests 86 = .ok (.i2l, 1) := by decide +kernel
theorem dX4_tellRests_87 : decode cX4_tellRests 87 = .ok (.invokevirtual 167, 3) := by decide +kernel
theorem dX4_tellRests_90 : decode cX4_tellRests 90 = .ok (.return_, 1) := by decide +kernel
theorem gX4_expand_X7_isSold : GoodIn wsX4_expand (wsV RX4 97 RX7 yX7_isSold wsX7_isSold) := gi_V wd_5_82 wd_3_236 wd_3_237 wd_1_8 wd_3_238
theorem gX4_expand_X7_total : GoodIn wsX4_expand (wsV RX4 94 RX7 yX7_total wsX7_total) := gi_V wd_5_81 wd_4_176 wd_4_177 wd_1_8 wd_4_178
theorem gX4_explore_J7_fill_53178 : GoodIn wsX4_explore (va_wsS RX4 71 yJ7_fill_53178 wsJ7_fill_53178) := gi_S wd_5_60 wd_2_175 wd_1_13 wd_2_176
theorem gX4_explore_X2_put : GoodIn wsX4_explore (wsV RX4 77 RX2 yX2_put wsX2_put) := gi_V wd_5_61 wd_4_60 wd_4_61 wd_1_10 wd_4_62
theorem gX4_explore_X2_take : GoodIn wsX4_explore (wsV RX4 85 RX2 yX2_take wsX2_take) := gi_V wd_5_75 wd_4_99 wd_4_100 wd_1_10 wd_4_101
theorem gX4_explore_X4_expand : GoodIn wsX4_explore (wsV RX4 91 RX4 yX4_expand wsX4_expand) := gi_V wd_5_77 wd_5_79 wd_0_36 wd_1_26 wd_5_80
theorem gX4_explore_X4_indexOf : GoodIn wsX4_explore (wsV RX4 81 RX4 yX4_indexOf wsX4_indexOf) := gi_V wd_5_62 wd_5_64 wd_0_35 wd_1_26 wd_5_65
theorem gX4_explore_X7_copy : GoodIn wsX4_explore (wsV RX4 67 RX7 yX7_copy wsX7_copy) := gi_V wd_5_59 wd_3_4 wd_3_5 wd_1_8 wd_3_6
theorem gX4_explore_X7_weighAll : GoodIn wsX4_explore (wsV RX4 88 RX7 yX7_weighAll wsX7_weighAll) := gi_V wd_5_76 wd_4_0 wd_4_1 wd_1_8 wd_4_2
theorem gX11_allLines_X4_explore : GoodIn wsX11_allLines (wsV RX11 336 RX4 yX4_explore wsX4_explore) := gi_V wd_5_55 wd_5_56 wd_5_57 wd_1_26 wd_5_58
theorem gX11_allLines_X4_init : GoodIn wsX11_allLines (wsX4_init) := gi_c wd_5_3
theorem gX4_unlikeLines_J7_fill_53178 : GoodIn wsX4_unlikeLines (va_wsS RX4 71 yJ7_fill_53178 wsJ7_fill_53178) := gi_S wd_5_60 wd_2_175 wd_1_13 wd_2_176
theorem gX4_unlikeLines_X2_hashOfCode : GoodIn wsX4_unlikeLines (wsV RX4 152 RX2 yX2_hashOfCode wsX2_hashOfCode) := gi_V wd_5_107 wd_5_108 wd_5_109 wd_1_10 wd_5_110
theorem gX4_tellRests_X4_unlikeLines : GoodIn wsX4_tellRests (wsV RX4 158 RX4 yX4_unlikeLines wsX4_unlikeLines) := gi_V wd_5_103 wd_5_105 wd_0_38 wd_1_26 wd_5_106
theorem gX4_tellRests_X5_add : GoodIn wsX4_tellRests (wsV RX4 167 RX5 yX5_add wsX5_add) := gi_V wd_5_112 wd_3_228 wd_3_229 wd_1_3 wd_3_230
theorem gX4_tellRests_X5_tell_ : GoodIn wsX4_tellRests (wsV RX4 161 RX5 yX5_tell_ wsX5_tell_) := gi_V wd_5_111 wd_3_224 wd_3_225 wd_1_3 wd_3_226
set_option maxRecDepth 100000 in
set_option maxHeartbeats 4000000 in
theorem cX4_expand_1 (l : Launch) (D : va_G) (y : Nat → ClassId) (a0 : Nat) (a1 : Nat) (a2 : Nat) (a3 : Nat) (a4 : Nat) (a5 : Nat) (a6 : Nat) (a7 : Nat) (a8 : Nat) (a9 : Nat) (a10 : Nat) (a11 : Nat) (a12 : Nat) (a13 : Nat) (a14 : Nat) (a15 : Nat) (a16 : Nat) (a17 : Nat) (a18 : Nat) (a19 : Nat) (sz : Nat) : Met l yX4_expand wsX4_expand { frames := 3, cells := 0, slots := 0, locals := 222 } (nPc D y nT [.ref a0, .int 0] [(a0, .inr (4, [.ref a1, .ref a2, .ref a3, .int 1, .int 1, .ref a4, .ref a5, .ref a6, .ref a7, .ref a8, .ref a9, .ref a10, .ref a11])), (a11, .inr (7, [.ref a12, .ref a13, .ref a14, .ref a15, .int 0, .int 0, .ref a16, .ref a17, .ref a18, .ref a19])), (a2, .inl (y 0, 2000, .inl nz)), (a5, .inl (y 2, 2000, .inl nz)), (a6, .inl (y 0, 16000, .inl nz))] sz) ((fun A => nQv D y (fun _ => True) (fun u => [(a0, .inr (4, [.ref a1, .ref a2, .ref a3, .int 1, .int 1, .ref a4, .ref a5, .ref a6, .ref a7, .ref a8, .ref a9, .ref a10, .ref a11])), (a2, .inl (y 0, 2000, .inl nz)), (a5, .inl (y 2, 2000, .inl (upd nz 0 1))), (a6, .inl (y 0, 16000, .inl (upd (upd (upd (upd (upd (upd (upd (upd nz 0 (-1)) 1 (-1)) 2 (-1)) 3 (-1)) 4 (-1)) 5 (-1)) 6 (-1)) 7 (-1)))), (a11, .inr (7, [.ref a12, .ref a13, .ref a14, .ref a15, .int 0, .int 0, .ref a16, .ref a17, .ref a18, .ref a19]))]) A) (va_A [(a0, .inr (4, [.ref a1, .ref a2, .ref a3, .int 1, .int 1, .ref a4, .ref a5, .ref a6, .ref a7, .ref a8, .ref a9, .ref a10, .ref a11])), (a11, .inr (7, [.ref a12, .ref a13, .ref a14, .ref a15, .int 0, .int 0, .ref a16, .ref a17, .ref a18, .ref a19])), (a2, .inl (y 0, 2000, .inl nz)), (a5, .inl (y 2, 2000, .inl nz)), (a6, .inl (y 0, 16000, .inl nz))] sz)) 0 0 (va_A [(a0, .inr (4, [.ref a1, .ref a2, .ref a3, .int 1, .int 1, .ref a4, .ref a5, .ref a6, .ref a7, .ref a8, .ref a9, .ref a10, .ref a11])), (a11, .inr (7, [.ref a12, .ref a13, .ref a14, .ref a15, .int 0, .int 0, .ref a16, .ref a17, .ref a18, .ref a19])), (a2, .inl (y 0, 2000, .inl nz)), (a5, .inl (y 2, 2000, .inl nz)), (a6, .inl (y 0, 16000, .inl nz))] sz) := by
  refine nm_ofW (D := D) (y := y) (E := nT) (yy := yX4_expand) (wsy := wsX4_expand) (rm := { frames := 3, cells := 0, slots := 0, locals := 222 }) (as := [.ref a0, .int 0]) (ws := [(a0, .inr (4, [.ref a1, .ref a2, .ref a3, .int 1, .int 1, .ref a4, .ref a5, .ref a6, .ref a7, .ref a8, .ref a9, .ref a10, .ref a11])), (a11, .inr (7, [.ref a12, .ref a13, .ref a14, .ref a15, .int 0, .int 0, .ref a16, .ref a17, .ref a18, .ref a19])), (a2, .inl (y 0, 2000, .inl nz)), (a5, .inl (y 2, 2000, .inl nz)), (a6, .inl (y 0, 16000, .inl nz))]) (sz := sz) (mc := 0) (ms := 0) (Qc := fun A => nQv D y (fun _ => True) (fun u => [(a0, .inr (4, [.ref a1, .ref a2, .ref a3, .int 1, .int 1, .ref a4, .ref a5, .ref a6, .ref a7, .ref a8, .ref a9, .ref a10, .ref a11])), (a2, .inl (y 0, 2000, .inl nz)), (a5, .inl (y 2, 2000, .inl (upd nz 0 1))), (a6, .inl (y 0, 16000, .inl (upd (upd (upd (upd (upd (upd (upd (upd nz 0 (-1)) 1 (-1)) 2 (-1)) 3 (-1)) 4 (-1)) 5 (-1)) 6 (-1)) 7 (-1)))), (a11, .inr (7, [.ref a12, .ref a13, .ref a14, .ref a15, .int 0, .int 0, .ref a16, .ref a17, .ref a18, .ref a19]))]) A) (cc := cX4_expand) (maxL := 4) (ret := none) (by decide +kernel) rfl (Nat.le_of_ble_eq_true rfl) ?_
  intro p e s m below meth c A ls H hx hb hr hml hts hown hlocks hnm hsz hP hK hD hA hS hE hAe hl
  replace hl : lv_has ls 4 [(0, .ref a0), (1, .int 0)] := hl
  have hown : s.vm.findClass RX4 = some m.cls := hown
  have w_0 := hts (.fieldLink RX4 20 "SoldToBehind$Reach" "total" "[I") (gt_k wd_5_11)
  have w_1 := hts (.fieldLink RX4 63 "SoldToBehind$Reach" "scene" "LSoldToBehind$Standing;") (gt_k wd_5_26)
  have w_2 := hts (.fieldLink RX4 38 "SoldToBehind$Reach" "rest" "[Z") (gt_k wd_5_20)
  have w_3 := hts (.fieldLink RX4 42 "SoldToBehind$Reach" "out" "[I") (gt_k wd_5_21)
  refine lv_aload_n hx hb dX4_expand_0 rfl (lv_at hl 0 rfl) ?_
  refine va_get (D := D) (ci := 4) (v := .ref a2) (C := RX4) (T := TX4) (N := 13) hx hb hts (gt_c iG_X4) hown hK hP 0 rfl rfl 1 (by decide +kernel) w_0 (fun _ h9 => h9) rfl dX4_expand_1 ?_
  refine lv_iload_n hx hb dX4_expand_4 rfl (lv_at hl 1 rfl) ?_
  refine lv_aload_n hx hb dX4_expand_5 rfl (lv_at hl 0 rfl) ?_
  refine va_get (D := D) (ci := 4) (v := .ref a11) (C := RX4) (T := TX4) (N := 13) hx hb hts (gt_c iG_X4) hown hK hP 0 rfl rfl 12 (by decide +kernel) w_1 (fun _ h9 => h9) rfl dX4_expand_6 ?_
  refine nj_i (ws := [(a0, .inr (4, [.ref a1, .ref a2, .ref a3, .int 1, .int 1, .ref a4, .ref a5, .ref a6, .ref a7, .ref a8, .ref a9, .ref a10, .ref a11])), (a11, .inr (7, [.ref a12, .ref a13, .ref a14, .ref a15, .int 0, .int 0, .ref a16, .ref a17, .ref a18, .ref a19])), (a2, .inl (y 0, 2000, .inl nz)), (a5, .inl (y 2, 2000, .inl nz)), (a6, .inl (y 0, 16000, .inl nz))]) (wc := [(a11, .inr (7, [.ref a12, .ref a13, .ref a14, .ref a15, .int 0, .int 0, .ref a16, .ref a17, .ref a18, .ref a19]))]) (wr := [(a0, .inr (4, [.ref a1, .ref a2, .ref a3, .int 1, .int 1, .ref a4, .ref a5, .ref a6, .ref a7, .ref a8, .ref a9, .ref a10, .ref a11])), (a2, .inl (y 0, 2000, .inl nz)), (a5, .inl (y 2, 2000, .inl nz)), (a6, .inl (y 0, 16000, .inl nz))]) (nr_V (As := []) (rest := [.int 0, .ref a2]) ⟨hx, hb, hml, hown, hts⟩ (cX7_total_1 l D y a11 a12 a13 a14 a15 a16 a17 a18 a19 H.size) (cwV 0 hts gX4_expand_X7_total rfl rfl rfl (by decide +kernel) ⟨Nat.le_of_ble_eq_true rfl, Nat.le_of_ble_eq_true rfl⟩) hK hP hD hE [1] rfl (by decide +kernel) 0 7 rfl rfl rfl rfl rfl hl.1 rfl (lv_room (Nat.le_of_ble_eq_true rfl)) dX4_expand_9 ⟨Nat.le_of_ble_eq_true rfl, Nat.le_of_ble_eq_true rfl⟩) hP hD hS hA [1] [0, 2, 3, 4] rfl rfl (by decide +kernel) (by decide +kernel) (fun r2 u1 H locs er2 hP hD hS => ?_)
  subst er2
  refine nb_iast (ws' := [(a0, .inr (4, [.ref a1, .ref a2, .ref a3, .int 1, .int 1, .ref a4, .ref a5, .ref a6, .ref a7, .ref a8, .ref a9, .ref a10, .ref a11])), (a2, .inl (y 0, 2000, .inl nz)), (a5, .inl (y 2, 2000, .inl nz)), (a6, .inl (y 0, 16000, .inl nz)), (a11, .inr (7, [.ref a12, .ref a13, .ref a14, .ref a15, .int 0, .int 0, .ref a16, .ref a17, .ref a18, .ref a19]))]) hx hb hK hP hD hS 1 0 rfl rfl (n_in (by decide +kernel)) (by rw [nb_upI (f := nz) (i := Int32.toNatClampNeg 0) (x := 0) rfl]; rfl) dX4_expand_12 (fun H locs hP hD hS => ?_)
  refine lv_aload_n hx hb dX4_expand_13 rfl (lv_at hl 0 rfl) ?_
  refine va_get (D := D) (ci := 4) (v := .ref a5) (C := RX4) (T := TX4) (N := 13) hx hb hts (gt_c iG_X4) hown hK hP 0 rfl rfl 6 (by decide +kernel) w_2 (fun _ h9 => h9) rfl dX4_expand_14 ?_
  refine lv_iload_n hx hb dX4_expand_17 rfl (lv_at hl 1 rfl) ?_
  refine lv_iconst (v := 1) hx hb dX4_expand_18 (by decide +kernel) ?_
  refine nb_zast (ws' := [(a0, .inr (4, [.ref a1, .ref a2, .ref a3, .int 1, .int 1, .ref a4, .ref a5, .ref a6, .ref a7, .ref a8, .ref a9, .ref a10, .ref a11])), (a2, .inl (y 0, 2000, .inl nz)), (a5, .inl (y 2, 2000, .inl (upd nz 0 1))), (a6, .inl (y 0, 16000, .inl nz)), (a11, .inr (7, [.ref a12, .ref a13, .ref a14, .ref a15, .int 0, .int 0, .ref a16, .ref a17, .ref a18, .ref a19]))]) hx hb hK hP hD hS 2 2 rfl rfl (n_in (by decide +kernel)) (by rw [show vp_nar .boolean 1 = 1 by decide]; rfl) dX4_expand_19 (fun H locs hP hD hS => ?_)
  refine lv_iconst (v := 1) hx hb dX4_expand_20 (by decide +kernel) ?_
  refine lv_istore_n (lv' := [(2, .int 1), (0, .ref a0), (1, .int 0)]) hx hb dX4_expand_21 rfl hl (by decide +kernel) rfl (fun ls hl => ?_)
  refine lv_iload_n hx hb dX4_expand_22 rfl (lv_at hl 0 rfl) ?_
  refine lv_bipush (v := 8) hx hb dX4_expand_23 (by decide +kernel) ?_
  refine lv_icmp_gt (tgt := 86) hx hb dX4_expand_25 (by decide +kernel) (fun c => absurd c (by decide +kernel)) (fun _ => ?_)
  refine lv_iconst (v := (-1)) hx hb dX4_expand_28 (by decide +kernel) ?_
  refine lv_istore_n (lv' := [(3, .int (-1)), (2, .int 1), (0, .ref a0), (1, .int 0)]) hx hb dX4_expand_29 rfl hl (by decide +kernel) rfl (fun ls hl => ?_)
  refine lv_aload_n hx hb dX4_expand_30 rfl (lv_at hl 2 rfl) ?_
  refine va_get (D := D) (ci := 4) (v := .ref a11) (C := RX4) (T := TX4) (N := 13) hx hb hts (gt_c iG_X4) hown hK hP 0 rfl rfl 12 (by decide +kernel) w_1 (fun _ h9 => h9) rfl dX4_expand_31 ?_
  refine lv_iload_n hx hb dX4_expand_34 rfl (lv_at hl 1 rfl) ?_
  refine nj_i (ws := [(a0, .inr (4, [.ref a1, .ref a2, .ref a3, .int 1, .int 1, .ref a4, .ref a5, .ref a6, .ref a7, .ref a8, .ref a9, .ref a10, .ref a11])), (a2, .inl (y 0, 2000, .inl nz)), (a5, .inl (y 2, 2000, .inl (upd nz 0 1))), (a6, .inl (y 0, 16000, .inl nz)), (a11, .inr (7, [.ref a12, .ref a13, .ref a14, .ref a15, .int 0, .int 0, .ref a16, .ref a17, .ref a18, .ref a19]))]) (wc := [(a11, .inr (7, [.ref a12, .ref a13, .ref a14, .ref a15, .int 0, .int 0, .ref a16, .ref a17, .ref a18, .ref a19]))]) (wr := [(a0, .inr (4, [.ref a1, .ref a2, .ref a3, .int 1, .int 1, .ref a4, .ref a5, .ref a6, .ref a7, .ref a8, .ref a9, .ref a10, .ref a11])), (a2, .inl (y 0, 2000, .inl nz)), (a5, .inl (y 2, 2000, .inl (upd nz 0 1))), (a6, .inl (y 0, 16000, .inl nz))]) (nr_V (As := [.int 1]) (rest := []) ⟨hx, hb, hml, hown, hts⟩ (cX7_isSold_2 l D y a11 1 (by decide +kernel) a12 a13 a14 a15 a16 a17 a18 a19 H.size) (cwV 1 hts gX4_expand_X7_isSold rfl rfl rfl (by decide +kernel) ⟨Nat.le_of_ble_eq_true rfl, Nat.le_of_ble_eq_true rfl⟩) hK hP hD hE [4] rfl (by decide +kernel) 0 7 rfl rfl rfl rfl rfl hl.1 rfl (lv_room (Nat.le_of_ble_eq_true rfl)) dX4_expand_35 ⟨Nat.le_of_ble_eq_true rfl, Nat.le_of_ble_eq_true rfl⟩) hP hD hS hA [4] [0, 1, 2, 3] rfl rfl (by decide +kernel) (by decide +kernel) (fun r4 u3 H locs er4 hP hD hS => ?_)
  subst er4
  refine lv_if_eq (tgt := 66) hx hb dX4_expand_38 (by decide +kernel) (fun _ => ?_) (fun c => absurd (by decide +kernel) c)
  refine lv_aload_n hx hb dX4_expand_66 rfl (lv_at hl 2 rfl) ?_
  refine va_get (D := D) (ci := 4) (v := .ref a6) (C := RX4) (T := TX4) (N := 13) hx hb hts (gt_c iG_X4) hown hK hP 0 rfl rfl 7 (by decide +kernel) w_3 (fun _ h9 => h9) rfl dX4_expand_67 ?_
  refine lv_iload_n hx hb dX4_expand_70 rfl (lv_at hl 3 rfl) ?_
  refine lv_bipush (v := 8) hx hb dX4_expand_71 (by decide +kernel) ?_
  refine lv_imul hx hb dX4_expand_73 ?_
  refine nv_i (v := 0) (by decide +kernel) ?_
  refine lv_iload_n hx hb dX4_expand_74 rfl (lv_at hl 1 rfl) ?_
  refine lv_iadd hx hb dX4_expand_75 ?_
  refine nv_i (v := 1) (by decide +kernel) ?_
  refine lv_iconst (v := 1) hx hb dX4_expand_76 (by decide +kernel) ?_
  refine lv_isub hx hb dX4_expand_77 ?_
  refine nv_i (v := 0) (by decide +kernel) ?_
  refine lv_iload_n hx hb dX4_expand_78 rfl (lv_at hl 0 rfl) ?_
  refine nb_iast (ws' := [(a0, .inr (4, [.ref a1, .ref a2, .ref a3, .int 1, .int 1, .ref a4, .ref a5, .ref a6, .ref a7, .ref a8, .ref a9, .ref a10, .ref a11])), (a2, .inl (y 0, 2000, .inl nz)), (a5, .inl (y 2, 2000, .inl (upd nz 0 1))), (a6, .inl (y 0, 16000, .inl (upd nz 0 (-1)))), (a11, .inr (7, [.ref a12, .ref a13, .ref a14, .ref a15, .int 0, .int 0, .ref a16, .ref a17, .ref a18, .ref a19]))]) hx hb hK hP hD hS 3 0 rfl rfl (n_in (by decide +kernel)) rfl dX4_expand_79 (fun H locs hP hD hS => ?_)
  refine lv_iinc (v := 2) (lv' := [(2, .int 2), (3, .int (-1)), (0, .ref a0), (1, .int 0)]) hx hb dX4_expand_80 hl (k := 1) rfl (by decide +kernel) (by decide +kernel) rfl (fun ls hl => ?_)
  refine lv_goto (tgt := 22) hx hb dX4_expand_83 (by decide +kernel) ?_
  refine lv_iload_n hx hb dX4_expand_22 rfl (lv_at hl 0 rfl) ?_
  refine lv_bipush (v := 8) hx hb dX4_expand_23 (by decide +kernel) ?_
  refine lv_icmp_gt (tgt := 86) hx hb dX4_expand_25 (by decide +kernel) (fun c => absurd c (by decide +kernel)) (fun _ => ?_)
  refine lv_iconst (v := (-1)) hx hb dX4_expand_28 (by decide +kernel) ?_
  refine lv_istore_n (lv' := [(3, .int (-1)), (2, .int 2), (0, .ref a0), (1, .int 0)]) hx hb dX4_expand_29 rfl hl (by decide +kernel) rfl (fun ls hl => ?_)
  refine lv_aload_n hx hb dX4_expand_30 rfl (lv_at hl 2 rfl) ?_
  refine va_get (D := D) (ci := 4) (v := .ref a11) (C := RX4) (T := TX4) (N := 13) hx hb hts (gt_c iG_X4) hown hK hP 0 rfl rfl 12 (by decide +kernel) w_1 (fun _ h9 => h9) rfl dX4_expand_31 ?_
  refine lv_iload_n hx hb dX4_expand_34 rfl (lv_at hl 1 rfl) ?_
  refine nj_i (ws := [(a0, .inr (4, [.ref a1, .ref a2, .ref a3, .int 1, .int 1, .ref a4, .ref a5, .ref a6, .ref a7, .ref a8, .ref a9, .ref a10, .ref a11])), (a2, .inl (y 0, 2000, .inl nz)), (a5, .inl (y 2, 2000, .inl (upd nz 0 1))), (a6, .inl (y 0, 16000, .inl (upd nz 0 (-1)))), (a11, .inr (7, [.ref a12, .ref a13, .ref a14, .ref a15, .int 0, .int 0, .ref a16, .ref a17, .ref a18, .ref a19]))]) (wc := [(a11, .inr (7, [.ref a12, .ref a13, .ref a14, .ref a15, .int 0, .int 0, .ref a16, .ref a17, .ref a18, .ref a19]))]) (wr := [(a0, .inr (4, [.ref a1, .ref a2, .ref a3, .int 1, .int 1, .ref a4, .ref a5, .ref a6, .ref a7, .ref a8, .ref a9, .ref a10, .ref a11])), (a2, .inl (y 0, 2000, .inl nz)), (a5, .inl (y 2, 2000, .inl (upd nz 0 1))), (a6, .inl (y 0, 16000, .inl (upd nz 0 (-1))))]) (nr_V (As := [.int 2]) (rest := []) ⟨hx, hb, hml, hown, hts⟩ (cX7_isSold_2 l D y a11 2 (by decide +kernel) a12 a13 a14 a15 a16 a17 a18 a19 H.size) (cwV 1 hts gX4_expand_X7_isSold rfl rfl rfl (by decide +kernel) ⟨Nat.le_of_ble_eq_true rfl, Nat.le_of_ble_eq_true rfl⟩) hK hP hD hE [4] rfl (by decide +kernel) 0 7 rfl rfl rfl rfl rfl hl.1 rfl (lv_room (Nat.le_of_ble_eq_true rfl)) dX4_expand_35 ⟨Nat.le_of_ble_eq_true rfl, Nat.le_of_ble_eq_true rfl⟩) hP hD hS hA [4] [0, 1, 2, 3] rfl rfl (by decide +kernel) (by decide +kernel) (fun r6 u5 H locs er6 hP hD hS => ?_)
  subst er6
  refine lv_if_eq (tgt := 66) hx hb dX4_expand_38 (by decide +kernel) (fun _ => ?_) (fun c => absurd (by decide +kernel) c)
  refine lv_aload_n hx hb dX4_expand_66 rfl (lv_at hl 2 rfl) ?_
  refine va_get (D := D) (ci := 4) (v := .ref a6) (C := RX4) (T := TX4) (N := 13) hx hb hts (gt_c iG_X4) hown hK hP 0 rfl rfl 7 (by decide +kernel) w_3 (fun _ h9 => h9) rfl dX4_expand_67 ?_
  refine lv_iload_n hx hb dX4_expand_70 rfl (lv_at hl 3 rfl) ?_
  refine lv_bipush (v := 8) hx hb dX4_expand_71 (by decide +kernel) ?_
  refine lv_imul hx hb dX4_expand_73 ?_
  refine nv_i (v := 0) (by decide +kernel) ?_
  refine lv_iload_n hx hb dX4_expand_74 rfl (lv_at hl 1 rfl) ?_
  refine lv_iadd hx hb dX4_expand_75 ?_
  refine nv_i (v := 2) (by decide +kernel) ?_
  refine lv_iconst (v := 1) hx hb dX4_expand_76 (by decide +kernel) ?_
  refine lv_isub hx hb dX4_expand_77 ?_
  refine nv_i (v := 1) (by decide +kernel) ?_
  refine lv_iload_n hx hb dX4_expand_78 rfl (lv_at hl 0 rfl) ?_
  refine nb_iast (ws' := [(a0, .inr (4, [.ref a1, .ref a2, .ref a3, .int 1, .int 1, .ref a4, .ref a5, .ref a6, .ref a7, .ref a8, .ref a9, .ref a10, .ref a11])), (a2, .inl (y 0, 2000, .inl nz)), (a5, .inl (y 2, 2000, .inl (upd nz 0 1))), (a6, .inl (y 0, 16000, .inl (upd (upd nz 0 (-1)) 1 (-1)))), (a11, .inr (7, [.ref a12, .ref a13, .ref a14, .ref a15, .int 0, .int 0, .ref a16, .ref a17, .ref a18, .ref a19]))]) hx hb hK hP hD hS 3 0 rfl rfl (n_in (by decide +kernel)) rfl dX4_expand_79 (fun H locs hP hD hS => ?_)
  refine lv_iinc (v := 3) (lv' := [(2, .int 3), (3, .int (-1)), (0, .ref a0), (1, .int 0)]) hx hb dX4_expand_80 hl (k := 1) rfl (by decide +kernel) (by decide +kernel) rfl (fun ls hl => ?_)
  refine lv_goto (tgt := 22) hx hb dX4_expand_83 (by decide +kernel) ?_
  refine lv_iload_n hx hb dX4_expand_22 rfl (lv_at hl 0 rfl) ?_
  refine lv_bipush (v := 8) hx hb dX4_expand_23 (by decide +kernel) ?_
  refine lv_icmp_gt (tgt := 86) hx hb dX4_expand_25 (by decide +kernel) (fun c => absurd c (by decide +kernel)) (fun _ => ?_)
  refine lv_iconst (v := (-1)) hx hb dX4_expand_28 (by decide +kernel) ?_
  refine lv_istore_n (lv' := [(3, .int (-1)), (2, .int 3), (0, .ref a0), (1, .int 0)]) hx hb dX4_expand_29 rfl hl (by decide +kernel) rfl (fun ls hl => ?_)
  refine lv_aload_n hx hb dX4_expand_30 rfl (lv_at hl 2 rfl) ?_
  refine va_get (D := D) (ci := 4) (v := .ref a11) (C := RX4) (T := TX4) (N := 13) hx hb hts (gt_c iG_X4) hown hK hP 0 rfl rfl 12 (by decide +kernel) w_1 (fun _ h9 => h9) rfl dX4_expand_31 ?_
  refine lv_iload_n hx hb dX4_expand_34 rfl (lv_at hl 1 rfl) ?_
  refine nj_i (ws := [(a0, .inr (4, [.ref a1, .ref a2, .ref a3, .int 1, .int 1, .ref a4, .ref a5, .ref a6, .ref a7, .ref a8, .ref a9, .ref a10, .ref a11])), (a2, .inl (y 0, 2000, .inl nz)), (a5, .inl (y 2, 2000, .inl (upd nz 0 1))), (a6, .inl (y 0, 16000, .inl (upd (upd nz 0 (-1)) 1 (-1)))), (a11, .inr (7, [.ref a12, .ref a13, .ref a14, .ref a15, .int 0, .int 0, .ref a16, .ref a17, .ref a18, .ref a19]))]) (wc := [(a11, .inr (7, [.ref a12, .ref a13, .ref a14, .ref a15, .int 0, .int 0, .ref a16, .ref a17, .ref a18, .ref a19]))]) (wr := [(a0, .inr (4, [.ref a1, .ref a2, .ref a3, .int 1, .int 1, .ref a4, .ref a5, .ref a6, .ref a7, .ref a8, .ref a9, .ref a10, .ref a11])), (a2, .inl (y 0, 2000, .inl nz)), (a5, .inl (y 2, 2000, .inl (upd nz 0 1))), (a6, .inl (y 0, 16000, .inl (upd (upd nz 0 (-1)) 1 (-1))))]) (nr_V (As := [.int 3]) (rest := []) ⟨hx, hb, hml, hown, hts⟩ (cX7_isSold_2 l D y a11 3 (by decide +kernel) a12 a13 a14 a15 a16 a17 a18 a19 H.size) (cwV 1 hts gX4_expand_X7_isSold rfl rfl rfl (by decide +kernel) ⟨Nat.le_of_ble_eq_true rfl, Nat.le_of_ble_eq_true rfl⟩) hK hP hD hE [4] rfl (by decide +kernel) 0 7 rfl rfl rfl rfl rfl hl.1 rfl (lv_room (Nat.le_of_ble_eq_true rfl)) dX4_expand_35 ⟨Nat.le_of_ble_eq_true rfl, Nat.le_of_ble_eq_true rfl⟩) hP hD hS hA [4] [0, 1, 2, 3] rfl rfl (by decide +kernel) (by decide +kernel) (fun r8 u7 H locs er8 hP hD hS => ?_)
  subst er8
  refine lv_if_eq (tgt := 66) hx hb dX4_expand_38 (by decide +kernel) (fun _ => ?_) (fun c => absurd (by decide +kernel) c)
  refine lv_aload_n hx hb dX4_expand_66 rfl (lv_at hl 2 rfl) ?_
  refine va_get (D := D) (ci := 4) (v := .ref a6) (C := RX4) (T := TX4) (N := 13) hx hb hts (gt_c iG_X4) hown hK hP 0 rfl rfl 7 (by decide +kernel) w_3 (fun _ h9 => h9) rfl dX4_expand_67 ?_
  refine lv_iload_n hx hb dX4_expand_70 rfl (lv_at hl 3 rfl) ?_
  refine lv_bipush (v := 8) hx hb dX4_expand_71 (by decide +kernel) ?_
  refine lv_imul hx hb dX4_expand_73 ?_
  refine nv_i (v := 0) (by decide +kernel) ?_
  refine lv_iload_n hx hb dX4_expand_74 rfl (lv_at hl 1 rfl) ?_
  refine lv_iadd hx hb dX4_expand_75 ?_
  refine nv_i (v := 3) (by decide +kernel) ?_
  refine lv_iconst (v := 1) hx hb dX4_expand_76 (by decide +kernel) ?_
  refine lv_isub hx hb dX4_expand_77 ?_
  refine nv_i (v := 2) (by decide +kernel) ?_
  refine lv_iload_n hx hb dX4_expand_78 rfl (lv_at hl 0 rfl) ?_
  refine nb_iast (ws' := [(a0, .inr (4, [.ref a1, .ref a2, .ref a3, .int 1, .int 1, .ref a4, .ref a5, .ref a6, .ref a7, .ref a8, .ref a9, .ref a10, .ref a11])), (a2, .inl (y 0, 2000, .inl nz)), (a5, .inl (y 2, 2000, .inl (upd nz 0 1))), (a6, .inl (y 0, 16000, .inl (upd (upd (upd nz 0 (-1)) 1 (-1)) 2 (-1)))), (a11, .inr (7, [.ref a12, .ref a13, .ref a14, .ref a15, .int 0, .int 0, .ref a16, .ref a17, .ref a18, .ref a19]))]) hx hb hK hP hD hS 3 0 rfl rfl (n_in (by decide +kernel)) rfl dX4_expand_79 (fun H locs hP hD hS => ?_)
  refine lv_iinc (v := 4) (lv' := [(2, .int 4), (3, .int (-1)), (0, .ref a0), (1, .int 0)]) hx hb dX4_expand_80 hl (k := 1) rfl (by decide +kernel) (by decide +kernel) rfl (fun ls hl => ?_)
  refine lv_goto (tgt := 22) hx hb dX4_expand_83 (by decide +kernel) ?_
  refine lv_iload_n hx hb dX4_expand_22 rfl (lv_at hl 0 rfl) ?_
  refine lv_bipush (v := 8) hx hb dX4_expand_23 (by decide +kernel) ?_
  refine lv_icmp_gt (tgt := 86) hx hb dX4_expand_25 (by decide +kernel) (fun c => absurd c (by decide +kernel)) (fun _ => ?_)
  refine lv_iconst (v := (-1)) hx hb dX4_expand_28 (by decide +kernel) ?_
  refine lv_istore_n (lv' := [(3, .int (-1)), (2, .int 4), (0, .ref a0), (1, .int 0)]) hx hb dX4_expand_29 rfl hl (by decide +kernel) rfl (fun ls hl => ?_)
  refine lv_aload_n hx hb dX4_expand_30 rfl (lv_at hl 2 rfl) ?_
  refine va_get (D := D) (ci := 4) (v := .ref a11) (C := RX4) (T := TX4) (N := 13) hx hb hts (gt_c iG_X4) hown hK hP 0 rfl rfl 12 (by decide +kernel) w_1 (fun _ h9 => h9) rfl dX4_expand_31 ?_
  refine lv_iload_n hx hb dX4_expand_34 rfl (lv_at hl 1 rfl) ?_
  refine nj_i (ws := [(a0, .inr (4, [.ref a1, .ref a2, .ref a3, .int 1, .int 1, .ref a4, .ref a5, .ref a6, .ref a7, .ref a8, .ref a9, .ref a10, .ref a11])), (a2, .inl (y 0, 2000, .inl nz)), (a5, .inl (y 2, 2000, .inl (upd nz 0 1))), (a6, .inl (y 0, 16000, .inl (upd (upd (upd nz 0 (-1)) 1 (-1)) 2 (-1)))), (a11, .inr (7, [.ref a12, .ref a13, .ref a14, .ref a15, .int 0, .int 0, .ref a16, .ref a17, .ref a18, .ref a19]))]) (wc := [(a11, .inr (7, [.ref a12, .ref a13, .ref a14, .ref a15, .int 0, .int 0, .ref a16, .ref a17, .ref a18, .ref a19]))]) (wr := [(a0, .inr (4, [.ref a1, .ref a2, .ref a3, .int 1, .int 1, .ref a4, .ref a5, .ref a6, .ref a7, .ref a8, .ref a9, .ref a10, .ref a11])), (a2, .inl (y 0, 2000, .inl nz)), (a5, .inl (y 2, 2000, .inl (upd nz 0 1))), (a6, .inl (y 0, 16000, .inl (upd (upd (upd nz 0 (-1)) 1 (-1)) 2 (-1))))]) (nr_V (As := [.int 4]) (rest := []) ⟨hx, hb, hml, hown, hts⟩ (cX7_isSold_2 l D y a11 4 (by decide +kernel) a12 a13 a14 a15 a16 a17 a18 a19 H.size) (cwV 1 hts gX4_expand_X7_isSold rfl rfl rfl (by decide +kernel) ⟨Nat.le_of_ble_eq_true rfl, Nat.le_of_ble_eq_true rfl⟩) hK hP hD hE [4] rfl (by decide +kernel) 0 7 rfl rfl rfl rfl rfl hl.1 rfl (lv_room (Nat.le_of_ble_eq_true rfl)) dX4_expand_35 ⟨Nat.le_of_ble_eq_true rfl, Nat.le_of_ble_eq_true rfl⟩) hP hD hS hA [4] [0, 1, 2, 3] rfl rfl (by decide +kernel) (by decide +kernel) (fun r10 u9 H locs er10 hP hD hS => ?_)
  subst er10
  refine lv_if_eq (tgt := 66) hx hb dX4_expand_38 (by decide +kernel) (fun _ => ?_) (fun c => absurd (by decide +kernel) c)
  refine lv_aload_n hx hb dX4_expand_66 rfl (lv_at hl 2 rfl) ?_
  refine va_get (D := D) (ci := 4) (v := .ref a6) (C := RX4) (T := TX4) (N := 13) hx hb hts (gt_c iG_X4) hown hK hP 0 rfl rfl 7 (by decide +kernel) w_3 (fun _ h9 => h9) rfl dX4_expand_67 ?_
  refine lv_iload_n hx hb dX4_expand_70 rfl (lv_at hl 3 rfl) ?_
  refine lv_bipush (v := 8) hx hb dX4_expand_71 (by decide +kernel) ?_
  refine lv_imul hx hb dX4_expand_73 ?_
  refine nv_i (v := 0) (by decide +kernel) ?_
  refine lv_iload_n hx hb dX4_expand_74 rfl (lv_at hl 1 rfl) ?_
  refine lv_iadd hx hb dX4_expand_75 ?_
  refine nv_i (v := 4) (by decide +kernel) ?_
  refine lv_iconst (v := 1) hx hb dX4_expand_76 (by decide +kernel) ?_
  refine lv_isub hx hb dX4_expand_77 ?_
  refine nv_i (v := 3) (by decide +kernel) ?_
  refine lv_iload_n hx hb dX4_expand_78 rfl (lv_at hl 0 rfl) ?_
  refine nb_iast (ws' := [(a0, .inr (4, [.ref a1, .ref a2, .ref a3, .int 1, .int 1, .ref a4, .ref a5, .ref a6, .ref a7, .ref a8, .ref a9, .ref a10, .ref a11])), (a2, .inl (y 0, 2000, .inl nz)), (a5, .inl (y 2, 2000, .inl (upd nz 0 1))), (a6, .inl (y 0, 16000, .inl (upd (upd (upd (upd nz 0 (-1)) 1 (-1)) 2 (-1)) 3 (-1)))), (a11, .inr (7, [.ref a12, .ref a13, .ref a14, .ref a15, .int 0, .int 0, .ref a16, .ref a17, .ref a18, .ref a19]))]) hx hb hK hP hD hS 3 0 rfl rfl (n_in (by decide +kernel)) rfl dX4_expand_79 (fun H locs hP hD hS => ?_)
  refine lv_iinc (v := 5) (lv' := [(2, .int 5), (3, .int (-1)), (0, .ref a0), (1, .int 0)]) hx hb dX4_expand_80 hl (k := 1) rfl (by decide +kernel) (by decide +kernel) rfl (fun ls hl => ?_)
  refine lv_goto (tgt := 22) hx hb dX4_expand_83 (by decide +kernel) ?_
  refine lv_iload_n hx hb dX4_expand_22 rfl (lv_at hl 0 rfl) ?_
  refine lv_bipush (v := 8) hx hb dX4_expand_23 (by decide +kernel) ?_
  refine lv_icmp_gt (tgt := 86) hx hb dX4_expand_25 (by decide +kernel) (fun c => absurd c (by decide +kernel)) (fun _ => ?_)
  refine lv_iconst (v := (-1)) hx hb dX4_expand_28 (by decide +kernel) ?_
  refine lv_istore_n (lv' := [(3, .int (-1)), (2, .int 5), (0, .ref a0), (1, .int 0)]) hx hb dX4_expand_29 rfl hl (by decide +kernel) rfl (fun ls hl => ?_)
  refine lv_aload_n hx hb dX4_expand_30 rfl (lv_at hl 2 rfl) ?_
  refine va_get (D := D) (ci := 4) (v := .ref a11) (C := RX4) (T := TX4) (N := 13) hx hb hts (gt_c iG_X4) hown hK hP 0 rfl rfl 12 (by decide +kernel) w_1 (fun _ h9 => h9) rfl dX4_expand_31 ?_
  refine lv_iload_n hx hb dX4_expand_34 rfl (lv_at hl 1 rfl) ?_
  refine nj_i (ws := [(a0, .inr (4, [.ref a1, .ref a2, .ref a3, .int 1, .int 1, .ref a4, .ref a5, .ref a6, .ref a7, .ref a8, .ref a9, .ref a10, .ref a11])), (a2, .inl (y 0, 2000, .inl nz)), (a5, .inl (y 2, 2000, .inl (upd nz 0 1))), (a6, .inl (y 0, 16000, .inl (upd (upd (upd (upd nz 0 (-1)) 1 (-1)) 2 (-1)) 3 (-1)))), (a11, .inr (7, [.ref a12, .ref a13, .ref a14, .ref a15, .int 0, .int 0, .ref a16, .ref a17, .ref a18, .ref a19]))]) (wc := [(a11, .inr (7, [.ref a12, .ref a13, .ref a14, .ref a15, .int 0, .int 0, .ref a16, .ref a17, .ref a18, .ref a19]))]) (wr := [(a0, .inr (4, [.ref a1, .ref a2, .ref a3, .int 1, .int 1, .ref a4, .ref a5, .ref a6, .ref a7, .ref a8, .ref a9, .ref a10, .ref a11])), (a2, .inl (y 0, 2000, .inl nz)), (a5, .inl (y 2, 2000, .inl (upd nz 0 1))), (a6, .inl (y 0, 16000, .inl (upd (upd (upd (upd nz 0 (-1)) 1 (-1)) 2 (-1)) 3 (-1))))]) (nr_V (As := [.int 5]) (rest := []) ⟨hx, hb, hml, hown, hts⟩ (cX7_isSold_2 l D y a11 5 (by decide +kernel) a12 a13 a14 a15 a16 a17 a18 a19 H.size) (cwV 1 hts gX4_expand_X7_isSold rfl rfl rfl (by decide +kernel) ⟨Nat.le_of_ble_eq_true rfl, Nat.le_of_ble_eq_true rfl⟩) hK hP hD hE [4] rfl (by decide +kernel) 0 7 rfl rfl rfl rfl rfl hl.1 rfl (lv_room (Nat.le_of_ble_eq_true rfl)) dX4_expand_35 ⟨Nat.le_of_ble_eq_true rfl, Nat.le_of_ble_eq_true rfl⟩) hP hD hS hA [4] [0, 1, 2, 3] rfl rfl (by decide +kernel) (by decide +kernel) (fun r12 u11 H locs er12 hP hD hS => ?_)
  subst er12
  refine lv_if_eq (tgt := 66) hx hb dX4_expand_38 (by decide +kernel) (fun _ => ?_) (fun c => absurd (by decide +kernel) c)
  refine lv_aload_n hx hb dX4_expand_66 rfl (lv_at hl 2 rfl) ?_
  refine va_get (D := D) (ci := 4) (v := .ref a6) (C := RX4) (T := TX4) (N := 13) hx hb hts (gt_c iG_X4) hown hK hP 0 rfl rfl 7 (by decide +kernel) w_3 (fun _ h9 => h9) rfl dX4_expand_67 ?_
  refine lv_iload_n hx hb dX4_expand_70 rfl (lv_at hl 3 rfl) ?_
  refine lv_bipush (v := 8) hx hb dX4_expand_71 (by decide +kernel) ?_
  refine lv_imul hx hb dX4_expand_73 ?_
  refine nv_i (v := 0) (by decide +kernel) ?_
  refine lv_iload_n hx hb dX4_expand_74 rfl (lv_at hl 1 rfl) ?_
  refine lv_iadd hx hb dX4_expand_75 ?_
  refine nv_i (v := 5) (by decide +kernel) ?_
  refine lv_iconst (v := 1) hx hb dX4_expand_76 (by decide +kernel) ?_
  refine lv_isub hx hb dX4_expand_77 ?_
  refine nv_i (v := 4) (by decide +kernel) ?_
  refine lv_iload_n hx hb dX4_expand_78 rfl (lv_at hl 0 rfl) ?_
  refine nb_iast (ws' := [(a0, .inr (4, [.ref a1, .ref a2, .ref a3, .int 1, .int 1, .ref a4, .ref a5, .ref a6, .ref a7, .ref a8, .ref a9, .ref a10, .ref a11])), (a2, .inl (y 0, 2000, .inl nz)), (a5, .inl (y 2, 2000, .inl (upd nz 0 1))), (a6, .inl (y 0, 16000, .inl (upd (upd (upd (upd (upd nz 0 (-1)) 1 (-1)) 2 (-1)) 3 (-1)) 4 (-1)))), (a11, .inr (7, [.ref a12, .ref a13, .ref a14, .ref a15, .int 0, .int 0, .ref a16, .ref a17, .ref a18, .ref a19]))]) hx hb hK hP hD hS 3 0 rfl rfl (n_in (by decide +kernel)) rfl dX4_expand_79 (fun H locs hP hD hS => ?_)
  refine lv_iinc (v := 6) (lv' := [(2, .int 6), (3, .int (-1)), (0, .ref a0), (1, .int 0)]) hx hb dX4_expand_80 hl (k := 1) rfl (by decide +kernel) (by decide +kernel) rfl (fun ls hl => ?_)
  refine lv_goto (tgt := 22) hx hb dX4_expand_83 (by decide +kernel) ?_
  refine lv_iload_n hx hb dX4_expand_22 rfl (lv_at hl 0 rfl) ?_
  refine lv_bipush (v := 8) hx hb dX4_expand_23 (by decide +kernel) ?_
  refine lv_icmp_gt (tgt := 86) hx hb dX4_expand_25 (by decide +kernel) (fun c => absurd c (by decide +kernel)) (fun _ => ?_)
  refine lv_iconst (v := (-1)) hx hb dX4_expand_28 (by decide +kernel) ?_
  refine lv_istore_n (lv' := [(3, .int (-1)), (2, .int 6), (0, .ref a0), (1, .int 0)]) hx hb dX4_expand_29 rfl hl (by decide +kernel) rfl (fun ls hl => ?_)
  refine lv_aload_n hx hb dX4_expand_30 rfl (lv_at hl 2 rfl) ?_
  refine va_get (D := D) (ci := 4) (v := .ref a11) (C := RX4) (T := TX4) (N := 13) hx hb hts (gt_c iG_X4) hown hK hP 0 rfl rfl 12 (by decide +kernel) w_1 (fun _ h9 => h9) rfl dX4_expand_31 ?_
  refine lv_iload_n hx hb dX4_expand_34 rfl (lv_at hl 1 rfl) ?_
  refine nj_i (ws := [(a0, .inr (4, [.ref a1, .ref a2, .ref a3, .int 1, .int 1, .ref a4, .ref a5, .ref a6, .ref a7, .ref a8, .ref a9, .ref a10, .ref a11])), (a2, .inl (y 0, 2000, .inl nz)), (a5, .inl (y 2, 2000, .inl (upd nz 0 1))), (a6, .inl (y 0, 16000, .inl (upd (upd (upd (upd (upd nz 0 (-1)) 1 (-1)) 2 (-1)) 3 (-1)) 4 (-1)))), (a11, .inr (7, [.ref a12, .ref a13, .ref a14, .ref a15, .int 0, .int 0, .ref a16, .ref a17, .ref a18, .ref a19]))]) (wc := [(a11, .inr (7, [.ref a12, .ref a13, .ref a14, .ref a15, .int 0, .int 0, .ref a16, .ref a17, .ref a18, .ref a19]))]) (wr := [(a0, .inr (4, [.ref a1, .ref a2, .ref a3, .int 1, .int 1, .ref a4, .ref a5, .ref a6, .ref a7, .ref a8, .ref a9, .ref a10, .ref a11])), (a2, .inl (y 0, 2000, .inl nz)), (a5, .inl (y 2, 2000, .inl (upd nz 0 1))), (a6, .inl (y 0, 16000, .inl (upd (upd (upd (upd (upd nz 0 (-1)) 1 (-1)) 2 (-1)) 3 (-1)) 4 (-1))))]) (nr_V (As := [.int 6]) (rest := []) ⟨hx, hb, hml, hown, hts⟩ (cX7_isSold_2 l D y a11 6 (by decide +kernel) a12 a13 a14 a15 a16 a17 a18 a19 H.size) (cwV 1 hts gX4_expand_X7_isSold rfl rfl rfl (by decide +kernel) ⟨Nat.le_of_ble_eq_true rfl, Nat.le_of_ble_eq_true rfl⟩) hK hP hD hE [4] rfl (by decide +kernel) 0 7 rfl rfl rfl rfl rfl hl.1 rfl (lv_room (Nat.le_of_ble_eq_true rfl)) dX4_expand_35 ⟨Nat.le_of_ble_eq_true rfl, Nat.le_of_ble_eq_true rfl⟩) hP hD hS hA [4] [0, 1, 2, 3] rfl rfl (by decide +kernel) (by decide +kernel) (fun r14 u13 H locs er14 hP hD hS => ?_)
  subst er14
  refine lv_if_eq (tgt := 66) hx hb dX4_expand_38 (by decide +kernel) (fun _ => ?_) (fun c => absurd (by decide +kernel) c)
  refine lv_aload_n hx hb dX4_expand_66 rfl (lv_at hl 2 rfl) ?_
  refine va_get (D := D) (ci := 4) (v := .ref a6) (C := RX4) (T := TX4) (N := 13) hx hb hts (gt_c iG_X4) hown hK hP 0 rfl rfl 7 (by decide +kernel) w_3 (fun _ h9 => h9) rfl dX4_expand_67 ?_
  refine lv_iload_n hx hb dX4_expand_70 rfl (lv_at hl 3 rfl) ?_
  refine lv_bipush (v := 8) hx hb dX4_expand_71 (by decide +kernel) ?_
  refine lv_imul hx hb dX4_expand_73 ?_
  refine nv_i (v := 0) (by decide +kernel) ?_
  refine lv_iload_n hx hb dX4_expand_74 rfl (lv_at hl 1 rfl) ?_
  refine lv_iadd hx hb dX4_expand_75 ?_
  refine nv_i (v := 6) (by decide +kernel) ?_
  refine lv_iconst (v := 1) hx hb dX4_expand_76 (by decide +kernel) ?_
  refine lv_isub hx hb dX4_expand_77 ?_
  refine nv_i (v := 5) (by decide +kernel) ?_
  refine lv_iload_n hx hb dX4_expand_78 rfl (lv_at hl 0 rfl) ?_
  refine nb_iast (ws' := [(a0, .inr (4, [.ref a1, .ref a2, .ref a3, .int 1, .int 1, .ref a4, .ref a5, .ref a6, .ref a7, .ref a8, .ref a9, .ref a10, .ref a11])), (a2, .inl (y 0, 2000, .inl nz)), (a5, .inl (y 2, 2000, .inl (upd nz 0 1))), (a6, .inl (y 0, 16000, .inl (upd (upd (upd (upd (upd (upd nz 0 (-1)) 1 (-1)) 2 (-1)) 3 (-1)) 4 (-1)) 5 (-1)))), (a11, .inr (7, [.ref a12, .ref a13, .ref a14, .ref a15, .int 0, .int 0, .ref a16, .ref a17, .ref a18, .ref a19]))]) hx hb hK hP hD hS 3 0 rfl rfl (n_in (by decide +kernel)) rfl dX4_expand_79 (fun H locs hP hD hS => ?_)
  refine lv_iinc (v := 7) (lv' := [(2, .int 7), (3, .int (-1)), (0, .ref a0), (1, .int 0)]) hx hb dX4_expand_80 hl (k := 1) rfl (by decide +kernel) (by decide +kernel) rfl (fun ls hl => ?_)
  refine lv_goto (tgt := 22) hx hb dX4_expand_83 (by decide +kernel) ?_
  refine lv_iload_n hx hb dX4_expand_22 rfl (lv_at hl 0 rfl) ?_
  refine lv_bipush (v := 8) hx hb dX4_expand_23 (by decide +kernel) ?_
  refine lv_icmp_gt (tgt := 86) hx hb dX4_expand_25 (by decide +kernel) (fun c => absurd c (by decide +kernel)) (fun _ => ?_)
  refine lv_iconst (v := (-1)) hx hb dX4_expand_28 (by decide +kernel) ?_
  refine lv_istore_n (lv' := [(3, .int (-1)), (2, .int 7), (0, .ref a0), (1, .int 0)]) hx hb dX4_expand_29 rfl hl (by decide +kernel) rfl (fun ls hl => ?_)
  refine lv_aload_n hx hb dX4_expand_30 rfl (lv_at hl 2 rfl) ?_
  refine va_get (D := D) (ci := 4) (v := .ref a11) (C := RX4) (T := TX4) (N := 13) hx hb hts (gt_c iG_X4) hown hK hP 0 rfl rfl 12 (by decide +kernel) w_1 (fun _ h9 => h9) rfl dX4_expand_31 ?_
  refine lv_iload_n hx hb dX4_expand_34 rfl (lv_at hl 1 rfl) ?_
  refine nj_i (ws := [(a0, .inr (4, [.ref a1, .ref a2, .ref a3, .int 1, .int 1, .ref a4, .ref a5, .ref a6, .ref a7, .ref a8, .ref a9, .ref a10, .ref a11])), (a2, .inl (y 0, 2000, .inl nz)), (a5, .inl (y 2, 2000, .inl (upd nz 0 1))), (a6, .inl (y 0, 16000, .inl (upd (upd (upd (upd (upd (upd nz 0 (-1)) 1 (-1)) 2 (-1)) 3 (-1)) 4 (-1)) 5 (-1)))), (a11, .inr (7, [.ref a12, .ref a13, .ref a14, .ref a15, .int 0, .int 0, .ref a16, .ref a17, .ref a18, .ref a19]))]) (wc := [(a11, .inr (7, [.ref a12, .ref a13, .ref a14, .ref a15, .int 0, .int 0, .ref a16, .ref a17, .ref a18, .ref a19]))]) (wr := [(a0, .inr (4, [.ref a1, .ref a2, .ref a3, .int 1, .int 1, .ref a4, .ref a5, .ref a6, .ref a7, .ref a8, .ref a9, .ref a10, .ref a11])), (a2, .inl (y 0, 2000, .inl nz)), (a5, .inl (y 2, 2000, .inl (upd nz 0 1))), (a6, .inl (y 0, 16000, .inl (upd (upd (upd (upd (upd (upd nz 0 (-1)) 1 (-1)) 2 (-1)) 3 (-1)) 4 (-1)) 5 (-1))))]) (nr_V (As := [.int 7]) (rest := []) ⟨hx, hb, hml, hown, hts⟩ (cX7_isSold_2 l D y a11 7 (by decide +kernel) a12 a13 a14 a15 a16 a17 a18 a19 H.size) (cwV 1 hts gX4_expand_X7_isSold rfl rfl rfl (by decide +kernel) ⟨Nat.le_of_ble_eq_true rfl, Nat.le_of_ble_eq_true rfl⟩) hK hP hD hE [4] rfl (by decide +kernel) 0 7 rfl rfl rfl rfl rfl hl.1 rfl (lv_room (Nat.le_of_ble_eq_true rfl)) dX4_expand_35 ⟨Nat.le_of_ble_eq_true rfl, Nat.le_of_ble_eq_true rfl⟩) hP hD hS hA [4] [0, 1, 2, 3] rfl rfl (by decide +kernel) (by decide +kernel) (fun r16 u15 H locs er16 hP hD hS => ?_)
  subst er16
  refine lv_if_eq (tgt := 66) hx hb dX4_expand_38 (by decide +kernel) (fun _ => ?_) (fun c => absurd (by decide +kernel) c)
  refine lv_aload_n hx hb dX4_expand_66 rfl (lv_at hl 2 rfl) ?_
  refine va_get (D := D) (ci := 4) (v := .ref a6) (C := RX4) (T := TX4) (N := 13) hx hb hts (gt_c iG_X4) hown hK hP 0 rfl rfl 7 (by decide +kernel) w_3 (fun _ h9 => h9) rfl dX4_expand_67 ?_
  refine lv_iload_n hx hb dX4_expand_70 rfl (lv_at hl 3 rfl) ?_
  refine lv_bipush (v := 8) hx hb dX4_expand_71 (by decide +kernel) ?_
  refine lv_imul hx hb dX4_expand_73 ?_
  refine nv_i (v := 0) (by decide +kernel) ?_
  refine lv_iload_n hx hb dX4_expand_74 rfl (lv_at hl 1 rfl) ?_
  refine lv_iadd hx hb dX4_expand_75 ?_
  refine nv_i (v := 7) (by decide +kernel) ?_
  refine lv_iconst (v := 1) hx hb dX4_expand_76 (by decide +kernel) ?_
  refine lv_isub hx hb dX4_expand_77 ?_
  refine nv_i (v := 6) (by decide +kernel) ?_
  refine lv_iload_n hx hb dX4_expand_78 rfl (lv_at hl 0 rfl) ?_
  refine nb_iast (ws' := [(a0, .inr (4, [.ref a1, .ref a2, .ref a3, .int 1, .int 1, .ref a4, .ref a5, .ref a6, .ref a7, .ref a8, .ref a9, .ref a10, .ref a11])), (a2, .inl (y 0, 2000, .inl nz)), (a5, .inl (y 2, 2000, .inl (upd nz 0 1))), (a6, .inl (y 0, 16000, .inl (upd (upd (upd (upd (upd (upd (upd nz 0 (-1)) 1 (-1)) 2 (-1)) 3 (-1)) 4 (-1)) 5 (-1)) 6 (-1)))), (a11, .inr (7, [.ref a12, .ref a13, .ref a14, .ref a15, .int 0, .int 0, .ref a16, .ref a17, .ref a18, .ref a19]))]) hx hb hK hP hD hS 3 0 rfl rfl (n_in (by decide +kernel)) rfl dX4_expand_79 (fun H locs hP hD hS => ?_)
  refine lv_iinc (v := 8) (lv' := [(2, .int 8), (3, .int (-1)), (0, .ref a0), (1, .int 0)]) hx hb dX4_expand_80 hl (k := 1) rfl (by decide +kernel) (by decide +kernel) rfl (fun ls hl => ?_)
  refine lv_goto (tgt := 22) hx hb dX4_expand_83 (by decide +kernel) ?_
  refine lv_iload_n hx hb dX4_expand_22 rfl (lv_at hl 0 rfl) ?_
  refine lv_bipush (v := 8) hx hb dX4_expand_23 (by decide +kernel) ?_
  refine lv_icmp_gt (tgt := 86) hx hb dX4_expand_25 (by decide +kernel) (fun c => absurd c (by decide +kernel)) (fun _ => ?_)
  refine lv_iconst (v := (-1)) hx hb dX4_expand_28 (by decide +kernel) ?_
  refine lv_istore_n (lv' := [(3, .int (-1)), (2, .int 8), (0, .ref a0), (1, .int 0)]) hx hb dX4_expand_29 rfl hl (by decide +kernel) rfl (fun ls hl => ?_)
  refine lv_aload_n hx hb dX4_expand_30 rfl (lv_at hl 2 rfl) ?_
  refine va_get (D := D) (ci := 4) (v := .ref a11) (C := RX4) (T := TX4) (N := 13) hx hb hts (gt_c iG_X4) hown hK hP 0 rfl rfl 12 (by decide +kernel) w_1 (fun _ h9 => h9) rfl dX4_expand_31 ?_
  refine lv_iload_n hx hb dX4_expand_34 rfl (lv_at hl 1 rfl) ?_
  refine nj_i (ws := [(a0, .inr (4, [.ref a1, .ref a2, .ref a3, .int 1, .int 1, .ref a4, .ref a5, .ref a6, .ref a7, .ref a8, .ref a9, .ref a10, .ref a11])), (a2, .inl (y 0, 2000, .inl nz)), (a5, .inl (y 2, 2000, .inl (upd nz 0 1))), (a6, .inl (y 0, 16000, .inl (upd (upd (upd (upd (upd (upd (upd nz 0 (-1)) 1 (-1)) 2 (-1)) 3 (-1)) 4 (-1)) 5 (-1)) 6 (-1)))), (a11, .inr (7, [.ref a12, .ref a13, .ref a14, .ref a15, .int 0, .int 0, .ref a16, .ref a17, .ref a18, .ref a19]))]) (wc := [(a11, .inr (7, [.ref a12, .ref a13, .ref a14, .ref a15, .int 0, .int 0, .ref a16, .ref a17, .ref a18, .ref a19]))]) (wr := [(a0, .inr (4, [.ref a1, .ref a2, .ref a3, .int 1, .int 1, .ref a4, .ref a5, .ref a6, .ref a7, .ref a8, .ref a9, .ref a10, .ref a11])), (a2, .inl (y 0, 2000, .inl nz)), (a5, .inl (y 2, 2000, .inl (upd nz 0 1))), (a6, .inl (y 0, 16000, .inl (upd (upd (upd (upd (upd (upd (upd nz 0 (-1)) 1 (-1)) 2 (-1)) 3 (-1)) 4 (-1)) 5 (-1)) 6 (-1))))]) (nr_V (As := [.int 8]) (rest := []) ⟨hx, hb, hml, hown, hts⟩ (cX7_isSold_2 l D y a11 8 (by decide +kernel) a12 a13 a14 a15 a16 a17 a18 a19 H.size) (cwV 1 hts gX4_expand_X7_isSold rfl rfl rfl (by decide +kernel) ⟨Nat.le_of_ble_eq_true rfl, Nat.le_of_ble_eq_true rfl⟩) hK hP hD hE [4] rfl (by decide +kernel) 0 7 rfl rfl rfl rfl rfl hl.1 rfl (lv_room (Nat.le_of_ble_eq_true rfl)) dX4_expand_35 ⟨Nat.le_of_ble_eq_true rfl, Nat.le_of_ble_eq_true rfl⟩) hP hD hS hA [4] [0, 1, 2, 3] rfl rfl (by decide +kernel) (by decide +kernel) (fun r18 u17 H locs er18 hP hD hS => ?_)
  subst er18
  refine lv_if_eq (tgt := 66) hx hb dX4_expand_38 (by decide +kernel) (fun _ => ?_) (fun c => absurd (by decide +kernel) c)
  refine lv_aload_n hx hb dX4_expand_66 rfl (lv_at hl 2 rfl) ?_
  refine va_get (D := D) (ci := 4) (v := .ref a6) (C := RX4) (T := TX4) (N := 13) hx hb hts (gt_c iG_X4) hown hK hP 0 rfl rfl 7 (by decide +kernel) w_3 (fun _ h9 => h9) rfl dX4_expand_67 ?_
  refine lv_iload_n hx hb dX4_expand_70 rfl (lv_at hl 3 rfl) ?_
  refine lv_bipush (v := 8) hx hb dX4_expand_71 (by decide +kernel) ?_
  refine lv_imul hx hb dX4_expand_73 ?_
  refine nv_i (v := 0) (by decide +kernel) ?_
  refine lv_iload_n hx hb dX4_expand_74 rfl (lv_at hl 1 rfl) ?_
  refine lv_iadd hx hb dX4_expand_75 ?_
  refine nv_i (v := 8) (by decide +kernel) ?_
  refine lv_iconst (v := 1) hx hb dX4_expand_76 (by decide +kernel) ?_
  refine lv_isub hx hb dX4_expand_77 ?_
  refine nv_i (v := 7) (by decide +kernel) ?_
  refine lv_iload_n hx hb dX4_expand_78 rfl (lv_at hl 0 rfl) ?_
  refine nb_iast (ws' := [(a0, .inr (4, [.ref a1, .ref a2, .ref a3, .int 1, .int 1, .ref a4, .ref a5, .ref a6, .ref a7, .ref a8, .ref a9, .ref a10, .ref a11])), (a2, .inl (y 0, 2000, .inl nz)), (a5, .inl (y 2, 2000, .inl (upd nz 0 1))), (a6, .inl (y 0, 16000, .inl (upd (upd (upd (upd (upd (upd (upd (upd nz 0 (-1)) 1 (-1)) 2 (-1)) 3 (-1)) 4 (-1)) 5 (-1)) 6 (-1)) 7 (-1)))), (a11, .inr (7, [.ref a12, .ref a13, .ref a14, .ref a15, .int 0, .int 0, .ref a16, .ref a17, .ref a18, .ref a19]))]) hx hb hK hP hD hS 3 0 rfl rfl (n_in (by decide +kernel)) rfl dX4_expand_79 (fun H locs hP hD hS => ?_)
  refine lv_iinc (v := 9) (lv' := [(2, .int 9), (3, .int (-1)), (0, .ref a0), (1, .int 0)]) hx hb dX4_expand_80 hl (k := 1) rfl (by decide +kernel) (by decide +kernel) rfl (fun ls hl => ?_)
  refine lv_goto (tgt := 22) hx hb dX4_expand_83 (by decide +kernel) ?_
  refine lv_iload_n hx hb dX4_expand_22 rfl (lv_at hl 0 rfl) ?_
  refine lv_bipush (v := 8) hx hb dX4_expand_23 (by decide +kernel) ?_
  refine lv_icmp_gt (tgt := 86) hx hb dX4_expand_25 (by decide +kernel) (fun _ => ?_) (fun c => absurd (by decide +kernel) c)
  refine W.widen (k := 0) (n := 0) (Nat.le_of_ble_eq_true rfl) (Nat.le_of_ble_eq_true rfl) ?_
  exact W.vret hx hb hr (fun t ht hW => ⟨⟨(fun _ => 0), rfl, trivial, by rw [ht]; exact hP, va_K.moved hW.alike hK, hD⟩, hS.F ht⟩) hS.2.2 dX4_expand_86 hlocks
set_option maxRecDepth 100000 in
set_option maxHeartbeats 4000000 in
theorem cX4_explore_1 (l : Launch) (D : va_G) (y : Nat → ClassId) (a0 : Nat) (a1 : Nat) (a2 : Nat) (a3 : Nat) (a4 : Nat) (a5 : Nat) (a6 : Nat) (a7 : Nat) (a8 : Nat) (a9 : Nat) (a10 : Nat) (a11 : Nat) (a12 : Nat) (a13 : Nat) (a14 : Nat) (a15 : Nat) (a16 : Nat) (a17 : Nat) (a18 : Nat) (a19 : Nat) (a20 : Nat) (a21 : Nat) (a22 : Nat) (a23 : Nat) (a24 : Nat) (a25 : Nat) (a26 : Nat) (a27 : Nat) (a28 : Nat) (a29 : Nat) (a30 : Nat) (a31 : Nat) (sz : Nat) : Met l yX4_explore wsX4_explore { frames := 4, cells := 0, slots := 0, locals := 248 } (nPc D y nT [.ref a0, .ref a1] [(a0, .inr (4, [.ref a2, .ref a3, .ref a4, .int 0, .int 0, .ref a5, .ref a6, .ref a7, .ref a8, .ref a9, .ref a10, .ref a11, .ref a12])), (a12, .inr (7, [.ref a13, .ref a14, .ref a15, .ref a16, .int 0, .int 0, .ref a17, .ref a18, .ref a19, .ref a20])), (a1, .inr (7, [.ref a21, .ref a22, .ref a23, .ref a24, .int 0, .int 0, .ref a25, .ref a26, .ref a27, .ref a20])), (a21, .inl (y 0, 9, .inl nz)), (a13, .inl (y 0, 9, .inl nz)), (a22, .inl (y 0, 9, .inl nz)), (a14, .inl (y 0, 9, .inl nz)), (a23, .inl (y 0, 9, .inl nz)), (a15, .inl (y 0, 9, .inl nz)), (a16, .inl (y 0, 4, .inl (upd nz 2 99))), (a24, .inl (y 0, 4, .inl (upd nz 2 99))), (a25, .inl (y 0, 9, .inl nz)), (a17, .inl (y 0, 9, .inl nz)), (a26, .inl (y 0, 9, .inl nz)), (a18, .inl (y 0, 9, .inl nz)), (a27, .inl (y 0, 9, .inl nz)), (a19, .inl (y 0, 9, .inl nz)), (a11, .inl (y 0, 4096, .inl nz)), (a2, .inr (2, [.ref a28, .ref a29, .ref a30, .ref a31])), (a28, .inl (y 0, 2001, .inl nz)), (a29, .inl (y 1, 2001, .inr (.inl nzl))), (a30, .inl (y 1, 2001, .inr (.inl nzl))), (a31, .inl (y 1, 2001, .inr (.inl nzl))), (a5, .inl (y 0, 2001, .inl nz)), (a3, .inl (y 0, 2000, .inl nz)), (a6, .inl (y 2, 2000, .inl nz)), (a7, .inl (y 0, 16000, .inl nz))] sz) ((fun A => nQv D y (fun _ => True) (fun u => [(a5, .inl (y 0, 2001, .inl nz)), (a21, .inl (y 0, 9, .inl nz)), (a13, .inl (y 0, 9, .inl nz)), (a16, .inl (y 0, 4, .inl (upd nz 2 99))), (a24, .inl (y 0, 4, .inl (upd nz 2 99))), (a25, .inl (y 0, 9, .inl nz)), (a17, .inl (y 0, 9, .inl nz)), (a26, .inl (y 0, 9, .inl nz)), (a18, .inl (y 0, 9, .inl nz)), (a27, .inl (y 0, 9, .inl nz)), (a19, .inl (y 0, 9, .inl nz)), (a22, .inl (y 0, 9, .inl nz)), (a23, .inl (y 0, 9, .inl nz)), (a1, .inr (7, [.ref a21, .ref a22, .ref a23, .ref a24, .int 0, .int 0, .ref a25, .ref a26, .ref a27, .ref a20])), (a11, .inl (y 0, 4096, .inl (upd nz 3476 1))), (a28, .inl (y 0, 2001, .inl (upd nz 0 1))), (a14, .inl (y 0, 9, .inl nz)), (a31, .inl (y 1, 2001, .inr (.inl nzl))), (a15, .inl (y 0, 9, .inl nz)), (a29, .inl (y 1, 2001, .inr (.inl nzl))), (a2, .inr (2, [.ref a28, .ref a29, .ref a30, .ref a31])), (a30, .inl (y 1, 2001, .inr (.inl nzl))), (a0, .inr (4, [.ref a2, .ref a3, .ref a4, .int 1, .int 1, .ref a5, .ref a6, .ref a7, .ref a8, .ref a9, .ref a10, .ref a11, .ref a12])), (a3, .inl (y 0, 2000, .inl nz)), (a6, .inl (y 2, 2000, .inl (upd nz 0 1))), (a7, .inl (y 0, 16000, .inl (upd (upd (upd (upd (upd (upd (upd (upd nz 0 (-1)) 1 (-1)) 2 (-1)) 3 (-1)) 4 (-1)) 5 (-1)) 6 (-1)) 7 (-1)))), (a12, .inr (7, [.ref a13, .ref a14, .ref a15, .ref a16, .int 0, .int 0, .ref a17, .ref a18, .ref a19, .ref a20]))]) A) (va_A [(a0, .inr (4, [.ref a2, .ref a3, .ref a4, .int 0, .int 0, .ref a5, .ref a6, .ref a7, .ref a8, .ref a9, .ref a10, .ref a11, .ref a12])), (a12, .inr (7, [.ref a13, .ref a14, .ref a15, .ref a16, .int 0, .int 0, .ref a17, .ref a18, .ref a19, .ref a20])), (a1, .inr (7, [.ref a21, .ref a22, .ref a23, .ref a24, .int 0, .int 0, .ref a25, .ref a26, .ref a27, .ref a20])), (a21, .inl (y 0, 9, .inl nz)), (a13, .inl (y 0, 9, .inl nz)), (a22, .inl (y 0, 9, .inl nz)), (a14, .inl (y 0, 9, .inl nz)), (a23, .inl (y 0, 9, .inl nz)), (a15, .inl (y 0, 9, .inl nz)), (a16, .inl (y 0, 4, .inl (upd nz 2 99))), (a24, .inl (y 0, 4, .inl (upd nz 2 99))), (a25, .inl (y 0, 9, .inl nz)), (a17, .inl (y 0, 9, .inl nz)), (a26, .inl (y 0, 9, .inl nz)), (a18, .inl (y 0, 9, .inl nz)), (a27, .inl (y 0, 9, .inl nz)), (a19, .inl (y 0, 9, .inl nz)), (a11, .inl (y 0, 4096, .inl nz)), (a2, .inr (2, [.ref a28, .ref a29, .ref a30, .ref a31])), (a28, .inl (y 0, 2001, .inl nz)), (a29, .inl (y 1, 2001, .inr (.inl nzl))), (a30, .inl (y 1, 2001, .inr (.inl nzl))), (a31, .inl (y 1, 2001, .inr (.inl nzl))), (a5, .inl (y 0, 2001, .inl nz)), (a3, .inl (y 0, 2000, .inl nz)), (a6, .inl (y 2, 2000, .inl nz)), (a7, .inl (y 0, 16000, .inl nz))] sz)) 0 0 (va_A [(a0, .inr (4, [.ref a2, .ref a3, .ref a4, .int 0, .int 0, .ref a5, .ref a6, .ref a7, .ref a8, .ref a9, .ref a10, .ref a11, .ref a12])), (a12, .inr (7, [.ref a13, .ref a14, .ref a15, .ref a16, .int 0, .int 0, .ref a17, .ref a18, .ref a19, .ref a20])), (a1, .inr (7, [.ref a21, .ref a22, .ref a23, .ref a24, .int 0, .int 0, .ref a25, .ref a26, .ref a27, .ref a20])), (a21, .inl (y 0, 9, .inl nz)), (a13, .inl (y 0, 9, .inl nz)), (a22, .inl (y 0, 9, .inl nz)), (a14, .inl (y 0, 9, .inl nz)), (a23, .inl (y 0, 9, .inl nz)), (a15, .inl (y 0, 9, .inl nz)), (a16, .inl (y 0, 4, .inl (upd nz 2 99))), (a24, .inl (y 0, 4, .inl (upd nz 2 99))), (a25, .inl (y 0, 9, .inl nz)), (a17, .inl (y 0, 9, .inl nz)), (a26, .inl (y 0, 9, .inl nz)), (a18, .inl (y 0, 9, .inl nz)), (a27, .inl (y 0, 9, .inl nz)), (a19, .inl (y 0, 9, .inl nz)), (a11, .inl (y 0, 4096, .inl nz)), (a2, .inr (2, [.ref a28, .ref a29, .ref a30, .ref a31])), (a28, .inl (y 0, 2001, .inl nz)), (a29, .inl (y 1, 2001, .inr (.inl nzl))), (a30, .inl (y 1, 2001, .inr (.inl nzl))), (a31, .inl (y 1, 2001, .inr (.inl nzl))), (a5, .inl (y 0, 2001, .inl nz)), (a3, .inl (y 0, 2000, .inl nz)), (a6, .inl (y 2, 2000, .inl nz)), (a7, .inl (y 0, 16000, .inl nz))] sz) := by
  refine nm_ofW (D := D) (y := y) (E := nT) (yy := yX4_explore) (wsy := wsX4_explore) (rm := { frames := 4, cells := 0, slots := 0, locals := 248 }) (as := [.ref a0, .ref a1]) (ws := [(a0, .inr (4, [.ref a2, .ref a3, .ref a4, .int 0, .int 0, .ref a5, .ref a6, .ref a7, .ref a8, .ref a9, .ref a10, .ref a11, .ref a12])), (a12, .inr (7, [.ref a13, .ref a14, .ref a15, .ref a16, .int 0, .int 0, .ref a17, .ref a18, .ref a19, .ref a20])), (a1, .inr (7, [.ref a21, .ref a22, .ref a23, .ref a24, .int 0, .int 0, .ref a25, .ref a26, .ref a27, .ref a20])), (a21, .inl (y 0, 9, .inl nz)), (a13, .inl (y 0, 9, .inl nz)), (a22, .inl (y 0, 9, .inl nz)), (a14, .inl (y 0, 9, .inl nz)), (a23, .inl (y 0, 9, .inl nz)), (a15, .inl (y 0, 9, .inl nz)), (a16, .inl (y 0, 4, .inl (upd nz 2 99))), (a24, .inl (y 0, 4, .inl (upd nz 2 99))), (a25, .inl (y 0, 9, .inl nz)), (a17, .inl (y 0, 9, .inl nz)), (a26, .inl (y 0, 9, .inl nz)), (a18, .inl (y 0, 9, .inl nz)), (a27, .inl (y 0, 9, .inl nz)), (a19, .inl (y 0, 9, .inl nz)), (a11, .inl (y 0, 4096, .inl nz)), (a2, .inr (2, [.ref a28, .ref a29, .ref a30, .ref a31])), (a28, .inl (y 0, 2001, .inl nz)), (a29, .inl (y 1, 2001, .inr (.inl nzl))), (a30, .inl (y 1, 2001, .inr (.inl nzl))), (a31, .inl (y 1, 2001, .inr (.inl nzl))), (a5, .inl (y 0, 2001, .inl nz)), (a3, .inl (y 0, 2000, .inl nz)), (a6, .inl (y 2, 2000, .inl nz)), (a7, .inl (y 0, 16000, .inl nz))]) (sz := sz) (mc := 0) (ms := 0) (Qc := fun A => nQv D y (fun _ => True) (fun u => [(a5, .inl (y 0, 2001, .inl nz)), (a21, .inl (y 0, 9, .inl nz)), (a13, .inl (y 0, 9, .inl nz)), (a16, .inl (y 0, 4, .inl (upd nz 2 99))), (a24, .inl (y 0, 4, .inl (upd nz 2 99))), (a25, .inl (y 0, 9, .inl nz)), (a17, .inl (y 0, 9, .inl nz)), (a26, .inl (y 0, 9, .inl nz)), (a18, .inl (y 0, 9, .inl nz)), (a27, .inl (y 0, 9, .inl nz)), (a19, .inl (y 0, 9, .inl nz)), (a22, .inl (y 0, 9, .inl nz)), (a23, .inl (y 0, 9, .inl nz)), (a1, .inr (7, [.ref a21, .ref a22, .ref a23, .ref a24, .int 0, .int 0, .ref a25, .ref a26, .ref a27, .ref a20])), (a11, .inl (y 0, 4096, .inl (upd nz 3476 1))), (a28, .inl (y 0, 2001, .inl (upd nz 0 1))), (a14, .inl (y 0, 9, .inl nz)), (a31, .inl (y 1, 2001, .inr (.inl nzl))), (a15, .inl (y 0, 9, .inl nz)), (a29, .inl (y 1, 2001, .inr (.inl nzl))), (a2, .inr (2, [.ref a28, .ref a29, .ref a30, .ref a31])), (a30, .inl (y 1, 2001, .inr (.inl nzl))), (a0, .inr (4, [.ref a2, .ref a3, .ref a4, .int 1, .int 1, .ref a5, .ref a6, .ref a7, .ref a8, .ref a9, .ref a10, .ref a11, .ref a12])), (a3, .inl (y 0, 2000, .inl nz)), (a6, .inl (y 2, 2000, .inl (upd nz 0 1))), (a7, .inl (y 0, 16000, .inl (upd (upd (upd (upd (upd (upd (upd (upd nz 0 (-1)) 1 (-1)) 2 (-1)) 3 (-1)) 4 (-1)) 5 (-1)) 6 (-1)) 7 (-1)))), (a12, .inr (7, [.ref a13, .ref a14, .ref a15, .ref a16, .int 0, .int 0, .ref a17, .ref a18, .ref a19, .ref a20]))]) A) (cc := cX4_explore) (maxL := 3) (ret := none) (by decide +kernel) rfl (Nat.le_of_ble_eq_true rfl) ?_
  intro p e s m below meth c A ls H hx hb hr hml hts hown hlocks hnm hsz hP hK hD hA hS hE hAe hl
  replace hl : lv_has ls 3 [(0, .ref a0), (1, .ref a1)] := hl
  have hown : s.vm.findClass RX4 = some m.cls := hown
  have w_0 := hts (.fieldLink RX4 63 "SoldToBehind$Reach" "scene" "LSoldToBehind$Standing;") (gt_k wd_5_26)
  have w_1 := hts (.fieldLink RX4 55 "SoldToBehind$Reach" "table" "[I") (gt_k wd_5_25)
  have w_2 := hts (.fieldLink RX4 16 "SoldToBehind$Reach" "store" "LSoldToBehind$Packed;") (gt_k wd_5_9)
  have w_3 := hts (.fieldLink RX4 35 "SoldToBehind$Reach" "depth" "[I") (gt_k wd_5_19)
  have w_4 := hts (.fieldLink RX4 27 "SoldToBehind$Reach" "count" "I") (gt_k wd_5_15)
  have w_5 := hts (.fieldLink RX4 31 "SoldToBehind$Reach" "whole" "Z") (gt_k wd_5_17)
  refine lv_aload_n hx hb dX4_explore_0 rfl (lv_at hl 0 rfl) ?_
  refine va_get (D := D) (ci := 4) (v := .ref a12) (C := RX4) (T := TX4) (N := 13) hx hb hts (gt_c iG_X4) hown hK hP 0 rfl rfl 12 (by decide +kernel) w_0 (fun _ h9 => h9) rfl dX4_explore_1 ?_
  refine lv_aload_n hx hb dX4_explore_4 rfl (lv_at hl 1 rfl) ?_
  refine nj_v (ws := [(a0, .inr (4, [.ref a2, .ref a3, .ref a4, .int 0, .int 0, .ref a5, .ref a6, .ref a7, .ref a8, .ref a9, .ref a10, .ref a11, .ref a12])), (a12, .inr (7, [.ref a13, .ref a14, .ref a15, .ref a16, .int 0, .int 0, .ref a17, .ref a18, .ref a19, .ref a20])), (a1, .inr (7, [.ref a21, .ref a22, .ref a23, .ref a24, .int 0, .int 0, .ref a25, .ref a26, .ref a27, .ref a20])), (a21, .inl (y 0, 9, .inl nz)), (a13, .inl (y 0, 9, .inl nz)), (a22, .inl (y 0, 9, .inl nz)), (a14, .inl (y 0, 9, .inl nz)), (a23, .inl (y 0, 9, .inl nz)), (a15, .inl (y 0, 9, .inl nz)), (a16, .inl (y 0, 4, .inl (upd nz 2 99))), (a24, .inl (y 0, 4, .inl (upd nz 2 99))), (a25, .inl (y 0, 9, .inl nz)), (a17, .inl (y 0, 9, .inl nz)), (a26, .inl (y 0, 9, .inl nz)), (a18, .inl (y 0, 9, .inl nz)), (a27, .inl (y 0, 9, .inl nz)), (a19, .inl (y 0, 9, .inl nz)), (a11, .inl (y 0, 4096, .inl nz)), (a2, .inr (2, [.ref a28, .ref a29, .ref a30, .ref a31])), (a28, .inl (y 0, 2001, .inl nz)), (a29, .inl (y 1, 2001, .inr (.inl nzl))), (a30, .inl (y 1, 2001, .inr (.inl nzl))), (a31, .inl (y 1, 2001, .inr (.inl nzl))), (a5, .inl (y 0, 2001, .inl nz)), (a3, .inl (y 0, 2000, .inl nz)), (a6, .inl (y 2, 2000, .inl nz)), (a7, .inl (y 0, 16000, .inl nz))]) (wc := [(a12, .inr (7, [.ref a13, .ref a14, .ref a15, .ref a16, .int 0, .int 0, .ref a17, .ref a18, .ref a19, .ref a20])), (a1, .inr (7, [.ref a21, .ref a22, .ref a23, .ref a24, .int 0, .int 0, .ref a25, .ref a26, .ref a27, .ref a20])), (a21, .inl (y 0, 9, .inl nz)), (a13, .inl (y 0, 9, .inl nz)), (a22, .inl (y 0, 9, .inl nz)), (a14, .inl (y 0, 9, .inl nz)), (a23, .inl (y 0, 9, .inl nz)), (a15, .inl (y 0, 9, .inl nz)), (a16, .inl (y 0, 4, .inl (upd nz 2 99))), (a24, .inl (y 0, 4, .inl (upd nz 2 99))), (a25, .inl (y 0, 9, .inl nz)), (a17, .inl (y 0, 9, .inl nz)), (a26, .inl (y 0, 9, .inl nz)), (a18, .inl (y 0, 9, .inl nz)), (a27, .inl (y 0, 9, .inl nz)), (a19, .inl (y 0, 9, .inl nz))]) (wr := [(a0, .inr (4, [.ref a2, .ref a3, .ref a4, .int 0, .int 0, .ref a5, .ref a6, .ref a7, .ref a8, .ref a9, .ref a10, .ref a11, .ref a12])), (a11, .inl (y 0, 4096, .inl nz)), (a2, .inr (2, [.ref a28, .ref a29, .ref a30, .ref a31])), (a28, .inl (y 0, 2001, .inl nz)), (a29, .inl (y 1, 2001, .inr (.inl nzl))), (a30, .inl (y 1, 2001, .inr (.inl nzl))), (a31, .inl (y 1, 2001, .inr (.inl nzl))), (a5, .inl (y 0, 2001, .inl nz)), (a3, .inl (y 0, 2000, .inl nz)), (a6, .inl (y 2, 2000, .inl nz)), (a7, .inl (y 0, 16000, .inl nz))]) (nr_V (As := [.ref a1]) (rest := []) ⟨hx, hb, hml, hown, hts⟩ (cX7_copy_1 l D y a12 a1 a13 a14 a15 a16 a17 a18 a19 a20 a21 a22 a23 a24 a25 a26 a27 H.size) (cwV 1 hts gX4_explore_X7_copy rfl rfl rfl (by decide +kernel) ⟨Nat.le_of_ble_eq_true rfl, Nat.le_of_ble_eq_true rfl⟩) hK hP hD hE [1, 2, 3, 4, 5, 6, 7, 8, 9, 10, 11, 12, 13, 14, 15, 16] rfl (by decide +kernel) 0 7 rfl rfl rfl rfl rfl hl.1 rfl (lv_room (Nat.le_of_ble_eq_true rfl)) dX4_explore_5 ⟨Nat.le_of_ble_eq_true rfl, Nat.le_of_ble_eq_true rfl⟩) hP hD hS hA [1, 2, 3, 4, 5, 6, 7, 8, 9, 10, 11, 12, 13, 14, 15, 16] [0, 17, 18, 19, 20, 21, 22, 23, 24, 25, 26] rfl rfl (by decide +kernel) (by decide +kernel) (fun u1 H locs _ hP hD hS => ?_)
  refine lv_aload_n hx hb dX4_explore_8 rfl (lv_at hl 0 rfl) ?_
  refine va_get (D := D) (ci := 4) (v := .ref a11) (C := RX4) (T := TX4) (N := 13) hx hb hts (gt_c iG_X4) hown hK hP 0 rfl rfl 11 (by decide +kernel) w_1 (fun _ h9 => h9) rfl dX4_explore_9 ?_
  refine lv_iconst (v := 0) hx hb dX4_explore_12 (by decide +kernel) ?_
  refine nj_v (ws := [(a0, .inr (4, [.ref a2, .ref a3, .ref a4, .int 0, .int 0, .ref a5, .ref a6, .ref a7, .ref a8, .ref a9, .ref a10, .ref a11, .ref a12])), (a11, .inl (y 0, 4096, .inl nz)), (a2, .inr (2, [.ref a28, .ref a29, .ref a30, .ref a31])), (a28, .inl (y 0, 2001, .inl nz)), (a29, .inl (y 1, 2001, .inr (.inl nzl))), (a30, .inl (y 1, 2001, .inr (.inl nzl))), (a31, .inl (y 1, 2001, .inr (.inl nzl))), (a5, .inl (y 0, 2001, .inl nz)), (a3, .inl (y 0, 2000, .inl nz)), (a6, .inl (y 2, 2000, .inl nz)), (a7, .inl (y 0, 16000, .inl nz)), (a12, .inr (7, [.ref a13, .ref a14, .ref a15, .ref a16, .int 0, .int 0, .ref a17, .ref a18, .ref a19, .ref a20])), (a1, .inr (7, [.ref a21, .ref a22, .ref a23, .ref a24, .int 0, .int 0, .ref a25, .ref a26, .ref a27, .ref a20])), (a21, .inl (y 0, 9, .inl nz)), (a13, .inl (y 0, 9, .inl nz)), (a22, .inl (y 0, 9, .inl nz)), (a14, .inl (y 0, 9, .inl nz)), (a23, .inl (y 0, 9, .inl nz)), (a15, .inl (y 0, 9, .inl nz)), (a16, .inl (y 0, 4, .inl (upd nz 2 99))), (a24, .inl (y 0, 4, .inl (upd nz 2 99))), (a25, .inl (y 0, 9, .inl nz)), (a17, .inl (y 0, 9, .inl nz)), (a26, .inl (y 0, 9, .inl nz)), (a18, .inl (y 0, 9, .inl nz)), (a27, .inl (y 0, 9, .inl nz)), (a19, .inl (y 0, 9, .inl nz))]) (wc := [(a11, .inl (y 0, 4096, .inl nz))]) (wr := [(a0, .inr (4, [.ref a2, .ref a3, .ref a4, .int 0, .int 0, .ref a5, .ref a6, .ref a7, .ref a8, .ref a9, .ref a10, .ref a11, .ref a12])), (a2, .inr (2, [.ref a28, .ref a29, .ref a30, .ref a31])), (a28, .inl (y 0, 2001, .inl nz)), (a29, .inl (y 1, 2001, .inr (.inl nzl))), (a30, .inl (y 1, 2001, .inr (.inl nzl))), (a31, .inl (y 1, 2001, .inr (.inl nzl))), (a5, .inl (y 0, 2001, .inl nz)), (a3, .inl (y 0, 2000, .inl nz)), (a6, .inl (y 2, 2000, .inl nz)), (a7, .inl (y 0, 16000, .inl nz)), (a12, .inr (7, [.ref a13, .ref a14, .ref a15, .ref a16, .int 0, .int 0, .ref a17, .ref a18, .ref a19, .ref a20])), (a1, .inr (7, [.ref a21, .ref a22, .ref a23, .ref a24, .int 0, .int 0, .ref a25, .ref a26, .ref a27, .ref a20])), (a21, .inl (y 0, 9, .inl nz)), (a13, .inl (y 0, 9, .inl nz)), (a22, .inl (y 0, 9, .inl nz)), (a14, .inl (y 0, 9, .inl nz)), (a23, .inl (y 0, 9, .inl nz)), (a15, .inl (y 0, 9, .inl nz)), (a16, .inl (y 0, 4, .inl (upd nz 2 99))), (a24, .inl (y 0, 4, .inl (upd nz 2 99))), (a25, .inl (y 0, 9, .inl nz)), (a17, .inl (y 0, 9, .inl nz)), (a26, .inl (y 0, 9, .inl nz)), (a18, .inl (y 0, 9, .inl nz)), (a27, .inl (y 0, 9, .inl nz)), (a19, .inl (y 0, 9, .inl nz))]) (nr_S (As := [.ref a11, .int 0]) (rest := []) ⟨hx, hb, hml, hown, hts⟩ (cJ7_fill_53178_2 l D y a11 H.size) (va_cwS 2 hts gX4_explore_J7_fill_53178 rfl rfl rfl (by decide +kernel) ⟨Nat.le_of_ble_eq_true rfl, Nat.le_of_ble_eq_true rfl⟩) hK hP hD hE [1] rfl (by decide +kernel) rfl rfl hl.1 rfl (lv_room (Nat.le_of_ble_eq_true rfl)) dX4_explore_13 ⟨Nat.le_of_ble_eq_true rfl, Nat.le_of_ble_eq_true rfl⟩) hP hD hS hA [1] [0, 2, 3, 4, 5, 6, 7, 8, 9, 10, 11, 12, 13, 14, 15, 16, 17, 18, 19, 20, 21, 22, 23, 24, 25, 26] rfl rfl (by decide +kernel) (by decide +kernel) (fun u3 H locs _ hP hD hS => ?_)
  refine lv_aload_n hx hb dX4_explore_16 rfl (lv_at hl 0 rfl) ?_
  refine va_get (D := D) (ci := 4) (v := .ref a2) (C := RX4) (T := TX4) (N := 13) hx hb hts (gt_c iG_X4) hown hK hP 0 rfl rfl 0 (by decide +kernel) w_2 (fun _ h9 => h9) rfl dX4_explore_17 ?_
  refine lv_iconst (v := 0) hx hb dX4_explore_20 (by decide +kernel) ?_
  refine lv_aload_n hx hb dX4_explore_21 rfl (lv_at hl 1 rfl) ?_
  refine nj_v (ws := [(a0, .inr (4, [.ref a2, .ref a3, .ref a4, .int 0, .int 0, .ref a5, .ref a6, .ref a7, .ref a8, .ref a9, .ref a10, .ref a11, .ref a12])), (a2, .inr (2, [.ref a28, .ref a29, .ref a30, .ref a31])), (a28, .inl (y 0, 2001, .inl nz)), (a29, .inl (y 1, 2001, .inr (.inl nzl))), (a30, .inl (y 1, 2001, .inr (.inl nzl))), (a31, .inl (y 1, 2001, .inr (.inl nzl))), (a5, .inl (y 0, 2001, .inl nz)), (a3, .inl (y 0, 2000, .inl nz)), (a6, .inl (y 2, 2000, .inl nz)), (a7, .inl (y 0, 16000, .inl nz)), (a12, .inr (7, [.ref a13, .ref a14, .ref a15, .ref a16, .int 0, .int 0, .ref a17, .ref a18, .ref a19, .ref a20])), (a1, .inr (7, [.ref a21, .ref a22, .ref a23, .ref a24, .int 0, .int 0, .ref a25, .ref a26, .ref a27, .ref a20])), (a21, .inl (y 0, 9, .inl nz)), (a13, .inl (y 0, 9, .inl nz)), (a22, .inl (y 0, 9, .inl nz)), (a14, .inl (y 0, 9, .inl nz)), (a23, .inl (y 0, 9, .inl nz)), (a15, .inl (y 0, 9, .inl nz)), (a16, .inl (y 0, 4, .inl (upd nz 2 99))), (a24, .inl (y 0, 4, .inl (upd nz 2 99))), (a25, .inl (y 0, 9, .inl nz)), (a17, .inl (y 0, 9, .inl nz)), (a26, .inl (y 0, 9, .inl nz)), (a18, .inl (y 0, 9, .inl nz)), (a27, .inl (y 0, 9, .inl nz)), (a19, .inl (y 0, 9, .inl nz)), (a11, .inl (y 0, 4096, .inl nz))]) (wc := [(a2, .inr (2, [.ref a28, .ref a29, .ref a30, .ref a31])), (a1, .inr (7, [.ref a21, .ref a22, .ref a23, .ref a24, .int 0, .int 0, .ref a25, .ref a26, .ref a27, .ref a20])), (a28, .inl (y 0, 2001, .inl nz)), (a29, .inl (y 1, 2001, .inr (.inl nzl))), (a30, .inl (y 1, 2001, .inr (.inl nzl))), (a31, .inl (y 1, 2001, .inr (.inl nzl))), (a22, .inl (y 0, 9, .inl nz)), (a23, .inl (y 0, 9, .inl nz))]) (wr := [(a0, .inr (4, [.ref a2, .ref a3, .ref a4, .int 0, .int 0, .ref a5, .ref a6, .ref a7, .ref a8, .ref a9, .ref a10, .ref a11, .ref a12])), (a5, .inl (y 0, 2001, .inl nz)), (a3, .inl (y 0, 2000, .inl nz)), (a6, .inl (y 2, 2000, .inl nz)), (a7, .inl (y 0, 16000, .inl nz)), (a12, .inr (7, [.ref a13, .ref a14, .ref a15, .ref a16, .int 0, .int 0, .ref a17, .ref a18, .ref a19, .ref a20])), (a21, .inl (y 0, 9, .inl nz)), (a13, .inl (y 0, 9, .inl nz)), (a14, .inl (y 0, 9, .inl nz)), (a15, .inl (y 0, 9, .inl nz)), (a16, .inl (y 0, 4, .inl (upd nz 2 99))), (a24, .inl (y 0, 4, .inl (upd nz 2 99))), (a25, .inl (y 0, 9, .inl nz)), (a17, .inl (y 0, 9, .inl nz)), (a26, .inl (y 0, 9, .inl nz)), (a18, .inl (y 0, 9, .inl nz)), (a27, .inl (y 0, 9, .inl nz)), (a19, .inl (y 0, 9, .inl nz)), (a11, .inl (y 0, 4096, .inl nz))]) (nr_V (As := [.int 0, .ref a1]) (rest := []) ⟨hx, hb, hml, hown, hts⟩ (cX2_put_1 l D y a2 a1 a28 a29 a30 a31 a21 a22 a23 a24 a25 a26 a27 a20 H.size) (cwV 2 hts gX4_explore_X2_put rfl rfl rfl (by decide +kernel) ⟨Nat.le_of_ble_eq_true rfl, Nat.le_of_ble_eq_true rfl⟩) hK hP hD hE [1, 11, 2, 3, 4, 5, 14, 16] rfl (by decide +kernel) 0 2 rfl rfl rfl rfl rfl hl.1 rfl (lv_room (Nat.le_of_ble_eq_true rfl)) dX4_explore_22 ⟨Nat.le_of_ble_eq_true rfl, Nat.le_of_ble_eq_true rfl⟩) hP hD hS hA [1, 11, 2, 3, 4, 5, 14, 16] [0, 6, 7, 8, 9, 10, 12, 13, 15, 17, 18, 19, 20, 21, 22, 23, 24, 25, 26] rfl rfl (by decide +kernel) (by decide +kernel) (fun u5 H locs _ hP hD hS => ?_)
  refine lv_aload_n hx hb dX4_explore_25 rfl (lv_at hl 0 rfl) ?_
  refine va_get (D := D) (ci := 4) (v := .ref a5) (C := RX4) (T := TX4) (N := 13) hx hb hts (gt_c iG_X4) hown hK hP 0 rfl rfl 5 (by decide +kernel) w_3 (fun _ h9 => h9) rfl dX4_explore_26 ?_
  refine lv_iconst (v := 0) hx hb dX4_explore_29 (by decide +kernel) ?_
  refine lv_iconst (v := 0) hx hb dX4_explore_30 (by decide +kernel) ?_
  refine nb_iast (ws' := [(a0, .inr (4, [.ref a2, .ref a3, .ref a4, .int 0, .int 0, .ref a5, .ref a6, .ref a7, .ref a8, .ref a9, .ref a10, .ref a11, .ref a12])), (a5, .inl (y 0, 2001, .inl nz)), (a3, .inl (y 0, 2000, .inl nz)), (a6, .inl (y 2, 2000, .inl nz)), (a7, .inl (y 0, 16000, .inl nz)), (a12, .inr (7, [.ref a13, .ref a14, .ref a15, .ref a16, .int 0, .int 0, .ref a17, .ref a18, .ref a19, .ref a20])), (a21, .inl (y 0, 9, .inl nz)), (a13, .inl (y 0, 9, .inl nz)), (a14, .inl (y 0, 9, .inl nz)), (a15, .inl (y 0, 9, .inl nz)), (a16, .inl (y 0, 4, .inl (upd nz 2 99))), (a24, .inl (y 0, 4, .inl (upd nz 2 99))), (a25, .inl (y 0, 9, .inl nz)), (a17, .inl (y 0, 9, .inl nz)), (a26, .inl (y 0, 9, .inl nz)), (a18, .inl (y 0, 9, .inl nz)), (a27, .inl (y 0, 9, .inl nz)), (a19, .inl (y 0, 9, .inl nz)), (a11, .inl (y 0, 4096, .inl nz)), (a28, .inl (y 0, 2001, .inl (upd nz 0 1))), (a22, .inl (y 0, 9, .inl nz)), (a23, .inl (y 0, 9, .inl nz)), (a1, .inr (7, [.ref a21, .ref a22, .ref a23, .ref a24, .int 0, .int 0, .ref a25, .ref a26, .ref a27, .ref a20])), (a29, .inl (y 1, 2001, .inr (.inl nzl))), (a30, .inl (y 1, 2001, .inr (.inl nzl))), (a2, .inr (2, [.ref a28, .ref a29, .ref a30, .ref a31])), (a31, .inl (y 1, 2001, .inr (.inl nzl)))]) hx hb hK hP hD hS 1 0 rfl rfl (n_in (by decide +kernel)) (by rw [nb_upI (f := nz) (i := Int32.toNatClampNeg 0) (x := 0) rfl]; rfl) dX4_explore_31 (fun H locs hP hD hS => ?_)
  refine lv_aload_n hx hb dX4_explore_32 rfl (lv_at hl 0 rfl) ?_
  refine lv_iconst (v := 0) hx hb dX4_explore_33 (by decide +kernel) ?_
  refine nb_put (D := D) (ci := 4) (v := .int 0) (ty := .int) (C := RX4) (T := TX4) (N := 13) (ws' := [(a0, .inr (4, [.ref a2, .ref a3, .ref a4, .int 0, .int 0, .ref a5, .ref a6, .ref a7, .ref a8, .ref a9, .ref a10, .ref a11, .ref a12])), (a5, .inl (y 0, 2001, .inl nz)), (a3, .inl (y 0, 2000, .inl nz)), (a6, .inl (y 2, 2000, .inl nz)), (a7, .inl (y 0, 16000, .inl nz)), (a12, .inr (7, [.ref a13, .ref a14, .ref a15, .ref a16, .int 0, .int 0, .ref a17, .ref a18, .ref a19, .ref a20])), (a21, .inl (y 0, 9, .inl nz)), (a13, .inl (y 0, 9, .inl nz)), (a14, .inl (y 0, 9, .inl nz)), (a15, .inl (y 0, 9, .inl nz)), (a16, .inl (y 0, 4, .inl (upd nz 2 99))), (a24, .inl (y 0, 4, .inl (upd nz 2 99))), (a25, .inl (y 0, 9, .inl nz)), (a17, .inl (y 0, 9, .inl nz)), (a26, .inl (y 0, 9, .inl nz)), (a18, .inl (y 0, 9, .inl nz)), (a27, .inl (y 0, 9, .inl nz)), (a19, .inl (y 0, 9, .inl nz)), (a11, .inl (y 0, 4096, .inl nz)), (a28, .inl (y 0, 2001, .inl (upd nz 0 1))), (a22, .inl (y 0, 9, .inl nz)), (a23, .inl (y 0, 9, .inl nz)), (a1, .inr (7, [.ref a21, .ref a22, .ref a23, .ref a24, .int 0, .int 0, .ref a25, .ref a26, .ref a27, .ref a20])), (a29, .inl (y 1, 2001, .inr (.inl nzl))), (a30, .inl (y 1, 2001, .inr (.inl nzl))), (a2, .inr (2, [.ref a28, .ref a29, .ref a30, .ref a31])), (a31, .inl (y 1, 2001, .inr (.inl nzl)))]) hx hb hts (gt_c iG_X4) tyX4 tyX4_ok nmX4 hown hK hP hD hS 0 rfl rfl 3 (by decide +kernel) w_4 (fun _ h9 => h9) rfl (by decide +kernel) rfl rfl (Nat.le_of_ble_eq_true rfl) rfl dX4_explore_34 (fun H locs hP hD hS => ?_)
  refine lv_aload_n hx hb dX4_explore_37 rfl (lv_at hl 0 rfl) ?_
  refine lv_iconst (v := 0) hx hb dX4_explore_38 (by decide +kernel) ?_
  refine nj_i (ws := [(a0, .inr (4, [.ref a2, .ref a3, .ref a4, .int 0, .int 0, .ref a5, .ref a6, .ref a7, .ref a8, .ref a9, .ref a10, .ref a11, .ref a12])), (a5, .inl (y 0, 2001, .inl nz)), (a3, .inl (y 0, 2000, .inl nz)), (a6, .inl (y 2, 2000, .inl nz)), (a7, .inl (y 0, 16000, .inl nz)), (a12, .inr (7, [.ref a13, .ref a14, .ref a15, .ref a16, .int 0, .int 0, .ref a17, .ref a18, .ref a19, .ref a20])), (a21, .inl (y 0, 9, .inl nz)), (a13, .inl (y 0, 9, .inl nz)), (a14, .inl (y 0, 9, .inl nz)), (a15, .inl (y 0, 9, .inl nz)), (a16, .inl (y 0, 4, .inl (upd nz 2 99))), (a24, .inl (y 0, 4, .inl (upd nz 2 99))), (a25, .inl (y 0, 9, .inl nz)), (a17, .inl (y 0, 9, .inl nz)), (a26, .inl (y 0, 9, .inl nz)), (a18, .inl (y 0, 9, .inl nz)), (a27, .inl (y 0, 9, .inl nz)), (a19, .inl (y 0, 9, .inl nz)), (a11, .inl (y 0, 4096, .inl nz)), (a28, .inl (y 0, 2001, .inl (upd nz 0 1))), (a22, .inl (y 0, 9, .inl nz)), (a23, .inl (y 0, 9, .inl nz)), (a1, .inr (7, [.ref a21, .ref a22, .ref a23, .ref a24, .int 0, .int 0, .ref a25, .ref a26, .ref a27, .ref a20])), (a29, .inl (y 1, 2001, .inr (.inl nzl))), (a30, .inl (y 1, 2001, .inr (.inl nzl))), (a2, .inr (2, [.ref a28, .ref a29, .ref a30, .ref a31])), (a31, .inl (y 1, 2001, .inr (.inl nzl)))]) (wc := [(a0, .inr (4, [.ref a2, .ref a3, .ref a4, .int 0, .int 0, .ref a5, .ref a6, .ref a7, .ref a8, .ref a9, .ref a10, .ref a11, .ref a12])), (a2, .inr (2, [.ref a28, .ref a29, .ref a30, .ref a31])), (a28, .inl (y 0, 2001, .inl (upd nz 0 1))), (a29, .inl (y 1, 2001, .inr (.inl nzl))), (a30, .inl (y 1, 2001, .inr (.inl nzl))), (a31, .inl (y 1, 2001, .inr (.inl nzl))), (a11, .inl (y 0, 4096, .inl nz))]) (wr := [(a5, .inl (y 0, 2001, .inl nz)), (a3, .inl (y 0, 2000, .inl nz)), (a6, .inl (y 2, 2000, .inl nz)), (a7, .inl (y 0, 16000, .inl nz)), (a12, .inr (7, [.ref a13, .ref a14, .ref a15, .ref a16, .int 0, .int 0, .ref a17, .ref a18, .ref a19, .ref a20])), (a21, .inl (y 0, 9, .inl nz)), (a13, .inl (y 0, 9, .inl nz)), (a14, .inl (y 0, 9, .inl nz)), (a15, .inl (y 0, 9, .inl nz)), (a16, .inl (y 0, 4, .inl (upd nz 2 99))), (a24, .inl (y 0, 4, .inl (upd nz 2 99))), (a25, .inl (y 0, 9, .inl nz)), (a17, .inl (y 0, 9, .inl nz)), (a26, .inl (y 0, 9, .inl nz)), (a18, .inl (y 0, 9, .inl nz)), (a27, .inl (y 0, 9, .inl nz)), (a19, .inl (y 0, 9, .inl nz)), (a22, .inl (y 0, 9, .inl nz)), (a23, .inl (y 0, 9, .inl nz)), (a1, .inr (7, [.ref a21, .ref a22, .ref a23, .ref a24, .int 0, .int 0, .ref a25, .ref a26, .ref a27, .ref a20]))]) (nr_V (As := [.int 0]) (rest := []) ⟨hx, hb, hml, hown, hts⟩ (cX4_indexOf_1 l D y a0 a2 a3 a4 a5 a6 a7 a8 a9 a10 a11 a12 a28 a29 a30 a31 H.size) (cwV 1 hts gX4_explore_X4_indexOf rfl rfl rfl (by decide +kernel) ⟨Nat.le_of_ble_eq_true rfl, Nat.le_of_ble_eq_true rfl⟩) hK hP hD hE [0, 25, 19, 23, 24, 26, 18] rfl (by decide +kernel) 0 4 rfl rfl rfl rfl rfl hl.1 rfl (lv_room (Nat.le_of_ble_eq_true rfl)) dX4_explore_39 ⟨Nat.le_of_ble_eq_true rfl, Nat.le_of_ble_eq_true rfl⟩) hP hD hS hA [0, 25, 19, 23, 24, 26, 18] [1, 2, 3, 4, 5, 6, 7, 8, 9, 10, 11, 12, 13, 14, 15, 16, 17, 20, 21, 22] rfl rfl (by decide +kernel) (by decide +kernel) (fun r8 u7 H locs er8 hP hD hS => ?_)
  subst er8
  refine lv_pop hx hb dX4_explore_42 rfl ?_
  refine lv_aload_n hx hb dX4_explore_43 rfl (lv_at hl 0 rfl) ?_
  refine lv_iconst (v := 1) hx hb dX4_explore_44 (by decide +kernel) ?_
  refine nb_put (D := D) (ci := 4) (v := .int 1) (ty := .boolean) (C := RX4) (T := TX4) (N := 13) (ws' := [(a5, .inl (y 0, 2001, .inl nz)), (a3, .inl (y 0, 2000, .inl nz)), (a6, .inl (y 2, 2000, .inl nz)), (a7, .inl (y 0, 16000, .inl nz)), (a12, .inr (7, [.ref a13, .ref a14, .ref a15, .ref a16, .int 0, .int 0, .ref a17, .ref a18, .ref a19, .ref a20])), (a21, .inl (y 0, 9, .inl nz)), (a13, .inl (y 0, 9, .inl nz)), (a14, .inl (y 0, 9, .inl nz)), (a15, .inl (y 0, 9, .inl nz)), (a16, .inl (y 0, 4, .inl (upd nz 2 99))), (a24, .inl (y 0, 4, .inl (upd nz 2 99))), (a25, .inl (y 0, 9, .inl nz)), (a17, .inl (y 0, 9, .inl nz)), (a26, .inl (y 0, 9, .inl nz)), (a18, .inl (y 0, 9, .inl nz)), (a27, .inl (y 0, 9, .inl nz)), (a19, .inl (y 0, 9, .inl nz)), (a22, .inl (y 0, 9, .inl nz)), (a23, .inl (y 0, 9, .inl nz)), (a1, .inr (7, [.ref a21, .ref a22, .ref a23, .ref a24, .int 0, .int 0, .ref a25, .ref a26, .ref a27, .ref a20])), (a0, .inr (4, [.ref a2, .ref a3, .ref a4, .int 1, .int 1, .ref a5, .ref a6, .ref a7, .ref a8, .ref a9, .ref a10, .ref a11, .ref a12])), (a11, .inl (y 0, 4096, .inl (upd nz 3476 1))), (a2, .inr (2, [.ref a28, .ref a29, .ref a30, .ref a31])), (a28, .inl (y 0, 2001, .inl (upd nz 0 1))), (a29, .inl (y 1, 2001, .inr (.inl nzl))), (a30, .inl (y 1, 2001, .inr (.inl nzl))), (a31, .inl (y 1, 2001, .inr (.inl nzl)))]) hx hb hts (gt_c iG_X4) tyX4 tyX4_ok nmX4 hown hK hP hD hS 20 rfl rfl 4 (by decide +kernel) w_5 (fun _ h9 => h9) rfl (by decide +kernel) rfl rfl (Nat.le_of_ble_eq_true rfl) rfl dX4_explore_45 (fun H locs hP hD hS => ?_)
  refine lv_iconst (v := 0) hx hb dX4_explore_48 (by decide +kernel) ?_
  refine lv_istore_n (lv' := [(2, .int 0), (0, .ref a0), (1, .ref a1)]) hx hb dX4_explore_49 rfl hl (by decide +kernel) rfl (fun ls hl => ?_)
  refine lv_iload_n hx hb dX4_explore_50 rfl (lv_at hl 0 rfl) ?_
  refine lv_sipush (v := 2000) hx hb dX4_explore_51 (by decide +kernel) ?_
  refine lv_icmp_ge (tgt := 102) hx hb dX4_explore_54 (by decide +kernel) (fun c => absurd c (by decide +kernel)) (fun _ => ?_)
  refine lv_iload_n hx hb dX4_explore_57 rfl (lv_at hl 0 rfl) ?_
  refine lv_aload_n hx hb dX4_explore_58 rfl (lv_at hl 1 rfl) ?_
  refine va_get (D := D) (ci := 4) (v := .int 1) (C := RX4) (T := TX4) (N := 13) hx hb hts (gt_c iG_X4) hown hK hP 20 rfl rfl 3 (by decide +kernel) w_4 (fun _ h9 => h9) rfl dX4_explore_59 ?_
  refine lv_icmp_ge (tgt := 102) hx hb dX4_explore_62 (by decide +kernel) (fun c => absurd c (by decide +kernel)) (fun _ => ?_)
  refine lv_aload_n hx hb dX4_explore_65 rfl (lv_at hl 1 rfl) ?_
  refine va_get (D := D) (ci := 4) (v := .int 1) (C := RX4) (T := TX4) (N := 13) hx hb hts (gt_c iG_X4) hown hK hP 20 rfl rfl 4 (by decide +kernel) w_5 (fun _ h9 => h9) rfl dX4_explore_66 ?_
  refine lv_if_eq (tgt := 102) hx hb dX4_explore_69 (by decide +kernel) (fun c => absurd c (by decide +kernel)) (fun _ => ?_)
  refine lv_aload_n hx hb dX4_explore_72 rfl (lv_at hl 1 rfl) ?_
  refine va_get (D := D) (ci := 4) (v := .ref a2) (C := RX4) (T := TX4) (N := 13) hx hb hts (gt_c iG_X4) hown hK hP 20 rfl rfl 0 (by decide +kernel) w_2 (fun _ h9 => h9) rfl dX4_explore_73 ?_
  refine lv_iload_n hx hb dX4_explore_76 rfl (lv_at hl 0 rfl) ?_
  refine lv_aload_n hx hb dX4_explore_77 rfl (lv_at hl 1 rfl) ?_
  refine va_get (D := D) (ci := 4) (v := .ref a12) (C := RX4) (T := TX4) (N := 13) hx hb hts (gt_c iG_X4) hown hK hP 20 rfl rfl 12 (by decide +kernel) w_0 (fun _ h9 => h9) rfl dX4_explore_78 ?_
  refine nj_v (ws := [(a5, .inl (y 0, 2001, .inl nz)), (a3, .inl (y 0, 2000, .inl nz)), (a6, .inl (y 2, 2000, .inl nz)), (a7, .inl (y 0, 16000, .inl nz)), (a12, .inr (7, [.ref a13, .ref a14, .ref a15, .ref a16, .int 0, .int 0, .ref a17, .ref a18, .ref a19, .ref a20])), (a21, .inl (y 0, 9, .inl nz)), (a13, .inl (y 0, 9, .inl nz)), (a14, .inl (y 0, 9, .inl nz)), (a15, .inl (y 0, 9, .inl nz)), (a16, .inl (y 0, 4, .inl (upd nz 2 99))), (a24, .inl (y 0, 4, .inl (upd nz 2 99))), (a25, .inl (y 0, 9, .inl nz)), (a17, .inl (y 0, 9, .inl nz)), (a26, .inl (y 0, 9, .inl nz)), (a18, .inl (y 0, 9, .inl nz)), (a27, .inl (y 0, 9, .inl nz)), (a19, .inl (y 0, 9, .inl nz)), (a22, .inl (y 0, 9, .inl nz)), (a23, .inl (y 0, 9, .inl nz)), (a1, .inr (7, [.ref a21, .ref a22, .ref a23, .ref a24, .int 0, .int 0, .ref a25, .ref a26, .ref a27, .ref a20])), (a0, .inr (4, [.ref a2, .ref a3, .ref a4, .int 1, .int 1, .ref a5, .ref a6, .ref a7, .ref a8, .ref a9, .ref a10, .ref a11, .ref a12])), (a11, .inl (y 0, 4096, .inl (upd nz 3476 1))), (a2, .inr (2, [.ref a28, .ref a29, .ref a30, .ref a31])), (a28, .inl (y 0, 2001, .inl (upd nz 0 1))), (a29, .inl (y 1, 2001, .inr (.inl nzl))), (a30, .inl (y 1, 2001, .inr (.inl nzl))), (a31, .inl (y 1, 2001, .inr (.inl nzl)))]) (wc := [(a2, .inr (2, [.ref a28, .ref a29, .ref a30, .ref a31])), (a28, .inl (y 0, 2001, .inl (upd nz 0 1))), (a12, .inr (7, [.ref a13, .ref a14, .ref a15, .ref a16, .int 0, .int 0, .ref a17, .ref a18, .ref a19, .ref a20])), (a29, .inl (y 1, 2001, .inr (.inl nzl))), (a14, .inl (y 0, 9, .inl nz)), (a31, .inl (y 1, 2001, .inr (.inl nzl))), (a15, .inl (y 0, 9, .inl nz)), (a30, .inl (y 1, 2001, .inr (.inl nzl)))]) (wr := [(a5, .inl (y 0, 2001, .inl nz)), (a3, .inl (y 0, 2000, .inl nz)), (a6, .inl (y 2, 2000, .inl nz)), (a7, .inl (y 0, 16000, .inl nz)), (a21, .inl (y 0, 9, .inl nz)), (a13, .inl (y 0, 9, .inl nz)), (a16, .inl (y 0, 4, .inl (upd nz 2 99))), (a24, .inl (y 0, 4, .inl (upd nz 2 99))), (a25, .inl (y 0, 9, .inl nz)), (a17, .inl (y 0, 9, .inl nz)), (a26, .inl (y 0, 9, .inl nz)), (a18, .inl (y 0, 9, .inl nz)), (a27, .inl (y 0, 9, .inl nz)), (a19, .inl (y 0, 9, .inl nz)), (a22, .inl (y 0, 9, .inl nz)), (a23, .inl (y 0, 9, .inl nz)), (a1, .inr (7, [.ref a21, .ref a22, .ref a23, .ref a24, .int 0, .int 0, .ref a25, .ref a26, .ref a27, .ref a20])), (a0, .inr (4, [.ref a2, .ref a3, .ref a4, .int 1, .int 1, .ref a5, .ref a6, .ref a7, .ref a8, .ref a9, .ref a10, .ref a11, .ref a12])), (a11, .inl (y 0, 4096, .inl (upd nz 3476 1)))]) (nr_V (As := [.int 0, .ref a12]) (rest := []) ⟨hx, hb, hml, hown, hts⟩ (cX2_take_1 l D y a2 a12 a28 a29 a30 a31 a13 a14 a15 a16 a17 a18 a19 a20 H.size) (cwV 2 hts gX4_explore_X2_take rfl rfl rfl (by decide +kernel) ⟨Nat.le_of_ble_eq_true rfl, Nat.le_of_ble_eq_true rfl⟩) hK hP hD hE [22, 23, 4, 24, 7, 26, 8, 25] rfl (by decide +kernel) 0 2 rfl rfl rfl rfl rfl hl.1 rfl (lv_room (Nat.le_of_ble_eq_true rfl)) dX4_explore_81 ⟨Nat.le_of_ble_eq_true rfl, Nat.le_of_ble_eq_true rfl⟩) hP hD hS hA [22, 23, 4, 24, 7, 26, 8, 25] [0, 1, 2, 3, 5, 6, 9, 10, 11, 12, 13, 14, 15, 16, 17, 18, 19, 20, 21] rfl rfl (by decide +kernel) (by decide +kernel) (fun u9 H locs _ hP hD hS => ?_)
  refine lv_aload_n hx hb dX4_explore_84 rfl (lv_at hl 1 rfl) ?_
  refine va_get (D := D) (ci := 4) (v := .ref a12) (C := RX4) (T := TX4) (N := 13) hx hb hts (gt_c iG_X4) hown hK hP 17 rfl rfl 12 (by decide +kernel) w_0 (fun _ h9 => h9) rfl dX4_explore_85 ?_
  refine nj_v (ws := [(a5, .inl (y 0, 2001, .inl nz)), (a3, .inl (y 0, 2000, .inl nz)), (a6, .inl (y 2, 2000, .inl nz)), (a7, .inl (y 0, 16000, .inl nz)), (a21, .inl (y 0, 9, .inl nz)), (a13, .inl (y 0, 9, .inl nz)), (a16, .inl (y 0, 4, .inl (upd nz 2 99))), (a24, .inl (y 0, 4, .inl (upd nz 2 99))), (a25, .inl (y 0, 9, .inl nz)), (a17, .inl (y 0, 9, .inl nz)), (a26, .inl (y 0, 9, .inl nz)), (a18, .inl (y 0, 9, .inl nz)), (a27, .inl (y 0, 9, .inl nz)), (a19, .inl (y 0, 9, .inl nz)), (a22, .inl (y 0, 9, .inl nz)), (a23, .inl (y 0, 9, .inl nz)), (a1, .inr (7, [.ref a21, .ref a22, .ref a23, .ref a24, .int 0, .int 0, .ref a25, .ref a26, .ref a27, .ref a20])), (a0, .inr (4, [.ref a2, .ref a3, .ref a4, .int 1, .int 1, .ref a5, .ref a6, .ref a7, .ref a8, .ref a9, .ref a10, .ref a11, .ref a12])), (a11, .inl (y 0, 4096, .inl (upd nz 3476 1))), (a28, .inl (y 0, 2001, .inl (upd nz 0 1))), (a12, .inr (7, [.ref a13, .ref a14, .ref a15, .ref a16, .int 0, .int 0, .ref a17, .ref a18, .ref a19, .ref a20])), (a14, .inl (y 0, 9, .inl nz)), (a31, .inl (y 1, 2001, .inr (.inl nzl))), (a15, .inl (y 0, 9, .inl nz)), (a29, .inl (y 1, 2001, .inr (.inl nzl))), (a2, .inr (2, [.ref a28, .ref a29, .ref a30, .ref a31])), (a30, .inl (y 1, 2001, .inr (.inl nzl)))]) (wc := [(a12, .inr (7, [.ref a13, .ref a14, .ref a15, .ref a16, .int 0, .int 0, .ref a17, .ref a18, .ref a19, .ref a20]))]) (wr := [(a5, .inl (y 0, 2001, .inl nz)), (a3, .inl (y 0, 2000, .inl nz)), (a6, .inl (y 2, 2000, .inl nz)), (a7, .inl (y 0, 16000, .inl nz)), (a21, .inl (y 0, 9, .inl nz)), (a13, .inl (y 0, 9, .inl nz)), (a16, .inl (y 0, 4, .inl (upd nz 2 99))), (a24, .inl (y 0, 4, .inl (upd nz 2 99))), (a25, .inl (y 0, 9, .inl nz)), (a17, .inl (y 0, 9, .inl nz)), (a26, .inl (y 0, 9, .inl nz)), (a18, .inl (y 0, 9, .inl nz)), (a27, .inl (y 0, 9, .inl nz)), (a19, .inl (y 0, 9, .inl nz)), (a22, .inl (y 0, 9, .inl nz)), (a23, .inl (y 0, 9, .inl nz)), (a1, .inr (7, [.ref a21, .ref a22, .ref a23, .ref a24, .int 0, .int 0, .ref a25, .ref a26, .ref a27, .ref a20])), (a0, .inr (4, [.ref a2, .ref a3, .ref a4, .int 1, .int 1, .ref a5, .ref a6, .ref a7, .ref a8, .ref a9, .ref a10, .ref a11, .ref a12])), (a11, .inl (y 0, 4096, .inl (upd nz 3476 1))), (a28, .inl (y 0, 2001, .inl (upd nz 0 1))), (a14, .inl (y 0, 9, .inl nz)), (a31, .inl (y 1, 2001, .inr (.inl nzl))), (a15, .inl (y 0, 9, .inl nz)), (a29, .inl (y 1, 2001, .inr (.inl nzl))), (a2, .inr (2, [.ref a28, .ref a29, .ref a30, .ref a31])), (a30, .inl (y 1, 2001, .inr (.inl nzl)))]) (nr_V (As := []) (rest := []) ⟨hx, hb, hml, hown, hts⟩ (cX7_weighAll_1 l D y a12 a13 a14 a15 a16 a17 a18 a19 a20 H.size) (cwV 0 hts gX4_explore_X7_weighAll rfl rfl rfl (by decide +kernel) ⟨Nat.le_of_ble_eq_true rfl, Nat.le_of_ble_eq_true rfl⟩) hK hP hD hE [20] rfl (by decide +kernel) 0 7 rfl rfl rfl rfl rfl hl.1 rfl (lv_room (Nat.le_of_ble_eq_true rfl)) dX4_explore_88 ⟨Nat.le_of_ble_eq_true rfl, Nat.le_of_ble_eq_true rfl⟩) hP hD hS hA [20] [0, 1, 2, 3, 4, 5, 6, 7, 8, 9, 10, 11, 12, 13, 14, 15, 16, 17, 18, 19, 21, 22, 23, 24, 25, 26] rfl rfl (by decide +kernel) (by decide +kernel) (fun u11 H locs _ hP hD hS => ?_)
  refine lv_aload_n hx hb dX4_explore_91 rfl (lv_at hl 1 rfl) ?_
  refine lv_iload_n hx hb dX4_explore_92 rfl (lv_at hl 0 rfl) ?_
  refine nj_v (ws := [(a5, .inl (y 0, 2001, .inl nz)), (a3, .inl (y 0, 2000, .inl nz)), (a6, .inl (y 2, 2000, .inl nz)), (a7, .inl (y 0, 16000, .inl nz)), (a21, .inl (y 0, 9, .inl nz)), (a13, .inl (y 0, 9, .inl nz)), (a16, .inl (y 0, 4, .inl (upd nz 2 99))), (a24, .inl (y 0, 4, .inl (upd nz 2 99))), (a25, .inl (y 0, 9, .inl nz)), (a17, .inl (y 0, 9, .inl nz)), (a26, .inl (y 0, 9, .inl nz)), (a18, .inl (y 0, 9, .inl nz)), (a27, .inl (y 0, 9, .inl nz)), (a19, .inl (y 0, 9, .inl nz)), (a22, .inl (y 0, 9, .inl nz)), (a23, .inl (y 0, 9, .inl nz)), (a1, .inr (7, [.ref a21, .ref a22, .ref a23, .ref a24, .int 0, .int 0, .ref a25, .ref a26, .ref a27, .ref a20])), (a0, .inr (4, [.ref a2, .ref a3, .ref a4, .int 1, .int 1, .ref a5, .ref a6, .ref a7, .ref a8, .ref a9, .ref a10, .ref a11, .ref a12])), (a11, .inl (y 0, 4096, .inl (upd nz 3476 1))), (a28, .inl (y 0, 2001, .inl (upd nz 0 1))), (a14, .inl (y 0, 9, .inl nz)), (a31, .inl (y 1, 2001, .inr (.inl nzl))), (a15, .inl (y 0, 9, .inl nz)), (a29, .inl (y 1, 2001, .inr (.inl nzl))), (a2, .inr (2, [.ref a28, .ref a29, .ref a30, .ref a31])), (a30, .inl (y 1, 2001, .inr (.inl nzl))), (a12, .inr (7, [.ref a13, .ref a14, .ref a15, .ref a16, .int 0, .int 0, .ref a17, .ref a18, .ref a19, .ref a20]))]) (wc := [(a0, .inr (4, [.ref a2, .ref a3, .ref a4, .int 1, .int 1, .ref a5, .ref a6, .ref a7, .ref a8, .ref a9, .ref a10, .ref a11, .ref a12])), (a12, .inr (7, [.ref a13, .ref a14, .ref a15, .ref a16, .int 0, .int 0, .ref a17, .ref a18, .ref a19, .ref a20])), (a3, .inl (y 0, 2000, .inl nz)), (a6, .inl (y 2, 2000, .inl nz)), (a7, .inl (y 0, 16000, .inl nz))]) (wr := [(a5, .inl (y 0, 2001, .inl nz)), (a21, .inl (y 0, 9, .inl nz)), (a13, .inl (y 0, 9, .inl nz)), (a16, .inl (y 0, 4, .inl (upd nz 2 99))), (a24, .inl (y 0, 4, .inl (upd nz 2 99))), (a25, .inl (y 0, 9, .inl nz)), (a17, .inl (y 0, 9, .inl nz)), (a26, .inl (y 0, 9, .inl nz)), (a18, .inl (y 0, 9, .inl nz)), (a27, .inl (y 0, 9, .inl nz)), (a19, .inl (y 0, 9, .inl nz)), (a22, .inl (y 0, 9, .inl nz)), (a23, .inl (y 0, 9, .inl nz)), (a1, .inr (7, [.ref a21, .ref a22, .ref a23, .ref a24, .int 0, .int 0, .ref a25, .ref a26, .ref a27, .ref a20])), (a11, .inl (y 0, 4096, .inl (upd nz 3476 1))), (a28, .inl (y 0, 2001, .inl (upd nz 0 1))), (a14, .inl (y 0, 9, .inl nz)), (a31, .inl (y 1, 2001, .inr (.inl nzl))), (a15, .inl (y 0, 9, .inl nz)), (a29, .inl (y 1, 2001, .inr (.inl nzl))), (a2, .inr (2, [.ref a28, .ref a29, .ref a30, .ref a31])), (a30, .inl (y 1, 2001, .inr (.inl nzl)))]) (nr_V (As := [.int 0]) (rest := []) ⟨hx, hb, hml, hown, hts⟩ (cX4_expand_1 l D y a0 a2 a3 a4 a5 a6 a7 a8 a9 a10 a11 a12 a13 a14 a15 a16 a17 a18 a19 a20 H.size) (cwV 1 hts gX4_explore_X4_expand rfl rfl rfl (by decide +kernel) ⟨Nat.le_of_ble_eq_true rfl, Nat.le_of_ble_eq_true rfl⟩) hK hP hD hE [17, 26, 1, 2, 3] rfl (by decide +kernel) 0 4 rfl rfl rfl rfl rfl hl.1 rfl (lv_room (Nat.le_of_ble_eq_true rfl)) dX4_explore_93 ⟨Nat.le_of_ble_eq_true rfl, Nat.le_of_ble_eq_true rfl⟩) hP hD hS hA [17, 26, 1, 2, 3] [0, 4, 5, 6, 7, 8, 9, 10, 11, 12, 13, 14, 15, 16, 18, 19, 20, 21, 22, 23, 24, 25] rfl rfl (by decide +kernel) (by decide +kernel) (fun u13 H locs _ hP hD hS => ?_)
  refine lv_iinc (v := 1) (lv' := [(2, .int 1), (0, .ref a0), (1, .ref a1)]) hx hb dX4_explore_96 hl (k := 0) rfl (by decide +kernel) (by decide +kernel) rfl (fun ls hl => ?_)
  refine lv_goto (tgt := 50) hx hb dX4_explore_99 (by decide +kernel) ?_
  refine lv_iload_n hx hb dX4_explore_50 rfl (lv_at hl 0 rfl) ?_
  refine lv_sipush (v := 2000) hx hb dX4_explore_51 (by decide +kernel) ?_
  refine lv_icmp_ge (tgt := 102) hx hb dX4_explore_54 (by decide +kernel) (fun c => absurd c (by decide +kernel)) (fun _ => ?_)
  refine lv_iload_n hx hb dX4_explore_57 rfl (lv_at hl 0 rfl) ?_
  refine lv_aload_n hx hb dX4_explore_58 rfl (lv_at hl 1 rfl) ?_
  refine va_get (D := D) (ci := 4) (v := .int 1) (C := RX4) (T := TX4) (N := 13) hx hb hts (gt_c iG_X4) hown hK hP 22 rfl rfl 3 (by decide +kernel) w_4 (fun _ h9 => h9) rfl dX4_explore_59 ?_
  refine lv_icmp_ge (tgt := 102) hx hb dX4_explore_62 (by decide +kernel) (fun _ => ?_) (fun c => absurd (by decide +kernel) c)
  refine W.widen (k := 0) (n := 0) (Nat.le_of_ble_eq_true rfl) (Nat.le_of_ble_eq_true rfl) ?_
  exact W.vret hx hb hr (fun t ht hW => ⟨⟨(fun _ => 0), rfl, trivial, by rw [ht]; exact hP, va_K.moved hW.alike hK, hD⟩, hS.F ht⟩) hS.2.2 dX4_explore_102 hlocks
set_option maxRecDepth 100000 in
set_option maxHeartbeats 4000000 in
theorem cX11_allLines_1 (l : Launch) (D : va_G) (y : Nat → ClassId) (a0 : Nat) (a1 : Nat) (a2 : Nat) (a3 : Nat) (a4 : Nat) (a5 : Nat) (a6 : Nat) (a7 : Nat) (a8 : Nat) (a9 : Nat) (a10 : Nat) (a11 : Nat) (a12 : Nat) (a13 : Nat) (a14 : Nat) (a15 : Nat) (a16 : Nat) (a17 : Nat) (a18 : Nat) (a19 : Nat) (a20 : Nat) (a21 : Nat) (sz : Nat) : Met l yX11_allLines wsX11_allLines { frames := 5, cells := 23, slots := 42186, locals := 270 } (nPc D y nT [.ref a0] [(a0, .inr (11, [.ref a1, .ref a2, .ref a3, .ref a4, .ref a5, .ref a6, .ref a7, .ref a8, .ref a9, .ref a10, .ref a11, .ref a12, .ref a13, .ref a14, .int 1, .null, .int 0])), (a6, .inr (7, [.ref a15, .ref a16, .ref a17, .ref a18, .int 0, .int 0, .ref a19, .ref a20, .ref a21, .ref a3])), (a15, .inl (y 0, 9, .inl nz)), (a16, .inl (y 0, 9, .inl nz)), (a17, .inl (y 0, 9, .inl nz)), (a18, .inl (y 0, 4, .inl (upd nz 2 99))), (a19, .inl (y 0, 9, .inl nz)), (a20, .inl (y 0, 9, .inl nz)), (a21, .inl (y 0, 9, .inl nz))] sz) ((fun A => nQr D y 0 (fun u => [(a0, .inr (11, [.ref a1, .ref a2, .ref a3, .ref a4, .ref a5, .ref a6, .ref a7, .ref a8, .ref a9, .ref a10, .ref a11, .ref a12, .ref a13, .ref a14, .int 1, .ref (u 0), .int 1])), ((u 7), .inl (y 0, 2000, .inl nz)), ((u 11), .inl (y 0, 2000, .inl nz)), ((u 12), .inl (y 0, 2000, .inl nz)), ((u 13), .inl (y 1, 2000, .inr (.inl nzl))), ((u 8), .inl (y 0, 2001, .inl nz)), (a15, .inl (y 0, 9, .inl nz)), ((u 16), .inl (y 0, 9, .inl nz)), ((u 19), .inl (y 0, 4, .inl (upd nz 2 99))), (a18, .inl (y 0, 4, .inl (upd nz 2 99))), (a19, .inl (y 0, 9, .inl nz)), ((u 20), .inl (y 0, 9, .inl nz)), (a20, .inl (y 0, 9, .inl nz)), ((u 21), .inl (y 0, 9, .inl nz)), (a21, .inl (y 0, 9, .inl nz)), ((u 22), .inl (y 0, 9, .inl nz)), (a16, .inl (y 0, 9, .inl nz)), (a17, .inl (y 0, 9, .inl nz)), (a6, .inr (7, [.ref a15, .ref a16, .ref a17, .ref a18, .int 0, .int 0, .ref a19, .ref a20, .ref a21, .ref a3])), ((u 14), .inl (y 0, 4096, .inl (upd nz 3476 1))), ((u 2), .inl (y 0, 2001, .inl (upd nz 0 1))), ((u 17), .inl (y 0, 9, .inl nz)), ((u 5), .inl (y 1, 2001, .inr (.inl nzl))), ((u 18), .inl (y 0, 9, .inl nz)), ((u 3), .inl (y 1, 2001, .inr (.inl nzl))), ((u 1), .inr (2, [.ref (u 2), .ref (u 3), .ref (u 4), .ref (u 5)])), ((u 4), .inl (y 1, 2001, .inr (.inl nzl))), ((u 0), .inr (4, [.ref (u 1), .ref (u 6), .ref (u 7), .int 1, .int 1, .ref (u 8), .ref (u 9), .ref (u 10), .ref (u 11), .ref (u 12), .ref (u 13), .ref (u 14), .ref (u 15)])), ((u 6), .inl (y 0, 2000, .inl nz)), ((u 9), .inl (y 2, 2000, .inl (upd nz 0 1))), ((u 10), .inl (y 0, 16000, .inl (upd (upd (upd (upd (upd (upd (upd (upd nz 0 (-1)) 1 (-1)) 2 (-1)) 3 (-1)) 4 (-1)) 5 (-1)) 6 (-1)) 7 (-1)))), ((u 15), .inr (7, [.ref (u 16), .ref (u 17), .ref (u 18), .ref (u 19), .int 0, .int 0, .ref (u 20), .ref (u 21), .ref (u 22), .ref a3]))]) A) (va_A [(a0, .inr (11, [.ref a1, .ref a2, .ref a3, .ref a4, .ref a5, .ref a6, .ref a7, .ref a8, .ref a9, .ref a10, .ref a11, .ref a12, .ref a13, .ref a14, .int 1, .null, .int 0])), (a6, .inr (7, [.ref a15, .ref a16, .ref a17, .ref a18, .int 0, .int 0, .ref a19, .ref a20, .ref a21, .ref a3])), (a15, .inl (y 0, 9, .inl nz)), (a16, .inl (y 0, 9, .inl nz)), (a17, .inl (y 0, 9, .inl nz)), (a18, .inl (y 0, 4, .inl (upd nz 2 99))), (a19, .inl (y 0, 9, .inl nz)), (a20, .inl (y 0, 9, .inl nz)), (a21, .inl (y 0, 9, .inl nz))] sz)) 23 42186 (va_A [(a0, .inr (11, [.ref a1, .ref a2, .ref a3, .ref a4, .ref a5, .ref a6, .ref a7, .ref a8, .ref a9, .ref a10, .ref a11, .ref a12, .ref a13, .ref a14, .int 1, .null, .int 0])), (a6, .inr (7, [.ref a15, .ref a16, .ref a17, .ref a18, .int 0, .int 0, .ref a19, .ref a20, .ref a21, .ref a3])), (a15, .inl (y 0, 9, .inl nz)), (a16, .inl (y 0, 9, .inl nz)), (a17, .inl (y 0, 9, .inl nz)), (a18, .inl (y 0, 4, .inl (upd nz 2 99))), (a19, .inl (y 0, 9, .inl nz)), (a20, .inl (y 0, 9, .inl nz)), (a21, .inl (y 0, 9, .inl nz))] sz) := by
  refine nm_ofW (D := D) (y := y) (E := nT) (yy := yX11_allLines) (wsy := wsX11_allLines) (rm := { frames := 5, cells := 23, slots := 42186, locals := 270 }) (as := [.ref a0]) (ws := [(a0, .inr (11, [.ref a1, .ref a2, .ref a3, .ref a4, .ref a5, .ref a6, .ref a7, .ref a8, .ref a9, .ref a10, .ref a11, .ref a12, .ref a13, .ref a14, .int 1, .null, .int 0])), (a6, .inr (7, [.ref a15, .ref a16, .ref a17, .ref a18, .int 0, .int 0, .ref a19, .ref a20, .ref a21, .ref a3])), (a15, .inl (y 0, 9, .inl nz)), (a16, .inl (y 0, 9, .inl nz)), (a17, .inl (y 0, 9, .inl nz)), (a18, .inl (y 0, 4, .inl (upd nz 2 99))), (a19, .inl (y 0, 9, .inl nz)), (a20, .inl (y 0, 9, .inl nz)), (a21, .inl (y 0, 9, .inl nz))]) (sz := sz) (mc := 23) (ms := 42186) (Qc := fun A => nQr D y 0 (fun u => [(a0, .inr (11, [.ref a1, .ref a2, .ref a3, .ref a4, .ref a5, .ref a6, .ref a7, .ref a8, .ref a9, .ref a10, .ref a11, .ref a12, .ref a13, .ref a14, .int 1, .ref (u 0), .int 1])), ((u 7), .inl (y 0, 2000, .inl nz)), ((u 11), .inl (y 0, 2000, .inl nz)), ((u 12), .inl (y 0, 2000, .inl nz)), ((u 13), .inl (y 1, 2000, .inr (.inl nzl))), ((u 8), .inl (y 0, 2001, .inl nz)), (a15, .inl (y 0, 9, .inl nz)), ((u 16), .inl (y 0, 9, .inl nz)), ((u 19), .inl (y 0, 4, .inl (upd nz 2 99))), (a18, .inl (y 0, 4, .inl (upd nz 2 99))), (a19, .inl (y 0, 9, .inl nz)), ((u 20), .inl (y 0, 9, .inl nz)), (a20, .inl (y 0, 9, .inl nz)), ((u 21), .inl (y 0, 9, .inl nz)), (a21, .inl (y 0, 9, .inl nz)), ((u 22), .inl (y 0, 9, .inl nz)), (a16, .inl (y 0, 9, .inl nz)), (a17, .inl (y 0, 9, .inl nz)), (a6, .inr (7, [.ref a15, .ref a16, .ref a17, .ref a18, .int 0, .int 0, .ref a19, .ref a20, .ref a21, .ref a3])), ((u 14), .inl (y 0, 4096, .inl (upd nz 3476 1))), ((u 2), .inl (y 0, 2001, .inl (upd nz 0 1))), ((u 17), .inl (y 0, 9, .inl nz)), ((u 5), .inl (y 1, 2001, .inr (.inl nzl))), ((u 18), .inl (y 0, 9, .inl nz)), ((u 3), .inl (y 1, 2001, .inr (.inl nzl))), ((u 1), .inr (2, [.ref (u 2), .ref (u 3), .ref (u 4), .ref (u 5)])), ((u 4), .inl (y 1, 2001, .inr (.inl nzl))), ((u 0), .inr (4, [.ref (u 1), .ref (u 6), .ref (u 7), .int 1, .int 1, .ref (u 8), .ref (u 9), .ref (u 10), .ref (u 11), .ref (u 12), .ref (u 13), .ref (u 14), .ref (u 15)])), ((u 6), .inl (y 0, 2000, .inl nz)), ((u 9), .inl (y 2, 2000, .inl (upd nz 0 1))), ((u 10), .inl (y 0, 16000, .inl (upd (upd (upd (upd (upd (upd (upd (upd nz 0 (-1)) 1 (-1)) 2 (-1)) 3 (-1)) 4 (-1)) 5 (-1)) 6 (-1)) 7 (-1)))), ((u 15), .inr (7, [.ref (u 16), .ref (u 17), .ref (u 18), .ref (u 19), .int 0, .int 0, .ref (u 20), .ref (u 21), .ref (u 22), .ref a3]))]) A) (cc := cX11_allLines) (maxL := 1) (ret := (some (.object "SoldToBehind$Reach"))) (by decide +kernel) rfl (Nat.le_of_ble_eq_true rfl) ?_
  intro p e s m below meth c A ls H hx hb hr hml hts hown hlocks hnm hsz hP hK hD hA hS hE hAe hl
  replace hl : lv_has ls 1 [(0, .ref a0)] := hl
  have hown : s.vm.findClass RX11 = some m.cls := hown
  have w_0 := hts (.fieldLink RX11 91 "SoldToBehind" "reach" "LSoldToBehind$Reach;") (gt_k wd_2_113)
  have w_1 := hts (.classLink RX11 333 RX4) (gt_k wd_4_239)
  have w_2 := hts (.instantiable RX4 13) (gt_k wd_5_0)
  have w_3 := hts (.initialized RX4) (gt_k wd_1_26)
  have w_4 := hts (.fieldLink RX11 26 "SoldToBehind" "town" "LSoldToBehind$Town;") (gt_k wd_2_100)
  have w_5 := hts (.methodLink RX11 335 yX4_init) (gt_k wd_5_1)
  have w_6 := hts (.instanceMethod yX4_init) (gt_k wd_5_2)
  have w_7 := hts (.fieldLink RX11 95 "SoldToBehind" "reachStands" "Z") (gt_k wd_2_114)
  have w_8 := hts (.fieldLink RX11 49 "SoldToBehind" "now" "LSoldToBehind$Standing;") (gt_k wd_2_103)
  have w_9 := hts (.fieldLink RX11 339 "SoldToBehind$Reach" "whole" "Z") (gt_k wd_5_18)
  refine lv_aload_n hx hb dX11_allLines_0 rfl (lv_at hl 0 rfl) ?_
  refine va_get (D := D) (ci := 11) (v := .null) (C := RX11) (T := TX11) (N := 17) hx hb hts (gt_c iG_X11) hown hK hP 0 rfl rfl 15 (by decide +kernel) w_0 (fun _ h9 => h9) rfl dX11_allLines_1 ?_
  refine lv_ifnonnullN hx hb dX11_allLines_4 ?_
  refine lv_aload_n hx hb dX11_allLines_7 rfl (lv_at hl 0 rfl) ?_
  refine va_new (ci := 4) (fs := [.null, .null, .null, .int 0, .int 0, .null, .null, .null, .null, .null, .null, .null, .null]) (C := RX4) (T := TX4) (N := 13) hx hb hts (gt_c iG_X4) tyX4 tyX4_ok hown w_1 w_2 w_3 hK hP hD hS hA rfl (by decide +kernel) (Nat.le_of_ble_eq_true rfl) (Nat.le_of_ble_eq_true rfl) dX11_allLines_8 (fun q1 H hP hD hS => ?_)
  refine lv_dup hx hb dX11_allLines_11 rfl ?_
  refine lv_aload_n hx hb dX11_allLines_12 rfl (lv_at hl 0 rfl) ?_
  refine va_get (D := D) (ci := 11) (v := .ref a3) (C := RX11) (T := TX11) (N := 17) hx hb hts (gt_c iG_X11) hown hK hP 0 rfl rfl 2 (by decide +kernel) w_4 (fun _ h9 => h9) rfl dX11_allLines_13 ?_
  refine nj_v (ws := [(a0, .inr (11, [.ref a1, .ref a2, .ref a3, .ref a4, .ref a5, .ref a6, .ref a7, .ref a8, .ref a9, .ref a10, .ref a11, .ref a12, .ref a13, .ref a14, .int 1, .null, .int 0])), (a6, .inr (7, [.ref a15, .ref a16, .ref a17, .ref a18, .int 0, .int 0, .ref a19, .ref a20, .ref a21, .ref a3])), (a15, .inl (y 0, 9, .inl nz)), (a16, .inl (y 0, 9, .inl nz)), (a17, .inl (y 0, 9, .inl nz)), (a18, .inl (y 0, 4, .inl (upd nz 2 99))), (a19, .inl (y 0, 9, .inl nz)), (a20, .inl (y 0, 9, .inl nz)), (a21, .inl (y 0, 9, .inl nz)), (q1, .inr (4, [.null, .null, .null, .int 0, .int 0, .null, .null, .null, .null, .null, .null, .null, .null]))]) (wc := [(q1, .inr (4, [.null, .null, .null, .int 0, .int 0, .null, .null, .null, .null, .null, .null, .null, .null]))]) (wr := [(a0, .inr (11, [.ref a1, .ref a2, .ref a3, .ref a4, .ref a5, .ref a6, .ref a7, .ref a8, .ref a9, .ref a10, .ref a11, .ref a12, .ref a13, .ref a14, .int 1, .null, .int 0])), (a6, .inr (7, [.ref a15, .ref a16, .ref a17, .ref a18, .int 0, .int 0, .ref a19, .ref a20, .ref a21, .ref a3])), (a15, .inl (y 0, 9, .inl nz)), (a16, .inl (y 0, 9, .inl nz)), (a17, .inl (y 0, 9, .inl nz)), (a18, .inl (y 0, 4, .inl (upd nz 2 99))), (a19, .inl (y 0, 9, .inl nz)), (a20, .inl (y 0, 9, .inl nz)), (a21, .inl (y 0, 9, .inl nz))]) (nr_I (As := [.ref a3]) (rest := [.ref q1, .ref a0]) ⟨hx, hb, hml, hown, hts⟩ (cX4_init_1 l D y q1 a3 H.size) (cwI 1 hts gX11_allLines_X4_init rfl rfl rfl w_3 w_5 w_6 rfl (by decide +kernel) ⟨Nat.le_of_ble_eq_true rfl, Nat.le_of_ble_eq_true rfl⟩) hK hP hD hE [9] rfl (by decide +kernel) rfl rfl hl.1 rfl (lv_room (Nat.le_of_ble_eq_true rfl)) dX11_allLines_16 ⟨Nat.le_of_ble_eq_true rfl, Nat.le_of_ble_eq_true rfl⟩) hP hD hS hA [9] [0, 1, 2, 3, 4, 5, 6, 7, 8] rfl rfl (by decide +kernel) (by decide +kernel) (fun u2 H locs _ hP hD hS => ?_)
  refine nb_put (D := D) (ci := 11) (v := .ref q1) (ty := .object "SoldToBehind$Reach") (C := RX11) (T := TX11) (N := 17) (ws' := [(a0, .inr (11, [.ref a1, .ref a2, .ref a3, .ref a4, .ref a5, .ref a6, .ref a7, .ref a8, .ref a9, .ref a10, .ref a11, .ref a12, .ref a13, .ref a14, .int 1, .ref q1, .int 0])), (a6, .inr (7, [.ref a15, .ref a16, .ref a17, .ref a18, .int 0, .int 0, .ref a19, .ref a20, .ref a21, .ref a3])), (a15, .inl (y 0, 9, .inl nz)), (a16, .inl (y 0, 9, .inl nz)), (a17, .inl (y 0, 9, .inl nz)), (a18, .inl (y 0, 4, .inl (upd nz 2 99))), (a19, .inl (y 0, 9, .inl nz)), (a20, .inl (y 0, 9, .inl nz)), (a21, .inl (y 0, 9, .inl nz)), (q1, .inr (4, [.ref (u2 0), .ref (u2 5), .ref (u2 6), .int 0, .int 0, .ref (u2 7), .ref (u2 8), .ref (u2 9), .ref (u2 10), .ref (u2 11), .ref (u2 12), .ref (u2 13), .ref (u2 14)])), ((u2 0), .inr (2, [.ref (u2 1), .ref (u2 2), .ref (u2 3), .ref (u2 4)])), ((u2 1), .inl (y 0, 2001, .inl nz)), ((u2 2), .inl (y 1, 2001, .inr (.inl nzl))), ((u2 3), .inl (y 1, 2001, .inr (.inl nzl))), ((u2 4), .inl (y 1, 2001, .inr (.inl nzl))), ((u2 5), .inl (y 0, 2000, .inl nz)), ((u2 6), .inl (y 0, 2000, .inl nz)), ((u2 7), .inl (y 0, 2001, .inl nz)), ((u2 8), .inl (y 2, 2000, .inl nz)), ((u2 9), .inl (y 0, 16000, .inl nz)), ((u2 10), .inl (y 0, 2000, .inl nz)), ((u2 11), .inl (y 0, 2000, .inl nz)), ((u2 12), .inl (y 1, 2000, .inr (.inl nzl))), ((u2 13), .inl (y 0, 4096, .inl nz)), ((u2 14), .inr (7, [.ref (u2 15), .ref (u2 16), .ref (u2 17), .ref (u2 18), .int 0, .int 0, .ref (u2 19), .ref (u2 20), .ref (u2 21), .ref a3])), ((u2 15), .inl (y 0, 9, .inl nz)), ((u2 16), .inl (y 0, 9, .inl nz)), ((u2 17), .inl (y 0, 9, .inl nz)), ((u2 18), .inl (y 0, 4, .inl (upd nz 2 99))), ((u2 19), .inl (y 0, 9, .inl nz)), ((u2 20), .inl (y 0, 9, .inl nz)), ((u2 21), .inl (y 0, 9, .inl nz))]) hx hb hts (gt_c iG_X11) tyX11 tyX11_ok nmX11 hown hK hP hD hS 0 rfl rfl 15 (by decide +kernel) w_0 (fun _ h9 => h9) rfl (by decide +kernel) rfl rfl (Nat.le_of_ble_eq_true rfl) rfl dX11_allLines_19 (fun H locs hP hD hS => ?_)
  refine lv_aload_n hx hb dX11_allLines_22 rfl (lv_at hl 0 rfl) ?_
  refine va_get (D := D) (ci := 11) (v := .int 0) (C := RX11) (T := TX11) (N := 17) hx hb hts (gt_c iG_X11) hown hK hP 0 rfl rfl 16 (by decide +kernel) w_7 (fun _ h9 => h9) rfl dX11_allLines_23 ?_
  refine lv_if_ne (tgt := 45) hx hb dX11_allLines_26 (by decide +kernel) (fun c => absurd (by decide +kernel) c) (fun _ => ?_)
  refine lv_aload_n hx hb dX11_allLines_29 rfl (lv_at hl 0 rfl) ?_
  refine va_get (D := D) (ci := 11) (v := .ref q1) (C := RX11) (T := TX11) (N := 17) hx hb hts (gt_c iG_X11) hown hK hP 0 rfl rfl 15 (by decide +kernel) w_0 (fun _ h9 => h9) rfl dX11_allLines_30 ?_
  refine lv_aload_n hx hb dX11_allLines_33 rfl (lv_at hl 0 rfl) ?_
  refine va_get (D := D) (ci := 11) (v := .ref a6) (C := RX11) (T := TX11) (N := 17) hx hb hts (gt_c iG_X11) hown hK hP 0 rfl rfl 5 (by decide +kernel) w_8 (fun _ h9 => h9) rfl dX11_allLines_34 ?_
  refine nj_v (ws := [(a0, .inr (11, [.ref a1, .ref a2, .ref a3, .ref a4, .ref a5, .ref a6, .ref a7, .ref a8, .ref a9, .ref a10, .ref a11, .ref a12, .ref a13, .ref a14, .int 1, .ref q1, .int 0])), (a6, .inr (7, [.ref a15, .ref a16, .ref a17, .ref a18, .int 0, .int 0, .ref a19, .ref a20, .ref a21, .ref a3])), (a15, .inl (y 0, 9, .inl nz)), (a16, .inl (y 0, 9, .inl nz)), (a17, .inl (y 0, 9, .inl nz)), (a18, .inl (y 0, 4, .inl (upd nz 2 99))), (a19, .inl (y 0, 9, .inl nz)), (a20, .inl (y 0, 9, .inl nz)), (a21, .inl (y 0, 9, .inl nz)), (q1, .inr (4, [.ref (u2 0), .ref (u2 5), .ref (u2 6), .int 0, .int 0, .ref (u2 7), .ref (u2 8), .ref (u2 9), .ref (u2 10), .ref (u2 11), .ref (u2 12), .ref (u2 13), .ref (u2 14)])), ((u2 0), .inr (2, [.ref (u2 1), .ref (u2 2), .ref (u2 3), .ref (u2 4)])), ((u2 1), .inl (y 0, 2001, .inl nz)), ((u2 2), .inl (y 1, 2001, .inr (.inl nzl))), ((u2 3), .inl (y 1, 2001, .inr (.inl nzl))), ((u2 4), .inl (y 1, 2001, .inr (.inl nzl))), ((u2 5), .inl (y 0, 2000, .inl nz)), ((u2 6), .inl (y 0, 2000, .inl nz)), ((u2 7), .inl (y 0, 2001, .inl nz)), ((u2 8), .inl (y 2, 2000, .inl nz)), ((u2 9), .inl (y 0, 16000, .inl nz)), ((u2 10), .inl (y 0, 2000, .inl nz)), ((u2 11), .inl (y 0, 2000, .inl nz)), ((u2 12), .inl (y 1, 2000, .inr (.inl nzl))), ((u2 13), .inl (y 0, 4096, .inl nz)), ((u2 14), .inr (7, [.ref (u2 15), .ref (u2 16), .ref (u2 17), .ref (u2 18), .int 0, .int 0, .ref (u2 19), .ref (u2 20), .ref (u2 21), .ref a3])), ((u2 15), .inl (y 0, 9, .inl nz)), ((u2 16), .inl (y 0, 9, .inl nz)), ((u2 17), .inl (y 0, 9, .inl nz)), ((u2 18), .inl (y 0, 4, .inl (upd nz 2 99))), ((u2 19), .inl (y 0, 9, .inl nz)), ((u2 20), .inl (y 0, 9, .inl nz)), ((u2 21), .inl (y 0, 9, .inl nz))]) (wc := [(q1, .inr (4, [.ref (u2 0), .ref (u2 5), .ref (u2 6), .int 0, .int 0, .ref (u2 7), .ref (u2 8), .ref (u2 9), .ref (u2 10), .ref (u2 11), .ref (u2 12), .ref (u2 13), .ref (u2 14)])), ((u2 14), .inr (7, [.ref (u2 15), .ref (u2 16), .ref (u2 17), .ref (u2 18), .int 0, .int 0, .ref (u2 19), .ref (u2 20), .ref (u2 21), .ref a3])), (a6, .inr (7, [.ref a15, .ref a16, .ref a17, .ref a18, .int 0, .int 0, .ref a19, .ref a20, .ref a21, .ref a3])), (a15, .inl (y 0, 9, .inl nz)), ((u2 15), .inl (y 0, 9, .inl nz)), (a16, .inl (y 0, 9, .inl nz)), ((u2 16), .inl (y 0, 9, .inl nz)), (a17, .inl (y 0, 9, .inl nz)), ((u2 17), .inl (y 0, 9, .inl nz)), ((u2 18), .inl (y 0, 4, .inl (upd nz 2 99))), (a18, .inl (y 0, 4, .inl (upd nz 2 99))), (a19, .inl (y 0, 9, .inl nz)), ((u2 19), .inl (y 0, 9, .inl nz)), (a20, .inl (y 0, 9, .inl nz)), ((u2 20), .inl (y 0, 9, .inl nz)), (a21, .inl (y 0, 9, .inl nz)), ((u2 21), .inl (y 0, 9, .inl nz)), ((u2 13), .inl (y 0, 4096, .inl nz)), ((u2 0), .inr (2, [.ref (u2 1), .ref (u2 2), .ref (u2 3), .ref (u2 4)])), ((u2 1), .inl (y 0, 2001, .inl nz)), ((u2 2), .inl (y 1, 2001, .inr (.inl nzl))), ((u2 3), .inl (y 1, 2001, .inr (.inl nzl))), ((u2 4), .inl (y 1, 2001, .inr (.inl nzl))), ((u2 7), .inl (y 0, 2001, .inl nz)), ((u2 5), .inl (y 0, 2000, .inl nz)), ((u2 8), .inl (y 2, 2000, .inl nz)), ((u2 9), .inl (y 0, 16000, .inl nz))]) (wr := [(a0, .inr (11, [.ref a1, .ref a2, .ref a3, .ref a4, .ref a5, .ref a6, .ref a7, .ref a8, .ref a9, .ref a10, .ref a11, .ref a12, .ref a13, .ref a14, .int 1, .ref q1, .int 0])), ((u2 6), .inl (y 0, 2000, .inl nz)), ((u2 10), .inl (y 0, 2000, .inl nz)), ((u2 11), .inl (y 0, 2000, .inl nz)), ((u2 12), .inl (y 1, 2000, .inr (.inl nzl)))]) (nr_V (As := [.ref a6]) (rest := []) ⟨hx, hb, hml, hown, hts⟩ (cX4_explore_1 l D y q1 a6 (u2 0) (u2 5) (u2 6) (u2 7) (u2 8) (u2 9) (u2 10) (u2 11) (u2 12) (u2 13) (u2 14) (u2 15) (u2 16) (u2 17) (u2 18) (u2 19) (u2 20) (u2 21) a3 a15 a16 a17 a18 a19 a20 a21 (u2 1) (u2 2) (u2 3) (u2 4) H.size) (cwV 1 hts gX11_allLines_X4_explore rfl rfl rfl (by decide +kernel) ⟨Nat.le_of_ble_eq_true rfl, Nat.le_of_ble_eq_true rfl⟩) hK hP hD hE [9, 24, 1, 2, 25, 3, 26, 4, 27, 28, 5, 6, 29, 7, 30, 8, 31, 23, 10, 11, 12, 13, 14, 17, 15, 18, 19] rfl (by decide +kernel) 0 4 rfl rfl rfl rfl rfl hl.1 rfl (lv_room (Nat.le_of_ble_eq_true rfl)) dX11_allLines_37 ⟨Nat.le_of_ble_eq_true rfl, Nat.le_of_ble_eq_true rfl⟩) hP hD hS hA [9, 24, 1, 2, 25, 3, 26, 4, 27, 28, 5, 6, 29, 7, 30, 8, 31, 23, 10, 11, 12, 13, 14, 17, 15, 18, 19] [0, 16, 20, 21, 22] rfl rfl (by decide +kernel) (by decide +kernel) (fun u4 H locs _ hP hD hS => ?_)
  refine lv_aload_n hx hb dX11_allLines_40 rfl (lv_at hl 0 rfl) ?_
  refine lv_iconst (v := 1) hx hb dX11_allLines_41 (by decide +kernel) ?_
  refine nb_put (D := D) (ci := 11) (v := .int 1) (ty := .boolean) (C := RX11) (T := TX11) (N := 17) (ws' := [(a0, .inr (11, [.ref a1, .ref a2, .ref a3, .ref a4, .ref a5, .ref a6, .ref a7, .ref a8, .ref a9, .ref a10, .ref a11, .ref a12, .ref a13, .ref a14, .int 1, .ref q1, .int 1])), ((u2 6), .inl (y 0, 2000, .inl nz)), ((u2 10), .inl (y 0, 2000, .inl nz)), ((u2 11), .inl (y 0, 2000, .inl nz)), ((u2 12), .inl (y 1, 2000, .inr (.inl nzl))), ((u2 7), .inl (y 0, 2001, .inl nz)), (a15, .inl (y 0, 9, .inl nz)), ((u2 15), .inl (y 0, 9, .inl nz)), ((u2 18), .inl (y 0, 4, .inl (upd nz 2 99))), (a18, .inl (y 0, 4, .inl (upd nz 2 99))), (a19, .inl (y 0, 9, .inl nz)), ((u2 19), .inl (y 0, 9, .inl nz)), (a20, .inl (y 0, 9, .inl nz)), ((u2 20), .inl (y 0, 9, .inl nz)), (a21, .inl (y 0, 9, .inl nz)), ((u2 21), .inl (y 0, 9, .inl nz)), (a16, .inl (y 0, 9, .inl nz)), (a17, .inl (y 0, 9, .inl nz)), (a6, .inr (7, [.ref a15, .ref a16, .ref a17, .ref a18, .int 0, .int 0, .ref a19, .ref a20, .ref a21, .ref a3])), ((u2 13), .inl (y 0, 4096, .inl (upd nz 3476 1))), ((u2 1), .inl (y 0, 2001, .inl (upd nz 0 1))), ((u2 16), .inl (y 0, 9, .inl nz)), ((u2 4), .inl (y 1, 2001, .inr (.inl nzl))), ((u2 17), .inl (y 0, 9, .inl nz)), ((u2 2), .inl (y 1, 2001, .inr (.inl nzl))), ((u2 0), .inr (2, [.ref (u2 1), .ref (u2 2), .ref (u2 3), .ref (u2 4)])), ((u2 3), .inl (y 1, 2001, .inr (.inl nzl))), (q1, .inr (4, [.ref (u2 0), .ref (u2 5), .ref (u2 6), .int 1, .int 1, .ref (u2 7), .ref (u2 8), .ref (u2 9), .ref (u2 10), .ref (u2 11), .ref (u2 12), .ref (u2 13), .ref (u2 14)])), ((u2 5), .inl (y 0, 2000, .inl nz)), ((u2 8), .inl (y 2, 2000, .inl (upd nz 0 1))), ((u2 9), .inl (y 0, 16000, .inl (upd (upd (upd (upd (upd (upd (upd (upd nz 0 (-1)) 1 (-1)) 2 (-1)) 3 (-1)) 4 (-1)) 5 (-1)) 6 (-1)) 7 (-1)))), ((u2 14), .inr (7, [.ref (u2 15), .ref (u2 16), .ref (u2 17), .ref (u2 18), .int 0, .int 0, .ref (u2 19), .ref (u2 20), .ref (u2 21), .ref a3]))]) hx hb hts (gt_c iG_X11) tyX11 tyX11_ok nmX11 hown hK hP hD hS 0 rfl rfl 16 (by decide +kernel) w_7 (fun _ h9 => h9) rfl (by decide +kernel) rfl rfl (Nat.le_of_ble_eq_true rfl) rfl dX11_allLines_42 (fun H locs hP hD hS => ?_)
  refine lv_aload_n hx hb dX11_allLines_45 rfl (lv_at hl 0 rfl) ?_
  refine va_get (D := D) (ci := 11) (v := .ref q1) (C := RX11) (T := TX11) (N := 17) hx hb hts (gt_c iG_X11) hown hK hP 0 rfl rfl 15 (by decide +kernel) w_0 (fun _ h9 => h9) rfl dX11_allLines_46 ?_
  refine va_get (D := D) (ci := 4) (v := .int 1) (C := RX4) (T := TX4) (N := 13) hx hb hts (gt_c iG_X4) hown hK hP 27 rfl rfl 4 (by decide +kernel) w_9 (fun _ h9 => h9) rfl dX11_allLines_49 ?_
  refine lv_if_eq (tgt := 62) hx hb dX11_allLines_52 (by decide +kernel) (fun c => absurd c (by decide +kernel)) (fun _ => ?_)
  refine lv_aload_n hx hb dX11_allLines_55 rfl (lv_at hl 0 rfl) ?_
  refine va_get (D := D) (ci := 11) (v := .ref q1) (C := RX11) (T := TX11) (N := 17) hx hb hts (gt_c iG_X11) hown hK hP 0 rfl rfl 15 (by decide +kernel) w_0 (fun _ h9 => h9) rfl dX11_allLines_56 ?_
  refine lv_goto (tgt := 63) hx hb dX11_allLines_59 (by decide +kernel) ?_
  refine W.widen (k := 23) (n := 42186) (Nat.le_of_ble_eq_true rfl) (Nat.le_of_ble_eq_true rfl) ?_
  exact W.aret (v := .ref q1) hx hb hr (Or.inl ⟨_, rfl⟩) (Or.inr ⟨_, rfl⟩) (fun t ht hW => ⟨⟨(fun k => if k = 0 then q1 else if k = 1 then (u2 0) else if k = 2 then (u2 1) else if k = 3 then (u2 2) else if k = 4 then (u2 3) else if k = 5 then (u2 4) else if k = 6 then (u2 5) else if k = 7 then (u2 6) else if k = 8 then (u2 7) else if k = 9 then (u2 8) else if k = 10 then (u2 9) else if k = 11 then (u2 10) else if k = 12 then (u2 11) else if k = 13 then (u2 12) else if k = 14 then (u2 13) else if k = 15 then (u2 14) else if k = 16 then (u2 15) else if k = 17 then (u2 16) else if k = 18 then (u2 17) else if k = 19 then (u2 18) else if k = 20 then (u2 19) else if k = 21 then (u2 20) else if k = 22 then (u2 21) else 0), q1, rfl, trivial, rfl, by rw [ht]; exact hP, va_K.moved hW.alike hK, hD⟩, hS.F ht⟩) hS.2.2 dX11_allLines_63 hlocks
set_option maxRecDepth 100000 in
set_option maxHeartbeats 4000000 in
theorem cJ7_fill_53178_3 (l : Launch) (D : va_G) (y : Nat → ClassId) (a0 : Nat) (sz : Nat) : Met l yJ7_fill_53178 wsJ7_fill_53178 { frames := 2, cells := 0, slots := 0, locals := 200 } (nPc D y nT [.ref a0, .int 0] [(a0, .inl (y 0, 4096, .inl (upd nz 3476 1)))] sz) ((fun A => nQv D y (fun _ => True) (fun u => [(a0, .inl (y 0, 4096, .inl (nfil 4096 0 (upd nz 3476 1))))]) A) (va_A [(a0, .inl (y 0, 4096, .inl (upd nz 3476 1)))] sz)) 0 0 (va_A [(a0, .inl (y 0, 4096, .inl (upd nz 3476 1)))] sz) := by
  refine nm_ofW (D := D) (y := y) (E := nT) (yy := yJ7_fill_53178) (wsy := wsJ7_fill_53178) (rm := { frames := 2, cells := 0, slots := 0, locals := 200 }) (as := [.ref a0, .int 0]) (ws := [(a0, .inl (y 0, 4096, .inl (upd nz 3476 1)))]) (sz := sz) (mc := 0) (ms := 0) (Qc := fun A => nQv D y (fun _ => True) (fun u => [(a0, .inl (y 0, 4096, .inl (nfil 4096 0 (upd nz 3476 1))))]) A) (cc := cJ7_fill_53178) (maxL := 4) (ret := none) (by decide +kernel) rfl (Nat.le_of_ble_eq_true rfl) ?_
  intro p e s m below meth c A ls H hx hb hr hml hts hown hlocks hnm hsz hP hK hD hA hS hE hAe hl
  replace hl : lv_has ls 4 [(0, .ref a0), (1, .int 0)] := hl
  have hown : s.vm.findClass RJ7 = some m.cls := hown
  refine lv_iconst (v := 0) hx hb dJ7_fill_53178_0 (by decide +kernel) ?_
  refine lv_istore_n (lv' := [(2, .int 0), (0, .ref a0), (1, .int 0)]) hx hb dJ7_fill_53178_1 rfl hl (by decide +kernel) rfl (fun ls hl => ?_)
  refine lv_aload_n hx hb dJ7_fill_53178_2 rfl (lv_at hl 1 rfl) ?_
  refine va_alen (v := 4096) hx hb hK hP 0 0 rfl rfl (by decide +kernel) dJ7_fill_53178_3 ?_
  refine lv_istore_n (lv' := [(3, .int 4096), (2, .int 0), (0, .ref a0), (1, .int 0)]) hx hb dJ7_fill_53178_4 rfl hl (by decide +kernel) rfl (fun ls hl => ?_)
  replace hP : va_P D vwCl [(a0, .inl (y 0, 4096, .inl (nfil 0 0 (upd nz 3476 1))))] H := by rw [nfil_0]; exact hP
  replace hD : va_D A [(a0, .inl (y 0, 4096, .inl (nfil 0 0 (upd nz 3476 1))))] := by rw [nfil_0]; exact hD
  refine n_loop (σ := Nat → Int32) (D := D) (A := A) (H0 := s.heap) (nL := 4) (head := 5) (st := []) (fun i g => [(a0, .inl (y 0, 4096, .inl (nfil i 0 (upd nz 3476 1))))]) (fun i g => [(3, .int 4096), (2, .int (nI i)), (0, .ref a0), (1, .int 0)]) 4096 ?_ ?_ 0 (by decide +kernel) nz H _ ls hP hD hS hl
  · intro g H locs ls hP hD hS hl
    replace hP : va_P D vwCl [(a0, .inl (y 0, 4096, .inl (nfil 4096 0 (upd nz 3476 1))))] H := hP
    replace hD : va_D A [(a0, .inl (y 0, 4096, .inl (nfil 4096 0 (upd nz 3476 1))))] := hD
    replace hl : lv_has ls 4 [(3, .int 4096), (2, .int 4096), (0, .ref a0), (1, .int 0)] := hl
    refine lv_iload_n hx hb dJ7_fill_53178_5 rfl (lv_at hl 1 rfl) ?_
    refine lv_iload_n hx hb dJ7_fill_53178_6 rfl (lv_at hl 0 rfl) ?_
    refine lv_icmp_ge (tgt := 20) hx hb dJ7_fill_53178_7 (by decide +kernel) (fun _ => ?_) (fun c => absurd (by decide +kernel) c)
    refine W.widen (k := 0) (n := 0) (Nat.le_of_ble_eq_true rfl) (Nat.le_of_ble_eq_true rfl) ?_
    exact W.vret hx hb hr (fun t ht hW => ⟨⟨(fun _ => 0), rfl, trivial, by rw [ht]; exact hP, va_K.moved hW.alike hK, hD⟩, hS.F ht⟩) hS.2.2 dJ7_fill_53178_20 hlocks
  · intro i1 hi ih g H locs ls hP hD hS hl
    replace hP : va_P D vwCl [(a0, .inl (y 0, 4096, .inl (nfil i1 0 (upd nz 3476 1))))] H := hP
    replace hD : va_D A [(a0, .inl (y 0, 4096, .inl (nfil i1 0 (upd nz 3476 1))))] := hD
    replace hl : lv_has ls 4 [(3, .int 4096), (2, .int (nI i1)), (0, .ref a0), (1, .int 0)] := hl
    have hili1 : (0 : Int32) ≤ nI i1 := nI_pos' (by omega)
    have hihi1 : nI i1 ≤ 4095 := nI_le (b := 4095) (by omega) (by decide +kernel)
    refine lv_iload_n hx hb dJ7_fill_53178_5 rfl (lv_at hl 1 rfl) ?_
    refine lv_iload_n hx hb dJ7_fill_53178_6 rfl (lv_at hl 0 rfl) ?_
    refine lv_icmp_ge (tgt := 20) hx hb dJ7_fill_53178_7 (by decide +kernel) (fun c => absurd c (q_nge hihi1 (by decide +kernel))) (fun _ => ?_)
    refine lv_aload_n hx hb dJ7_fill_53178_10 rfl (lv_at hl 2 rfl) ?_
    refine lv_iload_n hx hb dJ7_fill_53178_11 rfl (lv_at hl 1 rfl) ?_
    refine lv_iload_n hx hb dJ7_fill_53178_12 rfl (lv_at hl 3 rfl) ?_
    refine nb_iast (ws' := [(a0, .inl (y 0, 4096, .inl (nfil (i1 + 1) 0 (upd nz 3476 1))))]) hx hb hK hP hD hS 0 0 rfl rfl (vp_in_nI (by omega) (by decide +kernel)) (by rw [nfil_s (by omega)]; rfl) dJ7_fill_53178_13 (fun H locs hP hD hS => ?_)
    refine lv_iinc (v := (nI (i1 + 1))) (lv' := [(2, .int (nI (i1 + 1))), (3, .int 4096), (0, .ref a0), (1, .int 0)]) hx hb dJ7_fill_53178_14 hl (k := 1) rfl (nI_inc i1) (by decide +kernel) rfl (fun ls hl => ?_)
    refine lv_goto (tgt := 5) hx hb dJ7_fill_53178_17 (by decide +kernel) ?_
    exact ih nz H locs ls (hP.sub [0] rfl) (hD.sub [0] (by decide +kernel) rfl) hS (lv_sub hl [1, 0, 2, 3] rfl)
set_option maxRecDepth 100000 in
set_option maxHeartbeats 4000000 in
theorem cX2_hashOfCode_1 (l : Launch) (D : va_G) (y : Nat → ClassId) (a0 : Nat) (a1 : Nat) (a2 : Nat) (a3 : Nat) (a4 : Nat) (sz : Nat) : Met l yX2_hashOfCode wsX2_hashOfCode { frames := 2, cells := 0, slots := 0, locals := 200 } (nPc D y nT [.ref a0, .int 0, .int 12] [(a0, .inr (2, [.ref a1, .ref a2, .ref a3, .ref a4])), (a1, .inl (y 0, 2001, .inl (upd nz 0 1)))] sz) ((fun A => nQi D y (fun r _ => r = 2531) (fun u => [(a0, .inr (2, [.ref a1, .ref a2, .ref a3, .ref a4])), (a1, .inl (y 0, 2001, .inl (upd nz 0 1)))]) A) (va_A [(a0, .inr (2, [.ref a1, .ref a2, .ref a3, .ref a4])), (a1, .inl (y 0, 2001, .inl (upd nz 0 1)))] sz)) 0 0 (va_A [(a0, .inr (2, [.ref a1, .ref a2, .ref a3, .ref a4])), (a1, .inl (y 0, 2001, .inl (upd nz 0 1)))] sz) := by
  refine nm_ofW (D := D) (y := y) (E := nT) (yy := yX2_hashOfCode) (wsy := wsX2_hashOfCode) (rm := { frames := 2, cells := 0, slots := 0, locals := 200 }) (as := [.ref a0, .int 0, .int 12]) (ws := [(a0, .inr (2, [.ref a1, .ref a2, .ref a3, .ref a4])), (a1, .inl (y 0, 2001, .inl (upd nz 0 1)))]) (sz := sz) (mc := 0) (ms := 0) (Qc := fun A => nQi D y (fun r _ => r = 2531) (fun u => [(a0, .inr (2, [.ref a1, .ref a2, .ref a3, .ref a4])), (a1, .inl (y 0, 2001, .inl (upd nz 0 1)))]) A) (cc := cX2_hashOfCode) (maxL := 3) (ret := (some .int)) (by decide +kernel) rfl (Nat.le_of_ble_eq_true rfl) ?_
  intro p e s m below meth c A ls H hx hb hr hml hts hown hlocks hnm hsz hP hK hD hA hS hE hAe hl
  replace hl : lv_has ls 3 [(0, .ref a0), (1, .int 0), (2, .int 12)] := hl
  have hown : s.vm.findClass RX2 = some m.cls := hown
  have w_0 := hts (.fieldLink RX2 9 "SoldToBehind$Packed" "code" "[I") (gt_k wd_2_26)
  have w_1 := hts (.constantLong RX2 53 (-7046029254386353131)) (gt_k wd_5_70)
  refine lv_aload_n hx hb dX2_hashOfCode_0 rfl (lv_at hl 0 rfl) ?_
  refine va_get (D := D) (ci := 2) (v := .ref a1) (C := RX2) (T := TX2) (N := 4) hx hb hts (gt_c iG_X2) hown hK hP 0 rfl rfl 0 (by decide +kernel) w_0 (fun _ h9 => h9) rfl dX2_hashOfCode_1 ?_
  refine lv_iload_n hx hb dX2_hashOfCode_4 rfl (lv_at hl 1 rfl) ?_
  refine va_iald hx hb hK hP 1 0 rfl rfl (n_in (by decide +kernel)) dX2_hashOfCode_5 ?_
  refine nv_i (v := 1) rfl ?_
  refine lv_i2l (v := 1) hx hb dX2_hashOfCode_6 (by decide +kernel) ?_
  refine lv_ldc2 (v := (-7046029254386353131)) hx hb hown w_1 dX2_hashOfCode_7 ?_
  refine lv_lmul hx hb dX2_hashOfCode_10 ?_
  refine nv_l (v := (-7046029254386353131)) (by decide +kernel) ?_
  refine lv_bipush (v := 64) hx hb dX2_hashOfCode_11 (by decide +kernel) ?_
  refine lv_iload_n hx hb dX2_hashOfCode_13 rfl (lv_at hl 2 rfl) ?_
  refine lv_isub hx hb dX2_hashOfCode_14 ?_
  refine nv_i (v := 52) (by decide +kernel) ?_
  refine lv_lushr hx hb dX2_hashOfCode_15 rfl ?_
  refine nv_l (v := 2531) (by decide +kernel) ?_
  refine lv_l2i (v := 2531) hx hb dX2_hashOfCode_16 (by decide +kernel) ?_
  refine W.widen (k := 0) (n := 0) (Nat.le_of_ble_eq_true rfl) (Nat.le_of_ble_eq_true rfl) ?_
  exact W.iret (v := 2531) hx hb hr (fun t ht hW => ⟨⟨2531, (fun _ => 0), rfl, rfl, by rw [ht]; exact hP, va_K.moved hW.alike hK, hD⟩, hS.F ht⟩) hS.2.2 dX2_hashOfCode_17 hlocks
set_option maxRecDepth 100000 in
set_option maxHeartbeats 4000000 in
theorem cX4_unlikeLines_1 (l : Launch) (D : va_G) (y : Nat → ClassId) (a0 : Nat) (a1 : Nat) (a2 : Nat) (a3 : Nat) (a4 : Nat) (a5 : Nat) (a6 : Nat) (a7 : Nat) (a8 : Nat) (a9 : Nat) (a10 : Nat) (a11 : Nat) (a12 : Nat) (a13 : Nat) (a14 : Nat) (a15 : Nat) (sz : Nat) : Met l yX4_unlikeLines wsX4_unlikeLines { frames := 3, cells := 0, slots := 0, locals := 223 } (nPc D y nT [.ref a0] [(a0, .inr (4, [.ref a1, .ref a2, .ref a3, .int 1, .int 1, .ref a4, .ref a5, .ref a6, .ref a7, .ref a8, .ref a9, .ref a10, .ref a11])), (a10, .inl (y 0, 4096, .inl (upd nz 3476 1))), (a1, .inr (2, [.ref a12, .ref a13, .ref a14, .ref a15])), (a12, .inl (y 0, 2001, .inl (upd nz 0 1)))] sz) ((fun A => nQi D y (fun r _ => r = 1) (fun u => [(a0, .inr (4, [.ref a1, .ref a2, .ref a3, .int 1, .int 1, .ref a4, .ref a5, .ref a6, .ref a7, .ref a8, .ref a9, .ref a10, .ref a11])), (a10, .inl (y 0, 4096, .inl (upd (nfil 4096 0 (upd nz 3476 1)) 2531 1))), (a1, .inr (2, [.ref a12, .ref a13, .ref a14, .ref a15])), (a12, .inl (y 0, 2001, .inl (upd nz 0 1)))]) A) (va_A [(a0, .inr (4, [.ref a1, .ref a2, .ref a3, .int 1, .int 1, .ref a4, .ref a5, .ref a6, .ref a7, .ref a8, .ref a9, .ref a10, .ref a11])), (a10, .inl (y 0, 4096, .inl (upd nz 3476 1))), (a1, .inr (2, [.ref a12, .ref a13, .ref a14, .ref a15])), (a12, .inl (y 0, 2001, .inl (upd nz 0 1)))] sz)) 0 0 (va_A [(a0, .inr (4, [.ref a1, .ref a2, .ref a3, .int 1, .int 1, .ref a4, .ref a5, .ref a6, .ref a7, .ref a8, .ref a9, .ref a10, .ref a11])), (a10, .inl (y 0, 4096, .inl (upd nz 3476 1))), (a1, .inr (2, [.ref a12, .ref a13, .ref a14, .ref a15])), (a12, .inl (y 0, 2001, .inl (upd nz 0 1)))] sz) := by
  refine nm_ofW (D := D) (y := y) (E := nT) (yy := yX4_unlikeLines) (wsy := wsX4_unlikeLines) (rm := { frames := 3, cells := 0, slots := 0, locals := 223 }) (as := [.ref a0]) (ws := [(a0, .inr (4, [.ref a1, .ref a2, .ref a3, .int 1, .int 1, .ref a4, .ref a5, .ref a6, .ref a7, .ref a8, .ref a9, .ref a10, .ref a11])), (a10, .inl (y 0, 4096, .inl (upd nz 3476 1))), (a1, .inr (2, [.ref a12, .ref a13, .ref a14, .ref a15])), (a12, .inl (y 0, 2001, .inl (upd nz 0 1)))]) (sz := sz) (mc := 0) (ms := 0) (Qc := fun A => nQi D y (fun r _ => r = 1) (fun u => [(a0, .inr (4, [.ref a1, .ref a2, .ref a3, .int 1, .int 1, .ref a4, .ref a5, .ref a6, .ref a7, .ref a8, .ref a9, .ref a10, .ref a11])), (a10, .inl (y 0, 4096, .inl (upd (nfil 4096 0 (upd nz 3476 1)) 2531 1))), (a1, .inr (2, [.ref a12, .ref a13, .ref a14, .ref a15])), (a12, .inl (y 0, 2001, .inl (upd nz 0 1)))]) A) (cc := cX4_unlikeLines) (maxL := 5) (ret := (some .int)) (by decide +kernel) rfl (Nat.le_of_ble_eq_true rfl) ?_
  intro p e s m below meth c A ls H hx hb hr hml hts hown hlocks hnm hsz hP hK hD hA hS hE hAe hl
  replace hl : lv_has ls 5 [(0, .ref a0)] := hl
  have hown : s.vm.findClass RX4 = some m.cls := hown
  have w_0 := hts (.fieldLink RX4 55 "SoldToBehind$Reach" "table" "[I") (gt_k wd_5_25)
  have w_1 := hts (.fieldLink RX4 27 "SoldToBehind$Reach" "count" "I") (gt_k wd_5_15)
  have w_2 := hts (.fieldLink RX4 16 "SoldToBehind$Reach" "store" "LSoldToBehind$Packed;") (gt_k wd_5_9)
  refine lv_aload_n hx hb dX4_unlikeLines_0 rfl (lv_at hl 0 rfl) ?_
  refine va_get (D := D) (ci := 4) (v := .ref a10) (C := RX4) (T := TX4) (N := 13) hx hb hts (gt_c iG_X4) hown hK hP 0 rfl rfl 11 (by decide +kernel) w_0 (fun _ h9 => h9) rfl dX4_unlikeLines_1 ?_
  refine lv_iconst (v := 0) hx hb dX4_unlikeLines_4 (by decide +kernel) ?_
  refine nj_v (ws := [(a0, .inr (4, [.ref a1, .ref a2, .ref a3, .int 1, .int 1, .ref a4, .ref a5, .ref a6, .ref a7, .ref a8, .ref a9, .ref a10, .ref a11])), (a10, .inl (y 0, 4096, .inl (upd nz 3476 1))), (a1, .inr (2, [.ref a12, .ref a13, .ref a14, .ref a15])), (a12, .inl (y 0, 2001, .inl (upd nz 0 1)))]) (wc := [(a10, .inl (y 0, 4096, .inl (upd nz 3476 1)))]) (wr := [(a0, .inr (4, [.ref a1, .ref a2, .ref a3, .int 1, .int 1, .ref a4, .ref a5, .ref a6, .ref a7, .ref a8, .ref a9, .ref a10, .ref a11])), (a1, .inr (2, [.ref a12, .ref a13, .ref a14, .ref a15])), (a12, .inl (y 0, 2001, .inl (upd nz 0 1)))]) (nr_S (As := [.ref a10, .int 0]) (rest := []) ⟨hx, hb, hml, hown, hts⟩ (cJ7_fill_53178_3 l D y a10 H.size) (va_cwS 2 hts gX4_unlikeLines_J7_fill_53178 rfl rfl rfl (by decide +kernel) ⟨Nat.le_of_ble_eq_true rfl, Nat.le_of_ble_eq_true rfl⟩) hK hP hD hE [1] rfl (by decide +kernel) rfl rfl hl.1 rfl (lv_room (Nat.le_of_ble_eq_true rfl)) dX4_unlikeLines_5 ⟨Nat.le_of_ble_eq_true rfl, Nat.le_of_ble_eq_true rfl⟩) hP hD hS hA [1] [0, 2, 3] rfl rfl (by decide +kernel) (by decide +kernel) (fun u1 H locs _ hP hD hS => ?_)
  refine lv_iconst (v := 0) hx hb dX4_unlikeLines_8 (by decide +kernel) ?_
  refine lv_istore_n (lv' := [(1, .int 0), (0, .ref a0)]) hx hb dX4_unlikeLines_9 rfl hl (by decide +kernel) rfl (fun ls hl => ?_)
  refine lv_iconst (v := 0) hx hb dX4_unlikeLines_10 (by decide +kernel) ?_
  refine lv_istore_n (lv' := [(2, .int 0), (1, .int 0), (0, .ref a0)]) hx hb dX4_unlikeLines_11 rfl hl (by decide +kernel) rfl (fun ls hl => ?_)
  refine lv_iload_n hx hb dX4_unlikeLines_12 rfl (lv_at hl 0 rfl) ?_
  refine lv_aload_n hx hb dX4_unlikeLines_13 rfl (lv_at hl 2 rfl) ?_
  refine va_get (D := D) (ci := 4) (v := .int 1) (C := RX4) (T := TX4) (N := 13) hx hb hts (gt_c iG_X4) hown hK hP 0 rfl rfl 3 (by decide +kernel) w_1 (fun _ h9 => h9) rfl dX4_unlikeLines_14 ?_
  refine lv_icmp_ge (tgt := 120) hx hb dX4_unlikeLines_17 (by decide +kernel) (fun c => absurd c (by decide +kernel)) (fun _ => ?_)
  refine lv_aload_n hx hb dX4_unlikeLines_20 rfl (lv_at hl 2 rfl) ?_
  refine va_get (D := D) (ci := 4) (v := .ref a1) (C := RX4) (T := TX4) (N := 13) hx hb hts (gt_c iG_X4) hown hK hP 0 rfl rfl 0 (by decide +kernel) w_2 (fun _ h9 => h9) rfl dX4_unlikeLines_21 ?_
  refine lv_iload_n hx hb dX4_unlikeLines_24 rfl (lv_at hl 0 rfl) ?_
  refine lv_bipush (v := 12) hx hb dX4_unlikeLines_25 (by decide +kernel) ?_
  refine nj_i (ws := [(a0, .inr (4, [.ref a1, .ref a2, .ref a3, .int 1, .int 1, .ref a4, .ref a5, .ref a6, .ref a7, .ref a8, .ref a9, .ref a10, .ref a11])), (a1, .inr (2, [.ref a12, .ref a13, .ref a14, .ref a15])), (a12, .inl (y 0, 2001, .inl (upd nz 0 1))), (a10, .inl (y 0, 4096, .inl (nfil 4096 0 (upd nz 3476 1))))]) (wc := [(a1, .inr (2, [.ref a12, .ref a13, .ref a14, .ref a15])), (a12, .inl (y 0, 2001, .inl (upd nz 0 1)))]) (wr := [(a0, .inr (4, [.ref a1, .ref a2, .ref a3, .int 1, .int 1, .ref a4, .ref a5, .ref a6, .ref a7, .ref a8, .ref a9, .ref a10, .ref a11])), (a10, .inl (y 0, 4096, .inl (nfil 4096 0 (upd nz 3476 1))))]) (nr_V (As := [.int 0, .int 12]) (rest := []) ⟨hx, hb, hml, hown, hts⟩ (cX2_hashOfCode_1 l D y a1 a12 a13 a14 a15 H.size) (cwV 2 hts gX4_unlikeLines_X2_hashOfCode rfl rfl rfl (by decide +kernel) ⟨Nat.le_of_ble_eq_true rfl, Nat.le_of_ble_eq_true rfl⟩) hK hP hD hE [1, 2] rfl (by decide +kernel) 0 2 rfl rfl rfl rfl rfl hl.1 rfl (lv_room (Nat.le_of_ble_eq_true rfl)) dX4_unlikeLines_27 ⟨Nat.le_of_ble_eq_true rfl, Nat.le_of_ble_eq_true rfl⟩) hP hD hS hA [1, 2] [0, 3] rfl rfl (by decide +kernel) (by decide +kernel) (fun r4 u3 H locs er4 hP hD hS => ?_)
  subst er4
  refine lv_istore_n (lv' := [(3, .int 2531), (2, .int 0), (1, .int 0), (0, .ref a0)]) hx hb dX4_unlikeLines_30 rfl hl (by decide +kernel) rfl (fun ls hl => ?_)
  refine lv_iconst (v := 0) hx hb dX4_unlikeLines_31 (by decide +kernel) ?_
  refine lv_istore (lv' := [(4, .int 0), (3, .int 2531), (2, .int 0), (1, .int 0), (0, .ref a0)]) hx hb dX4_unlikeLines_32 hl (by decide +kernel) rfl (fun ls hl => ?_)
  refine lv_iload hx hb dX4_unlikeLines_34 (lv_at hl 0 rfl) ?_
  refine lv_sipush (v := 4096) hx hb dX4_unlikeLines_36 (by decide +kernel) ?_
  refine lv_icmp_ge (tgt := 93) hx hb dX4_unlikeLines_39 (by decide +kernel) (fun c => absurd c (by decide +kernel)) (fun _ => ?_)
  refine lv_aload_n hx hb dX4_unlikeLines_42 rfl (lv_at hl 4 rfl) ?_
  refine va_get (D := D) (ci := 4) (v := .ref a10) (C := RX4) (T := TX4) (N := 13) hx hb hts (gt_c iG_X4) hown hK hP 0 rfl rfl 11 (by decide +kernel) w_0 (fun _ h9 => h9) rfl dX4_unlikeLines_43 ?_
  refine lv_iload_n hx hb dX4_unlikeLines_46 rfl (lv_at hl 1 rfl) ?_
  refine va_iald hx hb hK hP 1 0 rfl rfl (n_in (by decide +kernel)) dX4_unlikeLines_47 ?_
  refine nv_i (v := 0) rfl ?_
  refine lv_if_eq (tgt := 93) hx hb dX4_unlikeLines_48 (by decide +kernel) (fun _ => ?_) (fun c => absurd (by decide +kernel) c)
  refine lv_aload_n hx hb dX4_unlikeLines_93 rfl (lv_at hl 4 rfl) ?_
  refine va_get (D := D) (ci := 4) (v := .ref a10) (C := RX4) (T := TX4) (N := 13) hx hb hts (gt_c iG_X4) hown hK hP 0 rfl rfl 11 (by decide +kernel) w_0 (fun _ h9 => h9) rfl dX4_unlikeLines_94 ?_
  refine lv_iload_n hx hb dX4_unlikeLines_97 rfl (lv_at hl 1 rfl) ?_
  refine va_iald hx hb hK hP 1 0 rfl rfl (n_in (by decide +kernel)) dX4_unlikeLines_98 ?_
  refine nv_i (v := 0) rfl ?_
  refine lv_if_ne (tgt := 114) hx hb dX4_unlikeLines_99 (by decide +kernel) (fun c => absurd (by decide +kernel) c) (fun _ => ?_)
  refine lv_aload_n hx hb dX4_unlikeLines_102 rfl (lv_at hl 4 rfl) ?_
  refine va_get (D := D) (ci := 4) (v := .ref a10) (C := RX4) (T := TX4) (N := 13) hx hb hts (gt_c iG_X4) hown hK hP 0 rfl rfl 11 (by decide +kernel) w_0 (fun _ h9 => h9) rfl dX4_unlikeLines_103 ?_
  refine lv_iload_n hx hb dX4_unlikeLines_106 rfl (lv_at hl 1 rfl) ?_
  refine lv_iload_n hx hb dX4_unlikeLines_107 rfl (lv_at hl 2 rfl) ?_
  refine lv_iconst (v := 1) hx hb dX4_unlikeLines_108 (by decide +kernel) ?_
  refine lv_iadd hx hb dX4_unlikeLines_109 ?_
  refine nv_i (v := 1) (by decide +kernel) ?_
  refine nb_iast (ws' := [(a0, .inr (4, [.ref a1, .ref a2, .ref a3, .int 1, .int 1, .ref a4, .ref a5, .ref a6, .ref a7, .ref a8, .ref a9, .ref a10, .ref a11])), (a10, .inl (y 0, 4096, .inl (upd (nfil 4096 0 (upd nz 3476 1)) 2531 1))), (a1, .inr (2, [.ref a12, .ref a13, .ref a14, .ref a15])), (a12, .inl (y 0, 2001, .inl (upd nz 0 1)))]) hx hb hK hP hD hS 1 0 rfl rfl (n_in (by decide +kernel)) rfl dX4_unlikeLines_110 (fun H locs hP hD hS => ?_)
  refine lv_iinc (v := 1) (lv' := [(1, .int 1), (4, .int 0), (3, .int 2531), (2, .int 0), (0, .ref a0)]) hx hb dX4_unlikeLines_111 hl (k := 3) rfl (by decide +kernel) (by decide +kernel) rfl (fun ls hl => ?_)
  refine lv_iinc (v := 1) (lv' := [(2, .int 1), (1, .int 1), (4, .int 0), (3, .int 2531), (0, .ref a0)]) hx hb dX4_unlikeLines_114 hl (k := 3) rfl (by decide +kernel) (by decide +kernel) rfl (fun ls hl => ?_)
  refine lv_goto (tgt := 12) hx hb dX4_unlikeLines_117 (by decide +kernel) ?_
  refine lv_iload_n hx hb dX4_unlikeLines_12 rfl (lv_at hl 0 rfl) ?_
  refine lv_aload_n hx hb dX4_unlikeLines_13 rfl (lv_at hl 4 rfl) ?_
  refine va_get (D := D) (ci := 4) (v := .int 1) (C := RX4) (T := TX4) (N := 13) hx hb hts (gt_c iG_X4) hown hK hP 0 rfl rfl 3 (by decide +kernel) w_1 (fun _ h9 => h9) rfl dX4_unlikeLines_14 ?_
  refine lv_icmp_ge (tgt := 120) hx hb dX4_unlikeLines_17 (by decide +kernel) (fun _ => ?_) (fun c => absurd (by decide +kernel) c)
  refine lv_iload_n hx hb dX4_unlikeLines_120 rfl (lv_at hl 1 rfl) ?_
  refine W.widen (k := 0) (n := 0) (Nat.le_of_ble_eq_true rfl) (Nat.le_of_ble_eq_true rfl) ?_
  exact W.iret (v := 1) hx hb hr (fun t ht hW => ⟨⟨1, (fun _ => 0), rfl, rfl, by rw [ht]; exact hP, va_K.moved hW.alike hK, hD⟩, hS.F ht⟩) hS.2.2 dX4_unlikeLines_121 hlocks
set_option maxRecDepth 100000 in
set_option maxHeartbeats 4000000 in
theorem cX5_add_5 (l : Launch) (D : va_G) (y : Nat → ClassId) (a0 : Nat) (a1 : Nat) (sz : Nat) : Met l yX5_add wsX5_add { frames := 2, cells := 0, slots := 0, locals := 200 } (nPc D y nT [.ref a0, .long 1] [(a0, .inr (5, [.ref a1, .int 1])), (a1, .inl (y 1, 9, .inr (.inl (vp_updL nzl 0 1))))] sz) ((fun A => nQv D y (fun _ => True) (fun u => [(a0, .inr (5, [.ref a1, .int 2])), (a1, .inl (y 1, 9, .inr (.inl (vp_updL (vp_updL nzl 0 1) 1 1))))]) A) (va_A [(a0, .inr (5, [.ref a1, .int 1])), (a1, .inl (y 1, 9, .inr (.inl (vp_updL nzl 0 1))))] sz)) 0 0 (va_A [(a0, .inr (5, [.ref a1, .int 1])), (a1, .inl (y 1, 9, .inr (.inl (vp_updL nzl 0 1))))] sz) := by
  refine nm_ofW (D := D) (y := y) (E := nT) (yy := yX5_add) (wsy := wsX5_add) (rm := { frames := 2, cells := 0, slots := 0, locals := 200 }) (as := [.ref a0, .long 1]) (ws := [(a0, .inr (5, [.ref a1, .int 1])), (a1, .inl (y 1, 9, .inr (.inl (vp_updL nzl 0 1))))]) (sz := sz) (mc := 0) (ms := 0) (Qc := fun A => nQv D y (fun _ => True) (fun u => [(a0, .inr (5, [.ref a1, .int 2])), (a1, .inl (y 1, 9, .inr (.inl (vp_updL (vp_updL nzl 0 1) 1 1))))]) A) (cc := cX5_add) (maxL := 3) (ret := none) (by decide +kernel) rfl (Nat.le_of_ble_eq_true rfl) ?_
  intro p e s m below meth c A ls H hx hb hr hml hts hown hlocks hnm hsz hP hK hD hA hS hE hAe hl
  replace hl : lv_has ls 3 [(0, .ref a0), (1, .long 1)] := hl
  have hown : s.vm.findClass RX5 = some m.cls := hown
  have w_0 := hts (.fieldLink RX5 15 "SoldToBehind$Row" "size" "I") (gt_k wd_1_63)
  have w_1 := hts (.fieldLink RX5 9 "SoldToBehind$Row" "numbers" "[J") (gt_k wd_1_60)
  refine lv_aload_n hx hb dX5_add_0 rfl (lv_at hl 0 rfl) ?_
  refine va_get (D := D) (ci := 5) (v := .int 1) (C := RX5) (T := TX5) (N := 2) hx hb hts (gt_c iG_X5) hown hK hP 0 rfl rfl 1 (by decide +kernel) w_0 (fun _ h9 => h9) rfl dX5_add_1 ?_
  refine lv_bipush (v := 9) hx hb dX5_add_4 (by decide +kernel) ?_
  refine lv_icmp_ge (tgt := 29) hx hb dX5_add_6 (by decide +kernel) (fun c => absurd c (by decide +kernel)) (fun _ => ?_)
  refine lv_aload_n hx hb dX5_add_9 rfl (lv_at hl 0 rfl) ?_
  refine va_get (D := D) (ci := 5) (v := .ref a1) (C := RX5) (T := TX5) (N := 2) hx hb hts (gt_c iG_X5) hown hK hP 0 rfl rfl 0 (by decide +kernel) w_1 (fun _ h9 => h9) rfl dX5_add_10 ?_
  refine lv_aload_n hx hb dX5_add_13 rfl (lv_at hl 0 rfl) ?_
  refine va_get (D := D) (ci := 5) (v := .int 1) (C := RX5) (T := TX5) (N := 2) hx hb hts (gt_c iG_X5) hown hK hP 0 rfl rfl 1 (by decide +kernel) w_0 (fun _ h9 => h9) rfl dX5_add_14 ?_
  refine lv_lload_n hx hb dX5_add_17 rfl (lv_at hl 1 rfl) ?_
  refine nb_last (ws' := [(a0, .inr (5, [.ref a1, .int 1])), (a1, .inl (y 1, 9, .inr (.inl (vp_updL (vp_updL nzl 0 1) 1 1))))]) hx hb hK hP hD hS 1 1 rfl rfl (n_in (by decide +kernel)) rfl dX5_add_18 (fun H locs hP hD hS => ?_)
  refine lv_aload_n hx hb dX5_add_19 rfl (lv_at hl 0 rfl) ?_
  refine lv_dup hx hb dX5_add_20 rfl ?_
  refine va_get (D := D) (ci := 5) (v := .int 1) (C := RX5) (T := TX5) (N := 2) hx hb hts (gt_c iG_X5) hown hK hP 0 rfl rfl 1 (by decide +kernel) w_0 (fun _ h9 => h9) rfl dX5_add_21 ?_
  refine lv_iconst (v := 1) hx hb dX5_add_24 (by decide +kernel) ?_
  refine lv_iadd hx hb dX5_add_25 ?_
  refine nv_i (v := 2) (by decide +kernel) ?_
  refine nb_put (D := D) (ci := 5) (v := .int 2) (ty := .int) (C := RX5) (T := TX5) (N := 2) (ws' := [(a0, .inr (5, [.ref a1, .int 2])), (a1, .inl (y 1, 9, .inr (.inl (vp_updL (vp_updL nzl 0 1) 1 1))))]) hx hb hts (gt_c iG_X5) tyX5 tyX5_ok nmX5 hown hK hP hD hS 0 rfl rfl 1 (by decide +kernel) w_0 (fun _ h9 => h9) rfl (by decide +kernel) rfl rfl (Nat.le_of_ble_eq_true rfl) rfl dX5_add_26 (fun H locs hP hD hS => ?_)
  refine W.widen (k := 0) (n := 0) (Nat.le_of_ble_eq_true rfl) (Nat.le_of_ble_eq_true rfl) ?_
  exact W.vret hx hb hr (fun t ht hW => ⟨⟨(fun _ => 0), rfl, trivial, by rw [ht]; exact hP, va_K.moved hW.alike hK, hD⟩, hS.F ht⟩) hS.2.2 dX5_add_29 hlocks
set_option maxRecDepth 100000 in
set_option maxHeartbeats 4000000 in
theorem cX5_tell__3 (l : Launch) (D : va_G) (y : Nat → ClassId) (a0 : Nat) (a1 : Nat) (sz : Nat) : Met l yX5_tell_ wsX5_tell_ { frames := 3, cells := 0, slots := 0, locals := 222 } (nPc D y nT [.ref a0, .long 1, .long 1] [(a0, .inr (5, [.ref a1, .int 0])), (a1, .inl (y 1, 9, .inr (.inl nzl)))] sz) ((fun A => nQv D y (fun _ => True) (fun u => [(a0, .inr (5, [.ref a1, .int 2])), (a1, .inl (y 1, 9, .inr (.inl (vp_updL (vp_updL nzl 0 1) 1 1))))]) A) (va_A [(a0, .inr (5, [.ref a1, .int 0])), (a1, .inl (y 1, 9, .inr (.inl nzl)))] sz)) 0 0 (va_A [(a0, .inr (5, [.ref a1, .int 0])), (a1, .inl (y 1, 9, .inr (.inl nzl)))] sz) := by
  refine nm_ofW (D := D) (y := y) (E := nT) (yy := yX5_tell_) (wsy := wsX5_tell_) (rm := { frames := 3, cells := 0, slots := 0, locals := 222 }) (as := [.ref a0, .long 1, .long 1]) (ws := [(a0, .inr (5, [.ref a1, .int 0])), (a1, .inl (y 1, 9, .inr (.inl nzl)))]) (sz := sz) (mc := 0) (ms := 0) (Qc := fun A => nQv D y (fun _ => True) (fun u => [(a0, .inr (5, [.ref a1, .int 2])), (a1, .inl (y 1, 9, .inr (.inl (vp_updL (vp_updL nzl 0 1) 1 1))))]) A) (cc := cX5_tell_) (maxL := 5) (ret := none) (by decide +kernel) rfl (Nat.le_of_ble_eq_true rfl) ?_
  intro p e s m below meth c A ls H hx hb hr hml hts hown hlocks hnm hsz hP hK hD hA hS hE hAe hl
  replace hl : lv_has ls 5 [(0, .ref a0), (1, .long 1), (3, .long 1)] := hl
  have hown : s.vm.findClass RX5 = some m.cls := hown
  have w_0 := hts (.fieldLink RX5 15 "SoldToBehind$Row" "size" "I") (gt_k wd_1_63)
  refine lv_aload_n hx hb dX5_tell__0 rfl (lv_at hl 0 rfl) ?_
  refine lv_iconst (v := 0) hx hb dX5_tell__1 (by decide +kernel) ?_
  refine nb_put (D := D) (ci := 5) (v := .int 0) (ty := .int) (C := RX5) (T := TX5) (N := 2) (ws' := [(a0, .inr (5, [.ref a1, .int 0])), (a1, .inl (y 1, 9, .inr (.inl nzl)))]) hx hb hts (gt_c iG_X5) tyX5 tyX5_ok nmX5 hown hK hP hD hS 0 rfl rfl 1 (by decide +kernel) w_0 (fun _ h9 => h9) rfl (by decide +kernel) rfl rfl (Nat.le_of_ble_eq_true rfl) rfl dX5_tell__2 (fun H locs hP hD hS => ?_)
  refine lv_aload_n hx hb dX5_tell__5 rfl (lv_at hl 0 rfl) ?_
  refine lv_lload_n hx hb dX5_tell__6 rfl (lv_at hl 1 rfl) ?_
  refine nj_v (ws := [(a0, .inr (5, [.ref a1, .int 0])), (a1, .inl (y 1, 9, .inr (.inl nzl)))]) (wc := [(a0, .inr (5, [.ref a1, .int 0])), (a1, .inl (y 1, 9, .inr (.inl nzl)))]) (wr := []) (nr_V (As := [.long 1]) (rest := []) ⟨hx, hb, hml, hown, hts⟩ (cX5_add_3 l D y a0 a1 H.size) (cwV 1 hts gX5_tell__X5_add rfl rfl rfl (by decide +kernel) ⟨Nat.le_of_ble_eq_true rfl, Nat.le_of_ble_eq_true rfl⟩) hK hP hD hE [0, 1] rfl (by decide +kernel) 0 5 rfl rfl rfl rfl rfl hl.1 rfl (lv_room (Nat.le_of_ble_eq_true rfl)) dX5_tell__7 ⟨Nat.le_of_ble_eq_true rfl, Nat.le_of_ble_eq_true rfl⟩) hP hD hS hA [0, 1] [] rfl rfl (by decide +kernel) (by decide +kernel) (fun u1 H locs _ hP hD hS => ?_)
  refine lv_aload_n hx hb dX5_tell__10 rfl (lv_at hl 0 rfl) ?_
  refine lv_lload_n hx hb dX5_tell__11 rfl (lv_at hl 2 rfl) ?_
  refine nj_v (ws := [(a0, .inr (5, [.ref a1, .int 1])), (a1, .inl (y 1, 9, .inr (.inl (vp_updL nzl 0 1))))]) (wc := [(a0, .inr (5, [.ref a1, .int 1])), (a1, .inl (y 1, 9, .inr (.inl (vp_updL nzl 0 1))))]) (wr := []) (nr_V (As := [.long 1]) (rest := []) ⟨hx, hb, hml, hown, hts⟩ (cX5_add_5 l D y a0 a1 H.size) (cwV 1 hts gX5_tell__X5_add rfl rfl rfl (by decide +kernel) ⟨Nat.le_of_ble_eq_true rfl, Nat.le_of_ble_eq_true rfl⟩) hK hP hD hE [0, 1] rfl (by decide +kernel) 0 5 rfl rfl rfl rfl rfl hl.1 rfl (lv_room (Nat.le_of_ble_eq_true rfl)) dX5_tell__12 ⟨Nat.le_of_ble_eq_true rfl, Nat.le_of_ble_eq_true rfl⟩) hP hD hS hA [0, 1] [] rfl rfl (by decide +kernel) (by decide +kernel) (fun u3 H locs _ hP hD hS => ?_)
  refine W.widen (k := 0) (n := 0) (Nat.le_of_ble_eq_true rfl) (Nat.le_of_ble_eq_true rfl) ?_
  exact W.vret hx hb hr (fun t ht hW => ⟨⟨(fun _ => 0), rfl, trivial, by rw [ht]; exact hP, va_K.moved hW.alike hK, hD⟩, hS.F ht⟩) hS.2.2 dX5_tell__15 hlocks
set_option maxRecDepth 100000 in
set_option maxHeartbeats 4000000 in
theorem cX5_add_6 (l : Launch) (D : va_G) (y : Nat → ClassId) (a0 : Nat) (a1 : Nat) (sz : Nat) : Met l yX5_add wsX5_add { frames := 2, cells := 0, slots := 0, locals := 200 } (nPc D y nT [.ref a0, .long 0] [(a0, .inr (5, [.ref a1, .int 2])), (a1, .inl (y 1, 9, .inr (.inl (vp_updL (vp_updL nzl 0 1) 1 1))))] sz) ((fun A => nQv D y (fun _ => True) (fun u => [(a0, .inr (5, [.ref a1, .int 3])), (a1, .inl (y 1, 9, .inr (.inl (vp_updL (vp_updL nzl 0 1) 1 1))))]) A) (va_A [(a0, .inr (5, [.ref a1, .int 2])), (a1, .inl (y 1, 9, .inr (.inl (vp_updL (vp_updL nzl 0 1) 1 1))))] sz)) 0 0 (va_A [(a0, .inr (5, [.ref a1, .int 2])), (a1, .inl (y 1, 9, .inr (.inl (vp_updL (vp_updL nzl 0 1) 1 1))))] sz) := by
  refine nm_ofW (D := D) (y := y) (E := nT) (yy := yX5_add) (wsy := wsX5_add) (rm := { frames := 2, cells := 0, slots := 0, locals := 200 }) (as := [.ref a0, .long 0]) (ws := [(a0, .inr (5, [.ref a1, .int 2])), (a1, .inl (y 1, 9, .inr (.inl (vp_updL (vp_updL nzl 0 1) 1 1))))]) (sz := sz) (mc := 0) (ms := 0) (Qc := fun A => nQv D y (fun _ => True) (fun u => [(a0, .inr (5, [.ref a1, .int 3])), (a1, .inl (y 1, 9, .inr (.inl (vp_updL (vp_updL nzl 0 1) 1 1))))]) A) (cc := cX5_add) (maxL := 3) (ret := none) (by decide +kernel) rfl (Nat.le_of_ble_eq_true rfl) ?_
  intro p e s m below meth c A ls H hx hb hr hml hts hown hlocks hnm hsz hP hK hD hA hS hE hAe hl
  replace hl : lv_has ls 3 [(0, .ref a0), (1, .long 0)] := hl
  have hown : s.vm.findClass RX5 = some m.cls := hown
  have w_0 := hts (.fieldLink RX5 15 "SoldToBehind$Row" "size" "I") (gt_k wd_1_63)
  have w_1 := hts (.fieldLink RX5 9 "SoldToBehind$Row" "numbers" "[J") (gt_k wd_1_60)
  refine lv_aload_n hx hb dX5_add_0 rfl (lv_at hl 0 rfl) ?_
  refine va_get (D := D) (ci := 5) (v := .int 2) (C := RX5) (T := TX5) (N := 2) hx hb hts (gt_c iG_X5) hown hK hP 0 rfl rfl 1 (by decide +kernel) w_0 (fun _ h9 => h9) rfl dX5_add_1 ?_
  refine lv_bipush (v := 9) hx hb dX5_add_4 (by decide +kernel) ?_
  refine lv_icmp_ge (tgt := 29) hx hb dX5_add_6 (by decide +kernel) (fun c => absurd c (by decide +kernel)) (fun _ => ?_)
  refine lv_aload_n hx hb dX5_add_9 rfl (lv_at hl 0 rfl) ?_
  refine va_get (D := D) (ci := 5) (v := .ref a1) (C := RX5) (T := TX5) (N := 2) hx hb hts (gt_c iG_X5) hown hK hP 0 rfl rfl 0 (by decide +kernel) w_1 (fun _ h9 => h9) rfl dX5_add_10 ?_
  refine lv_aload_n hx hb dX5_add_13 rfl (lv_at hl 0 rfl) ?_
  refine va_get (D := D) (ci := 5) (v := .int 2) (C := RX5) (T := TX5) (N := 2) hx hb hts (gt_c iG_X5) hown hK hP 0 rfl rfl 1 (by decide +kernel) w_0 (fun _ h9 => h9) rfl dX5_add_14 ?_
  refine lv_lload_n hx hb dX5_add_17 rfl (lv_at hl 1 rfl) ?_
  refine nb_last (ws' := [(a0, .inr (5, [.ref a1, .int 2])), (a1, .inl (y 1, 9, .inr (.inl (vp_updL (vp_updL nzl 0 1) 1 1))))]) hx hb hK hP hD hS 1 1 rfl rfl (n_in (by decide +kernel)) (by rw [nb_upL (f := (vp_updL (vp_updL nzl 0 1) 1 1)) (i := Int32.toNatClampNeg 2) (x := 0) rfl]; rfl) dX5_add_18 (fun H locs hP hD hS => ?_)
  refine lv_aload_n hx hb dX5_add_19 rfl (lv_at hl 0 rfl) ?_
  refine lv_dup hx hb dX5_add_20 rfl ?_
  refine va_get (D := D) (ci := 5) (v := .int 2) (C := RX5) (T := TX5) (N := 2) hx hb hts (gt_c iG_X5) hown hK hP 0 rfl rfl 1 (by decide +kernel) w_0 (fun _ h9 => h9) rfl dX5_add_21 ?_
  refine lv_iconst (v := 1) hx hb dX5_add_24 (by decide +kernel) ?_
  refine lv_iadd hx hb dX5_add_25 ?_
  refine nv_i (v := 3) (by decide +kernel) ?_
  refine nb_put (D := D) (ci := 5) (v := .int 3) (ty := .int) (C := RX5) (T := TX5) (N := 2) (ws' := [(a0, .inr (5, [.ref a1, .int 3])), (a1, .inl (y 1, 9, .inr (.inl (vp_updL (vp_updL nzl 0 1) 1 1))))]) hx hb hts (gt_c iG_X5) tyX5 tyX5_ok nmX5 hown hK hP hD hS 0 rfl rfl 1 (by decide +kernel) w_0 (fun _ h9 => h9) rfl (by decide +kernel) rfl rfl (Nat.le_of_ble_eq_true rfl) rfl dX5_add_26 (fun H locs hP hD hS => ?_)
  refine W.widen (k := 0) (n := 0) (Nat.le_of_ble_eq_true rfl) (Nat.le_of_ble_eq_true rfl) ?_
  exact W.vret hx hb hr (fun t ht hW => ⟨⟨(fun _ => 0), rfl, trivial, by rw [ht]; exact hP, va_K.moved hW.alike hK, hD⟩, hS.F ht⟩) hS.2.2 dX5_add_29 hlocks
set_option maxRecDepth 100000 in
set_option maxHeartbeats 4000000 in
theorem cX5_add_7 (l : Launch) (D : va_G) (y : Nat → ClassId) (a0 : Nat) (a1 : Nat) (sz : Nat) : Met l yX5_add wsX5_add { frames := 2, cells := 0, slots := 0, locals := 200 } (nPc D y nT [.ref a0, .long 0] [(a0, .inr (5, [.ref a1, .int 3])), (a1, .inl (y 1, 9, .inr (.inl (vp_updL (vp_updL nzl 0 1) 1 1))))] sz) ((fun A => nQv D y (fun _ => True) (fun u => [(a0, .inr (5, [.ref a1, .int 4])), (a1, .inl (y 1, 9, .inr (.inl (vp_updL (vp_updL nzl 0 1) 1 1))))]) A) (va_A [(a0, .inr (5, [.ref a1, .int 3])), (a1, .inl (y 1, 9, .inr (.inl (vp_updL (vp_updL nzl 0 1) 1 1))))] sz)) 0 0 (va_A [(a0, .inr (5, [.ref a1, .int 3])), (a1, .inl (y 1, 9, .inr (.inl (vp_updL (vp_updL nzl 0 1) 1 1))))] sz) := by
  refine nm_ofW (D := D) (y := y) (E := nT) (yy := yX5_add) (wsy := wsX5_add) (rm := { frames := 2, cells := 0, slots := 0, locals := 200 }) (as := [.ref a0, .long 0]) (ws := [(a0, .inr (5, [.ref a1, .int 3])), (a1, .inl (y 1, 9, .inr (.inl (vp_updL (vp_updL nzl 0 1) 1 1))))]) (sz := sz) (mc := 0) (ms := 0) (Qc := fun A => nQv D y (fun _ => True) (fun u => [(a0, .inr (5, [.ref a1, .int 4])), (a1, .inl (y 1, 9, .inr (.inl (vp_updL (vp_updL nzl 0 1) 1 1))))]) A) (cc := cX5_add) (maxL := 3) (ret := none) (by decide +kernel) rfl (Nat.le_of_ble_eq_true rfl) ?_
  intro p e s m below meth c A ls H hx hb hr hml hts hown hlocks hnm hsz hP hK hD hA hS hE hAe hl
  replace hl : lv_has ls 3 [(0, .ref a0), (1, .long 0)] := hl
  have hown : s.vm.findClass RX5 = some m.cls := hown
  have w_0 := hts (.fieldLink RX5 15 "SoldToBehind$Row" "size" "I") (gt_k wd_1_63)
  have w_1 := hts (.fieldLink RX5 9 "SoldToBehind$Row" "numbers" "[J") (gt_k wd_1_60)
  refine lv_aload_n hx hb dX5_add_0 rfl (lv_at hl 0 rfl) ?_
  refine va_get (D := D) (ci := 5) (v := .int 3) (C := RX5) (T := TX5) (N := 2) hx hb hts (gt_c iG_X5) hown hK hP 0 rfl rfl 1 (by decide +kernel) w_0 (fun _ h9 => h9) rfl dX5_add_1 ?_
  refine lv_bipush (v := 9) hx hb dX5_add_4 (by decide +kernel) ?_
  refine lv_icmp_ge (tgt := 29) hx hb dX5_add_6 (by decide +kernel) (fun c => absurd c (by decide +kernel)) (fun _ => ?_)
  refine lv_aload_n hx hb dX5_add_9 rfl (lv_at hl 0 rfl) ?_
  refine va_get (D := D) (ci := 5) (v := .ref a1) (C := RX5) (T := TX5) (N := 2) hx hb hts (gt_c iG_X5) hown hK hP 0 rfl rfl 0 (by decide +kernel) w_1 (fun _ h9 => h9) rfl dX5_add_10 ?_
  refine lv_aload_n hx hb dX5_add_13 rfl (lv_at hl 0 rfl) ?_
  refine va_get (D := D) (ci := 5) (v := .int 3) (C := RX5) (T := TX5) (N := 2) hx hb hts (gt_c iG_X5) hown hK hP 0 rfl rfl 1 (by decide +kernel) w_0 (fun _ h9 => h9) rfl dX5_add_14 ?_
  refine lv_lload_n hx hb dX5_add_17 rfl (lv_at hl 1 rfl) ?_
  refine nb_last (ws' := [(a0, .inr (5, [.ref a1, .int 3])), (a1, .inl (y 1, 9, .inr (.inl (vp_updL (vp_updL nzl 0 1) 1 1))))]) hx hb hK hP hD hS 1 1 rfl rfl (n_in (by decide +kernel)) (by rw [nb_upL (f := (vp_updL (vp_updL nzl 0 1) 1 1)) (i := Int32.toNatClampNeg 3) (x := 0) rfl]; rfl) dX5_add_18 (fun H locs hP hD hS => ?_)
  refine lv_aload_n hx hb dX5_add_19 rfl (lv_at hl 0 rfl) ?_
  refine lv_dup hx hb dX5_add_20 rfl ?_
  refine va_get (D := D) (ci := 5) (v := .int 3) (C := RX5) (T := TX5) (N := 2) hx hb hts (gt_c iG_X5) hown hK hP 0 rfl rfl 1 (by decide +kernel) w_0 (fun _ h9 => h9) rfl dX5_add_21 ?_
  refine lv_iconst (v := 1) hx hb dX5_add_24 (by decide +kernel) ?_
  refine lv_iadd hx hb dX5_add_25 ?_
  refine nv_i (v := 4) (by decide +kernel) ?_
  refine nb_put (D := D) (ci := 5) (v := .int 4) (ty := .int) (C := RX5) (T := TX5) (N := 2) (ws' := [(a0, .inr (5, [.ref a1, .int 4])), (a1, .inl (y 1, 9, .inr (.inl (vp_updL (vp_updL nzl 0 1) 1 1))))]) hx hb hts (gt_c iG_X5) tyX5 tyX5_ok nmX5 hown hK hP hD hS 0 rfl rfl 1 (by decide +kernel) w_0 (fun _ h9 => h9) rfl (by decide +kernel) rfl rfl (Nat.le_of_ble_eq_true rfl) rfl dX5_add_26 (fun H locs hP hD hS => ?_)
  refine W.widen (k := 0) (n := 0) (Nat.le_of_ble_eq_true rfl) (Nat.le_of_ble_eq_true rfl) ?_
  exact W.vret hx hb hr (fun t ht hW => ⟨⟨(fun _ => 0), rfl, trivial, by rw [ht]; exact hP, va_K.moved hW.alike hK, hD⟩, hS.F ht⟩) hS.2.2 dX5_add_29 hlocks
set_option maxRecDepth 100000 in
set_option maxHeartbeats 4000000 in
theorem cX4_tellRests_1 (l : Launch) (D : va_G) (y : Nat → ClassId) (a0 : Nat) (a1 : Nat) (a2 : Nat) (a3 : Nat) (a4 : Nat) (a5 : Nat) (a6 : Nat) (a7 : Nat) (a8 : Nat) (a9 : Nat) (a10 : Nat) (a11 : Nat) (a12 : Nat) (a13 : Nat) (a14 : Nat) (a15 : Nat) (a16 : Nat) (a17 : Nat) (sz : Nat) : Met l yX4_tellRests wsX4_tellRests { frames := 4, cells := 0, slots := 0, locals := 247 } (nPc D y nT [.ref a0, .ref a1] [(a0, .inr (4, [.ref a2, .ref a3, .ref a4, .int 1, .int 1, .ref a5, .ref a6, .ref a7, .ref a8, .ref a9, .ref a10, .ref a11, .ref a12])), (a6, .inl (y 2, 2000, .inl (upd nz 0 1))), (a5, .inl (y 0, 2001, .inl nz)), (a11, .inl (y 0, 4096, .inl (upd nz 3476 1))), (a2, .inr (2, [.ref a13, .ref a14, .ref a15, .ref a16])), (a13, .inl (y 0, 2001, .inl (upd nz 0 1))), (a1, .inr (5, [.ref a17, .int 0])), (a17, .inl (y 1, 9, .inr (.inl nzl)))] sz) ((fun A => nQv D y (fun _ => True) (fun u => [(a6, .inl (y 2, 2000, .inl (upd nz 0 1))), (a5, .inl (y 0, 2001, .inl nz)), (a0, .inr (4, [.ref a2, .ref a3, .ref a4, .int 1, .int 1, .ref a5, .ref a6, .ref a7, .ref a8, .ref a9, .ref a10, .ref a11, .ref a12])), (a11, .inl (y 0, 4096, .inl (upd (nfil 4096 0 (upd nz 3476 1)) 2531 1))), (a2, .inr (2, [.ref a13, .ref a14, .ref a15, .ref a16])), (a13, .inl (y 0, 2001, .inl (upd nz 0 1))), (a1, .inr (5, [.ref a17, .int 4])), (a17, .inl (y 1, 9, .inr (.inl (vp_updL (vp_updL nzl 0 1) 1 1))))]) A) (va_A [(a0, .inr (4, [.ref a2, .ref a3, .ref a4, .int 1, .int 1, .ref a5, .ref a6, .ref a7, .ref a8, .ref a9, .ref a10, .ref a11, .ref a12])), (a6, .inl (y 2, 2000, .inl (upd nz 0 1))), (a5, .inl (y 0, 2001, .inl nz)), (a11, .inl (y 0, 4096, .inl (upd nz 3476 1))), (a2, .inr (2, [.ref a13, .ref a14, .ref a15, .ref a16])), (a13, .inl (y 0, 2001, .inl (upd nz 0 1))), (a1, .inr (5, [.ref a17, .int 0])), (a17, .inl (y 1, 9, .inr (.inl nzl)))] sz)) 0 0 (va_A [(a0, .inr (4, [.ref a2, .ref a3, .ref a4, .int 1, .int 1, .ref a5, .ref a6, .ref a7, .ref a8, .ref a9, .ref a10, .ref a11, .ref a12])), (a6, .inl (y 2, 2000, .inl (upd nz 0 1))), (a5, .inl (y 0, 2001, .inl nz)), (a11, .inl (y 0, 4096, .inl (upd nz 3476 1))), (a2, .inr (2, [.ref a13, .ref a14, .ref a15, .ref a16])), (a13, .inl (y 0, 2001, .inl (upd nz 0 1))), (a1, .inr (5, [.ref a17, .int 0])), (a17, .inl (y 1, 9, .inr (.inl nzl)))] sz) := by
  refine nm_ofW (D := D) (y := y) (E := nT) (yy := yX4_tellRests) (wsy := wsX4_tellRests) (rm := { frames := 4, cells := 0, slots := 0, locals := 247 }) (as := [.ref a0, .ref a1]) (ws := [(a0, .inr (4, [.ref a2, .ref a3, .ref a4, .int 1, .int 1, .ref a5, .ref a6, .ref a7, .ref a8, .ref a9, .ref a10, .ref a11, .ref a12])), (a6, .inl (y 2, 2000, .inl (upd nz 0 1))), (a5, .inl (y 0, 2001, .inl nz)), (a11, .inl (y 0, 4096, .inl (upd nz 3476 1))), (a2, .inr (2, [.ref a13, .ref a14, .ref a15, .ref a16])), (a13, .inl (y 0, 2001, .inl (upd nz 0 1))), (a1, .inr (5, [.ref a17, .int 0])), (a17, .inl (y 1, 9, .inr (.inl nzl)))]) (sz := sz) (mc := 0) (ms := 0) (Qc := fun A => nQv D y (fun _ => True) (fun u => [(a6, .inl (y 2, 2000, .inl (upd nz 0 1))), (a5, .inl (y 0, 2001, .inl nz)), (a0, .inr (4, [.ref a2, .ref a3, .ref a4, .int 1, .int 1, .ref a5, .ref a6, .ref a7, .ref a8, .ref a9, .ref a10, .ref a11, .ref a12])), (a11, .inl (y 0, 4096, .inl (upd (nfil 4096 0 (upd nz 3476 1)) 2531 1))), (a2, .inr (2, [.ref a13, .ref a14, .ref a15, .ref a16])), (a13, .inl (y 0, 2001, .inl (upd nz 0 1))), (a1, .inr (5, [.ref a17, .int 4])), (a17, .inl (y 1, 9, .inr (.inl (vp_updL (vp_updL nzl 0 1) 1 1))))]) A) (cc := cX4_tellRests) (maxL := 6) (ret := none) (by decide +kernel) rfl (Nat.le_of_ble_eq_true rfl) ?_
  intro p e s m below meth c A ls H hx hb hr hml hts hown hlocks hnm hsz hP hK hD hA hS hE hAe hl
  replace hl : lv_has ls 6 [(0, .ref a0), (1, .ref a1)] := hl
  have hown : s.vm.findClass RX4 = some m.cls := hown
  have w_0 := hts (.fieldLink RX4 27 "SoldToBehind$Reach" "count" "I") (gt_k wd_5_15)
  have w_1 := hts (.fieldLink RX4 38 "SoldToBehind$Reach" "rest" "[Z") (gt_k wd_5_20)
  have w_2 := hts (.fieldLink RX4 35 "SoldToBehind$Reach" "depth" "[I") (gt_k wd_5_19)
  have w_3 := hts (.methodLink RX4 155 Lib.Math.max.name) (gt_k wd_5_102)
  have w_4 := hts (.static Lib.Math.max.name) (gt_k wd_3_61)
  have w_5 := hts (.initialized "java/lang/Math") (gt_k wd_1_14)
  have w_6 := hts (.code Lib.Math.max.name Lib.Math.max.code 2 (some .int)) (gt_k wd_3_62)
  have w_7 := hts (.methodLink RX4 120 Lib.Math.min.name) (gt_k wd_5_89)
  have w_8 := hts (.static Lib.Math.min.name) (gt_k wd_2_178)
  have w_9 := hts (.code Lib.Math.min.name Lib.Math.min.code 2 (some .int)) (gt_k wd_2_179)
  refine lv_iconst (v := 0) hx hb dX4_tellRests_0 (by decide +kernel) ?_
  refine lv_istore_n (lv' := [(2, .int 0), (0, .ref a0), (1, .ref a1)]) hx hb dX4_tellRests_1 rfl hl (by decide +kernel) rfl (fun ls hl => ?_)
  refine lv_iconst (v := 0) hx hb dX4_tellRests_2 (by decide +kernel) ?_
  refine lv_istore_n (lv' := [(3, .int 0), (2, .int 0), (0, .ref a0), (1, .ref a1)]) hx hb dX4_tellRests_3 rfl hl (by decide +kernel) rfl (fun ls hl => ?_)
  refine lv_sipush (v := 2000) hx hb dX4_tellRests_4 (by decide +kernel) ?_
  refine lv_istore (lv' := [(4, .int 2000), (3, .int 0), (2, .int 0), (0, .ref a0), (1, .ref a1)]) hx hb dX4_tellRests_7 hl (by decide +kernel) rfl (fun ls hl => ?_)
  refine lv_iconst (v := 0) hx hb dX4_tellRests_9 (by decide +kernel) ?_
  refine lv_istore (lv' := [(5, .int 0), (4, .int 2000), (3, .int 0), (2, .int 0), (0, .ref a0), (1, .ref a1)]) hx hb dX4_tellRests_10 hl (by decide +kernel) rfl (fun ls hl => ?_)
  refine lv_iload hx hb dX4_tellRests_12 (lv_at hl 0 rfl) ?_
  refine lv_aload_n hx hb dX4_tellRests_14 rfl (lv_at hl 4 rfl) ?_
  refine va_get (D := D) (ci := 4) (v := .int 1) (C := RX4) (T := TX4) (N := 13) hx hb hts (gt_c iG_X4) hown hK hP 0 rfl rfl 3 (by decide +kernel) w_0 (fun _ h9 => h9) rfl dX4_tellRests_15 ?_
  refine lv_icmp_ge (tgt := 66) hx hb dX4_tellRests_18 (by decide +kernel) (fun c => absurd c (by decide +kernel)) (fun _ => ?_)
  refine lv_aload_n hx hb dX4_tellRests_21 rfl (lv_at hl 4 rfl) ?_
  refine va_get (D := D) (ci := 4) (v := .ref a6) (C := RX4) (T := TX4) (N := 13) hx hb hts (gt_c iG_X4) hown hK hP 0 rfl rfl 6 (by decide +kernel) w_1 (fun _ h9 => h9) rfl dX4_tellRests_22 ?_
  refine lv_iload hx hb dX4_tellRests_25 (lv_at hl 0 rfl) ?_
  refine va_zald hx hb hK hP 1 2 rfl rfl (n_in (by decide +kernel)) dX4_tellRests_27 ?_
  refine nv_i (v := 1) rfl ?_
  refine lv_if_eq (tgt := 60) hx hb dX4_tellRests_28 (by decide +kernel) (fun c => absurd c (by decide +kernel)) (fun _ => ?_)
  refine lv_iinc (v := 1) (lv' := [(2, .int 1), (5, .int 0), (4, .int 2000), (3, .int 0), (0, .ref a0), (1, .ref a1)]) hx hb dX4_tellRests_31 hl (k := 3) rfl (by decide +kernel) (by decide +kernel) rfl (fun ls hl => ?_)
  refine lv_iload_n hx hb dX4_tellRests_34 rfl (lv_at hl 3 rfl) ?_
  refine lv_aload_n hx hb dX4_tellRests_35 rfl (lv_at hl 4 rfl) ?_
  refine va_get (D := D) (ci := 4) (v := .ref a5) (C := RX4) (T := TX4) (N := 13) hx hb hts (gt_c iG_X4) hown hK hP 0 rfl rfl 5 (by decide +kernel) w_2 (fun _ h9 => h9) rfl dX4_tellRests_36 ?_
  refine lv_iload hx hb dX4_tellRests_39 (lv_at hl 1 rfl) ?_
  refine va_iald hx hb hK hP 2 0 rfl rfl (n_in (by decide +kernel)) dX4_tellRests_41 ?_
  refine nv_i (v := 0) rfl ?_
  refine va_mmax hx hb (by rw [hml]; exact hl.1.symm) hown w_3 w_4 w_5 w_6 (Nat.le_of_ble_eq_true rfl) (Nat.le_of_ble_eq_true rfl) (Nat.le_of_ble_eq_true rfl) (Nat.le_of_ble_eq_true rfl) dX4_tellRests_42 ?_
  refine nv_i (v := 0) (by decide +kernel) ?_
  refine lv_istore_n (lv' := [(3, .int 0), (2, .int 1), (5, .int 0), (4, .int 2000), (0, .ref a0), (1, .ref a1)]) hx hb dX4_tellRests_45 rfl hl (by decide +kernel) rfl (fun ls hl => ?_)
  refine lv_iload hx hb dX4_tellRests_46 (lv_at hl 3 rfl) ?_
  refine lv_aload_n hx hb dX4_tellRests_48 rfl (lv_at hl 4 rfl) ?_
  refine va_get (D := D) (ci := 4) (v := .ref a5) (C := RX4) (T := TX4) (N := 13) hx hb hts (gt_c iG_X4) hown hK hP 0 rfl rfl 5 (by decide +kernel) w_2 (fun _ h9 => h9) rfl dX4_tellRests_49 ?_
  refine lv_iload hx hb dX4_tellRests_52 (lv_at hl 2 rfl) ?_
  refine va_iald hx hb hK hP 2 0 rfl rfl (n_in (by decide +kernel)) dX4_tellRests_54 ?_
  refine nv_i (v := 0) rfl ?_
  refine va_mmin hx hb (by rw [hml]; exact hl.1.symm) hown w_7 w_8 w_5 w_9 (Nat.le_of_ble_eq_true rfl) (Nat.le_of_ble_eq_true rfl) (Nat.le_of_ble_eq_true rfl) (Nat.le_of_ble_eq_true rfl) dX4_tellRests_55 ?_
  refine nv_i (v := 0) (by decide +kernel) ?_
  refine lv_istore (lv' := [(4, .int 0), (3, .int 0), (2, .int 1), (5, .int 0), (0, .ref a0), (1, .ref a1)]) hx hb dX4_tellRests_58 hl (by decide +kernel) rfl (fun ls hl => ?_)
  refine lv_iinc (v := 1) (lv' := [(5, .int 1), (4, .int 0), (3, .int 0), (2, .int 1), (0, .ref a0), (1, .ref a1)]) hx hb dX4_tellRests_60 hl (k := 3) rfl (by decide +kernel) (by decide +kernel) rfl (fun ls hl => ?_)
  refine lv_goto (tgt := 12) hx hb dX4_tellRests_63 (by decide +kernel) ?_
  refine lv_iload hx hb dX4_tellRests_12 (lv_at hl 0 rfl) ?_
  refine lv_aload_n hx hb dX4_tellRests_14 rfl (lv_at hl 4 rfl) ?_
  refine va_get (D := D) (ci := 4) (v := .int 1) (C := RX4) (T := TX4) (N := 13) hx hb hts (gt_c iG_X4) hown hK hP 0 rfl rfl 3 (by decide +kernel) w_0 (fun _ h9 => h9) rfl dX4_tellRests_15 ?_
  refine lv_icmp_ge (tgt := 66) hx hb dX4_tellRests_18 (by decide +kernel) (fun _ => ?_) (fun c => absurd (by decide +kernel) c)
  refine lv_aload_n hx hb dX4_tellRests_66 rfl (lv_at hl 5 rfl) ?_
  refine lv_aload_n hx hb dX4_tellRests_67 rfl (lv_at hl 4 rfl) ?_
  refine nj_i (ws := [(a0, .inr (4, [.ref a2, .ref a3, .ref a4, .int 1, .int 1, .ref a5, .ref a6, .ref a7, .ref a8, .ref a9, .ref a10, .ref a11, .ref a12])), (a6, .inl (y 2, 2000, .inl (upd nz 0 1))), (a5, .inl (y 0, 2001, .inl nz)), (a11, .inl (y 0, 4096, .inl (upd nz 3476 1))), (a2, .inr (2, [.ref a13, .ref a14, .ref a15, .ref a16])), (a13, .inl (y 0, 2001, .inl (upd nz 0 1))), (a1, .inr (5, [.ref a17, .int 0])), (a17, .inl (y 1, 9, .inr (.inl nzl)))]) (wc := [(a0, .inr (4, [.ref a2, .ref a3, .ref a4, .int 1, .int 1, .ref a5, .ref a6, .ref a7, .ref a8, .ref a9, .ref a10, .ref a11, .ref a12])), (a11, .inl (y 0, 4096, .inl (upd nz 3476 1))), (a2, .inr (2, [.ref a13, .ref a14, .ref a15, .ref a16])), (a13, .inl (y 0, 2001, .inl (upd nz 0 1)))]) (wr := [(a6, .inl (y 2, 2000, .inl (upd nz 0 1))), (a5, .inl (y 0, 2001, .inl nz)), (a1, .inr (5, [.ref a17, .int 0])), (a17, .inl (y 1, 9, .inr (.inl nzl)))]) (nr_V (As := []) (rest := [.ref a1]) ⟨hx, hb, hml, hown, hts⟩ (cX4_unlikeLines_1 l D y a0 a2 a3 a4 a5 a6 a7 a8 a9 a10 a11 a12 a13 a14 a15 a16 H.size) (cwV 0 hts gX4_tellRests_X4_unlikeLines rfl rfl rfl (by decide +kernel) ⟨Nat.le_of_ble_eq_true rfl, Nat.le_of_ble_eq_true rfl⟩) hK hP hD hE [0, 3, 4, 5] rfl (by decide +kernel) 0 4 rfl rfl rfl rfl rfl hl.1 rfl (lv_room (Nat.le_of_ble_eq_true rfl)) dX4_tellRests_68 ⟨Nat.le_of_ble_eq_true rfl, Nat.le_of_ble_eq_true rfl⟩) hP hD hS hA [0, 3, 4, 5] [1, 2, 6, 7] rfl rfl (by decide +kernel) (by decide +kernel) (fun r2 u1 H locs er2 hP hD hS => ?_)
  subst er2
  refine lv_i2l (v := 1) hx hb dX4_tellRests_71 (by decide +kernel) ?_
  refine lv_iload_n hx hb dX4_tellRests_72 rfl (lv_at hl 3 rfl) ?_
  refine lv_i2l (v := 1) hx hb dX4_tellRests_73 (by decide +kernel) ?_
  refine nj_v (ws := [(a6, .inl (y 2, 2000, .inl (upd nz 0 1))), (a5, .inl (y 0, 2001, .inl nz)), (a1, .inr (5, [.ref a17, .int 0])), (a17, .inl (y 1, 9, .inr (.inl nzl))), (a0, .inr (4, [.ref a2, .ref a3, .ref a4, .int 1, .int 1, .ref a5, .ref a6, .ref a7, .ref a8, .ref a9, .ref a10, .ref a11, .ref a12])), (a11, .inl (y 0, 4096, .inl (upd (nfil 4096 0 (upd nz 3476 1)) 2531 1))), (a2, .inr (2, [.ref a13, .ref a14, .ref a15, .ref a16])), (a13, .inl (y 0, 2001, .inl (upd nz 0 1)))]) (wc := [(a1, .inr (5, [.ref a17, .int 0])), (a17, .inl (y 1, 9, .inr (.inl nzl)))]) (wr := [(a6, .inl (y 2, 2000, .inl (upd nz 0 1))), (a5, .inl (y 0, 2001, .inl nz)), (a0, .inr (4, [.ref a2, .ref a3, .ref a4, .int 1, .int 1, .ref a5, .ref a6, .ref a7, .ref a8, .ref a9, .ref a10, .ref a11, .ref a12])), (a11, .inl (y 0, 4096, .inl (upd (nfil 4096 0 (upd nz 3476 1)) 2531 1))), (a2, .inr (2, [.ref a13, .ref a14, .ref a15, .ref a16])), (a13, .inl (y 0, 2001, .inl (upd nz 0 1)))]) (nr_V (As := [.long 1, .long 1]) (rest := []) ⟨hx, hb, hml, hown, hts⟩ (cX5_tell__3 l D y a1 a17 H.size) (cwV 2 hts gX4_tellRests_X5_tell_ rfl rfl rfl (by decide +kernel) ⟨Nat.le_of_ble_eq_true rfl, Nat.le_of_ble_eq_true rfl⟩) hK hP hD hE [2, 3] rfl (by decide +kernel) 0 5 rfl rfl rfl rfl rfl hl.1 rfl (lv_room (Nat.le_of_ble_eq_true rfl)) dX4_tellRests_74 ⟨Nat.le_of_ble_eq_true rfl, Nat.le_of_ble_eq_true rfl⟩) hP hD hS hA [2, 3] [0, 1, 4, 5, 6, 7] rfl rfl (by decide +kernel) (by decide +kernel) (fun u3 H locs _ hP hD hS => ?_)
  refine lv_aload_n hx hb dX4_tellRests_77 rfl (lv_at hl 5 rfl) ?_
  refine lv_iload_n hx hb dX4_tellRests_78 rfl (lv_at hl 2 rfl) ?_
  refine lv_i2l (v := 0) hx hb dX4_tellRests_79 (by decide +kernel) ?_
  refine nj_v (ws := [(a6, .inl (y 2, 2000, .inl (upd nz 0 1))), (a5, .inl (y 0, 2001, .inl nz)), (a0, .inr (4, [.ref a2, .ref a3, .ref a4, .int 1, .int 1, .ref a5, .ref a6, .ref a7, .ref a8, .ref a9, .ref a10, .ref a11, .ref a12])), (a11, .inl (y 0, 4096, .inl (upd (nfil 4096 0 (upd nz 3476 1)) 2531 1))), (a2, .inr (2, [.ref a13, .ref a14, .ref a15, .ref a16])), (a13, .inl (y 0, 2001, .inl (upd nz 0 1))), (a1, .inr (5, [.ref a17, .int 2])), (a17, .inl (y 1, 9, .inr (.inl (vp_updL (vp_updL nzl 0 1) 1 1))))]) (wc := [(a1, .inr (5, [.ref a17, .int 2])), (a17, .inl (y 1, 9, .inr (.inl (vp_updL (vp_updL nzl 0 1) 1 1))))]) (wr := [(a6, .inl (y 2, 2000, .inl (upd nz 0 1))), (a5, .inl (y 0, 2001, .inl nz)), (a0, .inr (4, [.ref a2, .ref a3, .ref a4, .int 1, .int 1, .ref a5, .ref a6, .ref a7, .ref a8, .ref a9, .ref a10, .ref a11, .ref a12])), (a11, .inl (y 0, 4096, .inl (upd (nfil 4096 0 (upd nz 3476 1)) 2531 1))), (a2, .inr (2, [.ref a13, .ref a14, .ref a15, .ref a16])), (a13, .inl (y 0, 2001, .inl (upd nz 0 1)))]) (nr_V (As := [.long 0]) (rest := []) ⟨hx, hb, hml, hown, hts⟩ (cX5_add_6 l D y a1 a17 H.size) (cwV 1 hts gX4_tellRests_X5_add rfl rfl rfl (by decide +kernel) ⟨Nat.le_of_ble_eq_true rfl, Nat.le_of_ble_eq_true rfl⟩) hK hP hD hE [6, 7] rfl (by decide +kernel) 0 5 rfl rfl rfl rfl rfl hl.1 rfl (lv_room (Nat.le_of_ble_eq_true rfl)) dX4_tellRests_80 ⟨Nat.le_of_ble_eq_true rfl, Nat.le_of_ble_eq_true rfl⟩) hP hD hS hA [6, 7] [0, 1, 2, 3, 4, 5] rfl rfl (by decide +kernel) (by decide +kernel) (fun u5 H locs _ hP hD hS => ?_)
  refine lv_aload_n hx hb dX4_tellRests_83 rfl (lv_at hl 5 rfl) ?_
  refine lv_iload hx hb dX4_tellRests_84 (lv_at hl 1 rfl) ?_
  refine lv_i2l (v := 0) hx hb dX4_tellRests_86 (by decide +kernel) ?_
  refine nj_v (ws := [(a6, .inl (y 2, 2000, .inl (upd nz 0 1))), (a5, .inl (y 0, 2001, .inl nz)), (a0, .inr (4, [.ref a2, .ref a3, .ref a4, .int 1, .int 1, .ref a5, .ref a6, .ref a7, .ref a8, .ref a9, .ref a10, .ref a11, .ref a12])), (a11, .inl (y 0, 4096, .inl (upd (nfil 4096 0 (upd nz 3476 1)) 2531 1))), (a2, .inr (2, [.ref a13, .ref a14, .ref a15, .ref a16])), (a13, .inl (y 0, 2001, .inl (upd nz 0 1))), (a1, .inr (5, [.ref a17, .int 3])), (a17, .inl (y 1, 9, .inr (.inl (vp_updL (vp_updL nzl 0 1) 1 1))))]) (wc := [(a1, .inr (5, [.ref a17, .int 3])), (a17, .inl (y 1, 9, .inr (.inl (vp_updL (vp_updL nzl 0 1) 1 1))))]) (wr := [(a6, .inl (y 2, 2000, .inl (upd nz 0 1))), (a5, .inl (y 0, 2001, .inl nz)), (a0, .inr (4, [.ref a2, .ref a3, .ref a4, .int 1, .int 1, .ref a5, .ref a6, .ref a7, .ref a8, .ref a9, .ref a10, .ref a11, .ref a12])), (a11, .inl (y 0, 4096, .inl (upd (nfil 4096 0 (upd nz 3476 1)) 2531 1))), (a2, .inr (2, [.ref a13, .ref a14, .ref a15, .ref a16])), (a13, .inl (y 0, 2001, .inl (upd nz 0 1)))]) (nr_V (As := [.long 0]) (rest := []) ⟨hx, hb, hml, hown, hts⟩ (cX5_add_7 l D y a1 a17 H.size) (cwV 1 hts gX4_tellRests_X5_add rfl rfl rfl (by decide +kernel) ⟨Nat.le_of_ble_eq_true rfl, Nat.le_of_ble_eq_true rfl⟩) hK hP hD hE [6, 7] rfl (by decide +kernel) 0 5 rfl rfl rfl rfl rfl hl.1 rfl (lv_room (Nat.le_of_ble_eq_true rfl)) dX4_tellRests_87 ⟨Nat.le_of_ble_eq_true rfl, Nat.le_of_ble_eq_true rfl⟩) hP hD hS hA [6, 7] [0, 1, 2, 3, 4, 5] rfl rfl (by decide +kernel) (by decide +kernel) (fun u7 H locs _ hP hD hS => ?_)
  refine W.widen (k := 0) (n := 0) (Nat.le_of_ble_eq_true rfl) (Nat.le_of_ble_eq_true rfl) ?_
  exact W.vret hx hb hr (fun t ht hW => ⟨⟨(fun _ => 0), rfl, trivial, by rw [ht]; exact hP, va_K.moved hW.alike hK, hD⟩, hS.F ht⟩) hS.2.2 dX4_tellRests_90 hlocks
