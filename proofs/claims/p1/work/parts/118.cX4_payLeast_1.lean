theorem wd_5_126 : (Cond.methodLink RX4 171 yX4_payLeast) ∈ gT := gt_m5 126 (by decide +kernel) (by decide +kernel)
theorem wd_5_128 : (Cond.instanceMethod yX4_payLeast) ∈ gT := gt_m5 128 (by decide +kernel) (by decide +kernel)
theorem wd_0_39 : (Cond.selects RX4 yX4_payLeast yX4_payLeast) ∈ gT := gt_m0 39 (by decide +kernel) (by decide +kernel)
theorem wd_5_129 : (Cond.code yX4_payLeast cX4_payLeast 4 none) ∈ gT := gt_m5 129 (by decide +kernel) (by decide +kernel)
theorem wd_5_146 : (Cond.methodLink RX4 183 yX5_clear) ∈ gT := gt_m5 146 (by decide +kernel) (by decide +kernel)
theorem wd_9_9 : (Cond.methodLink RX12 403 yX12_codeOf) ∈ gT := gt_m9 9 (by decide +kernel) (by decide +kernel)
theorem wd_9_11 : (Cond.instanceMethod yX12_codeOf) ∈ gT := gt_m9 11 (by decide +kernel) (by decide +kernel)
theorem wd_0_97 : (Cond.selects RX12 yX12_codeOf yX12_codeOf) ∈ gT := gt_m0 97 (by decide +kernel) (by decide +kernel)
theorem wd_9_12 : (Cond.code yX12_codeOf cX12_codeOf 5 (some .long)) ∈ gT := gt_m9 12 (by decide +kernel) (by decide +kernel)
theorem wd_9_17 : (Cond.methodLink RX12 407 yX12_isLine) ∈ gT := gt_m9 17 (by decide +kernel) (by decide +kernel)
theorem wd_9_19 : (Cond.instanceMethod yX12_isLine) ∈ gT := gt_m9 19 (by decide +kernel) (by decide +kernel)
theorem wd_0_98 : (Cond.selects RX12 yX12_isLine yX12_isLine) ∈ gT := gt_m0 98 (by decide +kernel) (by decide +kernel)
theorem wd_9_20 : (Cond.code yX12_isLine cX12_isLine 8 (some .boolean)) ∈ gT := gt_m9 20 (by decide +kernel) (by decide +kernel)
theorem wd_5_162 : (Cond.methodLink RX4 190 yJ7_fill_d0a16) ∈ gT := gt_m5 162 (by decide +kernel) (by decide +kernel)
theorem wd_5_163 : (Cond.static yJ7_fill_d0a16) ∈ gT := gt_m5 163 (by decide +kernel) (by decide +kernel)
theorem wd_5_164 : (Cond.code yJ7_fill_d0a16 cJ7_fill_d0a16 5 none) ∈ gT := gt_m5 164 (by decide +kernel) (by decide +kernel)
theorem wd_2_27 : (Cond.fieldLink RX4 129 "SoldToBehind$Packed" "code" "[I") ∈ gT := gt_m2 27 (by decide +kernel) (by decide +kernel)
theorem wd_1_64 : (Cond.fieldLink RX4 186 "SoldToBehind$Row" "size" "I") ∈ gT := gt_m1 64 (by decide +kernel) (by decide +kernel)
theorem wd_8_118 : (Cond.constantLong RX12 310 10) ∈ gT := gt_m8 118 (by decide +kernel) (by decide +kernel)
theorem dX4_payLeast_0 : decode cX4_payLeast 0 = .ok (.aload_n 0, 1) := by decide +kernel
theorem dX4_payLeast_1 : decode cX4_payLeast 1 = .ok (.getfield 24, 3) := by decide +kernel
theorem dX4_payLeast_4 : decode cX4_payLeast 4 = .ok (.iconst (-1), 1) := by decide +kernel
theorem dX4_payLeast_5 : decode cX4_payLeast 5 = .ok (.invokestatic 71, 3) := by decide +kernel
theorem dX4_payLeast_8 : decode cX4_payLeast 8 = .ok (.aload_n 0, 1) := by decide +kernel
theorem dX4_payLeast_9 : decode cX4_payLeast 9 = .ok (.getfield 24, 3) := by decide +kernel
theorem dX4_payLeast_12 : decode cX4_payLeast 12 = .ok (.iconst 0, 1) := by decide +kernel
theorem dX4_payLeast_13 : decode cX4_payLeast 13 = .ok (.iconst 0, 1) := by decide +kernel
theorem dX4_payLeast_14 : decode cX4_payLeast 14 = .ok (.iastore, 1) := by decide +kernel
theorem dX4_payLeast_15 : decode cX4_payLeast 15 = .ok (.iconst 0, 1) := by decide +kernel
theorem dX4_payLeast_16 : decode cX4_payLeast 16 = .ok (.istore_n 1, 1) := by decide +kernel
theorem dX4_payLeast_17 : decode cX4_payLeast 17 = .ok (.iload_n 1, 1) := by decide +kernel
theorem dX4_payLeast_18 : decode cX4_payLeast 18 = .ok (.aload_n 0, 1) := by decide +kernel
theorem dX4_payLeast_19 : decode cX4_payLeast 19 = .ok (.getfield 27, 3) := by decide +kernel
theorem dX4_payLeast_22 : decode cX4_payLeast 22 = .ok (.if_icmp .ge 49, 3) := by decide +kernel
theorem dX4_payLeast_25 : decode cX4_payLeast 25 = .ok (.iconst 1, 1) := by decide +kernel
theorem dX4_payLeast_26 : decode cX4_payLeast 26 = .ok (.istore_n 2, 1) := by decide +kernel
theorem dX4_payLeast_27 : decode cX4_payLeast 27 = .ok (.iload_n 2, 1) := by decide +kernel
theorem dX4_payLeast_28 : decode cX4_payLeast 28 = .ok (.bipush 8, 2) := by decide +kernel
theorem dX4_payLeast_30 : decode cX4_payLeast 30 = .ok (.if_icmp .gt 35, 3) := by decide +kernel
theorem dX4_payLeast_33 : decode cX4_payLeast 33 = .ok (.aload_n 0, 1) := by decide +kernel
theorem dX4_payLeast_34 : decode cX4_payLeast 34 = .ok (.getfield 42, 3) := by decide +kernel
theorem dX4_payLeast_37 : decode cX4_payLeast 37 = .ok (.iload_n 1, 1) := by decide +kernel
theorem dX4_payLeast_38 : decode cX4_payLeast 38 = .ok (.bipush 8, 2) := by decide +kernel
theorem dX4_payLeast_40 : decode cX4_payLeast 40 = .ok (.imul, 1) := by decide +kernel
theorem dX4_payLeast_41 : decode cX4_payLeast 41 = .ok (.iload_n 2, 1) := by decide +kernel
theorem dX4_payLeast_42 : decode cX4_payLeast 42 = .ok (.iadd, 1) := by decide +kernel
theorem dX4_payLeast_43 : decode cX4_payLeast 43 = .ok (.iconst 1, 1) := by decide +kernel
theorem dX4_payLeast_44 : decode cX4_payLeast 44 = .ok (.isub, 1) := by decide +kernel
theorem dX4_payLeast_45 : decode cX4_payLeast 45 = .ok (.iaload, 1) := by decide +kernel
theorem dX4_payLeast_46 : decode cX4_payLeast 46 = .ok (.istore_n 3, 1) := by decide +kernel
theorem dX4_payLeast_47 : decode cX4_payLeast 47 = .ok (.iload_n 3, 1) := by decide +kernel
theorem dX4_payLeast_48 : decode cX4_payLeast 48 = .ok (.iconst (-1), 1) := by decide +kernel
theorem dX4_payLeast_49 : decode cX4_payLeast 49 = .ok (.if_icmp .eq 10, 3) := by decide +kernel
theorem dX4_payLeast_59 : decode cX4_payLeast 59 = .ok (.iinc 2 1, 3) := by decide +kernel
theorem dX4_payLeast_62 : decode cX4_payLeast 62 = .ok (.goto (-35), 3) := by decide +kernel
theorem dX4_payLeast_65 : decode cX4_payLeast 65 = .ok (.iinc 1 1, 3) := by decide +kernel
theorem dX4_payLeast_68 : decode cX4_payLeast 68 = .ok (.goto (-51), 3) := by decide +kernel
theorem dX4_payLeast_71 : decode cX4_payLeast 71 = .ok (.return_, 1) := by decide +kernel
theorem dX4_cheapestEnd_0 : decode cX4_cheapestEnd 0 = .ok (.aload_n 0, 1) := by decide +kernel
theorem dX4_cheapestEnd_1 : decode cX4_cheapestEnd 1 = .ok (.invokevirtual 171, 3) := by decide +kernel
theorem dX4_cheapestEnd_4 : decode cX4_cheapestEnd 4 = .ok (.iconst (-1), 1) := by decide +kernel
theorem dX4_cheapestEnd_5 : decode cX4_cheapestEnd 5 = .ok (.istore_n 3, 1) := by decide +kernel
theorem dX4_cheapestEnd_6 : decode cX4_cheapestEnd 6 = .ok (.iconst 0, 1) := by decide +kernel
theorem dX4_cheapestEnd_7 : decode cX4_cheapestEnd 7 = .ok (.istore 4, 2) := by decide +kernel
theorem dX4_cheapestEnd_9 : decode cX4_cheapestEnd 9 = .ok (.iload 4, 2) := by decide +kernel
theorem dX4_cheapestEnd_11 : decode cX4_cheapestEnd 11 = .ok (.aload_n 0, 1) := by decide +kernel
theorem dX4_cheapestEnd_12 : decode cX4_cheapestEnd 12 = .ok (.getfield 27, 3) := by decide +kernel
theorem dX4_cheapestEnd_15 : decode cX4_cheapestEnd 15 = .ok (.if_icmp .ge 43, 3) := by decide +kernel
theorem dX4_cheapestEnd_18 : decode cX4_cheapestEnd 18 = .ok (.aload_n 0, 1) := by decide +kernel
theorem dX4_cheapestEnd_19 : decode cX4_cheapestEnd 19 = .ok (.getfield 16, 3) := by decide +kernel
theorem dX4_cheapestEnd_22 : decode cX4_cheapestEnd 22 = .ok (.getfield 129, 3) := by decide +kernel
theorem dX4_cheapestEnd_25 : decode cX4_cheapestEnd 25 = .ok (.iload 4, 2) := by decide +kernel
theorem dX4_cheapestEnd_27 : decode cX4_cheapestEnd 27 = .ok (.iaload, 1) := by decide +kernel
theorem dX4_cheapestEnd_28 : decode cX4_cheapestEnd 28 = .ok (.i2l, 1) := by decide +kernel
theorem dX4_cheapestEnd_29 : decode cX4_cheapestEnd 29 = .ok (.lload_n 1, 1) := by decide +kernel
theorem dX4_cheapestEnd_30 : decode cX4_cheapestEnd 30 = .ok (.lcmp, 1) := by decide +kernel
theorem dX4_cheapestEnd_31 : decode cX4_cheapestEnd 31 = .ok (.ifCond .ne 21, 3) := by decide +kernel
theorem dX4_cheapestEnd_34 : decode cX4_cheapestEnd 34 = .ok (.iload_n 3, 1) := by decide +kernel
theorem dX4_cheapestEnd_35 : decode cX4_cheapestEnd 35 = .ok (.iconst (-1), 1) := by decide +kernel
theorem dX4_cheapestEnd_36 : decode cX4_cheapestEnd 36 = .ok (.if_icmp .eq 13, 3) := by decide +kernel
theorem dX4_cheapestEnd_49 : decode cX4_cheapestEnd 49 = .ok (.iload 4, 2) := by decide +kernel
theorem dX4_cheapestEnd_51 : decode cX4_cheapestEnd 51 = .ok (.istore_n 3, 1) := by decide +kernel
theorem dX4_cheapestEnd_52 : decode cX4_cheapestEnd 52 = .ok (.iinc 4 1, 3) := by decide +kernel
theorem dX4_cheapestEnd_55 : decode cX4_cheapestEnd 55 = .ok (.goto (-46), 3) := by decide +kernel
theorem dX4_cheapestEnd_58 : decode cX4_cheapestEnd 58 = .ok (.iload_n 3, 1) := by decide +kernel
theorem dX4_cheapestEnd_59 : decode cX4_cheapestEnd 59 = .ok (.ireturn, 1) := by decide +kernel
theorem dX4_tellSales_0 : decode cX4_tellSales 0 = .ok (.aload_n 2, 1) := by decide +kernel
theorem dX4_tellSales_1 : decode cX4_tellSales 1 = .ok (.invokevirtual 183, 3) := by decide +kernel
theorem dX4_tellSales_4 : decode cX4_tellSales 4 = .ok (.aload_n 0, 1) := by decide +kernel
theorem dX4_tellSales_5 : decode cX4_tellSales 5 = .ok (.getfield 35, 3) := by decide +kernel
theorem dX4_tellSales_8 : decode cX4_tellSales 8 = .ok (.iload_n 1, 1) := by decide +kernel
theorem dX4_tellSales_9 : decode cX4_tellSales 9 = .ok (.iaload, 1) := by decide +kernel
theorem dX4_tellSales_10 : decode cX4_tellSales 10 = .ok (.bipush 8, 2) := by decide +kernel
theorem dX4_tellSales_12 : decode cX4_tellSales 12 = .ok (.invokestatic 120, 3) := by decide +kernel
theorem dX4_tellSales_15 : decode cX4_tellSales 15 = .ok (.istore_n 3, 1) := by decide +kernel
theorem dX4_tellSales_16 : decode cX4_tellSales 16 = .ok (.aload_n 2, 1) := by decide +kernel
theorem dX4_tellSales_17 : decode cX4_tellSales 17 = .ok (.iload_n 3, 1) := by decide +kernel
theorem dX4_tellSales_18 : decode cX4_tellSales 18 = .ok (.putfield 186, 3) := by decide +kernel
theorem dX4_tellSales_21 : decode cX4_tellSales 21 = .ok (.iload_n 1, 1) := by decide +kernel
theorem dX4_tellSales_22 : decode cX4_tellSales 22 = .ok (.istore 4, 2) := by decide +kernel
theorem dX4_tellSales_24 : decode cX4_tellSales 24 = .ok (.aload_n 0, 1) := by decide +kernel
theorem dX4_tellSales_25 : decode cX4_tellSales 25 = .ok (.getfield 35, 3) := by decide +kernel
theorem dX4_tellSales_28 : decode cX4_tellSales 28 = .ok (.iload_n 1, 1) := by decide +kernel
theorem dX4_tellSales_29 : decode cX4_tellSales 29 = .ok (.iaload, 1) := by decide +kernel
theorem dX4_tellSales_30 : decode cX4_tellSales 30 = .ok (.istore 5, 2) := by decide +kernel
theorem dX4_tellSales_32 : decode cX4_tellSales 32 = .ok (.iload 5, 2) := by decide +kernel
theorem dX4_tellSales_34 : decode cX4_tellSales 34 = .ok (.ifCond .le 41, 3) := by decide +kernel
theorem dX4_tellSales_75 : decode cX4_tellSales 75 = .ok (.return_, 1) := by decide +kernel
theorem dX12_isLine_0 : decode cX12_isLine 0 = .ok (.iconst 0, 1) := by decide +kernel
theorem dX12_isLine_1 : decode cX12_isLine 1 = .ok (.istore_n 3, 1) := by decide +kernel
theorem dX12_isLine_2 : decode cX12_isLine 2 = .ok (.lload_n 1, 1) := by decide +kernel
theorem dX12_isLine_3 : decode cX12_isLine 3 = .ok (.lstore 4, 2) := by decide +kernel
theorem dX12_isLine_5 : decode cX12_isLine 5 = .ok (.iconst 0, 1) := by decide +kernel
theorem dX12_isLine_6 : decode cX12_isLine 6 = .ok (.istore 6, 2) := by decide +kernel
theorem dX12_isLine_8 : decode cX12_isLine 8 = .ok (.lload 4, 2) := by decide +kernel
theorem dX12_isLine_10 : decode cX12_isLine 10 = .ok (.lconst 1, 1) := by decide +kernel
theorem dX12_isLine_11 : decode cX12_isLine 11 = .ok (.lcmp, 1) := by decide +kernel
theorem dX12_isLine_12 : decode cX12_isLine 12 = .ok (.ifCond .le 60, 3) := by decide +kernel
theorem dX12_isLine_15 : decode cX12_isLine 15 = .ok (.iload 6, 2) := by decide +kernel
theorem dX12_isLine_17 : decode cX12_isLine 17 = .ok (.bipush 9, 2) := by decide +kernel
theorem dX12_isLine_19 : decode cX12_isLine 19 = .ok (.if_icmp .gt 53, 3) := by decide +kernel
theorem dX12_isLine_22 : decode cX12_isLine 22 = .ok (.lload 4, 2) := by decide +kernel
theorem dX12_isLine_24 : decode cX12_isLine 24 = .ok (.ldc2_w 310, 3) := by decide +kernel
theorem dX12_isLine_27 : decode cX12_isLine 27 = .ok (.lrem, 1) := by decide +kernel
theorem dX12_isLine_28 : decode cX12_isLine 28 = .ok (.l2i, 1) := by decide +kernel
theorem dX12_isLine_29 : decode cX12_isLine 29 = .ok (.istore 7, 2) := by decide +kernel
theorem dX12_isLine_31 : decode cX12_isLine 31 = .ok (.aload_n 0, 1) := by decide +kernel
theorem dX12_isLine_32 : decode cX12_isLine 32 = .ok (.iload 7, 2) := by decide +kernel
theorem dX12_isLine_34 : decode cX12_isLine 34 = .ok (.invokevirtual 276, 3) := by decide +kernel
theorem dX12_isLine_37 : decode cX12_isLine 37 = .ok (.ifCond .eq 12, 3) := by decide +kernel
theorem dX12_isLine_49 : decode cX12_isLine 49 = .ok (.iconst 0, 1) := by decide +kernel
theorem dX12_isLine_50 : decode cX12_isLine 50 = .ok (.ireturn, 1) := by decide +kernel
theorem dX12_isLine_72 : decode cX12_isLine 72 = .ok (.lload 4, 2) := by decide +kernel
theorem dX12_isLine_74 : decode cX12_isLine 74 = .ok (.lconst 1, 1) := by decide +kernel
theorem dX12_isLine_75 : decode cX12_isLine 75 = .ok (.lcmp, 1) := by decide +kernel
theorem dX12_isLine_76 : decode cX12_isLine 76 = .ok (.ifCond .ne 16, 3) := by decide +kernel
theorem dX12_isLine_79 : decode cX12_isLine 79 = .ok (.iload 6, 2) := by decide +kernel
theorem dX12_isLine_81 : decode cX12_isLine 81 = .ok (.aload_n 0, 1) := by decide +kernel
theorem dX12_isLine_82 : decode cX12_isLine 82 = .ok (.getfield 140, 3) := by decide +kernel
theorem dX12_isLine_85 : decode cX12_isLine 85 = .ok (.if_icmp .ne 7, 3) := by decide +kernel
theorem dX12_isLine_88 : decode cX12_isLine 88 = .ok (.iconst 1, 1) := by decide +kernel
theorem dX12_isLine_89 : decode cX12_isLine 89 = .ok (.goto 4, 3) := by decide +kernel
theorem dX12_isLine_92 : decode cX12_isLine 92 = .ok (.iconst 0, 1) := by decide +kernel
theorem dX12_isLine_93 : decode cX12_isLine 93 = .ok (.ireturn, 1) := by decide +kernel
theorem dX12_cheapest_0 : decode cX12_cheapest 0 = .ok (.aload_n 0, 1) := by decide +kernel
theorem dX12_cheapest_1 : decode cX12_cheapest 1 = .ok (.iconst 0, 1) := by decide +kernel
theorem dX12_cheapest_2 : decode cX12_cheapest 2 = .ok (.putfield 127, 3) := by decide +kernel
theorem dX12_cheapest_5 : decode cX12_cheapest 5 = .ok (.aload_n 0, 1) := by decide +kernel
theorem dX12_cheapest_6 : decode cX12_cheapest 6 = .ok (.lload_n 1, 1) := by decide +kernel
theorem dX12_cheapest_7 : decode cX12_cheapest 7 = .ok (.invokevirtual 407, 3) := by decide +kernel
theorem dX12_cheapest_10 : decode cX12_cheapest 10 = .ok (.ifCond .ne 5, 3) := by decide +kernel
theorem dX12_cheapest_13 : decode cX12_cheapest 13 = .ok (.iconst (-1), 1) := by decide +kernel
theorem dX12_cheapest_14 : decode cX12_cheapest 14 = .ok (.ireturn, 1) := by decide +kernel
theorem dX12_cheapest_15 : decode cX12_cheapest 15 = .ok (.aload_n 0, 1) := by decide +kernel
theorem dX12_cheapest_16 : decode cX12_cheapest 16 = .ok (.invokevirtual 400, 3) := by decide +kernel
theorem dX12_cheapest_19 : decode cX12_cheapest 19 = .ok (.ifCond .ne 6, 3) := by decide +kernel
theorem dX12_cheapest_25 : decode cX12_cheapest 25 = .ok (.iconst (-1), 1) := by decide +kernel
theorem dX12_cheapest_26 : decode cX12_cheapest 26 = .ok (.istore_n 3, 1) := by decide +kernel
theorem dX12_cheapest_27 : decode cX12_cheapest 27 = .ok (.iconst 0, 1) := by decide +kernel
theorem dX12_cheapest_28 : decode cX12_cheapest 28 = .ok (.istore 4, 2) := by decide +kernel
theorem dX12_cheapest_30 : decode cX12_cheapest 30 = .ok (.iload 4, 2) := by decide +kernel
theorem dX12_cheapest_32 : decode cX12_cheapest 32 = .ok (.aload_n 0, 1) := by decide +kernel
theorem dX12_cheapest_33 : decode cX12_cheapest 33 = .ok (.getfield 381, 3) := by decide +kernel
theorem dX12_cheapest_36 : decode cX12_cheapest 36 = .ok (.if_icmp .ge 89, 3) := by decide +kernel
theorem dX12_cheapest_39 : decode cX12_cheapest 39 = .ok (.aload_n 0, 1) := by decide +kernel
theorem dX12_cheapest_40 : decode cX12_cheapest 40 = .ok (.iload 4, 2) := by decide +kernel
theorem dX12_cheapest_42 : decode cX12_cheapest 42 = .ok (.invokevirtual 403, 3) := by decide +kernel
theorem dX12_cheapest_45 : decode cX12_cheapest 45 = .ok (.lload_n 1, 1) := by decide +kernel
theorem dX12_cheapest_46 : decode cX12_cheapest 46 = .ok (.lcmp, 1) := by decide +kernel
theorem dX12_cheapest_47 : decode cX12_cheapest 47 = .ok (.ifCond .eq 6, 3) := by decide +kernel
theorem dX12_cheapest_53 : decode cX12_cheapest 53 = .ok (.iload_n 3, 1) := by decide +kernel
theorem dX12_cheapest_54 : decode cX12_cheapest 54 = .ok (.iconst (-1), 1) := by decide +kernel
theorem dX12_cheapest_55 : decode cX12_cheapest 55 = .ok (.if_icmp .eq 61, 3) := by decide +kernel
theorem dX12_cheapest_116 : decode cX12_cheapest 116 = .ok (.iload 4, 2) := by decide +kernel
theorem dX12_cheapest_118 : decode cX12_cheapest 118 = .ok (.istore_n 3, 1) := by decide +kernel
theorem dX12_cheapest_119 : decode cX12_cheapest 119 = .ok (.iinc 4 1, 3) := by decide +kernel
theorem dX12_cheapest_122 : decode cX12_cheapest 122 = .ok (.goto (-92), 3) := by decide +kernel
theorem dX12_cheapest_125 : decode cX12_cheapest 125 = .ok (.iload_n 3, 1) := by decide +kernel
theorem dX12_cheapest_126 : decode cX12_cheapest 126 = .ok (.iconst (-1), 1) := by decide +kernel
theorem dX12_cheapest_127 : decode cX12_cheapest 127 = .ok (.if_icmp .ne 6, 3) := by decide +kernel
theorem dX12_cheapest_133 : decode cX12_cheapest 133 = .ok (.aload_n 0, 1) := by decide +kernel
theorem dX12_cheapest_134 : decode cX12_cheapest 134 = .ok (.getfield 88, 3) := by decide +kernel
theorem dX12_cheapest_137 : decode cX12_cheapest 137 = .ok (.iload_n 3, 1) := by decide +kernel
theorem dX12_cheapest_138 : decode cX12_cheapest 138 = .ok (.iaload, 1) := by decide +kernel
theorem dX12_cheapest_139 : decode cX12_cheapest 139 = .ok (.istore 4, 2) := by decide +kernel
theorem dX12_cheapest_141 : decode cX12_cheapest 141 = .ok (.iload_n 3, 1) := by decide +kernel
theorem dX12_cheapest_142 : decode cX12_cheapest 142 = .ok (.istore 5, 2) := by decide +kernel
theorem dX12_cheapest_144 : decode cX12_cheapest 144 = .ok (.iload 4, 2) := by decide +kernel
theorem dX12_cheapest_146 : decode cX12_cheapest 146 = .ok (.iconst 1, 1) := by decide +kernel
theorem dX12_cheapest_147 : decode cX12_cheapest 147 = .ok (.isub, 1) := by decide +kernel
theorem dX12_cheapest_148 : decode cX12_cheapest 148 = .ok (.istore 6, 2) := by decide +kernel
theorem dX12_cheapest_150 : decode cX12_cheapest 150 = .ok (.iload 6, 2) := by decide +kernel
theorem dX12_cheapest_152 : decode cX12_cheapest 152 = .ok (.ifCond .lt 32, 3) := by decide +kernel
theorem dX12_cheapest_184 : decode cX12_cheapest 184 = .ok (.aload_n 0, 1) := by decide +kernel
theorem dX12_cheapest_185 : decode cX12_cheapest 185 = .ok (.iconst 0, 1) := by decide +kernel
theorem dX12_cheapest_186 : decode cX12_cheapest 186 = .ok (.putfield 130, 3) := by decide +kernel
theorem dX12_cheapest_189 : decode cX12_cheapest 189 = .ok (.iconst 0, 1) := by decide +kernel
theorem dX12_cheapest_190 : decode cX12_cheapest 190 = .ok (.istore 6, 2) := by decide +kernel
theorem dX12_cheapest_192 : decode cX12_cheapest 192 = .ok (.iload 6, 2) := by decide +kernel
theorem dX12_cheapest_194 : decode cX12_cheapest 194 = .ok (.iload 4, 2) := by decide +kernel
theorem dX12_cheapest_196 : decode cX12_cheapest 196 = .ok (.if_icmp .ge 28, 3) := by decide +kernel
theorem dX12_cheapest_224 : decode cX12_cheapest 224 = .ok (.aload_n 0, 1) := by decide +kernel
theorem dX12_cheapest_225 : decode cX12_cheapest 225 = .ok (.getfield 91, 3) := by decide +kernel
theorem dX12_cheapest_228 : decode cX12_cheapest 228 = .ok (.iload_n 3, 1) := by decide +kernel
theorem dX12_cheapest_229 : decode cX12_cheapest 229 = .ok (.iaload, 1) := by decide +kernel
theorem dX12_cheapest_230 : decode cX12_cheapest 230 = .ok (.ireturn, 1) := by decide +kernel
theorem dX12_codeOf_0 : decode cX12_codeOf 0 = .ok (.lconst 1, 1) := by decide +kernel
theorem dX12_codeOf_1 : decode cX12_codeOf 1 = .ok (.lstore_n 2, 1) := by decide +kernel
theorem dX12_codeOf_2 : decode cX12_codeOf 2 = .ok (.iconst 0, 1) := by decide +kernel
theorem dX12_codeOf_3 : decode cX12_codeOf 3 = .ok (.istore 4, 2) := by decide +kernel
theorem dX12_codeOf_5 : decode cX12_codeOf 5 = .ok (.iload 4, 2) := by decide +kernel
theorem dX12_codeOf_7 : decode cX12_codeOf 7 = .ok (.aload_n 0, 1) := by decide +kernel
theorem dX12_codeOf_8 : decode cX12_codeOf 8 = .ok (.getfield 140, 3) := by decide +kernel
theorem dX12_codeOf_11 : decode cX12_codeOf 11 = .ok (.if_icmp .ge 29, 3) := by decide +kernel
theorem dX12_codeOf_40 : decode cX12_codeOf 40 = .ok (.lload_n 2, 1) := by decide +kernel
theorem dX12_codeOf_41 : decode cX12_codeOf 41 = .ok (.lreturn, 1) := by decide +kernel
theorem dX4_holds_0 : decode cX4_holds 0 = .ok (.iconst 0, 1) := by decide +kernel
theorem dX4_holds_1 : decode cX4_holds 1 = .ok (.istore_n 3, 1) := by decide +kernel
theorem dX4_holds_2 : decode cX4_holds 2 = .ok (.iload_n 3, 1) := by decide +kernel
theorem dX4_holds_3 : decode cX4_holds 3 = .ok (.aload_n 0, 1) := by decide +kernel
theorem dX4_holds_4 : decode cX4_holds 4 = .ok (.getfield 27, 3) := by decide +kernel
theorem dX4_holds_7 : decode cX4_holds 7 = .ok (.if_icmp .ge 26, 3) := by decide +kernel
theorem dX4_holds_10 : decode cX4_holds 10 = .ok (.aload_n 0, 1) := by decide +kernel
theorem dX4_holds_11 : decode cX4_holds 11 = .ok (.getfield 16, 3) := by decide +kernel
theorem dX4_holds_14 : decode cX4_holds 14 = .ok (.getfield 129, 3) := by decide +kernel
theorem dX4_holds_17 : decode cX4_holds 17 = .ok (.iload_n 3, 1) := by decide +kernel
theorem dX4_holds_18 : decode cX4_holds 18 = .ok (.iaload, 1) := by decide +kernel
theorem dX4_holds_19 : decode cX4_holds 19 = .ok (.i2l, 1) := by decide +kernel
theorem dX4_holds_20 : decode cX4_holds 20 = .ok (.lload_n 1, 1) := by decide +kernel
theorem dX4_holds_21 : decode cX4_holds 21 = .ok (.lcmp, 1) := by decide +kernel
theorem dX4_holds_22 : decode cX4_holds 22 = .ok (.ifCond .ne 5, 3) := by decide +kernel
theorem dX4_holds_25 : decode cX4_holds 25 = .ok (.iconst 1, 1) := by decide +kernel
theorem dX4_holds_26 : decode cX4_holds 26 = .ok (.ireturn, 1) := by decide +kernel
theorem dJ7_fill_d0a16_0 : decode cJ7_fill_d0a16 0 = .ok (.iconst 0, 1) := by decide +kernel
theorem dJ7_fill_d0a16_1 : decode cJ7_fill_d0a16 1 = .ok (.istore_n 3, 1) := by decide +kernel
theorem dJ7_fill_d0a16_2 : decode cJ7_fill_d0a16 2 = .ok (.aload_n 0, 1) := by decide +kernel
theorem dJ7_fill_d0a16_3 : decode cJ7_fill_d0a16 3 = .ok (.arraylength, 1) := by decide +kernel
theorem dJ7_fill_d0a16_4 : decode cJ7_fill_d0a16 4 = .ok (.istore 4, 2) := by decide +kernel
theorem dJ7_fill_d0a16_6 : decode cJ7_fill_d0a16 6 = .ok (.iload_n 3, 1) := by decide +kernel
theorem dJ7_fill_d0a16_7 : decode cJ7_fill_d0a16 7 = .ok (.iload 4, 2) := by decide +kernel
theorem dJ7_fill_d0a16_9 : decode cJ7_fill_d0a16 9 = .ok (.if_icmp .ge 13, 3) := by decide +kernel
theorem dJ7_fill_d0a16_12 : decode cJ7_fill_d0a16 12 = .ok (.aload_n 0, 1) := by decide +kernel
theorem dJ7_fill_d0a16_13 : decode cJ7_fill_d0a16 13 = .ok (.iload_n 3, 1) := by decide +kernel
theorem dJ7_fill_d0a16_14 : decode cJ7_fill_d0a16 14 = .ok (.lload_n 1, 1) := by decide +kernel
theorem dJ7_fill_d0a16_15 : decode cJ7_fill_d0a16 15 = .ok (.lastore, 1) := by decide +kernel
theorem dJ7_fill_d0a16_16 : decode cJ7_fill_d0a16 16 = .ok (.iinc 3 1, 3) := by decide +kernel
theorem dJ7_fill_d0a16_19 : decode cJ7_fill_d0a16 19 = .ok (.goto (-13), 3) := by decide +kernel
theorem dJ7_fill_d0a16_22 : decode cJ7_fill_d0a16 22 = .ok (.return_, 1) := by decide +kernel
theorem dX4_countWays_0 : decode cX4_countWays 0 = .ok (.aload_n 0, 1) := by decide +kernel
theorem dX4_countWays_1 : decode cX4_countWays 1 = .ok (.getfield 51, 3) := by decide +kernel
theorem dX4_countWays_4 : decode cX4_countWays 4 = .ok (.lconst 0, 1) := by decide +kernel
theorem dX4_countWays_5 : decode cX4_countWays 5 = .ok (.invokestatic 190, 3) := by decide +kernel
theorem dX4_countWays_8 : decode cX4_countWays 8 = .ok (.aload_n 0, 1) := by decide +kernel
theorem dX4_countWays_9 : decode cX4_countWays 9 = .ok (.getfield 51, 3) := by decide +kernel
theorem dX4_countWays_12 : decode cX4_countWays 12 = .ok (.iconst 0, 1) := by decide +kernel
theorem dX4_countWays_13 : decode cX4_countWays 13 = .ok (.lconst 1, 1) := by decide +kernel
theorem dX4_countWays_14 : decode cX4_countWays 14 = .ok (.lastore, 1) := by decide +kernel
theorem dX4_countWays_15 : decode cX4_countWays 15 = .ok (.iconst 0, 1) := by decide +kernel
theorem dX4_countWays_16 : decode cX4_countWays 16 = .ok (.istore_n 1, 1) := by decide +kernel
theorem dX4_countWays_17 : decode cX4_countWays 17 = .ok (.iload_n 1, 1) := by decide +kernel
theorem dX4_countWays_18 : decode cX4_countWays 18 = .ok (.aload_n 0, 1) := by decide +kernel
theorem dX4_countWays_19 : decode cX4_countWays 19 = .ok (.getfield 27, 3) := by decide +kernel
theorem dX4_countWays_22 : decode cX4_countWays 22 = .ok (.if_icmp .ge 59, 3) := by decide +kernel
theorem dX4_countWays_25 : decode cX4_countWays 25 = .ok (.iconst 0, 1) := by decide +kernel
theorem dX4_countWays_26 : decode cX4_countWays 26 = .ok (.istore_n 2, 1) := by decide +kernel
theorem dX4_countWays_27 : decode cX4_countWays 27 = .ok (.iload_n 2, 1) := by decide +kernel
theorem dX4_countWays_28 : decode cX4_countWays 28 = .ok (.bipush 8, 2) := by decide +kernel
theorem dX4_countWays_30 : decode cX4_countWays 30 = .ok (.if_icmp .ge 45, 3) := by decide +kernel
theorem dX4_countWays_33 : decode cX4_countWays 33 = .ok (.aload_n 0, 1) := by decide +kernel
theorem dX4_countWays_34 : decode cX4_countWays 34 = .ok (.getfield 42, 3) := by decide +kernel
theorem dX4_countWays_37 : decode cX4_countWays 37 = .ok (.iload_n 1, 1) := by decide +kernel
theorem dX4_countWays_38 : decode cX4_countWays 38 = .ok (.bipush 8, 2) := by decide +kernel
theorem dX4_countWays_40 : decode cX4_countWays 40 = .ok (.imul, 1) := by decide +kernel
theorem dX4_countWays_41 : decode cX4_countWays 41 = .ok (.iload_n 2, 1) := by decide +kernel
theorem dX4_countWays_42 : decode cX4_countWays 42 = .ok (.iadd, 1) := by decide +kernel
theorem dX4_countWays_43 : decode cX4_countWays 43 = .ok (.iaload, 1) := by decide +kernel
theorem dX4_countWays_44 : decode cX4_countWays 44 = .ok (.istore_n 3, 1) := by decide +kernel
theorem dX4_countWays_45 : decode cX4_countWays 45 = .ok (.iload_n 3, 1) := by decide +kernel
theorem dX4_countWays_46 : decode cX4_countWays 46 = .ok (.iconst (-1), 1) := by decide +kernel
theorem dX4_countWays_47 : decode cX4_countWays 47 = .ok (.if_icmp .eq 22, 3) := by decide +kernel
theorem dX4_countWays_69 : decode cX4_countWays 69 = .ok (.iinc 2 1, 3) := by decide +kernel
theorem dX4_countWays_72 : decode cX4_countWays 72 = .ok (.goto (-45), 3) := by decide +kernel
theorem dX4_countWays_75 : decode cX4_countWays 75 = .ok (.iinc 1 1, 3) := by decide +kernel
theorem dX4_countWays_78 : decode cX4_countWays 78 = .ok (.goto (-61), 3) := by decide +kernel
theorem dX4_countWays_81 : decode cX4_countWays 81 = .ok (.return_, 1) := by decide +kernel
theorem gX4_payLeast_J7_fill_53178 : GoodIn wsX4_payLeast (va_wsS RX4 71 yJ7_fill_53178 wsJ7_fill_53178) := gi_S wd_5_60 wd_2_175 wd_1_13 wd_2_176
theorem gX4_cheapestEnd_X4_payLeast : GoodIn wsX4_cheapestEnd (wsV RX4 171 RX4 yX4_payLeast wsX4_payLeast) := gi_V wd_5_126 wd_5_128 wd_0_39 wd_1_26 wd_5_129
theorem gX4_tellSales_X5_clear : GoodIn wsX4_tellSales (wsV RX4 183 RX5 yX5_clear wsX5_clear) := gi_V wd_5_146 wd_4_172 wd_4_173 wd_1_3 wd_4_174
theorem gX12_isLine_X12_isInLine : GoodIn wsX12_isLine (wsV RX12 276 RX12 yX12_isInLine wsX12_isInLine) := gi_V wd_8_66 wd_8_68 wd_0_72 wd_1_12 wd_8_69
theorem gX12_cheapest_X12_codeOf : GoodIn wsX12_cheapest (wsV RX12 403 RX12 yX12_codeOf wsX12_codeOf) := gi_V wd_9_9 wd_9_11 wd_0_97 wd_1_12 wd_9_12
theorem gX12_cheapest_X12_findStates : GoodIn wsX12_cheapest (wsV RX12 400 RX12 yX12_findStates wsX12_findStates) := gi_V wd_8_217 wd_8_219 wd_0_89 wd_1_12 wd_8_220
theorem gX12_cheapest_X12_isLine : GoodIn wsX12_cheapest (wsV RX12 407 RX12 yX12_isLine wsX12_isLine) := gi_V wd_9_17 wd_9_19 wd_0_98 wd_1_12 wd_9_20
theorem gX4_countWays_J7_fill_d0a16 : GoodIn wsX4_countWays (va_wsS RX4 190 yJ7_fill_d0a16 wsJ7_fill_d0a16) := gi_S wd_5_162 wd_5_163 wd_1_13 wd_5_164
set_option maxRecDepth 100000 in
set_option maxHeartbeats 4000000 in
theorem cX4_payLeast_1 (l : Launch) (D : va_G) (y : Nat → ClassId) (a0 : Nat) (a1 : Nat) (a2 : Nat) (a3 : Nat) (a4 : Nat) (a5 : Nat) (a6 : Nat) (a7 : Nat) (a8 : Nat) (a9 : Nat) (a10 : Nat) (a11 : Nat) (sz : Nat) : Met l yX4_payLeast wsX4_payLeast { frames := 3, cells := 0, slots := 0, locals := 223 } (nPc D y nT [.ref a0] [(a0, .inr (4, [.ref a1, .ref a2, .ref a3, .int 1, .int 1, .ref a4, .ref a5, .ref a6, .ref a7, .ref a8, .ref a9, .ref a10, .ref a11])), (a3, .inl (y 0, 2000, .inl nz)), (a6, .inl (y 0, 16000, .inl (upd (upd (upd (upd (upd (upd (upd (upd nz 0 (-1)) 1 (-1)) 2 (-1)) 3 (-1)) 4 (-1)) 5 (-1)) 6 (-1)) 7 (-1))))] sz) ((fun A => nQv D y (fun _ => True) (fun u => [(a0, .inr (4, [.ref a1, .ref a2, .ref a3, .int 1, .int 1, .ref a4, .ref a5, .ref a6, .ref a7, .ref a8, .ref a9, .ref a10, .ref a11])), (a6, .inl (y 0, 16000, .inl (upd (upd (upd (upd (upd (upd (upd (upd nz 0 (-1)) 1 (-1)) 2 (-1)) 3 (-1)) 4 (-1)) 5 (-1)) 6 (-1)) 7 (-1)))), (a3, .inl (y 0, 2000, .inl (upd (nfil 2000 (-1) nz) 0 0)))]) A) (va_A [(a0, .inr (4, [.ref a1, .ref a2, .ref a3, .int 1, .int 1, .ref a4, .ref a5, .ref a6, .ref a7, .ref a8, .ref a9, .ref a10, .ref a11])), (a3, .inl (y 0, 2000, .inl nz)), (a6, .inl (y 0, 16000, .inl (upd (upd (upd (upd (upd (upd (upd (upd nz 0 (-1)) 1 (-1)) 2 (-1)) 3 (-1)) 4 (-1)) 5 (-1)) 6 (-1)) 7 (-1))))] sz)) 0 0 (va_A [(a0, .inr (4, [.ref a1, .ref a2, .ref a3, .int 1, .int 1, .ref a4, .ref a5, .ref a6, .ref a7, .ref a8, .ref a9, .ref a10, .ref a11])), (a3, .inl (y 0, 2000, .inl nz)), (a6, .inl (y 0, 16000, .inl (upd (upd (upd (upd (upd (upd (upd (upd nz 0 (-1)) 1 (-1)) 2 (-1)) 3 (-1)) 4 (-1)) 5 (-1)) 6 (-1)) 7 (-1))))] sz) := by
  refine nm_ofW (D := D) (y := y) (E := nT) (yy := yX4_payLeast) (wsy := wsX4_payLeast) (rm := { frames := 3, cells := 0, slots := 0, locals := 223 }) (as := [.ref a0]) (ws := [(a0, .inr (4, [.ref a1, .ref a2, .ref a3, .int 1, .int 1, .ref a4, .ref a5, .ref a6, .ref a7, .ref a8, .ref a9, .ref a10, .ref a11])), (a3, .inl (y 0, 2000, .inl nz)), (a6, .inl (y 0, 16000, .inl (upd (upd (upd (upd (upd (upd (upd (upd nz 0 (-1)) 1 (-1)) 2 (-1)) 3 (-1)) 4 (-1)) 5 (-1)) 6 (-1)) 7 (-1))))]) (sz := sz) (mc := 0) (ms := 0) (Qc := fun A => nQv D y (fun _ => True) (fun u => [(a0, .inr (4, [.ref a1, .ref a2, .ref a3, .int 1, .int 1, .ref a4, .ref a5, .ref a6, .ref a7, .ref a8, .ref a9, .ref a10, .ref a11])), (a6, .inl (y 0, 16000, .inl (upd (upd (upd (upd (upd (upd (upd (upd nz 0 (-1)) 1 (-1)) 2 (-1)) 3 (-1)) 4 (-1)) 5 (-1)) 6 (-1)) 7 (-1)))), (a3, .inl (y 0, 2000, .inl (upd (nfil 2000 (-1) nz) 0 0)))]) A) (cc := cX4_payLeast) (maxL := 4) (ret := none) (by decide +kernel) rfl (Nat.le_of_ble_eq_true rfl) ?_
  intro p e s m below meth c A ls H hx hb hr hml hts hown hlocks hnm hsz hP hK hD hA hS hE hAe hl
  replace hl : lv_has ls 4 [(0, .ref a0)] := hl
  have hown : s.vm.findClass RX4 = some m.cls := hown
  have w_0 := hts (.fieldLink RX4 24 "SoldToBehind$Reach" "paid" "[I") (gt_k wd_5_13)
  have w_1 := hts (.fieldLink RX4 27 "SoldToBehind$Reach" "count" "I") (gt_k wd_5_15)
  have w_2 := hts (.fieldLink RX4 42 "SoldToBehind$Reach" "out" "[I") (gt_k wd_5_21)
  refine lv_aload_n hx hb dX4_payLeast_0 rfl (lv_at hl 0 rfl) ?_
  refine va_get (D := D) (ci := 4) (v := .ref a3) (C := RX4) (T := TX4) (N := 13) hx hb hts (gt_c iG_X4) hown hK hP 0 rfl rfl 2 (by decide +kernel) w_0 (fun _ h9 => h9) rfl dX4_payLeast_1 ?_
  refine lv_iconst (v := (-1)) hx hb dX4_payLeast_4 (by decide +kernel) ?_
  refine nj_v (ws := [(a0, .inr (4, [.ref a1, .ref a2, .ref a3, .int 1, .int 1, .ref a4, .ref a5, .ref a6, .ref a7, .ref a8, .ref a9, .ref a10, .ref a11])), (a3, .inl (y 0, 2000, .inl nz)), (a6, .inl (y 0, 16000, .inl (upd (upd (upd (upd (upd (upd (upd (upd nz 0 (-1)) 1 (-1)) 2 (-1)) 3 (-1)) 4 (-1)) 5 (-1)) 6 (-1)) 7 (-1))))]) (wc := [(a3, .inl (y 0, 2000, .inl nz))]) (wr := [(a0, .inr (4, [.ref a1, .ref a2, .ref a3, .int 1, .int 1, .ref a4, .ref a5, .ref a6, .ref a7, .ref a8, .ref a9, .ref a10, .ref a11])), (a6, .inl (y 0, 16000, .inl (upd (upd (upd (upd (upd (upd (upd (upd nz 0 (-1)) 1 (-1)) 2 (-1)) 3 (-1)) 4 (-1)) 5 (-1)) 6 (-1)) 7 (-1))))]) (nr_S (As := [.ref a3, .int (-1)]) (rest := []) ⟨hx, hb, hml, hown, hts⟩ (cJ7_fill_53178_4 l D y a3 H.size) (va_cwS 2 hts gX4_payLeast_J7_fill_53178 rfl rfl rfl (by decide +kernel) ⟨Nat.le_of_ble_eq_true rfl, Nat.le_of_ble_eq_true rfl⟩) hK hP hD hE [1] rfl (by decide +kernel) rfl rfl hl.1 rfl (lv_room (Nat.le_of_ble_eq_true rfl)) dX4_payLeast_5 ⟨Nat.le_of_ble_eq_true rfl, Nat.le_of_ble_eq_true rfl⟩) hP hD hS hA [1] [0, 2] rfl rfl (by decide +kernel) (by decide +kernel) (fun u1 H locs _ hP hD hS => ?_)
  refine lv_aload_n hx hb dX4_payLeast_8 rfl (lv_at hl 0 rfl) ?_
  refine va_get (D := D) (ci := 4) (v := .ref a3) (C := RX4) (T := TX4) (N := 13) hx hb hts (gt_c iG_X4) hown hK hP 0 rfl rfl 2 (by decide +kernel) w_0 (fun _ h9 => h9) rfl dX4_payLeast_9 ?_
  refine lv_iconst (v := 0) hx hb dX4_payLeast_12 (by decide +kernel) ?_
  refine lv_iconst (v := 0) hx hb dX4_payLeast_13 (by decide +kernel) ?_
  refine nb_iast (ws' := [(a0, .inr (4, [.ref a1, .ref a2, .ref a3, .int 1, .int 1, .ref a4, .ref a5, .ref a6, .ref a7, .ref a8, .ref a9, .ref a10, .ref a11])), (a6, .inl (y 0, 16000, .inl (upd (upd (upd (upd (upd (upd (upd (upd nz 0 (-1)) 1 (-1)) 2 (-1)) 3 (-1)) 4 (-1)) 5 (-1)) 6 (-1)) 7 (-1)))), (a3, .inl (y 0, 2000, .inl (upd (nfil 2000 (-1) nz) 0 0)))]) hx hb hK hP hD hS 2 0 rfl rfl (n_in (by decide +kernel)) rfl dX4_payLeast_14 (fun H locs hP hD hS => ?_)
  refine lv_iconst (v := 0) hx hb dX4_payLeast_15 (by decide +kernel) ?_
  refine lv_istore_n (lv' := [(1, .int 0), (0, .ref a0)]) hx hb dX4_payLeast_16 rfl hl (by decide +kernel) rfl (fun ls hl => ?_)
  refine lv_iload_n hx hb dX4_payLeast_17 rfl (lv_at hl 0 rfl) ?_
  refine lv_aload_n hx hb dX4_payLeast_18 rfl (lv_at hl 1 rfl) ?_
  refine va_get (D := D) (ci := 4) (v := .int 1) (C := RX4) (T := TX4) (N := 13) hx hb hts (gt_c iG_X4) hown hK hP 0 rfl rfl 3 (by decide +kernel) w_1 (fun _ h9 => h9) rfl dX4_payLeast_19 ?_
  refine lv_icmp_ge (tgt := 71) hx hb dX4_payLeast_22 (by decide +kernel) (fun c => absurd c (by decide +kernel)) (fun _ => ?_)
  refine lv_iconst (v := 1) hx hb dX4_payLeast_25 (by decide +kernel) ?_
  refine lv_istore_n (lv' := [(2, .int 1), (1, .int 0), (0, .ref a0)]) hx hb dX4_payLeast_26 rfl hl (by decide +kernel) rfl (fun ls hl => ?_)
  refine lv_iload_n hx hb dX4_payLeast_27 rfl (lv_at hl 0 rfl) ?_
  refine lv_bipush (v := 8) hx hb dX4_payLeast_28 (by decide +kernel) ?_
  refine lv_icmp_gt (tgt := 65) hx hb dX4_payLeast_30 (by decide +kernel) (fun c => absurd c (by decide +kernel)) (fun _ => ?_)
  refine lv_aload_n hx hb dX4_payLeast_33 rfl (lv_at hl 2 rfl) ?_
  refine va_get (D := D) (ci := 4) (v := .ref a6) (C := RX4) (T := TX4) (N := 13) hx hb hts (gt_c iG_X4) hown hK hP 0 rfl rfl 7 (by decide +kernel) w_2 (fun _ h9 => h9) rfl dX4_payLeast_34 ?_
  refine lv_iload_n hx hb dX4_payLeast_37 rfl (lv_at hl 1 rfl) ?_
  refine lv_bipush (v := 8) hx hb dX4_payLeast_38 (by decide +kernel) ?_
  refine lv_imul hx hb dX4_payLeast_40 ?_
  refine nv_i (v := 0) (by decide +kernel) ?_
  refine lv_iload_n hx hb dX4_payLeast_41 rfl (lv_at hl 0 rfl) ?_
  refine lv_iadd hx hb dX4_payLeast_42 ?_
  refine nv_i (v := 1) (by decide +kernel) ?_
  refine lv_iconst (v := 1) hx hb dX4_payLeast_43 (by decide +kernel) ?_
  refine lv_isub hx hb dX4_payLeast_44 ?_
  refine nv_i (v := 0) (by decide +kernel) ?_
  refine va_iald hx hb hK hP 1 0 rfl rfl (n_in (by decide +kernel)) dX4_payLeast_45 ?_
  refine nv_i (v := (-1)) rfl ?_
  refine lv_istore_n (lv' := [(3, .int (-1)), (2, .int 1), (1, .int 0), (0, .ref a0)]) hx hb dX4_payLeast_46 rfl hl (by decide +kernel) rfl (fun ls hl => ?_)
  refine lv_iload_n hx hb dX4_payLeast_47 rfl (lv_at hl 0 rfl) ?_
  refine lv_iconst (v := (-1)) hx hb dX4_payLeast_48 (by decide +kernel) ?_
  refine lv_icmp_eq (tgt := 59) hx hb dX4_payLeast_49 (by decide +kernel) (fun _ => ?_) (fun c => absurd (by decide +kernel) c)
  refine lv_iinc (v := 2) (lv' := [(2, .int 2), (3, .int (-1)), (1, .int 0), (0, .ref a0)]) hx hb dX4_payLeast_59 hl (k := 1) rfl (by decide +kernel) (by decide +kernel) rfl (fun ls hl => ?_)
  refine lv_goto (tgt := 27) hx hb dX4_payLeast_62 (by decide +kernel) ?_
  refine lv_iload_n hx hb dX4_payLeast_27 rfl (lv_at hl 0 rfl) ?_
  refine lv_bipush (v := 8) hx hb dX4_payLeast_28 (by decide +kernel) ?_
  refine lv_icmp_gt (tgt := 65) hx hb dX4_payLeast_30 (by decide +kernel) (fun c => absurd c (by decide +kernel)) (fun _ => ?_)
  refine lv_aload_n hx hb dX4_payLeast_33 rfl (lv_at hl 3 rfl) ?_
  refine va_get (D := D) (ci := 4) (v := .ref a6) (C := RX4) (T := TX4) (N := 13) hx hb hts (gt_c iG_X4) hown hK hP 0 rfl rfl 7 (by decide +kernel) w_2 (fun _ h9 => h9) rfl dX4_payLeast_34 ?_
  refine lv_iload_n hx hb dX4_payLeast_37 rfl (lv_at hl 2 rfl) ?_
  refine lv_bipush (v := 8) hx hb dX4_payLeast_38 (by decide +kernel) ?_
  refine lv_imul hx hb dX4_payLeast_40 ?_
  refine nv_i (v := 0) (by decide +kernel) ?_
  refine lv_iload_n hx hb dX4_payLeast_41 rfl (lv_at hl 0 rfl) ?_
  refine lv_iadd hx hb dX4_payLeast_42 ?_
  refine nv_i (v := 2) (by decide +kernel) ?_
  refine lv_iconst (v := 1) hx hb dX4_payLeast_43 (by decide +kernel) ?_
  refine lv_isub hx hb dX4_payLeast_44 ?_
  refine nv_i (v := 1) (by decide +kernel) ?_
  refine va_iald hx hb hK hP 1 0 rfl rfl (n_in (by decide +kernel)) dX4_payLeast_45 ?_
  refine nv_i (v := (-1)) rfl ?_
  refine lv_istore_n (lv' := [(3, .int (-1)), (2, .int 2), (1, .int 0), (0, .ref a0)]) hx hb dX4_payLeast_46 rfl hl (by decide +kernel) rfl (fun ls hl => ?_)
  refine lv_iload_n hx hb dX4_payLeast_47 rfl (lv_at hl 0 rfl) ?_
  refine lv_iconst (v := (-1)) hx hb dX4_payLeast_48 (by decide +kernel) ?_
  refine lv_icmp_eq (tgt := 59) hx hb dX4_payLeast_49 (by decide +kernel) (fun _ => ?_) (fun c => absurd (by decide +kernel) c)
  refine lv_iinc (v := 3) (lv' := [(2, .int 3), (3, .int (-1)), (1, .int 0), (0, .ref a0)]) hx hb dX4_payLeast_59 hl (k := 1) rfl (by decide +kernel) (by decide +kernel) rfl (fun ls hl => ?_)
  refine lv_goto (tgt := 27) hx hb dX4_payLeast_62 (by decide +kernel) ?_
  refine lv_iload_n hx hb dX4_payLeast_27 rfl (lv_at hl 0 rfl) ?_
  refine lv_bipush (v := 8) hx hb dX4_payLeast_28 (by decide +kernel) ?_
  refine lv_icmp_gt (tgt := 65) hx hb dX4_payLeast_30 (by decide +kernel) (fun c => absurd c (by decide +kernel)) (fun _ => ?_)
  refine lv_aload_n hx hb dX4_payLeast_33 rfl (lv_at hl 3 rfl) ?_
  refine va_get (D := D) (ci := 4) (v := .ref a6) (C := RX4) (T := TX4) (N := 13) hx hb hts (gt_c iG_X4) hown hK hP 0 rfl rfl 7 (by decide +kernel) w_2 (fun _ h9 => h9) rfl dX4_payLeast_34 ?_
  refine lv_iload_n hx hb dX4_payLeast_37 rfl (lv_at hl 2 rfl) ?_
  refine lv_bipush (v := 8) hx hb dX4_payLeast_38 (by decide +kernel) ?_
  refine lv_imul hx hb dX4_payLeast_40 ?_
  refine nv_i (v := 0) (by decide +kernel) ?_
  refine lv_iload_n hx hb dX4_payLeast_41 rfl (lv_at hl 0 rfl) ?_
  refine lv_iadd hx hb dX4_payLeast_42 ?_
  refine nv_i (v := 3) (by decide +kernel) ?_
  refine lv_iconst (v := 1) hx hb dX4_payLeast_43 (by decide +kernel) ?_
  refine lv_isub hx hb dX4_payLeast_44 ?_
  refine nv_i (v := 2) (by decide +kernel) ?_
  refine va_iald hx hb hK hP 1 0 rfl rfl (n_in (by decide +kernel)) dX4_payLeast_45 ?_
  refine nv_i (v := (-1)) rfl ?_
  refine lv_istore_n (lv' := [(3, .int (-1)), (2, .int 3), (1, .int 0), (0, .ref a0)]) hx hb dX4_payLeast_46 rfl hl (by decide +kernel) rfl (fun ls hl => ?_)
  refine lv_iload_n hx hb dX4_payLeast_47 rfl (lv_at hl 0 rfl) ?_
  refine lv_iconst (v := (-1)) hx hb dX4_payLeast_48 (by decide +kernel) ?_
  refine lv_icmp_eq (tgt := 59) hx hb dX4_payLeast_49 (by decide +kernel) (fun _ => ?_) (fun c => absurd (by decide +kernel) c)
  refine lv_iinc (v := 4) (lv' := [(2, .int 4), (3, .int (-1)), (1, .int 0), (0, .ref a0)]) hx hb dX4_payLeast_59 hl (k := 1) rfl (by decide +kernel) (by decide +kernel) rfl (fun ls hl => ?_)
  refine lv_goto (tgt := 27) hx hb dX4_payLeast_62 (by decide +kernel) ?_
  refine lv_iload_n hx hb dX4_payLeast_27 rfl (lv_at hl 0 rfl) ?_
  refine lv_bipush (v := 8) hx hb dX4_payLeast_28 (by decide +kernel) ?_
  refine lv_icmp_gt (tgt := 65) hx hb dX4_payLeast_30 (by decide +kernel) (fun c => absurd c (by decide +kernel)) (fun _ => ?_)
  refine lv_aload_n hx hb dX4_payLeast_33 rfl (lv_at hl 3 rfl) ?_
  refine va_get (D := D) (ci := 4) (v := .ref a6) (C := RX4) (T := TX4) (N := 13) hx hb hts (gt_c iG_X4) hown hK hP 0 rfl rfl 7 (by decide +kernel) w_2 (fun _ h9 => h9) rfl dX4_payLeast_34 ?_
  refine lv_iload_n hx hb dX4_payLeast_37 rfl (lv_at hl 2 rfl) ?_
  refine lv_bipush (v := 8) hx hb dX4_payLeast_38 (by decide +kernel) ?_
  refine lv_imul hx hb dX4_payLeast_40 ?_
  refine nv_i (v := 0) (by decide +kernel) ?_
  refine lv_iload_n hx hb dX4_payLeast_41 rfl (lv_at hl 0 rfl) ?_
  refine lv_iadd hx hb dX4_payLeast_42 ?_
  refine nv_i (v := 4) (by decide +kernel) ?_
  refine lv_iconst (v := 1) hx hb dX4_payLeast_43 (by decide +kernel) ?_
  refine lv_isub hx hb dX4_payLeast_44 ?_
  refine nv_i (v := 3) (by decide +kernel) ?_
  refine va_iald hx hb hK hP 1 0 rfl rfl (n_in (by decide +kernel)) dX4_payLeast_45 ?_
  refine nv_i (v := (-1)) rfl ?_
  refine lv_istore_n (lv' := [(3, .int (-1)), (2, .int 4), (1, .int 0), (0, .ref a0)]) hx hb dX4_payLeast_46 rfl hl (by decide +kernel) rfl (fun ls hl => ?_)
  refine lv_iload_n hx hb dX4_payLeast_47 rfl (lv_at hl 0 rfl) ?_
  refine lv_iconst (v := (-1)) hx hb dX4_payLeast_48 (by decide +kernel) ?_
  refine lv_icmp_eq (tgt := 59) hx hb dX4_payLeast_49 (by decide +kernel) (fun _ => ?_) (fun c => absurd (by decide +kernel) c)
  refine lv_iinc (v := 5) (lv' := [(2, .int 5), (3, .int (-1)), (1, .int 0), (0, .ref a0)]) hx hb dX4_payLeast_59 hl (k := 1) rfl (by decide +kernel) (by decide +kernel) rfl (fun ls hl => ?_)
  refine lv_goto (tgt := 27) hx hb dX4_payLeast_62 (by decide +kernel) ?_
  refine lv_iload_n hx hb dX4_payLeast_27 rfl (lv_at hl 0 rfl) ?_
  refine lv_bipush (v := 8) hx hb dX4_payLeast_28 (by decide +kernel) ?_
  refine lv_icmp_gt (tgt := 65) hx hb dX4_payLeast_30 (by decide +kernel) (fun c => absurd c (by decide +kernel)) (fun _ => ?_)
  refine lv_aload_n hx hb dX4_payLeast_33 rfl (lv_at hl 3 rfl) ?_
  refine va_get (D := D) (ci := 4) (v := .ref a6) (C := RX4) (T := TX4) (N := 13) hx hb hts (gt_c iG_X4) hown hK hP 0 rfl rfl 7 (by decide +kernel) w_2 (fun _ h9 => h9) rfl dX4_payLeast_34 ?_
  refine lv_iload_n hx hb dX4_payLeast_37 rfl (lv_at hl 2 rfl) ?_
  refine lv_bipush (v := 8) hx hb dX4_payLeast_38 (by decide +kernel) ?_
  refine lv_imul hx hb dX4_payLeast_40 ?_
  refine nv_i (v := 0) (by decide +kernel) ?_
  refine lv_iload_n hx hb dX4_payLeast_41 rfl (lv_at hl 0 rfl) ?_
  refine lv_iadd hx hb dX4_payLeast_42 ?_
  refine nv_i (v := 5) (by decide +kernel) ?_
  refine lv_iconst (v := 1) hx hb dX4_payLeast_43 (by decide +kernel) ?_
  refine lv_isub hx hb dX4_payLeast_44 ?_
  refine nv_i (v := 4) (by decide +kernel) ?_
  refine va_iald hx hb hK hP 1 0 rfl rfl (n_in (by decide +kernel)) dX4_payLeast_45 ?_
  refine nv_i (v := (-1)) rfl ?_
  refine lv_istore_n (lv' := [(3, .int (-1)), (2, .int 5), (1, .int 0), (0, .ref a0)]) hx hb dX4_payLeast_46 rfl hl (by decide +kernel) rfl (fun ls hl => ?_)
  refine lv_iload_n hx hb dX4_payLeast_47 rfl (lv_at hl 0 rfl) ?_
  refine lv_iconst (v := (-1)) hx hb dX4_payLeast_48 (by decide +kernel) ?_
  refine lv_icmp_eq (tgt := 59) hx hb dX4_payLeast_49 (by decide +kernel) (fun _ => ?_) (fun c => absurd (by decide +kernel) c)
  refine lv_iinc (v := 6) (lv' := [(2, .int 6), (3, .int (-1)), (1, .int 0), (0, .ref a0)]) hx hb dX4_payLeast_59 hl (k := 1) rfl (by decide +kernel) (by decide +kernel) rfl (fun ls hl => ?_)
  refine lv_goto (tgt := 27) hx hb dX4_payLeast_62 (by decide +kernel) ?_
  refine lv_iload_n hx hb dX4_payLeast_27 rfl (lv_at hl 0 rfl) ?_
  refine lv_bipush (v := 8) hx hb dX4_payLeast_28 (by decide +kernel) ?_
  refine lv_icmp_gt (tgt := 65) hx hb dX4_payLeast_30 (by decide +kernel) (fun c => absurd c (by decide +kernel)) (fun _ => ?_)
  refine lv_aload_n hx hb dX4_payLeast_33 rfl (lv_at hl 3 rfl) ?_
  refine va_get (D := D) (ci := 4) (v := .ref a6) (C := RX4) (T := TX4) (N := 13) hx hb hts (gt_c iG_X4) hown hK hP 0 rfl rfl 7 (by decide +kernel) w_2 (fun _ h9 => h9) rfl dX4_payLeast_34 ?_
  refine lv_iload_n hx hb dX4_payLeast_37 rfl (lv_at hl 2 rfl) ?_
  refine lv_bipush (v := 8) hx hb dX4_payLeast_38 (by decide +kernel) ?_
  refine lv_imul hx hb dX4_payLeast_40 ?_
  refine nv_i (v := 0) (by decide +kernel) ?_
  refine lv_iload_n hx hb dX4_payLeast_41 rfl (lv_at hl 0 rfl) ?_
  refine lv_iadd hx hb dX4_payLeast_42 ?_
  refine nv_i (v := 6) (by decide +kernel) ?_
  refine lv_iconst (v := 1) hx hb dX4_payLeast_43 (by decide +kernel) ?_
  refine lv_isub hx hb dX4_payLeast_44 ?_
  refine nv_i (v := 5) (by decide +kernel) ?_
  refine va_iald hx hb hK hP 1 0 rfl rfl (n_in (by decide +kernel)) dX4_payLeast_45 ?_
  refine nv_i (v := (-1)) rfl ?_
  refine lv_istore_n (lv' := [(3, .int (-1)), (2, .int 6), (1, .int 0), (0, .ref a0)]) hx hb dX4_payLeast_46 rfl hl (by decide +kernel) rfl (fun ls hl => ?_)
  refine lv_iload_n hx hb dX4_payLeast_47 rfl (lv_at hl 0 rfl) ?_
  refine lv_iconst (v := (-1)) hx hb dX4_payLeast_48 (by decide +kernel) ?_
  refine lv_icmp_eq (tgt := 59) hx hb dX4_payLeast_49 (by decide +kernel) (fun _ => ?_) (fun c => absurd (by decide +kernel) c)
  refine lv_iinc (v := 7) (lv' := [(2, .int 7), (3, .int (-1)), (1, .int 0), (0, .ref a0)]) hx hb dX4_payLeast_59 hl (k := 1) rfl (by decide +kernel) (by decide +kernel) rfl (fun ls hl => ?_)
  refine lv_goto (tgt := 27) hx hb dX4_payLeast_62 (by decide +kernel) ?_
  refine lv_iload_n hx hb dX4_payLeast_27 rfl (lv_at hl 0 rfl) ?_
  refine lv_bipush (v := 8) hx hb dX4_payLeast_28 (by decide +kernel) ?_
  refine lv_icmp_gt (tgt := 65) hx hb dX4_payLeast_30 (by decide +kernel) (fun c => absurd c (by decide +kernel)) (fun _ => ?_)
  refine lv_aload_n hx hb dX4_payLeast_33 rfl (lv_at hl 3 rfl) ?_
  refine va_get (D := D) (ci := 4) (v := .ref a6) (C := RX4) (T := TX4) (N := 13) hx hb hts (gt_c iG_X4) hown hK hP 0 rfl rfl 7 (by decide +kernel) w_2 (fun _ h9 => h9) rfl dX4_payLeast_34 ?_
  refine lv_iload_n hx hb dX4_payLeast_37 rfl (lv_at hl 2 rfl) ?_
  refine lv_bipush (v := 8) hx hb dX4_payLeast_38 (by decide +kernel) ?_
  refine lv_imul hx hb dX4_payLeast_40 ?_
  refine nv_i (v := 0) (by decide +kernel) ?_
  refine lv_iload_n hx hb dX4_payLeast_41 rfl (lv_at hl 0 rfl) ?_
  refine lv_iadd hx hb dX4_payLeast_42 ?_
  refine nv_i (v := 7) (by decide +kernel) ?_
  refine lv_iconst (v := 1) hx hb dX4_payLeast_43 (by decide +kernel) ?_
  refine lv_isub hx hb dX4_payLeast_44 ?_
  refine nv_i (v := 6) (by decide +kernel) ?_
  refine va_iald hx hb hK hP 1 0 rfl rfl (n_in (by decide +kernel)) dX4_payLeast_45 ?_
  refine nv_i (v := (-1)) rfl ?_
  refine lv_istore_n (lv' := [(3, .int (-1)), (2, .int 7), (1, .int 0), (0, .ref a0)]) hx hb dX4_payLeast_46 rfl hl (by decide +kernel) rfl (fun ls hl => ?_)
  refine lv_iload_n hx hb dX4_payLeast_47 rfl (lv_at hl 0 rfl) ?_
  refine lv_iconst (v := (-1)) hx hb dX4_payLeast_48 (by decide +kernel) ?_
  refine lv_icmp_eq (tgt := 59) hx hb dX4_payLeast_49 (by decide +kernel) (fun _ => ?_) (fun c => absurd (by decide +kernel) c)
  refine lv_iinc (v := 8) (lv' := [(2, .int 8), (3, .int (-1)), (1, .int 0), (0, .ref a0)]) hx hb dX4_payLeast_59 hl (k := 1) rfl (by decide +kernel) (by decide +kernel) rfl (fun ls hl => ?_)
  refine lv_goto (tgt := 27) hx hb dX4_payLeast_62 (by decide +kernel) ?_
  refine lv_iload_n hx hb dX4_payLeast_27 rfl (lv_at hl 0 rfl) ?_
  refine lv_bipush (v := 8) hx hb dX4_payLeast_28 (by decide +kernel) ?_
  refine lv_icmp_gt (tgt := 65) hx hb dX4_payLeast_30 (by decide +kernel) (fun c => absurd c (by decide +kernel)) (fun _ => ?_)
  refine lv_aload_n hx hb dX4_payLeast_33 rfl (lv_at hl 3 rfl) ?_
  refine va_get (D := D) (ci := 4) (v := .ref a6) (C := RX4) (T := TX4) (N := 13) hx hb hts (gt_c iG_X4) hown hK hP 0 rfl rfl 7 (by decide +kernel) w_2 (fun _ h9 => h9) rfl dX4_payLeast_34 ?_
  refine lv_iload_n hx hb dX4_payLeast_37 rfl (lv_at hl 2 rfl) ?_
  refine lv_bipush (v := 8) hx hb dX4_payLeast_38 (by decide +kernel) ?_
  refine lv_imul hx hb dX4_payLeast_40 ?_
  refine nv_i (v := 0) (by decide +kernel) ?_
  refine lv_iload_n hx hb dX4_payLeast_41 rfl (lv_at hl 0 rfl) ?_
  refine lv_iadd hx hb dX4_payLeast_42 ?_
  refine nv_i (v := 8) (by decide +kernel) ?_
  refine lv_iconst (v := 1) hx hb dX4_payLeast_43 (by decide +kernel) ?_
  refine lv_isub hx hb dX4_payLeast_44 ?_
  refine nv_i (v := 7) (by decide +kernel) ?_
  refine va_iald hx hb hK hP 1 0 rfl rfl (n_in (by decide +kernel)) dX4_payLeast_45 ?_
  refine nv_i (v := (-1)) rfl ?_
  refine lv_istore_n (lv' := [(3, .int (-1)), (2, .int 8), (1, .int 0), (0, .ref a0)]) hx hb dX4_payLeast_46 rfl hl (by decide +kernel) rfl (fun ls hl => ?_)
  refine lv_iload_n hx hb dX4_payLeast_47 rfl (lv_at hl 0 rfl) ?_
  refine lv_iconst (v := (-1)) hx hb dX4_payLeast_48 (by decide +kernel) ?_
  refine lv_icmp_eq (tgt := 59) hx hb dX4_payLeast_49 (by decide +kernel) (fun _ => ?_) (fun c => absurd (by decide +kernel) c)
  refine lv_iinc (v := 9) (lv' := [(2, .int 9), (3, .int (-1)), (1, .int 0), (0, .ref a0)]) hx hb dX4_payLeast_59 hl (k := 1) rfl (by decide +kernel) (by decide +kernel) rfl (fun ls hl => ?_)
  refine lv_goto (tgt := 27) hx hb dX4_payLeast_62 (by decide +kernel) ?_
  refine lv_iload_n hx hb dX4_payLeast_27 rfl (lv_at hl 0 rfl) ?_
  refine lv_bipush (v := 8) hx hb dX4_payLeast_28 (by decide +kernel) ?_
  refine lv_icmp_gt (tgt := 65) hx hb dX4_payLeast_30 (by decide +kernel) (fun _ => ?_) (fun c => absurd (by decide +kernel) c)
  refine lv_iinc (v := 1) (lv' := [(1, .int 1), (2, .int 9), (3, .int (-1)), (0, .ref a0)]) hx hb dX4_payLeast_65 hl (k := 2) rfl (by decide +kernel) (by decide +kernel) rfl (fun ls hl => ?_)
  refine lv_goto (tgt := 17) hx hb dX4_payLeast_68 (by decide +kernel) ?_
  refine lv_iload_n hx hb dX4_payLeast_17 rfl (lv_at hl 0 rfl) ?_
  refine lv_aload_n hx hb dX4_payLeast_18 rfl (lv_at hl 3 rfl) ?_
  refine va_get (D := D) (ci := 4) (v := .int 1) (C := RX4) (T := TX4) (N := 13) hx hb hts (gt_c iG_X4) hown hK hP 0 rfl rfl 3 (by decide +kernel) w_1 (fun _ h9 => h9) rfl dX4_payLeast_19 ?_
  refine lv_icmp_ge (tgt := 71) hx hb dX4_payLeast_22 (by decide +kernel) (fun _ => ?_) (fun c => absurd (by decide +kernel) c)
  refine W.widen (k := 0) (n := 0) (Nat.le_of_ble_eq_true rfl) (Nat.le_of_ble_eq_true rfl) ?_
  exact W.vret hx hb hr (fun t ht hW => ⟨⟨(fun _ => 0), rfl, trivial, by rw [ht]; exact hP, va_K.moved hW.alike hK, hD⟩, hS.F ht⟩) hS.2.2 dX4_payLeast_71 hlocks
set_option maxRecDepth 100000 in
set_option maxHeartbeats 4000000 in
theorem cX4_cheapestEnd_1 (l : Launch) (D : va_G) (y : Nat → ClassId) (a0 : Nat) (a1 : Nat) (a2 : Nat) (a3 : Nat) (a4 : Nat) (a5 : Nat) (a6 : Nat) (a7 : Nat) (a8 : Nat) (a9 : Nat) (a10 : Nat) (a11 : Nat) (a12 : Nat) (a13 : Nat) (a14 : Nat) (a15 : Nat) (sz : Nat) : Met l yX4_cheapestEnd wsX4_cheapestEnd { frames := 4, cells := 0, slots := 0, locals := 246 } (nPc D y nT [.ref a0, .long 1] [(a0, .inr (4, [.ref a1, .ref a2, .ref a3, .int 1, .int 1, .ref a4, .ref a5, .ref a6, .ref a7, .ref a8, .ref a9, .ref a10, .ref a11])), (a3, .inl (y 0, 2000, .inl nz)), (a6, .inl (y 0, 16000, .inl (upd (upd (upd (upd (upd (upd (upd (upd nz 0 (-1)) 1 (-1)) 2 (-1)) 3 (-1)) 4 (-1)) 5 (-1)) 6 (-1)) 7 (-1)))), (a1, .inr (2, [.ref a12, .ref a13, .ref a14, .ref a15])), (a12, .inl (y 0, 2001, .inl (upd nz 0 1)))] sz) ((fun A => nQi D y (fun r _ => r = 0) (fun u => [(a1, .inr (2, [.ref a12, .ref a13, .ref a14, .ref a15])), (a12, .inl (y 0, 2001, .inl (upd nz 0 1))), (a0, .inr (4, [.ref a1, .ref a2, .ref a3, .int 1, .int 1, .ref a4, .ref a5, .ref a6, .ref a7, .ref a8, .ref a9, .ref a10, .ref a11])), (a6, .inl (y 0, 16000, .inl (upd (upd (upd (upd (upd (upd (upd (upd nz 0 (-1)) 1 (-1)) 2 (-1)) 3 (-1)) 4 (-1)) 5 (-1)) 6 (-1)) 7 (-1)))), (a3, .inl (y 0, 2000, .inl (upd (nfil 2000 (-1) nz) 0 0)))]) A) (va_A [(a0, .inr (4, [.ref a1, .ref a2, .ref a3, .int 1, .int 1, .ref a4, .ref a5, .ref a6, .ref a7, .ref a8, .ref a9, .ref a10, .ref a11])), (a3, .inl (y 0, 2000, .inl nz)), (a6, .inl (y 0, 16000, .inl (upd (upd (upd (upd (upd (upd (upd (upd nz 0 (-1)) 1 (-1)) 2 (-1)) 3 (-1)) 4 (-1)) 5 (-1)) 6 (-1)) 7 (-1)))), (a1, .inr (2, [.ref a12, .ref a13, .ref a14, .ref a15])), (a12, .inl (y 0, 2001, .inl (upd nz 0 1)))] sz)) 0 0 (va_A [(a0, .inr (4, [.ref a1, .ref a2, .ref a3, .int 1, .int 1, .ref a4, .ref a5, .ref a6, .ref a7, .ref a8, .ref a9, .ref a10, .ref a11])), (a3, .inl (y 0, 2000, .inl nz)), (a6, .inl (y 0, 16000, .inl (upd (upd (upd (upd (upd (upd (upd (upd nz 0 (-1)) 1 (-1)) 2 (-1)) 3 (-1)) 4 (-1)) 5 (-1)) 6 (-1)) 7 (-1)))), (a1, .inr (2, [.ref a12, .ref a13, .ref a14, .ref a15])), (a12, .inl (y 0, 2001, .inl (upd nz 0 1)))] sz) := by
  refine nm_ofW (D := D) (y := y) (E := nT) (yy := yX4_cheapestEnd) (wsy := wsX4_cheapestEnd) (rm := { frames := 4, cells := 0, slots := 0, locals := 246 }) (as := [.ref a0, .long 1]) (ws := [(a0, .inr (4, [.ref a1, .ref a2, .ref a3, .int 1, .int 1, .ref a4, .ref a5, .ref a6, .ref a7, .ref a8, .ref a9, .ref a10, .ref a11])), (a3, .inl (y 0, 2000, .inl nz)), (a6, .inl (y 0, 16000, .inl (upd (upd (upd (upd (upd (upd (upd (upd nz 0 (-1)) 1 (-1)) 2 (-1)) 3 (-1)) 4 (-1)) 5 (-1)) 6 (-1)) 7 (-1)))), (a1, .inr (2, [.ref a12, .ref a13, .ref a14, .ref a15])), (a12, .inl (y 0, 2001, .inl (upd nz 0 1)))]) (sz := sz) (mc := 0) (ms := 0) (Qc := fun A => nQi D y (fun r _ => r = 0) (fun u => [(a1, .inr (2, [.ref a12, .ref a13, .ref a14, .ref a15])), (a12, .inl (y 0, 2001, .inl (upd nz 0 1))), (a0, .inr (4, [.ref a1, .ref a2, .ref a3, .int 1, .int 1, .ref a4, .ref a5, .ref a6, .ref a7, .ref a8, .ref a9, .ref a10, .ref a11])), (a6, .inl (y 0, 16000, .inl (upd (upd (upd (upd (upd (upd (upd (upd nz 0 (-1)) 1 (-1)) 2 (-1)) 3 (-1)) 4 (-1)) 5 (-1)) 6 (-1)) 7 (-1)))), (a3, .inl (y 0, 2000, .inl (upd (nfil 2000 (-1) nz) 0 0)))]) A) (cc := cX4_cheapestEnd) (maxL := 5) (ret := (some .int)) (by decide +kernel) rfl (Nat.le_of_ble_eq_true rfl) ?_
  intro p e s m below meth c A ls H hx hb hr hml hts hown hlocks hnm hsz hP hK hD hA hS hE hAe hl
  replace hl : lv_has ls 5 [(0, .ref a0), (1, .long 1)] := hl
  have hown : s.vm.findClass RX4 = some m.cls := hown
  have w_0 := hts (.fieldLink RX4 27 "SoldToBehind$Reach" "count" "I") (gt_k wd_5_15)
  have w_1 := hts (.fieldLink RX4 16 "SoldToBehind$Reach" "store" "LSoldToBehind$Packed;") (gt_k wd_5_9)
  have w_2 := hts (.fieldLink RX4 129 "SoldToBehind$Packed" "code" "[I") (gt_k wd_2_27)
  refine lv_aload_n hx hb dX4_cheapestEnd_0 rfl (lv_at hl 0 rfl) ?_
  refine nj_v (ws := [(a0, .inr (4, [.ref a1, .ref a2, .ref a3, .int 1, .int 1, .ref a4, .ref a5, .ref a6, .ref a7, .ref a8, .ref a9, .ref a10, .ref a11])), (a3, .inl (y 0, 2000, .inl nz)), (a6, .inl (y 0, 16000, .inl (upd (upd (upd (upd (upd (upd (upd (upd nz 0 (-1)) 1 (-1)) 2 (-1)) 3 (-1)) 4 (-1)) 5 (-1)) 6 (-1)) 7 (-1)))), (a1, .inr (2, [.ref a12, .ref a13, .ref a14, .ref a15])), (a12, .inl (y 0, 2001, .inl (upd nz 0 1)))]) (wc := [(a0, .inr (4, [.ref a1, .ref a2, .ref a3, .int 1, .int 1, .ref a4, .ref a5, .ref a6, .ref a7, .ref a8, .ref a9, .ref a10, .ref a11])), (a3, .inl (y 0, 2000, .inl nz)), (a6, .inl (y 0, 16000, .inl (upd (upd (upd (upd (upd (upd (upd (upd nz 0 (-1)) 1 (-1)) 2 (-1)) 3 (-1)) 4 (-1)) 5 (-1)) 6 (-1)) 7 (-1))))]) (wr := [(a1, .inr (2, [.ref a12, .ref a13, .ref a14, .ref a15])), (a12, .inl (y 0, 2001, .inl (upd nz 0 1)))]) (nr_V (As := []) (rest := []) ⟨hx, hb, hml, hown, hts⟩ (cX4_payLeast_1 l D y a0 a1 a2 a3 a4 a5 a6 a7 a8 a9 a10 a11 H.size) (cwV 0 hts gX4_cheapestEnd_X4_payLeast rfl rfl rfl (by decide +kernel) ⟨Nat.le_of_ble_eq_true rfl, Nat.le_of_ble_eq_true rfl⟩) hK hP hD hE [0, 1, 2] rfl (by decide +kernel) 0 4 rfl rfl rfl rfl rfl hl.1 rfl (lv_room (Nat.le_of_ble_eq_true rfl)) dX4_cheapestEnd_1 ⟨Nat.le_of_ble_eq_true rfl, Nat.le_of_ble_eq_true rfl⟩) hP hD hS hA [0, 1, 2] [3, 4] rfl rfl (by decide +kernel) (by decide +kernel) (fun u1 H locs _ hP hD hS => ?_)
  refine lv_iconst (v := (-1)) hx hb dX4_cheapestEnd_4 (by decide +kernel) ?_
  refine lv_istore_n (lv' := [(3, .int (-1)), (0, .ref a0), (1, .long 1)]) hx hb dX4_cheapestEnd_5 rfl hl (by decide +kernel) rfl (fun ls hl => ?_)
  refine lv_iconst (v := 0) hx hb dX4_cheapestEnd_6 (by decide +kernel) ?_
  refine lv_istore (lv' := [(4, .int 0), (3, .int (-1)), (0, .ref a0), (1, .long 1)]) hx hb dX4_cheapestEnd_7 hl (by decide +kernel) rfl (fun ls hl => ?_)
  refine lv_iload hx hb dX4_cheapestEnd_9 (lv_at hl 0 rfl) ?_
  refine lv_aload_n hx hb dX4_cheapestEnd_11 rfl (lv_at hl 2 rfl) ?_
  refine va_get (D := D) (ci := 4) (v := .int 1) (C := RX4) (T := TX4) (N := 13) hx hb hts (gt_c iG_X4) hown hK hP 2 rfl rfl 3 (by decide +kernel) w_0 (fun _ h9 => h9) rfl dX4_cheapestEnd_12 ?_
  refine lv_icmp_ge (tgt := 58) hx hb dX4_cheapestEnd_15 (by decide +kernel) (fun c => absurd c (by decide +kernel)) (fun _ => ?_)
  refine lv_aload_n hx hb dX4_cheapestEnd_18 rfl (lv_at hl 2 rfl) ?_
  refine va_get (D := D) (ci := 4) (v := .ref a1) (C := RX4) (T := TX4) (N := 13) hx hb hts (gt_c iG_X4) hown hK hP 2 rfl rfl 0 (by decide +kernel) w_1 (fun _ h9 => h9) rfl dX4_cheapestEnd_19 ?_
  refine va_get (D := D) (ci := 2) (v := .ref a12) (C := RX2) (T := TX2) (N := 4) hx hb hts (gt_c iG_X2) hown hK hP 0 rfl rfl 0 (by decide +kernel) w_2 (fun _ h9 => h9) rfl dX4_cheapestEnd_22 ?_
  refine lv_iload hx hb dX4_cheapestEnd_25 (lv_at hl 0 rfl) ?_
  refine va_iald hx hb hK hP 1 0 rfl rfl (n_in (by decide +kernel)) dX4_cheapestEnd_27 ?_
  refine nv_i (v := 1) rfl ?_
  refine lv_i2l (v := 1) hx hb dX4_cheapestEnd_28 (by decide +kernel) ?_
  refine lv_lload_n hx hb dX4_cheapestEnd_29 rfl (lv_at hl 3 rfl) ?_
  refine W.lcmp hx hb dX4_cheapestEnd_30 ?_
  refine nv_i (v := 0) (by decide +kernel) ?_
  refine lv_if_ne (tgt := 52) hx hb dX4_cheapestEnd_31 (by decide +kernel) (fun c => absurd (by decide +kernel) c) (fun _ => ?_)
  refine lv_iload_n hx hb dX4_cheapestEnd_34 rfl (lv_at hl 1 rfl) ?_
  refine lv_iconst (v := (-1)) hx hb dX4_cheapestEnd_35 (by decide +kernel) ?_
  refine lv_icmp_eq (tgt := 49) hx hb dX4_cheapestEnd_36 (by decide +kernel) (fun _ => ?_) (fun c => absurd (by decide +kernel) c)
  refine lv_iload hx hb dX4_cheapestEnd_49 (lv_at hl 0 rfl) ?_
  refine lv_istore_n (lv' := [(3, .int 0), (4, .int 0), (0, .ref a0), (1, .long 1)]) hx hb dX4_cheapestEnd_51 rfl hl (by decide +kernel) rfl (fun ls hl => ?_)
  refine lv_iinc (v := 1) (lv' := [(4, .int 1), (3, .int 0), (0, .ref a0), (1, .long 1)]) hx hb dX4_cheapestEnd_52 hl (k := 1) rfl (by decide +kernel) (by decide +kernel) rfl (fun ls hl => ?_)
  refine lv_goto (tgt := 9) hx hb dX4_cheapestEnd_55 (by decide +kernel) ?_
  refine lv_iload hx hb dX4_cheapestEnd_9 (lv_at hl 0 rfl) ?_
  refine lv_aload_n hx hb dX4_cheapestEnd_11 rfl (lv_at hl 2 rfl) ?_
  refine va_get (D := D) (ci := 4) (v := .int 1) (C := RX4) (T := TX4) (N := 13) hx hb hts (gt_c iG_X4) hown hK hP 2 rfl rfl 3 (by decide +kernel) w_0 (fun _ h9 => h9) rfl dX4_cheapestEnd_12 ?_
  refine lv_icmp_ge (tgt := 58) hx hb dX4_cheapestEnd_15 (by decide +kernel) (fun _ => ?_) (fun c => absurd (by decide +kernel) c)
  refine lv_iload_n hx hb dX4_cheapestEnd_58 rfl (lv_at hl 1 rfl) ?_
  refine W.widen (k := 0) (n := 0) (Nat.le_of_ble_eq_true rfl) (Nat.le_of_ble_eq_true rfl) ?_
  exact W.iret (v := 0) hx hb hr (fun t ht hW => ⟨⟨0, (fun _ => 0), rfl, rfl, by rw [ht]; exact hP, va_K.moved hW.alike hK, hD⟩, hS.F ht⟩) hS.2.2 dX4_cheapestEnd_59 hlocks
set_option maxRecDepth 100000 in
set_option maxHeartbeats 4000000 in
theorem cX4_tellSales_1 (l : Launch) (D : va_G) (y : Nat → ClassId) (a0 : Nat) (a1 : Nat) (a2 : Nat) (a3 : Nat) (a4 : Nat) (a5 : Nat) (a6 : Nat) (a7 : Nat) (a8 : Nat) (a9 : Nat) (a10 : Nat) (a11 : Nat) (a12 : Nat) (a13 : Nat) (sz : Nat) : Met l yX4_tellSales wsX4_tellSales { frames := 3, cells := 0, slots := 0, locals := 220 } (nPc D y nT [.ref a0, .int 0, .ref a1] [(a0, .inr (4, [.ref a2, .ref a3, .ref a4, .int 1, .int 1, .ref a5, .ref a6, .ref a7, .ref a8, .ref a9, .ref a10, .ref a11, .ref a12])), (a1, .inr (5, [.ref a13, .int 0])), (a5, .inl (y 0, 2001, .inl nz))] sz) ((fun A => nQv D y (fun _ => True) (fun u => [(a0, .inr (4, [.ref a2, .ref a3, .ref a4, .int 1, .int 1, .ref a5, .ref a6, .ref a7, .ref a8, .ref a9, .ref a10, .ref a11, .ref a12])), (a5, .inl (y 0, 2001, .inl nz)), (a1, .inr (5, [.ref a13, .int 0]))]) A) (va_A [(a0, .inr (4, [.ref a2, .ref a3, .ref a4, .int 1, .int 1, .ref a5, .ref a6, .ref a7, .ref a8, .ref a9, .ref a10, .ref a11, .ref a12])), (a1, .inr (5, [.ref a13, .int 0])), (a5, .inl (y 0, 2001, .inl nz))] sz)) 0 0 (va_A [(a0, .inr (4, [.ref a2, .ref a3, .ref a4, .int 1, .int 1, .ref a5, .ref a6, .ref a7, .ref a8, .ref a9, .ref a10, .ref a11, .ref a12])), (a1, .inr (5, [.ref a13, .int 0])), (a5, .inl (y 0, 2001, .inl nz))] sz) := by
  refine nm_ofW (D := D) (y := y) (E := nT) (yy := yX4_tellSales) (wsy := wsX4_tellSales) (rm := { frames := 3, cells := 0, slots := 0, locals := 220 }) (as := [.ref a0, .int 0, .ref a1]) (ws := [(a0, .inr (4, [.ref a2, .ref a3, .ref a4, .int 1, .int 1, .ref a5, .ref a6, .ref a7, .ref a8, .ref a9, .ref a10, .ref a11, .ref a12])), (a1, .inr (5, [.ref a13, .int 0])), (a5, .inl (y 0, 2001, .inl nz))]) (sz := sz) (mc := 0) (ms := 0) (Qc := fun A => nQv D y (fun _ => True) (fun u => [(a0, .inr (4, [.ref a2, .ref a3, .ref a4, .int 1, .int 1, .ref a5, .ref a6, .ref a7, .ref a8, .ref a9, .ref a10, .ref a11, .ref a12])), (a5, .inl (y 0, 2001, .inl nz)), (a1, .inr (5, [.ref a13, .int 0]))]) A) (cc := cX4_tellSales) (maxL := 6) (ret := none) (by decide +kernel) rfl (Nat.le_of_ble_eq_true rfl) ?_
  intro p e s m below meth c A ls H hx hb hr hml hts hown hlocks hnm hsz hP hK hD hA hS hE hAe hl
  replace hl : lv_has ls 6 [(0, .ref a0), (1, .int 0), (2, .ref a1)] := hl
  have hown : s.vm.findClass RX4 = some m.cls := hown
  have w_0 := hts (.fieldLink RX4 35 "SoldToBehind$Reach" "depth" "[I") (gt_k wd_5_19)
  have w_1 := hts (.methodLink RX4 120 Lib.Math.min.name) (gt_k wd_5_89)
  have w_2 := hts (.static Lib.Math.min.name) (gt_k wd_2_178)
  have w_3 := hts (.initialized "java/lang/Math") (gt_k wd_1_14)
  have w_4 := hts (.code Lib.Math.min.name Lib.Math.min.code 2 (some .int)) (gt_k wd_2_179)
  have w_5 := hts (.fieldLink RX4 186 "SoldToBehind$Row" "size" "I") (gt_k wd_1_64)
  refine lv_aload_n hx hb dX4_tellSales_0 rfl (lv_at hl 2 rfl) ?_
  refine nj_v (ws := [(a0, .inr (4, [.ref a2, .ref a3, .ref a4, .int 1, .int 1, .ref a5, .ref a6, .ref a7, .ref a8, .ref a9, .ref a10, .ref a11, .ref a12])), (a1, .inr (5, [.ref a13, .int 0])), (a5, .inl (y 0, 2001, .inl nz))]) (wc := [(a1, .inr (5, [.ref a13, .int 0]))]) (wr := [(a0, .inr (4, [.ref a2, .ref a3, .ref a4, .int 1, .int 1, .ref a5, .ref a6, .ref a7, .ref a8, .ref a9, .ref a10, .ref a11, .ref a12])), (a5, .inl (y 0, 2001, .inl nz))]) (nr_V (As := []) (rest := []) ⟨hx, hb, hml, hown, hts⟩ (cX5_clear_1 l D y a1 a13 H.size) (cwV 0 hts gX4_tellSales_X5_clear rfl rfl rfl (by decide +kernel) ⟨Nat.le_of_ble_eq_true rfl, Nat.le_of_ble_eq_true rfl⟩) hK hP hD hE [1] rfl (by decide +kernel) 0 5 rfl rfl rfl rfl rfl hl.1 rfl (lv_room (Nat.le_of_ble_eq_true rfl)) dX4_tellSales_1 ⟨Nat.le_of_ble_eq_true rfl, Nat.le_of_ble_eq_true rfl⟩) hP hD hS hA [1] [0, 2] rfl rfl (by decide +kernel) (by decide +kernel) (fun u1 H locs _ hP hD hS => ?_)
  refine lv_aload_n hx hb dX4_tellSales_4 rfl (lv_at hl 0 rfl) ?_
  refine va_get (D := D) (ci := 4) (v := .ref a5) (C := RX4) (T := TX4) (N := 13) hx hb hts (gt_c iG_X4) hown hK hP 0 rfl rfl 5 (by decide +kernel) w_0 (fun _ h9 => h9) rfl dX4_tellSales_5 ?_
  refine lv_iload_n hx hb dX4_tellSales_8 rfl (lv_at hl 1 rfl) ?_
  refine va_iald hx hb hK hP 1 0 rfl rfl (n_in (by decide +kernel)) dX4_tellSales_9 ?_
  refine nv_i (v := 0) rfl ?_
  refine lv_bipush (v := 8) hx hb dX4_tellSales_10 (by decide +kernel) ?_
  refine va_mmin hx hb (by rw [hml]; exact hl.1.symm) hown w_1 w_2 w_3 w_4 (Nat.le_of_ble_eq_true rfl) (Nat.le_of_ble_eq_true rfl) (Nat.le_of_ble_eq_true rfl) (Nat.le_of_ble_eq_true rfl) dX4_tellSales_12 ?_
  refine nv_i (v := 0) (by decide +kernel) ?_
  refine lv_istore_n (lv' := [(3, .int 0), (0, .ref a0), (1, .int 0), (2, .ref a1)]) hx hb dX4_tellSales_15 rfl hl (by decide +kernel) rfl (fun ls hl => ?_)
  refine lv_aload_n hx hb dX4_tellSales_16 rfl (lv_at hl 3 rfl) ?_
  refine lv_iload_n hx hb dX4_tellSales_17 rfl (lv_at hl 0 rfl) ?_
  refine nb_put (D := D) (ci := 5) (v := .int 0) (ty := .int) (C := RX5) (T := TX5) (N := 2) (ws' := [(a0, .inr (4, [.ref a2, .ref a3, .ref a4, .int 1, .int 1, .ref a5, .ref a6, .ref a7, .ref a8, .ref a9, .ref a10, .ref a11, .ref a12])), (a5, .inl (y 0, 2001, .inl nz)), (a1, .inr (5, [.ref a13, .int 0]))]) hx hb hts (gt_c iG_X5) tyX5 tyX5_ok nmX5 hown hK hP hD hS 2 rfl rfl 1 (by decide +kernel) w_5 (fun _ h9 => h9) rfl (by decide +kernel) rfl rfl (Nat.le_of_ble_eq_true rfl) rfl dX4_tellSales_18 (fun H locs hP hD hS => ?_)
  refine lv_iload_n hx hb dX4_tellSales_21 rfl (lv_at hl 2 rfl) ?_
  refine lv_istore (lv' := [(4, .int 0), (3, .int 0), (0, .ref a0), (1, .int 0), (2, .ref a1)]) hx hb dX4_tellSales_22 hl (by decide +kernel) rfl (fun ls hl => ?_)
  refine lv_aload_n hx hb dX4_tellSales_24 rfl (lv_at hl 2 rfl) ?_
  refine va_get (D := D) (ci := 4) (v := .ref a5) (C := RX4) (T := TX4) (N := 13) hx hb hts (gt_c iG_X4) hown hK hP 0 rfl rfl 5 (by decide +kernel) w_0 (fun _ h9 => h9) rfl dX4_tellSales_25 ?_
  refine lv_iload_n hx hb dX4_tellSales_28 rfl (lv_at hl 3 rfl) ?_
  refine va_iald hx hb hK hP 1 0 rfl rfl (n_in (by decide +kernel)) dX4_tellSales_29 ?_
  refine nv_i (v := 0) rfl ?_
  refine lv_istore (lv' := [(5, .int 0), (4, .int 0), (3, .int 0), (0, .ref a0), (1, .int 0), (2, .ref a1)]) hx hb dX4_tellSales_30 hl (by decide +kernel) rfl (fun ls hl => ?_)
  refine lv_iload hx hb dX4_tellSales_32 (lv_at hl 0 rfl) ?_
  refine lv_if_le (tgt := 75) hx hb dX4_tellSales_34 (by decide +kernel) (fun _ => ?_) (fun c => absurd (by decide +kernel) c)
  refine W.widen (k := 0) (n := 0) (Nat.le_of_ble_eq_true rfl) (Nat.le_of_ble_eq_true rfl) ?_
  exact W.vret hx hb hr (fun t ht hW => ⟨⟨(fun _ => 0), rfl, trivial, by rw [ht]; exact hP, va_K.moved hW.alike hK, hD⟩, hS.F ht⟩) hS.2.2 dX4_tellSales_75 hlocks
set_option maxRecDepth 100000 in
set_option maxHeartbeats 4000000 in
theorem cX12_isLine_1 (l : Launch) (D : va_G) (y : Nat → ClassId) (a0 : Nat) (n0 : Int64) (hn0l : 2 ≤ n0) (a1 : Nat) (a2 : Nat) (a3 : Nat) (a4 : Nat) (a5 : Nat) (a6 : Nat) (a7 : Nat) (a8 : Nat) (a9 : Nat) (a10 : Nat) (a11 : Nat) (a12 : Nat) (a13 : Nat) (a14 : Nat) (a15 : Nat) (a16 : Nat) (a17 : Nat) (a18 : Nat) (a19 : Nat) (a20 : Nat) (a21 : Nat) (a22 : Nat) (a23 : Nat) (a24 : Nat) (a25 : Nat) (a26 : Nat) (a27 : Nat) (a28 : Nat) (a29 : Nat) (a30 : Nat) (a31 : Nat) (a32 : Nat) (a33 : Nat) (a34 : Nat) (a35 : Nat) (sz : Nat) : Met l yX12_isLine wsX12_isLine { frames := 5, cells := 0, slots := 0, locals := 267 } (nPc D y nT [.ref a0, .long n0] [(a0, .inr (12, (.int 0 :: .ref a1 :: .ref a2 :: .ref a3 :: .ref a4 :: .ref a5 :: .ref a6 :: .ref a7 :: .int 0 :: .ref a8 :: .int 0 :: .ref a9 :: .ref a10 :: .int 1 :: .ref a11 :: .int 0 :: .ref a12 :: .int 0 :: .int 0 :: .null :: .int 0 :: .int 0 :: .int 0 :: .int 0 :: .ref a13 :: .ref a14 :: .ref a15 :: .int (-1) :: .int 0 :: .int 0 :: .int 0 :: .int 0 :: .int 0 :: .int 0 :: .int 0 :: .ref a16 :: .int 0 :: .ref a17 :: .int 0 :: .ref a18 :: .ref a19 :: .int 0 :: .int 0 :: .int 0 :: .int 0 :: .ref a20 :: .ref a21 :: .ref a22 :: .ref a23 :: .ref a24 :: .ref a25 :: .ref a26 :: .ref a27 :: .ref a28 :: .int 0 :: .ref a29 :: .ref a30 :: .ref a31 :: .long 0 :: .int 0 :: .int 0 :: .int 0 :: .long 0 :: .int 0 :: .ref a32 :: .int 0 :: .int 0 :: .int 0 :: .int 0 :: .ref a33 :: .ref a34 :: .ref a35 :: [])))] sz) ((fun A => nQi D y (fun r _ => r = 0) (fun u => [(a0, .inr (12, (.int 0 :: .ref a1 :: .ref a2 :: .ref a3 :: .ref a4 :: .ref a5 :: .ref a6 :: .ref a7 :: .int 0 :: .ref a8 :: .int 0 :: .ref a9 :: .ref a10 :: .int 1 :: .ref a11 :: .int 0 :: .ref a12 :: .int 0 :: .int 0 :: .null :: .int 0 :: .int 0 :: .int 0 :: .int 0 :: .ref a13 :: .ref a14 :: .ref a15 :: .int (-1) :: .int 0 :: .int 0 :: .int 0 :: .int 0 :: .int 0 :: .int 0 :: .int 0 :: .ref a16 :: .int 0 :: .ref a17 :: .int 0 :: .ref a18 :: .ref a19 :: .int 0 :: .int 0 :: .int 0 :: .int 0 :: .ref a20 :: .ref a21 :: .ref a22 :: .ref a23 :: .ref a24 :: .ref a25 :: .ref a26 :: .ref a27 :: .ref a28 :: .int 0 :: .ref a29 :: .ref a30 :: .ref a31 :: .long 0 :: .int 0 :: .int 0 :: .int 0 :: .long 0 :: .int 0 :: .ref a32 :: .int 0 :: .int 0 :: .int 0 :: .int 0 :: .ref a33 :: .ref a34 :: .ref a35 :: [])))]) A) (va_A [(a0, .inr (12, (.int 0 :: .ref a1 :: .ref a2 :: .ref a3 :: .ref a4 :: .ref a5 :: .ref a6 :: .ref a7 :: .int 0 :: .ref a8 :: .int 0 :: .ref a9 :: .ref a10 :: .int 1 :: .ref a11 :: .int 0 :: .ref a12 :: .int 0 :: .int 0 :: .null :: .int 0 :: .int 0 :: .int 0 :: .int 0 :: .ref a13 :: .ref a14 :: .ref a15 :: .int (-1) :: .int 0 :: .int 0 :: .int 0 :: .int 0 :: .int 0 :: .int 0 :: .int 0 :: .ref a16 :: .int 0 :: .ref a17 :: .int 0 :: .ref a18 :: .ref a19 :: .int 0 :: .int 0 :: .int 0 :: .int 0 :: .ref a20 :: .ref a21 :: .ref a22 :: .ref a23 :: .ref a24 :: .ref a25 :: .ref a26 :: .ref a27 :: .ref a28 :: .int 0 :: .ref a29 :: .ref a30 :: .ref a31 :: .long 0 :: .int 0 :: .int 0 :: .int 0 :: .long 0 :: .int 0 :: .ref a32 :: .int 0 :: .int 0 :: .int 0 :: .int 0 :: .ref a33 :: .ref a34 :: .ref a35 :: [])))] sz)) 0 0 (va_A [(a0, .inr (12, (.int 0 :: .ref a1 :: .ref a2 :: .ref a3 :: .ref a4 :: .ref a5 :: .ref a6 :: .ref a7 :: .int 0 :: .ref a8 :: .int 0 :: .ref a9 :: .ref a10 :: .int 1 :: .ref a11 :: .int 0 :: .ref a12 :: .int 0 :: .int 0 :: .null :: .int 0 :: .int 0 :: .int 0 :: .int 0 :: .ref a13 :: .ref a14 :: .ref a15 :: .int (-1) :: .int 0 :: .int 0 :: .int 0 :: .int 0 :: .int 0 :: .int 0 :: .int 0 :: .ref a16 :: .int 0 :: .ref a17 :: .int 0 :: .ref a18 :: .ref a19 :: .int 0 :: .int 0 :: .int 0 :: .int 0 :: .ref a20 :: .ref a21 :: .ref a22 :: .ref a23 :: .ref a24 :: .ref a25 :: .ref a26 :: .ref a27 :: .ref a28 :: .int 0 :: .ref a29 :: .ref a30 :: .ref a31 :: .long 0 :: .int 0 :: .int 0 :: .int 0 :: .long 0 :: .int 0 :: .ref a32 :: .int 0 :: .int 0 :: .int 0 :: .int 0 :: .ref a33 :: .ref a34 :: .ref a35 :: [])))] sz) := by
  refine nm_ofW (D := D) (y := y) (E := nT) (yy := yX12_isLine) (wsy := wsX12_isLine) (rm := { frames := 5, cells := 0, slots := 0, locals := 267 }) (as := [.ref a0, .long n0]) (ws := [(a0, .inr (12, (.int 0 :: .ref a1 :: .ref a2 :: .ref a3 :: .ref a4 :: .ref a5 :: .ref a6 :: .ref a7 :: .int 0 :: .ref a8 :: .int 0 :: .ref a9 :: .ref a10 :: .int 1 :: .ref a11 :: .int 0 :: .ref a12 :: .int 0 :: .int 0 :: .null :: .int 0 :: .int 0 :: .int 0 :: .int 0 :: .ref a13 :: .ref a14 :: .ref a15 :: .int (-1) :: .int 0 :: .int 0 :: .int 0 :: .int 0 :: .int 0 :: .int 0 :: .int 0 :: .ref a16 :: .int 0 :: .ref a17 :: .int 0 :: .ref a18 :: .ref a19 :: .int 0 :: .int 0 :: .int 0 :: .int 0 :: .ref a20 :: .ref a21 :: .ref a22 :: .ref a23 :: .ref a24 :: .ref a25 :: .ref a26 :: .ref a27 :: .ref a28 :: .int 0 :: .ref a29 :: .ref a30 :: .ref a31 :: .long 0 :: .int 0 :: .int 0 :: .int 0 :: .long 0 :: .int 0 :: .ref a32 :: .int 0 :: .int 0 :: .int 0 :: .int 0 :: .ref a33 :: .ref a34 :: .ref a35 :: [])))]) (sz := sz) (mc := 0) (ms := 0) (Qc := fun A => nQi D y (fun r _ => r = 0) (fun u => [(a0, .inr (12, (.int 0 :: .ref a1 :: .ref a2 :: .ref a3 :: .ref a4 :: .ref a5 :: .ref a6 :: .ref a7 :: .int 0 :: .ref a8 :: .int 0 :: .ref a9 :: .ref a10 :: .int 1 :: .ref a11 :: .int 0 :: .ref a12 :: .int 0 :: .int 0 :: .null :: .int 0 :: .int 0 :: .int 0 :: .int 0 :: .ref a13 :: .ref a14 :: .ref a15 :: .int (-1) :: .int 0 :: .int 0 :: .int 0 :: .int 0 :: .int 0 :: .int 0 :: .int 0 :: .ref a16 :: .int 0 :: .ref a17 :: .int 0 :: .ref a18 :: .ref a19 :: .int 0 :: .int 0 :: .int 0 :: .int 0 :: .ref a20 :: .ref a21 :: .ref a22 :: .ref a23 :: .ref a24 :: .ref a25 :: .ref a26 :: .ref a27 :: .ref a28 :: .int 0 :: .ref a29 :: .ref a30 :: .ref a31 :: .long 0 :: .int 0 :: .int 0 :: .int 0 :: .long 0 :: .int 0 :: .ref a32 :: .int 0 :: .int 0 :: .int 0 :: .int 0 :: .ref a33 :: .ref a34 :: .ref a35 :: [])))]) A) (cc := cX12_isLine) (maxL := 8) (ret := (some .boolean)) (by decide +kernel) rfl (Nat.le_of_ble_eq_true rfl) ?_
  intro p e s m below meth c A ls H hx hb hr hml hts hown hlocks hnm hsz hP hK hD hA hS hE hAe hl
  replace hl : lv_has ls 8 [(0, .ref a0), (1, .long n0)] := hl
  have hown : s.vm.findClass RX12 = some m.cls := hown
  have w_0 := hts (.constantLong RX12 310 10) (gt_k wd_8_118)
  refine lv_iconst (v := 0) hx hb dX12_isLine_0 (by decide +kernel) ?_
  refine lv_istore_n (lv' := [(3, .int 0), (0, .ref a0), (1, .long n0)]) hx hb dX12_isLine_1 rfl hl (by decide +kernel) rfl (fun ls hl => ?_)
  refine lv_lload_n hx hb dX12_isLine_2 rfl (lv_at hl 2 rfl) ?_
  refine lv_lstore (lv' := [(4, .long n0), (3, .int 0), (0, .ref a0), (1, .long n0)]) hx hb dX12_isLine_3 hl (by decide +kernel) rfl (fun ls hl => ?_)
  refine lv_iconst (v := 0) hx hb dX12_isLine_5 (by decide +kernel) ?_
  refine lv_istore (lv' := [(6, .int 0), (4, .long n0), (3, .int 0), (0, .ref a0), (1, .long n0)]) hx hb dX12_isLine_6 hl (by decide +kernel) rfl (fun ls hl => ?_)
  refine lv_lload hx hb dX12_isLine_8 (lv_at hl 1 rfl) ?_
  refine lv_lconst (v := 1) hx hb dX12_isLine_10 (by decide +kernel) ?_
  refine W.lcmp hx hb dX12_isLine_11 ?_
  refine lv_if_le (tgt := 72) hx hb dX12_isLine_12 (by decide +kernel) (fun c => absurd c (fun h => (q_nleL hn0l (by decide +kernel)) ((lg_cmp_le _ _).mp h))) (fun _ => ?_)
  refine lv_iload hx hb dX12_isLine_15 (lv_at hl 0 rfl) ?_
  refine lv_bipush (v := 9) hx hb dX12_isLine_17 (by decide +kernel) ?_
  refine lv_icmp_gt (tgt := 72) hx hb dX12_isLine_19 (by decide +kernel) (fun c => absurd c (by decide +kernel)) (fun _ => ?_)
  refine lv_lload hx hb dX12_isLine_22 (lv_at hl 1 rfl) ?_
  refine lv_ldc2 (v := 10) hx hb hown w_0 dX12_isLine_24 ?_
  refine lv_lrem hx hb dX12_isLine_27 (by decide +kernel) ?_
  refine lv_topl (fun x1 ex1 => ?_)
  refine lv_l2i hx hb dX12_isLine_28 rfl ?_
  refine lv_topi (fun x2 ex2 => ?_)
  rcases n_cut x2 (-1) 0 (by decide +kernel) with h3 | h3
  · have h3x := h3
    refine lv_istore (lv' := [(7, .int x2), (6, .int 0), (4, .long n0), (3, .int 0), (0, .ref a0), (1, .long n0)]) hx hb dX12_isLine_29 hl (by decide +kernel) rfl (fun ls hl => ?_)
    refine lv_aload_n hx hb dX12_isLine_31 rfl (lv_at hl 4 rfl) ?_
    refine lv_iload hx hb dX12_isLine_32 (lv_at hl 0 rfl) ?_
    refine nj_i (ws := [(a0, .inr (12, (.int 0 :: .ref a1 :: .ref a2 :: .ref a3 :: .ref a4 :: .ref a5 :: .ref a6 :: .ref a7 :: .int 0 :: .ref a8 :: .int 0 :: .ref a9 :: .ref a10 :: .int 1 :: .ref a11 :: .int 0 :: .ref a12 :: .int 0 :: .int 0 :: .null :: .int 0 :: .int 0 :: .int 0 :: .int 0 :: .ref a13 :: .ref a14 :: .ref a15 :: .int (-1) :: .int 0 :: .int 0 :: .int 0 :: .int 0 :: .int 0 :: .int 0 :: .int 0 :: .ref a16 :: .int 0 :: .ref a17 :: .int 0 :: .ref a18 :: .ref a19 :: .int 0 :: .int 0 :: .int 0 :: .int 0 :: .ref a20 :: .ref a21 :: .ref a22 :: .ref a23 :: .ref a24 :: .ref a25 :: .ref a26 :: .ref a27 :: .ref a28 :: .int 0 :: .ref a29 :: .ref a30 :: .ref a31 :: .long 0 :: .int 0 :: .int 0 :: .int 0 :: .long 0 :: .int 0 :: .ref a32 :: .int 0 :: .int 0 :: .int 0 :: .int 0 :: .ref a33 :: .ref a34 :: .ref a35 :: [])))]) (wc := [(a0, .inr (12, (.int 0 :: .ref a1 :: .ref a2 :: .ref a3 :: .ref a4 :: .ref a5 :: .ref a6 :: .ref a7 :: .int 0 :: .ref a8 :: .int 0 :: .ref a9 :: .ref a10 :: .int 1 :: .ref a11 :: .int 0 :: .ref a12 :: .int 0 :: .int 0 :: .null :: .int 0 :: .int 0 :: .int 0 :: .int 0 :: .ref a13 :: .ref a14 :: .ref a15 :: .int (-1) :: .int 0 :: .int 0 :: .int 0 :: .int 0 :: .int 0 :: .int 0 :: .int 0 :: .ref a16 :: .int 0 :: .ref a17 :: .int 0 :: .ref a18 :: .ref a19 :: .int 0 :: .int 0 :: .int 0 :: .int 0 :: .ref a20 :: .ref a21 :: .ref a22 :: .ref a23 :: .ref a24 :: .ref a25 :: .ref a26 :: .ref a27 :: .ref a28 :: .int 0 :: .ref a29 :: .ref a30 :: .ref a31 :: .long 0 :: .int 0 :: .int 0 :: .int 0 :: .long 0 :: .int 0 :: .ref a32 :: .int 0 :: .int 0 :: .int 0 :: .int 0 :: .ref a33 :: .ref a34 :: .ref a35 :: [])))]) (wr := []) (nr_V (As := [.int x2]) (rest := []) ⟨hx, hb, hml, hown, hts⟩ (cX12_isInLine_1 l D y a0 x2 h3 a1 a2 a3 a4 a5 a6 a7 a8 a9 a10 a11 a12 a13 a14 a15 a16 a17 a18 a19 a20 a21 a22 a23 a24 a25 a26 a27 a28 a29 a30 a31 a32 a33 a34 a35 H.size) (cwV 1 hts gX12_isLine_X12_isInLine rfl rfl rfl (by decide +kernel) ⟨Nat.le_of_ble_eq_true rfl, Nat.le_of_ble_eq_true rfl⟩) hK hP hD hE [0] rfl (by decide +kernel) 0 12 rfl rfl rfl rfl rfl hl.1 rfl (lv_room (Nat.le_of_ble_eq_true rfl)) dX12_isLine_34 ⟨Nat.le_of_ble_eq_true rfl, Nat.le_of_ble_eq_true rfl⟩) hP hD hS hA [0] [] rfl rfl (by decide +kernel) (by decide +kernel) (fun r5 u4 H locs er5 hP hD hS => ?_)
    subst er5
    refine lv_if_eq (tgt := 49) hx hb dX12_isLine_37 (by decide +kernel) (fun _ => ?_) (fun c => absurd (by decide +kernel) c)
    refine lv_iconst (v := 0) hx hb dX12_isLine_49 (by decide +kernel) ?_
    refine W.widen (k := 0) (n := 0) (Nat.le_of_ble_eq_true rfl) (Nat.le_of_ble_eq_true rfl) ?_
    exact W.zret (v := 0) hx hb hr (by decide +kernel) (fun t ht hW => ⟨⟨0, (fun _ => 0), rfl, rfl, by rw [ht]; exact hP, va_K.moved hW.alike hK, hD⟩, hS.F ht⟩) hS.2.2 dX12_isLine_50 hlocks
  · have h3x := h3
    refine lv_istore (lv' := [(7, .int x2), (6, .int 0), (4, .long n0), (3, .int 0), (0, .ref a0), (1, .long n0)]) hx hb dX12_isLine_29 hl (by decide +kernel) rfl (fun ls hl => ?_)
    refine lv_aload_n hx hb dX12_isLine_31 rfl (lv_at hl 4 rfl) ?_
    refine lv_iload hx hb dX12_isLine_32 (lv_at hl 0 rfl) ?_
    refine nj_i (ws := [(a0, .inr (12, (.int 0 :: .ref a1 :: .ref a2 :: .ref a3 :: .ref a4 :: .ref a5 :: .ref a6 :: .ref a7 :: .int 0 :: .ref a8 :: .int 0 :: .ref a9 :: .ref a10 :: .int 1 :: .ref a11 :: .int 0 :: .ref a12 :: .int 0 :: .int 0 :: .null :: .int 0 :: .int 0 :: .int 0 :: .int 0 :: .ref a13 :: .ref a14 :: .ref a15 :: .int (-1) :: .int 0 :: .int 0 :: .int 0 :: .int 0 :: .int 0 :: .int 0 :: .int 0 :: .ref a16 :: .int 0 :: .ref a17 :: .int 0 :: .ref a18 :: .ref a19 :: .int 0 :: .int 0 :: .int 0 :: .int 0 :: .ref a20 :: .ref a21 :: .ref a22 :: .ref a23 :: .ref a24 :: .ref a25 :: .ref a26 :: .ref a27 :: .ref a28 :: .int 0 :: .ref a29 :: .ref a30 :: .ref a31 :: .long 0 :: .int 0 :: .int 0 :: .int 0 :: .long 0 :: .int 0 :: .ref a32 :: .int 0 :: .int 0 :: .int 0 :: .int 0 :: .ref a33 :: .ref a34 :: .ref a35 :: [])))]) (wc := [(a0, .inr (12, (.int 0 :: .ref a1 :: .ref a2 :: .ref a3 :: .ref a4 :: .ref a5 :: .ref a6 :: .ref a7 :: .int 0 :: .ref a8 :: .int 0 :: .ref a9 :: .ref a10 :: .int 1 :: .ref a11 :: .int 0 :: .ref a12 :: .int 0 :: .int 0 :: .null :: .int 0 :: .int 0 :: .int 0 :: .int 0 :: .ref a13 :: .ref a14 :: .ref a15 :: .int (-1) :: .int 0 :: .int 0 :: .int 0 :: .int 0 :: .int 0 :: .int 0 :: .int 0 :: .ref a16 :: .int 0 :: .ref a17 :: .int 0 :: .ref a18 :: .ref a19 :: .int 0 :: .int 0 :: .int 0 :: .int 0 :: .ref a20 :: .ref a21 :: .ref a22 :: .ref a23 :: .ref a24 :: .ref a25 :: .ref a26 :: .ref a27 :: .ref a28 :: .int 0 :: .ref a29 :: .ref a30 :: .ref a31 :: .long 0 :: .int 0 :: .int 0 :: .int 0 :: .long 0 :: .int 0 :: .ref a32 :: .int 0 :: .int 0 :: .int 0 :: .int 0 :: .ref a33 :: .ref a34 :: .ref a35 :: [])))]) (wr := []) (nr_V (As := [.int x2]) (rest := []) ⟨hx, hb, hml, hown, hts⟩ (cX12_isInLine_2 l D y a0 x2 h3 a1 a2 a3 a4 a5 a6 a7 a8 a9 a10 a11 a12 a13 a14 a15 a16 a17 a18 a19 a20 a21 a22 a23 a24 a25 a26 a27 a28 a29 a30 a31 a32 a33 a34 a35 H.size) (cwV 1 hts gX12_isLine_X12_isInLine rfl rfl rfl (by decide +kernel) ⟨Nat.le_of_ble_eq_true rfl, Nat.le_of_ble_eq_true rfl⟩) hK hP hD hE [0] rfl (by decide +kernel) 0 12 rfl rfl rfl rfl rfl hl.1 rfl (lv_room (Nat.le_of_ble_eq_true rfl)) dX12_isLine_34 ⟨Nat.le_of_ble_eq_true rfl, Nat.le_of_ble_eq_true rfl⟩) hP hD hS hA [0] [] rfl rfl (by decide +kernel) (by decide +kernel) (fun r7 u6 H locs er7 hP hD hS => ?_)
    subst er7
    refine lv_if_eq (tgt := 49) hx hb dX12_isLine_37 (by decide +kernel) (fun _ => ?_) (fun c => absurd (by decide +kernel) c)
    refine lv_iconst (v := 0) hx hb dX12_isLine_49 (by decide +kernel) ?_
    refine W.widen (k := 0) (n := 0) (Nat.le_of_ble_eq_true rfl) (Nat.le_of_ble_eq_true rfl) ?_
    exact W.zret (v := 0) hx hb hr (by decide +kernel) (fun t ht hW => ⟨⟨0, (fun _ => 0), rfl, rfl, by rw [ht]; exact hP, va_K.moved hW.alike hK, hD⟩, hS.F ht⟩) hS.2.2 dX12_isLine_50 hlocks
set_option maxRecDepth 100000 in
set_option maxHeartbeats 4000000 in
theorem cX12_cheapest_1 (l : Launch) (D : va_G) (y : Nat → ClassId) (a0 : Nat) (n0 : Int64) (hn0l : 2 ≤ n0) (a1 : Nat) (a2 : Nat) (a3 : Nat) (a4 : Nat) (a5 : Nat) (a6 : Nat) (a7 : Nat) (a8 : Nat) (a9 : Nat) (a10 : Nat) (a11 : Nat) (a12 : Nat) (a13 : Nat) (a14 : Nat) (a15 : Nat) (a16 : Nat) (a17 : Nat) (a18 : Nat) (a19 : Nat) (a20 : Nat) (a21 : Nat) (a22 : Nat) (a23 : Nat) (a24 : Nat) (a25 : Nat) (a26 : Nat) (a27 : Nat) (a28 : Nat) (a29 : Nat) (a30 : Nat) (a31 : Nat) (a32 : Nat) (a33 : Nat) (a34 : Nat) (a35 : Nat) (sz : Nat) : Met l yX12_cheapest wsX12_cheapest { frames := 6, cells := 0, slots := 0, locals := 294 } (nPc D y nT [.ref a0, .long n0] [(a0, .inr (12, (.int 0 :: .ref a1 :: .ref a2 :: .ref a3 :: .ref a4 :: .ref a5 :: .ref a6 :: .ref a7 :: .int 0 :: .ref a8 :: .int 0 :: .ref a9 :: .ref a10 :: .int 1 :: .ref a11 :: .int 0 :: .ref a12 :: .int 0 :: .int 0 :: .null :: .int 0 :: .int 0 :: .int 0 :: .int 0 :: .ref a13 :: .ref a14 :: .ref a15 :: .int (-1) :: .int 0 :: .int 0 :: .int 0 :: .int 0 :: .int 0 :: .int 0 :: .int 0 :: .ref a16 :: .int 0 :: .ref a17 :: .int 0 :: .ref a18 :: .ref a19 :: .int 0 :: .int 0 :: .int 0 :: .int 0 :: .ref a20 :: .ref a21 :: .ref a22 :: .ref a23 :: .ref a24 :: .ref a25 :: .ref a26 :: .ref a27 :: .ref a28 :: .int 0 :: .ref a29 :: .ref a30 :: .ref a31 :: .long 0 :: .int 0 :: .int 0 :: .int 0 :: .long 0 :: .int 0 :: .ref a32 :: .int 0 :: .int 0 :: .int 0 :: .int 0 :: .ref a33 :: .ref a34 :: .ref a35 :: [])))] sz) ((fun A => nQi D y (fun r _ => r = (-1)) (fun u => [(a0, .inr (12, (.int 0 :: .ref a1 :: .ref a2 :: .ref a3 :: .ref a4 :: .ref a5 :: .ref a6 :: .ref a7 :: .int 0 :: .ref a8 :: .int 0 :: .ref a9 :: .ref a10 :: .int 1 :: .ref a11 :: .int 0 :: .ref a12 :: .int 0 :: .int 0 :: .null :: .int 0 :: .int 0 :: .int 0 :: .int 0 :: .ref a13 :: .ref a14 :: .ref a15 :: .int (-1) :: .int 0 :: .int 0 :: .int 0 :: .int 0 :: .int 0 :: .int 0 :: .int 0 :: .ref a16 :: .int 0 :: .ref a17 :: .int 0 :: .ref a18 :: .ref a19 :: .int 0 :: .int 0 :: .int 0 :: .int 0 :: .ref a20 :: .ref a21 :: .ref a22 :: .ref a23 :: .ref a24 :: .ref a25 :: .ref a26 :: .ref a27 :: .ref a28 :: .int 0 :: .ref a29 :: .ref a30 :: .ref a31 :: .long 0 :: .int 0 :: .int 0 :: .int 0 :: .long 0 :: .int 0 :: .ref a32 :: .int 0 :: .int 0 :: .int 0 :: .int 0 :: .ref a33 :: .ref a34 :: .ref a35 :: [])))]) A) (va_A [(a0, .inr (12, (.int 0 :: .ref a1 :: .ref a2 :: .ref a3 :: .ref a4 :: .ref a5 :: .ref a6 :: .ref a7 :: .int 0 :: .ref a8 :: .int 0 :: .ref a9 :: .ref a10 :: .int 1 :: .ref a11 :: .int 0 :: .ref a12 :: .int 0 :: .int 0 :: .null :: .int 0 :: .int 0 :: .int 0 :: .int 0 :: .ref a13 :: .ref a14 :: .ref a15 :: .int (-1) :: .int 0 :: .int 0 :: .int 0 :: .int 0 :: .int 0 :: .int 0 :: .int 0 :: .ref a16 :: .int 0 :: .ref a17 :: .int 0 :: .ref a18 :: .ref a19 :: .int 0 :: .int 0 :: .int 0 :: .int 0 :: .ref a20 :: .ref a21 :: .ref a22 :: .ref a23 :: .ref a24 :: .ref a25 :: .ref a26 :: .ref a27 :: .ref a28 :: .int 0 :: .ref a29 :: .ref a30 :: .ref a31 :: .long 0 :: .int 0 :: .int 0 :: .int 0 :: .long 0 :: .int 0 :: .ref a32 :: .int 0 :: .int 0 :: .int 0 :: .int 0 :: .ref a33 :: .ref a34 :: .ref a35 :: [])))] sz)) 0 0 (va_A [(a0, .inr (12, (.int 0 :: .ref a1 :: .ref a2 :: .ref a3 :: .ref a4 :: .ref a5 :: .ref a6 :: .ref a7 :: .int 0 :: .ref a8 :: .int 0 :: .ref a9 :: .ref a10 :: .int 1 :: .ref a11 :: .int 0 :: .ref a12 :: .int 0 :: .int 0 :: .null :: .int 0 :: .int 0 :: .int 0 :: .int 0 :: .ref a13 :: .ref a14 :: .ref a15 :: .int (-1) :: .int 0 :: .int 0 :: .int 0 :: .int 0 :: .int 0 :: .int 0 :: .int 0 :: .ref a16 :: .int 0 :: .ref a17 :: .int 0 :: .ref a18 :: .ref a19 :: .int 0 :: .int 0 :: .int 0 :: .int 0 :: .ref a20 :: .ref a21 :: .ref a22 :: .ref a23 :: .ref a24 :: .ref a25 :: .ref a26 :: .ref a27 :: .ref a28 :: .int 0 :: .ref a29 :: .ref a30 :: .ref a31 :: .long 0 :: .int 0 :: .int 0 :: .int 0 :: .long 0 :: .int 0 :: .ref a32 :: .int 0 :: .int 0 :: .int 0 :: .int 0 :: .ref a33 :: .ref a34 :: .ref a35 :: [])))] sz) := by
  refine nm_ofW (D := D) (y := y) (E := nT) (yy := yX12_cheapest) (wsy := wsX12_cheapest) (rm := { frames := 6, cells := 0, slots := 0, locals := 294 }) (as := [.ref a0, .long n0]) (ws := [(a0, .inr (12, (.int 0 :: .ref a1 :: .ref a2 :: .ref a3 :: .ref a4 :: .ref a5 :: .ref a6 :: .ref a7 :: .int 0 :: .ref a8 :: .int 0 :: .ref a9 :: .ref a10 :: .int 1 :: .ref a11 :: .int 0 :: .ref a12 :: .int 0 :: .int 0 :: .null :: .int 0 :: .int 0 :: .int 0 :: .int 0 :: .ref a13 :: .ref a14 :: .ref a15 :: .int (-1) :: .int 0 :: .int 0 :: .int 0 :: .int 0 :: .int 0 :: .int 0 :: .int 0 :: .ref a16 :: .int 0 :: .ref a17 :: .int 0 :: .ref a18 :: .ref a19 :: .int 0 :: .int 0 :: .int 0 :: .int 0 :: .ref a20 :: .ref a21 :: .ref a22 :: .ref a23 :: .ref a24 :: .ref a25 :: .ref a26 :: .ref a27 :: .ref a28 :: .int 0 :: .ref a29 :: .ref a30 :: .ref a31 :: .long 0 :: .int 0 :: .int 0 :: .int 0 :: .long 0 :: .int 0 :: .ref a32 :: .int 0 :: .int 0 :: .int 0 :: .int 0 :: .ref a33 :: .ref a34 :: .ref a35 :: [])))]) (sz := sz) (mc := 0) (ms := 0) (Qc := fun A => nQi D y (fun r _ => r = (-1)) (fun u => [(a0, .inr (12, (.int 0 :: .ref a1 :: .ref a2 :: .ref a3 :: .ref a4 :: .ref a5 :: .ref a6 :: .ref a7 :: .int 0 :: .ref a8 :: .int 0 :: .ref a9 :: .ref a10 :: .int 1 :: .ref a11 :: .int 0 :: .ref a12 :: .int 0 :: .int 0 :: .null :: .int 0 :: .int 0 :: .int 0 :: .int 0 :: .ref a13 :: .ref a14 :: .ref a15 :: .int (-1) :: .int 0 :: .int 0 :: .int 0 :: .int 0 :: .int 0 :: .int 0 :: .int 0 :: .ref a16 :: .int 0 :: .ref a17 :: .int 0 :: .ref a18 :: .ref a19 :: .int 0 :: .int 0 :: .int 0 :: .int 0 :: .ref a20 :: .ref a21 :: .ref a22 :: .ref a23 :: .ref a24 :: .ref a25 :: .ref a26 :: .ref a27 :: .ref a28 :: .int 0 :: .ref a29 :: .ref a30 :: .ref a31 :: .long 0 :: .int 0 :: .int 0 :: .int 0 :: .long 0 :: .int 0 :: .ref a32 :: .int 0 :: .int 0 :: .int 0 :: .int 0 :: .ref a33 :: .ref a34 :: .ref a35 :: [])))]) A) (cc := cX12_cheapest) (maxL := 7) (ret := (some .int)) (by decide +kernel) rfl (Nat.le_of_ble_eq_true rfl) ?_
  intro p e s m below meth c A ls H hx hb hr hml hts hown hlocks hnm hsz hP hK hD hA hS hE hAe hl
  replace hl : lv_has ls 7 [(0, .ref a0), (1, .long n0)] := hl
  have hown : s.vm.findClass RX12 = some m.cls := hown
  have w_0 := hts (.fieldLink RX12 127 "SoldToBehindModel" "thrown" "I") (gt_k wd_6_211)
  refine lv_aload_n hx hb dX12_cheapest_0 rfl (lv_at hl 0 rfl) ?_
  refine lv_iconst (v := 0) hx hb dX12_cheapest_1 (by decide +kernel) ?_
  refine nb_put (D := D) (ci := 12) (v := .int 0) (ty := .int) (C := RX12) (T := TX12) (N := 72) (ws' := [(a0, .inr (12, (.int 0 :: .ref a1 :: .ref a2 :: .ref a3 :: .ref a4 :: .ref a5 :: .ref a6 :: .ref a7 :: .int 0 :: .ref a8 :: .int 0 :: .ref a9 :: .ref a10 :: .int 1 :: .ref a11 :: .int 0 :: .ref a12 :: .int 0 :: .int 0 :: .null :: .int 0 :: .int 0 :: .int 0 :: .int 0 :: .ref a13 :: .ref a14 :: .ref a15 :: .int (-1) :: .int 0 :: .int 0 :: .int 0 :: .int 0 :: .int 0 :: .int 0 :: .int 0 :: .ref a16 :: .int 0 :: .ref a17 :: .int 0 :: .ref a18 :: .ref a19 :: .int 0 :: .int 0 :: .int 0 :: .int 0 :: .ref a20 :: .ref a21 :: .ref a22 :: .ref a23 :: .ref a24 :: .ref a25 :: .ref a26 :: .ref a27 :: .ref a28 :: .int 0 :: .ref a29 :: .ref a30 :: .ref a31 :: .long 0 :: .int 0 :: .int 0 :: .int 0 :: .long 0 :: .int 0 :: .ref a32 :: .int 0 :: .int 0 :: .int 0 :: .int 0 :: .ref a33 :: .ref a34 :: .ref a35 :: [])))]) hx hb hts (gt_c iG_X12) tyX12 tyX12_ok nmX12 hown hK hP hD hS 0 rfl rfl 18 (by decide +kernel) w_0 (fun _ h9 => h9) rfl (by decide +kernel) rfl rfl (Nat.le_of_ble_eq_true rfl) rfl dX12_cheapest_2 (fun H locs hP hD hS => ?_)
  refine lv_aload_n hx hb dX12_cheapest_5 rfl (lv_at hl 0 rfl) ?_
  refine lv_lload_n hx hb dX12_cheapest_6 rfl (lv_at hl 1 rfl) ?_
  refine nj_i (ws := [(a0, .inr (12, (.int 0 :: .ref a1 :: .ref a2 :: .ref a3 :: .ref a4 :: .ref a5 :: .ref a6 :: .ref a7 :: .int 0 :: .ref a8 :: .int 0 :: .ref a9 :: .ref a10 :: .int 1 :: .ref a11 :: .int 0 :: .ref a12 :: .int 0 :: .int 0 :: .null :: .int 0 :: .int 0 :: .int 0 :: .int 0 :: .ref a13 :: .ref a14 :: .ref a15 :: .int (-1) :: .int 0 :: .int 0 :: .int 0 :: .int 0 :: .int 0 :: .int 0 :: .int 0 :: .ref a16 :: .int 0 :: .ref a17 :: .int 0 :: .ref a18 :: .ref a19 :: .int 0 :: .int 0 :: .int 0 :: .int 0 :: .ref a20 :: .ref a21 :: .ref a22 :: .ref a23 :: .ref a24 :: .ref a25 :: .ref a26 :: .ref a27 :: .ref a28 :: .int 0 :: .ref a29 :: .ref a30 :: .ref a31 :: .long 0 :: .int 0 :: .int 0 :: .int 0 :: .long 0 :: .int 0 :: .ref a32 :: .int 0 :: .int 0 :: .int 0 :: .int 0 :: .ref a33 :: .ref a34 :: .ref a35 :: [])))]) (wc := [(a0, .inr (12, (.int 0 :: .ref a1 :: .ref a2 :: .ref a3 :: .ref a4 :: .ref a5 :: .ref a6 :: .ref a7 :: .int 0 :: .ref a8 :: .int 0 :: .ref a9 :: .ref a10 :: .int 1 :: .ref a11 :: .int 0 :: .ref a12 :: .int 0 :: .int 0 :: .null :: .int 0 :: .int 0 :: .int 0 :: .int 0 :: .ref a13 :: .ref a14 :: .ref a15 :: .int (-1) :: .int 0 :: .int 0 :: .int 0 :: .int 0 :: .int 0 :: .int 0 :: .int 0 :: .ref a16 :: .int 0 :: .ref a17 :: .int 0 :: .ref a18 :: .ref a19 :: .int 0 :: .int 0 :: .int 0 :: .int 0 :: .ref a20 :: .ref a21 :: .ref a22 :: .ref a23 :: .ref a24 :: .ref a25 :: .ref a26 :: .ref a27 :: .ref a28 :: .int 0 :: .ref a29 :: .ref a30 :: .ref a31 :: .long 0 :: .int 0 :: .int 0 :: .int 0 :: .long 0 :: .int 0 :: .ref a32 :: .int 0 :: .int 0 :: .int 0 :: .int 0 :: .ref a33 :: .ref a34 :: .ref a35 :: [])))]) (wr := []) (nr_V (As := [.long n0]) (rest := []) ⟨hx, hb, hml, hown, hts⟩ (cX12_isLine_1 l D y a0 n0 hn0l a1 a2 a3 a4 a5 a6 a7 a8 a9 a10 a11 a12 a13 a14 a15 a16 a17 a18 a19 a20 a21 a22 a23 a24 a25 a26 a27 a28 a29 a30 a31 a32 a33 a34 a35 H.size) (cwV 1 hts gX12_cheapest_X12_isLine rfl rfl rfl (by decide +kernel) ⟨Nat.le_of_ble_eq_true rfl, Nat.le_of_ble_eq_true rfl⟩) hK hP hD hE [0] rfl (by decide +kernel) 0 12 rfl rfl rfl rfl rfl hl.1 rfl (lv_room (Nat.le_of_ble_eq_true rfl)) dX12_cheapest_7 ⟨Nat.le_of_ble_eq_true rfl, Nat.le_of_ble_eq_true rfl⟩) hP hD hS hA [0] [] rfl rfl (by decide +kernel) (by decide +kernel) (fun r2 u1 H locs er2 hP hD hS => ?_)
  subst er2
  refine lv_if_ne (tgt := 15) hx hb dX12_cheapest_10 (by decide +kernel) (fun c => absurd (by decide +kernel) c) (fun _ => ?_)
  refine lv_iconst (v := (-1)) hx hb dX12_cheapest_13 (by decide +kernel) ?_
  refine W.widen (k := 0) (n := 0) (Nat.le_of_ble_eq_true rfl) (Nat.le_of_ble_eq_true rfl) ?_
  exact W.iret (v := (-1)) hx hb hr (fun t ht hW => ⟨⟨(-1), (fun _ => 0), rfl, rfl, by rw [ht]; exact hP, va_K.moved hW.alike hK, hD⟩, hS.F ht⟩) hS.2.2 dX12_cheapest_14 hlocks
set_option maxRecDepth 100000 in
set_option maxHeartbeats 4000000 in
theorem cX12_isLine_2 (l : Launch) (D : va_G) (y : Nat → ClassId) (a0 : Nat) (n0 : Int64) (hn0h : n0 ≤ 0) (a1 : Nat) (a2 : Nat) (a3 : Nat) (a4 : Nat) (a5 : Nat) (a6 : Nat) (a7 : Nat) (a8 : Nat) (a9 : Nat) (a10 : Nat) (a11 : Nat) (a12 : Nat) (a13 : Nat) (a14 : Nat) (a15 : Nat) (a16 : Nat) (a17 : Nat) (a18 : Nat) (a19 : Nat) (a20 : Nat) (a21 : Nat) (a22 : Nat) (a23 : Nat) (a24 : Nat) (a25 : Nat) (a26 : Nat) (a27 : Nat) (a28 : Nat) (a29 : Nat) (a30 : Nat) (a31 : Nat) (a32 : Nat) (a33 : Nat) (a34 : Nat) (a35 : Nat) (sz : Nat) : Met l yX12_isLine wsX12_isLine { frames := 2, cells := 0, slots := 0, locals := 200 } (nPc D y nT [.ref a0, .long n0] [(a0, .inr (12, (.int 0 :: .ref a1 :: .ref a2 :: .ref a3 :: .ref a4 :: .ref a5 :: .ref a6 :: .ref a7 :: .int 0 :: .ref a8 :: .int 0 :: .ref a9 :: .ref a10 :: .int 1 :: .ref a11 :: .int 0 :: .ref a12 :: .int 0 :: .int 0 :: .null :: .int 0 :: .int 0 :: .int 0 :: .int 0 :: .ref a13 :: .ref a14 :: .ref a15 :: .int (-1) :: .int 0 :: .int 0 :: .int 0 :: .int 0 :: .int 0 :: .int 0 :: .int 0 :: .ref a16 :: .int 0 :: .ref a17 :: .int 0 :: .ref a18 :: .ref a19 :: .int 0 :: .int 0 :: .int 0 :: .int 0 :: .ref a20 :: .ref a21 :: .ref a22 :: .ref a23 :: .ref a24 :: .ref a25 :: .ref a26 :: .ref a27 :: .ref a28 :: .int 0 :: .ref a29 :: .ref a30 :: .ref a31 :: .long 0 :: .int 0 :: .int 0 :: .int 0 :: .long 0 :: .int 0 :: .ref a32 :: .int 0 :: .int 0 :: .int 0 :: .int 0 :: .ref a33 :: .ref a34 :: .ref a35 :: [])))] sz) ((fun A => nQi D y (fun r _ => r = 0) (fun u => [(a0, .inr (12, (.int 0 :: .ref a1 :: .ref a2 :: .ref a3 :: .ref a4 :: .ref a5 :: .ref a6 :: .ref a7 :: .int 0 :: .ref a8 :: .int 0 :: .ref a9 :: .ref a10 :: .int 1 :: .ref a11 :: .int 0 :: .ref a12 :: .int 0 :: .int 0 :: .null :: .int 0 :: .int 0 :: .int 0 :: .int 0 :: .ref a13 :: .ref a14 :: .ref a15 :: .int (-1) :: .int 0 :: .int 0 :: .int 0 :: .int 0 :: .int 0 :: .int 0 :: .int 0 :: .ref a16 :: .int 0 :: .ref a17 :: .int 0 :: .ref a18 :: .ref a19 :: .int 0 :: .int 0 :: .int 0 :: .int 0 :: .ref a20 :: .ref a21 :: .ref a22 :: .ref a23 :: .ref a24 :: .ref a25 :: .ref a26 :: .ref a27 :: .ref a28 :: .int 0 :: .ref a29 :: .ref a30 :: .ref a31 :: .long 0 :: .int 0 :: .int 0 :: .int 0 :: .long 0 :: .int 0 :: .ref a32 :: .int 0 :: .int 0 :: .int 0 :: .int 0 :: .ref a33 :: .ref a34 :: .ref a35 :: [])))]) A) (va_A [(a0, .inr (12, (.int 0 :: .ref a1 :: .ref a2 :: .ref a3 :: .ref a4 :: .ref a5 :: .ref a6 :: .ref a7 :: .int 0 :: .ref a8 :: .int 0 :: .ref a9 :: .ref a10 :: .int 1 :: .ref a11 :: .int 0 :: .ref a12 :: .int 0 :: .int 0 :: .null :: .int 0 :: .int 0 :: .int 0 :: .int 0 :: .ref a13 :: .ref a14 :: .ref a15 :: .int (-1) :: .int 0 :: .int 0 :: .int 0 :: .int 0 :: .int 0 :: .int 0 :: .int 0 :: .ref a16 :: .int 0 :: .ref a17 :: .int 0 :: .ref a18 :: .ref a19 :: .int 0 :: .int 0 :: .int 0 :: .int 0 :: .ref a20 :: .ref a21 :: .ref a22 :: .ref a23 :: .ref a24 :: .ref a25 :: .ref a26 :: .ref a27 :: .ref a28 :: .int 0 :: .ref a29 :: .ref a30 :: .ref a31 :: .long 0 :: .int 0 :: .int 0 :: .int 0 :: .long 0 :: .int 0 :: .ref a32 :: .int 0 :: .int 0 :: .int 0 :: .int 0 :: .ref a33 :: .ref a34 :: .ref a35 :: [])))] sz)) 0 0 (va_A [(a0, .inr (12, (.int 0 :: .ref a1 :: .ref a2 :: .ref a3 :: .ref a4 :: .ref a5 :: .ref a6 :: .ref a7 :: .int 0 :: .ref a8 :: .int 0 :: .ref a9 :: .ref a10 :: .int 1 :: .ref a11 :: .int 0 :: .ref a12 :: .int 0 :: .int 0 :: .null :: .int 0 :: .int 0 :: .int 0 :: .int 0 :: .ref a13 :: .ref a14 :: .ref a15 :: .int (-1) :: .int 0 :: .int 0 :: .int 0 :: .int 0 :: .int 0 :: .int 0 :: .int 0 :: .ref a16 :: .int 0 :: .ref a17 :: .int 0 :: .ref a18 :: .ref a19 :: .int 0 :: .int 0 :: .int 0 :: .int 0 :: .ref a20 :: .ref a21 :: .ref a22 :: .ref a23 :: .ref a24 :: .ref a25 :: .ref a26 :: .ref a27 :: .ref a28 :: .int 0 :: .ref a29 :: .ref a30 :: .ref a31 :: .long 0 :: .int 0 :: .int 0 :: .int 0 :: .long 0 :: .int 0 :: .ref a32 :: .int 0 :: .int 0 :: .int 0 :: .int 0 :: .ref a33 :: .ref a34 :: .ref a35 :: [])))] sz) := by
  refine nm_ofW (D := D) (y := y) (E := nT) (yy := yX12_isLine) (wsy := wsX12_isLine) (rm := { frames := 2, cells := 0, slots := 0, locals := 200 }) (as := [.ref a0, .long n0]) (ws := [(a0, .inr (12, (.int 0 :: .ref a1 :: .ref a2 :: .ref a3 :: .ref a4 :: .ref a5 :: .ref a6 :: .ref a7 :: .int 0 :: .ref a8 :: .int 0 :: .ref a9 :: .ref a10 :: .int 1 :: .ref a11 :: .int 0 :: .ref a12 :: .int 0 :: .int 0 :: .null :: .int 0 :: .int 0 :: .int 0 :: .int 0 :: .ref a13 :: .ref a14 :: .ref a15 :: .int (-1) :: .int 0 :: .int 0 :: .int 0 :: .int 0 :: .int 0 :: .int 0 :: .int 0 :: .ref a16 :: .int 0 :: .ref a17 :: .int 0 :: .ref a18 :: .ref a19 :: .int 0 :: .int 0 :: .int 0 :: .int 0 :: .ref a20 :: .ref a21 :: .ref a22 :: .ref a23 :: .ref a24 :: .ref a25 :: .ref a26 :: .ref a27 :: .ref a28 :: .int 0 :: .ref a29 :: .ref a30 :: .ref a31 :: .long 0 :: .int 0 :: .int 0 :: .int 0 :: .long 0 :: .int 0 :: .ref a32 :: .int 0 :: .int 0 :: .int 0 :: .int 0 :: .ref a33 :: .ref a34 :: .ref a35 :: [])))]) (sz := sz) (mc := 0) (ms := 0) (Qc := fun A => nQi D y (fun r _ => r = 0) (fun u => [(a0, .inr (12, (.int 0 :: .ref a1 :: .ref a2 :: .ref a3 :: .ref a4 :: .ref a5 :: .ref a6 :: .ref a7 :: .int 0 :: .ref a8 :: .int 0 :: .ref a9 :: .ref a10 :: .int 1 :: .ref a11 :: .int 0 :: .ref a12 :: .int 0 :: .int 0 :: .null :: .int 0 :: .int 0 :: .int 0 :: .int 0 :: .ref a13 :: .ref a14 :: .ref a15 :: .int (-1) :: .int 0 :: .int 0 :: .int 0 :: .int 0 :: .int 0 :: .int 0 :: .int 0 :: .ref a16 :: .int 0 :: .ref a17 :: .int 0 :: .ref a18 :: .ref a19 :: .int 0 :: .int 0 :: .int 0 :: .int 0 :: .ref a20 :: .ref a21 :: .ref a22 :: .ref a23 :: .ref a24 :: .ref a25 :: .ref a26 :: .ref a27 :: .ref a28 :: .int 0 :: .ref a29 :: .ref a30 :: .ref a31 :: .long 0 :: .int 0 :: .int 0 :: .int 0 :: .long 0 :: .int 0 :: .ref a32 :: .int 0 :: .int 0 :: .int 0 :: .int 0 :: .ref a33 :: .ref a34 :: .ref a35 :: [])))]) A) (cc := cX12_isLine) (maxL := 8) (ret := (some .boolean)) (by decide +kernel) rfl (Nat.le_of_ble_eq_true rfl) ?_
  intro p e s m below meth c A ls H hx hb hr hml hts hown hlocks hnm hsz hP hK hD hA hS hE hAe hl
  replace hl : lv_has ls 8 [(0, .ref a0), (1, .long n0)] := hl
  have hown : s.vm.findClass RX12 = some m.cls := hown
  refine lv_iconst (v := 0) hx hb dX12_isLine_0 (by decide +kernel) ?_
  refine lv_istore_n (lv' := [(3, .int 0), (0, .ref a0), (1, .long n0)]) hx hb dX12_isLine_1 rfl hl (by decide +kernel) rfl (fun ls hl => ?_)
  refine lv_lload_n hx hb dX12_isLine_2 rfl (lv_at hl 2 rfl) ?_
  refine lv_lstore (lv' := [(4, .long n0), (3, .int 0), (0, .ref a0), (1, .long n0)]) hx hb dX12_isLine_3 hl (by decide +kernel) rfl (fun ls hl => ?_)
  refine lv_iconst (v := 0) hx hb dX12_isLine_5 (by decide +kernel) ?_
  refine lv_istore (lv' := [(6, .int 0), (4, .long n0), (3, .int 0), (0, .ref a0), (1, .long n0)]) hx hb dX12_isLine_6 hl (by decide +kernel) rfl (fun ls hl => ?_)
  refine lv_lload hx hb dX12_isLine_8 (lv_at hl 1 rfl) ?_
  refine lv_lconst (v := 1) hx hb dX12_isLine_10 (by decide +kernel) ?_
  refine W.lcmp hx hb dX12_isLine_11 ?_
  refine lv_if_le (tgt := 72) hx hb dX12_isLine_12 (by decide +kernel) (fun _ => ?_) (fun c => absurd ((lg_cmp_le _ _).mpr (q_leL hn0h (by decide +kernel))) c)
  refine lv_lload hx hb dX12_isLine_72 (lv_at hl 1 rfl) ?_
  refine lv_lconst (v := 1) hx hb dX12_isLine_74 (by decide +kernel) ?_
  refine W.lcmp hx hb dX12_isLine_75 ?_
  refine lv_if_ne (tgt := 92) hx hb dX12_isLine_76 (by decide +kernel) (fun _ => ?_) (fun c => absurd c (fun h => (q_neHL hn0h (by decide +kernel)) ((lg_cmp_eq _ _).mp h)))
  refine lv_iconst (v := 0) hx hb dX12_isLine_92 (by decide +kernel) ?_
  refine W.widen (k := 0) (n := 0) (Nat.le_of_ble_eq_true rfl) (Nat.le_of_ble_eq_true rfl) ?_
  exact W.zret (v := 0) hx hb hr (by decide +kernel) (fun t ht hW => ⟨⟨0, (fun _ => 0), rfl, rfl, by rw [ht]; exact hP, va_K.moved hW.alike hK, hD⟩, hS.F ht⟩) hS.2.2 dX12_isLine_93 hlocks
set_option maxRecDepth 100000 in
set_option maxHeartbeats 4000000 in
theorem cX12_cheapest_2 (l : Launch) (D : va_G) (y : Nat → ClassId) (a0 : Nat) (n0 : Int64) (hn0h : n0 ≤ 0) (a1 : Nat) (a2 : Nat) (a3 : Nat) (a4 : Nat) (a5 : Nat) (a6 : Nat) (a7 : Nat) (a8 : Nat) (a9 : Nat) (a10 : Nat) (a11 : Nat) (a12 : Nat) (a13 : Nat) (a14 : Nat) (a15 : Nat) (a16 : Nat) (a17 : Nat) (a18 : Nat) (a19 : Nat) (a20 : Nat) (a21 : Nat) (a22 : Nat) (a23 : Nat) (a24 : Nat) (a25 : Nat) (a26 : Nat) (a27 : Nat) (a28 : Nat) (a29 : Nat) (a30 : Nat) (a31 : Nat) (a32 : Nat) (a33 : Nat) (a34 : Nat) (a35 : Nat) (sz : Nat) : Met l yX12_cheapest wsX12_cheapest { frames := 3, cells := 0, slots := 0, locals := 227 } (nPc D y nT [.ref a0, .long n0] [(a0, .inr (12, (.int 0 :: .ref a1 :: .ref a2 :: .ref a3 :: .ref a4 :: .ref a5 :: .ref a6 :: .ref a7 :: .int 0 :: .ref a8 :: .int 0 :: .ref a9 :: .ref a10 :: .int 1 :: .ref a11 :: .int 0 :: .ref a12 :: .int 0 :: .int 0 :: .null :: .int 0 :: .int 0 :: .int 0 :: .int 0 :: .ref a13 :: .ref a14 :: .ref a15 :: .int (-1) :: .int 0 :: .int 0 :: .int 0 :: .int 0 :: .int 0 :: .int 0 :: .int 0 :: .ref a16 :: .int 0 :: .ref a17 :: .int 0 :: .ref a18 :: .ref a19 :: .int 0 :: .int 0 :: .int 0 :: .int 0 :: .ref a20 :: .ref a21 :: .ref a22 :: .ref a23 :: .ref a24 :: .ref a25 :: .ref a26 :: .ref a27 :: .ref a28 :: .int 0 :: .ref a29 :: .ref a30 :: .ref a31 :: .long 0 :: .int 0 :: .int 0 :: .int 0 :: .long 0 :: .int 0 :: .ref a32 :: .int 0 :: .int 0 :: .int 0 :: .int 0 :: .ref a33 :: .ref a34 :: .ref a35 :: [])))] sz) ((fun A => nQi D y (fun r _ => r = (-1)) (fun u => [(a0, .inr (12, (.int 0 :: .ref a1 :: .ref a2 :: .ref a3 :: .ref a4 :: .ref a5 :: .ref a6 :: .ref a7 :: .int 0 :: .ref a8 :: .int 0 :: .ref a9 :: .ref a10 :: .int 1 :: .ref a11 :: .int 0 :: .ref a12 :: .int 0 :: .int 0 :: .null :: .int 0 :: .int 0 :: .int 0 :: .int 0 :: .ref a13 :: .ref a14 :: .ref a15 :: .int (-1) :: .int 0 :: .int 0 :: .int 0 :: .int 0 :: .int 0 :: .int 0 :: .int 0 :: .ref a16 :: .int 0 :: .ref a17 :: .int 0 :: .ref a18 :: .ref a19 :: .int 0 :: .int 0 :: .int 0 :: .int 0 :: .ref a20 :: .ref a21 :: .ref a22 :: .ref a23 :: .ref a24 :: .ref a25 :: .ref a26 :: .ref a27 :: .ref a28 :: .int 0 :: .ref a29 :: .ref a30 :: .ref a31 :: .long 0 :: .int 0 :: .int 0 :: .int 0 :: .long 0 :: .int 0 :: .ref a32 :: .int 0 :: .int 0 :: .int 0 :: .int 0 :: .ref a33 :: .ref a34 :: .ref a35 :: [])))]) A) (va_A [(a0, .inr (12, (.int 0 :: .ref a1 :: .ref a2 :: .ref a3 :: .ref a4 :: .ref a5 :: .ref a6 :: .ref a7 :: .int 0 :: .ref a8 :: .int 0 :: .ref a9 :: .ref a10 :: .int 1 :: .ref a11 :: .int 0 :: .ref a12 :: .int 0 :: .int 0 :: .null :: .int 0 :: .int 0 :: .int 0 :: .int 0 :: .ref a13 :: .ref a14 :: .ref a15 :: .int (-1) :: .int 0 :: .int 0 :: .int 0 :: .int 0 :: .int 0 :: .int 0 :: .int 0 :: .ref a16 :: .int 0 :: .ref a17 :: .int 0 :: .ref a18 :: .ref a19 :: .int 0 :: .int 0 :: .int 0 :: .int 0 :: .ref a20 :: .ref a21 :: .ref a22 :: .ref a23 :: .ref a24 :: .ref a25 :: .ref a26 :: .ref a27 :: .ref a28 :: .int 0 :: .ref a29 :: .ref a30 :: .ref a31 :: .long 0 :: .int 0 :: .int 0 :: .int 0 :: .long 0 :: .int 0 :: .ref a32 :: .int 0 :: .int 0 :: .int 0 :: .int 0 :: .ref a33 :: .ref a34 :: .ref a35 :: [])))] sz)) 0 0 (va_A [(a0, .inr (12, (.int 0 :: .ref a1 :: .ref a2 :: .ref a3 :: .ref a4 :: .ref a5 :: .ref a6 :: .ref a7 :: .int 0 :: .ref a8 :: .int 0 :: .ref a9 :: .ref a10 :: .int 1 :: .ref a11 :: .int 0 :: .ref a12 :: .int 0 :: .int 0 :: .null :: .int 0 :: .int 0 :: .int 0 :: .int 0 :: .ref a13 :: .ref a14 :: .ref a15 :: .int (-1) :: .int 0 :: .int 0 :: .int 0 :: .int 0 :: .int 0 :: .int 0 :: .int 0 :: .ref a16 :: .int 0 :: .ref a17 :: .int 0 :: .ref a18 :: .ref a19 :: .int 0 :: .int 0 :: .int 0 :: .int 0 :: .ref a20 :: .ref a21 :: .ref a22 :: .ref a23 :: .ref a24 :: .ref a25 :: .ref a26 :: .ref a27 :: .ref a28 :: .int 0 :: .ref a29 :: .ref a30 :: .ref a31 :: .long 0 :: .int 0 :: .int 0 :: .int 0 :: .long 0 :: .int 0 :: .ref a32 :: .int 0 :: .int 0 :: .int 0 :: .int 0 :: .ref a33 :: .ref a34 :: .ref a35 :: [])))] sz) := by
  refine nm_ofW (D := D) (y := y) (E := nT) (yy := yX12_cheapest) (wsy := wsX12_cheapest) (rm := { frames := 3, cells := 0, slots := 0, locals := 227 }) (as := [.ref a0, .long n0]) (ws := [(a0, .inr (12, (.int 0 :: .ref a1 :: .ref a2 :: .ref a3 :: .ref a4 :: .ref a5 :: .ref a6 :: .ref a7 :: .int 0 :: .ref a8 :: .int 0 :: .ref a9 :: .ref a10 :: .int 1 :: .ref a11 :: .int 0 :: .ref a12 :: .int 0 :: .int 0 :: .null :: .int 0 :: .int 0 :: .int 0 :: .int 0 :: .ref a13 :: .ref a14 :: .ref a15 :: .int (-1) :: .int 0 :: .int 0 :: .int 0 :: .int 0 :: .int 0 :: .int 0 :: .int 0 :: .ref a16 :: .int 0 :: .ref a17 :: .int 0 :: .ref a18 :: .ref a19 :: .int 0 :: .int 0 :: .int 0 :: .int 0 :: .ref a20 :: .ref a21 :: .ref a22 :: .ref a23 :: .ref a24 :: .ref a25 :: .ref a26 :: .ref a27 :: .ref a28 :: .int 0 :: .ref a29 :: .ref a30 :: .ref a31 :: .long 0 :: .int 0 :: .int 0 :: .int 0 :: .long 0 :: .int 0 :: .ref a32 :: .int 0 :: .int 0 :: .int 0 :: .int 0 :: .ref a33 :: .ref a34 :: .ref a35 :: [])))]) (sz := sz) (mc := 0) (ms := 0) (Qc := fun A => nQi D y (fun r _ => r = (-1)) (fun u => [(a0, .inr (12, (.int 0 :: .ref a1 :: .ref a2 :: .ref a3 :: .ref a4 :: .ref a5 :: .ref a6 :: .ref a7 :: .int 0 :: .ref a8 :: .int 0 :: .ref a9 :: .ref a10 :: .int 1 :: .ref a11 :: .int 0 :: .ref a12 :: .int 0 :: .int 0 :: .null :: .int 0 :: .int 0 :: .int 0 :: .int 0 :: .ref a13 :: .ref a14 :: .ref a15 :: .int (-1) :: .int 0 :: .int 0 :: .int 0 :: .int 0 :: .int 0 :: .int 0 :: .int 0 :: .ref a16 :: .int 0 :: .ref a17 :: .int 0 :: .ref a18 :: .ref a19 :: .int 0 :: .int 0 :: .int 0 :: .int 0 :: .ref a20 :: .ref a21 :: .ref a22 :: .ref a23 :: .ref a24 :: .ref a25 :: .ref a26 :: .ref a27 :: .ref a28 :: .int 0 :: .ref a29 :: .ref a30 :: .ref a31 :: .long 0 :: .int 0 :: .int 0 :: .int 0 :: .long 0 :: .int 0 :: .ref a32 :: .int 0 :: .int 0 :: .int 0 :: .int 0 :: .ref a33 :: .ref a34 :: .ref a35 :: [])))]) A) (cc := cX12_cheapest) (maxL := 7) (ret := (some .int)) (by decide +kernel) rfl (Nat.le_of_ble_eq_true rfl) ?_
  intro p e s m below meth c A ls H hx hb hr hml hts hown hlocks hnm hsz hP hK hD hA hS hE hAe hl
  replace hl : lv_has ls 7 [(0, .ref a0), (1, .long n0)] := hl
  have hown : s.vm.findClass RX12 = some m.cls := hown
  have w_0 := hts (.fieldLink RX12 127 "SoldToBehindModel" "thrown" "I") (gt_k wd_6_211)
  refine lv_aload_n hx hb dX12_cheapest_0 rfl (lv_at hl 0 rfl) ?_
  refine lv_iconst (v := 0) hx hb dX12_cheapest_1 (by decide +kernel) ?_
  refine nb_put (D := D) (ci := 12) (v := .int 0) (ty := .int) (C := RX12) (T := TX12) (N := 72) (ws' := [(a0, .inr (12, (.int 0 :: .ref a1 :: .ref a2 :: .ref a3 :: .ref a4 :: .ref a5 :: .ref a6 :: .ref a7 :: .int 0 :: .ref a8 :: .int 0 :: .ref a9 :: .ref a10 :: .int 1 :: .ref a11 :: .int 0 :: .ref a12 :: .int 0 :: .int 0 :: .null :: .int 0 :: .int 0 :: .int 0 :: .int 0 :: .ref a13 :: .ref a14 :: .ref a15 :: .int (-1) :: .int 0 :: .int 0 :: .int 0 :: .int 0 :: .int 0 :: .int 0 :: .int 0 :: .ref a16 :: .int 0 :: .ref a17 :: .int 0 :: .ref a18 :: .ref a19 :: .int 0 :: .int 0 :: .int 0 :: .int 0 :: .ref a20 :: .ref a21 :: .ref a22 :: .ref a23 :: .ref a24 :: .ref a25 :: .ref a26 :: .ref a27 :: .ref a28 :: .int 0 :: .ref a29 :: .ref a30 :: .ref a31 :: .long 0 :: .int 0 :: .int 0 :: .int 0 :: .long 0 :: .int 0 :: .ref a32 :: .int 0 :: .int 0 :: .int 0 :: .int 0 :: .ref a33 :: .ref a34 :: .ref a35 :: [])))]) hx hb hts (gt_c iG_X12) tyX12 tyX12_ok nmX12 hown hK hP hD hS 0 rfl rfl 18 (by decide +kernel) w_0 (fun _ h9 => h9) rfl (by decide +kernel) rfl rfl (Nat.le_of_ble_eq_true rfl) rfl dX12_cheapest_2 (fun H locs hP hD hS => ?_)
  refine lv_aload_n hx hb dX12_cheapest_5 rfl (lv_at hl 0 rfl) ?_
  refine lv_lload_n hx hb dX12_cheapest_6 rfl (lv_at hl 1 rfl) ?_
  refine nj_i (ws := [(a0, .inr (12, (.int 0 :: .ref a1 :: .ref a2 :: .ref a3 :: .ref a4 :: .ref a5 :: .ref a6 :: .ref a7 :: .int 0 :: .ref a8 :: .int 0 :: .ref a9 :: .ref a10 :: .int 1 :: .ref a11 :: .int 0 :: .ref a12 :: .int 0 :: .int 0 :: .null :: .int 0 :: .int 0 :: .int 0 :: .int 0 :: .ref a13 :: .ref a14 :: .ref a15 :: .int (-1) :: .int 0 :: .int 0 :: .int 0 :: .int 0 :: .int 0 :: .int 0 :: .int 0 :: .ref a16 :: .int 0 :: .ref a17 :: .int 0 :: .ref a18 :: .ref a19 :: .int 0 :: .int 0 :: .int 0 :: .int 0 :: .ref a20 :: .ref a21 :: .ref a22 :: .ref a23 :: .ref a24 :: .ref a25 :: .ref a26 :: .ref a27 :: .ref a28 :: .int 0 :: .ref a29 :: .ref a30 :: .ref a31 :: .long 0 :: .int 0 :: .int 0 :: .int 0 :: .long 0 :: .int 0 :: .ref a32 :: .int 0 :: .int 0 :: .int 0 :: .int 0 :: .ref a33 :: .ref a34 :: .ref a35 :: [])))]) (wc := [(a0, .inr (12, (.int 0 :: .ref a1 :: .ref a2 :: .ref a3 :: .ref a4 :: .ref a5 :: .ref a6 :: .ref a7 :: .int 0 :: .ref a8 :: .int 0 :: .ref a9 :: .ref a10 :: .int 1 :: .ref a11 :: .int 0 :: .ref a12 :: .int 0 :: .int 0 :: .null :: .int 0 :: .int 0 :: .int 0 :: .int 0 :: .ref a13 :: .ref a14 :: .ref a15 :: .int (-1) :: .int 0 :: .int 0 :: .int 0 :: .int 0 :: .int 0 :: .int 0 :: .int 0 :: .ref a16 :: .int 0 :: .ref a17 :: .int 0 :: .ref a18 :: .ref a19 :: .int 0 :: .int 0 :: .int 0 :: .int 0 :: .ref a20 :: .ref a21 :: .ref a22 :: .ref a23 :: .ref a24 :: .ref a25 :: .ref a26 :: .ref a27 :: .ref a28 :: .int 0 :: .ref a29 :: .ref a30 :: .ref a31 :: .long 0 :: .int 0 :: .int 0 :: .int 0 :: .long 0 :: .int 0 :: .ref a32 :: .int 0 :: .int 0 :: .int 0 :: .int 0 :: .ref a33 :: .ref a34 :: .ref a35 :: [])))]) (wr := []) (nr_V (As := [.long n0]) (rest := []) ⟨hx, hb, hml, hown, hts⟩ (cX12_isLine_2 l D y a0 n0 hn0h a1 a2 a3 a4 a5 a6 a7 a8 a9 a10 a11 a12 a13 a14 a15 a16 a17 a18 a19 a20 a21 a22 a23 a24 a25 a26 a27 a28 a29 a30 a31 a32 a33 a34 a35 H.size) (cwV 1 hts gX12_cheapest_X12_isLine rfl rfl rfl (by decide +kernel) ⟨Nat.le_of_ble_eq_true rfl, Nat.le_of_ble_eq_true rfl⟩) hK hP hD hE [0] rfl (by decide +kernel) 0 12 rfl rfl rfl rfl rfl hl.1 rfl (lv_room (Nat.le_of_ble_eq_true rfl)) dX12_cheapest_7 ⟨Nat.le_of_ble_eq_true rfl, Nat.le_of_ble_eq_true rfl⟩) hP hD hS hA [0] [] rfl rfl (by decide +kernel) (by decide +kernel) (fun r2 u1 H locs er2 hP hD hS => ?_)
  subst er2
  refine lv_if_ne (tgt := 15) hx hb dX12_cheapest_10 (by decide +kernel) (fun c => absurd (by decide +kernel) c) (fun _ => ?_)
  refine lv_iconst (v := (-1)) hx hb dX12_cheapest_13 (by decide +kernel) ?_
  refine W.widen (k := 0) (n := 0) (Nat.le_of_ble_eq_true rfl) (Nat.le_of_ble_eq_true rfl) ?_
  exact W.iret (v := (-1)) hx hb hr (fun t ht hW => ⟨⟨(-1), (fun _ => 0), rfl, rfl, by rw [ht]; exact hP, va_K.moved hW.alike hK, hD⟩, hS.F ht⟩) hS.2.2 dX12_cheapest_14 hlocks
set_option maxRecDepth 100000 in
set_option maxHeartbeats 4000000 in
theorem cX12_isLine_3 (l : Launch) (D : va_G) (y : Nat → ClassId) (a0 : Nat) (a1 : Nat) (a2 : Nat) (a3 : Nat) (a4 : Nat) (a5 : Nat) (a6 : Nat) (a7 : Nat) (a8 : Nat) (a9 : Nat) (a10 : Nat) (a11 : Nat) (a12 : Nat) (a13 : Nat) (a14 : Nat) (a15 : Nat) (a16 : Nat) (a17 : Nat) (a18 : Nat) (a19 : Nat) (a20 : Nat) (a21 : Nat) (a22 : Nat) (a23 : Nat) (a24 : Nat) (a25 : Nat) (a26 : Nat) (a27 : Nat) (a28 : Nat) (a29 : Nat) (a30 : Nat) (a31 : Nat) (a32 : Nat) (a33 : Nat) (a34 : Nat) (a35 : Nat) (sz : Nat) : Met l yX12_isLine wsX12_isLine { frames := 2, cells := 0, slots := 0, locals := 200 } (nPc D y nT [.ref a0, .long 1] [(a0, .inr (12, (.int 0 :: .ref a1 :: .ref a2 :: .ref a3 :: .ref a4 :: .ref a5 :: .ref a6 :: .ref a7 :: .int 0 :: .ref a8 :: .int 0 :: .ref a9 :: .ref a10 :: .int 1 :: .ref a11 :: .int 0 :: .ref a12 :: .int 0 :: .int 0 :: .null :: .int 0 :: .int 0 :: .int 0 :: .int 0 :: .ref a13 :: .ref a14 :: .ref a15 :: .int (-1) :: .int 0 :: .int 0 :: .int 0 :: .int 0 :: .int 0 :: .int 0 :: .int 0 :: .ref a16 :: .int 0 :: .ref a17 :: .int 0 :: .ref a18 :: .ref a19 :: .int 0 :: .int 0 :: .int 0 :: .int 0 :: .ref a20 :: .ref a21 :: .ref a22 :: .ref a23 :: .ref a24 :: .ref a25 :: .ref a26 :: .ref a27 :: .ref a28 :: .int 0 :: .ref a29 :: .ref a30 :: .ref a31 :: .long 0 :: .int 0 :: .int 0 :: .int 0 :: .long 0 :: .int 0 :: .ref a32 :: .int 0 :: .int 0 :: .int 0 :: .int 0 :: .ref a33 :: .ref a34 :: .ref a35 :: [])))] sz) ((fun A => nQi D y (fun r _ => r = 1) (fun u => [(a0, .inr (12, (.int 0 :: .ref a1 :: .ref a2 :: .ref a3 :: .ref a4 :: .ref a5 :: .ref a6 :: .ref a7 :: .int 0 :: .ref a8 :: .int 0 :: .ref a9 :: .ref a10 :: .int 1 :: .ref a11 :: .int 0 :: .ref a12 :: .int 0 :: .int 0 :: .null :: .int 0 :: .int 0 :: .int 0 :: .int 0 :: .ref a13 :: .ref a14 :: .ref a15 :: .int (-1) :: .int 0 :: .int 0 :: .int 0 :: .int 0 :: .int 0 :: .int 0 :: .int 0 :: .ref a16 :: .int 0 :: .ref a17 :: .int 0 :: .ref a18 :: .ref a19 :: .int 0 :: .int 0 :: .int 0 :: .int 0 :: .ref a20 :: .ref a21 :: .ref a22 :: .ref a23 :: .ref a24 :: .ref a25 :: .ref a26 :: .ref a27 :: .ref a28 :: .int 0 :: .ref a29 :: .ref a30 :: .ref a31 :: .long 0 :: .int 0 :: .int 0 :: .int 0 :: .long 0 :: .int 0 :: .ref a32 :: .int 0 :: .int 0 :: .int 0 :: .int 0 :: .ref a33 :: .ref a34 :: .ref a35 :: [])))]) A) (va_A [(a0, .inr (12, (.int 0 :: .ref a1 :: .ref a2 :: .ref a3 :: .ref a4 :: .ref a5 :: .ref a6 :: .ref a7 :: .int 0 :: .ref a8 :: .int 0 :: .ref a9 :: .ref a10 :: .int 1 :: .ref a11 :: .int 0 :: .ref a12 :: .int 0 :: .int 0 :: .null :: .int 0 :: .int 0 :: .int 0 :: .int 0 :: .ref a13 :: .ref a14 :: .ref a15 :: .int (-1) :: .int 0 :: .int 0 :: .int 0 :: .int 0 :: .int 0 :: .int 0 :: .int 0 :: .ref a16 :: .int 0 :: .ref a17 :: .int 0 :: .ref a18 :: .ref a19 :: .int 0 :: .int 0 :: .int 0 :: .int 0 :: .ref a20 :: .ref a21 :: .ref a22 :: .ref a23 :: .ref a24 :: .ref a25 :: .ref a26 :: .ref a27 :: .ref a28 :: .int 0 :: .ref a29 :: .ref a30 :: .ref a31 :: .long 0 :: .int 0 :: .int 0 :: .int 0 :: .long 0 :: .int 0 :: .ref a32 :: .int 0 :: .int 0 :: .int 0 :: .int 0 :: .ref a33 :: .ref a34 :: .ref a35 :: [])))] sz)) 0 0 (va_A [(a0, .inr (12, (.int 0 :: .ref a1 :: .ref a2 :: .ref a3 :: .ref a4 :: .ref a5 :: .ref a6 :: .ref a7 :: .int 0 :: .ref a8 :: .int 0 :: .ref a9 :: .ref a10 :: .int 1 :: .ref a11 :: .int 0 :: .ref a12 :: .int 0 :: .int 0 :: .null :: .int 0 :: .int 0 :: .int 0 :: .int 0 :: .ref a13 :: .ref a14 :: .ref a15 :: .int (-1) :: .int 0 :: .int 0 :: .int 0 :: .int 0 :: .int 0 :: .int 0 :: .int 0 :: .ref a16 :: .int 0 :: .ref a17 :: .int 0 :: .ref a18 :: .ref a19 :: .int 0 :: .int 0 :: .int 0 :: .int 0 :: .ref a20 :: .ref a21 :: .ref a22 :: .ref a23 :: .ref a24 :: .ref a25 :: .ref a26 :: .ref a27 :: .ref a28 :: .int 0 :: .ref a29 :: .ref a30 :: .ref a31 :: .long 0 :: .int 0 :: .int 0 :: .int 0 :: .long 0 :: .int 0 :: .ref a32 :: .int 0 :: .int 0 :: .int 0 :: .int 0 :: .ref a33 :: .ref a34 :: .ref a35 :: [])))] sz) := by
  refine nm_ofW (D := D) (y := y) (E := nT) (yy := yX12_isLine) (wsy := wsX12_isLine) (rm := { frames := 2, cells := 0, slots := 0, locals := 200 }) (as := [.ref a0, .long 1]) (ws := [(a0, .inr (12, (.int 0 :: .ref a1 :: .ref a2 :: .ref a3 :: .ref a4 :: .ref a5 :: .ref a6 :: .ref a7 :: .int 0 :: .ref a8 :: .int 0 :: .ref a9 :: .ref a10 :: .int 1 :: .ref a11 :: .int 0 :: .ref a12 :: .int 0 :: .int 0 :: .null :: .int 0 :: .int 0 :: .int 0 :: .int 0 :: .ref a13 :: .ref a14 :: .ref a15 :: .int (-1) :: .int 0 :: .int 0 :: .int 0 :: .int 0 :: .int 0 :: .int 0 :: .int 0 :: .ref a16 :: .int 0 :: .ref a17 :: .int 0 :: .ref a18 :: .ref a19 :: .int 0 :: .int 0 :: .int 0 :: .int 0 :: .ref a20 :: .ref a21 :: .ref a22 :: .ref a23 :: .ref a24 :: .ref a25 :: .ref a26 :: .ref a27 :: .ref a28 :: .int 0 :: .ref a29 :: .ref a30 :: .ref a31 :: .long 0 :: .int 0 :: .int 0 :: .int 0 :: .long 0 :: .int 0 :: .ref a32 :: .int 0 :: .int 0 :: .int 0 :: .int 0 :: .ref a33 :: .ref a34 :: .ref a35 :: [])))]) (sz := sz) (mc := 0) (ms := 0) (Qc := fun A => nQi D y (fun r _ => r = 1) (fun u => [(a0, .inr (12, (.int 0 :: .ref a1 :: .ref a2 :: .ref a3 :: .ref a4 :: .ref a5 :: .ref a6 :: .ref a7 :: .int 0 :: .ref a8 :: .int 0 :: .ref a9 :: .ref a10 :: .int 1 :: .ref a11 :: .int 0 :: .ref a12 :: .int 0 :: .int 0 :: .null :: .int 0 :: .int 0 :: .int 0 :: .int 0 :: .ref a13 :: .ref a14 :: .ref a15 :: .int (-1) :: .int 0 :: .int 0 :: .int 0 :: .int 0 :: .int 0 :: .int 0 :: .int 0 :: .ref a16 :: .int 0 :: .ref a17 :: .int 0 :: .ref a18 :: .ref a19 :: .int 0 :: .int 0 :: .int 0 :: .int 0 :: .ref a20 :: .ref a21 :: .ref a22 :: .ref a23 :: .ref a24 :: .ref a25 :: .ref a26 :: .ref a27 :: .ref a28 :: .int 0 :: .ref a29 :: .ref a30 :: .ref a31 :: .long 0 :: .int 0 :: .int 0 :: .int 0 :: .long 0 :: .int 0 :: .ref a32 :: .int 0 :: .int 0 :: .int 0 :: .int 0 :: .ref a33 :: .ref a34 :: .ref a35 :: [])))]) A) (cc := cX12_isLine) (maxL := 8) (ret := (some .boolean)) (by decide +kernel) rfl (Nat.le_of_ble_eq_true rfl) ?_
  intro p e s m below meth c A ls H hx hb hr hml hts hown hlocks hnm hsz hP hK hD hA hS hE hAe hl
  replace hl : lv_has ls 8 [(0, .ref a0), (1, .long 1)] := hl
  have hown : s.vm.findClass RX12 = some m.cls := hown
  have w_0 := hts (.fieldLink RX12 140 "SoldToBehindModel" "many" "I") (gt_k wd_6_201)
  refine lv_iconst (v := 0) hx hb dX12_isLine_0 (by decide +kernel) ?_
  refine lv_istore_n (lv' := [(3, .int 0), (0, .ref a0), (1, .long 1)]) hx hb dX12_isLine_1 rfl hl (by decide +kernel) rfl (fun ls hl => ?_)
  refine lv_lload_n hx hb dX12_isLine_2 rfl (lv_at hl 2 rfl) ?_
  refine lv_lstore (lv' := [(4, .long 1), (3, .int 0), (0, .ref a0), (1, .long 1)]) hx hb dX12_isLine_3 hl (by decide +kernel) rfl (fun ls hl => ?_)
  refine lv_iconst (v := 0) hx hb dX12_isLine_5 (by decide +kernel) ?_
  refine lv_istore (lv' := [(6, .int 0), (4, .long 1), (3, .int 0), (0, .ref a0), (1, .long 1)]) hx hb dX12_isLine_6 hl (by decide +kernel) rfl (fun ls hl => ?_)
  refine lv_lload hx hb dX12_isLine_8 (lv_at hl 1 rfl) ?_
  refine lv_lconst (v := 1) hx hb dX12_isLine_10 (by decide +kernel) ?_
  refine W.lcmp hx hb dX12_isLine_11 ?_
  refine nv_i (v := 0) (by decide +kernel) ?_
  refine lv_if_le (tgt := 72) hx hb dX12_isLine_12 (by decide +kernel) (fun _ => ?_) (fun c => absurd (by decide +kernel) c)
  refine lv_lload hx hb dX12_isLine_72 (lv_at hl 1 rfl) ?_
  refine lv_lconst (v := 1) hx hb dX12_isLine_74 (by decide +kernel) ?_
  refine W.lcmp hx hb dX12_isLine_75 ?_
  refine nv_i (v := 0) (by decide +kernel) ?_
  refine lv_if_ne (tgt := 92) hx hb dX12_isLine_76 (by decide +kernel) (fun c => absurd (by decide +kernel) c) (fun _ => ?_)
  refine lv_iload hx hb dX12_isLine_79 (lv_at hl 0 rfl) ?_
  refine lv_aload_n hx hb dX12_isLine_81 rfl (lv_at hl 3 rfl) ?_
  refine va_get (D := D) (ci := 12) (v := .int 0) (C := RX12) (T := TX12) (N := 72) hx hb hts (gt_c iG_X12) hown hK hP 0 rfl rfl 8 (by decide +kernel) w_0 (fun _ h9 => h9) rfl dX12_isLine_82 ?_
  refine lv_icmp_ne (tgt := 92) hx hb dX12_isLine_85 (by decide +kernel) (fun c => absurd (by decide +kernel) c) (fun _ => ?_)
  refine lv_iconst (v := 1) hx hb dX12_isLine_88 (by decide +kernel) ?_
  refine lv_goto (tgt := 93) hx hb dX12_isLine_89 (by decide +kernel) ?_
  refine W.widen (k := 0) (n := 0) (Nat.le_of_ble_eq_true rfl) (Nat.le_of_ble_eq_true rfl) ?_
  exact W.zret (v := 1) hx hb hr (by decide +kernel) (fun t ht hW => ⟨⟨1, (fun _ => 0), rfl, rfl, by rw [ht]; exact hP, va_K.moved hW.alike hK, hD⟩, hS.F ht⟩) hS.2.2 dX12_isLine_93 hlocks
set_option maxRecDepth 100000 in
set_option maxHeartbeats 4000000 in
theorem cX12_codeOf_1 (l : Launch) (D : va_G) (y : Nat → ClassId) (a0 : Nat) (a1 : Nat) (a2 : Nat) (a3 : Nat) (a4 : Nat) (a5 : Nat) (a6 : Nat) (a7 : Nat) (a8 : Nat) (a9 : Nat) (a10 : Nat) (a11 : Nat) (a12 : Nat) (a13 : Nat) (a14 : Nat) (a15 : Nat) (a16 : Nat) (a17 : Nat) (a18 : Nat) (a19 : Nat) (a20 : Nat) (a21 : Nat) (a22 : Nat) (a23 : Nat) (a24 : Nat) (a25 : Nat) (a26 : Nat) (a27 : Nat) (a28 : Nat) (a29 : Nat) (a30 : Nat) (a31 : Nat) (a32 : Nat) (a33 : Nat) (a34 : Nat) (a35 : Nat) (sz : Nat) : Met l yX12_codeOf wsX12_codeOf { frames := 2, cells := 0, slots := 0, locals := 200 } (nPc D y nT [.ref a0, .int 0] [(a0, .inr (12, (.int 0 :: .ref a1 :: .ref a2 :: .ref a3 :: .ref a4 :: .ref a5 :: .ref a6 :: .ref a7 :: .int 0 :: .ref a8 :: .int 0 :: .ref a9 :: .ref a10 :: .int 1 :: .ref a11 :: .int 0 :: .ref a12 :: .int 0 :: .int 0 :: .null :: .int 0 :: .int 0 :: .int 0 :: .int 0 :: .ref a13 :: .ref a14 :: .ref a15 :: .int (-1) :: .int 0 :: .int 0 :: .int 0 :: .int 0 :: .int 0 :: .int 0 :: .int 0 :: .ref a16 :: .int 0 :: .ref a17 :: .int 0 :: .ref a18 :: .ref a19 :: .int 0 :: .int 0 :: .int 0 :: .int 0 :: .ref a20 :: .ref a21 :: .ref a22 :: .ref a23 :: .ref a24 :: .ref a25 :: .ref a26 :: .ref a27 :: .ref a28 :: .int 1 :: .ref a29 :: .ref a30 :: .ref a31 :: .long 0 :: .int 0 :: .int 0 :: .int 0 :: .long 0 :: .int 0 :: .ref a32 :: .int 0 :: .int 0 :: .int 0 :: .int 0 :: .ref a33 :: .ref a34 :: .ref a35 :: [])))] sz) ((fun A => nQl D y (fun r _ => r = 1) (fun u => [(a0, .inr (12, (.int 0 :: .ref a1 :: .ref a2 :: .ref a3 :: .ref a4 :: .ref a5 :: .ref a6 :: .ref a7 :: .int 0 :: .ref a8 :: .int 0 :: .ref a9 :: .ref a10 :: .int 1 :: .ref a11 :: .int 0 :: .ref a12 :: .int 0 :: .int 0 :: .null :: .int 0 :: .int 0 :: .int 0 :: .int 0 :: .ref a13 :: .ref a14 :: .ref a15 :: .int (-1) :: .int 0 :: .int 0 :: .int 0 :: .int 0 :: .int 0 :: .int 0 :: .int 0 :: .ref a16 :: .int 0 :: .ref a17 :: .int 0 :: .ref a18 :: .ref a19 :: .int 0 :: .int 0 :: .int 0 :: .int 0 :: .ref a20 :: .ref a21 :: .ref a22 :: .ref a23 :: .ref a24 :: .ref a25 :: .ref a26 :: .ref a27 :: .ref a28 :: .int 1 :: .ref a29 :: .ref a30 :: .ref a31 :: .long 0 :: .int 0 :: .int 0 :: .int 0 :: .long 0 :: .int 0 :: .ref a32 :: .int 0 :: .int 0 :: .int 0 :: .int 0 :: .ref a33 :: .ref a34 :: .ref a35 :: [])))]) A) (va_A [(a0, .inr (12, (.int 0 :: .ref a1 :: .ref a2 :: .ref a3 :: .ref a4 :: .ref a5 :: .ref a6 :: .ref a7 :: .int 0 :: .ref a8 :: .int 0 :: .ref a9 :: .ref a10 :: .int 1 :: .ref a11 :: .int 0 :: .ref a12 :: .int 0 :: .int 0 :: .null :: .int 0 :: .int 0 :: .int 0 :: .int 0 :: .ref a13 :: .ref a14 :: .ref a15 :: .int (-1) :: .int 0 :: .int 0 :: .int 0 :: .int 0 :: .int 0 :: .int 0 :: .int 0 :: .ref a16 :: .int 0 :: .ref a17 :: .int 0 :: .ref a18 :: .ref a19 :: .int 0 :: .int 0 :: .int 0 :: .int 0 :: .ref a20 :: .ref a21 :: .ref a22 :: .ref a23 :: .ref a24 :: .ref a25 :: .ref a26 :: .ref a27 :: .ref a28 :: .int 1 :: .ref a29 :: .ref a30 :: .ref a31 :: .long 0 :: .int 0 :: .int 0 :: .int 0 :: .long 0 :: .int 0 :: .ref a32 :: .int 0 :: .int 0 :: .int 0 :: .int 0 :: .ref a33 :: .ref a34 :: .ref a35 :: [])))] sz)) 0 0 (va_A [(a0, .inr (12, (.int 0 :: .ref a1 :: .ref a2 :: .ref a3 :: .ref a4 :: .ref a5 :: .ref a6 :: .ref a7 :: .int 0 :: .ref a8 :: .int 0 :: .ref a9 :: .ref a10 :: .int 1 :: .ref a11 :: .int 0 :: .ref a12 :: .int 0 :: .int 0 :: .null :: .int 0 :: .int 0 :: .int 0 :: .int 0 :: .ref a13 :: .ref a14 :: .ref a15 :: .int (-1) :: .int 0 :: .int 0 :: .int 0 :: .int 0 :: .int 0 :: .int 0 :: .int 0 :: .ref a16 :: .int 0 :: .ref a17 :: .int 0 :: .ref a18 :: .ref a19 :: .int 0 :: .int 0 :: .int 0 :: .int 0 :: .ref a20 :: .ref a21 :: .ref a22 :: .ref a23 :: .ref a24 :: .ref a25 :: .ref a26 :: .ref a27 :: .ref a28 :: .int 1 :: .ref a29 :: .ref a30 :: .ref a31 :: .long 0 :: .int 0 :: .int 0 :: .int 0 :: .long 0 :: .int 0 :: .ref a32 :: .int 0 :: .int 0 :: .int 0 :: .int 0 :: .ref a33 :: .ref a34 :: .ref a35 :: [])))] sz) := by
  refine nm_ofW (D := D) (y := y) (E := nT) (yy := yX12_codeOf) (wsy := wsX12_codeOf) (rm := { frames := 2, cells := 0, slots := 0, locals := 200 }) (as := [.ref a0, .int 0]) (ws := [(a0, .inr (12, (.int 0 :: .ref a1 :: .ref a2 :: .ref a3 :: .ref a4 :: .ref a5 :: .ref a6 :: .ref a7 :: .int 0 :: .ref a8 :: .int 0 :: .ref a9 :: .ref a10 :: .int 1 :: .ref a11 :: .int 0 :: .ref a12 :: .int 0 :: .int 0 :: .null :: .int 0 :: .int 0 :: .int 0 :: .int 0 :: .ref a13 :: .ref a14 :: .ref a15 :: .int (-1) :: .int 0 :: .int 0 :: .int 0 :: .int 0 :: .int 0 :: .int 0 :: .int 0 :: .ref a16 :: .int 0 :: .ref a17 :: .int 0 :: .ref a18 :: .ref a19 :: .int 0 :: .int 0 :: .int 0 :: .int 0 :: .ref a20 :: .ref a21 :: .ref a22 :: .ref a23 :: .ref a24 :: .ref a25 :: .ref a26 :: .ref a27 :: .ref a28 :: .int 1 :: .ref a29 :: .ref a30 :: .ref a31 :: .long 0 :: .int 0 :: .int 0 :: .int 0 :: .long 0 :: .int 0 :: .ref a32 :: .int 0 :: .int 0 :: .int 0 :: .int 0 :: .ref a33 :: .ref a34 :: .ref a35 :: [])))]) (sz := sz) (mc := 0) (ms := 0) (Qc := fun A => nQl D y (fun r _ => r = 1) (fun u => [(a0, .inr (12, (.int 0 :: .ref a1 :: .ref a2 :: .ref a3 :: .ref a4 :: .ref a5 :: .ref a6 :: .ref a7 :: .int 0 :: .ref a8 :: .int 0 :: .ref a9 :: .ref a10 :: .int 1 :: .ref a11 :: .int 0 :: .ref a12 :: .int 0 :: .int 0 :: .null :: .int 0 :: .int 0 :: .int 0 :: .int 0 :: .ref a13 :: .ref a14 :: .ref a15 :: .int (-1) :: .int 0 :: .int 0 :: .int 0 :: .int 0 :: .int 0 :: .int 0 :: .int 0 :: .ref a16 :: .int 0 :: .ref a17 :: .int 0 :: .ref a18 :: .ref a19 :: .int 0 :: .int 0 :: .int 0 :: .int 0 :: .ref a20 :: .ref a21 :: .ref a22 :: .ref a23 :: .ref a24 :: .ref a25 :: .ref a26 :: .ref a27 :: .ref a28 :: .int 1 :: .ref a29 :: .ref a30 :: .ref a31 :: .long 0 :: .int 0 :: .int 0 :: .int 0 :: .long 0 :: .int 0 :: .ref a32 :: .int 0 :: .int 0 :: .int 0 :: .int 0 :: .ref a33 :: .ref a34 :: .ref a35 :: [])))]) A) (cc := cX12_codeOf) (maxL := 5) (ret := (some .long)) (by decide +kernel) rfl (Nat.le_of_ble_eq_true rfl) ?_
  intro p e s m below meth c A ls H hx hb hr hml hts hown hlocks hnm hsz hP hK hD hA hS hE hAe hl
  replace hl : lv_has ls 5 [(0, .ref a0), (1, .int 0)] := hl
  have hown : s.vm.findClass RX12 = some m.cls := hown
  have w_0 := hts (.fieldLink RX12 140 "SoldToBehindModel" "many" "I") (gt_k wd_6_201)
  refine lv_lconst (v := 1) hx hb dX12_codeOf_0 (by decide +kernel) ?_
  refine lv_lstore_n (lv' := [(2, .long 1), (0, .ref a0), (1, .int 0)]) hx hb dX12_codeOf_1 rfl hl (by decide +kernel) rfl (fun ls hl => ?_)
  refine lv_iconst (v := 0) hx hb dX12_codeOf_2 (by decide +kernel) ?_
  refine lv_istore (lv' := [(4, .int 0), (2, .long 1), (0, .ref a0), (1, .int 0)]) hx hb dX12_codeOf_3 hl (by decide +kernel) rfl (fun ls hl => ?_)
  refine lv_iload hx hb dX12_codeOf_5 (lv_at hl 0 rfl) ?_
  refine lv_aload_n hx hb dX12_codeOf_7 rfl (lv_at hl 2 rfl) ?_
  refine va_get (D := D) (ci := 12) (v := .int 0) (C := RX12) (T := TX12) (N := 72) hx hb hts (gt_c iG_X12) hown hK hP 0 rfl rfl 8 (by decide +kernel) w_0 (fun _ h9 => h9) rfl dX12_codeOf_8 ?_
  refine lv_icmp_ge (tgt := 40) hx hb dX12_codeOf_11 (by decide +kernel) (fun _ => ?_) (fun c => absurd (by decide +kernel) c)
  refine lv_lload_n hx hb dX12_codeOf_40 rfl (lv_at hl 1 rfl) ?_
  refine W.widen (k := 0) (n := 0) (Nat.le_of_ble_eq_true rfl) (Nat.le_of_ble_eq_true rfl) ?_
  exact W.lret (v := 1) hx hb hr (fun t ht hW => ⟨⟨1, (fun _ => 0), rfl, rfl, by rw [ht]; exact hP, va_K.moved hW.alike hK, hD⟩, hS.F ht⟩) hS.2.2 dX12_codeOf_41 hlocks
set_option maxRecDepth 100000 in
set_option maxHeartbeats 4000000 in
theorem cX12_cheapest_3 (l : Launch) (D : va_G) (y : Nat → ClassId) (a0 : Nat) (a1 : Nat) (a2 : Nat) (a3 : Nat) (a4 : Nat) (a5 : Nat) (a6 : Nat) (a7 : Nat) (a8 : Nat) (a9 : Nat) (a10 : Nat) (a11 : Nat) (a12 : Nat) (a13 : Nat) (a14 : Nat) (a15 : Nat) (a16 : Nat) (a17 : Nat) (a18 : Nat) (a19 : Nat) (a20 : Nat) (a21 : Nat) (a22 : Nat) (a23 : Nat) (a24 : Nat) (a25 : Nat) (a26 : Nat) (a27 : Nat) (a28 : Nat) (a29 : Nat) (a30 : Nat) (a31 : Nat) (a32 : Nat) (a33 : Nat) (a34 : Nat) (a35 : Nat) (sz : Nat) : Met l yX12_cheapest wsX12_cheapest { frames := 5, cells := 0, slots := 0, locals := 271 } (nPc D y nT [.ref a0, .long 1] [(a0, .inr (12, (.int 0 :: .ref a1 :: .ref a2 :: .ref a3 :: .ref a4 :: .ref a5 :: .ref a6 :: .ref a7 :: .int 0 :: .ref a8 :: .int 0 :: .ref a9 :: .ref a10 :: .int 1 :: .ref a11 :: .int 0 :: .ref a12 :: .int 0 :: .int 0 :: .null :: .int 0 :: .int 0 :: .int 0 :: .int 0 :: .ref a13 :: .ref a14 :: .ref a15 :: .int (-1) :: .int 0 :: .int 0 :: .int 0 :: .int 0 :: .int 0 :: .int 0 :: .int 0 :: .ref a16 :: .int 0 :: .ref a17 :: .int 0 :: .ref a18 :: .ref a19 :: .int 0 :: .int 0 :: .int 0 :: .int 0 :: .ref a20 :: .ref a21 :: .ref a22 :: .ref a23 :: .ref a24 :: .ref a25 :: .ref a26 :: .ref a27 :: .ref a28 :: .int 0 :: .ref a29 :: .ref a30 :: .ref a31 :: .long 0 :: .int 0 :: .int 0 :: .int 0 :: .long 0 :: .int 0 :: .ref a32 :: .int 0 :: .int 0 :: .int 0 :: .int 0 :: .ref a33 :: .ref a34 :: .ref a35 :: []))), (a7, .inl (y 0, 9, .inl nz)), (a17, .inl (y 0, 9, .inl nz)), (a1, .inl (y 0, 9, .inl nz)), (a18, .inl (y 0, 9, .inl nz)), (a6, .inl (y 0, 9, .inl nz)), (a19, .inl (y 0, 9, .inl nz)), (a29, .inl (y 0, 8192, .inl nz)), (a23, .inl (y 0, 2000, .inl nz)), (a25, .inl (y 0, 2000, .inl nz)), (a27, .inl (y 1, 2000, .inr (.inl nzl))), (a20, .inl (y 0, 18000, .inl nz)), (a21, .inl (y 0, 18000, .inl nz)), (a22, .inl (y 0, 18000, .inl nz)), (a24, .inl (y 0, 2000, .inl nz)), (a30, .inl (y 0, 2000, .inl nz)), (a28, .inl (y 2, 2000, .inl nz))] sz) ((fun A => nQi D y (fun r _ => r = 0) (fun u => [(a24, .inl (y 0, 2000, .inl nz)), (a30, .inl (y 0, 2000, .inl nz)), (a28, .inl (y 2, 2000, .inl (upd nz 0 1))), (a23, .inl (y 0, 2000, .inl nz)), (a25, .inl (y 0, 2000, .inl (upd nz 0 (-1)))), (a27, .inl (y 1, 2000, .inr (.inl (vp_updL nzl 0 1)))), (a29, .inl (y 0, 8192, .inl (upd nz 7 1))), (a20, .inl (y 0, 18000, .inl nz)), (a21, .inl (y 0, 18000, .inl nz)), (a22, .inl (y 0, 18000, .inl nz)), (a17, .inl (y 0, 9, .inl nz)), (a7, .inl (y 0, 9, .inl nz)), (a18, .inl (y 0, 9, .inl nz)), (a1, .inl (y 0, 9, .inl nz)), (a19, .inl (y 0, 9, .inl nz)), (a6, .inl (y 0, 9, .inl nz)), (a0, .inr (12, (.int 0 :: .ref a1 :: .ref a2 :: .ref a3 :: .ref a4 :: .ref a5 :: .ref a6 :: .ref a7 :: .int 0 :: .ref a8 :: .int 0 :: .ref a9 :: .ref a10 :: .int 1 :: .ref a11 :: .int 0 :: .ref a12 :: .int 0 :: .int 0 :: .null :: .int 0 :: .int 0 :: .int 0 :: .int 0 :: .ref a13 :: .ref a14 :: .ref a15 :: .int (-1) :: .int 0 :: .int 0 :: .int 0 :: .int 0 :: .int 0 :: .int 0 :: .int 0 :: .ref a16 :: .int 0 :: .ref a17 :: .int 0 :: .ref a18 :: .ref a19 :: .int 0 :: .int 0 :: .int 0 :: .int 0 :: .ref a20 :: .ref a21 :: .ref a22 :: .ref a23 :: .ref a24 :: .ref a25 :: .ref a26 :: .ref a27 :: .ref a28 :: .int 1 :: .ref a29 :: .ref a30 :: .ref a31 :: .long 0 :: .int 0 :: .int 0 :: .int 0 :: .long 0 :: .int 0 :: .ref a32 :: .int 0 :: .int 0 :: .int 0 :: .int 0 :: .ref a33 :: .ref a34 :: .ref a35 :: [])))]) A) (va_A [(a0, .inr (12, (.int 0 :: .ref a1 :: .ref a2 :: .ref a3 :: .ref a4 :: .ref a5 :: .ref a6 :: .ref a7 :: .int 0 :: .ref a8 :: .int 0 :: .ref a9 :: .ref a10 :: .int 1 :: .ref a11 :: .int 0 :: .ref a12 :: .int 0 :: .int 0 :: .null :: .int 0 :: .int 0 :: .int 0 :: .int 0 :: .ref a13 :: .ref a14 :: .ref a15 :: .int (-1) :: .int 0 :: .int 0 :: .int 0 :: .int 0 :: .int 0 :: .int 0 :: .int 0 :: .ref a16 :: .int 0 :: .ref a17 :: .int 0 :: .ref a18 :: .ref a19 :: .int 0 :: .int 0 :: .int 0 :: .int 0 :: .ref a20 :: .ref a21 :: .ref a22 :: .ref a23 :: .ref a24 :: .ref a25 :: .ref a26 :: .ref a27 :: .ref a28 :: .int 0 :: .ref a29 :: .ref a30 :: .ref a31 :: .long 0 :: .int 0 :: .int 0 :: .int 0 :: .long 0 :: .int 0 :: .ref a32 :: .int 0 :: .int 0 :: .int 0 :: .int 0 :: .ref a33 :: .ref a34 :: .ref a35 :: []))), (a7, .inl (y 0, 9, .inl nz)), (a17, .inl (y 0, 9, .inl nz)), (a1, .inl (y 0, 9, .inl nz)), (a18, .inl (y 0, 9, .inl nz)), (a6, .inl (y 0, 9, .inl nz)), (a19, .inl (y 0, 9, .inl nz)), (a29, .inl (y 0, 8192, .inl nz)), (a23, .inl (y 0, 2000, .inl nz)), (a25, .inl (y 0, 2000, .inl nz)), (a27, .inl (y 1, 2000, .inr (.inl nzl))), (a20, .inl (y 0, 18000, .inl nz)), (a21, .inl (y 0, 18000, .inl nz)), (a22, .inl (y 0, 18000, .inl nz)), (a24, .inl (y 0, 2000, .inl nz)), (a30, .inl (y 0, 2000, .inl nz)), (a28, .inl (y 2, 2000, .inl nz))] sz)) 0 0 (va_A [(a0, .inr (12, (.int 0 :: .ref a1 :: .ref a2 :: .ref a3 :: .ref a4 :: .ref a5 :: .ref a6 :: .ref a7 :: .int 0 :: .ref a8 :: .int 0 :: .ref a9 :: .ref a10 :: .int 1 :: .ref a11 :: .int 0 :: .ref a12 :: .int 0 :: .int 0 :: .null :: .int 0 :: .int 0 :: .int 0 :: .int 0 :: .ref a13 :: .ref a14 :: .ref a15 :: .int (-1) :: .int 0 :: .int 0 :: .int 0 :: .int 0 :: .int 0 :: .int 0 :: .int 0 :: .ref a16 :: .int 0 :: .ref a17 :: .int 0 :: .ref a18 :: .ref a19 :: .int 0 :: .int 0 :: .int 0 :: .int 0 :: .ref a20 :: .ref a21 :: .ref a22 :: .ref a23 :: .ref a24 :: .ref a25 :: .ref a26 :: .ref a27 :: .ref a28 :: .int 0 :: .ref a29 :: .ref a30 :: .ref a31 :: .long 0 :: .int 0 :: .int 0 :: .int 0 :: .long 0 :: .int 0 :: .ref a32 :: .int 0 :: .int 0 :: .int 0 :: .int 0 :: .ref a33 :: .ref a34 :: .ref a35 :: []))), (a7, .inl (y 0, 9, .inl nz)), (a17, .inl (y 0, 9, .inl nz)), (a1, .inl (y 0, 9, .inl nz)), (a18, .inl (y 0, 9, .inl nz)), (a6, .inl (y 0, 9, .inl nz)), (a19, .inl (y 0, 9, .inl nz)), (a29, .inl (y 0, 8192, .inl nz)), (a23, .inl (y 0, 2000, .inl nz)), (a25, .inl (y 0, 2000, .inl nz)), (a27, .inl (y 1, 2000, .inr (.inl nzl))), (a20, .inl (y 0, 18000, .inl nz)), (a21, .inl (y 0, 18000, .inl nz)), (a22, .inl (y 0, 18000, .inl nz)), (a24, .inl (y 0, 2000, .inl nz)), (a30, .inl (y 0, 2000, .inl nz)), (a28, .inl (y 2, 2000, .inl nz))] sz) := by
  refine nm_ofW (D := D) (y := y) (E := nT) (yy := yX12_cheapest) (wsy := wsX12_cheapest) (rm := { frames := 5, cells := 0, slots := 0, locals := 271 }) (as := [.ref a0, .long 1]) (ws := [(a0, .inr (12, (.int 0 :: .ref a1 :: .ref a2 :: .ref a3 :: .ref a4 :: .ref a5 :: .ref a6 :: .ref a7 :: .int 0 :: .ref a8 :: .int 0 :: .ref a9 :: .ref a10 :: .int 1 :: .ref a11 :: .int 0 :: .ref a12 :: .int 0 :: .int 0 :: .null :: .int 0 :: .int 0 :: .int 0 :: .int 0 :: .ref a13 :: .ref a14 :: .ref a15 :: .int (-1) :: .int 0 :: .int 0 :: .int 0 :: .int 0 :: .int 0 :: .int 0 :: .int 0 :: .ref a16 :: .int 0 :: .ref a17 :: .int 0 :: .ref a18 :: .ref a19 :: .int 0 :: .int 0 :: .int 0 :: .int 0 :: .ref a20 :: .ref a21 :: .ref a22 :: .ref a23 :: .ref a24 :: .ref a25 :: .ref a26 :: .ref a27 :: .ref a28 :: .int 0 :: .ref a29 :: .ref a30 :: .ref a31 :: .long 0 :: .int 0 :: .int 0 :: .int 0 :: .long 0 :: .int 0 :: .ref a32 :: .int 0 :: .int 0 :: .int 0 :: .int 0 :: .ref a33 :: .ref a34 :: .ref a35 :: []))), (a7, .inl (y 0, 9, .inl nz)), (a17, .inl (y 0, 9, .inl nz)), (a1, .inl (y 0, 9, .inl nz)), (a18, .inl (y 0, 9, .inl nz)), (a6, .inl (y 0, 9, .inl nz)), (a19, .inl (y 0, 9, .inl nz)), (a29, .inl (y 0, 8192, .inl nz)), (a23, .inl (y 0, 2000, .inl nz)), (a25, .inl (y 0, 2000, .inl nz)), (a27, .inl (y 1, 2000, .inr (.inl nzl))), (a20, .inl (y 0, 18000, .inl nz)), (a21, .inl (y 0, 18000, .inl nz)), (a22, .inl (y 0, 18000, .inl nz)), (a24, .inl (y 0, 2000, .inl nz)), (a30, .inl (y 0, 2000, .inl nz)), (a28, .inl (y 2, 2000, .inl nz))]) (sz := sz) (mc := 0) (ms := 0) (Qc := fun A => nQi D y (fun r _ => r = 0) (fun u => [(a24, .inl (y 0, 2000, .inl nz)), (a30, .inl (y 0, 2000, .inl nz)), (a28, .inl (y 2, 2000, .inl (upd nz 0 1))), (a23, .inl (y 0, 2000, .inl nz)), (a25, .inl (y 0, 2000, .inl (upd nz 0 (-1)))), (a27, .inl (y 1, 2000, .inr (.inl (vp_updL nzl 0 1)))), (a29, .inl (y 0, 8192, .inl (upd nz 7 1))), (a20, .inl (y 0, 18000, .inl nz)), (a21, .inl (y 0, 18000, .inl nz)), (a22, .inl (y 0, 18000, .inl nz)), (a17, .inl (y 0, 9, .inl nz)), (a7, .inl (y 0, 9, .inl nz)), (a18, .inl (y 0, 9, .inl nz)), (a1, .inl (y 0, 9, .inl nz)), (a19, .inl (y 0, 9, .inl nz)), (a6, .inl (y 0, 9, .inl nz)), (a0, .inr (12, (.int 0 :: .ref a1 :: .ref a2 :: .ref a3 :: .ref a4 :: .ref a5 :: .ref a6 :: .ref a7 :: .int 0 :: .ref a8 :: .int 0 :: .ref a9 :: .ref a10 :: .int 1 :: .ref a11 :: .int 0 :: .ref a12 :: .int 0 :: .int 0 :: .null :: .int 0 :: .int 0 :: .int 0 :: .int 0 :: .ref a13 :: .ref a14 :: .ref a15 :: .int (-1) :: .int 0 :: .int 0 :: .int 0 :: .int 0 :: .int 0 :: .int 0 :: .int 0 :: .ref a16 :: .int 0 :: .ref a17 :: .int 0 :: .ref a18 :: .ref a19 :: .int 0 :: .int 0 :: .int 0 :: .int 0 :: .ref a20 :: .ref a21 :: .ref a22 :: .ref a23 :: .ref a24 :: .ref a25 :: .ref a26 :: .ref a27 :: .ref a28 :: .int 1 :: .ref a29 :: .ref a30 :: .ref a31 :: .long 0 :: .int 0 :: .int 0 :: .int 0 :: .long 0 :: .int 0 :: .ref a32 :: .int 0 :: .int 0 :: .int 0 :: .int 0 :: .ref a33 :: .ref a34 :: .ref a35 :: [])))]) A) (cc := cX12_cheapest) (maxL := 7) (ret := (some .int)) (by decide +kernel) rfl (Nat.le_of_ble_eq_true rfl) ?_
  intro p e s m below meth c A ls H hx hb hr hml hts hown hlocks hnm hsz hP hK hD hA hS hE hAe hl
  replace hl : lv_has ls 7 [(0, .ref a0), (1, .long 1)] := hl
  have hown : s.vm.findClass RX12 = some m.cls := hown
  have w_0 := hts (.fieldLink RX12 127 "SoldToBehindModel" "thrown" "I") (gt_k wd_6_211)
  have w_1 := hts (.fieldLink RX12 381 "SoldToBehindModel" "states" "I") (gt_k wd_7_7)
  have w_2 := hts (.fieldLink RX12 88 "SoldToBehindModel" "depth" "[I") (gt_k wd_7_1)
  have w_3 := hts (.fieldLink RX12 130 "SoldToBehindModel" "rowMany" "I") (gt_k wd_6_210)
  have w_4 := hts (.fieldLink RX12 91 "SoldToBehindModel" "paid" "[I") (gt_k wd_7_2)
  refine lv_aload_n hx hb dX12_cheapest_0 rfl (lv_at hl 0 rfl) ?_
  refine lv_iconst (v := 0) hx hb dX12_cheapest_1 (by decide +kernel) ?_
  refine nb_put (D := D) (ci := 12) (v := .int 0) (ty := .int) (C := RX12) (T := TX12) (N := 72) (ws' := [(a0, .inr (12, (.int 0 :: .ref a1 :: .ref a2 :: .ref a3 :: .ref a4 :: .ref a5 :: .ref a6 :: .ref a7 :: .int 0 :: .ref a8 :: .int 0 :: .ref a9 :: .ref a10 :: .int 1 :: .ref a11 :: .int 0 :: .ref a12 :: .int 0 :: .int 0 :: .null :: .int 0 :: .int 0 :: .int 0 :: .int 0 :: .ref a13 :: .ref a14 :: .ref a15 :: .int (-1) :: .int 0 :: .int 0 :: .int 0 :: .int 0 :: .int 0 :: .int 0 :: .int 0 :: .ref a16 :: .int 0 :: .ref a17 :: .int 0 :: .ref a18 :: .ref a19 :: .int 0 :: .int 0 :: .int 0 :: .int 0 :: .ref a20 :: .ref a21 :: .ref a22 :: .ref a23 :: .ref a24 :: .ref a25 :: .ref a26 :: .ref a27 :: .ref a28 :: .int 0 :: .ref a29 :: .ref a30 :: .ref a31 :: .long 0 :: .int 0 :: .int 0 :: .int 0 :: .long 0 :: .int 0 :: .ref a32 :: .int 0 :: .int 0 :: .int 0 :: .int 0 :: .ref a33 :: .ref a34 :: .ref a35 :: []))), (a7, .inl (y 0, 9, .inl nz)), (a17, .inl (y 0, 9, .inl nz)), (a1, .inl (y 0, 9, .inl nz)), (a18, .inl (y 0, 9, .inl nz)), (a6, .inl (y 0, 9, .inl nz)), (a19, .inl (y 0, 9, .inl nz)), (a29, .inl (y 0, 8192, .inl nz)), (a23, .inl (y 0, 2000, .inl nz)), (a25, .inl (y 0, 2000, .inl nz)), (a27, .inl (y 1, 2000, .inr (.inl nzl))), (a20, .inl (y 0, 18000, .inl nz)), (a21, .inl (y 0, 18000, .inl nz)), (a22, .inl (y 0, 18000, .inl nz)), (a24, .inl (y 0, 2000, .inl nz)), (a30, .inl (y 0, 2000, .inl nz)), (a28, .inl (y 2, 2000, .inl nz))]) hx hb hts (gt_c iG_X12) tyX12 tyX12_ok nmX12 hown hK hP hD hS 0 rfl rfl 18 (by decide +kernel) w_0 (fun _ h9 => h9) rfl (by decide +kernel) rfl rfl (Nat.le_of_ble_eq_true rfl) rfl dX12_cheapest_2 (fun H locs hP hD hS => ?_)
  refine lv_aload_n hx hb dX12_cheapest_5 rfl (lv_at hl 0 rfl) ?_
  refine lv_lload_n hx hb dX12_cheapest_6 rfl (lv_at hl 1 rfl) ?_
  refine nj_i (ws := [(a0, .inr (12, (.int 0 :: .ref a1 :: .ref a2 :: .ref a3 :: .ref a4 :: .ref a5 :: .ref a6 :: .ref a7 :: .int 0 :: .ref a8 :: .int 0 :: .ref a9 :: .ref a10 :: .int 1 :: .ref a11 :: .int 0 :: .ref a12 :: .int 0 :: .int 0 :: .null :: .int 0 :: .int 0 :: .int 0 :: .int 0 :: .ref a13 :: .ref a14 :: .ref a15 :: .int (-1) :: .int 0 :: .int 0 :: .int 0 :: .int 0 :: .int 0 :: .int 0 :: .int 0 :: .ref a16 :: .int 0 :: .ref a17 :: .int 0 :: .ref a18 :: .ref a19 :: .int 0 :: .int 0 :: .int 0 :: .int 0 :: .ref a20 :: .ref a21 :: .ref a22 :: .ref a23 :: .ref a24 :: .ref a25 :: .ref a26 :: .ref a27 :: .ref a28 :: .int 0 :: .ref a29 :: .ref a30 :: .ref a31 :: .long 0 :: .int 0 :: .int 0 :: .int 0 :: .long 0 :: .int 0 :: .ref a32 :: .int 0 :: .int 0 :: .int 0 :: .int 0 :: .ref a33 :: .ref a34 :: .ref a35 :: []))), (a7, .inl (y 0, 9, .inl nz)), (a17, .inl (y 0, 9, .inl nz)), (a1, .inl (y 0, 9, .inl nz)), (a18, .inl (y 0, 9, .inl nz)), (a6, .inl (y 0, 9, .inl nz)), (a19, .inl (y 0, 9, .inl nz)), (a29, .inl (y 0, 8192, .inl nz)), (a23, .inl (y 0, 2000, .inl nz)), (a25, .inl (y 0, 2000, .inl nz)), (a27, .inl (y 1, 2000, .inr (.inl nzl))), (a20, .inl (y 0, 18000, .inl nz)), (a21, .inl (y 0, 18000, .inl nz)), (a22, .inl (y 0, 18000, .inl nz)), (a24, .inl (y 0, 2000, .inl nz)), (a30, .inl (y 0, 2000, .inl nz)), (a28, .inl (y 2, 2000, .inl nz))]) (wc := [(a0, .inr (12, (.int 0 :: .ref a1 :: .ref a2 :: .ref a3 :: .ref a4 :: .ref a5 :: .ref a6 :: .ref a7 :: .int 0 :: .ref a8 :: .int 0 :: .ref a9 :: .ref a10 :: .int 1 :: .ref a11 :: .int 0 :: .ref a12 :: .int 0 :: .int 0 :: .null :: .int 0 :: .int 0 :: .int 0 :: .int 0 :: .ref a13 :: .ref a14 :: .ref a15 :: .int (-1) :: .int 0 :: .int 0 :: .int 0 :: .int 0 :: .int 0 :: .int 0 :: .int 0 :: .ref a16 :: .int 0 :: .ref a17 :: .int 0 :: .ref a18 :: .ref a19 :: .int 0 :: .int 0 :: .int 0 :: .int 0 :: .ref a20 :: .ref a21 :: .ref a22 :: .ref a23 :: .ref a24 :: .ref a25 :: .ref a26 :: .ref a27 :: .ref a28 :: .int 0 :: .ref a29 :: .ref a30 :: .ref a31 :: .long 0 :: .int 0 :: .int 0 :: .int 0 :: .long 0 :: .int 0 :: .ref a32 :: .int 0 :: .int 0 :: .int 0 :: .int 0 :: .ref a33 :: .ref a34 :: .ref a35 :: [])))]) (wr := [(a7, .inl (y 0, 9, .inl nz)), (a17, .inl (y 0, 9, .inl nz)), (a1, .inl (y 0, 9, .inl nz)), (a18, .inl (y 0, 9, .inl nz)), (a6, .inl (y 0, 9, .inl nz)), (a19, .inl (y 0, 9, .inl nz)), (a29, .inl (y 0, 8192, .inl nz)), (a23, .inl (y 0, 2000, .inl nz)), (a25, .inl (y 0, 2000, .inl nz)), (a27, .inl (y 1, 2000, .inr (.inl nzl))), (a20, .inl (y 0, 18000, .inl nz)), (a21, .inl (y 0, 18000, .inl nz)), (a22, .inl (y 0, 18000, .inl nz)), (a24, .inl (y 0, 2000, .inl nz)), (a30, .inl (y 0, 2000, .inl nz)), (a28, .inl (y 2, 2000, .inl nz))]) (nr_V (As := [.long 1]) (rest := []) ⟨hx, hb, hml, hown, hts⟩ (cX12_isLine_3 l D y a0 a1 a2 a3 a4 a5 a6 a7 a8 a9 a10 a11 a12 a13 a14 a15 a16 a17 a18 a19 a20 a21 a22 a23 a24 a25 a26 a27 a28 a29 a30 a31 a32 a33 a34 a35 H.size) (cwV 1 hts gX12_cheapest_X12_isLine rfl rfl rfl (by decide +kernel) ⟨Nat.le_of_ble_eq_true rfl, Nat.le_of_ble_eq_true rfl⟩) hK hP hD hE [0] rfl (by decide +kernel) 0 12 rfl rfl rfl rfl rfl hl.1 rfl (lv_room (Nat.le_of_ble_eq_true rfl)) dX12_cheapest_7 ⟨Nat.le_of_ble_eq_true rfl, Nat.le_of_ble_eq_true rfl⟩) hP hD hS hA [0] [1, 2, 3, 4, 5, 6, 7, 8, 9, 10, 11, 12, 13, 14, 15, 16] rfl rfl (by decide +kernel) (by decide +kernel) (fun r2 u1 H locs er2 hP hD hS => ?_)
  subst er2
  refine lv_if_ne (tgt := 15) hx hb dX12_cheapest_10 (by decide +kernel) (fun _ => ?_) (fun c => absurd c (by decide +kernel))
  refine lv_aload_n hx hb dX12_cheapest_15 rfl (lv_at hl 0 rfl) ?_
  refine nj_i (ws := [(a7, .inl (y 0, 9, .inl nz)), (a17, .inl (y 0, 9, .inl nz)), (a1, .inl (y 0, 9, .inl nz)), (a18, .inl (y 0, 9, .inl nz)), (a6, .inl (y 0, 9, .inl nz)), (a19, .inl (y 0, 9, .inl nz)), (a29, .inl (y 0, 8192, .inl nz)), (a23, .inl (y 0, 2000, .inl nz)), (a25, .inl (y 0, 2000, .inl nz)), (a27, .inl (y 1, 2000, .inr (.inl nzl))), (a20, .inl (y 0, 18000, .inl nz)), (a21, .inl (y 0, 18000, .inl nz)), (a22, .inl (y 0, 18000, .inl nz)), (a24, .inl (y 0, 2000, .inl nz)), (a30, .inl (y 0, 2000, .inl nz)), (a28, .inl (y 2, 2000, .inl nz)), (a0, .inr (12, (.int 0 :: .ref a1 :: .ref a2 :: .ref a3 :: .ref a4 :: .ref a5 :: .ref a6 :: .ref a7 :: .int 0 :: .ref a8 :: .int 0 :: .ref a9 :: .ref a10 :: .int 1 :: .ref a11 :: .int 0 :: .ref a12 :: .int 0 :: .int 0 :: .null :: .int 0 :: .int 0 :: .int 0 :: .int 0 :: .ref a13 :: .ref a14 :: .ref a15 :: .int (-1) :: .int 0 :: .int 0 :: .int 0 :: .int 0 :: .int 0 :: .int 0 :: .int 0 :: .ref a16 :: .int 0 :: .ref a17 :: .int 0 :: .ref a18 :: .ref a19 :: .int 0 :: .int 0 :: .int 0 :: .int 0 :: .ref a20 :: .ref a21 :: .ref a22 :: .ref a23 :: .ref a24 :: .ref a25 :: .ref a26 :: .ref a27 :: .ref a28 :: .int 0 :: .ref a29 :: .ref a30 :: .ref a31 :: .long 0 :: .int 0 :: .int 0 :: .int 0 :: .long 0 :: .int 0 :: .ref a32 :: .int 0 :: .int 0 :: .int 0 :: .int 0 :: .ref a33 :: .ref a34 :: .ref a35 :: [])))]) (wc := [(a0, .inr (12, (.int 0 :: .ref a1 :: .ref a2 :: .ref a3 :: .ref a4 :: .ref a5 :: .ref a6 :: .ref a7 :: .int 0 :: .ref a8 :: .int 0 :: .ref a9 :: .ref a10 :: .int 1 :: .ref a11 :: .int 0 :: .ref a12 :: .int 0 :: .int 0 :: .null :: .int 0 :: .int 0 :: .int 0 :: .int 0 :: .ref a13 :: .ref a14 :: .ref a15 :: .int (-1) :: .int 0 :: .int 0 :: .int 0 :: .int 0 :: .int 0 :: .int 0 :: .int 0 :: .ref a16 :: .int 0 :: .ref a17 :: .int 0 :: .ref a18 :: .ref a19 :: .int 0 :: .int 0 :: .int 0 :: .int 0 :: .ref a20 :: .ref a21 :: .ref a22 :: .ref a23 :: .ref a24 :: .ref a25 :: .ref a26 :: .ref a27 :: .ref a28 :: .int 0 :: .ref a29 :: .ref a30 :: .ref a31 :: .long 0 :: .int 0 :: .int 0 :: .int 0 :: .long 0 :: .int 0 :: .ref a32 :: .int 0 :: .int 0 :: .int 0 :: .int 0 :: .ref a33 :: .ref a34 :: .ref a35 :: []))), (a7, .inl (y 0, 9, .inl nz)), (a17, .inl (y 0, 9, .inl nz)), (a1, .inl (y 0, 9, .inl nz)), (a18, .inl (y 0, 9, .inl nz)), (a6, .inl (y 0, 9, .inl nz)), (a19, .inl (y 0, 9, .inl nz)), (a29, .inl (y 0, 8192, .inl nz)), (a23, .inl (y 0, 2000, .inl nz)), (a25, .inl (y 0, 2000, .inl nz)), (a27, .inl (y 1, 2000, .inr (.inl nzl))), (a20, .inl (y 0, 18000, .inl nz)), (a21, .inl (y 0, 18000, .inl nz)), (a22, .inl (y 0, 18000, .inl nz)), (a24, .inl (y 0, 2000, .inl nz)), (a30, .inl (y 0, 2000, .inl nz)), (a28, .inl (y 2, 2000, .inl nz))]) (wr := []) (nr_V (As := []) (rest := []) ⟨hx, hb, hml, hown, hts⟩ (cX12_findStates_1 l D y a0 a1 a2 a3 a4 a5 a6 a7 a8 a9 a10 a11 a12 a13 a14 a15 a16 a17 a18 a19 a20 a21 a22 a23 a24 a25 a26 a27 a28 a29 a30 a31 a32 a33 a34 a35 H.size) (cwV 0 hts gX12_cheapest_X12_findStates rfl rfl rfl (by decide +kernel) ⟨Nat.le_of_ble_eq_true rfl, Nat.le_of_ble_eq_true rfl⟩) hK hP hD hE [16, 0, 1, 2, 3, 4, 5, 6, 7, 8, 9, 10, 11, 12, 13, 14, 15] rfl (by decide +kernel) 0 12 rfl rfl rfl rfl rfl hl.1 rfl (lv_room (Nat.le_of_ble_eq_true rfl)) dX12_cheapest_16 ⟨Nat.le_of_ble_eq_true rfl, Nat.le_of_ble_eq_true rfl⟩) hP hD hS hA [16, 0, 1, 2, 3, 4, 5, 6, 7, 8, 9, 10, 11, 12, 13, 14, 15] [] rfl rfl (by decide +kernel) (by decide +kernel) (fun r4 u3 H locs er4 hP hD hS => ?_)
  subst er4
  refine lv_if_ne (tgt := 25) hx hb dX12_cheapest_19 (by decide +kernel) (fun _ => ?_) (fun c => absurd c (by decide +kernel))
  refine lv_iconst (v := (-1)) hx hb dX12_cheapest_25 (by decide +kernel) ?_
  refine lv_istore_n (lv' := [(3, .int (-1)), (0, .ref a0), (1, .long 1)]) hx hb dX12_cheapest_26 rfl hl (by decide +kernel) rfl (fun ls hl => ?_)
  refine lv_iconst (v := 0) hx hb dX12_cheapest_27 (by decide +kernel) ?_
  refine lv_istore (lv' := [(4, .int 0), (3, .int (-1)), (0, .ref a0), (1, .long 1)]) hx hb dX12_cheapest_28 hl (by decide +kernel) rfl (fun ls hl => ?_)
  refine lv_iload hx hb dX12_cheapest_30 (lv_at hl 0 rfl) ?_
  refine lv_aload_n hx hb dX12_cheapest_32 rfl (lv_at hl 2 rfl) ?_
  refine va_get (D := D) (ci := 12) (v := .int 1) (C := RX12) (T := TX12) (N := 72) hx hb hts (gt_c iG_X12) hown hK hP 10 rfl rfl 54 (by decide +kernel) w_1 (fun _ h9 => h9) rfl dX12_cheapest_33 ?_
  refine lv_icmp_ge (tgt := 125) hx hb dX12_cheapest_36 (by decide +kernel) (fun c => absurd c (by decide +kernel)) (fun _ => ?_)
  refine lv_aload_n hx hb dX12_cheapest_39 rfl (lv_at hl 2 rfl) ?_
  refine lv_iload hx hb dX12_cheapest_40 (lv_at hl 0 rfl) ?_
  refine nj_l (ws := [(a24, .inl (y 0, 2000, .inl nz)), (a30, .inl (y 0, 2000, .inl nz)), (a28, .inl (y 2, 2000, .inl (upd nz 0 1))), (a23, .inl (y 0, 2000, .inl nz)), (a25, .inl (y 0, 2000, .inl (upd nz 0 (-1)))), (a27, .inl (y 1, 2000, .inr (.inl (vp_updL nzl 0 1)))), (a29, .inl (y 0, 8192, .inl (upd nz 7 1))), (a20, .inl (y 0, 18000, .inl nz)), (a21, .inl (y 0, 18000, .inl nz)), (a22, .inl (y 0, 18000, .inl nz)), (a0, .inr (12, (.int 0 :: .ref a1 :: .ref a2 :: .ref a3 :: .ref a4 :: .ref a5 :: .ref a6 :: .ref a7 :: .int 0 :: .ref a8 :: .int 0 :: .ref a9 :: .ref a10 :: .int 1 :: .ref a11 :: .int 0 :: .ref a12 :: .int 0 :: .int 0 :: .null :: .int 0 :: .int 0 :: .int 0 :: .int 0 :: .ref a13 :: .ref a14 :: .ref a15 :: .int (-1) :: .int 0 :: .int 0 :: .int 0 :: .int 0 :: .int 0 :: .int 0 :: .int 0 :: .ref a16 :: .int 0 :: .ref a17 :: .int 0 :: .ref a18 :: .ref a19 :: .int 0 :: .int 0 :: .int 0 :: .int 0 :: .ref a20 :: .ref a21 :: .ref a22 :: .ref a23 :: .ref a24 :: .ref a25 :: .ref a26 :: .ref a27 :: .ref a28 :: .int 1 :: .ref a29 :: .ref a30 :: .ref a31 :: .long 0 :: .int 0 :: .int 0 :: .int 0 :: .long 0 :: .int 0 :: .ref a32 :: .int 0 :: .int 0 :: .int 0 :: .int 0 :: .ref a33 :: .ref a34 :: .ref a35 :: []))), (a17, .inl (y 0, 9, .inl nz)), (a7, .inl (y 0, 9, .inl nz)), (a18, .inl (y 0, 9, .inl nz)), (a1, .inl (y 0, 9, .inl nz)), (a19, .inl (y 0, 9, .inl nz)), (a6, .inl (y 0, 9, .inl nz))]) (wc := [(a0, .inr (12, (.int 0 :: .ref a1 :: .ref a2 :: .ref a3 :: .ref a4 :: .ref a5 :: .ref a6 :: .ref a7 :: .int 0 :: .ref a8 :: .int 0 :: .ref a9 :: .ref a10 :: .int 1 :: .ref a11 :: .int 0 :: .ref a12 :: .int 0 :: .int 0 :: .null :: .int 0 :: .int 0 :: .int 0 :: .int 0 :: .ref a13 :: .ref a14 :: .ref a15 :: .int (-1) :: .int 0 :: .int 0 :: .int 0 :: .int 0 :: .int 0 :: .int 0 :: .int 0 :: .ref a16 :: .int 0 :: .ref a17 :: .int 0 :: .ref a18 :: .ref a19 :: .int 0 :: .int 0 :: .int 0 :: .int 0 :: .ref a20 :: .ref a21 :: .ref a22 :: .ref a23 :: .ref a24 :: .ref a25 :: .ref a26 :: .ref a27 :: .ref a28 :: .int 1 :: .ref a29 :: .ref a30 :: .ref a31 :: .long 0 :: .int 0 :: .int 0 :: .int 0 :: .long 0 :: .int 0 :: .ref a32 :: .int 0 :: .int 0 :: .int 0 :: .int 0 :: .ref a33 :: .ref a34 :: .ref a35 :: [])))]) (wr := [(a24, .inl (y 0, 2000, .inl nz)), (a30, .inl (y 0, 2000, .inl nz)), (a28, .inl (y 2, 2000, .inl (upd nz 0 1))), (a23, .inl (y 0, 2000, .inl nz)), (a25, .inl (y 0, 2000, .inl (upd nz 0 (-1)))), (a27, .inl (y 1, 2000, .inr (.inl (vp_updL nzl 0 1)))), (a29, .inl (y 0, 8192, .inl (upd nz 7 1))), (a20, .inl (y 0, 18000, .inl nz)), (a21, .inl (y 0, 18000, .inl nz)), (a22, .inl (y 0, 18000, .inl nz)), (a17, .inl (y 0, 9, .inl nz)), (a7, .inl (y 0, 9, .inl nz)), (a18, .inl (y 0, 9, .inl nz)), (a1, .inl (y 0, 9, .inl nz)), (a19, .inl (y 0, 9, .inl nz)), (a6, .inl (y 0, 9, .inl nz))]) (nr_V (As := [.int 0]) (rest := []) ⟨hx, hb, hml, hown, hts⟩ (cX12_codeOf_1 l D y a0 a1 a2 a3 a4 a5 a6 a7 a8 a9 a10 a11 a12 a13 a14 a15 a16 a17 a18 a19 a20 a21 a22 a23 a24 a25 a26 a27 a28 a29 a30 a31 a32 a33 a34 a35 H.size) (cwV 1 hts gX12_cheapest_X12_codeOf rfl rfl rfl (by decide +kernel) ⟨Nat.le_of_ble_eq_true rfl, Nat.le_of_ble_eq_true rfl⟩) hK hP hD hE [10] rfl (by decide +kernel) 0 12 rfl rfl rfl rfl rfl hl.1 rfl (lv_room (Nat.le_of_ble_eq_true rfl)) dX12_cheapest_42 ⟨Nat.le_of_ble_eq_true rfl, Nat.le_of_ble_eq_true rfl⟩) hP hD hS hA [10] [0, 1, 2, 3, 4, 5, 6, 7, 8, 9, 11, 12, 13, 14, 15, 16] rfl rfl (by decide +kernel) (by decide +kernel) (fun r6 u5 H locs er6 hP hD hS => ?_)
  subst er6
  refine lv_lload_n hx hb dX12_cheapest_45 rfl (lv_at hl 3 rfl) ?_
  refine W.lcmp hx hb dX12_cheapest_46 ?_
  refine nv_i (v := 0) (by decide +kernel) ?_
  refine lv_if_eq (tgt := 53) hx hb dX12_cheapest_47 (by decide +kernel) (fun _ => ?_) (fun c => absurd (by decide +kernel) c)
  refine lv_iload_n hx hb dX12_cheapest_53 rfl (lv_at hl 1 rfl) ?_
  refine lv_iconst (v := (-1)) hx hb dX12_cheapest_54 (by decide +kernel) ?_
  refine lv_icmp_eq (tgt := 116) hx hb dX12_cheapest_55 (by decide +kernel) (fun _ => ?_) (fun c => absurd (by decide +kernel) c)
  refine lv_iload hx hb dX12_cheapest_116 (lv_at hl 0 rfl) ?_
  refine lv_istore_n (lv' := [(3, .int 0), (4, .int 0), (0, .ref a0), (1, .long 1)]) hx hb dX12_cheapest_118 rfl hl (by decide +kernel) rfl (fun ls hl => ?_)
  refine lv_iinc (v := 1) (lv' := [(4, .int 1), (3, .int 0), (0, .ref a0), (1, .long 1)]) hx hb dX12_cheapest_119 hl (k := 1) rfl (by decide +kernel) (by decide +kernel) rfl (fun ls hl => ?_)
  refine lv_goto (tgt := 30) hx hb dX12_cheapest_122 (by decide +kernel) ?_
  refine lv_iload hx hb dX12_cheapest_30 (lv_at hl 0 rfl) ?_
  refine lv_aload_n hx hb dX12_cheapest_32 rfl (lv_at hl 2 rfl) ?_
  refine va_get (D := D) (ci := 12) (v := .int 1) (C := RX12) (T := TX12) (N := 72) hx hb hts (gt_c iG_X12) hown hK hP 16 rfl rfl 54 (by decide +kernel) w_1 (fun _ h9 => h9) rfl dX12_cheapest_33 ?_
  refine lv_icmp_ge (tgt := 125) hx hb dX12_cheapest_36 (by decide +kernel) (fun _ => ?_) (fun c => absurd (by decide +kernel) c)
  refine lv_iload_n hx hb dX12_cheapest_125 rfl (lv_at hl 1 rfl) ?_
  refine lv_iconst (v := (-1)) hx hb dX12_cheapest_126 (by decide +kernel) ?_
  refine lv_icmp_ne (tgt := 133) hx hb dX12_cheapest_127 (by decide +kernel) (fun _ => ?_) (fun c => absurd c (by decide +kernel))
  refine lv_aload_n hx hb dX12_cheapest_133 rfl (lv_at hl 2 rfl) ?_
  refine va_get (D := D) (ci := 12) (v := .ref a23) (C := RX12) (T := TX12) (N := 72) hx hb hts (gt_c iG_X12) hown hK hP 16 rfl rfl 48 (by decide +kernel) w_2 (fun _ h9 => h9) rfl dX12_cheapest_134 ?_
  refine lv_iload_n hx hb dX12_cheapest_137 rfl (lv_at hl 1 rfl) ?_
  refine va_iald hx hb hK hP 3 0 rfl rfl (n_in (by decide +kernel)) dX12_cheapest_138 ?_
  refine nv_i (v := 0) rfl ?_
  refine lv_istore (lv' := [(4, .int 0), (3, .int 0), (0, .ref a0), (1, .long 1)]) hx hb dX12_cheapest_139 hl (by decide +kernel) rfl (fun ls hl => ?_)
  refine lv_iload_n hx hb dX12_cheapest_141 rfl (lv_at hl 1 rfl) ?_
  refine lv_istore (lv' := [(5, .int 0), (4, .int 0), (3, .int 0), (0, .ref a0), (1, .long 1)]) hx hb dX12_cheapest_142 hl (by decide +kernel) rfl (fun ls hl => ?_)
  refine lv_iload hx hb dX12_cheapest_144 (lv_at hl 1 rfl) ?_
  refine lv_iconst (v := 1) hx hb dX12_cheapest_146 (by decide +kernel) ?_
  refine lv_isub hx hb dX12_cheapest_147 ?_
  refine nv_i (v := (-1)) (by decide +kernel) ?_
  refine lv_istore (lv' := [(6, .int (-1)), (5, .int 0), (4, .int 0), (3, .int 0), (0, .ref a0), (1, .long 1)]) hx hb dX12_cheapest_148 hl (by decide +kernel) rfl (fun ls hl => ?_)
  refine lv_iload hx hb dX12_cheapest_150 (lv_at hl 0 rfl) ?_
  refine lv_if_lt (tgt := 184) hx hb dX12_cheapest_152 (by decide +kernel) (fun _ => ?_) (fun c => absurd (by decide +kernel) c)
  refine lv_aload_n hx hb dX12_cheapest_184 rfl (lv_at hl 4 rfl) ?_
  refine lv_iconst (v := 0) hx hb dX12_cheapest_185 (by decide +kernel) ?_
  refine nb_put (D := D) (ci := 12) (v := .int 0) (ty := .int) (C := RX12) (T := TX12) (N := 72) (ws' := [(a24, .inl (y 0, 2000, .inl nz)), (a30, .inl (y 0, 2000, .inl nz)), (a28, .inl (y 2, 2000, .inl (upd nz 0 1))), (a23, .inl (y 0, 2000, .inl nz)), (a25, .inl (y 0, 2000, .inl (upd nz 0 (-1)))), (a27, .inl (y 1, 2000, .inr (.inl (vp_updL nzl 0 1)))), (a29, .inl (y 0, 8192, .inl (upd nz 7 1))), (a20, .inl (y 0, 18000, .inl nz)), (a21, .inl (y 0, 18000, .inl nz)), (a22, .inl (y 0, 18000, .inl nz)), (a17, .inl (y 0, 9, .inl nz)), (a7, .inl (y 0, 9, .inl nz)), (a18, .inl (y 0, 9, .inl nz)), (a1, .inl (y 0, 9, .inl nz)), (a19, .inl (y 0, 9, .inl nz)), (a6, .inl (y 0, 9, .inl nz)), (a0, .inr (12, (.int 0 :: .ref a1 :: .ref a2 :: .ref a3 :: .ref a4 :: .ref a5 :: .ref a6 :: .ref a7 :: .int 0 :: .ref a8 :: .int 0 :: .ref a9 :: .ref a10 :: .int 1 :: .ref a11 :: .int 0 :: .ref a12 :: .int 0 :: .int 0 :: .null :: .int 0 :: .int 0 :: .int 0 :: .int 0 :: .ref a13 :: .ref a14 :: .ref a15 :: .int (-1) :: .int 0 :: .int 0 :: .int 0 :: .int 0 :: .int 0 :: .int 0 :: .int 0 :: .ref a16 :: .int 0 :: .ref a17 :: .int 0 :: .ref a18 :: .ref a19 :: .int 0 :: .int 0 :: .int 0 :: .int 0 :: .ref a20 :: .ref a21 :: .ref a22 :: .ref a23 :: .ref a24 :: .ref a25 :: .ref a26 :: .ref a27 :: .ref a28 :: .int 1 :: .ref a29 :: .ref a30 :: .ref a31 :: .long 0 :: .int 0 :: .int 0 :: .int 0 :: .long 0 :: .int 0 :: .ref a32 :: .int 0 :: .int 0 :: .int 0 :: .int 0 :: .ref a33 :: .ref a34 :: .ref a35 :: [])))]) hx hb hts (gt_c iG_X12) tyX12 tyX12_ok nmX12 hown hK hP hD hS 16 rfl rfl 17 (by decide +kernel) w_3 (fun _ h9 => h9) rfl (by decide +kernel) rfl rfl (Nat.le_of_ble_eq_true rfl) rfl dX12_cheapest_186 (fun H locs hP hD hS => ?_)
  refine lv_iconst (v := 0) hx hb dX12_cheapest_189 (by decide +kernel) ?_
  refine lv_istore (lv' := [(6, .int 0), (5, .int 0), (4, .int 0), (3, .int 0), (0, .ref a0), (1, .long 1)]) hx hb dX12_cheapest_190 hl (by decide +kernel) rfl (fun ls hl => ?_)
  refine lv_iload hx hb dX12_cheapest_192 (lv_at hl 0 rfl) ?_
  refine lv_iload hx hb dX12_cheapest_194 (lv_at hl 2 rfl) ?_
  refine lv_icmp_ge (tgt := 224) hx hb dX12_cheapest_196 (by decide +kernel) (fun _ => ?_) (fun c => absurd (by decide +kernel) c)
  refine lv_aload_n hx hb dX12_cheapest_224 rfl (lv_at hl 4 rfl) ?_
  refine va_get (D := D) (ci := 12) (v := .ref a24) (C := RX12) (T := TX12) (N := 72) hx hb hts (gt_c iG_X12) hown hK hP 16 rfl rfl 49 (by decide +kernel) w_4 (fun _ h9 => h9) rfl dX12_cheapest_225 ?_
  refine lv_iload_n hx hb dX12_cheapest_228 rfl (lv_at hl 3 rfl) ?_
  refine va_iald hx hb hK hP 0 0 rfl rfl (n_in (by decide +kernel)) dX12_cheapest_229 ?_
  refine nv_i (v := 0) rfl ?_
  refine W.widen (k := 0) (n := 0) (Nat.le_of_ble_eq_true rfl) (Nat.le_of_ble_eq_true rfl) ?_
  exact W.iret (v := 0) hx hb hr (fun t ht hW => ⟨⟨0, (fun _ => 0), rfl, rfl, by rw [ht]; exact hP, va_K.moved hW.alike hK, hD⟩, hS.F ht⟩) hS.2.2 dX12_cheapest_230 hlocks
set_option maxRecDepth 100000 in
set_option maxHeartbeats 4000000 in
theorem cX4_holds_1 (l : Launch) (D : va_G) (y : Nat → ClassId) (a0 : Nat) (a1 : Nat) (a2 : Nat) (a3 : Nat) (a4 : Nat) (a5 : Nat) (a6 : Nat) (a7 : Nat) (a8 : Nat) (a9 : Nat) (a10 : Nat) (a11 : Nat) (a12 : Nat) (a13 : Nat) (a14 : Nat) (a15 : Nat) (sz : Nat) : Met l yX4_holds wsX4_holds { frames := 2, cells := 0, slots := 0, locals := 200 } (nPc D y nT [.ref a0, .long 1] [(a0, .inr (4, [.ref a1, .ref a2, .ref a3, .int 1, .int 1, .ref a4, .ref a5, .ref a6, .ref a7, .ref a8, .ref a9, .ref a10, .ref a11])), (a1, .inr (2, [.ref a12, .ref a13, .ref a14, .ref a15])), (a12, .inl (y 0, 2001, .inl (upd nz 0 1)))] sz) ((fun A => nQi D y (fun r _ => r = 1) (fun u => [(a0, .inr (4, [.ref a1, .ref a2, .ref a3, .int 1, .int 1, .ref a4, .ref a5, .ref a6, .ref a7, .ref a8, .ref a9, .ref a10, .ref a11])), (a1, .inr (2, [.ref a12, .ref a13, .ref a14, .ref a15])), (a12, .inl (y 0, 2001, .inl (upd nz 0 1)))]) A) (va_A [(a0, .inr (4, [.ref a1, .ref a2, .ref a3, .int 1, .int 1, .ref a4, .ref a5, .ref a6, .ref a7, .ref a8, .ref a9, .ref a10, .ref a11])), (a1, .inr (2, [.ref a12, .ref a13, .ref a14, .ref a15])), (a12, .inl (y 0, 2001, .inl (upd nz 0 1)))] sz)) 0 0 (va_A [(a0, .inr (4, [.ref a1, .ref a2, .ref a3, .int 1, .int 1, .ref a4, .ref a5, .ref a6, .ref a7, .ref a8, .ref a9, .ref a10, .ref a11])), (a1, .inr (2, [.ref a12, .ref a13, .ref a14, .ref a15])), (a12, .inl (y 0, 2001, .inl (upd nz 0 1)))] sz) := by
  refine nm_ofW (D := D) (y := y) (E := nT) (yy := yX4_holds) (wsy := wsX4_holds) (rm := { frames := 2, cells := 0, slots := 0, locals := 200 }) (as := [.ref a0, .long 1]) (ws := [(a0, .inr (4, [.ref a1, .ref a2, .ref a3, .int 1, .int 1, .ref a4, .ref a5, .ref a6, .ref a7, .ref a8, .ref a9, .ref a10, .ref a11])), (a1, .inr (2, [.ref a12, .ref a13, .ref a14, .ref a15])), (a12, .inl (y 0, 2001, .inl (upd nz 0 1)))]) (sz := sz) (mc := 0) (ms := 0) (Qc := fun A => nQi D y (fun r _ => r = 1) (fun u => [(a0, .inr (4, [.ref a1, .ref a2, .ref a3, .int 1, .int 1, .ref a4, .ref a5, .ref a6, .ref a7, .ref a8, .ref a9, .ref a10, .ref a11])), (a1, .inr (2, [.ref a12, .ref a13, .ref a14, .ref a15])), (a12, .inl (y 0, 2001, .inl (upd nz 0 1)))]) A) (cc := cX4_holds) (maxL := 4) (ret := (some .boolean)) (by decide +kernel) rfl (Nat.le_of_ble_eq_true rfl) ?_
  intro p e s m below meth c A ls H hx hb hr hml hts hown hlocks hnm hsz hP hK hD hA hS hE hAe hl
  replace hl : lv_has ls 4 [(0, .ref a0), (1, .long 1)] := hl
  have hown : s.vm.findClass RX4 = some m.cls := hown
  have w_0 := hts (.fieldLink RX4 27 "SoldToBehind$Reach" "count" "I") (gt_k wd_5_15)
  have w_1 := hts (.fieldLink RX4 16 "SoldToBehind$Reach" "store" "LSoldToBehind$Packed;") (gt_k wd_5_9)
  have w_2 := hts (.fieldLink RX4 129 "SoldToBehind$Packed" "code" "[I") (gt_k wd_2_27)
  refine lv_iconst (v := 0) hx hb dX4_holds_0 (by decide +kernel) ?_
  refine lv_istore_n (lv' := [(3, .int 0), (0, .ref a0), (1, .long 1)]) hx hb dX4_holds_1 rfl hl (by decide +kernel) rfl (fun ls hl => ?_)
  refine lv_iload_n hx hb dX4_holds_2 rfl (lv_at hl 0 rfl) ?_
  refine lv_aload_n hx hb dX4_holds_3 rfl (lv_at hl 1 rfl) ?_
  refine va_get (D := D) (ci := 4) (v := .int 1) (C := RX4) (T := TX4) (N := 13) hx hb hts (gt_c iG_X4) hown hK hP 0 rfl rfl 3 (by decide +kernel) w_0 (fun _ h9 => h9) rfl dX4_holds_4 ?_
  refine lv_icmp_ge (tgt := 33) hx hb dX4_holds_7 (by decide +kernel) (fun c => absurd c (by decide +kernel)) (fun _ => ?_)
  refine lv_aload_n hx hb dX4_holds_10 rfl (lv_at hl 1 rfl) ?_
  refine va_get (D := D) (ci := 4) (v := .ref a1) (C := RX4) (T := TX4) (N := 13) hx hb hts (gt_c iG_X4) hown hK hP 0 rfl rfl 0 (by decide +kernel) w_1 (fun _ h9 => h9) rfl dX4_holds_11 ?_
  refine va_get (D := D) (ci := 2) (v := .ref a12) (C := RX2) (T := TX2) (N := 4) hx hb hts (gt_c iG_X2) hown hK hP 1 rfl rfl 0 (by decide +kernel) w_2 (fun _ h9 => h9) rfl dX4_holds_14 ?_
  refine lv_iload_n hx hb dX4_holds_17 rfl (lv_at hl 0 rfl) ?_
  refine va_iald hx hb hK hP 2 0 rfl rfl (n_in (by decide +kernel)) dX4_holds_18 ?_
  refine nv_i (v := 1) rfl ?_
  refine lv_i2l (v := 1) hx hb dX4_holds_19 (by decide +kernel) ?_
  refine lv_lload_n hx hb dX4_holds_20 rfl (lv_at hl 2 rfl) ?_
  refine W.lcmp hx hb dX4_holds_21 ?_
  refine nv_i (v := 0) (by decide +kernel) ?_
  refine lv_if_ne (tgt := 27) hx hb dX4_holds_22 (by decide +kernel) (fun c => absurd (by decide +kernel) c) (fun _ => ?_)
  refine lv_iconst (v := 1) hx hb dX4_holds_25 (by decide +kernel) ?_
  refine W.widen (k := 0) (n := 0) (Nat.le_of_ble_eq_true rfl) (Nat.le_of_ble_eq_true rfl) ?_
  exact W.zret (v := 1) hx hb hr (by decide +kernel) (fun t ht hW => ⟨⟨1, (fun _ => 0), rfl, rfl, by rw [ht]; exact hP, va_K.moved hW.alike hK, hD⟩, hS.F ht⟩) hS.2.2 dX4_holds_26 hlocks
set_option maxRecDepth 100000 in
set_option maxHeartbeats 4000000 in
theorem cJ7_fill_d0a16_1 (l : Launch) (D : va_G) (y : Nat → ClassId) (a0 : Nat) (sz : Nat) : Met l yJ7_fill_d0a16 wsJ7_fill_d0a16 { frames := 2, cells := 0, slots := 0, locals := 200 } (nPc D y nT [.ref a0, .long 0] [(a0, .inl (y 1, 2000, .inr (.inl nzl)))] sz) ((fun A => nQv D y (fun _ => True) (fun u => [(a0, .inl (y 1, 2000, .inr (.inl nzl)))]) A) (va_A [(a0, .inl (y 1, 2000, .inr (.inl nzl)))] sz)) 0 0 (va_A [(a0, .inl (y 1, 2000, .inr (.inl nzl)))] sz) := by
  refine nm_ofW (D := D) (y := y) (E := nT) (yy := yJ7_fill_d0a16) (wsy := wsJ7_fill_d0a16) (rm := { frames := 2, cells := 0, slots := 0, locals := 200 }) (as := [.ref a0, .long 0]) (ws := [(a0, .inl (y 1, 2000, .inr (.inl nzl)))]) (sz := sz) (mc := 0) (ms := 0) (Qc := fun A => nQv D y (fun _ => True) (fun u => [(a0, .inl (y 1, 2000, .inr (.inl nzl)))]) A) (cc := cJ7_fill_d0a16) (maxL := 5) (ret := none) (by decide +kernel) rfl (Nat.le_of_ble_eq_true rfl) ?_
  intro p e s m below meth c A ls H hx hb hr hml hts hown hlocks hnm hsz hP hK hD hA hS hE hAe hl
  replace hl : lv_has ls 5 [(0, .ref a0), (1, .long 0)] := hl
  have hown : s.vm.findClass RJ7 = some m.cls := hown
  refine lv_iconst (v := 0) hx hb dJ7_fill_d0a16_0 (by decide +kernel) ?_
  refine lv_istore_n (lv' := [(3, .int 0), (0, .ref a0), (1, .long 0)]) hx hb dJ7_fill_d0a16_1 rfl hl (by decide +kernel) rfl (fun ls hl => ?_)
  refine lv_aload_n hx hb dJ7_fill_d0a16_2 rfl (lv_at hl 1 rfl) ?_
  refine va_alen (v := 2000) hx hb hK hP 0 1 rfl rfl (by decide +kernel) dJ7_fill_d0a16_3 ?_
  refine lv_istore (lv' := [(4, .int 2000), (3, .int 0), (0, .ref a0), (1, .long 0)]) hx hb dJ7_fill_d0a16_4 hl (by decide +kernel) rfl (fun ls hl => ?_)
  refine n_loop (σ := Nat → Int32) (D := D) (A := A) (H0 := s.heap) (nL := 5) (head := 6) (st := []) (fun i g => [(a0, .inl (y 1, 2000, .inr (.inl nzl)))]) (fun i g => [(4, .int 2000), (3, .int (nI i)), (0, .ref a0), (1, .long 0)]) 2000 ?_ ?_ 0 (by decide +kernel) nz H _ ls hP hD hS hl
  · intro g H locs ls hP hD hS hl
    replace hP : va_P D vwCl [(a0, .inl (y 1, 2000, .inr (.inl nzl)))] H := hP
    replace hD : va_D A [(a0, .inl (y 1, 2000, .inr (.inl nzl)))] := hD
    replace hl : lv_has ls 5 [(4, .int 2000), (3, .int 2000), (0, .ref a0), (1, .long 0)] := hl
    refine lv_iload_n hx hb dJ7_fill_d0a16_6 rfl (lv_at hl 1 rfl) ?_
    refine lv_iload hx hb dJ7_fill_d0a16_7 (lv_at hl 0 rfl) ?_
    refine lv_icmp_ge (tgt := 22) hx hb dJ7_fill_d0a16_9 (by decide +kernel) (fun _ => ?_) (fun c => absurd (by decide +kernel) c)
    refine W.widen (k := 0) (n := 0) (Nat.le_of_ble_eq_true rfl) (Nat.le_of_ble_eq_true rfl) ?_
    exact W.vret hx hb hr (fun t ht hW => ⟨⟨(fun _ => 0), rfl, trivial, by rw [ht]; exact hP, va_K.moved hW.alike hK, hD⟩, hS.F ht⟩) hS.2.2 dJ7_fill_d0a16_22 hlocks
  · intro i1 hi ih g H locs ls hP hD hS hl
    replace hP : va_P D vwCl [(a0, .inl (y 1, 2000, .inr (.inl nzl)))] H := hP
    replace hD : va_D A [(a0, .inl (y 1, 2000, .inr (.inl nzl)))] := hD
    replace hl : lv_has ls 5 [(4, .int 2000), (3, .int (nI i1)), (0, .ref a0), (1, .long 0)] := hl
    have hili1 : (0 : Int32) ≤ nI i1 := nI_pos' (by omega)
    have hihi1 : nI i1 ≤ 1999 := nI_le (b := 1999) (by omega) (by decide +kernel)
    refine lv_iload_n hx hb dJ7_fill_d0a16_6 rfl (lv_at hl 1 rfl) ?_
    refine lv_iload hx hb dJ7_fill_d0a16_7 (lv_at hl 0 rfl) ?_
    refine lv_icmp_ge (tgt := 22) hx hb dJ7_fill_d0a16_9 (by decide +kernel) (fun c => absurd c (q_nge hihi1 (by decide +kernel))) (fun _ => ?_)
    refine lv_aload_n hx hb dJ7_fill_d0a16_12 rfl (lv_at hl 2 rfl) ?_
    refine lv_iload_n hx hb dJ7_fill_d0a16_13 rfl (lv_at hl 1 rfl) ?_
    refine lv_lload_n hx hb dJ7_fill_d0a16_14 rfl (lv_at hl 3 rfl) ?_
    refine nb_last (ws' := [(a0, .inl (y 1, 2000, .inr (.inl nzl)))]) hx hb hK hP hD hS 0 1 rfl rfl (vp_in_nI (by omega) (by decide +kernel)) (by rw [nb_upL (f := nzl) (i := Int32.toNatClampNeg (nI i1)) (x := 0) rfl]; rfl) dJ7_fill_d0a16_15 (fun H locs hP hD hS => ?_)
    refine lv_iinc (v := (nI (i1 + 1))) (lv' := [(3, .int (nI (i1 + 1))), (4, .int 2000), (0, .ref a0), (1, .long 0)]) hx hb dJ7_fill_d0a16_16 hl (k := 1) rfl (nI_inc i1) (by decide +kernel) rfl (fun ls hl => ?_)
    refine lv_goto (tgt := 6) hx hb dJ7_fill_d0a16_19 (by decide +kernel) ?_
    exact ih nz H locs ls (hP.sub [0] rfl) (hD.sub [0] (by decide +kernel) rfl) hS (lv_sub hl [1, 0, 2, 3] rfl)
set_option maxRecDepth 100000 in
set_option maxHeartbeats 4000000 in
theorem cX4_countWays_1 (l : Launch) (D : va_G) (y : Nat → ClassId) (a0 : Nat) (a1 : Nat) (a2 : Nat) (a3 : Nat) (a4 : Nat) (a5 : Nat) (a6 : Nat) (a7 : Nat) (a8 : Nat) (a9 : Nat) (a10 : Nat) (a11 : Nat) (sz : Nat) : Met l yX4_countWays wsX4_countWays { frames := 3, cells := 0, slots := 0, locals := 224 } (nPc D y nT [.ref a0] [(a0, .inr (4, [.ref a1, .ref a2, .ref a3, .int 1, .int 1, .ref a4, .ref a5, .ref a6, .ref a7, .ref a8, .ref a9, .ref a10, .ref a11])), (a9, .inl (y 1, 2000, .inr (.inl nzl))), (a6, .inl (y 0, 16000, .inl (upd (upd (upd (upd (upd (upd (upd (upd nz 0 (-1)) 1 (-1)) 2 (-1)) 3 (-1)) 4 (-1)) 5 (-1)) 6 (-1)) 7 (-1))))] sz) ((fun A => nQv D y (fun _ => True) (fun u => [(a0, .inr (4, [.ref a1, .ref a2, .ref a3, .int 1, .int 1, .ref a4, .ref a5, .ref a6, .ref a7, .ref a8, .ref a9, .ref a10, .ref a11])), (a6, .inl (y 0, 16000, .inl (upd (upd (upd (upd (upd (upd (upd (upd nz 0 (-1)) 1 (-1)) 2 (-1)) 3 (-1)) 4 (-1)) 5 (-1)) 6 (-1)) 7 (-1)))), (a9, .inl (y 1, 2000, .inr (.inl (vp_updL nzl 0 1))))]) A) (va_A [(a0, .inr (4, [.ref a1, .ref a2, .ref a3, .int 1, .int 1, .ref a4, .ref a5, .ref a6, .ref a7, .ref a8, .ref a9, .ref a10, .ref a11])), (a9, .inl (y 1, 2000, .inr (.inl nzl))), (a6, .inl (y 0, 16000, .inl (upd (upd (upd (upd (upd (upd (upd (upd nz 0 (-1)) 1 (-1)) 2 (-1)) 3 (-1)) 4 (-1)) 5 (-1)) 6 (-1)) 7 (-1))))] sz)) 0 0 (va_A [(a0, .inr (4, [.ref a1, .ref a2, .ref a3, .int 1, .int 1, .ref a4, .ref a5, .ref a6, .ref a7, .ref a8, .ref a9, .ref a10, .ref a11])), (a9, .inl (y 1, 2000, .inr (.inl nzl))), (a6, .inl (y 0, 16000, .inl (upd (upd (upd (upd (upd (upd (upd (upd nz 0 (-1)) 1 (-1)) 2 (-1)) 3 (-1)) 4 (-1)) 5 (-1)) 6 (-1)) 7 (-1))))] sz) := by
  refine nm_ofW (D := D) (y := y) (E := nT) (yy := yX4_countWays) (wsy := wsX4_countWays) (rm := { frames := 3, cells := 0, slots := 0, locals := 224 }) (as := [.ref a0]) (ws := [(a0, .inr (4, [.ref a1, .ref a2, .ref a3, .int 1, .int 1, .ref a4, .ref a5, .ref a6, .ref a7, .ref a8, .ref a9, .ref a10, .ref a11])), (a9, .inl (y 1, 2000, .inr (.inl nzl))), (a6, .inl (y 0, 16000, .inl (upd (upd (upd (upd (upd (upd (upd (upd nz 0 (-1)) 1 (-1)) 2 (-1)) 3 (-1)) 4 (-1)) 5 (-1)) 6 (-1)) 7 (-1))))]) (sz := sz) (mc := 0) (ms := 0) (Qc := fun A => nQv D y (fun _ => True) (fun u => [(a0, .inr (4, [.ref a1, .ref a2, .ref a3, .int 1, .int 1, .ref a4, .ref a5, .ref a6, .ref a7, .ref a8, .ref a9, .ref a10, .ref a11])), (a6, .inl (y 0, 16000, .inl (upd (upd (upd (upd (upd (upd (upd (upd nz 0 (-1)) 1 (-1)) 2 (-1)) 3 (-1)) 4 (-1)) 5 (-1)) 6 (-1)) 7 (-1)))), (a9, .inl (y 1, 2000, .inr (.inl (vp_updL nzl 0 1))))]) A) (cc := cX4_countWays) (maxL := 4) (ret := none) (by decide +kernel) rfl (Nat.le_of_ble_eq_true rfl) ?_
  intro p e s m below meth c A ls H hx hb hr hml hts hown hlocks hnm hsz hP hK hD hA hS hE hAe hl
  replace hl : lv_has ls 4 [(0, .ref a0)] := hl
  have hown : s.vm.findClass RX4 = some m.cls := hown
  have w_0 := hts (.fieldLink RX4 51 "SoldToBehind$Reach" "ways" "[J") (gt_k wd_5_24)
  have w_1 := hts (.fieldLink RX4 27 "SoldToBehind$Reach" "count" "I") (gt_k wd_5_15)
  have w_2 := hts (.fieldLink RX4 42 "SoldToBehind$Reach" "out" "[I") (gt_k wd_5_21)
  refine lv_aload_n hx hb dX4_countWays_0 rfl (lv_at hl 0 rfl) ?_
  refine va_get (D := D) (ci := 4) (v := .ref a9) (C := RX4) (T := TX4) (N := 13) hx hb hts (gt_c iG_X4) hown hK hP 0 rfl rfl 10 (by decide +kernel) w_0 (fun _ h9 => h9) rfl dX4_countWays_1 ?_
  refine lv_lconst (v := 0) hx hb dX4_countWays_4 (by decide +kernel) ?_
  refine nj_v (ws := [(a0, .inr (4, [.ref a1, .ref a2, .ref a3, .int 1, .int 1, .ref a4, .ref a5, .ref a6, .ref a7, .ref a8, .ref a9, .ref a10, .ref a11])), (a9, .inl (y 1, 2000, .inr (.inl nzl))), (a6, .inl (y 0, 16000, .inl (upd (upd (upd (upd (upd (upd (upd (upd nz 0 (-1)) 1 (-1)) 2 (-1)) 3 (-1)) 4 (-1)) 5 (-1)) 6 (-1)) 7 (-1))))]) (wc := [(a9, .inl (y 1, 2000, .inr (.inl nzl)))]) (wr := [(a0, .inr (4, [.ref a1, .ref a2, .ref a3, .int 1, .int 1, .ref a4, .ref a5, .ref a6, .ref a7, .ref a8, .ref a9, .ref a10, .ref a11])), (a6, .inl (y 0, 16000, .inl (upd (upd (upd (upd (upd (upd (upd (upd nz 0 (-1)) 1 (-1)) 2 (-1)) 3 (-1)) 4 (-1)) 5 (-1)) 6 (-1)) 7 (-1))))]) (nr_S (As := [.ref a9, .long 0]) (rest := []) ⟨hx, hb, hml, hown, hts⟩ (cJ7_fill_d0a16_1 l D y a9 H.size) (va_cwS 2 hts gX4_countWays_J7_fill_d0a16 rfl rfl rfl (by decide +kernel) ⟨Nat.le_of_ble_eq_true rfl, Nat.le_of_ble_eq_true rfl⟩) hK hP hD hE [1] rfl (by decide +kernel) rfl rfl hl.1 rfl (lv_room (Nat.le_of_ble_eq_true rfl)) dX4_countWays_5 ⟨Nat.le_of_ble_eq_true rfl, Nat.le_of_ble_eq_true rfl⟩) hP hD hS hA [1] [0, 2] rfl rfl (by decide +kernel) (by decide +kernel) (fun u1 H locs _ hP hD hS => ?_)
  refine lv_aload_n hx hb dX4_countWays_8 rfl (lv_at hl 0 rfl) ?_
  refine va_get (D := D) (ci := 4) (v := .ref a9) (C := RX4) (T := TX4) (N := 13) hx hb hts (gt_c iG_X4) hown hK hP 0 rfl rfl 10 (by decide +kernel) w_0 (fun _ h9 => h9) rfl dX4_countWays_9 ?_
  refine lv_iconst (v := 0) hx hb dX4_countWays_12 (by decide +kernel) ?_
  refine lv_lconst (v := 1) hx hb dX4_countWays_13 (by decide +kernel) ?_
  refine nb_last (ws' := [(a0, .inr (4, [.ref a1, .ref a2, .ref a3, .int 1, .int 1, .ref a4, .ref a5, .ref a6, .ref a7, .ref a8, .ref a9, .ref a10, .ref a11])), (a6, .inl (y 0, 16000, .inl (upd (upd (upd (upd (upd (upd (upd (upd nz 0 (-1)) 1 (-1)) 2 (-1)) 3 (-1)) 4 (-1)) 5 (-1)) 6 (-1)) 7 (-1)))), (a9, .inl (y 1, 2000, .inr (.inl (vp_updL nzl 0 1))))]) hx hb hK hP hD hS 2 1 rfl rfl (n_in (by decide +kernel)) rfl dX4_countWays_14 (fun H locs hP hD hS => ?_)
  refine lv_iconst (v := 0) hx hb dX4_countWays_15 (by decide +kernel) ?_
  refine lv_istore_n (lv' := [(1, .int 0), (0, .ref a0)]) hx hb dX4_countWays_16 rfl hl (by decide +kernel) rfl (fun ls hl => ?_)
  refine lv_iload_n hx hb dX4_countWays_17 rfl (lv_at hl 0 rfl) ?_
  refine lv_aload_n hx hb dX4_countWays_18 rfl (lv_at hl 1 rfl) ?_
  refine va_get (D := D) (ci := 4) (v := .int 1) (C := RX4) (T := TX4) (N := 13) hx hb hts (gt_c iG_X4) hown hK hP 0 rfl rfl 3 (by decide +kernel) w_1 (fun _ h9 => h9) rfl dX4_countWays_19 ?_
  refine lv_icmp_ge (tgt := 81) hx hb dX4_countWays_22 (by decide +kernel) (fun c => absurd c (by decide +kernel)) (fun _ => ?_)
  refine lv_iconst (v := 0) hx hb dX4_countWays_25 (by decide +kernel) ?_
  refine lv_istore_n (lv' := [(2, .int 0), (1, .int 0), (0, .ref a0)]) hx hb dX4_countWays_26 rfl hl (by decide +kernel) rfl (fun ls hl => ?_)
  refine lv_iload_n hx hb dX4_countWays_27 rfl (lv_at hl 0 rfl) ?_
  refine lv_bipush (v := 8) hx hb dX4_countWays_28 (by decide +kernel) ?_
  refine lv_icmp_ge (tgt := 75) hx hb dX4_countWays_30 (by decide +kernel) (fun c => absurd c (by decide +kernel)) (fun _ => ?_)
  refine lv_aload_n hx hb dX4_countWays_33 rfl (lv_at hl 2 rfl) ?_
  refine va_get (D := D) (ci := 4) (v := .ref a6) (C := RX4) (T := TX4) (N := 13) hx hb hts (gt_c iG_X4) hown hK hP 0 rfl rfl 7 (by decide +kernel) w_2 (fun _ h9 => h9) rfl dX4_countWays_34 ?_
  refine lv_iload_n hx hb dX4_countWays_37 rfl (lv_at hl 1 rfl) ?_
  refine lv_bipush (v := 8) hx hb dX4_countWays_38 (by decide +kernel) ?_
  refine lv_imul hx hb dX4_countWays_40 ?_
  refine nv_i (v := 0) (by decide +kernel) ?_
  refine lv_iload_n hx hb dX4_countWays_41 rfl (lv_at hl 0 rfl) ?_
  refine lv_iadd hx hb dX4_countWays_42 ?_
  refine nv_i (v := 0) (by decide +kernel) ?_
  refine va_iald hx hb hK hP 1 0 rfl rfl (n_in (by decide +kernel)) dX4_countWays_43 ?_
  refine nv_i (v := (-1)) rfl ?_
  refine lv_istore_n (lv' := [(3, .int (-1)), (2, .int 0), (1, .int 0), (0, .ref a0)]) hx hb dX4_countWays_44 rfl hl (by decide +kernel) rfl (fun ls hl => ?_)
  refine lv_iload_n hx hb dX4_countWays_45 rfl (lv_at hl 0 rfl) ?_
  refine lv_iconst (v := (-1)) hx hb dX4_countWays_46 (by decide +kernel) ?_
  refine lv_icmp_eq (tgt := 69) hx hb dX4_countWays_47 (by decide +kernel) (fun _ => ?_) (fun c => absurd (by decide +kernel) c)
  refine lv_iinc (v := 1) (lv' := [(2, .int 1), (3, .int (-1)), (1, .int 0), (0, .ref a0)]) hx hb dX4_countWays_69 hl (k := 1) rfl (by decide +kernel) (by decide +kernel) rfl (fun ls hl => ?_)
  refine lv_goto (tgt := 27) hx hb dX4_countWays_72 (by decide +kernel) ?_
  refine lv_iload_n hx hb dX4_countWays_27 rfl (lv_at hl 0 rfl) ?_
  refine lv_bipush (v := 8) hx hb dX4_countWays_28 (by decide +kernel) ?_
  refine lv_icmp_ge (tgt := 75) hx hb dX4_countWays_30 (by decide +kernel) (fun c => absurd c (by decide +kernel)) (fun _ => ?_)
  refine lv_aload_n hx hb dX4_countWays_33 rfl (lv_at hl 3 rfl) ?_
  refine va_get (D := D) (ci := 4) (v := .ref a6) (C := RX4) (T := TX4) (N := 13) hx hb hts (gt_c iG_X4) hown hK hP 0 rfl rfl 7 (by decide +kernel) w_2 (fun _ h9 => h9) rfl dX4_countWays_34 ?_
  refine lv_iload_n hx hb dX4_countWays_37 rfl (lv_at hl 2 rfl) ?_
  refine lv_bipush (v := 8) hx hb dX4_countWays_38 (by decide +kernel) ?_
  refine lv_imul hx hb dX4_countWays_40 ?_
  refine nv_i (v := 0) (by decide +kernel) ?_
  refine lv_iload_n hx hb dX4_countWays_41 rfl (lv_at hl 0 rfl) ?_
  refine lv_iadd hx hb dX4_countWays_42 ?_
  refine nv_i (v := 1) (by decide +kernel) ?_
  refine va_iald hx hb hK hP 1 0 rfl rfl (n_in (by decide +kernel)) dX4_countWays_43 ?_
  refine nv_i (v := (-1)) rfl ?_
  refine lv_istore_n (lv' := [(3, .int (-1)), (2, .int 1), (1, .int 0), (0, .ref a0)]) hx hb dX4_countWays_44 rfl hl (by decide +kernel) rfl (fun ls hl => ?_)
  refine lv_iload_n hx hb dX4_countWays_45 rfl (lv_at hl 0 rfl) ?_
  refine lv_iconst (v := (-1)) hx hb dX4_countWays_46 (by decide +kernel) ?_
  refine lv_icmp_eq (tgt := 69) hx hb dX4_countWays_47 (by decide +kernel) (fun _ => ?_) (fun c => absurd (by decide +kernel) c)
  refine lv_iinc (v := 2) (lv' := [(2, .int 2), (3, .int (-1)), (1, .int 0), (0, .ref a0)]) hx hb dX4_countWays_69 hl (k := 1) rfl (by decide +kernel) (by decide +kernel) rfl (fun ls hl => ?_)
  refine lv_goto (tgt := 27) hx hb dX4_countWays_72 (by decide +kernel) ?_
  refine lv_iload_n hx hb dX4_countWays_27 rfl (lv_at hl 0 rfl) ?_
  refine lv_bipush (v := 8) hx hb dX4_countWays_28 (by decide +kernel) ?_
  refine lv_icmp_ge (tgt := 75) hx hb dX4_countWays_30 (by decide +kernel) (fun c => absurd c (by decide +kernel)) (fun _ => ?_)
  refine lv_aload_n hx hb dX4_countWays_33 rfl (lv_at hl 3 rfl) ?_
  refine va_get (D := D) (ci := 4) (v := .ref a6) (C := RX4) (T := TX4) (N := 13) hx hb hts (gt_c iG_X4) hown hK hP 0 rfl rfl 7 (by decide +kernel) w_2 (fun _ h9 => h9) rfl dX4_countWays_34 ?_
  refine lv_iload_n hx hb dX4_countWays_37 rfl (lv_at hl 2 rfl) ?_
  refine lv_bipush (v := 8) hx hb dX4_countWays_38 (by decide +kernel) ?_
  refine lv_imul hx hb dX4_countWays_40 ?_
  refine nv_i (v := 0) (by decide +kernel) ?_
  refine lv_iload_n hx hb dX4_countWays_41 rfl (lv_at hl 0 rfl) ?_
  refine lv_iadd hx hb dX4_countWays_42 ?_
  refine nv_i (v := 2) (by decide +kernel) ?_
  refine va_iald hx hb hK hP 1 0 rfl rfl (n_in (by decide +kernel)) dX4_countWays_43 ?_
  refine nv_i (v := (-1)) rfl ?_
  refine lv_istore_n (lv' := [(3, .int (-1)), (2, .int 2), (1, .int 0), (0, .ref a0)]) hx hb dX4_countWays_44 rfl hl (by decide +kernel) rfl (fun ls hl => ?_)
  refine lv_iload_n hx hb dX4_countWays_45 rfl (lv_at hl 0 rfl) ?_
  refine lv_iconst (v := (-1)) hx hb dX4_countWays_46 (by decide +kernel) ?_
  refine lv_icmp_eq (tgt := 69) hx hb dX4_countWays_47 (by decide +kernel) (fun _ => ?_) (fun c => absurd (by decide +kernel) c)
  refine lv_iinc (v := 3) (lv' := [(2, .int 3), (3, .int (-1)), (1, .int 0), (0, .ref a0)]) hx hb dX4_countWays_69 hl (k := 1) rfl (by decide +kernel) (by decide +kernel) rfl (fun ls hl => ?_)
  refine lv_goto (tgt := 27) hx hb dX4_countWays_72 (by decide +kernel) ?_
  refine lv_iload_n hx hb dX4_countWays_27 rfl (lv_at hl 0 rfl) ?_
  refine lv_bipush (v := 8) hx hb dX4_countWays_28 (by decide +kernel) ?_
  refine lv_icmp_ge (tgt := 75) hx hb dX4_countWays_30 (by decide +kernel) (fun c => absurd c (by decide +kernel)) (fun _ => ?_)
  refine lv_aload_n hx hb dX4_countWays_33 rfl (lv_at hl 3 rfl) ?_
  refine va_get (D := D) (ci := 4) (v := .ref a6) (C := RX4) (T := TX4) (N := 13) hx hb hts (gt_c iG_X4) hown hK hP 0 rfl rfl 7 (by decide +kernel) w_2 (fun _ h9 => h9) rfl dX4_countWays_34 ?_
  refine lv_iload_n hx hb dX4_countWays_37 rfl (lv_at hl 2 rfl) ?_
  refine lv_bipush (v := 8) hx hb dX4_countWays_38 (by decide +kernel) ?_
  refine lv_imul hx hb dX4_countWays_40 ?_
  refine nv_i (v := 0) (by decide +kernel) ?_
  refine lv_iload_n hx hb dX4_countWays_41 rfl (lv_at hl 0 rfl) ?_
  refine lv_iadd hx hb dX4_countWays_42 ?_
  refine nv_i (v := 3) (by decide +kernel) ?_
  refine va_iald hx hb hK hP 1 0 rfl rfl (n_in (by decide +kernel)) dX4_countWays_43 ?_
  refine nv_i (v := (-1)) rfl ?_
  refine lv_istore_n (lv' := [(3, .int (-1)), (2, .int 3), (1, .int 0), (0, .ref a0)]) hx hb dX4_countWays_44 rfl hl (by decide +kernel) rfl (fun ls hl => ?_)
  refine lv_iload_n hx hb dX4_countWays_45 rfl (lv_at hl 0 rfl) ?_
  refine lv_iconst (v := (-1)) hx hb dX4_countWays_46 (by decide +kernel) ?_
  refine lv_icmp_eq (tgt := 69) hx hb dX4_countWays_47 (by decide +kernel) (fun _ => ?_) (fun c => absurd (by decide +kernel) c)
  refine lv_iinc (v := 4) (lv' := [(2, .int 4), (3, .int (-1)), (1, .int 0), (0, .ref a0)]) hx hb dX4_countWays_69 hl (k := 1) rfl (by decide +kernel) (by decide +kernel) rfl (fun ls hl => ?_)
  refine lv_goto (tgt := 27) hx hb dX4_countWays_72 (by decide +kernel) ?_
  refine lv_iload_n hx hb dX4_countWays_27 rfl (lv_at hl 0 rfl) ?_
  refine lv_bipush (v := 8) hx hb dX4_countWays_28 (by decide +kernel) ?_
  refine lv_icmp_ge (tgt := 75) hx hb dX4_countWays_30 (by decide +kernel) (fun c => absurd c (by decide +kernel)) (fun _ => ?_)
  refine lv_aload_n hx hb dX4_countWays_33 rfl (lv_at hl 3 rfl) ?_
  refine va_get (D := D) (ci := 4) (v := .ref a6) (C := RX4) (T := TX4) (N := 13) hx hb hts (gt_c iG_X4) hown hK hP 0 rfl rfl 7 (by decide +kernel) w_2 (fun _ h9 => h9) rfl dX4_countWays_34 ?_
  refine lv_iload_n hx hb dX4_countWays_37 rfl (lv_at hl 2 rfl) ?_
  refine lv_bipush (v := 8) hx hb dX4_countWays_38 (by decide +kernel) ?_
  refine lv_imul hx hb dX4_countWays_40 ?_
  refine nv_i (v := 0) (by decide +kernel) ?_
  refine lv_iload_n hx hb dX4_countWays_41 rfl (lv_at hl 0 rfl) ?_
  refine lv_iadd hx hb dX4_countWays_42 ?_
  refine nv_i (v := 4) (by decide +kernel) ?_
  refine va_iald hx hb hK hP 1 0 rfl rfl (n_in (by decide +kernel)) dX4_countWays_43 ?_
  refine nv_i (v := (-1)) rfl ?_
  refine lv_istore_n (lv' := [(3, .int (-1)), (2, .int 4), (1, .int 0), (0, .ref a0)]) hx hb dX4_countWays_44 rfl hl (by decide +kernel) rfl (fun ls hl => ?_)
  refine lv_iload_n hx hb dX4_countWays_45 rfl (lv_at hl 0 rfl) ?_
  refine lv_iconst (v := (-1)) hx hb dX4_countWays_46 (by decide +kernel) ?_
  refine lv_icmp_eq (tgt := 69) hx hb dX4_countWays_47 (by decide +kernel) (fun _ => ?_) (fun c => absurd (by decide +kernel) c)
  refine lv_iinc (v := 5) (lv' := [(2, .int 5), (3, .int (-1)), (1, .int 0), (0, .ref a0)]) hx hb dX4_countWays_69 hl (k := 1) rfl (by decide +kernel) (by decide +kernel) rfl (fun ls hl => ?_)
  refine lv_goto (tgt := 27) hx hb dX4_countWays_72 (by decide +kernel) ?_
  refine lv_iload_n hx hb dX4_countWays_27 rfl (lv_at hl 0 rfl) ?_
  refine lv_bipush (v := 8) hx hb dX4_countWays_28 (by decide +kernel) ?_
  refine lv_icmp_ge (tgt := 75) hx hb dX4_countWays_30 (by decide +kernel) (fun c => absurd c (by decide +kernel)) (fun _ => ?_)
  refine lv_aload_n hx hb dX4_countWays_33 rfl (lv_at hl 3 rfl) ?_
  refine va_get (D := D) (ci := 4) (v := .ref a6) (C := RX4) (T := TX4) (N := 13) hx hb hts (gt_c iG_X4) hown hK hP 0 rfl rfl 7 (by decide +kernel) w_2 (fun _ h9 => h9) rfl dX4_countWays_34 ?_
  refine lv_iload_n hx hb dX4_countWays_37 rfl (lv_at hl 2 rfl) ?_
  refine lv_bipush (v := 8) hx hb dX4_countWays_38 (by decide +kernel) ?_
  refine lv_imul hx hb dX4_countWays_40 ?_
  refine nv_i (v := 0) (by decide +kernel) ?_
  refine lv_iload_n hx hb dX4_countWays_41 rfl (lv_at hl 0 rfl) ?_
  refine lv_iadd hx hb dX4_countWays_42 ?_
  refine nv_i (v := 5) (by decide +kernel) ?_
  refine va_iald hx hb hK hP 1 0 rfl rfl (n_in (by decide +kernel)) dX4_countWays_43 ?_
  refine nv_i (v := (-1)) rfl ?_
  refine lv_istore_n (lv' := [(3, .int (-1)), (2, .int 5), (1, .int 0), (0, .ref a0)]) hx hb dX4_countWays_44 rfl hl (by decide +kernel) rfl (fun ls hl => ?_)
  refine lv_iload_n hx hb dX4_countWays_45 rfl (lv_at hl 0 rfl) ?_
  refine lv_iconst (v := (-1)) hx hb dX4_countWays_46 (by decide +kernel) ?_
  refine lv_icmp_eq (tgt := 69) hx hb dX4_countWays_47 (by decide +kernel) (fun _ => ?_) (fun c => absurd (by decide +kernel) c)
  refine lv_iinc (v := 6) (lv' := [(2, .int 6), (3, .int (-1)), (1, .int 0), (0, .ref a0)]) hx hb dX4_countWays_69 hl (k := 1) rfl (by decide +kernel) (by decide +kernel) rfl (fun ls hl => ?_)
  refine lv_goto (tgt := 27) hx hb dX4_countWays_72 (by decide +kernel) ?_
  refine lv_iload_n hx hb dX4_countWays_27 rfl (lv_at hl 0 rfl) ?_
  refine lv_bipush (v := 8) hx hb dX4_countWays_28 (by decide +kernel) ?_
  refine lv_icmp_ge (tgt := 75) hx hb dX4_countWays_30 (by decide +kernel) (fun c => absurd c (by decide +kernel)) (fun _ => ?_)
  refine lv_aload_n hx hb dX4_countWays_33 rfl (lv_at hl 3 rfl) ?_
  refine va_get (D := D) (ci := 4) (v := .ref a6) (C := RX4) (T := TX4) (N := 13) hx hb hts (gt_c iG_X4) hown hK hP 0 rfl rfl 7 (by decide +kernel) w_2 (fun _ h9 => h9) rfl dX4_countWays_34 ?_
  refine lv_iload_n hx hb dX4_countWays_37 rfl (lv_at hl 2 rfl) ?_
  refine lv_bipush (v := 8) hx hb dX4_countWays_38 (by decide +kernel) ?_
  refine lv_imul hx hb dX4_countWays_40 ?_
  refine nv_i (v := 0) (by decide +kernel) ?_
  refine lv_iload_n hx hb dX4_countWays_41 rfl (lv_at hl 0 rfl) ?_
  refine lv_iadd hx hb dX4_countWays_42 ?_
  refine nv_i (v := 6) (by decide +kernel) ?_
  refine va_iald hx hb hK hP 1 0 rfl rfl (n_in (by decide +kernel)) dX4_countWays_43 ?_
  refine nv_i (v := (-1)) rfl ?_
  refine lv_istore_n (lv' := [(3, .int (-1)), (2, .int 6), (1, .int 0), (0, .ref a0)]) hx hb dX4_countWays_44 rfl hl (by decide +kernel) rfl (fun ls hl => ?_)
  refine lv_iload_n hx hb dX4_countWays_45 rfl (lv_at hl 0 rfl) ?_
  refine lv_iconst (v := (-1)) hx hb dX4_countWays_46 (by decide +kernel) ?_
  refine lv_icmp_eq (tgt := 69) hx hb dX4_countWays_47 (by decide +kernel) (fun _ => ?_) (fun c => absurd (by decide +kernel) c)
  refine lv_iinc (v := 7) (lv' := [(2, .int 7), (3, .int (-1)), (1, .int 0), (0, .ref a0)]) hx hb dX4_countWays_69 hl (k := 1) rfl (by decide +kernel) (by decide +kernel) rfl (fun ls hl => ?_)
  refine lv_goto (tgt := 27) hx hb dX4_countWays_72 (by decide +kernel) ?_
  refine lv_iload_n hx hb dX4_countWays_27 rfl (lv_at hl 0 rfl) ?_
  refine lv_bipush (v := 8) hx hb dX4_countWays_28 (by decide +kernel) ?_
  refine lv_icmp_ge (tgt := 75) hx hb dX4_countWays_30 (by decide +kernel) (fun c => absurd c (by decide +kernel)) (fun _ => ?_)
  refine lv_aload_n hx hb dX4_countWays_33 rfl (lv_at hl 3 rfl) ?_
  refine va_get (D := D) (ci := 4) (v := .ref a6) (C := RX4) (T := TX4) (N := 13) hx hb hts (gt_c iG_X4) hown hK hP 0 rfl rfl 7 (by decide +kernel) w_2 (fun _ h9 => h9) rfl dX4_countWays_34 ?_
  refine lv_iload_n hx hb dX4_countWays_37 rfl (lv_at hl 2 rfl) ?_
  refine lv_bipush (v := 8) hx hb dX4_countWays_38 (by decide +kernel) ?_
  refine lv_imul hx hb dX4_countWays_40 ?_
  refine nv_i (v := 0) (by decide +kernel) ?_
  refine lv_iload_n hx hb dX4_countWays_41 rfl (lv_at hl 0 rfl) ?_
  refine lv_iadd hx hb dX4_countWays_42 ?_
  refine nv_i (v := 7) (by decide +kernel) ?_
  refine va_iald hx hb hK hP 1 0 rfl rfl (n_in (by decide +kernel)) dX4_countWays_43 ?_
  refine nv_i (v := (-1)) rfl ?_
  refine lv_istore_n (lv' := [(3, .int (-1)), (2, .int 7), (1, .int 0), (0, .ref a0)]) hx hb dX4_countWays_44 rfl hl (by decide +kernel) rfl (fun ls hl => ?_)
  refine lv_iload_n hx hb dX4_countWays_45 rfl (lv_at hl 0 rfl) ?_
  refine lv_iconst (v := (-1)) hx hb dX4_countWays_46 (by decide +kernel) ?_
  refine lv_icmp_eq (tgt := 69) hx hb dX4_countWays_47 (by decide +kernel) (fun _ => ?_) (fun c => absurd (by decide +kernel) c)
  refine lv_iinc (v := 8) (lv' := [(2, .int 8), (3, .int (-1)), (1, .int 0), (0, .ref a0)]) hx hb dX4_countWays_69 hl (k := 1) rfl (by decide +kernel) (by decide +kernel) rfl (fun ls hl => ?_)
  refine lv_goto (tgt := 27) hx hb dX4_countWays_72 (by decide +kernel) ?_
  refine lv_iload_n hx hb dX4_countWays_27 rfl (lv_at hl 0 rfl) ?_
  refine lv_bipush (v := 8) hx hb dX4_countWays_28 (by decide +kernel) ?_
  refine lv_icmp_ge (tgt := 75) hx hb dX4_countWays_30 (by decide +kernel) (fun _ => ?_) (fun c => absurd (by decide +kernel) c)
  refine lv_iinc (v := 1) (lv' := [(1, .int 1), (2, .int 8), (3, .int (-1)), (0, .ref a0)]) hx hb dX4_countWays_75 hl (k := 2) rfl (by decide +kernel) (by decide +kernel) rfl (fun ls hl => ?_)
  refine lv_goto (tgt := 17) hx hb dX4_countWays_78 (by decide +kernel) ?_
  refine lv_iload_n hx hb dX4_countWays_17 rfl (lv_at hl 0 rfl) ?_
  refine lv_aload_n hx hb dX4_countWays_18 rfl (lv_at hl 3 rfl) ?_
  refine va_get (D := D) (ci := 4) (v := .int 1) (C := RX4) (T := TX4) (N := 13) hx hb hts (gt_c iG_X4) hown hK hP 0 rfl rfl 3 (by decide +kernel) w_1 (fun _ h9 => h9) rfl dX4_countWays_19 ?_
  refine lv_icmp_ge (tgt := 81) hx hb dX4_countWays_22 (by decide +kernel) (fun _ => ?_) (fun c => absurd (by decide +kernel) c)
  refine W.widen (k := 0) (n := 0) (Nat.le_of_ble_eq_true rfl) (Nat.le_of_ble_eq_true rfl) ?_
  exact W.vret hx hb hr (fun t ht hW => ⟨⟨(fun _ => 0), rfl, trivial, by rw [ht]; exact hP, va_K.moved hW.alike hK, hD⟩, hS.F ht⟩) hS.2.2 dX4_countWays_81 hlocks
