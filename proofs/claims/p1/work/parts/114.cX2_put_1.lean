theorem wd_4_68 : (Cond.methodLink RX2 33 yX2_addPurse) ∈ gT := gt_m4 68 (by decide +kernel) (by decide +kernel)
theorem wd_4_69 : (Cond.instanceMethod yX2_addPurse) ∈ gT := gt_m4 69 (by decide +kernel) (by decide +kernel)
theorem wd_4_70 : (Cond.selects RX2 yX2_addPurse yX2_addPurse) ∈ gT := gt_m4 70 (by decide +kernel) (by decide +kernel)
theorem wd_4_71 : (Cond.code yX2_addPurse cX2_addPurse 4 none) ∈ gT := gt_m4 71 (by decide +kernel) (by decide +kernel)
theorem wd_4_72 : (Cond.methodLink RX2 39 yX2_addSales) ∈ gT := gt_m4 72 (by decide +kernel) (by decide +kernel)
theorem wd_4_73 : (Cond.instanceMethod yX2_addSales) ∈ gT := gt_m4 73 (by decide +kernel) (by decide +kernel)
theorem wd_4_74 : (Cond.selects RX2 yX2_addSales yX2_addSales) ∈ gT := gt_m4 74 (by decide +kernel) (by decide +kernel)
theorem wd_4_75 : (Cond.code yX2_addSales cX2_addSales 4 none) ∈ gT := gt_m4 75 (by decide +kernel) (by decide +kernel)
theorem wd_4_63 : (Cond.methodLink RX2 25 yX7_code) ∈ gT := gt_m4 63 (by decide +kernel) (by decide +kernel)
theorem wd_5_66 : (Cond.methodLink RX4 145 yX2_hash) ∈ gT := gt_m5 66 (by decide +kernel) (by decide +kernel)
theorem wd_5_67 : (Cond.instanceMethod yX2_hash) ∈ gT := gt_m5 67 (by decide +kernel) (by decide +kernel)
theorem wd_5_68 : (Cond.selects RX2 yX2_hash yX2_hash) ∈ gT := gt_m5 68 (by decide +kernel) (by decide +kernel)
theorem wd_5_69 : (Cond.code yX2_hash cX2_hash 5 (some .int)) ∈ gT := gt_m5 69 (by decide +kernel) (by decide +kernel)
theorem wd_4_102 : (Cond.methodLink RX2 49 yX2_purseOf) ∈ gT := gt_m4 102 (by decide +kernel) (by decide +kernel)
theorem wd_4_103 : (Cond.instanceMethod yX2_purseOf) ∈ gT := gt_m4 103 (by decide +kernel) (by decide +kernel)
theorem wd_4_104 : (Cond.selects RX2 yX2_purseOf yX2_purseOf) ∈ gT := gt_m4 104 (by decide +kernel) (by decide +kernel)
theorem wd_4_105 : (Cond.code yX2_purseOf cX2_purseOf 5 (some .int)) ∈ gT := gt_m4 105 (by decide +kernel) (by decide +kernel)
theorem wd_1_211 : (Cond.fieldLink RX2 30 "SoldToBehind$Standing" "purse" "[I") ∈ gT := gt_m1 211 (by decide +kernel) (by decide +kernel)
theorem wd_1_215 : (Cond.fieldLink RX2 37 "SoldToBehind$Standing" "sales" "[I") ∈ gT := gt_m1 215 (by decide +kernel) (by decide +kernel)
theorem wd_5_70 : (Cond.constantLong RX2 53 (-7046029254386353131)) ∈ gT := gt_m5 70 (by decide +kernel) (by decide +kernel)
theorem wd_1_222 : (Cond.fieldLink RX2 42 "SoldToBehind$Standing" "size" "I") ∈ gT := gt_m1 222 (by decide +kernel) (by decide +kernel)
theorem dX2_put_0 : decode cX2_put 0 = .ok (.aload_n 0, 1) := by decide +kernel
theorem dX2_put_1 : decode cX2_put 1 = .ok (.getfield 9, 3) := by decide +kernel
theorem dX2_put_4 : decode cX2_put 4 = .ok (.iload_n 1, 1) := by decide +kernel
theorem dX2_put_5 : decode cX2_put 5 = .ok (.aload_n 2, 1) := by decide +kernel
theorem dX2_put_6 : decode cX2_put 6 = .ok (.invokevirtual 25, 3) := by decide +kernel
theorem dX2_put_9 : decode cX2_put 9 = .ok (.l2i, 1) := by decide +kernel
theorem dX2_put_10 : decode cX2_put 10 = .ok (.iastore, 1) := by decide +kernel
theorem dX2_put_11 : decode cX2_put 11 = .ok (.aload_n 0, 1) := by decide +kernel
theorem dX2_put_12 : decode cX2_put 12 = .ok (.getfield 15, 3) := by decide +kernel
theorem dX2_put_15 : decode cX2_put 15 = .ok (.iload_n 1, 1) := by decide +kernel
theorem dX2_put_16 : decode cX2_put 16 = .ok (.lconst 0, 1) := by decide +kernel
theorem dX2_put_17 : decode cX2_put 17 = .ok (.lastore, 1) := by decide +kernel
theorem dX2_put_18 : decode cX2_put 18 = .ok (.aload_n 0, 1) := by decide +kernel
theorem dX2_put_19 : decode cX2_put 19 = .ok (.getfield 19, 3) := by decide +kernel
theorem dX2_put_22 : decode cX2_put 22 = .ok (.iload_n 1, 1) := by decide +kernel
theorem dX2_put_23 : decode cX2_put 23 = .ok (.lconst 0, 1) := by decide +kernel
theorem dX2_put_24 : decode cX2_put 24 = .ok (.lastore, 1) := by decide +kernel
theorem dX2_put_25 : decode cX2_put 25 = .ok (.aload_n 0, 1) := by decide +kernel
theorem dX2_put_26 : decode cX2_put 26 = .ok (.getfield 22, 3) := by decide +kernel
theorem dX2_put_29 : decode cX2_put 29 = .ok (.iload_n 1, 1) := by decide +kernel
theorem dX2_put_30 : decode cX2_put 30 = .ok (.lconst 0, 1) := by decide +kernel
theorem dX2_put_31 : decode cX2_put 31 = .ok (.lastore, 1) := by decide +kernel
theorem dX2_put_32 : decode cX2_put 32 = .ok (.iconst 0, 1) := by decide +kernel
theorem dX2_put_33 : decode cX2_put 33 = .ok (.istore_n 3, 1) := by decide +kernel
theorem dX2_put_34 : decode cX2_put 34 = .ok (.iload_n 3, 1) := by decide +kernel
theorem dX2_put_35 : decode cX2_put 35 = .ok (.bipush 9, 2) := by decide +kernel
theorem dX2_put_37 : decode cX2_put 37 = .ok (.if_icmp .ge 33, 3) := by decide +kernel
theorem dX2_put_40 : decode cX2_put 40 = .ok (.aload_n 0, 1) := by decide +kernel
theorem dX2_put_41 : decode cX2_put 41 = .ok (.iload_n 1, 1) := by decide +kernel
theorem dX2_put_42 : decode cX2_put 42 = .ok (.iload_n 3, 1) := by decide +kernel
theorem dX2_put_43 : decode cX2_put 43 = .ok (.aload_n 2, 1) := by decide +kernel
theorem dX2_put_44 : decode cX2_put 44 = .ok (.getfield 30, 3) := by decide +kernel
theorem dX2_put_47 : decode cX2_put 47 = .ok (.iload_n 3, 1) := by decide +kernel
theorem dX2_put_48 : decode cX2_put 48 = .ok (.iaload, 1) := by decide +kernel
theorem dX2_put_49 : decode cX2_put 49 = .ok (.invokevirtual 33, 3) := by decide +kernel
theorem dX2_put_52 : decode cX2_put 52 = .ok (.aload_n 0, 1) := by decide +kernel
theorem dX2_put_53 : decode cX2_put 53 = .ok (.iload_n 1, 1) := by decide +kernel
theorem dX2_put_54 : decode cX2_put 54 = .ok (.iload_n 3, 1) := by decide +kernel
theorem dX2_put_55 : decode cX2_put 55 = .ok (.aload_n 2, 1) := by decide +kernel
theorem dX2_put_56 : decode cX2_put 56 = .ok (.getfield 37, 3) := by decide +kernel
theorem dX2_put_59 : decode cX2_put 59 = .ok (.iload_n 3, 1) := by decide +kernel
theorem dX2_put_60 : decode cX2_put 60 = .ok (.iaload, 1) := by decide +kernel
theorem dX2_put_61 : decode cX2_put 61 = .ok (.invokevirtual 39, 3) := by decide +kernel
theorem dX2_put_64 : decode cX2_put 64 = .ok (.iinc 3 1, 3) := by decide +kernel
theorem dX2_put_67 : decode cX2_put 67 = .ok (.goto (-33), 3) := by decide +kernel
theorem dX2_put_70 : decode cX2_put 70 = .ok (.return_, 1) := by decide +kernel
theorem dX2_hash_0 : decode cX2_hash 0 = .ok (.aload_n 0, 1) := by decide +kernel
theorem dX2_hash_1 : decode cX2_hash 1 = .ok (.getfield 9, 3) := by decide +kernel
theorem dX2_hash_4 : decode cX2_hash 4 = .ok (.iload_n 1, 1) := by decide +kernel
theorem dX2_hash_5 : decode cX2_hash 5 = .ok (.iaload, 1) := by decide +kernel
theorem dX2_hash_6 : decode cX2_hash 6 = .ok (.i2l, 1) := by decide +kernel
theorem dX2_hash_7 : decode cX2_hash 7 = .ok (.ldc2_w 53, 3) := by decide +kernel
theorem dX2_hash_10 : decode cX2_hash 10 = .ok (.lmul, 1) := by decide +kernel
theorem dX2_hash_11 : decode cX2_hash 11 = .ok (.aload_n 0, 1) := by decide +kernel
theorem dX2_hash_12 : decode cX2_hash 12 = .ok (.getfield 15, 3) := by decide +kernel
theorem dX2_hash_15 : decode cX2_hash 15 = .ok (.iload_n 1, 1) := by decide +kernel
theorem dX2_hash_16 : decode cX2_hash 16 = .ok (.laload, 1) := by decide +kernel
theorem dX2_hash_17 : decode cX2_hash 17 = .ok (.ladd, 1) := by decide +kernel
theorem dX2_hash_18 : decode cX2_hash 18 = .ok (.ldc2_w 53, 3) := by decide +kernel
theorem dX2_hash_21 : decode cX2_hash 21 = .ok (.lmul, 1) := by decide +kernel
theorem dX2_hash_22 : decode cX2_hash 22 = .ok (.aload_n 0, 1) := by decide +kernel
theorem dX2_hash_23 : decode cX2_hash 23 = .ok (.getfield 19, 3) := by decide +kernel
theorem dX2_hash_26 : decode cX2_hash 26 = .ok (.iload_n 1, 1) := by decide +kernel
theorem dX2_hash_27 : decode cX2_hash 27 = .ok (.laload, 1) := by decide +kernel
theorem dX2_hash_28 : decode cX2_hash 28 = .ok (.ladd, 1) := by decide +kernel
theorem dX2_hash_29 : decode cX2_hash 29 = .ok (.ldc2_w 53, 3) := by decide +kernel
theorem dX2_hash_32 : decode cX2_hash 32 = .ok (.lmul, 1) := by decide +kernel
theorem dX2_hash_33 : decode cX2_hash 33 = .ok (.aload_n 0, 1) := by decide +kernel
theorem dX2_hash_34 : decode cX2_hash 34 = .ok (.getfield 22, 3) := by decide +kernel
theorem dX2_hash_37 : decode cX2_hash 37 = .ok (.iload_n 1, 1) := by decide +kernel
theorem dX2_hash_38 : decode cX2_hash 38 = .ok (.laload, 1) := by decide +kernel
theorem dX2_hash_39 : decode cX2_hash 39 = .ok (.ladd, 1) := by decide +kernel
theorem dX2_hash_40 : decode cX2_hash 40 = .ok (.lstore_n 3, 1) := by decide +kernel
theorem dX2_hash_41 : decode cX2_hash 41 = .ok (.lload_n 3, 1) := by decide +kernel
theorem dX2_hash_42 : decode cX2_hash 42 = .ok (.ldc2_w 53, 3) := by decide +kernel
theorem dX2_hash_45 : decode cX2_hash 45 = .ok (.lmul, 1) := by decide +kernel
theorem dX2_hash_46 : decode cX2_hash 46 = .ok (.bipush 64, 2) := by decide +kernel
theorem dX2_hash_48 : decode cX2_hash 48 = .ok (.iload_n 2, 1) := by decide +kernel
theorem dX2_hash_49 : decode cX2_hash 49 = .ok (.isub, 1) := by decide +kernel
theorem dX2_hash_50 : decode cX2_hash 50 = .ok (.lushr, 1) := by decide +kernel
theorem dX2_hash_51 : decode cX2_hash 51 = .ok (.l2i, 1) := by decide +kernel
theorem dX2_hash_52 : decode cX2_hash 52 = .ok (.ireturn, 1) := by decide +kernel
theorem dX4_indexOf_0 : decode cX4_indexOf 0 = .ok (.aload_n 0, 1) := by decide +kernel
theorem dX4_indexOf_1 : decode cX4_indexOf 1 = .ok (.getfield 16, 3) := by decide +kernel
theorem dX4_indexOf_4 : decode cX4_indexOf 4 = .ok (.iload_n 1, 1) := by decide +kernel
theorem dX4_indexOf_5 : decode cX4_indexOf 5 = .ok (.bipush 12, 2) := by decide +kernel
theorem dX4_indexOf_7 : decode cX4_indexOf 7 = .ok (.invokevirtual 145, 3) := by decide +kernel
theorem dX4_indexOf_10 : decode cX4_indexOf 10 = .ok (.istore_n 2, 1) := by decide +kernel
theorem dX4_indexOf_11 : decode cX4_indexOf 11 = .ok (.iconst 0, 1) := by decide +kernel
theorem dX4_indexOf_12 : decode cX4_indexOf 12 = .ok (.istore_n 3, 1) := by decide +kernel
theorem dX4_indexOf_13 : decode cX4_indexOf 13 = .ok (.iload_n 3, 1) := by decide +kernel
theorem dX4_indexOf_14 : decode cX4_indexOf 14 = .ok (.sipush 4096, 3) := by decide +kernel
theorem dX4_indexOf_17 : decode cX4_indexOf 17 = .ok (.if_icmp .ge 54, 3) := by decide +kernel
theorem dX4_indexOf_20 : decode cX4_indexOf 20 = .ok (.aload_n 0, 1) := by decide +kernel
theorem dX4_indexOf_21 : decode cX4_indexOf 21 = .ok (.getfield 55, 3) := by decide +kernel
theorem dX4_indexOf_24 : decode cX4_indexOf 24 = .ok (.iload_n 2, 1) := by decide +kernel
theorem dX4_indexOf_25 : decode cX4_indexOf 25 = .ok (.iaload, 1) := by decide +kernel
theorem dX4_indexOf_26 : decode cX4_indexOf 26 = .ok (.ifCond .eq 45, 3) := by decide +kernel
theorem dX4_indexOf_71 : decode cX4_indexOf 71 = .ok (.iload_n 1, 1) := by decide +kernel
theorem dX4_indexOf_72 : decode cX4_indexOf 72 = .ok (.sipush 2000, 3) := by decide +kernel
theorem dX4_indexOf_75 : decode cX4_indexOf 75 = .ok (.if_icmp .lt 5, 3) := by decide +kernel
theorem dX4_indexOf_80 : decode cX4_indexOf 80 = .ok (.aload_n 0, 1) := by decide +kernel
theorem dX4_indexOf_81 : decode cX4_indexOf 81 = .ok (.getfield 55, 3) := by decide +kernel
theorem dX4_indexOf_84 : decode cX4_indexOf 84 = .ok (.iload_n 2, 1) := by decide +kernel
theorem dX4_indexOf_85 : decode cX4_indexOf 85 = .ok (.iload_n 1, 1) := by decide +kernel
theorem dX4_indexOf_86 : decode cX4_indexOf 86 = .ok (.iconst 1, 1) := by decide +kernel
theorem dX4_indexOf_87 : decode cX4_indexOf 87 = .ok (.iadd, 1) := by decide +kernel
theorem dX4_indexOf_88 : decode cX4_indexOf 88 = .ok (.iastore, 1) := by decide +kernel
theorem dX4_indexOf_89 : decode cX4_indexOf 89 = .ok (.aload_n 0, 1) := by decide +kernel
theorem dX4_indexOf_90 : decode cX4_indexOf 90 = .ok (.iload_n 1, 1) := by decide +kernel
theorem dX4_indexOf_91 : decode cX4_indexOf 91 = .ok (.iconst 1, 1) := by decide +kernel
theorem dX4_indexOf_92 : decode cX4_indexOf 92 = .ok (.iadd, 1) := by decide +kernel
theorem dX4_indexOf_93 : decode cX4_indexOf 93 = .ok (.putfield 27, 3) := by decide +kernel
theorem dX4_indexOf_96 : decode cX4_indexOf 96 = .ok (.iload_n 1, 1) := by decide +kernel
theorem dX4_indexOf_97 : decode cX4_indexOf 97 = .ok (.ireturn, 1) := by decide +kernel
theorem dX2_purseOf_0 : decode cX2_purseOf 0 = .ok (.iload_n 2, 1) := by decide +kernel
theorem dX2_purseOf_1 : decode cX2_purseOf 1 = .ok (.bipush 6, 2) := by decide +kernel
theorem dX2_purseOf_3 : decode cX2_purseOf 3 = .ok (.if_icmp .ge 17, 3) := by decide +kernel
theorem dX2_purseOf_6 : decode cX2_purseOf 6 = .ok (.aload_n 0, 1) := by decide +kernel
theorem dX2_purseOf_7 : decode cX2_purseOf 7 = .ok (.getfield 15, 3) := by decide +kernel
theorem dX2_purseOf_10 : decode cX2_purseOf 10 = .ok (.iload_n 1, 1) := by decide +kernel
theorem dX2_purseOf_11 : decode cX2_purseOf 11 = .ok (.laload, 1) := by decide +kernel
theorem dX2_purseOf_12 : decode cX2_purseOf 12 = .ok (.bipush 10, 2) := by decide +kernel
theorem dX2_purseOf_14 : decode cX2_purseOf 14 = .ok (.iload_n 2, 1) := by decide +kernel
theorem dX2_purseOf_15 : decode cX2_purseOf 15 = .ok (.imul, 1) := by decide +kernel
theorem dX2_purseOf_16 : decode cX2_purseOf 16 = .ok (.lshr, 1) := by decide +kernel
theorem dX2_purseOf_17 : decode cX2_purseOf 17 = .ok (.goto 17, 3) := by decide +kernel
theorem dX2_purseOf_20 : decode cX2_purseOf 20 = .ok (.aload_n 0, 1) := by decide +kernel
theorem dX2_purseOf_21 : decode cX2_purseOf 21 = .ok (.getfield 19, 3) := by decide +kernel
theorem dX2_purseOf_24 : decode cX2_purseOf 24 = .ok (.iload_n 1, 1) := by decide +kernel
theorem dX2_purseOf_25 : decode cX2_purseOf 25 = .ok (.laload, 1) := by decide +kernel
theorem dX2_purseOf_26 : decode cX2_purseOf 26 = .ok (.bipush 10, 2) := by decide +kernel
theorem dX2_purseOf_28 : decode cX2_purseOf 28 = .ok (.iload_n 2, 1) := by decide +kernel
theorem dX2_purseOf_29 : decode cX2_purseOf 29 = .ok (.bipush 6, 2) := by decide +kernel
theorem dX2_purseOf_31 : decode cX2_purseOf 31 = .ok (.isub, 1) := by decide +kernel
theorem dX2_purseOf_32 : decode cX2_purseOf 32 = .ok (.imul, 1) := by decide +kernel
theorem dX2_purseOf_33 : decode cX2_purseOf 33 = .ok (.lshr, 1) := by decide +kernel
theorem dX2_purseOf_34 : decode cX2_purseOf 34 = .ok (.lstore_n 3, 1) := by decide +kernel
theorem dX2_purseOf_35 : decode cX2_purseOf 35 = .ok (.lload_n 3, 1) := by decide +kernel
theorem dX2_purseOf_36 : decode cX2_purseOf 36 = .ok (.l2i, 1) := by decide +kernel
theorem dX2_purseOf_37 : decode cX2_purseOf 37 = .ok (.sipush 1023, 3) := by decide +kernel
theorem dX2_purseOf_40 : decode cX2_purseOf 40 = .ok (.iand, 1) := by decide +kernel
theorem dX2_purseOf_41 : decode cX2_purseOf 41 = .ok (.ireturn, 1) := by decide +kernel
theorem dX2_take_0 : decode cX2_take 0 = .ok (.aload_n 0, 1) := by decide +kernel
theorem dX2_take_1 : decode cX2_take 1 = .ok (.getfield 9, 3) := by decide +kernel
theorem dX2_take_4 : decode cX2_take 4 = .ok (.iload_n 1, 1) := by decide +kernel
theorem dX2_take_5 : decode cX2_take 5 = .ok (.iaload, 1) := by decide +kernel
theorem dX2_take_6 : decode cX2_take 6 = .ok (.istore_n 3, 1) := by decide +kernel
theorem dX2_take_7 : decode cX2_take 7 = .ok (.aload_n 2, 1) := by decide +kernel
theorem dX2_take_8 : decode cX2_take 8 = .ok (.getfield 42, 3) := by decide +kernel
theorem dX2_take_11 : decode cX2_take 11 = .ok (.iconst 1, 1) := by decide +kernel
theorem dX2_take_12 : decode cX2_take 12 = .ok (.isub, 1) := by decide +kernel
theorem dX2_take_13 : decode cX2_take 13 = .ok (.istore 4, 2) := by decide +kernel
theorem dX2_take_15 : decode cX2_take 15 = .ok (.iload 4, 2) := by decide +kernel
theorem dX2_take_17 : decode cX2_take 17 = .ok (.ifCond .lt 25, 3) := by decide +kernel
theorem dX2_take_42 : decode cX2_take 42 = .ok (.iconst 0, 1) := by decide +kernel
theorem dX2_take_43 : decode cX2_take 43 = .ok (.istore 4, 2) := by decide +kernel
theorem dX2_take_45 : decode cX2_take 45 = .ok (.iload 4, 2) := by decide +kernel
theorem dX2_take_47 : decode cX2_take 47 = .ok (.bipush 9, 2) := by decide +kernel
theorem dX2_take_49 : decode cX2_take 49 = .ok (.if_icmp .ge 46, 3) := by decide +kernel
theorem dX2_take_52 : decode cX2_take 52 = .ok (.aload_n 2, 1) := by decide +kernel
theorem dX2_take_53 : decode cX2_take 53 = .ok (.getfield 30, 3) := by decide +kernel
theorem dX2_take_56 : decode cX2_take 56 = .ok (.iload 4, 2) := by decide +kernel
theorem dX2_take_58 : decode cX2_take 58 = .ok (.aload_n 0, 1) := by decide +kernel
theorem dX2_take_59 : decode cX2_take 59 = .ok (.iload_n 1, 1) := by decide +kernel
theorem dX2_take_60 : decode cX2_take 60 = .ok (.iload 4, 2) := by decide +kernel
theorem dX2_take_62 : decode cX2_take 62 = .ok (.invokevirtual 49, 3) := by decide +kernel
theorem dX2_take_65 : decode cX2_take 65 = .ok (.iastore, 1) := by decide +kernel
theorem dX2_take_66 : decode cX2_take 66 = .ok (.aload_n 2, 1) := by decide +kernel
theorem dX2_take_67 : decode cX2_take 67 = .ok (.getfield 37, 3) := by decide +kernel
theorem dX2_take_70 : decode cX2_take 70 = .ok (.iload 4, 2) := by decide +kernel
theorem dX2_take_72 : decode cX2_take 72 = .ok (.aload_n 0, 1) := by decide +kernel
theorem dX2_take_73 : decode cX2_take 73 = .ok (.getfield 22, 3) := by decide +kernel
theorem dX2_take_76 : decode cX2_take 76 = .ok (.iload_n 1, 1) := by decide +kernel
theorem dX2_take_77 : decode cX2_take 77 = .ok (.laload, 1) := by decide +kernel
theorem dX2_take_78 : decode cX2_take 78 = .ok (.bipush 7, 2) := by decide +kernel
theorem dX2_take_80 : decode cX2_take 80 = .ok (.iload 4, 2) := by decide +kernel
theorem dX2_take_82 : decode cX2_take 82 = .ok (.imul, 1) := by decide +kernel
theorem dX2_take_83 : decode cX2_take 83 = .ok (.lshr, 1) := by decide +kernel
theorem dX2_take_84 : decode cX2_take 84 = .ok (.l2i, 1) := by decide +kernel
theorem dX2_take_85 : decode cX2_take 85 = .ok (.bipush 127, 2) := by decide +kernel
theorem dX2_take_87 : decode cX2_take 87 = .ok (.iand, 1) := by decide +kernel
theorem dX2_take_88 : decode cX2_take 88 = .ok (.iastore, 1) := by decide +kernel
theorem dX2_take_89 : decode cX2_take 89 = .ok (.iinc 4 1, 3) := by decide +kernel
theorem dX2_take_92 : decode cX2_take 92 = .ok (.goto (-47), 3) := by decide +kernel
theorem dX2_take_95 : decode cX2_take 95 = .ok (.return_, 1) := by decide +kernel
theorem gX2_put_X2_addPurse : GoodIn wsX2_put (wsV RX2 33 RX2 yX2_addPurse wsX2_addPurse) := gi_V wd_4_68 wd_4_69 wd_4_70 wd_1_10 wd_4_71
theorem gX2_put_X2_addSales : GoodIn wsX2_put (wsV RX2 39 RX2 yX2_addSales wsX2_addSales) := gi_V wd_4_72 wd_4_73 wd_4_74 wd_1_10 wd_4_75
theorem gX2_put_X7_code : GoodIn wsX2_put (wsV RX2 25 RX7 yX7_code wsX7_code) := gi_V wd_4_63 wd_4_64 wd_4_65 wd_1_8 wd_4_66
theorem gX4_indexOf_X2_hash : GoodIn wsX4_indexOf (wsV RX4 145 RX2 yX2_hash wsX2_hash) := gi_V wd_5_66 wd_5_67 wd_5_68 wd_1_10 wd_5_69
theorem gX2_take_X2_purseOf : GoodIn wsX2_take (wsV RX2 49 RX2 yX2_purseOf wsX2_purseOf) := gi_V wd_4_102 wd_4_103 wd_4_104 wd_1_10 wd_4_105
set_option maxRecDepth 100000 in
set_option maxHeartbeats 4000000 in
theorem cX2_put_1 (l : Launch) (D : va_G) (y : Nat → ClassId) (a0 : Nat) (a1 : Nat) (a2 : Nat) (a3 : Nat) (a4 : Nat) (a5 : Nat) (a6 : Nat) (a7 : Nat) (a8 : Nat) (a9 : Nat) (a10 : Nat) (a11 : Nat) (a12 : Nat) (a13 : Nat) (sz : Nat) : Met l yX2_put wsX2_put { frames := 3, cells := 0, slots := 0, locals := 223 } (nPc D y nT [.ref a0, .int 0, .ref a1] [(a0, .inr (2, [.ref a2, .ref a3, .ref a4, .ref a5])), (a1, .inr (7, [.ref a6, .ref a7, .ref a8, .ref a9, .int 0, .int 0, .ref a10, .ref a11, .ref a12, .ref a13])), (a2, .inl (y 0, 2001, .inl nz)), (a3, .inl (y 1, 2001, .inr (.inl nzl))), (a4, .inl (y 1, 2001, .inr (.inl nzl))), (a5, .inl (y 1, 2001, .inr (.inl nzl))), (a7, .inl (y 0, 9, .inl nz)), (a8, .inl (y 0, 9, .inl nz))] sz) ((fun A => nQv D y (fun _ => True) (fun u => [(a2, .inl (y 0, 2001, .inl (upd nz 0 1))), (a7, .inl (y 0, 9, .inl nz)), (a8, .inl (y 0, 9, .inl nz)), (a1, .inr (7, [.ref a6, .ref a7, .ref a8, .ref a9, .int 0, .int 0, .ref a10, .ref a11, .ref a12, .ref a13])), (a3, .inl (y 1, 2001, .inr (.inl nzl))), (a4, .inl (y 1, 2001, .inr (.inl nzl))), (a0, .inr (2, [.ref a2, .ref a3, .ref a4, .ref a5])), (a5, .inl (y 1, 2001, .inr (.inl nzl)))]) A) (va_A [(a0, .inr (2, [.ref a2, .ref a3, .ref a4, .ref a5])), (a1, .inr (7, [.ref a6, .ref a7, .ref a8, .ref a9, .int 0, .int 0, .ref a10, .ref a11, .ref a12, .ref a13])), (a2, .inl (y 0, 2001, .inl nz)), (a3, .inl (y 1, 2001, .inr (.inl nzl))), (a4, .inl (y 1, 2001, .inr (.inl nzl))), (a5, .inl (y 1, 2001, .inr (.inl nzl))), (a7, .inl (y 0, 9, .inl nz)), (a8, .inl (y 0, 9, .inl nz))] sz)) 0 0 (va_A [(a0, .inr (2, [.ref a2, .ref a3, .ref a4, .ref a5])), (a1, .inr (7, [.ref a6, .ref a7, .ref a8, .ref a9, .int 0, .int 0, .ref a10, .ref a11, .ref a12, .ref a13])), (a2, .inl (y 0, 2001, .inl nz)), (a3, .inl (y 1, 2001, .inr (.inl nzl))), (a4, .inl (y 1, 2001, .inr (.inl nzl))), (a5, .inl (y 1, 2001, .inr (.inl nzl))), (a7, .inl (y 0, 9, .inl nz)), (a8, .inl (y 0, 9, .inl nz))] sz) := by
  refine nm_ofW (D := D) (y := y) (E := nT) (yy := yX2_put) (wsy := wsX2_put) (rm := { frames := 3, cells := 0, slots := 0, locals := 223 }) (as := [.ref a0, .int 0, .ref a1]) (ws := [(a0, .inr (2, [.ref a2, .ref a3, .ref a4, .ref a5])), (a1, .inr (7, [.ref a6, .ref a7, .ref a8, .ref a9, .int 0, .int 0, .ref a10, .ref a11, .ref a12, .ref a13])), (a2, .inl (y 0, 2001, .inl nz)), (a3, .inl (y 1, 2001, .inr (.inl nzl))), (a4, .inl (y 1, 2001, .inr (.inl nzl))), (a5, .inl (y 1, 2001, .inr (.inl nzl))), (a7, .inl (y 0, 9, .inl nz)), (a8, .inl (y 0, 9, .inl nz))]) (sz := sz) (mc := 0) (ms := 0) (Qc := fun A => nQv D y (fun _ => True) (fun u => [(a2, .inl (y 0, 2001, .inl (upd nz 0 1))), (a7, .inl (y 0, 9, .inl nz)), (a8, .inl (y 0, 9, .inl nz)), (a1, .inr (7, [.ref a6, .ref a7, .ref a8, .ref a9, .int 0, .int 0, .ref a10, .ref a11, .ref a12, .ref a13])), (a3, .inl (y 1, 2001, .inr (.inl nzl))), (a4, .inl (y 1, 2001, .inr (.inl nzl))), (a0, .inr (2, [.ref a2, .ref a3, .ref a4, .ref a5])), (a5, .inl (y 1, 2001, .inr (.inl nzl)))]) A) (cc := cX2_put) (maxL := 4) (ret := none) (by decide +kernel) rfl (Nat.le_of_ble_eq_true rfl) ?_
  intro p e s m below meth c A ls H hx hb hr hml hts hown hlocks hnm hsz hP hK hD hA hS hE hAe hl
  replace hl : lv_has ls 4 [(0, .ref a0), (1, .int 0), (2, .ref a1)] := hl
  have hown : s.vm.findClass RX2 = some m.cls := hown
  have w_0 := hts (.fieldLink RX2 9 "SoldToBehind$Packed" "code" "[I") (gt_k wd_2_26)
  have w_1 := hts (.fieldLink RX2 15 "SoldToBehind$Packed" "low" "[J") (gt_k wd_2_29)
  have w_2 := hts (.fieldLink RX2 19 "SoldToBehind$Packed" "high" "[J") (gt_k wd_2_30)
  have w_3 := hts (.fieldLink RX2 22 "SoldToBehind$Packed" "sales" "[J") (gt_k wd_2_31)
  have w_4 := hts (.fieldLink RX2 30 "SoldToBehind$Standing" "purse" "[I") (gt_k wd_1_211)
  have w_5 := hts (.fieldLink RX2 37 "SoldToBehind$Standing" "sales" "[I") (gt_k wd_1_215)
  refine lv_aload_n hx hb dX2_put_0 rfl (lv_at hl 0 rfl) ?_
  refine va_get (D := D) (ci := 2) (v := .ref a2) (C := RX2) (T := TX2) (N := 4) hx hb hts (gt_c iG_X2) hown hK hP 0 rfl rfl 0 (by decide +kernel) w_0 (fun _ h9 => h9) rfl dX2_put_1 ?_
  refine lv_iload_n hx hb dX2_put_4 rfl (lv_at hl 1 rfl) ?_
  refine lv_aload_n hx hb dX2_put_5 rfl (lv_at hl 2 rfl) ?_
  refine nj_l (ws := [(a0, .inr (2, [.ref a2, .ref a3, .ref a4, .ref a5])), (a1, .inr (7, [.ref a6, .ref a7, .ref a8, .ref a9, .int 0, .int 0, .ref a10, .ref a11, .ref a12, .ref a13])), (a2, .inl (y 0, 2001, .inl nz)), (a3, .inl (y 1, 2001, .inr (.inl nzl))), (a4, .inl (y 1, 2001, .inr (.inl nzl))), (a5, .inl (y 1, 2001, .inr (.inl nzl))), (a7, .inl (y 0, 9, .inl nz)), (a8, .inl (y 0, 9, .inl nz))]) (wc := [(a1, .inr (7, [.ref a6, .ref a7, .ref a8, .ref a9, .int 0, .int 0, .ref a10, .ref a11, .ref a12, .ref a13]))]) (wr := [(a0, .inr (2, [.ref a2, .ref a3, .ref a4, .ref a5])), (a2, .inl (y 0, 2001, .inl nz)), (a3, .inl (y 1, 2001, .inr (.inl nzl))), (a4, .inl (y 1, 2001, .inr (.inl nzl))), (a5, .inl (y 1, 2001, .inr (.inl nzl))), (a7, .inl (y 0, 9, .inl nz)), (a8, .inl (y 0, 9, .inl nz))]) (nr_V (As := []) (rest := [.int 0, .ref a2]) ⟨hx, hb, hml, hown, hts⟩ (cX7_code_1 l D y a1 a6 a7 a8 a9 a10 a11 a12 a13 H.size) (cwV 0 hts gX2_put_X7_code rfl rfl rfl (by decide +kernel) ⟨Nat.le_of_ble_eq_true rfl, Nat.le_of_ble_eq_true rfl⟩) hK hP hD hE [1] rfl (by decide +kernel) 0 7 rfl rfl rfl rfl rfl hl.1 rfl (lv_room (Nat.le_of_ble_eq_true rfl)) dX2_put_6 ⟨Nat.le_of_ble_eq_true rfl, Nat.le_of_ble_eq_true rfl⟩) hP hD hS hA [1] [0, 2, 3, 4, 5, 6, 7] rfl rfl (by decide +kernel) (by decide +kernel) (fun r2 u1 H locs er2 hP hD hS => ?_)
  subst er2
  refine lv_l2i (v := 1) hx hb dX2_put_9 (by decide +kernel) ?_
  refine nb_iast (ws' := [(a0, .inr (2, [.ref a2, .ref a3, .ref a4, .ref a5])), (a2, .inl (y 0, 2001, .inl (upd nz 0 1))), (a3, .inl (y 1, 2001, .inr (.inl nzl))), (a4, .inl (y 1, 2001, .inr (.inl nzl))), (a5, .inl (y 1, 2001, .inr (.inl nzl))), (a7, .inl (y 0, 9, .inl nz)), (a8, .inl (y 0, 9, .inl nz)), (a1, .inr (7, [.ref a6, .ref a7, .ref a8, .ref a9, .int 0, .int 0, .ref a10, .ref a11, .ref a12, .ref a13]))]) hx hb hK hP hD hS 1 0 rfl rfl (n_in (by decide +kernel)) rfl dX2_put_10 (fun H locs hP hD hS => ?_)
  refine lv_aload_n hx hb dX2_put_11 rfl (lv_at hl 0 rfl) ?_
  refine va_get (D := D) (ci := 2) (v := .ref a3) (C := RX2) (T := TX2) (N := 4) hx hb hts (gt_c iG_X2) hown hK hP 0 rfl rfl 1 (by decide +kernel) w_1 (fun _ h9 => h9) rfl dX2_put_12 ?_
  refine lv_iload_n hx hb dX2_put_15 rfl (lv_at hl 1 rfl) ?_
  refine lv_lconst (v := 0) hx hb dX2_put_16 (by decide +kernel) ?_
  refine nb_last (ws' := [(a0, .inr (2, [.ref a2, .ref a3, .ref a4, .ref a5])), (a2, .inl (y 0, 2001, .inl (upd nz 0 1))), (a3, .inl (y 1, 2001, .inr (.inl nzl))), (a4, .inl (y 1, 2001, .inr (.inl nzl))), (a5, .inl (y 1, 2001, .inr (.inl nzl))), (a7, .inl (y 0, 9, .inl nz)), (a8, .inl (y 0, 9, .inl nz)), (a1, .inr (7, [.ref a6, .ref a7, .ref a8, .ref a9, .int 0, .int 0, .ref a10, .ref a11, .ref a12, .ref a13]))]) hx hb hK hP hD hS 2 1 rfl rfl (n_in (by decide +kernel)) (by rw [nb_upL (f := nzl) (i := Int32.toNatClampNeg 0) (x := 0) rfl]; rfl) dX2_put_17 (fun H locs hP hD hS => ?_)
  refine lv_aload_n hx hb dX2_put_18 rfl (lv_at hl 0 rfl) ?_
  refine va_get (D := D) (ci := 2) (v := .ref a4) (C := RX2) (T := TX2) (N := 4) hx hb hts (gt_c iG_X2) hown hK hP 0 rfl rfl 2 (by decide +kernel) w_2 (fun _ h9 => h9) rfl dX2_put_19 ?_
  refine lv_iload_n hx hb dX2_put_22 rfl (lv_at hl 1 rfl) ?_
  refine lv_lconst (v := 0) hx hb dX2_put_23 (by decide +kernel) ?_
  refine nb_last (ws' := [(a0, .inr (2, [.ref a2, .ref a3, .ref a4, .ref a5])), (a2, .inl (y 0, 2001, .inl (upd nz 0 1))), (a3, .inl (y 1, 2001, .inr (.inl nzl))), (a4, .inl (y 1, 2001, .inr (.inl nzl))), (a5, .inl (y 1, 2001, .inr (.inl nzl))), (a7, .inl (y 0, 9, .inl nz)), (a8, .inl (y 0, 9, .inl nz)), (a1, .inr (7, [.ref a6, .ref a7, .ref a8, .ref a9, .int 0, .int 0, .ref a10, .ref a11, .ref a12, .ref a13]))]) hx hb hK hP hD hS 3 1 rfl rfl (n_in (by decide +kernel)) (by rw [nb_upL (f := nzl) (i := Int32.toNatClampNeg 0) (x := 0) rfl]; rfl) dX2_put_24 (fun H locs hP hD hS => ?_)
  refine lv_aload_n hx hb dX2_put_25 rfl (lv_at hl 0 rfl) ?_
  refine va_get (D := D) (ci := 2) (v := .ref a5) (C := RX2) (T := TX2) (N := 4) hx hb hts (gt_c iG_X2) hown hK hP 0 rfl rfl 3 (by decide +kernel) w_3 (fun _ h9 => h9) rfl dX2_put_26 ?_
  refine lv_iload_n hx hb dX2_put_29 rfl (lv_at hl 1 rfl) ?_
  refine lv_lconst (v := 0) hx hb dX2_put_30 (by decide +kernel) ?_
  refine nb_last (ws' := [(a0, .inr (2, [.ref a2, .ref a3, .ref a4, .ref a5])), (a2, .inl (y 0, 2001, .inl (upd nz 0 1))), (a3, .inl (y 1, 2001, .inr (.inl nzl))), (a4, .inl (y 1, 2001, .inr (.inl nzl))), (a5, .inl (y 1, 2001, .inr (.inl nzl))), (a7, .inl (y 0, 9, .inl nz)), (a8, .inl (y 0, 9, .inl nz)), (a1, .inr (7, [.ref a6, .ref a7, .ref a8, .ref a9, .int 0, .int 0, .ref a10, .ref a11, .ref a12, .ref a13]))]) hx hb hK hP hD hS 4 1 rfl rfl (n_in (by decide +kernel)) (by rw [nb_upL (f := nzl) (i := Int32.toNatClampNeg 0) (x := 0) rfl]; rfl) dX2_put_31 (fun H locs hP hD hS => ?_)
  refine lv_iconst (v := 0) hx hb dX2_put_32 (by decide +kernel) ?_
  refine lv_istore_n (lv' := [(3, .int 0), (0, .ref a0), (1, .int 0), (2, .ref a1)]) hx hb dX2_put_33 rfl hl (by decide +kernel) rfl (fun ls hl => ?_)
  refine lv_iload_n hx hb dX2_put_34 rfl (lv_at hl 0 rfl) ?_
  refine lv_bipush (v := 9) hx hb dX2_put_35 (by decide +kernel) ?_
  refine lv_icmp_ge (tgt := 70) hx hb dX2_put_37 (by decide +kernel) (fun c => absurd c (by decide +kernel)) (fun _ => ?_)
  refine lv_aload_n hx hb dX2_put_40 rfl (lv_at hl 1 rfl) ?_
  refine lv_iload_n hx hb dX2_put_41 rfl (lv_at hl 2 rfl) ?_
  refine lv_iload_n hx hb dX2_put_42 rfl (lv_at hl 0 rfl) ?_
  refine lv_aload_n hx hb dX2_put_43 rfl (lv_at hl 3 rfl) ?_
  refine va_get (D := D) (ci := 7) (v := .ref a7) (C := RX7) (T := TX7) (N := 10) hx hb hts (gt_c iG_X7) hown hK hP 7 rfl rfl 1 (by decide +kernel) w_4 (fun _ h9 => h9) rfl dX2_put_44 ?_
  refine lv_iload_n hx hb dX2_put_47 rfl (lv_at hl 0 rfl) ?_
  refine va_iald hx hb hK hP 5 0 rfl rfl (n_in (by decide +kernel)) dX2_put_48 ?_
  refine nv_i (v := 0) rfl ?_
  refine nj_v (ws := [(a0, .inr (2, [.ref a2, .ref a3, .ref a4, .ref a5])), (a2, .inl (y 0, 2001, .inl (upd nz 0 1))), (a3, .inl (y 1, 2001, .inr (.inl nzl))), (a4, .inl (y 1, 2001, .inr (.inl nzl))), (a5, .inl (y 1, 2001, .inr (.inl nzl))), (a7, .inl (y 0, 9, .inl nz)), (a8, .inl (y 0, 9, .inl nz)), (a1, .inr (7, [.ref a6, .ref a7, .ref a8, .ref a9, .int 0, .int 0, .ref a10, .ref a11, .ref a12, .ref a13]))]) (wc := [(a0, .inr (2, [.ref a2, .ref a3, .ref a4, .ref a5])), (a3, .inl (y 1, 2001, .inr (.inl nzl)))]) (wr := [(a2, .inl (y 0, 2001, .inl (upd nz 0 1))), (a4, .inl (y 1, 2001, .inr (.inl nzl))), (a5, .inl (y 1, 2001, .inr (.inl nzl))), (a7, .inl (y 0, 9, .inl nz)), (a8, .inl (y 0, 9, .inl nz)), (a1, .inr (7, [.ref a6, .ref a7, .ref a8, .ref a9, .int 0, .int 0, .ref a10, .ref a11, .ref a12, .ref a13]))]) (nr_V (As := [.int 0, .int 0, .int 0]) (rest := []) ⟨hx, hb, hml, hown, hts⟩ (cX2_addPurse_1 l D y a0 a2 a3 a4 a5 H.size) (cwV 3 hts gX2_put_X2_addPurse rfl rfl rfl (by decide +kernel) ⟨Nat.le_of_ble_eq_true rfl, Nat.le_of_ble_eq_true rfl⟩) hK hP hD hE [0, 2] rfl (by decide +kernel) 0 2 rfl rfl rfl rfl rfl hl.1 rfl (lv_room (Nat.le_of_ble_eq_true rfl)) dX2_put_49 ⟨Nat.le_of_ble_eq_true rfl, Nat.le_of_ble_eq_true rfl⟩) hP hD hS hA [0, 2] [1, 3, 4, 5, 6, 7] rfl rfl (by decide +kernel) (by decide +kernel) (fun u3 H locs _ hP hD hS => ?_)
  refine lv_aload_n hx hb dX2_put_52 rfl (lv_at hl 1 rfl) ?_
  refine lv_iload_n hx hb dX2_put_53 rfl (lv_at hl 2 rfl) ?_
  refine lv_iload_n hx hb dX2_put_54 rfl (lv_at hl 0 rfl) ?_
  refine lv_aload_n hx hb dX2_put_55 rfl (lv_at hl 3 rfl) ?_
  refine va_get (D := D) (ci := 7) (v := .ref a8) (C := RX7) (T := TX7) (N := 10) hx hb hts (gt_c iG_X7) hown hK hP 5 rfl rfl 2 (by decide +kernel) w_5 (fun _ h9 => h9) rfl dX2_put_56 ?_
  refine lv_iload_n hx hb dX2_put_59 rfl (lv_at hl 0 rfl) ?_
  refine va_iald hx hb hK hP 4 0 rfl rfl (n_in (by decide +kernel)) dX2_put_60 ?_
  refine nv_i (v := 0) rfl ?_
  refine nj_v (ws := [(a2, .inl (y 0, 2001, .inl (upd nz 0 1))), (a4, .inl (y 1, 2001, .inr (.inl nzl))), (a5, .inl (y 1, 2001, .inr (.inl nzl))), (a7, .inl (y 0, 9, .inl nz)), (a8, .inl (y 0, 9, .inl nz)), (a1, .inr (7, [.ref a6, .ref a7, .ref a8, .ref a9, .int 0, .int 0, .ref a10, .ref a11, .ref a12, .ref a13])), (a0, .inr (2, [.ref a2, .ref a3, .ref a4, .ref a5])), (a3, .inl (y 1, 2001, .inr (.inl nzl)))]) (wc := [(a0, .inr (2, [.ref a2, .ref a3, .ref a4, .ref a5])), (a5, .inl (y 1, 2001, .inr (.inl nzl)))]) (wr := [(a2, .inl (y 0, 2001, .inl (upd nz 0 1))), (a4, .inl (y 1, 2001, .inr (.inl nzl))), (a7, .inl (y 0, 9, .inl nz)), (a8, .inl (y 0, 9, .inl nz)), (a1, .inr (7, [.ref a6, .ref a7, .ref a8, .ref a9, .int 0, .int 0, .ref a10, .ref a11, .ref a12, .ref a13])), (a3, .inl (y 1, 2001, .inr (.inl nzl)))]) (nr_V (As := [.int 0, .int 0, .int 0]) (rest := []) ⟨hx, hb, hml, hown, hts⟩ (cX2_addSales_1 l D y a0 a2 a3 a4 a5 H.size) (cwV 3 hts gX2_put_X2_addSales rfl rfl rfl (by decide +kernel) ⟨Nat.le_of_ble_eq_true rfl, Nat.le_of_ble_eq_true rfl⟩) hK hP hD hE [6, 2] rfl (by decide +kernel) 0 2 rfl rfl rfl rfl rfl hl.1 rfl (lv_room (Nat.le_of_ble_eq_true rfl)) dX2_put_61 ⟨Nat.le_of_ble_eq_true rfl, Nat.le_of_ble_eq_true rfl⟩) hP hD hS hA [6, 2] [0, 1, 3, 4, 5, 7] rfl rfl (by decide +kernel) (by decide +kernel) (fun u5 H locs _ hP hD hS => ?_)
  refine lv_iinc (v := 1) (lv' := [(3, .int 1), (0, .ref a0), (1, .int 0), (2, .ref a1)]) hx hb dX2_put_64 hl (k := 0) rfl (by decide +kernel) (by decide +kernel) rfl (fun ls hl => ?_)
  refine lv_goto (tgt := 34) hx hb dX2_put_67 (by decide +kernel) ?_
  refine lv_iload_n hx hb dX2_put_34 rfl (lv_at hl 0 rfl) ?_
  refine lv_bipush (v := 9) hx hb dX2_put_35 (by decide +kernel) ?_
  refine lv_icmp_ge (tgt := 70) hx hb dX2_put_37 (by decide +kernel) (fun c => absurd c (by decide +kernel)) (fun _ => ?_)
  refine lv_aload_n hx hb dX2_put_40 rfl (lv_at hl 1 rfl) ?_
  refine lv_iload_n hx hb dX2_put_41 rfl (lv_at hl 2 rfl) ?_
  refine lv_iload_n hx hb dX2_put_42 rfl (lv_at hl 0 rfl) ?_
  refine lv_aload_n hx hb dX2_put_43 rfl (lv_at hl 3 rfl) ?_
  refine va_get (D := D) (ci := 7) (v := .ref a7) (C := RX7) (T := TX7) (N := 10) hx hb hts (gt_c iG_X7) hown hK hP 4 rfl rfl 1 (by decide +kernel) w_4 (fun _ h9 => h9) rfl dX2_put_44 ?_
  refine lv_iload_n hx hb dX2_put_47 rfl (lv_at hl 0 rfl) ?_
  refine va_iald hx hb hK hP 2 0 rfl rfl (n_in (by decide +kernel)) dX2_put_48 ?_
  refine nv_i (v := 0) rfl ?_
  refine nj_v (ws := [(a2, .inl (y 0, 2001, .inl (upd nz 0 1))), (a4, .inl (y 1, 2001, .inr (.inl nzl))), (a7, .inl (y 0, 9, .inl nz)), (a8, .inl (y 0, 9, .inl nz)), (a1, .inr (7, [.ref a6, .ref a7, .ref a8, .ref a9, .int 0, .int 0, .ref a10, .ref a11, .ref a12, .ref a13])), (a3, .inl (y 1, 2001, .inr (.inl nzl))), (a0, .inr (2, [.ref a2, .ref a3, .ref a4, .ref a5])), (a5, .inl (y 1, 2001, .inr (.inl nzl)))]) (wc := [(a0, .inr (2, [.ref a2, .ref a3, .ref a4, .ref a5])), (a3, .inl (y 1, 2001, .inr (.inl nzl)))]) (wr := [(a2, .inl (y 0, 2001, .inl (upd nz 0 1))), (a4, .inl (y 1, 2001, .inr (.inl nzl))), (a7, .inl (y 0, 9, .inl nz)), (a8, .inl (y 0, 9, .inl nz)), (a1, .inr (7, [.ref a6, .ref a7, .ref a8, .ref a9, .int 0, .int 0, .ref a10, .ref a11, .ref a12, .ref a13])), (a5, .inl (y 1, 2001, .inr (.inl nzl)))]) (nr_V (As := [.int 0, .int 1, .int 0]) (rest := []) ⟨hx, hb, hml, hown, hts⟩ (cX2_addPurse_2 l D y a0 a2 a3 a4 a5 H.size) (cwV 3 hts gX2_put_X2_addPurse rfl rfl rfl (by decide +kernel) ⟨Nat.le_of_ble_eq_true rfl, Nat.le_of_ble_eq_true rfl⟩) hK hP hD hE [6, 5] rfl (by decide +kernel) 0 2 rfl rfl rfl rfl rfl hl.1 rfl (lv_room (Nat.le_of_ble_eq_true rfl)) dX2_put_49 ⟨Nat.le_of_ble_eq_true rfl, Nat.le_of_ble_eq_true rfl⟩) hP hD hS hA [6, 5] [0, 1, 2, 3, 4, 7] rfl rfl (by decide +kernel) (by decide +kernel) (fun u7 H locs _ hP hD hS => ?_)
  refine lv_aload_n hx hb dX2_put_52 rfl (lv_at hl 1 rfl) ?_
  refine lv_iload_n hx hb dX2_put_53 rfl (lv_at hl 2 rfl) ?_
  refine lv_iload_n hx hb dX2_put_54 rfl (lv_at hl 0 rfl) ?_
  refine lv_aload_n hx hb dX2_put_55 rfl (lv_at hl 3 rfl) ?_
  refine va_get (D := D) (ci := 7) (v := .ref a8) (C := RX7) (T := TX7) (N := 10) hx hb hts (gt_c iG_X7) hown hK hP 4 rfl rfl 2 (by decide +kernel) w_5 (fun _ h9 => h9) rfl dX2_put_56 ?_
  refine lv_iload_n hx hb dX2_put_59 rfl (lv_at hl 0 rfl) ?_
  refine va_iald hx hb hK hP 3 0 rfl rfl (n_in (by decide +kernel)) dX2_put_60 ?_
  refine nv_i (v := 0) rfl ?_
  refine nj_v (ws := [(a2, .inl (y 0, 2001, .inl (upd nz 0 1))), (a4, .inl (y 1, 2001, .inr (.inl nzl))), (a7, .inl (y 0, 9, .inl nz)), (a8, .inl (y 0, 9, .inl nz)), (a1, .inr (7, [.ref a6, .ref a7, .ref a8, .ref a9, .int 0, .int 0, .ref a10, .ref a11, .ref a12, .ref a13])), (a5, .inl (y 1, 2001, .inr (.inl nzl))), (a0, .inr (2, [.ref a2, .ref a3, .ref a4, .ref a5])), (a3, .inl (y 1, 2001, .inr (.inl nzl)))]) (wc := [(a0, .inr (2, [.ref a2, .ref a3, .ref a4, .ref a5])), (a5, .inl (y 1, 2001, .inr (.inl nzl)))]) (wr := [(a2, .inl (y 0, 2001, .inl (upd nz 0 1))), (a4, .inl (y 1, 2001, .inr (.inl nzl))), (a7, .inl (y 0, 9, .inl nz)), (a8, .inl (y 0, 9, .inl nz)), (a1, .inr (7, [.ref a6, .ref a7, .ref a8, .ref a9, .int 0, .int 0, .ref a10, .ref a11, .ref a12, .ref a13])), (a3, .inl (y 1, 2001, .inr (.inl nzl)))]) (nr_V (As := [.int 0, .int 1, .int 0]) (rest := []) ⟨hx, hb, hml, hown, hts⟩ (cX2_addSales_2 l D y a0 a2 a3 a4 a5 H.size) (cwV 3 hts gX2_put_X2_addSales rfl rfl rfl (by decide +kernel) ⟨Nat.le_of_ble_eq_true rfl, Nat.le_of_ble_eq_true rfl⟩) hK hP hD hE [6, 5] rfl (by decide +kernel) 0 2 rfl rfl rfl rfl rfl hl.1 rfl (lv_room (Nat.le_of_ble_eq_true rfl)) dX2_put_61 ⟨Nat.le_of_ble_eq_true rfl, Nat.le_of_ble_eq_true rfl⟩) hP hD hS hA [6, 5] [0, 1, 2, 3, 4, 7] rfl rfl (by decide +kernel) (by decide +kernel) (fun u9 H locs _ hP hD hS => ?_)
  refine lv_iinc (v := 2) (lv' := [(3, .int 2), (0, .ref a0), (1, .int 0), (2, .ref a1)]) hx hb dX2_put_64 hl (k := 0) rfl (by decide +kernel) (by decide +kernel) rfl (fun ls hl => ?_)
  refine lv_goto (tgt := 34) hx hb dX2_put_67 (by decide +kernel) ?_
  refine lv_iload_n hx hb dX2_put_34 rfl (lv_at hl 0 rfl) ?_
  refine lv_bipush (v := 9) hx hb dX2_put_35 (by decide +kernel) ?_
  refine lv_icmp_ge (tgt := 70) hx hb dX2_put_37 (by decide +kernel) (fun c => absurd c (by decide +kernel)) (fun _ => ?_)
  refine lv_aload_n hx hb dX2_put_40 rfl (lv_at hl 1 rfl) ?_
  refine lv_iload_n hx hb dX2_put_41 rfl (lv_at hl 2 rfl) ?_
  refine lv_iload_n hx hb dX2_put_42 rfl (lv_at hl 0 rfl) ?_
  refine lv_aload_n hx hb dX2_put_43 rfl (lv_at hl 3 rfl) ?_
  refine va_get (D := D) (ci := 7) (v := .ref a7) (C := RX7) (T := TX7) (N := 10) hx hb hts (gt_c iG_X7) hown hK hP 4 rfl rfl 1 (by decide +kernel) w_4 (fun _ h9 => h9) rfl dX2_put_44 ?_
  refine lv_iload_n hx hb dX2_put_47 rfl (lv_at hl 0 rfl) ?_
  refine va_iald hx hb hK hP 2 0 rfl rfl (n_in (by decide +kernel)) dX2_put_48 ?_
  refine nv_i (v := 0) rfl ?_
  refine nj_v (ws := [(a2, .inl (y 0, 2001, .inl (upd nz 0 1))), (a4, .inl (y 1, 2001, .inr (.inl nzl))), (a7, .inl (y 0, 9, .inl nz)), (a8, .inl (y 0, 9, .inl nz)), (a1, .inr (7, [.ref a6, .ref a7, .ref a8, .ref a9, .int 0, .int 0, .ref a10, .ref a11, .ref a12, .ref a13])), (a3, .inl (y 1, 2001, .inr (.inl nzl))), (a0, .inr (2, [.ref a2, .ref a3, .ref a4, .ref a5])), (a5, .inl (y 1, 2001, .inr (.inl nzl)))]) (wc := [(a0, .inr (2, [.ref a2, .ref a3, .ref a4, .ref a5])), (a3, .inl (y 1, 2001, .inr (.inl nzl)))]) (wr := [(a2, .inl (y 0, 2001, .inl (upd nz 0 1))), (a4, .inl (y 1, 2001, .inr (.inl nzl))), (a7, .inl (y 0, 9, .inl nz)), (a8, .inl (y 0, 9, .inl nz)), (a1, .inr (7, [.ref a6, .ref a7, .ref a8, .ref a9, .int 0, .int 0, .ref a10, .ref a11, .ref a12, .ref a13])), (a5, .inl (y 1, 2001, .inr (.inl nzl)))]) (nr_V (As := [.int 0, .int 2, .int 0]) (rest := []) ⟨hx, hb, hml, hown, hts⟩ (cX2_addPurse_3 l D y a0 a2 a3 a4 a5 H.size) (cwV 3 hts gX2_put_X2_addPurse rfl rfl rfl (by decide +kernel) ⟨Nat.le_of_ble_eq_true rfl, Nat.le_of_ble_eq_true rfl⟩) hK hP hD hE [6, 5] rfl (by decide +kernel) 0 2 rfl rfl rfl rfl rfl hl.1 rfl (lv_room (Nat.le_of_ble_eq_true rfl)) dX2_put_49 ⟨Nat.le_of_ble_eq_true rfl, Nat.le_of_ble_eq_true rfl⟩) hP hD hS hA [6, 5] [0, 1, 2, 3, 4, 7] rfl rfl (by decide +kernel) (by decide +kernel) (fun u11 H locs _ hP hD hS => ?_)
  refine lv_aload_n hx hb dX2_put_52 rfl (lv_at hl 1 rfl) ?_
  refine lv_iload_n hx hb dX2_put_53 rfl (lv_at hl 2 rfl) ?_
  refine lv_iload_n hx hb dX2_put_54 rfl (lv_at hl 0 rfl) ?_
  refine lv_aload_n hx hb dX2_put_55 rfl (lv_at hl 3 rfl) ?_
  refine va_get (D := D) (ci := 7) (v := .ref a8) (C := RX7) (T := TX7) (N := 10) hx hb hts (gt_c iG_X7) hown hK hP 4 rfl rfl 2 (by decide +kernel) w_5 (fun _ h9 => h9) rfl dX2_put_56 ?_
  refine lv_iload_n hx hb dX2_put_59 rfl (lv_at hl 0 rfl) ?_
  refine va_iald hx hb hK hP 3 0 rfl rfl (n_in (by decide +kernel)) dX2_put_60 ?_
  refine nv_i (v := 0) rfl ?_
  refine nj_v (ws := [(a2, .inl (y 0, 2001, .inl (upd nz 0 1))), (a4, .inl (y 1, 2001, .inr (.inl nzl))), (a7, .inl (y 0, 9, .inl nz)), (a8, .inl (y 0, 9, .inl nz)), (a1, .inr (7, [.ref a6, .ref a7, .ref a8, .ref a9, .int 0, .int 0, .ref a10, .ref a11, .ref a12, .ref a13])), (a5, .inl (y 1, 2001, .inr (.inl nzl))), (a0, .inr (2, [.ref a2, .ref a3, .ref a4, .ref a5])), (a3, .inl (y 1, 2001, .inr (.inl nzl)))]) (wc := [(a0, .inr (2, [.ref a2, .ref a3, .ref a4, .ref a5])), (a5, .inl (y 1, 2001, .inr (.inl nzl)))]) (wr := [(a2, .inl (y 0, 2001, .inl (upd nz 0 1))), (a4, .inl (y 1, 2001, .inr (.inl nzl))), (a7, .inl (y 0, 9, .inl nz)), (a8, .inl (y 0, 9, .inl nz)), (a1, .inr (7, [.ref a6, .ref a7, .ref a8, .ref a9, .int 0, .int 0, .ref a10, .ref a11, .ref a12, .ref a13])), (a3, .inl (y 1, 2001, .inr (.inl nzl)))]) (nr_V (As := [.int 0, .int 2, .int 0]) (rest := []) ⟨hx, hb, hml, hown, hts⟩ (cX2_addSales_3 l D y a0 a2 a3 a4 a5 H.size) (cwV 3 hts gX2_put_X2_addSales rfl rfl rfl (by decide +kernel) ⟨Nat.le_of_ble_eq_true rfl, Nat.le_of_ble_eq_true rfl⟩) hK hP hD hE [6, 5] rfl (by decide +kernel) 0 2 rfl rfl rfl rfl rfl hl.1 rfl (lv_room (Nat.le_of_ble_eq_true rfl)) dX2_put_61 ⟨Nat.le_of_ble_eq_true rfl, Nat.le_of_ble_eq_true rfl⟩) hP hD hS hA [6, 5] [0, 1, 2, 3, 4, 7] rfl rfl (by decide +kernel) (by decide +kernel) (fun u13 H locs _ hP hD hS => ?_)
  refine lv_iinc (v := 3) (lv' := [(3, .int 3), (0, .ref a0), (1, .int 0), (2, .ref a1)]) hx hb dX2_put_64 hl (k := 0) rfl (by decide +kernel) (by decide +kernel) rfl (fun ls hl => ?_)
  refine lv_goto (tgt := 34) hx hb dX2_put_67 (by decide +kernel) ?_
  refine lv_iload_n hx hb dX2_put_34 rfl (lv_at hl 0 rfl) ?_
  refine lv_bipush (v := 9) hx hb dX2_put_35 (by decide +kernel) ?_
  refine lv_icmp_ge (tgt := 70) hx hb dX2_put_37 (by decide +kernel) (fun c => absurd c (by decide +kernel)) (fun _ => ?_)
  refine lv_aload_n hx hb dX2_put_40 rfl (lv_at hl 1 rfl) ?_
  refine lv_iload_n hx hb dX2_put_41 rfl (lv_at hl 2 rfl) ?_
  refine lv_iload_n hx hb dX2_put_42 rfl (lv_at hl 0 rfl) ?_
  refine lv_aload_n hx hb dX2_put_43 rfl (lv_at hl 3 rfl) ?_
  refine va_get (D := D) (ci := 7) (v := .ref a7) (C := RX7) (T := TX7) (N := 10) hx hb hts (gt_c iG_X7) hown hK hP 4 rfl rfl 1 (by decide +kernel) w_4 (fun _ h9 => h9) rfl dX2_put_44 ?_
  refine lv_iload_n hx hb dX2_put_47 rfl (lv_at hl 0 rfl) ?_
  refine va_iald hx hb hK hP 2 0 rfl rfl (n_in (by decide +kernel)) dX2_put_48 ?_
  refine nv_i (v := 0) rfl ?_
  refine nj_v (ws := [(a2, .inl (y 0, 2001, .inl (upd nz 0 1))), (a4, .inl (y 1, 2001, .inr (.inl nzl))), (a7, .inl (y 0, 9, .inl nz)), (a8, .inl (y 0, 9, .inl nz)), (a1, .inr (7, [.ref a6, .ref a7, .ref a8, .ref a9, .int 0, .int 0, .ref a10, .ref a11, .ref a12, .ref a13])), (a3, .inl (y 1, 2001, .inr (.inl nzl))), (a0, .inr (2, [.ref a2, .ref a3, .ref a4, .ref a5])), (a5, .inl (y 1, 2001, .inr (.inl nzl)))]) (wc := [(a0, .inr (2, [.ref a2, .ref a3, .ref a4, .ref a5])), (a3, .inl (y 1, 2001, .inr (.inl nzl)))]) (wr := [(a2, .inl (y 0, 2001, .inl (upd nz 0 1))), (a4, .inl (y 1, 2001, .inr (.inl nzl))), (a7, .inl (y 0, 9, .inl nz)), (a8, .inl (y 0, 9, .inl nz)), (a1, .inr (7, [.ref a6, .ref a7, .ref a8, .ref a9, .int 0, .int 0, .ref a10, .ref a11, .ref a12, .ref a13])), (a5, .inl (y 1, 2001, .inr (.inl nzl)))]) (nr_V (As := [.int 0, .int 3, .int 0]) (rest := []) ⟨hx, hb, hml, hown, hts⟩ (cX2_addPurse_4 l D y a0 a2 a3 a4 a5 H.size) (cwV 3 hts gX2_put_X2_addPurse rfl rfl rfl (by decide +kernel) ⟨Nat.le_of_ble_eq_true rfl, Nat.le_of_ble_eq_true rfl⟩) hK hP hD hE [6, 5] rfl (by decide +kernel) 0 2 rfl rfl rfl rfl rfl hl.1 rfl (lv_room (Nat.le_of_ble_eq_true rfl)) dX2_put_49 ⟨Nat.le_of_ble_eq_true rfl, Nat.le_of_ble_eq_true rfl⟩) hP hD hS hA [6, 5] [0, 1, 2, 3, 4, 7] rfl rfl (by decide +kernel) (by decide +kernel) (fun u15 H locs _ hP hD hS => ?_)
  refine lv_aload_n hx hb dX2_put_52 rfl (lv_at hl 1 rfl) ?_
  refine lv_iload_n hx hb dX2_put_53 rfl (lv_at hl 2 rfl) ?_
  refine lv_iload_n hx hb dX2_put_54 rfl (lv_at hl 0 rfl) ?_
  refine lv_aload_n hx hb dX2_put_55 rfl (lv_at hl 3 rfl) ?_
  refine va_get (D := D) (ci := 7) (v := .ref a8) (C := RX7) (T := TX7) (N := 10) hx hb hts (gt_c iG_X7) hown hK hP 4 rfl rfl 2 (by decide +kernel) w_5 (fun _ h9 => h9) rfl dX2_put_56 ?_
  refine lv_iload_n hx hb dX2_put_59 rfl (lv_at hl 0 rfl) ?_
  refine va_iald hx hb hK hP 3 0 rfl rfl (n_in (by decide +kernel)) dX2_put_60 ?_
  refine nv_i (v := 0) rfl ?_
  refine nj_v (ws := [(a2, .inl (y 0, 2001, .inl (upd nz 0 1))), (a4, .inl (y 1, 2001, .inr (.inl nzl))), (a7, .inl (y 0, 9, .inl nz)), (a8, .inl (y 0, 9, .inl nz)), (a1, .inr (7, [.ref a6, .ref a7, .ref a8, .ref a9, .int 0, .int 0, .ref a10, .ref a11, .ref a12, .ref a13])), (a5, .inl (y 1, 2001, .inr (.inl nzl))), (a0, .inr (2, [.ref a2, .ref a3, .ref a4, .ref a5])), (a3, .inl (y 1, 2001, .inr (.inl nzl)))]) (wc := [(a0, .inr (2, [.ref a2, .ref a3, .ref a4, .ref a5])), (a5, .inl (y 1, 2001, .inr (.inl nzl)))]) (wr := [(a2, .inl (y 0, 2001, .inl (upd nz 0 1))), (a4, .inl (y 1, 2001, .inr (.inl nzl))), (a7, .inl (y 0, 9, .inl nz)), (a8, .inl (y 0, 9, .inl nz)), (a1, .inr (7, [.ref a6, .ref a7, .ref a8, .ref a9, .int 0, .int 0, .ref a10, .ref a11, .ref a12, .ref a13])), (a3, .inl (y 1, 2001, .inr (.inl nzl)))]) (nr_V (As := [.int 0, .int 3, .int 0]) (rest := []) ⟨hx, hb, hml, hown, hts⟩ (cX2_addSales_4 l D y a0 a2 a3 a4 a5 H.size) (cwV 3 hts gX2_put_X2_addSales rfl rfl rfl (by decide +kernel) ⟨Nat.le_of_ble_eq_true rfl, Nat.le_of_ble_eq_true rfl⟩) hK hP hD hE [6, 5] rfl (by decide +kernel) 0 2 rfl rfl rfl rfl rfl hl.1 rfl (lv_room (Nat.le_of_ble_eq_true rfl)) dX2_put_61 ⟨Nat.le_of_ble_eq_true rfl, Nat.le_of_ble_eq_true rfl⟩) hP hD hS hA [6, 5] [0, 1, 2, 3, 4, 7] rfl rfl (by decide +kernel) (by decide +kernel) (fun u17 H locs _ hP hD hS => ?_)
  refine lv_iinc (v := 4) (lv' := [(3, .int 4), (0, .ref a0), (1, .int 0), (2, .ref a1)]) hx hb dX2_put_64 hl (k := 0) rfl (by decide +kernel) (by decide +kernel) rfl (fun ls hl => ?_)
  refine lv_goto (tgt := 34) hx hb dX2_put_67 (by decide +kernel) ?_
  refine lv_iload_n hx hb dX2_put_34 rfl (lv_at hl 0 rfl) ?_
  refine lv_bipush (v := 9) hx hb dX2_put_35 (by decide +kernel) ?_
  refine lv_icmp_ge (tgt := 70) hx hb dX2_put_37 (by decide +kernel) (fun c => absurd c (by decide +kernel)) (fun _ => ?_)
  refine lv_aload_n hx hb dX2_put_40 rfl (lv_at hl 1 rfl) ?_
  refine lv_iload_n hx hb dX2_put_41 rfl (lv_at hl 2 rfl) ?_
  refine lv_iload_n hx hb dX2_put_42 rfl (lv_at hl 0 rfl) ?_
  refine lv_aload_n hx hb dX2_put_43 rfl (lv_at hl 3 rfl) ?_
  refine va_get (D := D) (ci := 7) (v := .ref a7) (C := RX7) (T := TX7) (N := 10) hx hb hts (gt_c iG_X7) hown hK hP 4 rfl rfl 1 (by decide +kernel) w_4 (fun _ h9 => h9) rfl dX2_put_44 ?_
  refine lv_iload_n hx hb dX2_put_47 rfl (lv_at hl 0 rfl) ?_
  refine va_iald hx hb hK hP 2 0 rfl rfl (n_in (by decide +kernel)) dX2_put_48 ?_
  refine nv_i (v := 0) rfl ?_
  refine nj_v (ws := [(a2, .inl (y 0, 2001, .inl (upd nz 0 1))), (a4, .inl (y 1, 2001, .inr (.inl nzl))), (a7, .inl (y 0, 9, .inl nz)), (a8, .inl (y 0, 9, .inl nz)), (a1, .inr (7, [.ref a6, .ref a7, .ref a8, .ref a9, .int 0, .int 0, .ref a10, .ref a11, .ref a12, .ref a13])), (a3, .inl (y 1, 2001, .inr (.inl nzl))), (a0, .inr (2, [.ref a2, .ref a3, .ref a4, .ref a5])), (a5, .inl (y 1, 2001, .inr (.inl nzl)))]) (wc := [(a0, .inr (2, [.ref a2, .ref a3, .ref a4, .ref a5])), (a3, .inl (y 1, 2001, .inr (.inl nzl)))]) (wr := [(a2, .inl (y 0, 2001, .inl (upd nz 0 1))), (a4, .inl (y 1, 2001, .inr (.inl nzl))), (a7, .inl (y 0, 9, .inl nz)), (a8, .inl (y 0, 9, .inl nz)), (a1, .inr (7, [.ref a6, .ref a7, .ref a8, .ref a9, .int 0, .int 0, .ref a10, .ref a11, .ref a12, .ref a13])), (a5, .inl (y 1, 2001, .inr (.inl nzl)))]) (nr_V (As := [.int 0, .int 4, .int 0]) (rest := []) ⟨hx, hb, hml, hown, hts⟩ (cX2_addPurse_5 l D y a0 a2 a3 a4 a5 H.size) (cwV 3 hts gX2_put_X2_addPurse rfl rfl rfl (by decide +kernel) ⟨Nat.le_of_ble_eq_true rfl, Nat.le_of_ble_eq_true rfl⟩) hK hP hD hE [6, 5] rfl (by decide +kernel) 0 2 rfl rfl rfl rfl rfl hl.1 rfl (lv_room (Nat.le_of_ble_eq_true rfl)) dX2_put_49 ⟨Nat.le_of_ble_eq_true rfl, Nat.le_of_ble_eq_true rfl⟩) hP hD hS hA [6, 5] [0, 1, 2, 3, 4, 7] rfl rfl (by decide +kernel) (by decide +kernel) (fun u19 H locs _ hP hD hS => ?_)
  refine lv_aload_n hx hb dX2_put_52 rfl (lv_at hl 1 rfl) ?_
  refine lv_iload_n hx hb dX2_put_53 rfl (lv_at hl 2 rfl) ?_
  refine lv_iload_n hx hb dX2_put_54 rfl (lv_at hl 0 rfl) ?_
  refine lv_aload_n hx hb dX2_put_55 rfl (lv_at hl 3 rfl) ?_
  refine va_get (D := D) (ci := 7) (v := .ref a8) (C := RX7) (T := TX7) (N := 10) hx hb hts (gt_c iG_X7) hown hK hP 4 rfl rfl 2 (by decide +kernel) w_5 (fun _ h9 => h9) rfl dX2_put_56 ?_
  refine lv_iload_n hx hb dX2_put_59 rfl (lv_at hl 0 rfl) ?_
  refine va_iald hx hb hK hP 3 0 rfl rfl (n_in (by decide +kernel)) dX2_put_60 ?_
  refine nv_i (v := 0) rfl ?_
  refine nj_v (ws := [(a2, .inl (y 0, 2001, .inl (upd nz 0 1))), (a4, .inl (y 1, 2001, .inr (.inl nzl))), (a7, .inl (y 0, 9, .inl nz)), (a8, .inl (y 0, 9, .inl nz)), (a1, .inr (7, [.ref a6, .ref a7, .ref a8, .ref a9, .int 0, .int 0, .ref a10, .ref a11, .ref a12, .ref a13])), (a5, .inl (y 1, 2001, .inr (.inl nzl))), (a0, .inr (2, [.ref a2, .ref a3, .ref a4, .ref a5])), (a3, .inl (y 1, 2001, .inr (.inl nzl)))]) (wc := [(a0, .inr (2, [.ref a2, .ref a3, .ref a4, .ref a5])), (a5, .inl (y 1, 2001, .inr (.inl nzl)))]) (wr := [(a2, .inl (y 0, 2001, .inl (upd nz 0 1))), (a4, .inl (y 1, 2001, .inr (.inl nzl))), (a7, .inl (y 0, 9, .inl nz)), (a8, .inl (y 0, 9, .inl nz)), (a1, .inr (7, [.ref a6, .ref a7, .ref a8, .ref a9, .int 0, .int 0, .ref a10, .ref a11, .ref a12, .ref a13])), (a3, .inl (y 1, 2001, .inr (.inl nzl)))]) (nr_V (As := [.int 0, .int 4, .int 0]) (rest := []) ⟨hx, hb, hml, hown, hts⟩ (cX2_addSales_5 l D y a0 a2 a3 a4 a5 H.size) (cwV 3 hts gX2_put_X2_addSales rfl rfl rfl (by decide +kernel) ⟨Nat.le_of_ble_eq_true rfl, Nat.le_of_ble_eq_true rfl⟩) hK hP hD hE [6, 5] rfl (by decide +kernel) 0 2 rfl rfl rfl rfl rfl hl.1 rfl (lv_room (Nat.le_of_ble_eq_true rfl)) dX2_put_61 ⟨Nat.le_of_ble_eq_true rfl, Nat.le_of_ble_eq_true rfl⟩) hP hD hS hA [6, 5] [0, 1, 2, 3, 4, 7] rfl rfl (by decide +kernel) (by decide +kernel) (fun u21 H locs _ hP hD hS => ?_)
  refine lv_iinc (v := 5) (lv' := [(3, .int 5), (0, .ref a0), (1, .int 0), (2, .ref a1)]) hx hb dX2_put_64 hl (k := 0) rfl (by decide +kernel) (by decide +kernel) rfl (fun ls hl => ?_)
  refine lv_goto (tgt := 34) hx hb dX2_put_67 (by decide +kernel) ?_
  refine lv_iload_n hx hb dX2_put_34 rfl (lv_at hl 0 rfl) ?_
  refine lv_bipush (v := 9) hx hb dX2_put_35 (by decide +kernel) ?_
  refine lv_icmp_ge (tgt := 70) hx hb dX2_put_37 (by decide +kernel) (fun c => absurd c (by decide +kernel)) (fun _ => ?_)
  refine lv_aload_n hx hb dX2_put_40 rfl (lv_at hl 1 rfl) ?_
  refine lv_iload_n hx hb dX2_put_41 rfl (lv_at hl 2 rfl) ?_
  refine lv_iload_n hx hb dX2_put_42 rfl (lv_at hl 0 rfl) ?_
  refine lv_aload_n hx hb dX2_put_43 rfl (lv_at hl 3 rfl) ?_
  refine va_get (D := D) (ci := 7) (v := .ref a7) (C := RX7) (T := TX7) (N := 10) hx hb hts (gt_c iG_X7) hown hK hP 4 rfl rfl 1 (by decide +kernel) w_4 (fun _ h9 => h9) rfl dX2_put_44 ?_
  refine lv_iload_n hx hb dX2_put_47 rfl (lv_at hl 0 rfl) ?_
  refine va_iald hx hb hK hP 2 0 rfl rfl (n_in (by decide +kernel)) dX2_put_48 ?_
  refine nv_i (v := 0) rfl ?_
  refine nj_v (ws := [(a2, .inl (y 0, 2001, .inl (upd nz 0 1))), (a4, .inl (y 1, 2001, .inr (.inl nzl))), (a7, .inl (y 0, 9, .inl nz)), (a8, .inl (y 0, 9, .inl nz)), (a1, .inr (7, [.ref a6, .ref a7, .ref a8, .ref a9, .int 0, .int 0, .ref a10, .ref a11, .ref a12, .ref a13])), (a3, .inl (y 1, 2001, .inr (.inl nzl))), (a0, .inr (2, [.ref a2, .ref a3, .ref a4, .ref a5])), (a5, .inl (y 1, 2001, .inr (.inl nzl)))]) (wc := [(a0, .inr (2, [.ref a2, .ref a3, .ref a4, .ref a5])), (a3, .inl (y 1, 2001, .inr (.inl nzl)))]) (wr := [(a2, .inl (y 0, 2001, .inl (upd nz 0 1))), (a4, .inl (y 1, 2001, .inr (.inl nzl))), (a7, .inl (y 0, 9, .inl nz)), (a8, .inl (y 0, 9, .inl nz)), (a1, .inr (7, [.ref a6, .ref a7, .ref a8, .ref a9, .int 0, .int 0, .ref a10, .ref a11, .ref a12, .ref a13])), (a5, .inl (y 1, 2001, .inr (.inl nzl)))]) (nr_V (As := [.int 0, .int 5, .int 0]) (rest := []) ⟨hx, hb, hml, hown, hts⟩ (cX2_addPurse_6 l D y a0 a2 a3 a4 a5 H.size) (cwV 3 hts gX2_put_X2_addPurse rfl rfl rfl (by decide +kernel) ⟨Nat.le_of_ble_eq_true rfl, Nat.le_of_ble_eq_true rfl⟩) hK hP hD hE [6, 5] rfl (by decide +kernel) 0 2 rfl rfl rfl rfl rfl hl.1 rfl (lv_room (Nat.le_of_ble_eq_true rfl)) dX2_put_49 ⟨Nat.le_of_ble_eq_true rfl, Nat.le_of_ble_eq_true rfl⟩) hP hD hS hA [6, 5] [0, 1, 2, 3, 4, 7] rfl rfl (by decide +kernel) (by decide +kernel) (fun u23 H locs _ hP hD hS => ?_)
  refine lv_aload_n hx hb dX2_put_52 rfl (lv_at hl 1 rfl) ?_
  refine lv_iload_n hx hb dX2_put_53 rfl (lv_at hl 2 rfl) ?_
  refine lv_iload_n hx hb dX2_put_54 rfl (lv_at hl 0 rfl) ?_
  refine lv_aload_n hx hb dX2_put_55 rfl (lv_at hl 3 rfl) ?_
  refine va_get (D := D) (ci := 7) (v := .ref a8) (C := RX7) (T := TX7) (N := 10) hx hb hts (gt_c iG_X7) hown hK hP 4 rfl rfl 2 (by decide +kernel) w_5 (fun _ h9 => h9) rfl dX2_put_56 ?_
  refine lv_iload_n hx hb dX2_put_59 rfl (lv_at hl 0 rfl) ?_
  refine va_iald hx hb hK hP 3 0 rfl rfl (n_in (by decide +kernel)) dX2_put_60 ?_
  refine nv_i (v := 0) rfl ?_
  refine nj_v (ws := [(a2, .inl (y 0, 2001, .inl (upd nz 0 1))), (a4, .inl (y 1, 2001, .inr (.inl nzl))), (a7, .inl (y 0, 9, .inl nz)), (a8, .inl (y 0, 9, .inl nz)), (a1, .inr (7, [.ref a6, .ref a7, .ref a8, .ref a9, .int 0, .int 0, .ref a10, .ref a11, .ref a12, .ref a13])), (a5, .inl (y 1, 2001, .inr (.inl nzl))), (a0, .inr (2, [.ref a2, .ref a3, .ref a4, .ref a5])), (a3, .inl (y 1, 2001, .inr (.inl nzl)))]) (wc := [(a0, .inr (2, [.ref a2, .ref a3, .ref a4, .ref a5])), (a5, .inl (y 1, 2001, .inr (.inl nzl)))]) (wr := [(a2, .inl (y 0, 2001, .inl (upd nz 0 1))), (a4, .inl (y 1, 2001, .inr (.inl nzl))), (a7, .inl (y 0, 9, .inl nz)), (a8, .inl (y 0, 9, .inl nz)), (a1, .inr (7, [.ref a6, .ref a7, .ref a8, .ref a9, .int 0, .int 0, .ref a10, .ref a11, .ref a12, .ref a13])), (a3, .inl (y 1, 2001, .inr (.inl nzl)))]) (nr_V (As := [.int 0, .int 5, .int 0]) (rest := []) ⟨hx, hb, hml, hown, hts⟩ (cX2_addSales_6 l D y a0 a2 a3 a4 a5 H.size) (cwV 3 hts gX2_put_X2_addSales rfl rfl rfl (by decide +kernel) ⟨Nat.le_of_ble_eq_true rfl, Nat.le_of_ble_eq_true rfl⟩) hK hP hD hE [6, 5] rfl (by decide +kernel) 0 2 rfl rfl rfl rfl rfl hl.1 rfl (lv_room (Nat.le_of_ble_eq_true rfl)) dX2_put_61 ⟨Nat.le_of_ble_eq_true rfl, Nat.le_of_ble_eq_true rfl⟩) hP hD hS hA [6, 5] [0, 1, 2, 3, 4, 7] rfl rfl (by decide +kernel) (by decide +kernel) (fun u25 H locs _ hP hD hS => ?_)
  refine lv_iinc (v := 6) (lv' := [(3, .int 6), (0, .ref a0), (1, .int 0), (2, .ref a1)]) hx hb dX2_put_64 hl (k := 0) rfl (by decide +kernel) (by decide +kernel) rfl (fun ls hl => ?_)
  refine lv_goto (tgt := 34) hx hb dX2_put_67 (by decide +kernel) ?_
  refine lv_iload_n hx hb dX2_put_34 rfl (lv_at hl 0 rfl) ?_
  refine lv_bipush (v := 9) hx hb dX2_put_35 (by decide +kernel) ?_
  refine lv_icmp_ge (tgt := 70) hx hb dX2_put_37 (by decide +kernel) (fun c => absurd c (by decide +kernel)) (fun _ => ?_)
  refine lv_aload_n hx hb dX2_put_40 rfl (lv_at hl 1 rfl) ?_
  refine lv_iload_n hx hb dX2_put_41 rfl (lv_at hl 2 rfl) ?_
  refine lv_iload_n hx hb dX2_put_42 rfl (lv_at hl 0 rfl) ?_
  refine lv_aload_n hx hb dX2_put_43 rfl (lv_at hl 3 rfl) ?_
  refine va_get (D := D) (ci := 7) (v := .ref a7) (C := RX7) (T := TX7) (N := 10) hx hb hts (gt_c iG_X7) hown hK hP 4 rfl rfl 1 (by decide +kernel) w_4 (fun _ h9 => h9) rfl dX2_put_44 ?_
  refine lv_iload_n hx hb dX2_put_47 rfl (lv_at hl 0 rfl) ?_
  refine va_iald hx hb hK hP 2 0 rfl rfl (n_in (by decide +kernel)) dX2_put_48 ?_
  refine nv_i (v := 0) rfl ?_
  refine nj_v (ws := [(a2, .inl (y 0, 2001, .inl (upd nz 0 1))), (a4, .inl (y 1, 2001, .inr (.inl nzl))), (a7, .inl (y 0, 9, .inl nz)), (a8, .inl (y 0, 9, .inl nz)), (a1, .inr (7, [.ref a6, .ref a7, .ref a8, .ref a9, .int 0, .int 0, .ref a10, .ref a11, .ref a12, .ref a13])), (a3, .inl (y 1, 2001, .inr (.inl nzl))), (a0, .inr (2, [.ref a2, .ref a3, .ref a4, .ref a5])), (a5, .inl (y 1, 2001, .inr (.inl nzl)))]) (wc := [(a0, .inr (2, [.ref a2, .ref a3, .ref a4, .ref a5])), (a4, .inl (y 1, 2001, .inr (.inl nzl)))]) (wr := [(a2, .inl (y 0, 2001, .inl (upd nz 0 1))), (a7, .inl (y 0, 9, .inl nz)), (a8, .inl (y 0, 9, .inl nz)), (a1, .inr (7, [.ref a6, .ref a7, .ref a8, .ref a9, .int 0, .int 0, .ref a10, .ref a11, .ref a12, .ref a13])), (a3, .inl (y 1, 2001, .inr (.inl nzl))), (a5, .inl (y 1, 2001, .inr (.inl nzl)))]) (nr_V (As := [.int 0, .int 6, .int 0]) (rest := []) ⟨hx, hb, hml, hown, hts⟩ (cX2_addPurse_7 l D y a0 a2 a3 a4 a5 H.size) (cwV 3 hts gX2_put_X2_addPurse rfl rfl rfl (by decide +kernel) ⟨Nat.le_of_ble_eq_true rfl, Nat.le_of_ble_eq_true rfl⟩) hK hP hD hE [6, 1] rfl (by decide +kernel) 0 2 rfl rfl rfl rfl rfl hl.1 rfl (lv_room (Nat.le_of_ble_eq_true rfl)) dX2_put_49 ⟨Nat.le_of_ble_eq_true rfl, Nat.le_of_ble_eq_true rfl⟩) hP hD hS hA [6, 1] [0, 2, 3, 4, 5, 7] rfl rfl (by decide +kernel) (by decide +kernel) (fun u27 H locs _ hP hD hS => ?_)
  refine lv_aload_n hx hb dX2_put_52 rfl (lv_at hl 1 rfl) ?_
  refine lv_iload_n hx hb dX2_put_53 rfl (lv_at hl 2 rfl) ?_
  refine lv_iload_n hx hb dX2_put_54 rfl (lv_at hl 0 rfl) ?_
  refine lv_aload_n hx hb dX2_put_55 rfl (lv_at hl 3 rfl) ?_
  refine va_get (D := D) (ci := 7) (v := .ref a8) (C := RX7) (T := TX7) (N := 10) hx hb hts (gt_c iG_X7) hown hK hP 3 rfl rfl 2 (by decide +kernel) w_5 (fun _ h9 => h9) rfl dX2_put_56 ?_
  refine lv_iload_n hx hb dX2_put_59 rfl (lv_at hl 0 rfl) ?_
  refine va_iald hx hb hK hP 2 0 rfl rfl (n_in (by decide +kernel)) dX2_put_60 ?_
  refine nv_i (v := 0) rfl ?_
  refine nj_v (ws := [(a2, .inl (y 0, 2001, .inl (upd nz 0 1))), (a7, .inl (y 0, 9, .inl nz)), (a8, .inl (y 0, 9, .inl nz)), (a1, .inr (7, [.ref a6, .ref a7, .ref a8, .ref a9, .int 0, .int 0, .ref a10, .ref a11, .ref a12, .ref a13])), (a3, .inl (y 1, 2001, .inr (.inl nzl))), (a5, .inl (y 1, 2001, .inr (.inl nzl))), (a0, .inr (2, [.ref a2, .ref a3, .ref a4, .ref a5])), (a4, .inl (y 1, 2001, .inr (.inl nzl)))]) (wc := [(a0, .inr (2, [.ref a2, .ref a3, .ref a4, .ref a5])), (a5, .inl (y 1, 2001, .inr (.inl nzl)))]) (wr := [(a2, .inl (y 0, 2001, .inl (upd nz 0 1))), (a7, .inl (y 0, 9, .inl nz)), (a8, .inl (y 0, 9, .inl nz)), (a1, .inr (7, [.ref a6, .ref a7, .ref a8, .ref a9, .int 0, .int 0, .ref a10, .ref a11, .ref a12, .ref a13])), (a3, .inl (y 1, 2001, .inr (.inl nzl))), (a4, .inl (y 1, 2001, .inr (.inl nzl)))]) (nr_V (As := [.int 0, .int 6, .int 0]) (rest := []) ⟨hx, hb, hml, hown, hts⟩ (cX2_addSales_7 l D y a0 a2 a3 a4 a5 H.size) (cwV 3 hts gX2_put_X2_addSales rfl rfl rfl (by decide +kernel) ⟨Nat.le_of_ble_eq_true rfl, Nat.le_of_ble_eq_true rfl⟩) hK hP hD hE [6, 5] rfl (by decide +kernel) 0 2 rfl rfl rfl rfl rfl hl.1 rfl (lv_room (Nat.le_of_ble_eq_true rfl)) dX2_put_61 ⟨Nat.le_of_ble_eq_true rfl, Nat.le_of_ble_eq_true rfl⟩) hP hD hS hA [6, 5] [0, 1, 2, 3, 4, 7] rfl rfl (by decide +kernel) (by decide +kernel) (fun u29 H locs _ hP hD hS => ?_)
  refine lv_iinc (v := 7) (lv' := [(3, .int 7), (0, .ref a0), (1, .int 0), (2, .ref a1)]) hx hb dX2_put_64 hl (k := 0) rfl (by decide +kernel) (by decide +kernel) rfl (fun ls hl => ?_)
  refine lv_goto (tgt := 34) hx hb dX2_put_67 (by decide +kernel) ?_
  refine lv_iload_n hx hb dX2_put_34 rfl (lv_at hl 0 rfl) ?_
  refine lv_bipush (v := 9) hx hb dX2_put_35 (by decide +kernel) ?_
  refine lv_icmp_ge (tgt := 70) hx hb dX2_put_37 (by decide +kernel) (fun c => absurd c (by decide +kernel)) (fun _ => ?_)
  refine lv_aload_n hx hb dX2_put_40 rfl (lv_at hl 1 rfl) ?_
  refine lv_iload_n hx hb dX2_put_41 rfl (lv_at hl 2 rfl) ?_
  refine lv_iload_n hx hb dX2_put_42 rfl (lv_at hl 0 rfl) ?_
  refine lv_aload_n hx hb dX2_put_43 rfl (lv_at hl 3 rfl) ?_
  refine va_get (D := D) (ci := 7) (v := .ref a7) (C := RX7) (T := TX7) (N := 10) hx hb hts (gt_c iG_X7) hown hK hP 3 rfl rfl 1 (by decide +kernel) w_4 (fun _ h9 => h9) rfl dX2_put_44 ?_
  refine lv_iload_n hx hb dX2_put_47 rfl (lv_at hl 0 rfl) ?_
  refine va_iald hx hb hK hP 1 0 rfl rfl (n_in (by decide +kernel)) dX2_put_48 ?_
  refine nv_i (v := 0) rfl ?_
  refine nj_v (ws := [(a2, .inl (y 0, 2001, .inl (upd nz 0 1))), (a7, .inl (y 0, 9, .inl nz)), (a8, .inl (y 0, 9, .inl nz)), (a1, .inr (7, [.ref a6, .ref a7, .ref a8, .ref a9, .int 0, .int 0, .ref a10, .ref a11, .ref a12, .ref a13])), (a3, .inl (y 1, 2001, .inr (.inl nzl))), (a4, .inl (y 1, 2001, .inr (.inl nzl))), (a0, .inr (2, [.ref a2, .ref a3, .ref a4, .ref a5])), (a5, .inl (y 1, 2001, .inr (.inl nzl)))]) (wc := [(a0, .inr (2, [.ref a2, .ref a3, .ref a4, .ref a5])), (a4, .inl (y 1, 2001, .inr (.inl nzl)))]) (wr := [(a2, .inl (y 0, 2001, .inl (upd nz 0 1))), (a7, .inl (y 0, 9, .inl nz)), (a8, .inl (y 0, 9, .inl nz)), (a1, .inr (7, [.ref a6, .ref a7, .ref a8, .ref a9, .int 0, .int 0, .ref a10, .ref a11, .ref a12, .ref a13])), (a3, .inl (y 1, 2001, .inr (.inl nzl))), (a5, .inl (y 1, 2001, .inr (.inl nzl)))]) (nr_V (As := [.int 0, .int 7, .int 0]) (rest := []) ⟨hx, hb, hml, hown, hts⟩ (cX2_addPurse_8 l D y a0 a2 a3 a4 a5 H.size) (cwV 3 hts gX2_put_X2_addPurse rfl rfl rfl (by decide +kernel) ⟨Nat.le_of_ble_eq_true rfl, Nat.le_of_ble_eq_true rfl⟩) hK hP hD hE [6, 5] rfl (by decide +kernel) 0 2 rfl rfl rfl rfl rfl hl.1 rfl (lv_room (Nat.le_of_ble_eq_true rfl)) dX2_put_49 ⟨Nat.le_of_ble_eq_true rfl, Nat.le_of_ble_eq_true rfl⟩) hP hD hS hA [6, 5] [0, 1, 2, 3, 4, 7] rfl rfl (by decide +kernel) (by decide +kernel) (fun u31 H locs _ hP hD hS => ?_)
  refine lv_aload_n hx hb dX2_put_52 rfl (lv_at hl 1 rfl) ?_
  refine lv_iload_n hx hb dX2_put_53 rfl (lv_at hl 2 rfl) ?_
  refine lv_iload_n hx hb dX2_put_54 rfl (lv_at hl 0 rfl) ?_
  refine lv_aload_n hx hb dX2_put_55 rfl (lv_at hl 3 rfl) ?_
  refine va_get (D := D) (ci := 7) (v := .ref a8) (C := RX7) (T := TX7) (N := 10) hx hb hts (gt_c iG_X7) hown hK hP 3 rfl rfl 2 (by decide +kernel) w_5 (fun _ h9 => h9) rfl dX2_put_56 ?_
  refine lv_iload_n hx hb dX2_put_59 rfl (lv_at hl 0 rfl) ?_
  refine va_iald hx hb hK hP 2 0 rfl rfl (n_in (by decide +kernel)) dX2_put_60 ?_
  refine nv_i (v := 0) rfl ?_
  refine nj_v (ws := [(a2, .inl (y 0, 2001, .inl (upd nz 0 1))), (a7, .inl (y 0, 9, .inl nz)), (a8, .inl (y 0, 9, .inl nz)), (a1, .inr (7, [.ref a6, .ref a7, .ref a8, .ref a9, .int 0, .int 0, .ref a10, .ref a11, .ref a12, .ref a13])), (a3, .inl (y 1, 2001, .inr (.inl nzl))), (a5, .inl (y 1, 2001, .inr (.inl nzl))), (a0, .inr (2, [.ref a2, .ref a3, .ref a4, .ref a5])), (a4, .inl (y 1, 2001, .inr (.inl nzl)))]) (wc := [(a0, .inr (2, [.ref a2, .ref a3, .ref a4, .ref a5])), (a5, .inl (y 1, 2001, .inr (.inl nzl)))]) (wr := [(a2, .inl (y 0, 2001, .inl (upd nz 0 1))), (a7, .inl (y 0, 9, .inl nz)), (a8, .inl (y 0, 9, .inl nz)), (a1, .inr (7, [.ref a6, .ref a7, .ref a8, .ref a9, .int 0, .int 0, .ref a10, .ref a11, .ref a12, .ref a13])), (a3, .inl (y 1, 2001, .inr (.inl nzl))), (a4, .inl (y 1, 2001, .inr (.inl nzl)))]) (nr_V (As := [.int 0, .int 7, .int 0]) (rest := []) ⟨hx, hb, hml, hown, hts⟩ (cX2_addSales_8 l D y a0 a2 a3 a4 a5 H.size) (cwV 3 hts gX2_put_X2_addSales rfl rfl rfl (by decide +kernel) ⟨Nat.le_of_ble_eq_true rfl, Nat.le_of_ble_eq_true rfl⟩) hK hP hD hE [6, 5] rfl (by decide +kernel) 0 2 rfl rfl rfl rfl rfl hl.1 rfl (lv_room (Nat.le_of_ble_eq_true rfl)) dX2_put_61 ⟨Nat.le_of_ble_eq_true rfl, Nat.le_of_ble_eq_true rfl⟩) hP hD hS hA [6, 5] [0, 1, 2, 3, 4, 7] rfl rfl (by decide +kernel) (by decide +kernel) (fun u33 H locs _ hP hD hS => ?_)
  refine lv_iinc (v := 8) (lv' := [(3, .int 8), (0, .ref a0), (1, .int 0), (2, .ref a1)]) hx hb dX2_put_64 hl (k := 0) rfl (by decide +kernel) (by decide +kernel) rfl (fun ls hl => ?_)
  refine lv_goto (tgt := 34) hx hb dX2_put_67 (by decide +kernel) ?_
  refine lv_iload_n hx hb dX2_put_34 rfl (lv_at hl 0 rfl) ?_
  refine lv_bipush (v := 9) hx hb dX2_put_35 (by decide +kernel) ?_
  refine lv_icmp_ge (tgt := 70) hx hb dX2_put_37 (by decide +kernel) (fun c => absurd c (by decide +kernel)) (fun _ => ?_)
  refine lv_aload_n hx hb dX2_put_40 rfl (lv_at hl 1 rfl) ?_
  refine lv_iload_n hx hb dX2_put_41 rfl (lv_at hl 2 rfl) ?_
  refine lv_iload_n hx hb dX2_put_42 rfl (lv_at hl 0 rfl) ?_
  refine lv_aload_n hx hb dX2_put_43 rfl (lv_at hl 3 rfl) ?_
  refine va_get (D := D) (ci := 7) (v := .ref a7) (C := RX7) (T := TX7) (N := 10) hx hb hts (gt_c iG_X7) hown hK hP 3 rfl rfl 1 (by decide +kernel) w_4 (fun _ h9 => h9) rfl dX2_put_44 ?_
  refine lv_iload_n hx hb dX2_put_47 rfl (lv_at hl 0 rfl) ?_
  refine va_iald hx hb hK hP 1 0 rfl rfl (n_in (by decide +kernel)) dX2_put_48 ?_
  refine nv_i (v := 0) rfl ?_
  refine nj_v (ws := [(a2, .inl (y 0, 2001, .inl (upd nz 0 1))), (a7, .inl (y 0, 9, .inl nz)), (a8, .inl (y 0, 9, .inl nz)), (a1, .inr (7, [.ref a6, .ref a7, .ref a8, .ref a9, .int 0, .int 0, .ref a10, .ref a11, .ref a12, .ref a13])), (a3, .inl (y 1, 2001, .inr (.inl nzl))), (a4, .inl (y 1, 2001, .inr (.inl nzl))), (a0, .inr (2, [.ref a2, .ref a3, .ref a4, .ref a5])), (a5, .inl (y 1, 2001, .inr (.inl nzl)))]) (wc := [(a0, .inr (2, [.ref a2, .ref a3, .ref a4, .ref a5])), (a4, .inl (y 1, 2001, .inr (.inl nzl)))]) (wr := [(a2, .inl (y 0, 2001, .inl (upd nz 0 1))), (a7, .inl (y 0, 9, .inl nz)), (a8, .inl (y 0, 9, .inl nz)), (a1, .inr (7, [.ref a6, .ref a7, .ref a8, .ref a9, .int 0, .int 0, .ref a10, .ref a11, .ref a12, .ref a13])), (a3, .inl (y 1, 2001, .inr (.inl nzl))), (a5, .inl (y 1, 2001, .inr (.inl nzl)))]) (nr_V (As := [.int 0, .int 8, .int 0]) (rest := []) ⟨hx, hb, hml, hown, hts⟩ (cX2_addPurse_9 l D y a0 a2 a3 a4 a5 H.size) (cwV 3 hts gX2_put_X2_addPurse rfl rfl rfl (by decide +kernel) ⟨Nat.le_of_ble_eq_true rfl, Nat.le_of_ble_eq_true rfl⟩) hK hP hD hE [6, 5] rfl (by decide +kernel) 0 2 rfl rfl rfl rfl rfl hl.1 rfl (lv_room (Nat.le_of_ble_eq_true rfl)) dX2_put_49 ⟨Nat.le_of_ble_eq_true rfl, Nat.le_of_ble_eq_true rfl⟩) hP hD hS hA [6, 5] [0, 1, 2, 3, 4, 7] rfl rfl (by decide +kernel) (by decide +kernel) (fun u35 H locs _ hP hD hS => ?_)
  refine lv_aload_n hx hb dX2_put_52 rfl (lv_at hl 1 rfl) ?_
  refine lv_iload_n hx hb dX2_put_53 rfl (lv_at hl 2 rfl) ?_
  refine lv_iload_n hx hb dX2_put_54 rfl (lv_at hl 0 rfl) ?_
  refine lv_aload_n hx hb dX2_put_55 rfl (lv_at hl 3 rfl) ?_
  refine va_get (D := D) (ci := 7) (v := .ref a8) (C := RX7) (T := TX7) (N := 10) hx hb hts (gt_c iG_X7) hown hK hP 3 rfl rfl 2 (by decide +kernel) w_5 (fun _ h9 => h9) rfl dX2_put_56 ?_
  refine lv_iload_n hx hb dX2_put_59 rfl (lv_at hl 0 rfl) ?_
  refine va_iald hx hb hK hP 2 0 rfl rfl (n_in (by decide +kernel)) dX2_put_60 ?_
  refine nv_i (v := 0) rfl ?_
  refine nj_v (ws := [(a2, .inl (y 0, 2001, .inl (upd nz 0 1))), (a7, .inl (y 0, 9, .inl nz)), (a8, .inl (y 0, 9, .inl nz)), (a1, .inr (7, [.ref a6, .ref a7, .ref a8, .ref a9, .int 0, .int 0, .ref a10, .ref a11, .ref a12, .ref a13])), (a3, .inl (y 1, 2001, .inr (.inl nzl))), (a5, .inl (y 1, 2001, .inr (.inl nzl))), (a0, .inr (2, [.ref a2, .ref a3, .ref a4, .ref a5])), (a4, .inl (y 1, 2001, .inr (.inl nzl)))]) (wc := [(a0, .inr (2, [.ref a2, .ref a3, .ref a4, .ref a5])), (a5, .inl (y 1, 2001, .inr (.inl nzl)))]) (wr := [(a2, .inl (y 0, 2001, .inl (upd nz 0 1))), (a7, .inl (y 0, 9, .inl nz)), (a8, .inl (y 0, 9, .inl nz)), (a1, .inr (7, [.ref a6, .ref a7, .ref a8, .ref a9, .int 0, .int 0, .ref a10, .ref a11, .ref a12, .ref a13])), (a3, .inl (y 1, 2001, .inr (.inl nzl))), (a4, .inl (y 1, 2001, .inr (.inl nzl)))]) (nr_V (As := [.int 0, .int 8, .int 0]) (rest := []) ⟨hx, hb, hml, hown, hts⟩ (cX2_addSales_9 l D y a0 a2 a3 a4 a5 H.size) (cwV 3 hts gX2_put_X2_addSales rfl rfl rfl (by decide +kernel) ⟨Nat.le_of_ble_eq_true rfl, Nat.le_of_ble_eq_true rfl⟩) hK hP hD hE [6, 5] rfl (by decide +kernel) 0 2 rfl rfl rfl rfl rfl hl.1 rfl (lv_room (Nat.le_of_ble_eq_true rfl)) dX2_put_61 ⟨Nat.le_of_ble_eq_true rfl, Nat.le_of_ble_eq_true rfl⟩) hP hD hS hA [6, 5] [0, 1, 2, 3, 4, 7] rfl rfl (by decide +kernel) (by decide +kernel) (fun u37 H locs _ hP hD hS => ?_)
  refine lv_iinc (v := 9) (lv' := [(3, .int 9), (0, .ref a0), (1, .int 0), (2, .ref a1)]) hx hb dX2_put_64 hl (k := 0) rfl (by decide +kernel) (by decide +kernel) rfl (fun ls hl => ?_)
  refine lv_goto (tgt := 34) hx hb dX2_put_67 (by decide +kernel) ?_
  refine lv_iload_n hx hb dX2_put_34 rfl (lv_at hl 0 rfl) ?_
  refine lv_bipush (v := 9) hx hb dX2_put_35 (by decide +kernel) ?_
  refine lv_icmp_ge (tgt := 70) hx hb dX2_put_37 (by decide +kernel) (fun _ => ?_) (fun c => absurd (by decide +kernel) c)
  refine W.widen (k := 0) (n := 0) (Nat.le_of_ble_eq_true rfl) (Nat.le_of_ble_eq_true rfl) ?_
  exact W.vret hx hb hr (fun t ht hW => ⟨⟨(fun _ => 0), rfl, trivial, by rw [ht]; exact hP, va_K.moved hW.alike hK, hD⟩, hS.F ht⟩) hS.2.2 dX2_put_70 hlocks
set_option maxRecDepth 100000 in
set_option maxHeartbeats 4000000 in
theorem cX2_hash_1 (l : Launch) (D : va_G) (y : Nat → ClassId) (a0 : Nat) (a1 : Nat) (a2 : Nat) (a3 : Nat) (a4 : Nat) (sz : Nat) : Met l yX2_hash wsX2_hash { frames := 2, cells := 0, slots := 0, locals := 200 } (nPc D y nT [.ref a0, .int 0, .int 12] [(a0, .inr (2, [.ref a1, .ref a2, .ref a3, .ref a4])), (a1, .inl (y 0, 2001, .inl (upd nz 0 1))), (a2, .inl (y 1, 2001, .inr (.inl nzl))), (a3, .inl (y 1, 2001, .inr (.inl nzl))), (a4, .inl (y 1, 2001, .inr (.inl nzl)))] sz) ((fun A => nQi D y (fun r _ => r = 3476) (fun u => [(a0, .inr (2, [.ref a1, .ref a2, .ref a3, .ref a4])), (a1, .inl (y 0, 2001, .inl (upd nz 0 1))), (a2, .inl (y 1, 2001, .inr (.inl nzl))), (a3, .inl (y 1, 2001, .inr (.inl nzl))), (a4, .inl (y 1, 2001, .inr (.inl nzl)))]) A) (va_A [(a0, .inr (2, [.ref a1, .ref a2, .ref a3, .ref a4])), (a1, .inl (y 0, 2001, .inl (upd nz 0 1))), (a2, .inl (y 1, 2001, .inr (.inl nzl))), (a3, .inl (y 1, 2001, .inr (.inl nzl))), (a4, .inl (y 1, 2001, .inr (.inl nzl)))] sz)) 0 0 (va_A [(a0, .inr (2, [.ref a1, .ref a2, .ref a3, .ref a4])), (a1, .inl (y 0, 2001, .inl (upd nz 0 1))), (a2, .inl (y 1, 2001, .inr (.inl nzl))), (a3, .inl (y 1, 2001, .inr (.inl nzl))), (a4, .inl (y 1, 2001, .inr (.inl nzl)))] sz) := by
  refine nm_ofW (D := D) (y := y) (E := nT) (yy := yX2_hash) (wsy := wsX2_hash) (rm := { frames := 2, cells := 0, slots := 0, locals := 200 }) (as := [.ref a0, .int 0, .int 12]) (ws := [(a0, .inr (2, [.ref a1, .ref a2, .ref a3, .ref a4])), (a1, .inl (y 0, 2001, .inl (upd nz 0 1))), (a2, .inl (y 1, 2001, .inr (.inl nzl))), (a3, .inl (y 1, 2001, .inr (.inl nzl))), (a4, .inl (y 1, 2001, .inr (.inl nzl)))]) (sz := sz) (mc := 0) (ms := 0) (Qc := fun A => nQi D y (fun r _ => r = 3476) (fun u => [(a0, .inr (2, [.ref a1, .ref a2, .ref a3, .ref a4])), (a1, .inl (y 0, 2001, .inl (upd nz 0 1))), (a2, .inl (y 1, 2001, .inr (.inl nzl))), (a3, .inl (y 1, 2001, .inr (.inl nzl))), (a4, .inl (y 1, 2001, .inr (.inl nzl)))]) A) (cc := cX2_hash) (maxL := 5) (ret := (some .int)) (by decide +kernel) rfl (Nat.le_of_ble_eq_true rfl) ?_
  intro p e s m below meth c A ls H hx hb hr hml hts hown hlocks hnm hsz hP hK hD hA hS hE hAe hl
  replace hl : lv_has ls 5 [(0, .ref a0), (1, .int 0), (2, .int 12)] := hl
  have hown : s.vm.findClass RX2 = some m.cls := hown
  have w_0 := hts (.fieldLink RX2 9 "SoldToBehind$Packed" "code" "[I") (gt_k wd_2_26)
  have w_1 := hts (.constantLong RX2 53 (-7046029254386353131)) (gt_k wd_5_70)
  have w_2 := hts (.fieldLink RX2 15 "SoldToBehind$Packed" "low" "[J") (gt_k wd_2_29)
  have w_3 := hts (.fieldLink RX2 19 "SoldToBehind$Packed" "high" "[J") (gt_k wd_2_30)
  have w_4 := hts (.fieldLink RX2 22 "SoldToBehind$Packed" "sales" "[J") (gt_k wd_2_31)
  refine lv_aload_n hx hb dX2_hash_0 rfl (lv_at hl 0 rfl) ?_
  refine va_get (D := D) (ci := 2) (v := .ref a1) (C := RX2) (T := TX2) (N := 4) hx hb hts (gt_c iG_X2) hown hK hP 0 rfl rfl 0 (by decide +kernel) w_0 (fun _ h9 => h9) rfl dX2_hash_1 ?_
  refine lv_iload_n hx hb dX2_hash_4 rfl (lv_at hl 1 rfl) ?_
  refine va_iald hx hb hK hP 1 0 rfl rfl (n_in (by decide +kernel)) dX2_hash_5 ?_
  refine nv_i (v := 1) rfl ?_
  refine lv_i2l (v := 1) hx hb dX2_hash_6 (by decide +kernel) ?_
  refine lv_ldc2 (v := (-7046029254386353131)) hx hb hown w_1 dX2_hash_7 ?_
  refine lv_lmul hx hb dX2_hash_10 ?_
  refine nv_l (v := (-7046029254386353131)) (by decide +kernel) ?_
  refine lv_aload_n hx hb dX2_hash_11 rfl (lv_at hl 0 rfl) ?_
  refine va_get (D := D) (ci := 2) (v := .ref a2) (C := RX2) (T := TX2) (N := 4) hx hb hts (gt_c iG_X2) hown hK hP 0 rfl rfl 1 (by decide +kernel) w_2 (fun _ h9 => h9) rfl dX2_hash_12 ?_
  refine lv_iload_n hx hb dX2_hash_15 rfl (lv_at hl 1 rfl) ?_
  refine va_lald hx hb hK hP 2 1 rfl rfl (n_in (by decide +kernel)) dX2_hash_16 ?_
  refine nv_l (v := 0) rfl ?_
  refine lv_ladd hx hb dX2_hash_17 ?_
  refine nv_l (v := (-7046029254386353131)) (by decide +kernel) ?_
  refine lv_ldc2 (v := (-7046029254386353131)) hx hb hown w_1 dX2_hash_18 ?_
  refine lv_lmul hx hb dX2_hash_21 ?_
  refine nv_l (v := (-2358710677322311239)) (by decide +kernel) ?_
  refine lv_aload_n hx hb dX2_hash_22 rfl (lv_at hl 0 rfl) ?_
  refine va_get (D := D) (ci := 2) (v := .ref a3) (C := RX2) (T := TX2) (N := 4) hx hb hts (gt_c iG_X2) hown hK hP 0 rfl rfl 2 (by decide +kernel) w_3 (fun _ h9 => h9) rfl dX2_hash_23 ?_
  refine lv_iload_n hx hb dX2_hash_26 rfl (lv_at hl 1 rfl) ?_
  refine va_lald hx hb hK hP 3 1 rfl rfl (n_in (by decide +kernel)) dX2_hash_27 ?_
  refine nv_l (v := 0) rfl ?_
  refine lv_ladd hx hb dX2_hash_28 ?_
  refine nv_l (v := (-2358710677322311239)) (by decide +kernel) ?_
  refine lv_ldc2 (v := (-7046029254386353131)) hx hb hown w_1 dX2_hash_29 ?_
  refine lv_lmul hx hb dX2_hash_32 ?_
  refine nv_l (v := 6938460308862072877) (by decide +kernel) ?_
  refine lv_aload_n hx hb dX2_hash_33 rfl (lv_at hl 0 rfl) ?_
  refine va_get (D := D) (ci := 2) (v := .ref a4) (C := RX2) (T := TX2) (N := 4) hx hb hts (gt_c iG_X2) hown hK hP 0 rfl rfl 3 (by decide +kernel) w_4 (fun _ h9 => h9) rfl dX2_hash_34 ?_
  refine lv_iload_n hx hb dX2_hash_37 rfl (lv_at hl 1 rfl) ?_
  refine va_lald hx hb hK hP 4 1 rfl rfl (n_in (by decide +kernel)) dX2_hash_38 ?_
  refine nv_l (v := 0) rfl ?_
  refine lv_ladd hx hb dX2_hash_39 ?_
  refine nv_l (v := 6938460308862072877) (by decide +kernel) ?_
  refine lv_lstore_n (lv' := [(3, .long 6938460308862072877), (0, .ref a0), (1, .int 0), (2, .int 12)]) hx hb dX2_hash_40 rfl hl (by decide +kernel) rfl (fun ls hl => ?_)
  refine lv_lload_n hx hb dX2_hash_41 rfl (lv_at hl 0 rfl) ?_
  refine lv_ldc2 (v := (-7046029254386353131)) hx hb hown w_1 dX2_hash_42 ?_
  refine lv_lmul hx hb dX2_hash_45 ?_
  refine nv_l (v := (-2791277408655628367)) (by decide +kernel) ?_
  refine lv_bipush (v := 64) hx hb dX2_hash_46 (by decide +kernel) ?_
  refine lv_iload_n hx hb dX2_hash_48 rfl (lv_at hl 3 rfl) ?_
  refine lv_isub hx hb dX2_hash_49 ?_
  refine nv_i (v := 52) (by decide +kernel) ?_
  refine lv_lushr hx hb dX2_hash_50 rfl ?_
  refine nv_l (v := 3476) (by decide +kernel) ?_
  refine lv_l2i (v := 3476) hx hb dX2_hash_51 (by decide +kernel) ?_
  refine W.widen (k := 0) (n := 0) (Nat.le_of_ble_eq_true rfl) (Nat.le_of_ble_eq_true rfl) ?_
  exact W.iret (v := 3476) hx hb hr (fun t ht hW => ⟨⟨3476, (fun _ => 0), rfl, rfl, by rw [ht]; exact hP, va_K.moved hW.alike hK, hD⟩, hS.F ht⟩) hS.2.2 dX2_hash_52 hlocks
set_option maxRecDepth 100000 in
set_option maxHeartbeats 4000000 in
theorem cX4_indexOf_1 (l : Launch) (D : va_G) (y : Nat → ClassId) (a0 : Nat) (a1 : Nat) (a2 : Nat) (a3 : Nat) (a4 : Nat) (a5 : Nat) (a6 : Nat) (a7 : Nat) (a8 : Nat) (a9 : Nat) (a10 : Nat) (a11 : Nat) (a12 : Nat) (a13 : Nat) (a14 : Nat) (a15 : Nat) (sz : Nat) : Met l yX4_indexOf wsX4_indexOf { frames := 3, cells := 0, slots := 0, locals := 224 } (nPc D y nT [.ref a0, .int 0] [(a0, .inr (4, [.ref a1, .ref a2, .ref a3, .int 0, .int 0, .ref a4, .ref a5, .ref a6, .ref a7, .ref a8, .ref a9, .ref a10, .ref a11])), (a1, .inr (2, [.ref a12, .ref a13, .ref a14, .ref a15])), (a12, .inl (y 0, 2001, .inl (upd nz 0 1))), (a13, .inl (y 1, 2001, .inr (.inl nzl))), (a14, .inl (y 1, 2001, .inr (.inl nzl))), (a15, .inl (y 1, 2001, .inr (.inl nzl))), (a10, .inl (y 0, 4096, .inl nz))] sz) ((fun A => nQi D y (fun r _ => r = 0) (fun u => [(a0, .inr (4, [.ref a1, .ref a2, .ref a3, .int 1, .int 0, .ref a4, .ref a5, .ref a6, .ref a7, .ref a8, .ref a9, .ref a10, .ref a11])), (a10, .inl (y 0, 4096, .inl (upd nz 3476 1))), (a1, .inr (2, [.ref a12, .ref a13, .ref a14, .ref a15])), (a12, .inl (y 0, 2001, .inl (upd nz 0 1))), (a13, .inl (y 1, 2001, .inr (.inl nzl))), (a14, .inl (y 1, 2001, .inr (.inl nzl))), (a15, .inl (y 1, 2001, .inr (.inl nzl)))]) A) (va_A [(a0, .inr (4, [.ref a1, .ref a2, .ref a3, .int 0, .int 0, .ref a4, .ref a5, .ref a6, .ref a7, .ref a8, .ref a9, .ref a10, .ref a11])), (a1, .inr (2, [.ref a12, .ref a13, .ref a14, .ref a15])), (a12, .inl (y 0, 2001, .inl (upd nz 0 1))), (a13, .inl (y 1, 2001, .inr (.inl nzl))), (a14, .inl (y 1, 2001, .inr (.inl nzl))), (a15, .inl (y 1, 2001, .inr (.inl nzl))), (a10, .inl (y 0, 4096, .inl nz))] sz)) 0 0 (va_A [(a0, .inr (4, [.ref a1, .ref a2, .ref a3, .int 0, .int 0, .ref a4, .ref a5, .ref a6, .ref a7, .ref a8, .ref a9, .ref a10, .ref a11])), (a1, .inr (2, [.ref a12, .ref a13, .ref a14, .ref a15])), (a12, .inl (y 0, 2001, .inl (upd nz 0 1))), (a13, .inl (y 1, 2001, .inr (.inl nzl))), (a14, .inl (y 1, 2001, .inr (.inl nzl))), (a15, .inl (y 1, 2001, .inr (.inl nzl))), (a10, .inl (y 0, 4096, .inl nz))] sz) := by
  refine nm_ofW (D := D) (y := y) (E := nT) (yy := yX4_indexOf) (wsy := wsX4_indexOf) (rm := { frames := 3, cells := 0, slots := 0, locals := 224 }) (as := [.ref a0, .int 0]) (ws := [(a0, .inr (4, [.ref a1, .ref a2, .ref a3, .int 0, .int 0, .ref a4, .ref a5, .ref a6, .ref a7, .ref a8, .ref a9, .ref a10, .ref a11])), (a1, .inr (2, [.ref a12, .ref a13, .ref a14, .ref a15])), (a12, .inl (y 0, 2001, .inl (upd nz 0 1))), (a13, .inl (y 1, 2001, .inr (.inl nzl))), (a14, .inl (y 1, 2001, .inr (.inl nzl))), (a15, .inl (y 1, 2001, .inr (.inl nzl))), (a10, .inl (y 0, 4096, .inl nz))]) (sz := sz) (mc := 0) (ms := 0) (Qc := fun A => nQi D y (fun r _ => r = 0) (fun u => [(a0, .inr (4, [.ref a1, .ref a2, .ref a3, .int 1, .int 0, .ref a4, .ref a5, .ref a6, .ref a7, .ref a8, .ref a9, .ref a10, .ref a11])), (a10, .inl (y 0, 4096, .inl (upd nz 3476 1))), (a1, .inr (2, [.ref a12, .ref a13, .ref a14, .ref a15])), (a12, .inl (y 0, 2001, .inl (upd nz 0 1))), (a13, .inl (y 1, 2001, .inr (.inl nzl))), (a14, .inl (y 1, 2001, .inr (.inl nzl))), (a15, .inl (y 1, 2001, .inr (.inl nzl)))]) A) (cc := cX4_indexOf) (maxL := 4) (ret := (some .int)) (by decide +kernel) rfl (Nat.le_of_ble_eq_true rfl) ?_
  intro p e s m below meth c A ls H hx hb hr hml hts hown hlocks hnm hsz hP hK hD hA hS hE hAe hl
  replace hl : lv_has ls 4 [(0, .ref a0), (1, .int 0)] := hl
  have hown : s.vm.findClass RX4 = some m.cls := hown
  have w_0 := hts (.fieldLink RX4 16 "SoldToBehind$Reach" "store" "LSoldToBehind$Packed;") (gt_k wd_5_9)
  have w_1 := hts (.fieldLink RX4 55 "SoldToBehind$Reach" "table" "[I") (gt_k wd_5_25)
  have w_2 := hts (.fieldLink RX4 27 "SoldToBehind$Reach" "count" "I") (gt_k wd_5_15)
  refine lv_aload_n hx hb dX4_indexOf_0 rfl (lv_at hl 0 rfl) ?_
  refine va_get (D := D) (ci := 4) (v := .ref a1) (C := RX4) (T := TX4) (N := 13) hx hb hts (gt_c iG_X4) hown hK hP 0 rfl rfl 0 (by decide +kernel) w_0 (fun _ h9 => h9) rfl dX4_indexOf_1 ?_
  refine lv_iload_n hx hb dX4_indexOf_4 rfl (lv_at hl 1 rfl) ?_
  refine lv_bipush (v := 12) hx hb dX4_indexOf_5 (by decide +kernel) ?_
  refine nj_i (ws := [(a0, .inr (4, [.ref a1, .ref a2, .ref a3, .int 0, .int 0, .ref a4, .ref a5, .ref a6, .ref a7, .ref a8, .ref a9, .ref a10, .ref a11])), (a1, .inr (2, [.ref a12, .ref a13, .ref a14, .ref a15])), (a12, .inl (y 0, 2001, .inl (upd nz 0 1))), (a13, .inl (y 1, 2001, .inr (.inl nzl))), (a14, .inl (y 1, 2001, .inr (.inl nzl))), (a15, .inl (y 1, 2001, .inr (.inl nzl))), (a10, .inl (y 0, 4096, .inl nz))]) (wc := [(a1, .inr (2, [.ref a12, .ref a13, .ref a14, .ref a15])), (a12, .inl (y 0, 2001, .inl (upd nz 0 1))), (a13, .inl (y 1, 2001, .inr (.inl nzl))), (a14, .inl (y 1, 2001, .inr (.inl nzl))), (a15, .inl (y 1, 2001, .inr (.inl nzl)))]) (wr := [(a0, .inr (4, [.ref a1, .ref a2, .ref a3, .int 0, .int 0, .ref a4, .ref a5, .ref a6, .ref a7, .ref a8, .ref a9, .ref a10, .ref a11])), (a10, .inl (y 0, 4096, .inl nz))]) (nr_V (As := [.int 0, .int 12]) (rest := []) ⟨hx, hb, hml, hown, hts⟩ (cX2_hash_1 l D y a1 a12 a13 a14 a15 H.size) (cwV 2 hts gX4_indexOf_X2_hash rfl rfl rfl (by decide +kernel) ⟨Nat.le_of_ble_eq_true rfl, Nat.le_of_ble_eq_true rfl⟩) hK hP hD hE [1, 2, 3, 4, 5] rfl (by decide +kernel) 0 2 rfl rfl rfl rfl rfl hl.1 rfl (lv_room (Nat.le_of_ble_eq_true rfl)) dX4_indexOf_7 ⟨Nat.le_of_ble_eq_true rfl, Nat.le_of_ble_eq_true rfl⟩) hP hD hS hA [1, 2, 3, 4, 5] [0, 6] rfl rfl (by decide +kernel) (by decide +kernel) (fun r2 u1 H locs er2 hP hD hS => ?_)
  subst er2
  refine lv_istore_n (lv' := [(2, .int 3476), (0, .ref a0), (1, .int 0)]) hx hb dX4_indexOf_10 rfl hl (by decide +kernel) rfl (fun ls hl => ?_)
  refine lv_iconst (v := 0) hx hb dX4_indexOf_11 (by decide +kernel) ?_
  refine lv_istore_n (lv' := [(3, .int 0), (2, .int 3476), (0, .ref a0), (1, .int 0)]) hx hb dX4_indexOf_12 rfl hl (by decide +kernel) rfl (fun ls hl => ?_)
  refine lv_iload_n hx hb dX4_indexOf_13 rfl (lv_at hl 0 rfl) ?_
  refine lv_sipush (v := 4096) hx hb dX4_indexOf_14 (by decide +kernel) ?_
  refine lv_icmp_ge (tgt := 71) hx hb dX4_indexOf_17 (by decide +kernel) (fun c => absurd c (by decide +kernel)) (fun _ => ?_)
  refine lv_aload_n hx hb dX4_indexOf_20 rfl (lv_at hl 2 rfl) ?_
  refine va_get (D := D) (ci := 4) (v := .ref a10) (C := RX4) (T := TX4) (N := 13) hx hb hts (gt_c iG_X4) hown hK hP 0 rfl rfl 11 (by decide +kernel) w_1 (fun _ h9 => h9) rfl dX4_indexOf_21 ?_
  refine lv_iload_n hx hb dX4_indexOf_24 rfl (lv_at hl 1 rfl) ?_
  refine va_iald hx hb hK hP 1 0 rfl rfl (n_in (by decide +kernel)) dX4_indexOf_25 ?_
  refine nv_i (v := 0) rfl ?_
  refine lv_if_eq (tgt := 71) hx hb dX4_indexOf_26 (by decide +kernel) (fun _ => ?_) (fun c => absurd (by decide +kernel) c)
  refine lv_iload_n hx hb dX4_indexOf_71 rfl (lv_at hl 3 rfl) ?_
  refine lv_sipush (v := 2000) hx hb dX4_indexOf_72 (by decide +kernel) ?_
  refine lv_icmp_lt (tgt := 80) hx hb dX4_indexOf_75 (by decide +kernel) (fun _ => ?_) (fun c => absurd (by decide +kernel) c)
  refine lv_aload_n hx hb dX4_indexOf_80 rfl (lv_at hl 2 rfl) ?_
  refine va_get (D := D) (ci := 4) (v := .ref a10) (C := RX4) (T := TX4) (N := 13) hx hb hts (gt_c iG_X4) hown hK hP 0 rfl rfl 11 (by decide +kernel) w_1 (fun _ h9 => h9) rfl dX4_indexOf_81 ?_
  refine lv_iload_n hx hb dX4_indexOf_84 rfl (lv_at hl 1 rfl) ?_
  refine lv_iload_n hx hb dX4_indexOf_85 rfl (lv_at hl 3 rfl) ?_
  refine lv_iconst (v := 1) hx hb dX4_indexOf_86 (by decide +kernel) ?_
  refine lv_iadd hx hb dX4_indexOf_87 ?_
  refine nv_i (v := 1) (by decide +kernel) ?_
  refine nb_iast (ws' := [(a0, .inr (4, [.ref a1, .ref a2, .ref a3, .int 0, .int 0, .ref a4, .ref a5, .ref a6, .ref a7, .ref a8, .ref a9, .ref a10, .ref a11])), (a10, .inl (y 0, 4096, .inl (upd nz 3476 1))), (a1, .inr (2, [.ref a12, .ref a13, .ref a14, .ref a15])), (a12, .inl (y 0, 2001, .inl (upd nz 0 1))), (a13, .inl (y 1, 2001, .inr (.inl nzl))), (a14, .inl (y 1, 2001, .inr (.inl nzl))), (a15, .inl (y 1, 2001, .inr (.inl nzl)))]) hx hb hK hP hD hS 1 0 rfl rfl (n_in (by decide +kernel)) rfl dX4_indexOf_88 (fun H locs hP hD hS => ?_)
  refine lv_aload_n hx hb dX4_indexOf_89 rfl (lv_at hl 2 rfl) ?_
  refine lv_iload_n hx hb dX4_indexOf_90 rfl (lv_at hl 3 rfl) ?_
  refine lv_iconst (v := 1) hx hb dX4_indexOf_91 (by decide +kernel) ?_
  refine lv_iadd hx hb dX4_indexOf_92 ?_
  refine nv_i (v := 1) (by decide +kernel) ?_
  refine nb_put (D := D) (ci := 4) (v := .int 1) (ty := .int) (C := RX4) (T := TX4) (N := 13) (ws' := [(a0, .inr (4, [.ref a1, .ref a2, .ref a3, .int 1, .int 0, .ref a4, .ref a5, .ref a6, .ref a7, .ref a8, .ref a9, .ref a10, .ref a11])), (a10, .inl (y 0, 4096, .inl (upd nz 3476 1))), (a1, .inr (2, [.ref a12, .ref a13, .ref a14, .ref a15])), (a12, .inl (y 0, 2001, .inl (upd nz 0 1))), (a13, .inl (y 1, 2001, .inr (.inl nzl))), (a14, .inl (y 1, 2001, .inr (.inl nzl))), (a15, .inl (y 1, 2001, .inr (.inl nzl)))]) hx hb hts (gt_c iG_X4) tyX4 tyX4_ok nmX4 hown hK hP hD hS 0 rfl rfl 3 (by decide +kernel) w_2 (fun _ h9 => h9) rfl (by decide +kernel) rfl rfl (Nat.le_of_ble_eq_true rfl) rfl dX4_indexOf_93 (fun H locs hP hD hS => ?_)
  refine lv_iload_n hx hb dX4_indexOf_96 rfl (lv_at hl 3 rfl) ?_
  refine W.widen (k := 0) (n := 0) (Nat.le_of_ble_eq_true rfl) (Nat.le_of_ble_eq_true rfl) ?_
  exact W.iret (v := 0) hx hb hr (fun t ht hW => ⟨⟨0, (fun _ => 0), rfl, rfl, by rw [ht]; exact hP, va_K.moved hW.alike hK, hD⟩, hS.F ht⟩) hS.2.2 dX4_indexOf_97 hlocks
set_option maxRecDepth 100000 in
set_option maxHeartbeats 4000000 in
theorem cX2_purseOf_1 (l : Launch) (D : va_G) (y : Nat → ClassId) (a0 : Nat) (a1 : Nat) (a2 : Nat) (a3 : Nat) (a4 : Nat) (sz : Nat) : Met l yX2_purseOf wsX2_purseOf { frames := 2, cells := 0, slots := 0, locals := 200 } (nPc D y nT [.ref a0, .int 0, .int 0] [(a0, .inr (2, [.ref a1, .ref a2, .ref a3, .ref a4])), (a2, .inl (y 1, 2001, .inr (.inl nzl)))] sz) ((fun A => nQi D y (fun r _ => r = 0) (fun u => [(a0, .inr (2, [.ref a1, .ref a2, .ref a3, .ref a4])), (a2, .inl (y 1, 2001, .inr (.inl nzl)))]) A) (va_A [(a0, .inr (2, [.ref a1, .ref a2, .ref a3, .ref a4])), (a2, .inl (y 1, 2001, .inr (.inl nzl)))] sz)) 0 0 (va_A [(a0, .inr (2, [.ref a1, .ref a2, .ref a3, .ref a4])), (a2, .inl (y 1, 2001, .inr (.inl nzl)))] sz) := by
  refine nm_ofW (D := D) (y := y) (E := nT) (yy := yX2_purseOf) (wsy := wsX2_purseOf) (rm := { frames := 2, cells := 0, slots := 0, locals := 200 }) (as := [.ref a0, .int 0, .int 0]) (ws := [(a0, .inr (2, [.ref a1, .ref a2, .ref a3, .ref a4])), (a2, .inl (y 1, 2001, .inr (.inl nzl)))]) (sz := sz) (mc := 0) (ms := 0) (Qc := fun A => nQi D y (fun r _ => r = 0) (fun u => [(a0, .inr (2, [.ref a1, .ref a2, .ref a3, .ref a4])), (a2, .inl (y 1, 2001, .inr (.inl nzl)))]) A) (cc := cX2_purseOf) (maxL := 5) (ret := (some .int)) (by decide +kernel) rfl (Nat.le_of_ble_eq_true rfl) ?_
  intro p e s m below meth c A ls H hx hb hr hml hts hown hlocks hnm hsz hP hK hD hA hS hE hAe hl
  replace hl : lv_has ls 5 [(0, .ref a0), (1, .int 0), (2, .int 0)] := hl
  have hown : s.vm.findClass RX2 = some m.cls := hown
  have w_0 := hts (.fieldLink RX2 15 "SoldToBehind$Packed" "low" "[J") (gt_k wd_2_29)
  refine lv_iload_n hx hb dX2_purseOf_0 rfl (lv_at hl 2 rfl) ?_
  refine lv_bipush (v := 6) hx hb dX2_purseOf_1 (by decide +kernel) ?_
  refine lv_icmp_ge (tgt := 20) hx hb dX2_purseOf_3 (by decide +kernel) (fun c => absurd c (by decide +kernel)) (fun _ => ?_)
  refine lv_aload_n hx hb dX2_purseOf_6 rfl (lv_at hl 0 rfl) ?_
  refine va_get (D := D) (ci := 2) (v := .ref a2) (C := RX2) (T := TX2) (N := 4) hx hb hts (gt_c iG_X2) hown hK hP 0 rfl rfl 1 (by decide +kernel) w_0 (fun _ h9 => h9) rfl dX2_purseOf_7 ?_
  refine lv_iload_n hx hb dX2_purseOf_10 rfl (lv_at hl 1 rfl) ?_
  refine va_lald hx hb hK hP 1 1 rfl rfl (n_in (by decide +kernel)) dX2_purseOf_11 ?_
  refine nv_l (v := 0) rfl ?_
  refine lv_bipush (v := 10) hx hb dX2_purseOf_12 (by decide +kernel) ?_
  refine lv_iload_n hx hb dX2_purseOf_14 rfl (lv_at hl 2 rfl) ?_
  refine lv_imul hx hb dX2_purseOf_15 ?_
  refine nv_i (v := 0) (by decide +kernel) ?_
  refine lv_lshr hx hb dX2_purseOf_16 rfl ?_
  refine nv_l (v := 0) (by decide +kernel) ?_
  refine lv_goto (tgt := 34) hx hb dX2_purseOf_17 (by decide +kernel) ?_
  refine lv_lstore_n (lv' := [(3, .long 0), (0, .ref a0), (1, .int 0), (2, .int 0)]) hx hb dX2_purseOf_34 rfl hl (by decide +kernel) rfl (fun ls hl => ?_)
  refine lv_lload_n hx hb dX2_purseOf_35 rfl (lv_at hl 0 rfl) ?_
  refine lv_l2i (v := 0) hx hb dX2_purseOf_36 (by decide +kernel) ?_
  refine lv_sipush (v := 1023) hx hb dX2_purseOf_37 (by decide +kernel) ?_
  refine lv_iand hx hb dX2_purseOf_40 ?_
  refine nv_i (v := 0) (by decide +kernel) ?_
  refine W.widen (k := 0) (n := 0) (Nat.le_of_ble_eq_true rfl) (Nat.le_of_ble_eq_true rfl) ?_
  exact W.iret (v := 0) hx hb hr (fun t ht hW => ⟨⟨0, (fun _ => 0), rfl, rfl, by rw [ht]; exact hP, va_K.moved hW.alike hK, hD⟩, hS.F ht⟩) hS.2.2 dX2_purseOf_41 hlocks
set_option maxRecDepth 100000 in
set_option maxHeartbeats 4000000 in
theorem cX2_purseOf_2 (l : Launch) (D : va_G) (y : Nat → ClassId) (a0 : Nat) (a1 : Nat) (a2 : Nat) (a3 : Nat) (a4 : Nat) (sz : Nat) : Met l yX2_purseOf wsX2_purseOf { frames := 2, cells := 0, slots := 0, locals := 200 } (nPc D y nT [.ref a0, .int 0, .int 1] [(a0, .inr (2, [.ref a1, .ref a2, .ref a3, .ref a4])), (a2, .inl (y 1, 2001, .inr (.inl nzl)))] sz) ((fun A => nQi D y (fun r _ => r = 0) (fun u => [(a0, .inr (2, [.ref a1, .ref a2, .ref a3, .ref a4])), (a2, .inl (y 1, 2001, .inr (.inl nzl)))]) A) (va_A [(a0, .inr (2, [.ref a1, .ref a2, .ref a3, .ref a4])), (a2, .inl (y 1, 2001, .inr (.inl nzl)))] sz)) 0 0 (va_A [(a0, .inr (2, [.ref a1, .ref a2, .ref a3, .ref a4])), (a2, .inl (y 1, 2001, .inr (.inl nzl)))] sz) := by
  refine nm_ofW (D := D) (y := y) (E := nT) (yy := yX2_purseOf) (wsy := wsX2_purseOf) (rm := { frames := 2, cells := 0, slots := 0, locals := 200 }) (as := [.ref a0, .int 0, .int 1]) (ws := [(a0, .inr (2, [.ref a1, .ref a2, .ref a3, .ref a4])), (a2, .inl (y 1, 2001, .inr (.inl nzl)))]) (sz := sz) (mc := 0) (ms := 0) (Qc := fun A => nQi D y (fun r _ => r = 0) (fun u => [(a0, .inr (2, [.ref a1, .ref a2, .ref a3, .ref a4])), (a2, .inl (y 1, 2001, .inr (.inl nzl)))]) A) (cc := cX2_purseOf) (maxL := 5) (ret := (some .int)) (by decide +kernel) rfl (Nat.le_of_ble_eq_true rfl) ?_
  intro p e s m below meth c A ls H hx hb hr hml hts hown hlocks hnm hsz hP hK hD hA hS hE hAe hl
  replace hl : lv_has ls 5 [(0, .ref a0), (1, .int 0), (2, .int 1)] := hl
  have hown : s.vm.findClass RX2 = some m.cls := hown
  have w_0 := hts (.fieldLink RX2 15 "SoldToBehind$Packed" "low" "[J") (gt_k wd_2_29)
  refine lv_iload_n hx hb dX2_purseOf_0 rfl (lv_at hl 2 rfl) ?_
  refine lv_bipush (v := 6) hx hb dX2_purseOf_1 (by decide +kernel) ?_
  refine lv_icmp_ge (tgt := 20) hx hb dX2_purseOf_3 (by decide +kernel) (fun c => absurd c (by decide +kernel)) (fun _ => ?_)
  refine lv_aload_n hx hb dX2_purseOf_6 rfl (lv_at hl 0 rfl) ?_
  refine va_get (D := D) (ci := 2) (v := .ref a2) (C := RX2) (T := TX2) (N := 4) hx hb hts (gt_c iG_X2) hown hK hP 0 rfl rfl 1 (by decide +kernel) w_0 (fun _ h9 => h9) rfl dX2_purseOf_7 ?_
  refine lv_iload_n hx hb dX2_purseOf_10 rfl (lv_at hl 1 rfl) ?_
  refine va_lald hx hb hK hP 1 1 rfl rfl (n_in (by decide +kernel)) dX2_purseOf_11 ?_
  refine nv_l (v := 0) rfl ?_
  refine lv_bipush (v := 10) hx hb dX2_purseOf_12 (by decide +kernel) ?_
  refine lv_iload_n hx hb dX2_purseOf_14 rfl (lv_at hl 2 rfl) ?_
  refine lv_imul hx hb dX2_purseOf_15 ?_
  refine nv_i (v := 10) (by decide +kernel) ?_
  refine lv_lshr hx hb dX2_purseOf_16 rfl ?_
  refine nv_l (v := 0) (by decide +kernel) ?_
  refine lv_goto (tgt := 34) hx hb dX2_purseOf_17 (by decide +kernel) ?_
  refine lv_lstore_n (lv' := [(3, .long 0), (0, .ref a0), (1, .int 0), (2, .int 1)]) hx hb dX2_purseOf_34 rfl hl (by decide +kernel) rfl (fun ls hl => ?_)
  refine lv_lload_n hx hb dX2_purseOf_35 rfl (lv_at hl 0 rfl) ?_
  refine lv_l2i (v := 0) hx hb dX2_purseOf_36 (by decide +kernel) ?_
  refine lv_sipush (v := 1023) hx hb dX2_purseOf_37 (by decide +kernel) ?_
  refine lv_iand hx hb dX2_purseOf_40 ?_
  refine nv_i (v := 0) (by decide +kernel) ?_
  refine W.widen (k := 0) (n := 0) (Nat.le_of_ble_eq_true rfl) (Nat.le_of_ble_eq_true rfl) ?_
  exact W.iret (v := 0) hx hb hr (fun t ht hW => ⟨⟨0, (fun _ => 0), rfl, rfl, by rw [ht]; exact hP, va_K.moved hW.alike hK, hD⟩, hS.F ht⟩) hS.2.2 dX2_purseOf_41 hlocks
set_option maxRecDepth 100000 in
set_option maxHeartbeats 4000000 in
theorem cX2_purseOf_3 (l : Launch) (D : va_G) (y : Nat → ClassId) (a0 : Nat) (a1 : Nat) (a2 : Nat) (a3 : Nat) (a4 : Nat) (sz : Nat) : Met l yX2_purseOf wsX2_purseOf { frames := 2, cells := 0, slots := 0, locals := 200 } (nPc D y nT [.ref a0, .int 0, .int 2] [(a0, .inr (2, [.ref a1, .ref a2, .ref a3, .ref a4])), (a2, .inl (y 1, 2001, .inr (.inl nzl)))] sz) ((fun A => nQi D y (fun r _ => r = 0) (fun u => [(a0, .inr (2, [.ref a1, .ref a2, .ref a3, .ref a4])), (a2, .inl (y 1, 2001, .inr (.inl nzl)))]) A) (va_A [(a0, .inr (2, [.ref a1, .ref a2, .ref a3, .ref a4])), (a2, .inl (y 1, 2001, .inr (.inl nzl)))] sz)) 0 0 (va_A [(a0, .inr (2, [.ref a1, .ref a2, .ref a3, .ref a4])), (a2, .inl (y 1, 2001, .inr (.inl nzl)))] sz) := by
  refine nm_ofW (D := D) (y := y) (E := nT) (yy := yX2_purseOf) (wsy := wsX2_purseOf) (rm := { frames := 2, cells := 0, slots := 0, locals := 200 }) (as := [.ref a0, .int 0, .int 2]) (ws := [(a0, .inr (2, [.ref a1, .ref a2, .ref a3, .ref a4])), (a2, .inl (y 1, 2001, .inr (.inl nzl)))]) (sz := sz) (mc := 0) (ms := 0) (Qc := fun A => nQi D y (fun r _ => r = 0) (fun u => [(a0, .inr (2, [.ref a1, .ref a2, .ref a3, .ref a4])), (a2, .inl (y 1, 2001, .inr (.inl nzl)))]) A) (cc := cX2_purseOf) (maxL := 5) (ret := (some .int)) (by decide +kernel) rfl (Nat.le_of_ble_eq_true rfl) ?_
  intro p e s m below meth c A ls H hx hb hr hml hts hown hlocks hnm hsz hP hK hD hA hS hE hAe hl
  replace hl : lv_has ls 5 [(0, .ref a0), (1, .int 0), (2, .int 2)] := hl
  have hown : s.vm.findClass RX2 = some m.cls := hown
  have w_0 := hts (.fieldLink RX2 15 "SoldToBehind$Packed" "low" "[J") (gt_k wd_2_29)
  refine lv_iload_n hx hb dX2_purseOf_0 rfl (lv_at hl 2 rfl) ?_
  refine lv_bipush (v := 6) hx hb dX2_purseOf_1 (by decide +kernel) ?_
  refine lv_icmp_ge (tgt := 20) hx hb dX2_purseOf_3 (by decide +kernel) (fun c => absurd c (by decide +kernel)) (fun _ => ?_)
  refine lv_aload_n hx hb dX2_purseOf_6 rfl (lv_at hl 0 rfl) ?_
  refine va_get (D := D) (ci := 2) (v := .ref a2) (C := RX2) (T := TX2) (N := 4) hx hb hts (gt_c iG_X2) hown hK hP 0 rfl rfl 1 (by decide +kernel) w_0 (fun _ h9 => h9) rfl dX2_purseOf_7 ?_
  refine lv_iload_n hx hb dX2_purseOf_10 rfl (lv_at hl 1 rfl) ?_
  refine va_lald hx hb hK hP 1 1 rfl rfl (n_in (by decide +kernel)) dX2_purseOf_11 ?_
  refine nv_l (v := 0) rfl ?_
  refine lv_bipush (v := 10) hx hb dX2_purseOf_12 (by decide +kernel) ?_
  refine lv_iload_n hx hb dX2_purseOf_14 rfl (lv_at hl 2 rfl) ?_
  refine lv_imul hx hb dX2_purseOf_15 ?_
  refine nv_i (v := 20) (by decide +kernel) ?_
  refine lv_lshr hx hb dX2_purseOf_16 rfl ?_
  refine nv_l (v := 0) (by decide +kernel) ?_
  refine lv_goto (tgt := 34) hx hb dX2_purseOf_17 (by decide +kernel) ?_
  refine lv_lstore_n (lv' := [(3, .long 0), (0, .ref a0), (1, .int 0), (2, .int 2)]) hx hb dX2_purseOf_34 rfl hl (by decide +kernel) rfl (fun ls hl => ?_)
  refine lv_lload_n hx hb dX2_purseOf_35 rfl (lv_at hl 0 rfl) ?_
  refine lv_l2i (v := 0) hx hb dX2_purseOf_36 (by decide +kernel) ?_
  refine lv_sipush (v := 1023) hx hb dX2_purseOf_37 (by decide +kernel) ?_
  refine lv_iand hx hb dX2_purseOf_40 ?_
  refine nv_i (v := 0) (by decide +kernel) ?_
  refine W.widen (k := 0) (n := 0) (Nat.le_of_ble_eq_true rfl) (Nat.le_of_ble_eq_true rfl) ?_
  exact W.iret (v := 0) hx hb hr (fun t ht hW => ⟨⟨0, (fun _ => 0), rfl, rfl, by rw [ht]; exact hP, va_K.moved hW.alike hK, hD⟩, hS.F ht⟩) hS.2.2 dX2_purseOf_41 hlocks
set_option maxRecDepth 100000 in
set_option maxHeartbeats 4000000 in
theorem cX2_purseOf_4 (l : Launch) (D : va_G) (y : Nat → ClassId) (a0 : Nat) (a1 : Nat) (a2 : Nat) (a3 : Nat) (a4 : Nat) (sz : Nat) : Met l yX2_purseOf wsX2_purseOf { frames := 2, cells := 0, slots := 0, locals := 200 } (nPc D y nT [.ref a0, .int 0, .int 3] [(a0, .inr (2, [.ref a1, .ref a2, .ref a3, .ref a4])), (a2, .inl (y 1, 2001, .inr (.inl nzl)))] sz) ((fun A => nQi D y (fun r _ => r = 0) (fun u => [(a0, .inr (2, [.ref a1, .ref a2, .ref a3, .ref a4])), (a2, .inl (y 1, 2001, .inr (.inl nzl)))]) A) (va_A [(a0, .inr (2, [.ref a1, .ref a2, .ref a3, .ref a4])), (a2, .inl (y 1, 2001, .inr (.inl nzl)))] sz)) 0 0 (va_A [(a0, .inr (2, [.ref a1, .ref a2, .ref a3, .ref a4])), (a2, .inl (y 1, 2001, .inr (.inl nzl)))] sz) := by
  refine nm_ofW (D := D) (y := y) (E := nT) (yy := yX2_purseOf) (wsy := wsX2_purseOf) (rm := { frames := 2, cells := 0, slots := 0, locals := 200 }) (as := [.ref a0, .int 0, .int 3]) (ws := [(a0, .inr (2, [.ref a1, .ref a2, .ref a3, .ref a4])), (a2, .inl (y 1, 2001, .inr (.inl nzl)))]) (sz := sz) (mc := 0) (ms := 0) (Qc := fun A => nQi D y (fun r _ => r = 0) (fun u => [(a0, .inr (2, [.ref a1, .ref a2, .ref a3, .ref a4])), (a2, .inl (y 1, 2001, .inr (.inl nzl)))]) A) (cc := cX2_purseOf) (maxL := 5) (ret := (some .int)) (by decide +kernel) rfl (Nat.le_of_ble_eq_true rfl) ?_
  intro p e s m below meth c A ls H hx hb hr hml hts hown hlocks hnm hsz hP hK hD hA hS hE hAe hl
  replace hl : lv_has ls 5 [(0, .ref a0), (1, .int 0), (2, .int 3)] := hl
  have hown : s.vm.findClass RX2 = some m.cls := hown
  have w_0 := hts (.fieldLink RX2 15 "SoldToBehind$Packed" "low" "[J") (gt_k wd_2_29)
  refine lv_iload_n hx hb dX2_purseOf_0 rfl (lv_at hl 2 rfl) ?_
  refine lv_bipush (v := 6) hx hb dX2_purseOf_1 (by decide +kernel) ?_
  refine lv_icmp_ge (tgt := 20) hx hb dX2_purseOf_3 (by decide +kernel) (fun c => absurd c (by decide +kernel)) (fun _ => ?_)
  refine lv_aload_n hx hb dX2_purseOf_6 rfl (lv_at hl 0 rfl) ?_
  refine va_get (D := D) (ci := 2) (v := .ref a2) (C := RX2) (T := TX2) (N := 4) hx hb hts (gt_c iG_X2) hown hK hP 0 rfl rfl 1 (by decide +kernel) w_0 (fun _ h9 => h9) rfl dX2_purseOf_7 ?_
  refine lv_iload_n hx hb dX2_purseOf_10 rfl (lv_at hl 1 rfl) ?_
  refine va_lald hx hb hK hP 1 1 rfl rfl (n_in (by decide +kernel)) dX2_purseOf_11 ?_
  refine nv_l (v := 0) rfl ?_
  refine lv_bipush (v := 10) hx hb dX2_purseOf_12 (by decide +kernel) ?_
  refine lv_iload_n hx hb dX2_purseOf_14 rfl (lv_at hl 2 rfl) ?_
  refine lv_imul hx hb dX2_purseOf_15 ?_
  refine nv_i (v := 30) (by decide +kernel) ?_
  refine lv_lshr hx hb dX2_purseOf_16 rfl ?_
  refine nv_l (v := 0) (by decide +kernel) ?_
  refine lv_goto (tgt := 34) hx hb dX2_purseOf_17 (by decide +kernel) ?_
  refine lv_lstore_n (lv' := [(3, .long 0), (0, .ref a0), (1, .int 0), (2, .int 3)]) hx hb dX2_purseOf_34 rfl hl (by decide +kernel) rfl (fun ls hl => ?_)
  refine lv_lload_n hx hb dX2_purseOf_35 rfl (lv_at hl 0 rfl) ?_
  refine lv_l2i (v := 0) hx hb dX2_purseOf_36 (by decide +kernel) ?_
  refine lv_sipush (v := 1023) hx hb dX2_purseOf_37 (by decide +kernel) ?_
  refine lv_iand hx hb dX2_purseOf_40 ?_
  refine nv_i (v := 0) (by decide +kernel) ?_
  refine W.widen (k := 0) (n := 0) (Nat.le_of_ble_eq_true rfl) (Nat.le_of_ble_eq_true rfl) ?_
  exact W.iret (v := 0) hx hb hr (fun t ht hW => ⟨⟨0, (fun _ => 0), rfl, rfl, by rw [ht]; exact hP, va_K.moved hW.alike hK, hD⟩, hS.F ht⟩) hS.2.2 dX2_purseOf_41 hlocks
set_option maxRecDepth 100000 in
set_option maxHeartbeats 4000000 in
theorem cX2_purseOf_5 (l : Launch) (D : va_G) (y : Nat → ClassId) (a0 : Nat) (a1 : Nat) (a2 : Nat) (a3 : Nat) (a4 : Nat) (sz : Nat) : Met l yX2_purseOf wsX2_purseOf { frames := 2, cells := 0, slots := 0, locals := 200 } (nPc D y nT [.ref a0, .int 0, .int 4] [(a0, .inr (2, [.ref a1, .ref a2, .ref a3, .ref a4])), (a2, .inl (y 1, 2001, .inr (.inl nzl)))] sz) ((fun A => nQi D y (fun r _ => r = 0) (fun u => [(a0, .inr (2, [.ref a1, .ref a2, .ref a3, .ref a4])), (a2, .inl (y 1, 2001, .inr (.inl nzl)))]) A) (va_A [(a0, .inr (2, [.ref a1, .ref a2, .ref a3, .ref a4])), (a2, .inl (y 1, 2001, .inr (.inl nzl)))] sz)) 0 0 (va_A [(a0, .inr (2, [.ref a1, .ref a2, .ref a3, .ref a4])), (a2, .inl (y 1, 2001, .inr (.inl nzl)))] sz) := by
  refine nm_ofW (D := D) (y := y) (E := nT) (yy := yX2_purseOf) (wsy := wsX2_purseOf) (rm := { frames := 2, cells := 0, slots := 0, locals := 200 }) (as := [.ref a0, .int 0, .int 4]) (ws := [(a0, .inr (2, [.ref a1, .ref a2, .ref a3, .ref a4])), (a2, .inl (y 1, 2001, .inr (.inl nzl)))]) (sz := sz) (mc := 0) (ms := 0) (Qc := fun A => nQi D y (fun r _ => r = 0) (fun u => [(a0, .inr (2, [.ref a1, .ref a2, .ref a3, .ref a4])), (a2, .inl (y 1, 2001, .inr (.inl nzl)))]) A) (cc := cX2_purseOf) (maxL := 5) (ret := (some .int)) (by decide +kernel) rfl (Nat.le_of_ble_eq_true rfl) ?_
  intro p e s m below meth c A ls H hx hb hr hml hts hown hlocks hnm hsz hP hK hD hA hS hE hAe hl
  replace hl : lv_has ls 5 [(0, .ref a0), (1, .int 0), (2, .int 4)] := hl
  have hown : s.vm.findClass RX2 = some m.cls := hown
  have w_0 := hts (.fieldLink RX2 15 "SoldToBehind$Packed" "low" "[J") (gt_k wd_2_29)
  refine lv_iload_n hx hb dX2_purseOf_0 rfl (lv_at hl 2 rfl) ?_
  refine lv_bipush (v := 6) hx hb dX2_purseOf_1 (by decide +kernel) ?_
  refine lv_icmp_ge (tgt := 20) hx hb dX2_purseOf_3 (by decide +kernel) (fun c => absurd c (by decide +kernel)) (fun _ => ?_)
  refine lv_aload_n hx hb dX2_purseOf_6 rfl (lv_at hl 0 rfl) ?_
  refine va_get (D := D) (ci := 2) (v := .ref a2) (C := RX2) (T := TX2) (N := 4) hx hb hts (gt_c iG_X2) hown hK hP 0 rfl rfl 1 (by decide +kernel) w_0 (fun _ h9 => h9) rfl dX2_purseOf_7 ?_
  refine lv_iload_n hx hb dX2_purseOf_10 rfl (lv_at hl 1 rfl) ?_
  refine va_lald hx hb hK hP 1 1 rfl rfl (n_in (by decide +kernel)) dX2_purseOf_11 ?_
  refine nv_l (v := 0) rfl ?_
  refine lv_bipush (v := 10) hx hb dX2_purseOf_12 (by decide +kernel) ?_
  refine lv_iload_n hx hb dX2_purseOf_14 rfl (lv_at hl 2 rfl) ?_
  refine lv_imul hx hb dX2_purseOf_15 ?_
  refine nv_i (v := 40) (by decide +kernel) ?_
  refine lv_lshr hx hb dX2_purseOf_16 rfl ?_
  refine nv_l (v := 0) (by decide +kernel) ?_
  refine lv_goto (tgt := 34) hx hb dX2_purseOf_17 (by decide +kernel) ?_
  refine lv_lstore_n (lv' := [(3, .long 0), (0, .ref a0), (1, .int 0), (2, .int 4)]) hx hb dX2_purseOf_34 rfl hl (by decide +kernel) rfl (fun ls hl => ?_)
  refine lv_lload_n hx hb dX2_purseOf_35 rfl (lv_at hl 0 rfl) ?_
  refine lv_l2i (v := 0) hx hb dX2_purseOf_36 (by decide +kernel) ?_
  refine lv_sipush (v := 1023) hx hb dX2_purseOf_37 (by decide +kernel) ?_
  refine lv_iand hx hb dX2_purseOf_40 ?_
  refine nv_i (v := 0) (by decide +kernel) ?_
  refine W.widen (k := 0) (n := 0) (Nat.le_of_ble_eq_true rfl) (Nat.le_of_ble_eq_true rfl) ?_
  exact W.iret (v := 0) hx hb hr (fun t ht hW => ⟨⟨0, (fun _ => 0), rfl, rfl, by rw [ht]; exact hP, va_K.moved hW.alike hK, hD⟩, hS.F ht⟩) hS.2.2 dX2_purseOf_41 hlocks
set_option maxRecDepth 100000 in
set_option maxHeartbeats 4000000 in
theorem cX2_purseOf_6 (l : Launch) (D : va_G) (y : Nat → ClassId) (a0 : Nat) (a1 : Nat) (a2 : Nat) (a3 : Nat) (a4 : Nat) (sz : Nat) : Met l yX2_purseOf wsX2_purseOf { frames := 2, cells := 0, slots := 0, locals := 200 } (nPc D y nT [.ref a0, .int 0, .int 5] [(a0, .inr (2, [.ref a1, .ref a2, .ref a3, .ref a4])), (a2, .inl (y 1, 2001, .inr (.inl nzl)))] sz) ((fun A => nQi D y (fun r _ => r = 0) (fun u => [(a0, .inr (2, [.ref a1, .ref a2, .ref a3, .ref a4])), (a2, .inl (y 1, 2001, .inr (.inl nzl)))]) A) (va_A [(a0, .inr (2, [.ref a1, .ref a2, .ref a3, .ref a4])), (a2, .inl (y 1, 2001, .inr (.inl nzl)))] sz)) 0 0 (va_A [(a0, .inr (2, [.ref a1, .ref a2, .ref a3, .ref a4])), (a2, .inl (y 1, 2001, .inr (.inl nzl)))] sz) := by
  refine nm_ofW (D := D) (y := y) (E := nT) (yy := yX2_purseOf) (wsy := wsX2_purseOf) (rm := { frames := 2, cells := 0, slots := 0, locals := 200 }) (as := [.ref a0, .int 0, .int 5]) (ws := [(a0, .inr (2, [.ref a1, .ref a2, .ref a3, .ref a4])), (a2, .inl (y 1, 2001, .inr (.inl nzl)))]) (sz := sz) (mc := 0) (ms := 0) (Qc := fun A => nQi D y (fun r _ => r = 0) (fun u => [(a0, .inr (2, [.ref a1, .ref a2, .ref a3, .ref a4])), (a2, .inl (y 1, 2001, .inr (.inl nzl)))]) A) (cc := cX2_purseOf) (maxL := 5) (ret := (some .int)) (by decide +kernel) rfl (Nat.le_of_ble_eq_true rfl) ?_
  intro p e s m below meth c A ls H hx hb hr hml hts hown hlocks hnm hsz hP hK hD hA hS hE hAe hl
  replace hl : lv_has ls 5 [(0, .ref a0), (1, .int 0), (2, .int 5)] := hl
  have hown : s.vm.findClass RX2 = some m.cls := hown
  have w_0 := hts (.fieldLink RX2 15 "SoldToBehind$Packed" "low" "[J") (gt_k wd_2_29)
  refine lv_iload_n hx hb dX2_purseOf_0 rfl (lv_at hl 2 rfl) ?_
  refine lv_bipush (v := 6) hx hb dX2_purseOf_1 (by decide +kernel) ?_
  refine lv_icmp_ge (tgt := 20) hx hb dX2_purseOf_3 (by decide +kernel) (fun c => absurd c (by decide +kernel)) (fun _ => ?_)
  refine lv_aload_n hx hb dX2_purseOf_6 rfl (lv_at hl 0 rfl) ?_
  refine va_get (D := D) (ci := 2) (v := .ref a2) (C := RX2) (T := TX2) (N := 4) hx hb hts (gt_c iG_X2) hown hK hP 0 rfl rfl 1 (by decide +kernel) w_0 (fun _ h9 => h9) rfl dX2_purseOf_7 ?_
  refine lv_iload_n hx hb dX2_purseOf_10 rfl (lv_at hl 1 rfl) ?_
  refine va_lald hx hb hK hP 1 1 rfl rfl (n_in (by decide +kernel)) dX2_purseOf_11 ?_
  refine nv_l (v := 0) rfl ?_
  refine lv_bipush (v := 10) hx hb dX2_purseOf_12 (by decide +kernel) ?_
  refine lv_iload_n hx hb dX2_purseOf_14 rfl (lv_at hl 2 rfl) ?_
  refine lv_imul hx hb dX2_purseOf_15 ?_
  refine nv_i (v := 50) (by decide +kernel) ?_
  refine lv_lshr hx hb dX2_purseOf_16 rfl ?_
  refine nv_l (v := 0) (by decide +kernel) ?_
  refine lv_goto (tgt := 34) hx hb dX2_purseOf_17 (by decide +kernel) ?_
  refine lv_lstore_n (lv' := [(3, .long 0), (0, .ref a0), (1, .int 0), (2, .int 5)]) hx hb dX2_purseOf_34 rfl hl (by decide +kernel) rfl (fun ls hl => ?_)
  refine lv_lload_n hx hb dX2_purseOf_35 rfl (lv_at hl 0 rfl) ?_
  refine lv_l2i (v := 0) hx hb dX2_purseOf_36 (by decide +kernel) ?_
  refine lv_sipush (v := 1023) hx hb dX2_purseOf_37 (by decide +kernel) ?_
  refine lv_iand hx hb dX2_purseOf_40 ?_
  refine nv_i (v := 0) (by decide +kernel) ?_
  refine W.widen (k := 0) (n := 0) (Nat.le_of_ble_eq_true rfl) (Nat.le_of_ble_eq_true rfl) ?_
  exact W.iret (v := 0) hx hb hr (fun t ht hW => ⟨⟨0, (fun _ => 0), rfl, rfl, by rw [ht]; exact hP, va_K.moved hW.alike hK, hD⟩, hS.F ht⟩) hS.2.2 dX2_purseOf_41 hlocks
set_option maxRecDepth 100000 in
set_option maxHeartbeats 4000000 in
theorem cX2_purseOf_7 (l : Launch) (D : va_G) (y : Nat → ClassId) (a0 : Nat) (a1 : Nat) (a2 : Nat) (a3 : Nat) (a4 : Nat) (sz : Nat) : Met l yX2_purseOf wsX2_purseOf { frames := 2, cells := 0, slots := 0, locals := 200 } (nPc D y nT [.ref a0, .int 0, .int 6] [(a0, .inr (2, [.ref a1, .ref a2, .ref a3, .ref a4])), (a3, .inl (y 1, 2001, .inr (.inl nzl)))] sz) ((fun A => nQi D y (fun r _ => r = 0) (fun u => [(a0, .inr (2, [.ref a1, .ref a2, .ref a3, .ref a4])), (a3, .inl (y 1, 2001, .inr (.inl nzl)))]) A) (va_A [(a0, .inr (2, [.ref a1, .ref a2, .ref a3, .ref a4])), (a3, .inl (y 1, 2001, .inr (.inl nzl)))] sz)) 0 0 (va_A [(a0, .inr (2, [.ref a1, .ref a2, .ref a3, .ref a4])), (a3, .inl (y 1, 2001, .inr (.inl nzl)))] sz) := by
  refine nm_ofW (D := D) (y := y) (E := nT) (yy := yX2_purseOf) (wsy := wsX2_purseOf) (rm := { frames := 2, cells := 0, slots := 0, locals := 200 }) (as := [.ref a0, .int 0, .int 6]) (ws := [(a0, .inr (2, [.ref a1, .ref a2, .ref a3, .ref a4])), (a3, .inl (y 1, 2001, .inr (.inl nzl)))]) (sz := sz) (mc := 0) (ms := 0) (Qc := fun A => nQi D y (fun r _ => r = 0) (fun u => [(a0, .inr (2, [.ref a1, .ref a2, .ref a3, .ref a4])), (a3, .inl (y 1, 2001, .inr (.inl nzl)))]) A) (cc := cX2_purseOf) (maxL := 5) (ret := (some .int)) (by decide +kernel) rfl (Nat.le_of_ble_eq_true rfl) ?_
  intro p e s m below meth c A ls H hx hb hr hml hts hown hlocks hnm hsz hP hK hD hA hS hE hAe hl
  replace hl : lv_has ls 5 [(0, .ref a0), (1, .int 0), (2, .int 6)] := hl
  have hown : s.vm.findClass RX2 = some m.cls := hown
  have w_0 := hts (.fieldLink RX2 19 "SoldToBehind$Packed" "high" "[J") (gt_k wd_2_30)
  refine lv_iload_n hx hb dX2_purseOf_0 rfl (lv_at hl 2 rfl) ?_
  refine lv_bipush (v := 6) hx hb dX2_purseOf_1 (by decide +kernel) ?_
  refine lv_icmp_ge (tgt := 20) hx hb dX2_purseOf_3 (by decide +kernel) (fun _ => ?_) (fun c => absurd (by decide +kernel) c)
  refine lv_aload_n hx hb dX2_purseOf_20 rfl (lv_at hl 0 rfl) ?_
  refine va_get (D := D) (ci := 2) (v := .ref a3) (C := RX2) (T := TX2) (N := 4) hx hb hts (gt_c iG_X2) hown hK hP 0 rfl rfl 2 (by decide +kernel) w_0 (fun _ h9 => h9) rfl dX2_purseOf_21 ?_
  refine lv_iload_n hx hb dX2_purseOf_24 rfl (lv_at hl 1 rfl) ?_
  refine va_lald hx hb hK hP 1 1 rfl rfl (n_in (by decide +kernel)) dX2_purseOf_25 ?_
  refine nv_l (v := 0) rfl ?_
  refine lv_bipush (v := 10) hx hb dX2_purseOf_26 (by decide +kernel) ?_
  refine lv_iload_n hx hb dX2_purseOf_28 rfl (lv_at hl 2 rfl) ?_
  refine lv_bipush (v := 6) hx hb dX2_purseOf_29 (by decide +kernel) ?_
  refine lv_isub hx hb dX2_purseOf_31 ?_
  refine nv_i (v := 0) (by decide +kernel) ?_
  refine lv_imul hx hb dX2_purseOf_32 ?_
  refine nv_i (v := 0) (by decide +kernel) ?_
  refine lv_lshr hx hb dX2_purseOf_33 rfl ?_
  refine nv_l (v := 0) (by decide +kernel) ?_
  refine lv_lstore_n (lv' := [(3, .long 0), (0, .ref a0), (1, .int 0), (2, .int 6)]) hx hb dX2_purseOf_34 rfl hl (by decide +kernel) rfl (fun ls hl => ?_)
  refine lv_lload_n hx hb dX2_purseOf_35 rfl (lv_at hl 0 rfl) ?_
  refine lv_l2i (v := 0) hx hb dX2_purseOf_36 (by decide +kernel) ?_
  refine lv_sipush (v := 1023) hx hb dX2_purseOf_37 (by decide +kernel) ?_
  refine lv_iand hx hb dX2_purseOf_40 ?_
  refine nv_i (v := 0) (by decide +kernel) ?_
  refine W.widen (k := 0) (n := 0) (Nat.le_of_ble_eq_true rfl) (Nat.le_of_ble_eq_true rfl) ?_
  exact W.iret (v := 0) hx hb hr (fun t ht hW => ⟨⟨0, (fun _ => 0), rfl, rfl, by rw [ht]; exact hP, va_K.moved hW.alike hK, hD⟩, hS.F ht⟩) hS.2.2 dX2_purseOf_41 hlocks
set_option maxRecDepth 100000 in
set_option maxHeartbeats 4000000 in
theorem cX2_purseOf_8 (l : Launch) (D : va_G) (y : Nat → ClassId) (a0 : Nat) (a1 : Nat) (a2 : Nat) (a3 : Nat) (a4 : Nat) (sz : Nat) : Met l yX2_purseOf wsX2_purseOf { frames := 2, cells := 0, slots := 0, locals := 200 } (nPc D y nT [.ref a0, .int 0, .int 7] [(a0, .inr (2, [.ref a1, .ref a2, .ref a3, .ref a4])), (a3, .inl (y 1, 2001, .inr (.inl nzl)))] sz) ((fun A => nQi D y (fun r _ => r = 0) (fun u => [(a0, .inr (2, [.ref a1, .ref a2, .ref a3, .ref a4])), (a3, .inl (y 1, 2001, .inr (.inl nzl)))]) A) (va_A [(a0, .inr (2, [.ref a1, .ref a2, .ref a3, .ref a4])), (a3, .inl (y 1, 2001, .inr (.inl nzl)))] sz)) 0 0 (va_A [(a0, .inr (2, [.ref a1, .ref a2, .ref a3, .ref a4])), (a3, .inl (y 1, 2001, .inr (.inl nzl)))] sz) := by
  refine nm_ofW (D := D) (y := y) (E := nT) (yy := yX2_purseOf) (wsy := wsX2_purseOf) (rm := { frames := 2, cells := 0, slots := 0, locals := 200 }) (as := [.ref a0, .int 0, .int 7]) (ws := [(a0, .inr (2, [.ref a1, .ref a2, .ref a3, .ref a4])), (a3, .inl (y 1, 2001, .inr (.inl nzl)))]) (sz := sz) (mc := 0) (ms := 0) (Qc := fun A => nQi D y (fun r _ => r = 0) (fun u => [(a0, .inr (2, [.ref a1, .ref a2, .ref a3, .ref a4])), (a3, .inl (y 1, 2001, .inr (.inl nzl)))]) A) (cc := cX2_purseOf) (maxL := 5) (ret := (some .int)) (by decide +kernel) rfl (Nat.le_of_ble_eq_true rfl) ?_
  intro p e s m below meth c A ls H hx hb hr hml hts hown hlocks hnm hsz hP hK hD hA hS hE hAe hl
  replace hl : lv_has ls 5 [(0, .ref a0), (1, .int 0), (2, .int 7)] := hl
  have hown : s.vm.findClass RX2 = some m.cls := hown
  have w_0 := hts (.fieldLink RX2 19 "SoldToBehind$Packed" "high" "[J") (gt_k wd_2_30)
  refine lv_iload_n hx hb dX2_purseOf_0 rfl (lv_at hl 2 rfl) ?_
  refine lv_bipush (v := 6) hx hb dX2_purseOf_1 (by decide +kernel) ?_
  refine lv_icmp_ge (tgt := 20) hx hb dX2_purseOf_3 (by decide +kernel) (fun _ => ?_) (fun c => absurd (by decide +kernel) c)
  refine lv_aload_n hx hb dX2_purseOf_20 rfl (lv_at hl 0 rfl) ?_
  refine va_get (D := D) (ci := 2) (v := .ref a3) (C := RX2) (T := TX2) (N := 4) hx hb hts (gt_c iG_X2) hown hK hP 0 rfl rfl 2 (by decide +kernel) w_0 (fun _ h9 => h9) rfl dX2_purseOf_21 ?_
  refine lv_iload_n hx hb dX2_purseOf_24 rfl (lv_at hl 1 rfl) ?_
  refine va_lald hx hb hK hP 1 1 rfl rfl (n_in (by decide +kernel)) dX2_purseOf_25 ?_
  refine nv_l (v := 0) rfl ?_
  refine lv_bipush (v := 10) hx hb dX2_purseOf_26 (by decide +kernel) ?_
  refine lv_iload_n hx hb dX2_purseOf_28 rfl (lv_at hl 2 rfl) ?_
  refine lv_bipush (v := 6) hx hb dX2_purseOf_29 (by decide +kernel) ?_
  refine lv_isub hx hb dX2_purseOf_31 ?_
  refine nv_i (v := 1) (by decide +kernel) ?_
  refine lv_imul hx hb dX2_purseOf_32 ?_
  refine nv_i (v := 10) (by decide +kernel) ?_
  refine lv_lshr hx hb dX2_purseOf_33 rfl ?_
  refine nv_l (v := 0) (by decide +kernel) ?_
  refine lv_lstore_n (lv' := [(3, .long 0), (0, .ref a0), (1, .int 0), (2, .int 7)]) hx hb dX2_purseOf_34 rfl hl (by decide +kernel) rfl (fun ls hl => ?_)
  refine lv_lload_n hx hb dX2_purseOf_35 rfl (lv_at hl 0 rfl) ?_
  refine lv_l2i (v := 0) hx hb dX2_purseOf_36 (by decide +kernel) ?_
  refine lv_sipush (v := 1023) hx hb dX2_purseOf_37 (by decide +kernel) ?_
  refine lv_iand hx hb dX2_purseOf_40 ?_
  refine nv_i (v := 0) (by decide +kernel) ?_
  refine W.widen (k := 0) (n := 0) (Nat.le_of_ble_eq_true rfl) (Nat.le_of_ble_eq_true rfl) ?_
  exact W.iret (v := 0) hx hb hr (fun t ht hW => ⟨⟨0, (fun _ => 0), rfl, rfl, by rw [ht]; exact hP, va_K.moved hW.alike hK, hD⟩, hS.F ht⟩) hS.2.2 dX2_purseOf_41 hlocks
set_option maxRecDepth 100000 in
set_option maxHeartbeats 4000000 in
theorem cX2_purseOf_9 (l : Launch) (D : va_G) (y : Nat → ClassId) (a0 : Nat) (a1 : Nat) (a2 : Nat) (a3 : Nat) (a4 : Nat) (sz : Nat) : Met l yX2_purseOf wsX2_purseOf { frames := 2, cells := 0, slots := 0, locals := 200 } (nPc D y nT [.ref a0, .int 0, .int 8] [(a0, .inr (2, [.ref a1, .ref a2, .ref a3, .ref a4])), (a3, .inl (y 1, 2001, .inr (.inl nzl)))] sz) ((fun A => nQi D y (fun r _ => r = 0) (fun u => [(a0, .inr (2, [.ref a1, .ref a2, .ref a3, .ref a4])), (a3, .inl (y 1, 2001, .inr (.inl nzl)))]) A) (va_A [(a0, .inr (2, [.ref a1, .ref a2, .ref a3, .ref a4])), (a3, .inl (y 1, 2001, .inr (.inl nzl)))] sz)) 0 0 (va_A [(a0, .inr (2, [.ref a1, .ref a2, .ref a3, .ref a4])), (a3, .inl (y 1, 2001, .inr (.inl nzl)))] sz) := by
  refine nm_ofW (D := D) (y := y) (E := nT) (yy := yX2_purseOf) (wsy := wsX2_purseOf) (rm := { frames := 2, cells := 0, slots := 0, locals := 200 }) (as := [.ref a0, .int 0, .int 8]) (ws := [(a0, .inr (2, [.ref a1, .ref a2, .ref a3, .ref a4])), (a3, .inl (y 1, 2001, .inr (.inl nzl)))]) (sz := sz) (mc := 0) (ms := 0) (Qc := fun A => nQi D y (fun r _ => r = 0) (fun u => [(a0, .inr (2, [.ref a1, .ref a2, .ref a3, .ref a4])), (a3, .inl (y 1, 2001, .inr (.inl nzl)))]) A) (cc := cX2_purseOf) (maxL := 5) (ret := (some .int)) (by decide +kernel) rfl (Nat.le_of_ble_eq_true rfl) ?_
  intro p e s m below meth c A ls H hx hb hr hml hts hown hlocks hnm hsz hP hK hD hA hS hE hAe hl
  replace hl : lv_has ls 5 [(0, .ref a0), (1, .int 0), (2, .int 8)] := hl
  have hown : s.vm.findClass RX2 = some m.cls := hown
  have w_0 := hts (.fieldLink RX2 19 "SoldToBehind$Packed" "high" "[J") (gt_k wd_2_30)
  refine lv_iload_n hx hb dX2_purseOf_0 rfl (lv_at hl 2 rfl) ?_
  refine lv_bipush (v := 6) hx hb dX2_purseOf_1 (by decide +kernel) ?_
  refine lv_icmp_ge (tgt := 20) hx hb dX2_purseOf_3 (by decide +kernel) (fun _ => ?_) (fun c => absurd (by decide +kernel) c)
  refine lv_aload_n hx hb dX2_purseOf_20 rfl (lv_at hl 0 rfl) ?_
  refine va_get (D := D) (ci := 2) (v := .ref a3) (C := RX2) (T := TX2) (N := 4) hx hb hts (gt_c iG_X2) hown hK hP 0 rfl rfl 2 (by decide +kernel) w_0 (fun _ h9 => h9) rfl dX2_purseOf_21 ?_
  refine lv_iload_n hx hb dX2_purseOf_24 rfl (lv_at hl 1 rfl) ?_
  refine va_lald hx hb hK hP 1 1 rfl rfl (n_in (by decide +kernel)) dX2_purseOf_25 ?_
  refine nv_l (v := 0) rfl ?_
  refine lv_bipush (v := 10) hx hb dX2_purseOf_26 (by decide +kernel) ?_
  refine lv_iload_n hx hb dX2_purseOf_28 rfl (lv_at hl 2 rfl) ?_
  refine lv_bipush (v := 6) hx hb dX2_purseOf_29 (by decide +kernel) ?_
  refine lv_isub hx hb dX2_purseOf_31 ?_
  refine nv_i (v := 2) (by decide +kernel) ?_
  refine lv_imul hx hb dX2_purseOf_32 ?_
  refine nv_i (v := 20) (by decide +kernel) ?_
  refine lv_lshr hx hb dX2_purseOf_33 rfl ?_
  refine nv_l (v := 0) (by decide +kernel) ?_
  refine lv_lstore_n (lv' := [(3, .long 0), (0, .ref a0), (1, .int 0), (2, .int 8)]) hx hb dX2_purseOf_34 rfl hl (by decide +kernel) rfl (fun ls hl => ?_)
  refine lv_lload_n hx hb dX2_purseOf_35 rfl (lv_at hl 0 rfl) ?_
  refine lv_l2i (v := 0) hx hb dX2_purseOf_36 (by decide +kernel) ?_
  refine lv_sipush (v := 1023) hx hb dX2_purseOf_37 (by decide +kernel) ?_
  refine lv_iand hx hb dX2_purseOf_40 ?_
  refine nv_i (v := 0) (by decide +kernel) ?_
  refine W.widen (k := 0) (n := 0) (Nat.le_of_ble_eq_true rfl) (Nat.le_of_ble_eq_true rfl) ?_
  exact W.iret (v := 0) hx hb hr (fun t ht hW => ⟨⟨0, (fun _ => 0), rfl, rfl, by rw [ht]; exact hP, va_K.moved hW.alike hK, hD⟩, hS.F ht⟩) hS.2.2 dX2_purseOf_41 hlocks
set_option maxRecDepth 100000 in
set_option maxHeartbeats 4000000 in
theorem cX2_take_1 (l : Launch) (D : va_G) (y : Nat → ClassId) (a0 : Nat) (a1 : Nat) (a2 : Nat) (a3 : Nat) (a4 : Nat) (a5 : Nat) (a6 : Nat) (a7 : Nat) (a8 : Nat) (a9 : Nat) (a10 : Nat) (a11 : Nat) (a12 : Nat) (a13 : Nat) (sz : Nat) : Met l yX2_take wsX2_take { frames := 3, cells := 0, slots := 0, locals := 224 } (nPc D y nT [.ref a0, .int 0, .ref a1] [(a0, .inr (2, [.ref a2, .ref a3, .ref a4, .ref a5])), (a2, .inl (y 0, 2001, .inl (upd nz 0 1))), (a1, .inr (7, [.ref a6, .ref a7, .ref a8, .ref a9, .int 0, .int 0, .ref a10, .ref a11, .ref a12, .ref a13])), (a3, .inl (y 1, 2001, .inr (.inl nzl))), (a7, .inl (y 0, 9, .inl nz)), (a5, .inl (y 1, 2001, .inr (.inl nzl))), (a8, .inl (y 0, 9, .inl nz)), (a4, .inl (y 1, 2001, .inr (.inl nzl)))] sz) ((fun A => nQv D y (fun _ => True) (fun u => [(a2, .inl (y 0, 2001, .inl (upd nz 0 1))), (a1, .inr (7, [.ref a6, .ref a7, .ref a8, .ref a9, .int 0, .int 0, .ref a10, .ref a11, .ref a12, .ref a13])), (a7, .inl (y 0, 9, .inl nz)), (a5, .inl (y 1, 2001, .inr (.inl nzl))), (a8, .inl (y 0, 9, .inl nz)), (a3, .inl (y 1, 2001, .inr (.inl nzl))), (a0, .inr (2, [.ref a2, .ref a3, .ref a4, .ref a5])), (a4, .inl (y 1, 2001, .inr (.inl nzl)))]) A) (va_A [(a0, .inr (2, [.ref a2, .ref a3, .ref a4, .ref a5])), (a2, .inl (y 0, 2001, .inl (upd nz 0 1))), (a1, .inr (7, [.ref a6, .ref a7, .ref a8, .ref a9, .int 0, .int 0, .ref a10, .ref a11, .ref a12, .ref a13])), (a3, .inl (y 1, 2001, .inr (.inl nzl))), (a7, .inl (y 0, 9, .inl nz)), (a5, .inl (y 1, 2001, .inr (.inl nzl))), (a8, .inl (y 0, 9, .inl nz)), (a4, .inl (y 1, 2001, .inr (.inl nzl)))] sz)) 0 0 (va_A [(a0, .inr (2, [.ref a2, .ref a3, .ref a4, .ref a5])), (a2, .inl (y 0, 2001, .inl (upd nz 0 1))), (a1, .inr (7, [.ref a6, .ref a7, .ref a8, .ref a9, .int 0, .int 0, .ref a10, .ref a11, .ref a12, .ref a13])), (a3, .inl (y 1, 2001, .inr (.inl nzl))), (a7, .inl (y 0, 9, .inl nz)), (a5, .inl (y 1, 2001, .inr (.inl nzl))), (a8, .inl (y 0, 9, .inl nz)), (a4, .inl (y 1, 2001, .inr (.inl nzl)))] sz) := by
  refine nm_ofW (D := D) (y := y) (E := nT) (yy := yX2_take) (wsy := wsX2_take) (rm := { frames := 3, cells := 0, slots := 0, locals := 224 }) (as := [.ref a0, .int 0, .ref a1]) (ws := [(a0, .inr (2, [.ref a2, .ref a3, .ref a4, .ref a5])), (a2, .inl (y 0, 2001, .inl (upd nz 0 1))), (a1, .inr (7, [.ref a6, .ref a7, .ref a8, .ref a9, .int 0, .int 0, .ref a10, .ref a11, .ref a12, .ref a13])), (a3, .inl (y 1, 2001, .inr (.inl nzl))), (a7, .inl (y 0, 9, .inl nz)), (a5, .inl (y 1, 2001, .inr (.inl nzl))), (a8, .inl (y 0, 9, .inl nz)), (a4, .inl (y 1, 2001, .inr (.inl nzl)))]) (sz := sz) (mc := 0) (ms := 0) (Qc := fun A => nQv D y (fun _ => True) (fun u => [(a2, .inl (y 0, 2001, .inl (upd nz 0 1))), (a1, .inr (7, [.ref a6, .ref a7, .ref a8, .ref a9, .int 0, .int 0, .ref a10, .ref a11, .ref a12, .ref a13])), (a7, .inl (y 0, 9, .inl nz)), (a5, .inl (y 1, 2001, .inr (.inl nzl))), (a8, .inl (y 0, 9, .inl nz)), (a3, .inl (y 1, 2001, .inr (.inl nzl))), (a0, .inr (2, [.ref a2, .ref a3, .ref a4, .ref a5])), (a4, .inl (y 1, 2001, .inr (.inl nzl)))]) A) (cc := cX2_take) (maxL := 5) (ret := none) (by decide +kernel) rfl (Nat.le_of_ble_eq_true rfl) ?_
  intro p e s m below meth c A ls H hx hb hr hml hts hown hlocks hnm hsz hP hK hD hA hS hE hAe hl
  replace hl : lv_has ls 5 [(0, .ref a0), (1, .int 0), (2, .ref a1)] := hl
  have hown : s.vm.findClass RX2 = some m.cls := hown
  have w_0 := hts (.fieldLink RX2 9 "SoldToBehind$Packed" "code" "[I") (gt_k wd_2_26)
  have w_1 := hts (.fieldLink RX2 42 "SoldToBehind$Standing" "size" "I") (gt_k wd_1_222)
  have w_2 := hts (.fieldLink RX2 30 "SoldToBehind$Standing" "purse" "[I") (gt_k wd_1_211)
  have w_3 := hts (.fieldLink RX2 37 "SoldToBehind$Standing" "sales" "[I") (gt_k wd_1_215)
  have w_4 := hts (.fieldLink RX2 22 "SoldToBehind$Packed" "sales" "[J") (gt_k wd_2_31)
  refine lv_aload_n hx hb dX2_take_0 rfl (lv_at hl 0 rfl) ?_
  refine va_get (D := D) (ci := 2) (v := .ref a2) (C := RX2) (T := TX2) (N := 4) hx hb hts (gt_c iG_X2) hown hK hP 0 rfl rfl 0 (by decide +kernel) w_0 (fun _ h9 => h9) rfl dX2_take_1 ?_
  refine lv_iload_n hx hb dX2_take_4 rfl (lv_at hl 1 rfl) ?_
  refine va_iald hx hb hK hP 1 0 rfl rfl (n_in (by decide +kernel)) dX2_take_5 ?_
  refine nv_i (v := 1) rfl ?_
  refine lv_istore_n (lv' := [(3, .int 1), (0, .ref a0), (1, .int 0), (2, .ref a1)]) hx hb dX2_take_6 rfl hl (by decide +kernel) rfl (fun ls hl => ?_)
  refine lv_aload_n hx hb dX2_take_7 rfl (lv_at hl 3 rfl) ?_
  refine va_get (D := D) (ci := 7) (v := .int 0) (C := RX7) (T := TX7) (N := 10) hx hb hts (gt_c iG_X7) hown hK hP 2 rfl rfl 4 (by decide +kernel) w_1 (fun _ h9 => h9) rfl dX2_take_8 ?_
  refine lv_iconst (v := 1) hx hb dX2_take_11 (by decide +kernel) ?_
  refine lv_isub hx hb dX2_take_12 ?_
  refine nv_i (v := (-1)) (by decide +kernel) ?_
  refine lv_istore (lv' := [(4, .int (-1)), (3, .int 1), (0, .ref a0), (1, .int 0), (2, .ref a1)]) hx hb dX2_take_13 hl (by decide +kernel) rfl (fun ls hl => ?_)
  refine lv_iload hx hb dX2_take_15 (lv_at hl 0 rfl) ?_
  refine lv_if_lt (tgt := 42) hx hb dX2_take_17 (by decide +kernel) (fun _ => ?_) (fun c => absurd (by decide +kernel) c)
  refine lv_iconst (v := 0) hx hb dX2_take_42 (by decide +kernel) ?_
  refine lv_istore (lv' := [(4, .int 0), (3, .int 1), (0, .ref a0), (1, .int 0), (2, .ref a1)]) hx hb dX2_take_43 hl (by decide +kernel) rfl (fun ls hl => ?_)
  refine lv_iload hx hb dX2_take_45 (lv_at hl 0 rfl) ?_
  refine lv_bipush (v := 9) hx hb dX2_take_47 (by decide +kernel) ?_
  refine lv_icmp_ge (tgt := 95) hx hb dX2_take_49 (by decide +kernel) (fun c => absurd c (by decide +kernel)) (fun _ => ?_)
  refine lv_aload_n hx hb dX2_take_52 rfl (lv_at hl 4 rfl) ?_
  refine va_get (D := D) (ci := 7) (v := .ref a7) (C := RX7) (T := TX7) (N := 10) hx hb hts (gt_c iG_X7) hown hK hP 2 rfl rfl 1 (by decide +kernel) w_2 (fun _ h9 => h9) rfl dX2_take_53 ?_
  refine lv_iload hx hb dX2_take_56 (lv_at hl 0 rfl) ?_
  refine lv_aload_n hx hb dX2_take_58 rfl (lv_at hl 2 rfl) ?_
  refine lv_iload_n hx hb dX2_take_59 rfl (lv_at hl 3 rfl) ?_
  refine lv_iload hx hb dX2_take_60 (lv_at hl 0 rfl) ?_
  refine nj_i (ws := [(a0, .inr (2, [.ref a2, .ref a3, .ref a4, .ref a5])), (a2, .inl (y 0, 2001, .inl (upd nz 0 1))), (a1, .inr (7, [.ref a6, .ref a7, .ref a8, .ref a9, .int 0, .int 0, .ref a10, .ref a11, .ref a12, .ref a13])), (a3, .inl (y 1, 2001, .inr (.inl nzl))), (a7, .inl (y 0, 9, .inl nz)), (a5, .inl (y 1, 2001, .inr (.inl nzl))), (a8, .inl (y 0, 9, .inl nz)), (a4, .inl (y 1, 2001, .inr (.inl nzl)))]) (wc := [(a0, .inr (2, [.ref a2, .ref a3, .ref a4, .ref a5])), (a3, .inl (y 1, 2001, .inr (.inl nzl)))]) (wr := [(a2, .inl (y 0, 2001, .inl (upd nz 0 1))), (a1, .inr (7, [.ref a6, .ref a7, .ref a8, .ref a9, .int 0, .int 0, .ref a10, .ref a11, .ref a12, .ref a13])), (a7, .inl (y 0, 9, .inl nz)), (a5, .inl (y 1, 2001, .inr (.inl nzl))), (a8, .inl (y 0, 9, .inl nz)), (a4, .inl (y 1, 2001, .inr (.inl nzl)))]) (nr_V (As := [.int 0, .int 0]) (rest := [.int 0, .ref a7]) ⟨hx, hb, hml, hown, hts⟩ (cX2_purseOf_1 l D y a0 a2 a3 a4 a5 H.size) (cwV 2 hts gX2_take_X2_purseOf rfl rfl rfl (by decide +kernel) ⟨Nat.le_of_ble_eq_true rfl, Nat.le_of_ble_eq_true rfl⟩) hK hP hD hE [0, 3] rfl (by decide +kernel) 0 2 rfl rfl rfl rfl rfl hl.1 rfl (lv_room (Nat.le_of_ble_eq_true rfl)) dX2_take_62 ⟨Nat.le_of_ble_eq_true rfl, Nat.le_of_ble_eq_true rfl⟩) hP hD hS hA [0, 3] [1, 2, 4, 5, 6, 7] rfl rfl (by decide +kernel) (by decide +kernel) (fun r2 u1 H locs er2 hP hD hS => ?_)
  subst er2
  refine nb_iast (ws' := [(a2, .inl (y 0, 2001, .inl (upd nz 0 1))), (a1, .inr (7, [.ref a6, .ref a7, .ref a8, .ref a9, .int 0, .int 0, .ref a10, .ref a11, .ref a12, .ref a13])), (a7, .inl (y 0, 9, .inl nz)), (a5, .inl (y 1, 2001, .inr (.inl nzl))), (a8, .inl (y 0, 9, .inl nz)), (a4, .inl (y 1, 2001, .inr (.inl nzl))), (a0, .inr (2, [.ref a2, .ref a3, .ref a4, .ref a5])), (a3, .inl (y 1, 2001, .inr (.inl nzl)))]) hx hb hK hP hD hS 2 0 rfl rfl (n_in (by decide +kernel)) (by rw [nb_upI (f := nz) (i := Int32.toNatClampNeg 0) (x := 0) rfl]; rfl) dX2_take_65 (fun H locs hP hD hS => ?_)
  refine lv_aload_n hx hb dX2_take_66 rfl (lv_at hl 4 rfl) ?_
  refine va_get (D := D) (ci := 7) (v := .ref a8) (C := RX7) (T := TX7) (N := 10) hx hb hts (gt_c iG_X7) hown hK hP 1 rfl rfl 2 (by decide +kernel) w_3 (fun _ h9 => h9) rfl dX2_take_67 ?_
  refine lv_iload hx hb dX2_take_70 (lv_at hl 0 rfl) ?_
  refine lv_aload_n hx hb dX2_take_72 rfl (lv_at hl 2 rfl) ?_
  refine va_get (D := D) (ci := 2) (v := .ref a5) (C := RX2) (T := TX2) (N := 4) hx hb hts (gt_c iG_X2) hown hK hP 6 rfl rfl 3 (by decide +kernel) w_4 (fun _ h9 => h9) rfl dX2_take_73 ?_
  refine lv_iload_n hx hb dX2_take_76 rfl (lv_at hl 3 rfl) ?_
  refine va_lald hx hb hK hP 3 1 rfl rfl (n_in (by decide +kernel)) dX2_take_77 ?_
  refine nv_l (v := 0) rfl ?_
  refine lv_bipush (v := 7) hx hb dX2_take_78 (by decide +kernel) ?_
  refine lv_iload hx hb dX2_take_80 (lv_at hl 0 rfl) ?_
  refine lv_imul hx hb dX2_take_82 ?_
  refine nv_i (v := 0) (by decide +kernel) ?_
  refine lv_lshr hx hb dX2_take_83 rfl ?_
  refine nv_l (v := 0) (by decide +kernel) ?_
  refine lv_l2i (v := 0) hx hb dX2_take_84 (by decide +kernel) ?_
  refine lv_bipush (v := 127) hx hb dX2_take_85 (by decide +kernel) ?_
  refine lv_iand hx hb dX2_take_87 ?_
  refine nv_i (v := 0) (by decide +kernel) ?_
  refine nb_iast (ws' := [(a2, .inl (y 0, 2001, .inl (upd nz 0 1))), (a1, .inr (7, [.ref a6, .ref a7, .ref a8, .ref a9, .int 0, .int 0, .ref a10, .ref a11, .ref a12, .ref a13])), (a7, .inl (y 0, 9, .inl nz)), (a5, .inl (y 1, 2001, .inr (.inl nzl))), (a8, .inl (y 0, 9, .inl nz)), (a4, .inl (y 1, 2001, .inr (.inl nzl))), (a0, .inr (2, [.ref a2, .ref a3, .ref a4, .ref a5])), (a3, .inl (y 1, 2001, .inr (.inl nzl)))]) hx hb hK hP hD hS 4 0 rfl rfl (n_in (by decide +kernel)) (by rw [nb_upI (f := nz) (i := Int32.toNatClampNeg 0) (x := 0) rfl]; rfl) dX2_take_88 (fun H locs hP hD hS => ?_)
  refine lv_iinc (v := 1) (lv' := [(4, .int 1), (3, .int 1), (0, .ref a0), (1, .int 0), (2, .ref a1)]) hx hb dX2_take_89 hl (k := 0) rfl (by decide +kernel) (by decide +kernel) rfl (fun ls hl => ?_)
  refine lv_goto (tgt := 45) hx hb dX2_take_92 (by decide +kernel) ?_
  refine lv_iload hx hb dX2_take_45 (lv_at hl 0 rfl) ?_
  refine lv_bipush (v := 9) hx hb dX2_take_47 (by decide +kernel) ?_
  refine lv_icmp_ge (tgt := 95) hx hb dX2_take_49 (by decide +kernel) (fun c => absurd c (by decide +kernel)) (fun _ => ?_)
  refine lv_aload_n hx hb dX2_take_52 rfl (lv_at hl 4 rfl) ?_
  refine va_get (D := D) (ci := 7) (v := .ref a7) (C := RX7) (T := TX7) (N := 10) hx hb hts (gt_c iG_X7) hown hK hP 1 rfl rfl 1 (by decide +kernel) w_2 (fun _ h9 => h9) rfl dX2_take_53 ?_
  refine lv_iload hx hb dX2_take_56 (lv_at hl 0 rfl) ?_
  refine lv_aload_n hx hb dX2_take_58 rfl (lv_at hl 2 rfl) ?_
  refine lv_iload_n hx hb dX2_take_59 rfl (lv_at hl 3 rfl) ?_
  refine lv_iload hx hb dX2_take_60 (lv_at hl 0 rfl) ?_
  refine nj_i (ws := [(a2, .inl (y 0, 2001, .inl (upd nz 0 1))), (a1, .inr (7, [.ref a6, .ref a7, .ref a8, .ref a9, .int 0, .int 0, .ref a10, .ref a11, .ref a12, .ref a13])), (a7, .inl (y 0, 9, .inl nz)), (a5, .inl (y 1, 2001, .inr (.inl nzl))), (a8, .inl (y 0, 9, .inl nz)), (a4, .inl (y 1, 2001, .inr (.inl nzl))), (a0, .inr (2, [.ref a2, .ref a3, .ref a4, .ref a5])), (a3, .inl (y 1, 2001, .inr (.inl nzl)))]) (wc := [(a0, .inr (2, [.ref a2, .ref a3, .ref a4, .ref a5])), (a3, .inl (y 1, 2001, .inr (.inl nzl)))]) (wr := [(a2, .inl (y 0, 2001, .inl (upd nz 0 1))), (a1, .inr (7, [.ref a6, .ref a7, .ref a8, .ref a9, .int 0, .int 0, .ref a10, .ref a11, .ref a12, .ref a13])), (a7, .inl (y 0, 9, .inl nz)), (a5, .inl (y 1, 2001, .inr (.inl nzl))), (a8, .inl (y 0, 9, .inl nz)), (a4, .inl (y 1, 2001, .inr (.inl nzl)))]) (nr_V (As := [.int 0, .int 1]) (rest := [.int 1, .ref a7]) ⟨hx, hb, hml, hown, hts⟩ (cX2_purseOf_2 l D y a0 a2 a3 a4 a5 H.size) (cwV 2 hts gX2_take_X2_purseOf rfl rfl rfl (by decide +kernel) ⟨Nat.le_of_ble_eq_true rfl, Nat.le_of_ble_eq_true rfl⟩) hK hP hD hE [6, 7] rfl (by decide +kernel) 0 2 rfl rfl rfl rfl rfl hl.1 rfl (lv_room (Nat.le_of_ble_eq_true rfl)) dX2_take_62 ⟨Nat.le_of_ble_eq_true rfl, Nat.le_of_ble_eq_true rfl⟩) hP hD hS hA [6, 7] [0, 1, 2, 3, 4, 5] rfl rfl (by decide +kernel) (by decide +kernel) (fun r4 u3 H locs er4 hP hD hS => ?_)
  subst er4
  refine nb_iast (ws' := [(a2, .inl (y 0, 2001, .inl (upd nz 0 1))), (a1, .inr (7, [.ref a6, .ref a7, .ref a8, .ref a9, .int 0, .int 0, .ref a10, .ref a11, .ref a12, .ref a13])), (a7, .inl (y 0, 9, .inl nz)), (a5, .inl (y 1, 2001, .inr (.inl nzl))), (a8, .inl (y 0, 9, .inl nz)), (a4, .inl (y 1, 2001, .inr (.inl nzl))), (a0, .inr (2, [.ref a2, .ref a3, .ref a4, .ref a5])), (a3, .inl (y 1, 2001, .inr (.inl nzl)))]) hx hb hK hP hD hS 2 0 rfl rfl (n_in (by decide +kernel)) (by rw [nb_upI (f := nz) (i := Int32.toNatClampNeg 1) (x := 0) rfl]; rfl) dX2_take_65 (fun H locs hP hD hS => ?_)
  refine lv_aload_n hx hb dX2_take_66 rfl (lv_at hl 4 rfl) ?_
  refine va_get (D := D) (ci := 7) (v := .ref a8) (C := RX7) (T := TX7) (N := 10) hx hb hts (gt_c iG_X7) hown hK hP 1 rfl rfl 2 (by decide +kernel) w_3 (fun _ h9 => h9) rfl dX2_take_67 ?_
  refine lv_iload hx hb dX2_take_70 (lv_at hl 0 rfl) ?_
  refine lv_aload_n hx hb dX2_take_72 rfl (lv_at hl 2 rfl) ?_
  refine va_get (D := D) (ci := 2) (v := .ref a5) (C := RX2) (T := TX2) (N := 4) hx hb hts (gt_c iG_X2) hown hK hP 6 rfl rfl 3 (by decide +kernel) w_4 (fun _ h9 => h9) rfl dX2_take_73 ?_
  refine lv_iload_n hx hb dX2_take_76 rfl (lv_at hl 3 rfl) ?_
  refine va_lald hx hb hK hP 3 1 rfl rfl (n_in (by decide +kernel)) dX2_take_77 ?_
  refine nv_l (v := 0) rfl ?_
  refine lv_bipush (v := 7) hx hb dX2_take_78 (by decide +kernel) ?_
  refine lv_iload hx hb dX2_take_80 (lv_at hl 0 rfl) ?_
  refine lv_imul hx hb dX2_take_82 ?_
  refine nv_i (v := 7) (by decide +kernel) ?_
  refine lv_lshr hx hb dX2_take_83 rfl ?_
  refine nv_l (v := 0) (by decide +kernel) ?_
  refine lv_l2i (v := 0) hx hb dX2_take_84 (by decide +kernel) ?_
  refine lv_bipush (v := 127) hx hb dX2_take_85 (by decide +kernel) ?_
  refine lv_iand hx hb dX2_take_87 ?_
  refine nv_i (v := 0) (by decide +kernel) ?_
  refine nb_iast (ws' := [(a2, .inl (y 0, 2001, .inl (upd nz 0 1))), (a1, .inr (7, [.ref a6, .ref a7, .ref a8, .ref a9, .int 0, .int 0, .ref a10, .ref a11, .ref a12, .ref a13])), (a7, .inl (y 0, 9, .inl nz)), (a5, .inl (y 1, 2001, .inr (.inl nzl))), (a8, .inl (y 0, 9, .inl nz)), (a4, .inl (y 1, 2001, .inr (.inl nzl))), (a0, .inr (2, [.ref a2, .ref a3, .ref a4, .ref a5])), (a3, .inl (y 1, 2001, .inr (.inl nzl)))]) hx hb hK hP hD hS 4 0 rfl rfl (n_in (by decide +kernel)) (by rw [nb_upI (f := nz) (i := Int32.toNatClampNeg 1) (x := 0) rfl]; rfl) dX2_take_88 (fun H locs hP hD hS => ?_)
  refine lv_iinc (v := 2) (lv' := [(4, .int 2), (3, .int 1), (0, .ref a0), (1, .int 0), (2, .ref a1)]) hx hb dX2_take_89 hl (k := 0) rfl (by decide +kernel) (by decide +kernel) rfl (fun ls hl => ?_)
  refine lv_goto (tgt := 45) hx hb dX2_take_92 (by decide +kernel) ?_
  refine lv_iload hx hb dX2_take_45 (lv_at hl 0 rfl) ?_
  refine lv_bipush (v := 9) hx hb dX2_take_47 (by decide +kernel) ?_
  refine lv_icmp_ge (tgt := 95) hx hb dX2_take_49 (by decide +kernel) (fun c => absurd c (by decide +kernel)) (fun _ => ?_)
  refine lv_aload_n hx hb dX2_take_52 rfl (lv_at hl 4 rfl) ?_
  refine va_get (D := D) (ci := 7) (v := .ref a7) (C := RX7) (T := TX7) (N := 10) hx hb hts (gt_c iG_X7) hown hK hP 1 rfl rfl 1 (by decide +kernel) w_2 (fun _ h9 => h9) rfl dX2_take_53 ?_
  refine lv_iload hx hb dX2_take_56 (lv_at hl 0 rfl) ?_
  refine lv_aload_n hx hb dX2_take_58 rfl (lv_at hl 2 rfl) ?_
  refine lv_iload_n hx hb dX2_take_59 rfl (lv_at hl 3 rfl) ?_
  refine lv_iload hx hb dX2_take_60 (lv_at hl 0 rfl) ?_
  refine nj_i (ws := [(a2, .inl (y 0, 2001, .inl (upd nz 0 1))), (a1, .inr (7, [.ref a6, .ref a7, .ref a8, .ref a9, .int 0, .int 0, .ref a10, .ref a11, .ref a12, .ref a13])), (a7, .inl (y 0, 9, .inl nz)), (a5, .inl (y 1, 2001, .inr (.inl nzl))), (a8, .inl (y 0, 9, .inl nz)), (a4, .inl (y 1, 2001, .inr (.inl nzl))), (a0, .inr (2, [.ref a2, .ref a3, .ref a4, .ref a5])), (a3, .inl (y 1, 2001, .inr (.inl nzl)))]) (wc := [(a0, .inr (2, [.ref a2, .ref a3, .ref a4, .ref a5])), (a3, .inl (y 1, 2001, .inr (.inl nzl)))]) (wr := [(a2, .inl (y 0, 2001, .inl (upd nz 0 1))), (a1, .inr (7, [.ref a6, .ref a7, .ref a8, .ref a9, .int 0, .int 0, .ref a10, .ref a11, .ref a12, .ref a13])), (a7, .inl (y 0, 9, .inl nz)), (a5, .inl (y 1, 2001, .inr (.inl nzl))), (a8, .inl (y 0, 9, .inl nz)), (a4, .inl (y 1, 2001, .inr (.inl nzl)))]) (nr_V (As := [.int 0, .int 2]) (rest := [.int 2, .ref a7]) ⟨hx, hb, hml, hown, hts⟩ (cX2_purseOf_3 l D y a0 a2 a3 a4 a5 H.size) (cwV 2 hts gX2_take_X2_purseOf rfl rfl rfl (by decide +kernel) ⟨Nat.le_of_ble_eq_true rfl, Nat.le_of_ble_eq_true rfl⟩) hK hP hD hE [6, 7] rfl (by decide +kernel) 0 2 rfl rfl rfl rfl rfl hl.1 rfl (lv_room (Nat.le_of_ble_eq_true rfl)) dX2_take_62 ⟨Nat.le_of_ble_eq_true rfl, Nat.le_of_ble_eq_true rfl⟩) hP hD hS hA [6, 7] [0, 1, 2, 3, 4, 5] rfl rfl (by decide +kernel) (by decide +kernel) (fun r6 u5 H locs er6 hP hD hS => ?_)
  subst er6
  refine nb_iast (ws' := [(a2, .inl (y 0, 2001, .inl (upd nz 0 1))), (a1, .inr (7, [.ref a6, .ref a7, .ref a8, .ref a9, .int 0, .int 0, .ref a10, .ref a11, .ref a12, .ref a13])), (a7, .inl (y 0, 9, .inl nz)), (a5, .inl (y 1, 2001, .inr (.inl nzl))), (a8, .inl (y 0, 9, .inl nz)), (a4, .inl (y 1, 2001, .inr (.inl nzl))), (a0, .inr (2, [.ref a2, .ref a3, .ref a4, .ref a5])), (a3, .inl (y 1, 2001, .inr (.inl nzl)))]) hx hb hK hP hD hS 2 0 rfl rfl (n_in (by decide +kernel)) (by rw [nb_upI (f := nz) (i := Int32.toNatClampNeg 2) (x := 0) rfl]; rfl) dX2_take_65 (fun H locs hP hD hS => ?_)
  refine lv_aload_n hx hb dX2_take_66 rfl (lv_at hl 4 rfl) ?_
  refine va_get (D := D) (ci := 7) (v := .ref a8) (C := RX7) (T := TX7) (N := 10) hx hb hts (gt_c iG_X7) hown hK hP 1 rfl rfl 2 (by decide +kernel) w_3 (fun _ h9 => h9) rfl dX2_take_67 ?_
  refine lv_iload hx hb dX2_take_70 (lv_at hl 0 rfl) ?_
  refine lv_aload_n hx hb dX2_take_72 rfl (lv_at hl 2 rfl) ?_
  refine va_get (D := D) (ci := 2) (v := .ref a5) (C := RX2) (T := TX2) (N := 4) hx hb hts (gt_c iG_X2) hown hK hP 6 rfl rfl 3 (by decide +kernel) w_4 (fun _ h9 => h9) rfl dX2_take_73 ?_
  refine lv_iload_n hx hb dX2_take_76 rfl (lv_at hl 3 rfl) ?_
  refine va_lald hx hb hK hP 3 1 rfl rfl (n_in (by decide +kernel)) dX2_take_77 ?_
  refine nv_l (v := 0) rfl ?_
  refine lv_bipush (v := 7) hx hb dX2_take_78 (by decide +kernel) ?_
  refine lv_iload hx hb dX2_take_80 (lv_at hl 0 rfl) ?_
  refine lv_imul hx hb dX2_take_82 ?_
  refine nv_i (v := 14) (by decide +kernel) ?_
  refine lv_lshr hx hb dX2_take_83 rfl ?_
  refine nv_l (v := 0) (by decide +kernel) ?_
  refine lv_l2i (v := 0) hx hb dX2_take_84 (by decide +kernel) ?_
  refine lv_bipush (v := 127) hx hb dX2_take_85 (by decide +kernel) ?_
  refine lv_iand hx hb dX2_take_87 ?_
  refine nv_i (v := 0) (by decide +kernel) ?_
  refine nb_iast (ws' := [(a2, .inl (y 0, 2001, .inl (upd nz 0 1))), (a1, .inr (7, [.ref a6, .ref a7, .ref a8, .ref a9, .int 0, .int 0, .ref a10, .ref a11, .ref a12, .ref a13])), (a7, .inl (y 0, 9, .inl nz)), (a5, .inl (y 1, 2001, .inr (.inl nzl))), (a8, .inl (y 0, 9, .inl nz)), (a4, .inl (y 1, 2001, .inr (.inl nzl))), (a0, .inr (2, [.ref a2, .ref a3, .ref a4, .ref a5])), (a3, .inl (y 1, 2001, .inr (.inl nzl)))]) hx hb hK hP hD hS 4 0 rfl rfl (n_in (by decide +kernel)) (by rw [nb_upI (f := nz) (i := Int32.toNatClampNeg 2) (x := 0) rfl]; rfl) dX2_take_88 (fun H locs hP hD hS => ?_)
  refine lv_iinc (v := 3) (lv' := [(4, .int 3), (3, .int 1), (0, .ref a0), (1, .int 0), (2, .ref a1)]) hx hb dX2_take_89 hl (k := 0) rfl (by decide +kernel) (by decide +kernel) rfl (fun ls hl => ?_)
  refine lv_goto (tgt := 45) hx hb dX2_take_92 (by decide +kernel) ?_
  refine lv_iload hx hb dX2_take_45 (lv_at hl 0 rfl) ?_
  refine lv_bipush (v := 9) hx hb dX2_take_47 (by decide +kernel) ?_
  refine lv_icmp_ge (tgt := 95) hx hb dX2_take_49 (by decide +kernel) (fun c => absurd c (by decide +kernel)) (fun _ => ?_)
  refine lv_aload_n hx hb dX2_take_52 rfl (lv_at hl 4 rfl) ?_
  refine va_get (D := D) (ci := 7) (v := .ref a7) (C := RX7) (T := TX7) (N := 10) hx hb hts (gt_c iG_X7) hown hK hP 1 rfl rfl 1 (by decide +kernel) w_2 (fun _ h9 => h9) rfl dX2_take_53 ?_
  refine lv_iload hx hb dX2_take_56 (lv_at hl 0 rfl) ?_
  refine lv_aload_n hx hb dX2_take_58 rfl (lv_at hl 2 rfl) ?_
  refine lv_iload_n hx hb dX2_take_59 rfl (lv_at hl 3 rfl) ?_
  refine lv_iload hx hb dX2_take_60 (lv_at hl 0 rfl) ?_
  refine nj_i (ws := [(a2, .inl (y 0, 2001, .inl (upd nz 0 1))), (a1, .inr (7, [.ref a6, .ref a7, .ref a8, .ref a9, .int 0, .int 0, .ref a10, .ref a11, .ref a12, .ref a13])), (a7, .inl (y 0, 9, .inl nz)), (a5, .inl (y 1, 2001, .inr (.inl nzl))), (a8, .inl (y 0, 9, .inl nz)), (a4, .inl (y 1, 2001, .inr (.inl nzl))), (a0, .inr (2, [.ref a2, .ref a3, .ref a4, .ref a5])), (a3, .inl (y 1, 2001, .inr (.inl nzl)))]) (wc := [(a0, .inr (2, [.ref a2, .ref a3, .ref a4, .ref a5])), (a3, .inl (y 1, 2001, .inr (.inl nzl)))]) (wr := [(a2, .inl (y 0, 2001, .inl (upd nz 0 1))), (a1, .inr (7, [.ref a6, .ref a7, .ref a8, .ref a9, .int 0, .int 0, .ref a10, .ref a11, .ref a12, .ref a13])), (a7, .inl (y 0, 9, .inl nz)), (a5, .inl (y 1, 2001, .inr (.inl nzl))), (a8, .inl (y 0, 9, .inl nz)), (a4, .inl (y 1, 2001, .inr (.inl nzl)))]) (nr_V (As := [.int 0, .int 3]) (rest := [.int 3, .ref a7]) ⟨hx, hb, hml, hown, hts⟩ (cX2_purseOf_4 l D y a0 a2 a3 a4 a5 H.size) (cwV 2 hts gX2_take_X2_purseOf rfl rfl rfl (by decide +kernel) ⟨Nat.le_of_ble_eq_true rfl, Nat.le_of_ble_eq_true rfl⟩) hK hP hD hE [6, 7] rfl (by decide +kernel) 0 2 rfl rfl rfl rfl rfl hl.1 rfl (lv_room (Nat.le_of_ble_eq_true rfl)) dX2_take_62 ⟨Nat.le_of_ble_eq_true rfl, Nat.le_of_ble_eq_true rfl⟩) hP hD hS hA [6, 7] [0, 1, 2, 3, 4, 5] rfl rfl (by decide +kernel) (by decide +kernel) (fun r8 u7 H locs er8 hP hD hS => ?_)
  subst er8
  refine nb_iast (ws' := [(a2, .inl (y 0, 2001, .inl (upd nz 0 1))), (a1, .inr (7, [.ref a6, .ref a7, .ref a8, .ref a9, .int 0, .int 0, .ref a10, .ref a11, .ref a12, .ref a13])), (a7, .inl (y 0, 9, .inl nz)), (a5, .inl (y 1, 2001, .inr (.inl nzl))), (a8, .inl (y 0, 9, .inl nz)), (a4, .inl (y 1, 2001, .inr (.inl nzl))), (a0, .inr (2, [.ref a2, .ref a3, .ref a4, .ref a5])), (a3, .inl (y 1, 2001, .inr (.inl nzl)))]) hx hb hK hP hD hS 2 0 rfl rfl (n_in (by decide +kernel)) (by rw [nb_upI (f := nz) (i := Int32.toNatClampNeg 3) (x := 0) rfl]; rfl) dX2_take_65 (fun H locs hP hD hS => ?_)
  refine lv_aload_n hx hb dX2_take_66 rfl (lv_at hl 4 rfl) ?_
  refine va_get (D := D) (ci := 7) (v := .ref a8) (C := RX7) (T := TX7) (N := 10) hx hb hts (gt_c iG_X7) hown hK hP 1 rfl rfl 2 (by decide +kernel) w_3 (fun _ h9 => h9) rfl dX2_take_67 ?_
  refine lv_iload hx hb dX2_take_70 (lv_at hl 0 rfl) ?_
  refine lv_aload_n hx hb dX2_take_72 rfl (lv_at hl 2 rfl) ?_
  refine va_get (D := D) (ci := 2) (v := .ref a5) (C := RX2) (T := TX2) (N := 4) hx hb hts (gt_c iG_X2) hown hK hP 6 rfl rfl 3 (by decide +kernel) w_4 (fun _ h9 => h9) rfl dX2_take_73 ?_
  refine lv_iload_n hx hb dX2_take_76 rfl (lv_at hl 3 rfl) ?_
  refine va_lald hx hb hK hP 3 1 rfl rfl (n_in (by decide +kernel)) dX2_take_77 ?_
  refine nv_l (v := 0) rfl ?_
  refine lv_bipush (v := 7) hx hb dX2_take_78 (by decide +kernel) ?_
  refine lv_iload hx hb dX2_take_80 (lv_at hl 0 rfl) ?_
  refine lv_imul hx hb dX2_take_82 ?_
  refine nv_i (v := 21) (by decide +kernel) ?_
  refine lv_lshr hx hb dX2_take_83 rfl ?_
  refine nv_l (v := 0) (by decide +kernel) ?_
  refine lv_l2i (v := 0) hx hb dX2_take_84 (by decide +kernel) ?_
  refine lv_bipush (v := 127) hx hb dX2_take_85 (by decide +kernel) ?_
  refine lv_iand hx hb dX2_take_87 ?_
  refine nv_i (v := 0) (by decide +kernel) ?_
  refine nb_iast (ws' := [(a2, .inl (y 0, 2001, .inl (upd nz 0 1))), (a1, .inr (7, [.ref a6, .ref a7, .ref a8, .ref a9, .int 0, .int 0, .ref a10, .ref a11, .ref a12, .ref a13])), (a7, .inl (y 0, 9, .inl nz)), (a5, .inl (y 1, 2001, .inr (.inl nzl))), (a8, .inl (y 0, 9, .inl nz)), (a4, .inl (y 1, 2001, .inr (.inl nzl))), (a0, .inr (2, [.ref a2, .ref a3, .ref a4, .ref a5])), (a3, .inl (y 1, 2001, .inr (.inl nzl)))]) hx hb hK hP hD hS 4 0 rfl rfl (n_in (by decide +kernel)) (by rw [nb_upI (f := nz) (i := Int32.toNatClampNeg 3) (x := 0) rfl]; rfl) dX2_take_88 (fun H locs hP hD hS => ?_)
  refine lv_iinc (v := 4) (lv' := [(4, .int 4), (3, .int 1), (0, .ref a0), (1, .int 0), (2, .ref a1)]) hx hb dX2_take_89 hl (k := 0) rfl (by decide +kernel) (by decide +kernel) rfl (fun ls hl => ?_)
  refine lv_goto (tgt := 45) hx hb dX2_take_92 (by decide +kernel) ?_
  refine lv_iload hx hb dX2_take_45 (lv_at hl 0 rfl) ?_
  refine lv_bipush (v := 9) hx hb dX2_take_47 (by decide +kernel) ?_
  refine lv_icmp_ge (tgt := 95) hx hb dX2_take_49 (by decide +kernel) (fun c => absurd c (by decide +kernel)) (fun _ => ?_)
  refine lv_aload_n hx hb dX2_take_52 rfl (lv_at hl 4 rfl) ?_
  refine va_get (D := D) (ci := 7) (v := .ref a7) (C := RX7) (T := TX7) (N := 10) hx hb hts (gt_c iG_X7) hown hK hP 1 rfl rfl 1 (by decide +kernel) w_2 (fun _ h9 => h9) rfl dX2_take_53 ?_
  refine lv_iload hx hb dX2_take_56 (lv_at hl 0 rfl) ?_
  refine lv_aload_n hx hb dX2_take_58 rfl (lv_at hl 2 rfl) ?_
  refine lv_iload_n hx hb dX2_take_59 rfl (lv_at hl 3 rfl) ?_
  refine lv_iload hx hb dX2_take_60 (lv_at hl 0 rfl) ?_
  refine nj_i (ws := [(a2, .inl (y 0, 2001, .inl (upd nz 0 1))), (a1, .inr (7, [.ref a6, .ref a7, .ref a8, .ref a9, .int 0, .int 0, .ref a10, .ref a11, .ref a12, .ref a13])), (a7, .inl (y 0, 9, .inl nz)), (a5, .inl (y 1, 2001, .inr (.inl nzl))), (a8, .inl (y 0, 9, .inl nz)), (a4, .inl (y 1, 2001, .inr (.inl nzl))), (a0, .inr (2, [.ref a2, .ref a3, .ref a4, .ref a5])), (a3, .inl (y 1, 2001, .inr (.inl nzl)))]) (wc := [(a0, .inr (2, [.ref a2, .ref a3, .ref a4, .ref a5])), (a3, .inl (y 1, 2001, .inr (.inl nzl)))]) (wr := [(a2, .inl (y 0, 2001, .inl (upd nz 0 1))), (a1, .inr (7, [.ref a6, .ref a7, .ref a8, .ref a9, .int 0, .int 0, .ref a10, .ref a11, .ref a12, .ref a13])), (a7, .inl (y 0, 9, .inl nz)), (a5, .inl (y 1, 2001, .inr (.inl nzl))), (a8, .inl (y 0, 9, .inl nz)), (a4, .inl (y 1, 2001, .inr (.inl nzl)))]) (nr_V (As := [.int 0, .int 4]) (rest := [.int 4, .ref a7]) ⟨hx, hb, hml, hown, hts⟩ (cX2_purseOf_5 l D y a0 a2 a3 a4 a5 H.size) (cwV 2 hts gX2_take_X2_purseOf rfl rfl rfl (by decide +kernel) ⟨Nat.le_of_ble_eq_true rfl, Nat.le_of_ble_eq_true rfl⟩) hK hP hD hE [6, 7] rfl (by decide +kernel) 0 2 rfl rfl rfl rfl rfl hl.1 rfl (lv_room (Nat.le_of_ble_eq_true rfl)) dX2_take_62 ⟨Nat.le_of_ble_eq_true rfl, Nat.le_of_ble_eq_true rfl⟩) hP hD hS hA [6, 7] [0, 1, 2, 3, 4, 5] rfl rfl (by decide +kernel) (by decide +kernel) (fun r10 u9 H locs er10 hP hD hS => ?_)
  subst er10
  refine nb_iast (ws' := [(a2, .inl (y 0, 2001, .inl (upd nz 0 1))), (a1, .inr (7, [.ref a6, .ref a7, .ref a8, .ref a9, .int 0, .int 0, .ref a10, .ref a11, .ref a12, .ref a13])), (a7, .inl (y 0, 9, .inl nz)), (a5, .inl (y 1, 2001, .inr (.inl nzl))), (a8, .inl (y 0, 9, .inl nz)), (a4, .inl (y 1, 2001, .inr (.inl nzl))), (a0, .inr (2, [.ref a2, .ref a3, .ref a4, .ref a5])), (a3, .inl (y 1, 2001, .inr (.inl nzl)))]) hx hb hK hP hD hS 2 0 rfl rfl (n_in (by decide +kernel)) (by rw [nb_upI (f := nz) (i := Int32.toNatClampNeg 4) (x := 0) rfl]; rfl) dX2_take_65 (fun H locs hP hD hS => ?_)
  refine lv_aload_n hx hb dX2_take_66 rfl (lv_at hl 4 rfl) ?_
  refine va_get (D := D) (ci := 7) (v := .ref a8) (C := RX7) (T := TX7) (N := 10) hx hb hts (gt_c iG_X7) hown hK hP 1 rfl rfl 2 (by decide +kernel) w_3 (fun _ h9 => h9) rfl dX2_take_67 ?_
  refine lv_iload hx hb dX2_take_70 (lv_at hl 0 rfl) ?_
  refine lv_aload_n hx hb dX2_take_72 rfl (lv_at hl 2 rfl) ?_
  refine va_get (D := D) (ci := 2) (v := .ref a5) (C := RX2) (T := TX2) (N := 4) hx hb hts (gt_c iG_X2) hown hK hP 6 rfl rfl 3 (by decide +kernel) w_4 (fun _ h9 => h9) rfl dX2_take_73 ?_
  refine lv_iload_n hx hb dX2_take_76 rfl (lv_at hl 3 rfl) ?_
  refine va_lald hx hb hK hP 3 1 rfl rfl (n_in (by decide +kernel)) dX2_take_77 ?_
  refine nv_l (v := 0) rfl ?_
  refine lv_bipush (v := 7) hx hb dX2_take_78 (by decide +kernel) ?_
  refine lv_iload hx hb dX2_take_80 (lv_at hl 0 rfl) ?_
  refine lv_imul hx hb dX2_take_82 ?_
  refine nv_i (v := 28) (by decide +kernel) ?_
  refine lv_lshr hx hb dX2_take_83 rfl ?_
  refine nv_l (v := 0) (by decide +kernel) ?_
  refine lv_l2i (v := 0) hx hb dX2_take_84 (by decide +kernel) ?_
  refine lv_bipush (v := 127) hx hb dX2_take_85 (by decide +kernel) ?_
  refine lv_iand hx hb dX2_take_87 ?_
  refine nv_i (v := 0) (by decide +kernel) ?_
  refine nb_iast (ws' := [(a2, .inl (y 0, 2001, .inl (upd nz 0 1))), (a1, .inr (7, [.ref a6, .ref a7, .ref a8, .ref a9, .int 0, .int 0, .ref a10, .ref a11, .ref a12, .ref a13])), (a7, .inl (y 0, 9, .inl nz)), (a5, .inl (y 1, 2001, .inr (.inl nzl))), (a8, .inl (y 0, 9, .inl nz)), (a4, .inl (y 1, 2001, .inr (.inl nzl))), (a0, .inr (2, [.ref a2, .ref a3, .ref a4, .ref a5])), (a3, .inl (y 1, 2001, .inr (.inl nzl)))]) hx hb hK hP hD hS 4 0 rfl rfl (n_in (by decide +kernel)) (by rw [nb_upI (f := nz) (i := Int32.toNatClampNeg 4) (x := 0) rfl]; rfl) dX2_take_88 (fun H locs hP hD hS => ?_)
  refine lv_iinc (v := 5) (lv' := [(4, .int 5), (3, .int 1), (0, .ref a0), (1, .int 0), (2, .ref a1)]) hx hb dX2_take_89 hl (k := 0) rfl (by decide +kernel) (by decide +kernel) rfl (fun ls hl => ?_)
  refine lv_goto (tgt := 45) hx hb dX2_take_92 (by decide +kernel) ?_
  refine lv_iload hx hb dX2_take_45 (lv_at hl 0 rfl) ?_
  refine lv_bipush (v := 9) hx hb dX2_take_47 (by decide +kernel) ?_
  refine lv_icmp_ge (tgt := 95) hx hb dX2_take_49 (by decide +kernel) (fun c => absurd c (by decide +kernel)) (fun _ => ?_)
  refine lv_aload_n hx hb dX2_take_52 rfl (lv_at hl 4 rfl) ?_
  refine va_get (D := D) (ci := 7) (v := .ref a7) (C := RX7) (T := TX7) (N := 10) hx hb hts (gt_c iG_X7) hown hK hP 1 rfl rfl 1 (by decide +kernel) w_2 (fun _ h9 => h9) rfl dX2_take_53 ?_
  refine lv_iload hx hb dX2_take_56 (lv_at hl 0 rfl) ?_
  refine lv_aload_n hx hb dX2_take_58 rfl (lv_at hl 2 rfl) ?_
  refine lv_iload_n hx hb dX2_take_59 rfl (lv_at hl 3 rfl) ?_
  refine lv_iload hx hb dX2_take_60 (lv_at hl 0 rfl) ?_
  refine nj_i (ws := [(a2, .inl (y 0, 2001, .inl (upd nz 0 1))), (a1, .inr (7, [.ref a6, .ref a7, .ref a8, .ref a9, .int 0, .int 0, .ref a10, .ref a11, .ref a12, .ref a13])), (a7, .inl (y 0, 9, .inl nz)), (a5, .inl (y 1, 2001, .inr (.inl nzl))), (a8, .inl (y 0, 9, .inl nz)), (a4, .inl (y 1, 2001, .inr (.inl nzl))), (a0, .inr (2, [.ref a2, .ref a3, .ref a4, .ref a5])), (a3, .inl (y 1, 2001, .inr (.inl nzl)))]) (wc := [(a0, .inr (2, [.ref a2, .ref a3, .ref a4, .ref a5])), (a3, .inl (y 1, 2001, .inr (.inl nzl)))]) (wr := [(a2, .inl (y 0, 2001, .inl (upd nz 0 1))), (a1, .inr (7, [.ref a6, .ref a7, .ref a8, .ref a9, .int 0, .int 0, .ref a10, .ref a11, .ref a12, .ref a13])), (a7, .inl (y 0, 9, .inl nz)), (a5, .inl (y 1, 2001, .inr (.inl nzl))), (a8, .inl (y 0, 9, .inl nz)), (a4, .inl (y 1, 2001, .inr (.inl nzl)))]) (nr_V (As := [.int 0, .int 5]) (rest := [.int 5, .ref a7]) ⟨hx, hb, hml, hown, hts⟩ (cX2_purseOf_6 l D y a0 a2 a3 a4 a5 H.size) (cwV 2 hts gX2_take_X2_purseOf rfl rfl rfl (by decide +kernel) ⟨Nat.le_of_ble_eq_true rfl, Nat.le_of_ble_eq_true rfl⟩) hK hP hD hE [6, 7] rfl (by decide +kernel) 0 2 rfl rfl rfl rfl rfl hl.1 rfl (lv_room (Nat.le_of_ble_eq_true rfl)) dX2_take_62 ⟨Nat.le_of_ble_eq_true rfl, Nat.le_of_ble_eq_true rfl⟩) hP hD hS hA [6, 7] [0, 1, 2, 3, 4, 5] rfl rfl (by decide +kernel) (by decide +kernel) (fun r12 u11 H locs er12 hP hD hS => ?_)
  subst er12
  refine nb_iast (ws' := [(a2, .inl (y 0, 2001, .inl (upd nz 0 1))), (a1, .inr (7, [.ref a6, .ref a7, .ref a8, .ref a9, .int 0, .int 0, .ref a10, .ref a11, .ref a12, .ref a13])), (a7, .inl (y 0, 9, .inl nz)), (a5, .inl (y 1, 2001, .inr (.inl nzl))), (a8, .inl (y 0, 9, .inl nz)), (a4, .inl (y 1, 2001, .inr (.inl nzl))), (a0, .inr (2, [.ref a2, .ref a3, .ref a4, .ref a5])), (a3, .inl (y 1, 2001, .inr (.inl nzl)))]) hx hb hK hP hD hS 2 0 rfl rfl (n_in (by decide +kernel)) (by rw [nb_upI (f := nz) (i := Int32.toNatClampNeg 5) (x := 0) rfl]; rfl) dX2_take_65 (fun H locs hP hD hS => ?_)
  refine lv_aload_n hx hb dX2_take_66 rfl (lv_at hl 4 rfl) ?_
  refine va_get (D := D) (ci := 7) (v := .ref a8) (C := RX7) (T := TX7) (N := 10) hx hb hts (gt_c iG_X7) hown hK hP 1 rfl rfl 2 (by decide +kernel) w_3 (fun _ h9 => h9) rfl dX2_take_67 ?_
  refine lv_iload hx hb dX2_take_70 (lv_at hl 0 rfl) ?_
  refine lv_aload_n hx hb dX2_take_72 rfl (lv_at hl 2 rfl) ?_
  refine va_get (D := D) (ci := 2) (v := .ref a5) (C := RX2) (T := TX2) (N := 4) hx hb hts (gt_c iG_X2) hown hK hP 6 rfl rfl 3 (by decide +kernel) w_4 (fun _ h9 => h9) rfl dX2_take_73 ?_
  refine lv_iload_n hx hb dX2_take_76 rfl (lv_at hl 3 rfl) ?_
  refine va_lald hx hb hK hP 3 1 rfl rfl (n_in (by decide +kernel)) dX2_take_77 ?_
  refine nv_l (v := 0) rfl ?_
  refine lv_bipush (v := 7) hx hb dX2_take_78 (by decide +kernel) ?_
  refine lv_iload hx hb dX2_take_80 (lv_at hl 0 rfl) ?_
  refine lv_imul hx hb dX2_take_82 ?_
  refine nv_i (v := 35) (by decide +kernel) ?_
  refine lv_lshr hx hb dX2_take_83 rfl ?_
  refine nv_l (v := 0) (by decide +kernel) ?_
  refine lv_l2i (v := 0) hx hb dX2_take_84 (by decide +kernel) ?_
  refine lv_bipush (v := 127) hx hb dX2_take_85 (by decide +kernel) ?_
  refine lv_iand hx hb dX2_take_87 ?_
  refine nv_i (v := 0) (by decide +kernel) ?_
  refine nb_iast (ws' := [(a2, .inl (y 0, 2001, .inl (upd nz 0 1))), (a1, .inr (7, [.ref a6, .ref a7, .ref a8, .ref a9, .int 0, .int 0, .ref a10, .ref a11, .ref a12, .ref a13])), (a7, .inl (y 0, 9, .inl nz)), (a5, .inl (y 1, 2001, .inr (.inl nzl))), (a8, .inl (y 0, 9, .inl nz)), (a4, .inl (y 1, 2001, .inr (.inl nzl))), (a0, .inr (2, [.ref a2, .ref a3, .ref a4, .ref a5])), (a3, .inl (y 1, 2001, .inr (.inl nzl)))]) hx hb hK hP hD hS 4 0 rfl rfl (n_in (by decide +kernel)) (by rw [nb_upI (f := nz) (i := Int32.toNatClampNeg 5) (x := 0) rfl]; rfl) dX2_take_88 (fun H locs hP hD hS => ?_)
  refine lv_iinc (v := 6) (lv' := [(4, .int 6), (3, .int 1), (0, .ref a0), (1, .int 0), (2, .ref a1)]) hx hb dX2_take_89 hl (k := 0) rfl (by decide +kernel) (by decide +kernel) rfl (fun ls hl => ?_)
  refine lv_goto (tgt := 45) hx hb dX2_take_92 (by decide +kernel) ?_
  refine lv_iload hx hb dX2_take_45 (lv_at hl 0 rfl) ?_
  refine lv_bipush (v := 9) hx hb dX2_take_47 (by decide +kernel) ?_
  refine lv_icmp_ge (tgt := 95) hx hb dX2_take_49 (by decide +kernel) (fun c => absurd c (by decide +kernel)) (fun _ => ?_)
  refine lv_aload_n hx hb dX2_take_52 rfl (lv_at hl 4 rfl) ?_
  refine va_get (D := D) (ci := 7) (v := .ref a7) (C := RX7) (T := TX7) (N := 10) hx hb hts (gt_c iG_X7) hown hK hP 1 rfl rfl 1 (by decide +kernel) w_2 (fun _ h9 => h9) rfl dX2_take_53 ?_
  refine lv_iload hx hb dX2_take_56 (lv_at hl 0 rfl) ?_
  refine lv_aload_n hx hb dX2_take_58 rfl (lv_at hl 2 rfl) ?_
  refine lv_iload_n hx hb dX2_take_59 rfl (lv_at hl 3 rfl) ?_
  refine lv_iload hx hb dX2_take_60 (lv_at hl 0 rfl) ?_
  refine nj_i (ws := [(a2, .inl (y 0, 2001, .inl (upd nz 0 1))), (a1, .inr (7, [.ref a6, .ref a7, .ref a8, .ref a9, .int 0, .int 0, .ref a10, .ref a11, .ref a12, .ref a13])), (a7, .inl (y 0, 9, .inl nz)), (a5, .inl (y 1, 2001, .inr (.inl nzl))), (a8, .inl (y 0, 9, .inl nz)), (a4, .inl (y 1, 2001, .inr (.inl nzl))), (a0, .inr (2, [.ref a2, .ref a3, .ref a4, .ref a5])), (a3, .inl (y 1, 2001, .inr (.inl nzl)))]) (wc := [(a0, .inr (2, [.ref a2, .ref a3, .ref a4, .ref a5])), (a4, .inl (y 1, 2001, .inr (.inl nzl)))]) (wr := [(a2, .inl (y 0, 2001, .inl (upd nz 0 1))), (a1, .inr (7, [.ref a6, .ref a7, .ref a8, .ref a9, .int 0, .int 0, .ref a10, .ref a11, .ref a12, .ref a13])), (a7, .inl (y 0, 9, .inl nz)), (a5, .inl (y 1, 2001, .inr (.inl nzl))), (a8, .inl (y 0, 9, .inl nz)), (a3, .inl (y 1, 2001, .inr (.inl nzl)))]) (nr_V (As := [.int 0, .int 6]) (rest := [.int 6, .ref a7]) ⟨hx, hb, hml, hown, hts⟩ (cX2_purseOf_7 l D y a0 a2 a3 a4 a5 H.size) (cwV 2 hts gX2_take_X2_purseOf rfl rfl rfl (by decide +kernel) ⟨Nat.le_of_ble_eq_true rfl, Nat.le_of_ble_eq_true rfl⟩) hK hP hD hE [6, 5] rfl (by decide +kernel) 0 2 rfl rfl rfl rfl rfl hl.1 rfl (lv_room (Nat.le_of_ble_eq_true rfl)) dX2_take_62 ⟨Nat.le_of_ble_eq_true rfl, Nat.le_of_ble_eq_true rfl⟩) hP hD hS hA [6, 5] [0, 1, 2, 3, 4, 7] rfl rfl (by decide +kernel) (by decide +kernel) (fun r14 u13 H locs er14 hP hD hS => ?_)
  subst er14
  refine nb_iast (ws' := [(a2, .inl (y 0, 2001, .inl (upd nz 0 1))), (a1, .inr (7, [.ref a6, .ref a7, .ref a8, .ref a9, .int 0, .int 0, .ref a10, .ref a11, .ref a12, .ref a13])), (a7, .inl (y 0, 9, .inl nz)), (a5, .inl (y 1, 2001, .inr (.inl nzl))), (a8, .inl (y 0, 9, .inl nz)), (a3, .inl (y 1, 2001, .inr (.inl nzl))), (a0, .inr (2, [.ref a2, .ref a3, .ref a4, .ref a5])), (a4, .inl (y 1, 2001, .inr (.inl nzl)))]) hx hb hK hP hD hS 2 0 rfl rfl (n_in (by decide +kernel)) (by rw [nb_upI (f := nz) (i := Int32.toNatClampNeg 6) (x := 0) rfl]; rfl) dX2_take_65 (fun H locs hP hD hS => ?_)
  refine lv_aload_n hx hb dX2_take_66 rfl (lv_at hl 4 rfl) ?_
  refine va_get (D := D) (ci := 7) (v := .ref a8) (C := RX7) (T := TX7) (N := 10) hx hb hts (gt_c iG_X7) hown hK hP 1 rfl rfl 2 (by decide +kernel) w_3 (fun _ h9 => h9) rfl dX2_take_67 ?_
  refine lv_iload hx hb dX2_take_70 (lv_at hl 0 rfl) ?_
  refine lv_aload_n hx hb dX2_take_72 rfl (lv_at hl 2 rfl) ?_
  refine va_get (D := D) (ci := 2) (v := .ref a5) (C := RX2) (T := TX2) (N := 4) hx hb hts (gt_c iG_X2) hown hK hP 6 rfl rfl 3 (by decide +kernel) w_4 (fun _ h9 => h9) rfl dX2_take_73 ?_
  refine lv_iload_n hx hb dX2_take_76 rfl (lv_at hl 3 rfl) ?_
  refine va_lald hx hb hK hP 3 1 rfl rfl (n_in (by decide +kernel)) dX2_take_77 ?_
  refine nv_l (v := 0) rfl ?_
  refine lv_bipush (v := 7) hx hb dX2_take_78 (by decide +kernel) ?_
  refine lv_iload hx hb dX2_take_80 (lv_at hl 0 rfl) ?_
  refine lv_imul hx hb dX2_take_82 ?_
  refine nv_i (v := 42) (by decide +kernel) ?_
  refine lv_lshr hx hb dX2_take_83 rfl ?_
  refine nv_l (v := 0) (by decide +kernel) ?_
  refine lv_l2i (v := 0) hx hb dX2_take_84 (by decide +kernel) ?_
  refine lv_bipush (v := 127) hx hb dX2_take_85 (by decide +kernel) ?_
  refine lv_iand hx hb dX2_take_87 ?_
  refine nv_i (v := 0) (by decide +kernel) ?_
  refine nb_iast (ws' := [(a2, .inl (y 0, 2001, .inl (upd nz 0 1))), (a1, .inr (7, [.ref a6, .ref a7, .ref a8, .ref a9, .int 0, .int 0, .ref a10, .ref a11, .ref a12, .ref a13])), (a7, .inl (y 0, 9, .inl nz)), (a5, .inl (y 1, 2001, .inr (.inl nzl))), (a8, .inl (y 0, 9, .inl nz)), (a3, .inl (y 1, 2001, .inr (.inl nzl))), (a0, .inr (2, [.ref a2, .ref a3, .ref a4, .ref a5])), (a4, .inl (y 1, 2001, .inr (.inl nzl)))]) hx hb hK hP hD hS 4 0 rfl rfl (n_in (by decide +kernel)) (by rw [nb_upI (f := nz) (i := Int32.toNatClampNeg 6) (x := 0) rfl]; rfl) dX2_take_88 (fun H locs hP hD hS => ?_)
  refine lv_iinc (v := 7) (lv' := [(4, .int 7), (3, .int 1), (0, .ref a0), (1, .int 0), (2, .ref a1)]) hx hb dX2_take_89 hl (k := 0) rfl (by decide +kernel) (by decide +kernel) rfl (fun ls hl => ?_)
  refine lv_goto (tgt := 45) hx hb dX2_take_92 (by decide +kernel) ?_
  refine lv_iload hx hb dX2_take_45 (lv_at hl 0 rfl) ?_
  refine lv_bipush (v := 9) hx hb dX2_take_47 (by decide +kernel) ?_
  refine lv_icmp_ge (tgt := 95) hx hb dX2_take_49 (by decide +kernel) (fun c => absurd c (by decide +kernel)) (fun _ => ?_)
  refine lv_aload_n hx hb dX2_take_52 rfl (lv_at hl 4 rfl) ?_
  refine va_get (D := D) (ci := 7) (v := .ref a7) (C := RX7) (T := TX7) (N := 10) hx hb hts (gt_c iG_X7) hown hK hP 1 rfl rfl 1 (by decide +kernel) w_2 (fun _ h9 => h9) rfl dX2_take_53 ?_
  refine lv_iload hx hb dX2_take_56 (lv_at hl 0 rfl) ?_
  refine lv_aload_n hx hb dX2_take_58 rfl (lv_at hl 2 rfl) ?_
  refine lv_iload_n hx hb dX2_take_59 rfl (lv_at hl 3 rfl) ?_
  refine lv_iload hx hb dX2_take_60 (lv_at hl 0 rfl) ?_
  refine nj_i (ws := [(a2, .inl (y 0, 2001, .inl (upd nz 0 1))), (a1, .inr (7, [.ref a6, .ref a7, .ref a8, .ref a9, .int 0, .int 0, .ref a10, .ref a11, .ref a12, .ref a13])), (a7, .inl (y 0, 9, .inl nz)), (a5, .inl (y 1, 2001, .inr (.inl nzl))), (a8, .inl (y 0, 9, .inl nz)), (a3, .inl (y 1, 2001, .inr (.inl nzl))), (a0, .inr (2, [.ref a2, .ref a3, .ref a4, .ref a5])), (a4, .inl (y 1, 2001, .inr (.inl nzl)))]) (wc := [(a0, .inr (2, [.ref a2, .ref a3, .ref a4, .ref a5])), (a4, .inl (y 1, 2001, .inr (.inl nzl)))]) (wr := [(a2, .inl (y 0, 2001, .inl (upd nz 0 1))), (a1, .inr (7, [.ref a6, .ref a7, .ref a8, .ref a9, .int 0, .int 0, .ref a10, .ref a11, .ref a12, .ref a13])), (a7, .inl (y 0, 9, .inl nz)), (a5, .inl (y 1, 2001, .inr (.inl nzl))), (a8, .inl (y 0, 9, .inl nz)), (a3, .inl (y 1, 2001, .inr (.inl nzl)))]) (nr_V (As := [.int 0, .int 7]) (rest := [.int 7, .ref a7]) ⟨hx, hb, hml, hown, hts⟩ (cX2_purseOf_8 l D y a0 a2 a3 a4 a5 H.size) (cwV 2 hts gX2_take_X2_purseOf rfl rfl rfl (by decide +kernel) ⟨Nat.le_of_ble_eq_true rfl, Nat.le_of_ble_eq_true rfl⟩) hK hP hD hE [6, 7] rfl (by decide +kernel) 0 2 rfl rfl rfl rfl rfl hl.1 rfl (lv_room (Nat.le_of_ble_eq_true rfl)) dX2_take_62 ⟨Nat.le_of_ble_eq_true rfl, Nat.le_of_ble_eq_true rfl⟩) hP hD hS hA [6, 7] [0, 1, 2, 3, 4, 5] rfl rfl (by decide +kernel) (by decide +kernel) (fun r16 u15 H locs er16 hP hD hS => ?_)
  subst er16
  refine nb_iast (ws' := [(a2, .inl (y 0, 2001, .inl (upd nz 0 1))), (a1, .inr (7, [.ref a6, .ref a7, .ref a8, .ref a9, .int 0, .int 0, .ref a10, .ref a11, .ref a12, .ref a13])), (a7, .inl (y 0, 9, .inl nz)), (a5, .inl (y 1, 2001, .inr (.inl nzl))), (a8, .inl (y 0, 9, .inl nz)), (a3, .inl (y 1, 2001, .inr (.inl nzl))), (a0, .inr (2, [.ref a2, .ref a3, .ref a4, .ref a5])), (a4, .inl (y 1, 2001, .inr (.inl nzl)))]) hx hb hK hP hD hS 2 0 rfl rfl (n_in (by decide +kernel)) (by rw [nb_upI (f := nz) (i := Int32.toNatClampNeg 7) (x := 0) rfl]; rfl) dX2_take_65 (fun H locs hP hD hS => ?_)
  refine lv_aload_n hx hb dX2_take_66 rfl (lv_at hl 4 rfl) ?_
  refine va_get (D := D) (ci := 7) (v := .ref a8) (C := RX7) (T := TX7) (N := 10) hx hb hts (gt_c iG_X7) hown hK hP 1 rfl rfl 2 (by decide +kernel) w_3 (fun _ h9 => h9) rfl dX2_take_67 ?_
  refine lv_iload hx hb dX2_take_70 (lv_at hl 0 rfl) ?_
  refine lv_aload_n hx hb dX2_take_72 rfl (lv_at hl 2 rfl) ?_
  refine va_get (D := D) (ci := 2) (v := .ref a5) (C := RX2) (T := TX2) (N := 4) hx hb hts (gt_c iG_X2) hown hK hP 6 rfl rfl 3 (by decide +kernel) w_4 (fun _ h9 => h9) rfl dX2_take_73 ?_
  refine lv_iload_n hx hb dX2_take_76 rfl (lv_at hl 3 rfl) ?_
  refine va_lald hx hb hK hP 3 1 rfl rfl (n_in (by decide +kernel)) dX2_take_77 ?_
  refine nv_l (v := 0) rfl ?_
  refine lv_bipush (v := 7) hx hb dX2_take_78 (by decide +kernel) ?_
  refine lv_iload hx hb dX2_take_80 (lv_at hl 0 rfl) ?_
  refine lv_imul hx hb dX2_take_82 ?_
  refine nv_i (v := 49) (by decide +kernel) ?_
  refine lv_lshr hx hb dX2_take_83 rfl ?_
  refine nv_l (v := 0) (by decide +kernel) ?_
  refine lv_l2i (v := 0) hx hb dX2_take_84 (by decide +kernel) ?_
  refine lv_bipush (v := 127) hx hb dX2_take_85 (by decide +kernel) ?_
  refine lv_iand hx hb dX2_take_87 ?_
  refine nv_i (v := 0) (by decide +kernel) ?_
  refine nb_iast (ws' := [(a2, .inl (y 0, 2001, .inl (upd nz 0 1))), (a1, .inr (7, [.ref a6, .ref a7, .ref a8, .ref a9, .int 0, .int 0, .ref a10, .ref a11, .ref a12, .ref a13])), (a7, .inl (y 0, 9, .inl nz)), (a5, .inl (y 1, 2001, .inr (.inl nzl))), (a8, .inl (y 0, 9, .inl nz)), (a3, .inl (y 1, 2001, .inr (.inl nzl))), (a0, .inr (2, [.ref a2, .ref a3, .ref a4, .ref a5])), (a4, .inl (y 1, 2001, .inr (.inl nzl)))]) hx hb hK hP hD hS 4 0 rfl rfl (n_in (by decide +kernel)) (by rw [nb_upI (f := nz) (i := Int32.toNatClampNeg 7) (x := 0) rfl]; rfl) dX2_take_88 (fun H locs hP hD hS => ?_)
  refine lv_iinc (v := 8) (lv' := [(4, .int 8), (3, .int 1), (0, .ref a0), (1, .int 0), (2, .ref a1)]) hx hb dX2_take_89 hl (k := 0) rfl (by decide +kernel) (by decide +kernel) rfl (fun ls hl => ?_)
  refine lv_goto (tgt := 45) hx hb dX2_take_92 (by decide +kernel) ?_
  refine lv_iload hx hb dX2_take_45 (lv_at hl 0 rfl) ?_
  refine lv_bipush (v := 9) hx hb dX2_take_47 (by decide +kernel) ?_
  refine lv_icmp_ge (tgt := 95) hx hb dX2_take_49 (by decide +kernel) (fun c => absurd c (by decide +kernel)) (fun _ => ?_)
  refine lv_aload_n hx hb dX2_take_52 rfl (lv_at hl 4 rfl) ?_
  refine va_get (D := D) (ci := 7) (v := .ref a7) (C := RX7) (T := TX7) (N := 10) hx hb hts (gt_c iG_X7) hown hK hP 1 rfl rfl 1 (by decide +kernel) w_2 (fun _ h9 => h9) rfl dX2_take_53 ?_
  refine lv_iload hx hb dX2_take_56 (lv_at hl 0 rfl) ?_
  refine lv_aload_n hx hb dX2_take_58 rfl (lv_at hl 2 rfl) ?_
  refine lv_iload_n hx hb dX2_take_59 rfl (lv_at hl 3 rfl) ?_
  refine lv_iload hx hb dX2_take_60 (lv_at hl 0 rfl) ?_
  refine nj_i (ws := [(a2, .inl (y 0, 2001, .inl (upd nz 0 1))), (a1, .inr (7, [.ref a6, .ref a7, .ref a8, .ref a9, .int 0, .int 0, .ref a10, .ref a11, .ref a12, .ref a13])), (a7, .inl (y 0, 9, .inl nz)), (a5, .inl (y 1, 2001, .inr (.inl nzl))), (a8, .inl (y 0, 9, .inl nz)), (a3, .inl (y 1, 2001, .inr (.inl nzl))), (a0, .inr (2, [.ref a2, .ref a3, .ref a4, .ref a5])), (a4, .inl (y 1, 2001, .inr (.inl nzl)))]) (wc := [(a0, .inr (2, [.ref a2, .ref a3, .ref a4, .ref a5])), (a4, .inl (y 1, 2001, .inr (.inl nzl)))]) (wr := [(a2, .inl (y 0, 2001, .inl (upd nz 0 1))), (a1, .inr (7, [.ref a6, .ref a7, .ref a8, .ref a9, .int 0, .int 0, .ref a10, .ref a11, .ref a12, .ref a13])), (a7, .inl (y 0, 9, .inl nz)), (a5, .inl (y 1, 2001, .inr (.inl nzl))), (a8, .inl (y 0, 9, .inl nz)), (a3, .inl (y 1, 2001, .inr (.inl nzl)))]) (nr_V (As := [.int 0, .int 8]) (rest := [.int 8, .ref a7]) ⟨hx, hb, hml, hown, hts⟩ (cX2_purseOf_9 l D y a0 a2 a3 a4 a5 H.size) (cwV 2 hts gX2_take_X2_purseOf rfl rfl rfl (by decide +kernel) ⟨Nat.le_of_ble_eq_true rfl, Nat.le_of_ble_eq_true rfl⟩) hK hP hD hE [6, 7] rfl (by decide +kernel) 0 2 rfl rfl rfl rfl rfl hl.1 rfl (lv_room (Nat.le_of_ble_eq_true rfl)) dX2_take_62 ⟨Nat.le_of_ble_eq_true rfl, Nat.le_of_ble_eq_true rfl⟩) hP hD hS hA [6, 7] [0, 1, 2, 3, 4, 5] rfl rfl (by decide +kernel) (by decide +kernel) (fun r18 u17 H locs er18 hP hD hS => ?_)
  subst er18
  refine nb_iast (ws' := [(a2, .inl (y 0, 2001, .inl (upd nz 0 1))), (a1, .inr (7, [.ref a6, .ref a7, .ref a8, .ref a9, .int 0, .int 0, .ref a10, .ref a11, .ref a12, .ref a13])), (a7, .inl (y 0, 9, .inl nz)), (a5, .inl (y 1, 2001, .inr (.inl nzl))), (a8, .inl (y 0, 9, .inl nz)), (a3, .inl (y 1, 2001, .inr (.inl nzl))), (a0, .inr (2, [.ref a2, .ref a3, .ref a4, .ref a5])), (a4, .inl (y 1, 2001, .inr (.inl nzl)))]) hx hb hK hP hD hS 2 0 rfl rfl (n_in (by decide +kernel)) (by rw [nb_upI (f := nz) (i := Int32.toNatClampNeg 8) (x := 0) rfl]; rfl) dX2_take_65 (fun H locs hP hD hS => ?_)
  refine lv_aload_n hx hb dX2_take_66 rfl (lv_at hl 4 rfl) ?_
  refine va_get (D := D) (ci := 7) (v := .ref a8) (C := RX7) (T := TX7) (N := 10) hx hb hts (gt_c iG_X7) hown hK hP 1 rfl rfl 2 (by decide +kernel) w_3 (fun _ h9 => h9) rfl dX2_take_67 ?_
  refine lv_iload hx hb dX2_take_70 (lv_at hl 0 rfl) ?_
  refine lv_aload_n hx hb dX2_take_72 rfl (lv_at hl 2 rfl) ?_
  refine va_get (D := D) (ci := 2) (v := .ref a5) (C := RX2) (T := TX2) (N := 4) hx hb hts (gt_c iG_X2) hown hK hP 6 rfl rfl 3 (by decide +kernel) w_4 (fun _ h9 => h9) rfl dX2_take_73 ?_
  refine lv_iload_n hx hb dX2_take_76 rfl (lv_at hl 3 rfl) ?_
  refine va_lald hx hb hK hP 3 1 rfl rfl (n_in (by decide +kernel)) dX2_take_77 ?_
  refine nv_l (v := 0) rfl ?_
  refine lv_bipush (v := 7) hx hb dX2_take_78 (by decide +kernel) ?_
  refine lv_iload hx hb dX2_take_80 (lv_at hl 0 rfl) ?_
  refine lv_imul hx hb dX2_take_82 ?_
  refine nv_i (v := 56) (by decide +kernel) ?_
  refine lv_lshr hx hb dX2_take_83 rfl ?_
  refine nv_l (v := 0) (by decide +kernel) ?_
  refine lv_l2i (v := 0) hx hb dX2_take_84 (by decide +kernel) ?_
  refine lv_bipush (v := 127) hx hb dX2_take_85 (by decide +kernel) ?_
  refine lv_iand hx hb dX2_take_87 ?_
  refine nv_i (v := 0) (by decide +kernel) ?_
  refine nb_iast (ws' := [(a2, .inl (y 0, 2001, .inl (upd nz 0 1))), (a1, .inr (7, [.ref a6, .ref a7, .ref a8, .ref a9, .int 0, .int 0, .ref a10, .ref a11, .ref a12, .ref a13])), (a7, .inl (y 0, 9, .inl nz)), (a5, .inl (y 1, 2001, .inr (.inl nzl))), (a8, .inl (y 0, 9, .inl nz)), (a3, .inl (y 1, 2001, .inr (.inl nzl))), (a0, .inr (2, [.ref a2, .ref a3, .ref a4, .ref a5])), (a4, .inl (y 1, 2001, .inr (.inl nzl)))]) hx hb hK hP hD hS 4 0 rfl rfl (n_in (by decide +kernel)) (by rw [nb_upI (f := nz) (i := Int32.toNatClampNeg 8) (x := 0) rfl]; rfl) dX2_take_88 (fun H locs hP hD hS => ?_)
  refine lv_iinc (v := 9) (lv' := [(4, .int 9), (3, .int 1), (0, .ref a0), (1, .int 0), (2, .ref a1)]) hx hb dX2_take_89 hl (k := 0) rfl (by decide +kernel) (by decide +kernel) rfl (fun ls hl => ?_)
  refine lv_goto (tgt := 45) hx hb dX2_take_92 (by decide +kernel) ?_
  refine lv_iload hx hb dX2_take_45 (lv_at hl 0 rfl) ?_
  refine lv_bipush (v := 9) hx hb dX2_take_47 (by decide +kernel) ?_
  refine lv_icmp_ge (tgt := 95) hx hb dX2_take_49 (by decide +kernel) (fun _ => ?_) (fun c => absurd (by decide +kernel) c)
  refine W.widen (k := 0) (n := 0) (Nat.le_of_ble_eq_true rfl) (Nat.le_of_ble_eq_true rfl) ?_
  exact W.vret hx hb hr (fun t ht hW => ⟨⟨(fun _ => 0), rfl, trivial, by rw [ht]; exact hP, va_K.moved hW.alike hK, hD⟩, hS.F ht⟩) hS.2.2 dX2_take_95 hlocks
