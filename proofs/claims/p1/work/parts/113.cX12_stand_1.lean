theorem wd_1_204 : (Cond.code yX7_init cX7_init 2 none) ∈ gT := gt_m1 204 (by decide +kernel) (by decide +kernel)
theorem wd_5_4 : (Cond.methodLink RX4 5 objectInit) ∈ gT := gt_m5 4 (by decide +kernel) (by decide +kernel)
theorem wd_5_5 : (Cond.classLink RX4 11 RX2) ∈ gT := gt_m5 5 (by decide +kernel) (by decide +kernel)
theorem wd_5_6 : (Cond.methodLink RX4 13 yX2_init) ∈ gT := gt_m5 6 (by decide +kernel) (by decide +kernel)
theorem wd_5_9 : (Cond.fieldLink RX4 16 "SoldToBehind$Reach" "store" "LSoldToBehind$Packed;") ∈ gT := gt_m5 9 (by decide +kernel) (by decide +kernel)
theorem wd_5_11 : (Cond.fieldLink RX4 20 "SoldToBehind$Reach" "total" "[I") ∈ gT := gt_m5 11 (by decide +kernel) (by decide +kernel)
theorem wd_5_13 : (Cond.fieldLink RX4 24 "SoldToBehind$Reach" "paid" "[I") ∈ gT := gt_m5 13 (by decide +kernel) (by decide +kernel)
theorem wd_5_15 : (Cond.fieldLink RX4 27 "SoldToBehind$Reach" "count" "I") ∈ gT := gt_m5 15 (by decide +kernel) (by decide +kernel)
theorem wd_5_17 : (Cond.fieldLink RX4 31 "SoldToBehind$Reach" "whole" "Z") ∈ gT := gt_m5 17 (by decide +kernel) (by decide +kernel)
theorem wd_5_19 : (Cond.fieldLink RX4 35 "SoldToBehind$Reach" "depth" "[I") ∈ gT := gt_m5 19 (by decide +kernel) (by decide +kernel)
theorem wd_5_54 : (Cond.arrayClass .boolean) ∈ gT := gt_m5 54 (by decide +kernel) (by decide +kernel)
theorem wd_5_20 : (Cond.fieldLink RX4 38 "SoldToBehind$Reach" "rest" "[Z") ∈ gT := gt_m5 20 (by decide +kernel) (by decide +kernel)
theorem wd_5_21 : (Cond.fieldLink RX4 42 "SoldToBehind$Reach" "out" "[I") ∈ gT := gt_m5 21 (by decide +kernel) (by decide +kernel)
theorem wd_5_22 : (Cond.fieldLink RX4 45 "SoldToBehind$Reach" "from" "[I") ∈ gT := gt_m5 22 (by decide +kernel) (by decide +kernel)
theorem wd_5_23 : (Cond.fieldLink RX4 48 "SoldToBehind$Reach" "by" "[I") ∈ gT := gt_m5 23 (by decide +kernel) (by decide +kernel)
theorem wd_5_24 : (Cond.fieldLink RX4 51 "SoldToBehind$Reach" "ways" "[J") ∈ gT := gt_m5 24 (by decide +kernel) (by decide +kernel)
theorem wd_5_25 : (Cond.fieldLink RX4 55 "SoldToBehind$Reach" "table" "[I") ∈ gT := gt_m5 25 (by decide +kernel) (by decide +kernel)
theorem wd_5_7 : (Cond.classLink RX4 58 RX7) ∈ gT := gt_m5 7 (by decide +kernel) (by decide +kernel)
theorem wd_1_201 : (Cond.instantiable RX7 10) ∈ gT := gt_m1 201 (by decide +kernel) (by decide +kernel)
theorem wd_5_8 : (Cond.methodLink RX4 60 yX7_init) ∈ gT := gt_m5 8 (by decide +kernel) (by decide +kernel)
theorem wd_1_203 : (Cond.instanceMethod yX7_init) ∈ gT := gt_m1 203 (by decide +kernel) (by decide +kernel)
theorem wd_5_26 : (Cond.fieldLink RX4 63 "SoldToBehind$Reach" "scene" "LSoldToBehind$Standing;") ∈ gT := gt_m5 26 (by decide +kernel) (by decide +kernel)
theorem dX12_stand_0 : decode cX12_stand 0 = .ok (.aload_n 0, 1) := by decide +kernel
theorem dX12_stand_1 : decode cX12_stand 1 = .ok (.iconst 0, 1) := by decide +kernel
theorem dX12_stand_2 : decode cX12_stand 2 = .ok (.putfield 127, 3) := by decide +kernel
theorem dX12_stand_5 : decode cX12_stand 5 = .ok (.aload_n 0, 1) := by decide +kernel
theorem dX12_stand_6 : decode cX12_stand 6 = .ok (.iload_n 1, 1) := by decide +kernel
theorem dX12_stand_7 : decode cX12_stand 7 = .ok (.invokevirtual 143, 3) := by decide +kernel
theorem dX12_stand_10 : decode cX12_stand 10 = .ok (.ifCond .eq 12, 3) := by decide +kernel
theorem dX12_stand_22 : decode cX12_stand 22 = .ok (.iconst (-1), 1) := by decide +kernel
theorem dX12_stand_23 : decode cX12_stand 23 = .ok (.ireturn, 1) := by decide +kernel
theorem dX11_needs_0 : decode cX11_needs 0 = .ok (.aload_n 0, 1) := by decide +kernel
theorem dX11_needs_1 : decode cX11_needs 1 = .ok (.getfield 49, 3) := by decide +kernel
theorem dX11_needs_4 : decode cX11_needs 4 = .ok (.iload_n 1, 1) := by decide +kernel
theorem dX11_needs_5 : decode cX11_needs 5 = .ok (.invokevirtual 175, 3) := by decide +kernel
theorem dX11_needs_8 : decode cX11_needs 8 = .ok (.iconst (-1), 1) := by decide +kernel
theorem dX11_needs_9 : decode cX11_needs 9 = .ok (.if_icmp .ne 5, 3) := by decide +kernel
theorem dX11_needs_12 : decode cX11_needs 12 = .ok (.iconst (-1), 1) := by decide +kernel
theorem dX11_needs_13 : decode cX11_needs 13 = .ok (.ireturn, 1) := by decide +kernel
theorem dX12_needs_0 : decode cX12_needs 0 = .ok (.aload_n 0, 1) := by decide +kernel
theorem dX12_needs_1 : decode cX12_needs 1 = .ok (.iconst 0, 1) := by decide +kernel
theorem dX12_needs_2 : decode cX12_needs 2 = .ok (.putfield 127, 3) := by decide +kernel
theorem dX12_needs_5 : decode cX12_needs 5 = .ok (.aload_n 0, 1) := by decide +kernel
theorem dX12_needs_6 : decode cX12_needs 6 = .ok (.iload_n 1, 1) := by decide +kernel
theorem dX12_needs_7 : decode cX12_needs 7 = .ok (.invokevirtual 276, 3) := by decide +kernel
theorem dX12_needs_10 : decode cX12_needs 10 = .ok (.ifCond .ne 5, 3) := by decide +kernel
theorem dX12_needs_13 : decode cX12_needs 13 = .ok (.iconst (-1), 1) := by decide +kernel
theorem dX12_needs_14 : decode cX12_needs 14 = .ok (.ireturn, 1) := by decide +kernel
theorem dX4_init_0 : decode cX4_init 0 = .ok (.aload_n 0, 1) := by decide +kernel
theorem dX4_init_1 : decode cX4_init 1 = .ok (.invokespecial 5, 3) := by decide +kernel
theorem dX4_init_4 : decode cX4_init 4 = .ok (.aload_n 0, 1) := by decide +kernel
theorem dX4_init_5 : decode cX4_init 5 = .ok (.new 11, 3) := by decide +kernel
theorem dX4_init_8 : decode cX4_init 8 = .ok (.dup, 1) := by decide +kernel
theorem dX4_init_9 : decode cX4_init 9 = .ok (.sipush 2001, 3) := by decide +kernel
theorem dX4_init_12 : decode cX4_init 12 = .ok (.invokespecial 13, 3) := by decide +kernel
theorem dX4_init_15 : decode cX4_init 15 = .ok (.putfield 16, 3) := by decide +kernel
theorem dX4_init_18 : decode cX4_init 18 = .ok (.aload_n 0, 1) := by decide +kernel
theorem dX4_init_19 : decode cX4_init 19 = .ok (.sipush 2000, 3) := by decide +kernel
theorem dX4_init_22 : decode cX4_init 22 = .ok (.newarray .int, 2) := by decide +kernel
theorem dX4_init_24 : decode cX4_init 24 = .ok (.putfield 20, 3) := by decide +kernel
theorem dX4_init_27 : decode cX4_init 27 = .ok (.aload_n 0, 1) := by decide +kernel
theorem dX4_init_28 : decode cX4_init 28 = .ok (.sipush 2000, 3) := by decide +kernel
theorem dX4_init_31 : decode cX4_init 31 = .ok (.newarray .int, 2) := by decide +kernel
theorem dX4_init_33 : decode cX4_init 33 = .ok (.putfield 24, 3) := by decide +kernel
theorem dX4_init_36 : decode cX4_init 36 = .ok (.aload_n 0, 1) := by decide +kernel
theorem dX4_init_37 : decode cX4_init 37 = .ok (.iconst 0, 1) := by decide +kernel
theorem dX4_init_38 : decode cX4_init 38 = .ok (.putfield 27, 3) := by decide +kernel
theorem dX4_init_41 : decode cX4_init 41 = .ok (.aload_n 0, 1) := by decide +kernel
theorem dX4_init_42 : decode cX4_init 42 = .ok (.iconst 0, 1) := by decide +kernel
theorem dX4_init_43 : decode cX4_init 43 = .ok (.putfield 31, 3) := by decide +kernel
theorem dX4_init_46 : decode cX4_init 46 = .ok (.aload_n 0, 1) := by decide +kernel
theorem dX4_init_47 : decode cX4_init 47 = .ok (.sipush 2001, 3) := by decide +kernel
theorem dX4_init_50 : decode cX4_init 50 = .ok (.newarray .int, 2) := by decide +kernel
theorem dX4_init_52 : decode cX4_init 52 = .ok (.putfield 35, 3) := by decide +kernel
theorem dX4_init_55 : decode cX4_init 55 = .ok (.aload_n 0, 1) := by decide +kernel
theorem dX4_init_56 : decode cX4_init 56 = .ok (.sipush 2000, 3) := by decide +kernel
theorem dX4_init_59 : decode cX4_init 59 = .ok (.newarray .boolean, 2) := by decide +kernel
theorem dX4_init_61 : decode cX4_init 61 = .ok (.putfield 38, 3) := by decide +kernel
theorem dX4_init_64 : decode cX4_init 64 = .ok (.aload_n 0, 1) := by decide +kernel
theorem dX4_init_65 : decode cX4_init 65 = .ok (.sipush 16000, 3) := by decide +kernel
theorem dX4_init_68 : decode cX4_init 68 = .ok (.newarray .int, 2) := by decide +kernel
theorem dX4_init_70 : decode cX4_init 70 = .ok (.putfield 42, 3) := by decide +kernel
theorem dX4_init_73 : decode cX4_init 73 = .ok (.aload_n 0, 1) := by decide +kernel
theorem dX4_init_74 : decode cX4_init 74 = .ok (.sipush 2000, 3) := by decide +kernel
theorem dX4_init_77 : decode cX4_init 77 = .ok (.newarray .int, 2) := by decide +kernel
theorem dX4_init_79 : decode cX4_init 79 = .ok (.putfield 45, 3) := by decide +kernel
theorem dX4_init_82 : decode cX4_init 82 = .ok (.aload_n 0, 1) := by decide +kernel
theorem dX4_init_83 : decode cX4_init 83 = .ok (.sipush 2000, 3) := by decide +kernel
theorem dX4_init_86 : decode cX4_init 86 = .ok (.newarray .int, 2) := by decide +kernel
theorem dX4_init_88 : decode cX4_init 88 = .ok (.putfield 48, 3) := by decide +kernel
theorem dX4_init_91 : decode cX4_init 91 = .ok (.aload_n 0, 1) := by decide +kernel
theorem dX4_init_92 : decode cX4_init 92 = .ok (.sipush 2000, 3) := by decide +kernel
theorem dX4_init_95 : decode cX4_init 95 = .ok (.newarray .long, 2) := by decide +kernel
theorem dX4_init_97 : decode cX4_init 97 = .ok (.putfield 51, 3) := by decide +kernel
theorem dX4_init_100 : decode cX4_init 100 = .ok (.aload_n 0, 1) := by decide +kernel
theorem dX4_init_101 : decode cX4_init 101 = .ok (.sipush 4096, 3) := by decide +kernel
theorem dX4_init_104 : decode cX4_init 104 = .ok (.newarray .int, 2) := by decide +kernel
theorem dX4_init_106 : decode cX4_init 106 = .ok (.putfield 55, 3) := by decide +kernel
theorem dX4_init_109 : decode cX4_init 109 = .ok (.aload_n 0, 1) := by decide +kernel
theorem dX4_init_110 : decode cX4_init 110 = .ok (.new 58, 3) := by decide +kernel
theorem dX4_init_113 : decode cX4_init 113 = .ok (.dup, 1) := by decide +kernel
theorem dX4_init_114 : decode cX4_init 114 = .ok (.aload_n 1, 1) := by decide +kernel
theorem dX4_init_115 : decode cX4_init 115 = .ok (.invokespecial 60, 3) := by decide +kernel
theorem dX4_init_118 : decode cX4_init 118 = .ok (.putfield 63, 3) := by decide +kernel
theorem dX4_init_121 : decode cX4_init 121 = .ok (.return_, 1) := by decide +kernel
theorem dX2_addPurse_0 : decode cX2_addPurse 0 = .ok (.iload_n 2, 1) := by decide +kernel
theorem dX2_addPurse_1 : decode cX2_addPurse 1 = .ok (.bipush 6, 2) := by decide +kernel
theorem dX2_addPurse_3 : decode cX2_addPurse 3 = .ok (.if_icmp .ge 22, 3) := by decide +kernel
theorem dX2_addPurse_6 : decode cX2_addPurse 6 = .ok (.aload_n 0, 1) := by decide +kernel
theorem dX2_addPurse_7 : decode cX2_addPurse 7 = .ok (.getfield 15, 3) := by decide +kernel
theorem dX2_addPurse_10 : decode cX2_addPurse 10 = .ok (.iload_n 1, 1) := by decide +kernel
theorem dX2_addPurse_11 : decode cX2_addPurse 11 = .ok (.dup2, 1) := by decide +kernel
theorem dX2_addPurse_12 : decode cX2_addPurse 12 = .ok (.laload, 1) := by decide +kernel
theorem dX2_addPurse_13 : decode cX2_addPurse 13 = .ok (.iload_n 3, 1) := by decide +kernel
theorem dX2_addPurse_14 : decode cX2_addPurse 14 = .ok (.i2l, 1) := by decide +kernel
theorem dX2_addPurse_15 : decode cX2_addPurse 15 = .ok (.bipush 10, 2) := by decide +kernel
theorem dX2_addPurse_17 : decode cX2_addPurse 17 = .ok (.iload_n 2, 1) := by decide +kernel
theorem dX2_addPurse_18 : decode cX2_addPurse 18 = .ok (.imul, 1) := by decide +kernel
theorem dX2_addPurse_19 : decode cX2_addPurse 19 = .ok (.lshl, 1) := by decide +kernel
theorem dX2_addPurse_20 : decode cX2_addPurse 20 = .ok (.ladd, 1) := by decide +kernel
theorem dX2_addPurse_21 : decode cX2_addPurse 21 = .ok (.lastore, 1) := by decide +kernel
theorem dX2_addPurse_22 : decode cX2_addPurse 22 = .ok (.goto 22, 3) := by decide +kernel
theorem dX2_addPurse_25 : decode cX2_addPurse 25 = .ok (.aload_n 0, 1) := by decide +kernel
theorem dX2_addPurse_26 : decode cX2_addPurse 26 = .ok (.getfield 19, 3) := by decide +kernel
theorem dX2_addPurse_29 : decode cX2_addPurse 29 = .ok (.iload_n 1, 1) := by decide +kernel
theorem dX2_addPurse_30 : decode cX2_addPurse 30 = .ok (.dup2, 1) := by decide +kernel
theorem dX2_addPurse_31 : decode cX2_addPurse 31 = .ok (.laload, 1) := by decide +kernel
theorem dX2_addPurse_32 : decode cX2_addPurse 32 = .ok (.iload_n 3, 1) := by decide +kernel
theorem dX2_addPurse_33 : decode cX2_addPurse 33 = .ok (.i2l, 1) := by decide +kernel
theorem dX2_addPurse_34 : decode cX2_addPurse 34 = .ok (.bipush 10, 2) := by decide +kernel
theorem dX2_addPurse_36 : decode cX2_addPurse 36 = .ok (.iload_n 2, 1) := by decide +kernel
theorem dX2_addPurse_37 : decode cX2_addPurse 37 = .ok (.bipush 6, 2) := by decide +kernel
theorem dX2_addPurse_39 : decode cX2_addPurse 39 = .ok (.isub, 1) := by decide +kernel
theorem dX2_addPurse_40 : decode cX2_addPurse 40 = .ok (.imul, 1) := by decide +kernel
theorem dX2_addPurse_41 : decode cX2_addPurse 41 = .ok (.lshl, 1) := by decide +kernel
theorem dX2_addPurse_42 : decode cX2_addPurse 42 = .ok (.ladd, 1) := by decide +kernel
theorem dX2_addPurse_43 : decode cX2_addPurse 43 = .ok (.lastore, 1) := by decide +kernel
theorem dX2_addPurse_44 : decode cX2_addPurse 44 = .ok (.return_, 1) := by decide +kernel
theorem dX2_addSales_0 : decode cX2_addSales 0 = .ok (.aload_n 0, 1) := by decide +kernel
theorem dX2_addSales_1 : decode cX2_addSales 1 = .ok (.getfield 22, 3) := by decide +kernel
theorem dX2_addSales_4 : decode cX2_addSales 4 = .ok (.iload_n 1, 1) := by decide +kernel
theorem dX2_addSales_5 : decode cX2_addSales 5 = .ok (.dup2, 1) := by decide +kernel
theorem dX2_addSales_6 : decode cX2_addSales 6 = .ok (.laload, 1) := by decide +kernel
theorem dX2_addSales_7 : decode cX2_addSales 7 = .ok (.iload_n 3, 1) := by decide +kernel
theorem dX2_addSales_8 : decode cX2_addSales 8 = .ok (.i2l, 1) := by decide +kernel
theorem dX2_addSales_9 : decode cX2_addSales 9 = .ok (.bipush 7, 2) := by decide +kernel
theorem dX2_addSales_11 : decode cX2_addSales 11 = .ok (.iload_n 2, 1) := by decide +kernel
theorem dX2_addSales_12 : decode cX2_addSales 12 = .ok (.imul, 1) := by decide +kernel
theorem dX2_addSales_13 : decode cX2_addSales 13 = .ok (.lshl, 1) := by decide +kernel
theorem dX2_addSales_14 : decode cX2_addSales 14 = .ok (.ladd, 1) := by decide +kernel
theorem dX2_addSales_15 : decode cX2_addSales 15 = .ok (.lastore, 1) := by decide +kernel
theorem dX2_addSales_16 : decode cX2_addSales 16 = .ok (.return_, 1) := by decide +kernel
theorem gX12_stand_X12_isOne : GoodIn wsX12_stand (wsV RX12 143 RX12 yX12_isOne wsX12_isOne) := gi_V wd_8_12 wd_8_14 wd_0_65 wd_1_12 wd_8_15
theorem gX11_needs_X7_placeOf : GoodIn wsX11_needs (wsV RX11 175 RX7 yX7_placeOf wsX7_placeOf) := gi_V wd_3_189 wd_3_190 wd_3_191 wd_1_8 wd_3_192
theorem gX12_needs_X12_isInLine : GoodIn wsX12_needs (wsV RX12 276 RX12 yX12_isInLine wsX12_isInLine) := gi_V wd_8_66 wd_8_68 wd_0_72 wd_1_12 wd_8_69
theorem gX4_init_X2_init : GoodIn wsX4_init (wsX2_init) := gi_c wd_2_24
theorem gX4_init_X7_init : GoodIn wsX4_init (wsX7_init) := gi_c wd_1_204
set_option maxRecDepth 100000 in
set_option maxHeartbeats 4000000 in
theorem cX12_stand_1 (l : Launch) (D : va_G) (y : Nat → ClassId) (a0 : Nat) (n0 : Int32) (hn0h : n0 ≤ (-1)) (a1 : Nat) (a2 : Nat) (a3 : Nat) (a4 : Nat) (a5 : Nat) (a6 : Nat) (a7 : Nat) (a8 : Nat) (a9 : Nat) (a10 : Nat) (a11 : Nat) (a12 : Nat) (a13 : Nat) (a14 : Nat) (a15 : Nat) (a16 : Nat) (a17 : Nat) (a18 : Nat) (a19 : Nat) (a20 : Nat) (a21 : Nat) (a22 : Nat) (a23 : Nat) (a24 : Nat) (a25 : Nat) (a26 : Nat) (a27 : Nat) (a28 : Nat) (a29 : Nat) (a30 : Nat) (a31 : Nat) (a32 : Nat) (a33 : Nat) (a34 : Nat) (a35 : Nat) (sz : Nat) : Met l yX12_stand wsX12_stand { frames := 4, cells := 0, slots := 0, locals := 246 } (nPc D y nT [.ref a0, .int n0] [(a0, .inr (12, (.int 0 :: .ref a1 :: .ref a2 :: .ref a3 :: .ref a4 :: .ref a5 :: .ref a6 :: .ref a7 :: .int 0 :: .ref a8 :: .int 0 :: .ref a9 :: .ref a10 :: .int 1 :: .ref a11 :: .int 0 :: .ref a12 :: .int 0 :: .int 0 :: .null :: .int 0 :: .int 0 :: .int 0 :: .int 0 :: .ref a13 :: .ref a14 :: .ref a15 :: .int (-1) :: .int 0 :: .int 0 :: .int 0 :: .int 0 :: .int 0 :: .int 0 :: .int 0 :: .ref a16 :: .int 0 :: .ref a17 :: .int 0 :: .ref a18 :: .ref a19 :: .int 0 :: .int 0 :: .int 0 :: .int 0 :: .ref a20 :: .ref a21 :: .ref a22 :: .ref a23 :: .ref a24 :: .ref a25 :: .ref a26 :: .ref a27 :: .ref a28 :: .int 0 :: .ref a29 :: .ref a30 :: .ref a31 :: .long 0 :: .int 0 :: .int 0 :: .int 0 :: .long 0 :: .int 0 :: .ref a32 :: .int 0 :: .int 0 :: .int 0 :: .int 0 :: .ref a33 :: .ref a34 :: .ref a35 :: [])))] sz) ((fun A => nQi D y (fun r _ => r = (-1)) (fun u => [(a0, .inr (12, (.int 0 :: .ref a1 :: .ref a2 :: .ref a3 :: .ref a4 :: .ref a5 :: .ref a6 :: .ref a7 :: .int 0 :: .ref a8 :: .int 0 :: .ref a9 :: .ref a10 :: .int 1 :: .ref a11 :: .int 0 :: .ref a12 :: .int 0 :: .int 0 :: .null :: .int 0 :: .int 0 :: .int 0 :: .int 0 :: .ref a13 :: .ref a14 :: .ref a15 :: .int (-1) :: .int 0 :: .int 0 :: .int 0 :: .int 0 :: .int 0 :: .int 0 :: .int 0 :: .ref a16 :: .int 0 :: .ref a17 :: .int 0 :: .ref a18 :: .ref a19 :: .int 0 :: .int 0 :: .int 0 :: .int 0 :: .ref a20 :: .ref a21 :: .ref a22 :: .ref a23 :: .ref a24 :: .ref a25 :: .ref a26 :: .ref a27 :: .ref a28 :: .int 0 :: .ref a29 :: .ref a30 :: .ref a31 :: .long 0 :: .int 0 :: .int 0 :: .int 0 :: .long 0 :: .int 0 :: .ref a32 :: .int 0 :: .int 0 :: .int 0 :: .int 0 :: .ref a33 :: .ref a34 :: .ref a35 :: [])))]) A) (va_A [(a0, .inr (12, (.int 0 :: .ref a1 :: .ref a2 :: .ref a3 :: .ref a4 :: .ref a5 :: .ref a6 :: .ref a7 :: .int 0 :: .ref a8 :: .int 0 :: .ref a9 :: .ref a10 :: .int 1 :: .ref a11 :: .int 0 :: .ref a12 :: .int 0 :: .int 0 :: .null :: .int 0 :: .int 0 :: .int 0 :: .int 0 :: .ref a13 :: .ref a14 :: .ref a15 :: .int (-1) :: .int 0 :: .int 0 :: .int 0 :: .int 0 :: .int 0 :: .int 0 :: .int 0 :: .ref a16 :: .int 0 :: .ref a17 :: .int 0 :: .ref a18 :: .ref a19 :: .int 0 :: .int 0 :: .int 0 :: .int 0 :: .ref a20 :: .ref a21 :: .ref a22 :: .ref a23 :: .ref a24 :: .ref a25 :: .ref a26 :: .ref a27 :: .ref a28 :: .int 0 :: .ref a29 :: .ref a30 :: .ref a31 :: .long 0 :: .int 0 :: .int 0 :: .int 0 :: .long 0 :: .int 0 :: .ref a32 :: .int 0 :: .int 0 :: .int 0 :: .int 0 :: .ref a33 :: .ref a34 :: .ref a35 :: [])))] sz)) 0 0 (va_A [(a0, .inr (12, (.int 0 :: .ref a1 :: .ref a2 :: .ref a3 :: .ref a4 :: .ref a5 :: .ref a6 :: .ref a7 :: .int 0 :: .ref a8 :: .int 0 :: .ref a9 :: .ref a10 :: .int 1 :: .ref a11 :: .int 0 :: .ref a12 :: .int 0 :: .int 0 :: .null :: .int 0 :: .int 0 :: .int 0 :: .int 0 :: .ref a13 :: .ref a14 :: .ref a15 :: .int (-1) :: .int 0 :: .int 0 :: .int 0 :: .int 0 :: .int 0 :: .int 0 :: .int 0 :: .ref a16 :: .int 0 :: .ref a17 :: .int 0 :: .ref a18 :: .ref a19 :: .int 0 :: .int 0 :: .int 0 :: .int 0 :: .ref a20 :: .ref a21 :: .ref a22 :: .ref a23 :: .ref a24 :: .ref a25 :: .ref a26 :: .ref a27 :: .ref a28 :: .int 0 :: .ref a29 :: .ref a30 :: .ref a31 :: .long 0 :: .int 0 :: .int 0 :: .int 0 :: .long 0 :: .int 0 :: .ref a32 :: .int 0 :: .int 0 :: .int 0 :: .int 0 :: .ref a33 :: .ref a34 :: .ref a35 :: [])))] sz) := by
  refine nm_ofW (D := D) (y := y) (E := nT) (yy := yX12_stand) (wsy := wsX12_stand) (rm := { frames := 4, cells := 0, slots := 0, locals := 246 }) (as := [.ref a0, .int n0]) (ws := [(a0, .inr (12, (.int 0 :: .ref a1 :: .ref a2 :: .ref a3 :: .ref a4 :: .ref a5 :: .ref a6 :: .ref a7 :: .int 0 :: .ref a8 :: .int 0 :: .ref a9 :: .ref a10 :: .int 1 :: .ref a11 :: .int 0 :: .ref a12 :: .int 0 :: .int 0 :: .null :: .int 0 :: .int 0 :: .int 0 :: .int 0 :: .ref a13 :: .ref a14 :: .ref a15 :: .int (-1) :: .int 0 :: .int 0 :: .int 0 :: .int 0 :: .int 0 :: .int 0 :: .int 0 :: .ref a16 :: .int 0 :: .ref a17 :: .int 0 :: .ref a18 :: .ref a19 :: .int 0 :: .int 0 :: .int 0 :: .int 0 :: .ref a20 :: .ref a21 :: .ref a22 :: .ref a23 :: .ref a24 :: .ref a25 :: .ref a26 :: .ref a27 :: .ref a28 :: .int 0 :: .ref a29 :: .ref a30 :: .ref a31 :: .long 0 :: .int 0 :: .int 0 :: .int 0 :: .long 0 :: .int 0 :: .ref a32 :: .int 0 :: .int 0 :: .int 0 :: .int 0 :: .ref a33 :: .ref a34 :: .ref a35 :: [])))]) (sz := sz) (mc := 0) (ms := 0) (Qc := fun A => nQi D y (fun r _ => r = (-1)) (fun u => [(a0, .inr (12, (.int 0 :: .ref a1 :: .ref a2 :: .ref a3 :: .ref a4 :: .ref a5 :: .ref a6 :: .ref a7 :: .int 0 :: .ref a8 :: .int 0 :: .ref a9 :: .ref a10 :: .int 1 :: .ref a11 :: .int 0 :: .ref a12 :: .int 0 :: .int 0 :: .null :: .int 0 :: .int 0 :: .int 0 :: .int 0 :: .ref a13 :: .ref a14 :: .ref a15 :: .int (-1) :: .int 0 :: .int 0 :: .int 0 :: .int 0 :: .int 0 :: .int 0 :: .int 0 :: .ref a16 :: .int 0 :: .ref a17 :: .int 0 :: .ref a18 :: .ref a19 :: .int 0 :: .int 0 :: .int 0 :: .int 0 :: .ref a20 :: .ref a21 :: .ref a22 :: .ref a23 :: .ref a24 :: .ref a25 :: .ref a26 :: .ref a27 :: .ref a28 :: .int 0 :: .ref a29 :: .ref a30 :: .ref a31 :: .long 0 :: .int 0 :: .int 0 :: .int 0 :: .long 0 :: .int 0 :: .ref a32 :: .int 0 :: .int 0 :: .int 0 :: .int 0 :: .ref a33 :: .ref a34 :: .ref a35 :: [])))]) A) (cc := cX12_stand) (maxL := 7) (ret := (some .int)) (by decide +kernel) rfl (Nat.le_of_ble_eq_true rfl) ?_
  intro p e s m below meth c A ls H hx hb hr hml hts hown hlocks hnm hsz hP hK hD hA hS hE hAe hl
  replace hl : lv_has ls 7 [(0, .ref a0), (1, .int n0)] := hl
  have hown : s.vm.findClass RX12 = some m.cls := hown
  have w_0 := hts (.fieldLink RX12 127 "SoldToBehindModel" "thrown" "I") (gt_k wd_6_211)
  refine lv_aload_n hx hb dX12_stand_0 rfl (lv_at hl 0 rfl) ?_
  refine lv_iconst (v := 0) hx hb dX12_stand_1 (by decide +kernel) ?_
  refine nb_put (D := D) (ci := 12) (v := .int 0) (ty := .int) (C := RX12) (T := TX12) (N := 72) (ws' := [(a0, .inr (12, (.int 0 :: .ref a1 :: .ref a2 :: .ref a3 :: .ref a4 :: .ref a5 :: .ref a6 :: .ref a7 :: .int 0 :: .ref a8 :: .int 0 :: .ref a9 :: .ref a10 :: .int 1 :: .ref a11 :: .int 0 :: .ref a12 :: .int 0 :: .int 0 :: .null :: .int 0 :: .int 0 :: .int 0 :: .int 0 :: .ref a13 :: .ref a14 :: .ref a15 :: .int (-1) :: .int 0 :: .int 0 :: .int 0 :: .int 0 :: .int 0 :: .int 0 :: .int 0 :: .ref a16 :: .int 0 :: .ref a17 :: .int 0 :: .ref a18 :: .ref a19 :: .int 0 :: .int 0 :: .int 0 :: .int 0 :: .ref a20 :: .ref a21 :: .ref a22 :: .ref a23 :: .ref a24 :: .ref a25 :: .ref a26 :: .ref a27 :: .ref a28 :: .int 0 :: .ref a29 :: .ref a30 :: .ref a31 :: .long 0 :: .int 0 :: .int 0 :: .int 0 :: .long 0 :: .int 0 :: .ref a32 :: .int 0 :: .int 0 :: .int 0 :: .int 0 :: .ref a33 :: .ref a34 :: .ref a35 :: [])))]) hx hb hts (gt_c iG_X12) tyX12 tyX12_ok nmX12 hown hK hP hD hS 0 rfl rfl 18 (by decide +kernel) w_0 (fun _ h9 => h9) rfl (by decide +kernel) rfl rfl (Nat.le_of_ble_eq_true rfl) rfl dX12_stand_2 (fun H locs hP hD hS => ?_)
  refine lv_aload_n hx hb dX12_stand_5 rfl (lv_at hl 0 rfl) ?_
  refine lv_iload_n hx hb dX12_stand_6 rfl (lv_at hl 1 rfl) ?_
  refine nj_i (ws := [(a0, .inr (12, (.int 0 :: .ref a1 :: .ref a2 :: .ref a3 :: .ref a4 :: .ref a5 :: .ref a6 :: .ref a7 :: .int 0 :: .ref a8 :: .int 0 :: .ref a9 :: .ref a10 :: .int 1 :: .ref a11 :: .int 0 :: .ref a12 :: .int 0 :: .int 0 :: .null :: .int 0 :: .int 0 :: .int 0 :: .int 0 :: .ref a13 :: .ref a14 :: .ref a15 :: .int (-1) :: .int 0 :: .int 0 :: .int 0 :: .int 0 :: .int 0 :: .int 0 :: .int 0 :: .ref a16 :: .int 0 :: .ref a17 :: .int 0 :: .ref a18 :: .ref a19 :: .int 0 :: .int 0 :: .int 0 :: .int 0 :: .ref a20 :: .ref a21 :: .ref a22 :: .ref a23 :: .ref a24 :: .ref a25 :: .ref a26 :: .ref a27 :: .ref a28 :: .int 0 :: .ref a29 :: .ref a30 :: .ref a31 :: .long 0 :: .int 0 :: .int 0 :: .int 0 :: .long 0 :: .int 0 :: .ref a32 :: .int 0 :: .int 0 :: .int 0 :: .int 0 :: .ref a33 :: .ref a34 :: .ref a35 :: [])))]) (wc := [(a0, .inr (12, (.int 0 :: .ref a1 :: .ref a2 :: .ref a3 :: .ref a4 :: .ref a5 :: .ref a6 :: .ref a7 :: .int 0 :: .ref a8 :: .int 0 :: .ref a9 :: .ref a10 :: .int 1 :: .ref a11 :: .int 0 :: .ref a12 :: .int 0 :: .int 0 :: .null :: .int 0 :: .int 0 :: .int 0 :: .int 0 :: .ref a13 :: .ref a14 :: .ref a15 :: .int (-1) :: .int 0 :: .int 0 :: .int 0 :: .int 0 :: .int 0 :: .int 0 :: .int 0 :: .ref a16 :: .int 0 :: .ref a17 :: .int 0 :: .ref a18 :: .ref a19 :: .int 0 :: .int 0 :: .int 0 :: .int 0 :: .ref a20 :: .ref a21 :: .ref a22 :: .ref a23 :: .ref a24 :: .ref a25 :: .ref a26 :: .ref a27 :: .ref a28 :: .int 0 :: .ref a29 :: .ref a30 :: .ref a31 :: .long 0 :: .int 0 :: .int 0 :: .int 0 :: .long 0 :: .int 0 :: .ref a32 :: .int 0 :: .int 0 :: .int 0 :: .int 0 :: .ref a33 :: .ref a34 :: .ref a35 :: [])))]) (wr := []) (nr_V (As := [.int n0]) (rest := []) ⟨hx, hb, hml, hown, hts⟩ (cX12_isOne_1 l D y a0 n0 hn0h a1 a2 a3 a4 a5 a6 a7 a8 a9 a10 a11 a12 a13 a14 a15 a16 a17 a18 a19 a20 a21 a22 a23 a24 a25 a26 a27 a28 a29 a30 a31 a32 a33 a34 a35 H.size) (cwV 1 hts gX12_stand_X12_isOne rfl rfl rfl (by decide +kernel) ⟨Nat.le_of_ble_eq_true rfl, Nat.le_of_ble_eq_true rfl⟩) hK hP hD hE [0] rfl (by decide +kernel) 0 12 rfl rfl rfl rfl rfl hl.1 rfl (lv_room (Nat.le_of_ble_eq_true rfl)) dX12_stand_7 ⟨Nat.le_of_ble_eq_true rfl, Nat.le_of_ble_eq_true rfl⟩) hP hD hS hA [0] [] rfl rfl (by decide +kernel) (by decide +kernel) (fun r2 u1 H locs er2 hP hD hS => ?_)
  subst er2
  refine lv_if_eq (tgt := 22) hx hb dX12_stand_10 (by decide +kernel) (fun _ => ?_) (fun c => absurd (by decide +kernel) c)
  refine lv_iconst (v := (-1)) hx hb dX12_stand_22 (by decide +kernel) ?_
  refine W.widen (k := 0) (n := 0) (Nat.le_of_ble_eq_true rfl) (Nat.le_of_ble_eq_true rfl) ?_
  exact W.iret (v := (-1)) hx hb hr (fun t ht hW => ⟨⟨(-1), (fun _ => 0), rfl, rfl, by rw [ht]; exact hP, va_K.moved hW.alike hK, hD⟩, hS.F ht⟩) hS.2.2 dX12_stand_23 hlocks
set_option maxRecDepth 100000 in
set_option maxHeartbeats 4000000 in
theorem cX12_stand_2 (l : Launch) (D : va_G) (y : Nat → ClassId) (a0 : Nat) (n0 : Int32) (hn0l : 0 ≤ n0) (a1 : Nat) (a2 : Nat) (a3 : Nat) (a4 : Nat) (a5 : Nat) (a6 : Nat) (a7 : Nat) (a8 : Nat) (a9 : Nat) (a10 : Nat) (a11 : Nat) (a12 : Nat) (a13 : Nat) (a14 : Nat) (a15 : Nat) (a16 : Nat) (a17 : Nat) (a18 : Nat) (a19 : Nat) (a20 : Nat) (a21 : Nat) (a22 : Nat) (a23 : Nat) (a24 : Nat) (a25 : Nat) (a26 : Nat) (a27 : Nat) (a28 : Nat) (a29 : Nat) (a30 : Nat) (a31 : Nat) (a32 : Nat) (a33 : Nat) (a34 : Nat) (a35 : Nat) (sz : Nat) : Met l yX12_stand wsX12_stand { frames := 4, cells := 0, slots := 0, locals := 246 } (nPc D y nT [.ref a0, .int n0] [(a0, .inr (12, (.int 0 :: .ref a1 :: .ref a2 :: .ref a3 :: .ref a4 :: .ref a5 :: .ref a6 :: .ref a7 :: .int 0 :: .ref a8 :: .int 0 :: .ref a9 :: .ref a10 :: .int 1 :: .ref a11 :: .int 0 :: .ref a12 :: .int 0 :: .int 0 :: .null :: .int 0 :: .int 0 :: .int 0 :: .int 0 :: .ref a13 :: .ref a14 :: .ref a15 :: .int (-1) :: .int 0 :: .int 0 :: .int 0 :: .int 0 :: .int 0 :: .int 0 :: .int 0 :: .ref a16 :: .int 0 :: .ref a17 :: .int 0 :: .ref a18 :: .ref a19 :: .int 0 :: .int 0 :: .int 0 :: .int 0 :: .ref a20 :: .ref a21 :: .ref a22 :: .ref a23 :: .ref a24 :: .ref a25 :: .ref a26 :: .ref a27 :: .ref a28 :: .int 0 :: .ref a29 :: .ref a30 :: .ref a31 :: .long 0 :: .int 0 :: .int 0 :: .int 0 :: .long 0 :: .int 0 :: .ref a32 :: .int 0 :: .int 0 :: .int 0 :: .int 0 :: .ref a33 :: .ref a34 :: .ref a35 :: [])))] sz) ((fun A => nQi D y (fun r _ => r = (-1)) (fun u => [(a0, .inr (12, (.int 0 :: .ref a1 :: .ref a2 :: .ref a3 :: .ref a4 :: .ref a5 :: .ref a6 :: .ref a7 :: .int 0 :: .ref a8 :: .int 0 :: .ref a9 :: .ref a10 :: .int 1 :: .ref a11 :: .int 0 :: .ref a12 :: .int 0 :: .int 0 :: .null :: .int 0 :: .int 0 :: .int 0 :: .int 0 :: .ref a13 :: .ref a14 :: .ref a15 :: .int (-1) :: .int 0 :: .int 0 :: .int 0 :: .int 0 :: .int 0 :: .int 0 :: .int 0 :: .ref a16 :: .int 0 :: .ref a17 :: .int 0 :: .ref a18 :: .ref a19 :: .int 0 :: .int 0 :: .int 0 :: .int 0 :: .ref a20 :: .ref a21 :: .ref a22 :: .ref a23 :: .ref a24 :: .ref a25 :: .ref a26 :: .ref a27 :: .ref a28 :: .int 0 :: .ref a29 :: .ref a30 :: .ref a31 :: .long 0 :: .int 0 :: .int 0 :: .int 0 :: .long 0 :: .int 0 :: .ref a32 :: .int 0 :: .int 0 :: .int 0 :: .int 0 :: .ref a33 :: .ref a34 :: .ref a35 :: [])))]) A) (va_A [(a0, .inr (12, (.int 0 :: .ref a1 :: .ref a2 :: .ref a3 :: .ref a4 :: .ref a5 :: .ref a6 :: .ref a7 :: .int 0 :: .ref a8 :: .int 0 :: .ref a9 :: .ref a10 :: .int 1 :: .ref a11 :: .int 0 :: .ref a12 :: .int 0 :: .int 0 :: .null :: .int 0 :: .int 0 :: .int 0 :: .int 0 :: .ref a13 :: .ref a14 :: .ref a15 :: .int (-1) :: .int 0 :: .int 0 :: .int 0 :: .int 0 :: .int 0 :: .int 0 :: .int 0 :: .ref a16 :: .int 0 :: .ref a17 :: .int 0 :: .ref a18 :: .ref a19 :: .int 0 :: .int 0 :: .int 0 :: .int 0 :: .ref a20 :: .ref a21 :: .ref a22 :: .ref a23 :: .ref a24 :: .ref a25 :: .ref a26 :: .ref a27 :: .ref a28 :: .int 0 :: .ref a29 :: .ref a30 :: .ref a31 :: .long 0 :: .int 0 :: .int 0 :: .int 0 :: .long 0 :: .int 0 :: .ref a32 :: .int 0 :: .int 0 :: .int 0 :: .int 0 :: .ref a33 :: .ref a34 :: .ref a35 :: [])))] sz)) 0 0 (va_A [(a0, .inr (12, (.int 0 :: .ref a1 :: .ref a2 :: .ref a3 :: .ref a4 :: .ref a5 :: .ref a6 :: .ref a7 :: .int 0 :: .ref a8 :: .int 0 :: .ref a9 :: .ref a10 :: .int 1 :: .ref a11 :: .int 0 :: .ref a12 :: .int 0 :: .int 0 :: .null :: .int 0 :: .int 0 :: .int 0 :: .int 0 :: .ref a13 :: .ref a14 :: .ref a15 :: .int (-1) :: .int 0 :: .int 0 :: .int 0 :: .int 0 :: .int 0 :: .int 0 :: .int 0 :: .ref a16 :: .int 0 :: .ref a17 :: .int 0 :: .ref a18 :: .ref a19 :: .int 0 :: .int 0 :: .int 0 :: .int 0 :: .ref a20 :: .ref a21 :: .ref a22 :: .ref a23 :: .ref a24 :: .ref a25 :: .ref a26 :: .ref a27 :: .ref a28 :: .int 0 :: .ref a29 :: .ref a30 :: .ref a31 :: .long 0 :: .int 0 :: .int 0 :: .int 0 :: .long 0 :: .int 0 :: .ref a32 :: .int 0 :: .int 0 :: .int 0 :: .int 0 :: .ref a33 :: .ref a34 :: .ref a35 :: [])))] sz) := by
  refine nm_ofW (D := D) (y := y) (E := nT) (yy := yX12_stand) (wsy := wsX12_stand) (rm := { frames := 4, cells := 0, slots := 0, locals := 246 }) (as := [.ref a0, .int n0]) (ws := [(a0, .inr (12, (.int 0 :: .ref a1 :: .ref a2 :: .ref a3 :: .ref a4 :: .ref a5 :: .ref a6 :: .ref a7 :: .int 0 :: .ref a8 :: .int 0 :: .ref a9 :: .ref a10 :: .int 1 :: .ref a11 :: .int 0 :: .ref a12 :: .int 0 :: .int 0 :: .null :: .int 0 :: .int 0 :: .int 0 :: .int 0 :: .ref a13 :: .ref a14 :: .ref a15 :: .int (-1) :: .int 0 :: .int 0 :: .int 0 :: .int 0 :: .int 0 :: .int 0 :: .int 0 :: .ref a16 :: .int 0 :: .ref a17 :: .int 0 :: .ref a18 :: .ref a19 :: .int 0 :: .int 0 :: .int 0 :: .int 0 :: .ref a20 :: .ref a21 :: .ref a22 :: .ref a23 :: .ref a24 :: .ref a25 :: .ref a26 :: .ref a27 :: .ref a28 :: .int 0 :: .ref a29 :: .ref a30 :: .ref a31 :: .long 0 :: .int 0 :: .int 0 :: .int 0 :: .long 0 :: .int 0 :: .ref a32 :: .int 0 :: .int 0 :: .int 0 :: .int 0 :: .ref a33 :: .ref a34 :: .ref a35 :: [])))]) (sz := sz) (mc := 0) (ms := 0) (Qc := fun A => nQi D y (fun r _ => r = (-1)) (fun u => [(a0, .inr (12, (.int 0 :: .ref a1 :: .ref a2 :: .ref a3 :: .ref a4 :: .ref a5 :: .ref a6 :: .ref a7 :: .int 0 :: .ref a8 :: .int 0 :: .ref a9 :: .ref a10 :: .int 1 :: .ref a11 :: .int 0 :: .ref a12 :: .int 0 :: .int 0 :: .null :: .int 0 :: .int 0 :: .int 0 :: .int 0 :: .ref a13 :: .ref a14 :: .ref a15 :: .int (-1) :: .int 0 :: .int 0 :: .int 0 :: .int 0 :: .int 0 :: .int 0 :: .int 0 :: .ref a16 :: .int 0 :: .ref a17 :: .int 0 :: .ref a18 :: .ref a19 :: .int 0 :: .int 0 :: .int 0 :: .int 0 :: .ref a20 :: .ref a21 :: .ref a22 :: .ref a23 :: .ref a24 :: .ref a25 :: .ref a26 :: .ref a27 :: .ref a28 :: .int 0 :: .ref a29 :: .ref a30 :: .ref a31 :: .long 0 :: .int 0 :: .int 0 :: .int 0 :: .long 0 :: .int 0 :: .ref a32 :: .int 0 :: .int 0 :: .int 0 :: .int 0 :: .ref a33 :: .ref a34 :: .ref a35 :: [])))]) A) (cc := cX12_stand) (maxL := 7) (ret := (some .int)) (by decide +kernel) rfl (Nat.le_of_ble_eq_true rfl) ?_
  intro p e s m below meth c A ls H hx hb hr hml hts hown hlocks hnm hsz hP hK hD hA hS hE hAe hl
  replace hl : lv_has ls 7 [(0, .ref a0), (1, .int n0)] := hl
  have hown : s.vm.findClass RX12 = some m.cls := hown
  have w_0 := hts (.fieldLink RX12 127 "SoldToBehindModel" "thrown" "I") (gt_k wd_6_211)
  refine lv_aload_n hx hb dX12_stand_0 rfl (lv_at hl 0 rfl) ?_
  refine lv_iconst (v := 0) hx hb dX12_stand_1 (by decide +kernel) ?_
  refine nb_put (D := D) (ci := 12) (v := .int 0) (ty := .int) (C := RX12) (T := TX12) (N := 72) (ws' := [(a0, .inr (12, (.int 0 :: .ref a1 :: .ref a2 :: .ref a3 :: .ref a4 :: .ref a5 :: .ref a6 :: .ref a7 :: .int 0 :: .ref a8 :: .int 0 :: .ref a9 :: .ref a10 :: .int 1 :: .ref a11 :: .int 0 :: .ref a12 :: .int 0 :: .int 0 :: .null :: .int 0 :: .int 0 :: .int 0 :: .int 0 :: .ref a13 :: .ref a14 :: .ref a15 :: .int (-1) :: .int 0 :: .int 0 :: .int 0 :: .int 0 :: .int 0 :: .int 0 :: .int 0 :: .ref a16 :: .int 0 :: .ref a17 :: .int 0 :: .ref a18 :: .ref a19 :: .int 0 :: .int 0 :: .int 0 :: .int 0 :: .ref a20 :: .ref a21 :: .ref a22 :: .ref a23 :: .ref a24 :: .ref a25 :: .ref a26 :: .ref a27 :: .ref a28 :: .int 0 :: .ref a29 :: .ref a30 :: .ref a31 :: .long 0 :: .int 0 :: .int 0 :: .int 0 :: .long 0 :: .int 0 :: .ref a32 :: .int 0 :: .int 0 :: .int 0 :: .int 0 :: .ref a33 :: .ref a34 :: .ref a35 :: [])))]) hx hb hts (gt_c iG_X12) tyX12 tyX12_ok nmX12 hown hK hP hD hS 0 rfl rfl 18 (by decide +kernel) w_0 (fun _ h9 => h9) rfl (by decide +kernel) rfl rfl (Nat.le_of_ble_eq_true rfl) rfl dX12_stand_2 (fun H locs hP hD hS => ?_)
  refine lv_aload_n hx hb dX12_stand_5 rfl (lv_at hl 0 rfl) ?_
  refine lv_iload_n hx hb dX12_stand_6 rfl (lv_at hl 1 rfl) ?_
  refine nj_i (ws := [(a0, .inr (12, (.int 0 :: .ref a1 :: .ref a2 :: .ref a3 :: .ref a4 :: .ref a5 :: .ref a6 :: .ref a7 :: .int 0 :: .ref a8 :: .int 0 :: .ref a9 :: .ref a10 :: .int 1 :: .ref a11 :: .int 0 :: .ref a12 :: .int 0 :: .int 0 :: .null :: .int 0 :: .int 0 :: .int 0 :: .int 0 :: .ref a13 :: .ref a14 :: .ref a15 :: .int (-1) :: .int 0 :: .int 0 :: .int 0 :: .int 0 :: .int 0 :: .int 0 :: .int 0 :: .ref a16 :: .int 0 :: .ref a17 :: .int 0 :: .ref a18 :: .ref a19 :: .int 0 :: .int 0 :: .int 0 :: .int 0 :: .ref a20 :: .ref a21 :: .ref a22 :: .ref a23 :: .ref a24 :: .ref a25 :: .ref a26 :: .ref a27 :: .ref a28 :: .int 0 :: .ref a29 :: .ref a30 :: .ref a31 :: .long 0 :: .int 0 :: .int 0 :: .int 0 :: .long 0 :: .int 0 :: .ref a32 :: .int 0 :: .int 0 :: .int 0 :: .int 0 :: .ref a33 :: .ref a34 :: .ref a35 :: [])))]) (wc := [(a0, .inr (12, (.int 0 :: .ref a1 :: .ref a2 :: .ref a3 :: .ref a4 :: .ref a5 :: .ref a6 :: .ref a7 :: .int 0 :: .ref a8 :: .int 0 :: .ref a9 :: .ref a10 :: .int 1 :: .ref a11 :: .int 0 :: .ref a12 :: .int 0 :: .int 0 :: .null :: .int 0 :: .int 0 :: .int 0 :: .int 0 :: .ref a13 :: .ref a14 :: .ref a15 :: .int (-1) :: .int 0 :: .int 0 :: .int 0 :: .int 0 :: .int 0 :: .int 0 :: .int 0 :: .ref a16 :: .int 0 :: .ref a17 :: .int 0 :: .ref a18 :: .ref a19 :: .int 0 :: .int 0 :: .int 0 :: .int 0 :: .ref a20 :: .ref a21 :: .ref a22 :: .ref a23 :: .ref a24 :: .ref a25 :: .ref a26 :: .ref a27 :: .ref a28 :: .int 0 :: .ref a29 :: .ref a30 :: .ref a31 :: .long 0 :: .int 0 :: .int 0 :: .int 0 :: .long 0 :: .int 0 :: .ref a32 :: .int 0 :: .int 0 :: .int 0 :: .int 0 :: .ref a33 :: .ref a34 :: .ref a35 :: [])))]) (wr := []) (nr_V (As := [.int n0]) (rest := []) ⟨hx, hb, hml, hown, hts⟩ (cX12_isOne_2 l D y a0 n0 hn0l a1 a2 a3 a4 a5 a6 a7 a8 a9 a10 a11 a12 a13 a14 a15 a16 a17 a18 a19 a20 a21 a22 a23 a24 a25 a26 a27 a28 a29 a30 a31 a32 a33 a34 a35 H.size) (cwV 1 hts gX12_stand_X12_isOne rfl rfl rfl (by decide +kernel) ⟨Nat.le_of_ble_eq_true rfl, Nat.le_of_ble_eq_true rfl⟩) hK hP hD hE [0] rfl (by decide +kernel) 0 12 rfl rfl rfl rfl rfl hl.1 rfl (lv_room (Nat.le_of_ble_eq_true rfl)) dX12_stand_7 ⟨Nat.le_of_ble_eq_true rfl, Nat.le_of_ble_eq_true rfl⟩) hP hD hS hA [0] [] rfl rfl (by decide +kernel) (by decide +kernel) (fun r2 u1 H locs er2 hP hD hS => ?_)
  subst er2
  refine lv_if_eq (tgt := 22) hx hb dX12_stand_10 (by decide +kernel) (fun _ => ?_) (fun c => absurd (by decide +kernel) c)
  refine lv_iconst (v := (-1)) hx hb dX12_stand_22 (by decide +kernel) ?_
  refine W.widen (k := 0) (n := 0) (Nat.le_of_ble_eq_true rfl) (Nat.le_of_ble_eq_true rfl) ?_
  exact W.iret (v := (-1)) hx hb hr (fun t ht hW => ⟨⟨(-1), (fun _ => 0), rfl, rfl, by rw [ht]; exact hP, va_K.moved hW.alike hK, hD⟩, hS.F ht⟩) hS.2.2 dX12_stand_23 hlocks
set_option maxRecDepth 100000 in
set_option maxHeartbeats 4000000 in
theorem cX11_needs_1 (l : Launch) (D : va_G) (y : Nat → ClassId) (a0 : Nat) (n0 : Int32) (a1 : Nat) (a2 : Nat) (a3 : Nat) (a4 : Nat) (a5 : Nat) (a6 : Nat) (a7 : Nat) (a8 : Nat) (a9 : Nat) (a10 : Nat) (a11 : Nat) (a12 : Nat) (a13 : Nat) (a14 : Nat) (a15 : Nat) (a16 : Nat) (a17 : Nat) (a18 : Nat) (a19 : Nat) (a20 : Nat) (a21 : Nat) (sz : Nat) : Met l yX11_needs wsX11_needs { frames := 3, cells := 0, slots := 0, locals := 222 } (nPc D y nT [.ref a0, .int n0] [(a0, .inr (11, [.ref a1, .ref a2, .ref a3, .ref a4, .ref a5, .ref a6, .ref a7, .ref a8, .ref a9, .ref a10, .ref a11, .ref a12, .ref a13, .ref a14, .int 1, .null, .int 0])), (a6, .inr (7, [.ref a15, .ref a16, .ref a17, .ref a18, .int 0, .int 0, .ref a19, .ref a20, .ref a21, .ref a3]))] sz) ((fun A => nQi D y (fun r _ => r = (-1)) (fun u => [(a0, .inr (11, [.ref a1, .ref a2, .ref a3, .ref a4, .ref a5, .ref a6, .ref a7, .ref a8, .ref a9, .ref a10, .ref a11, .ref a12, .ref a13, .ref a14, .int 1, .null, .int 0])), (a6, .inr (7, [.ref a15, .ref a16, .ref a17, .ref a18, .int 0, .int 0, .ref a19, .ref a20, .ref a21, .ref a3]))]) A) (va_A [(a0, .inr (11, [.ref a1, .ref a2, .ref a3, .ref a4, .ref a5, .ref a6, .ref a7, .ref a8, .ref a9, .ref a10, .ref a11, .ref a12, .ref a13, .ref a14, .int 1, .null, .int 0])), (a6, .inr (7, [.ref a15, .ref a16, .ref a17, .ref a18, .int 0, .int 0, .ref a19, .ref a20, .ref a21, .ref a3]))] sz)) 0 0 (va_A [(a0, .inr (11, [.ref a1, .ref a2, .ref a3, .ref a4, .ref a5, .ref a6, .ref a7, .ref a8, .ref a9, .ref a10, .ref a11, .ref a12, .ref a13, .ref a14, .int 1, .null, .int 0])), (a6, .inr (7, [.ref a15, .ref a16, .ref a17, .ref a18, .int 0, .int 0, .ref a19, .ref a20, .ref a21, .ref a3]))] sz) := by
  refine nm_ofW (D := D) (y := y) (E := nT) (yy := yX11_needs) (wsy := wsX11_needs) (rm := { frames := 3, cells := 0, slots := 0, locals := 222 }) (as := [.ref a0, .int n0]) (ws := [(a0, .inr (11, [.ref a1, .ref a2, .ref a3, .ref a4, .ref a5, .ref a6, .ref a7, .ref a8, .ref a9, .ref a10, .ref a11, .ref a12, .ref a13, .ref a14, .int 1, .null, .int 0])), (a6, .inr (7, [.ref a15, .ref a16, .ref a17, .ref a18, .int 0, .int 0, .ref a19, .ref a20, .ref a21, .ref a3]))]) (sz := sz) (mc := 0) (ms := 0) (Qc := fun A => nQi D y (fun r _ => r = (-1)) (fun u => [(a0, .inr (11, [.ref a1, .ref a2, .ref a3, .ref a4, .ref a5, .ref a6, .ref a7, .ref a8, .ref a9, .ref a10, .ref a11, .ref a12, .ref a13, .ref a14, .int 1, .null, .int 0])), (a6, .inr (7, [.ref a15, .ref a16, .ref a17, .ref a18, .int 0, .int 0, .ref a19, .ref a20, .ref a21, .ref a3]))]) A) (cc := cX11_needs) (maxL := 4) (ret := (some .int)) (by decide +kernel) rfl (Nat.le_of_ble_eq_true rfl) ?_
  intro p e s m below meth c A ls H hx hb hr hml hts hown hlocks hnm hsz hP hK hD hA hS hE hAe hl
  replace hl : lv_has ls 4 [(0, .ref a0), (1, .int n0)] := hl
  have hown : s.vm.findClass RX11 = some m.cls := hown
  have w_0 := hts (.fieldLink RX11 49 "SoldToBehind" "now" "LSoldToBehind$Standing;") (gt_k wd_2_103)
  refine lv_aload_n hx hb dX11_needs_0 rfl (lv_at hl 0 rfl) ?_
  refine va_get (D := D) (ci := 11) (v := .ref a6) (C := RX11) (T := TX11) (N := 17) hx hb hts (gt_c iG_X11) hown hK hP 0 rfl rfl 5 (by decide +kernel) w_0 (fun _ h9 => h9) rfl dX11_needs_1 ?_
  refine lv_iload_n hx hb dX11_needs_4 rfl (lv_at hl 1 rfl) ?_
  refine nj_i (ws := [(a0, .inr (11, [.ref a1, .ref a2, .ref a3, .ref a4, .ref a5, .ref a6, .ref a7, .ref a8, .ref a9, .ref a10, .ref a11, .ref a12, .ref a13, .ref a14, .int 1, .null, .int 0])), (a6, .inr (7, [.ref a15, .ref a16, .ref a17, .ref a18, .int 0, .int 0, .ref a19, .ref a20, .ref a21, .ref a3]))]) (wc := [(a6, .inr (7, [.ref a15, .ref a16, .ref a17, .ref a18, .int 0, .int 0, .ref a19, .ref a20, .ref a21, .ref a3]))]) (wr := [(a0, .inr (11, [.ref a1, .ref a2, .ref a3, .ref a4, .ref a5, .ref a6, .ref a7, .ref a8, .ref a9, .ref a10, .ref a11, .ref a12, .ref a13, .ref a14, .int 1, .null, .int 0]))]) (nr_V (As := [.int n0]) (rest := []) ⟨hx, hb, hml, hown, hts⟩ (cX7_placeOf_1 l D y a6 n0 a15 a16 a17 a18 a19 a20 a21 a3 H.size) (cwV 1 hts gX11_needs_X7_placeOf rfl rfl rfl (by decide +kernel) ⟨Nat.le_of_ble_eq_true rfl, Nat.le_of_ble_eq_true rfl⟩) hK hP hD hE [1] rfl (by decide +kernel) 0 7 rfl rfl rfl rfl rfl hl.1 rfl (lv_room (Nat.le_of_ble_eq_true rfl)) dX11_needs_5 ⟨Nat.le_of_ble_eq_true rfl, Nat.le_of_ble_eq_true rfl⟩) hP hD hS hA [1] [0] rfl rfl (by decide +kernel) (by decide +kernel) (fun r2 u1 H locs er2 hP hD hS => ?_)
  subst er2
  refine lv_iconst (v := (-1)) hx hb dX11_needs_8 (by decide +kernel) ?_
  refine lv_icmp_ne (tgt := 14) hx hb dX11_needs_9 (by decide +kernel) (fun c => absurd (by decide +kernel) c) (fun _ => ?_)
  refine lv_iconst (v := (-1)) hx hb dX11_needs_12 (by decide +kernel) ?_
  refine W.widen (k := 0) (n := 0) (Nat.le_of_ble_eq_true rfl) (Nat.le_of_ble_eq_true rfl) ?_
  exact W.iret (v := (-1)) hx hb hr (fun t ht hW => ⟨⟨(-1), (fun _ => 0), rfl, rfl, by rw [ht]; exact hP, va_K.moved hW.alike hK, hD⟩, hS.F ht⟩) hS.2.2 dX11_needs_13 hlocks
set_option maxRecDepth 100000 in
set_option maxHeartbeats 4000000 in
theorem cX12_needs_1 (l : Launch) (D : va_G) (y : Nat → ClassId) (a0 : Nat) (n0 : Int32) (hn0h : n0 ≤ (-1)) (a1 : Nat) (a2 : Nat) (a3 : Nat) (a4 : Nat) (a5 : Nat) (a6 : Nat) (a7 : Nat) (a8 : Nat) (a9 : Nat) (a10 : Nat) (a11 : Nat) (a12 : Nat) (a13 : Nat) (a14 : Nat) (a15 : Nat) (a16 : Nat) (a17 : Nat) (a18 : Nat) (a19 : Nat) (a20 : Nat) (a21 : Nat) (a22 : Nat) (a23 : Nat) (a24 : Nat) (a25 : Nat) (a26 : Nat) (a27 : Nat) (a28 : Nat) (a29 : Nat) (a30 : Nat) (a31 : Nat) (a32 : Nat) (a33 : Nat) (a34 : Nat) (a35 : Nat) (sz : Nat) : Met l yX12_needs wsX12_needs { frames := 5, cells := 0, slots := 0, locals := 267 } (nPc D y nT [.ref a0, .int n0] [(a0, .inr (12, (.int 0 :: .ref a1 :: .ref a2 :: .ref a3 :: .ref a4 :: .ref a5 :: .ref a6 :: .ref a7 :: .int 0 :: .ref a8 :: .int 0 :: .ref a9 :: .ref a10 :: .int 1 :: .ref a11 :: .int 0 :: .ref a12 :: .int 0 :: .int 0 :: .null :: .int 0 :: .int 0 :: .int 0 :: .int 0 :: .ref a13 :: .ref a14 :: .ref a15 :: .int (-1) :: .int 0 :: .int 0 :: .int 0 :: .int 0 :: .int 0 :: .int 0 :: .int 0 :: .ref a16 :: .int 0 :: .ref a17 :: .int 0 :: .ref a18 :: .ref a19 :: .int 0 :: .int 0 :: .int 0 :: .int 0 :: .ref a20 :: .ref a21 :: .ref a22 :: .ref a23 :: .ref a24 :: .ref a25 :: .ref a26 :: .ref a27 :: .ref a28 :: .int 0 :: .ref a29 :: .ref a30 :: .ref a31 :: .long 0 :: .int 0 :: .int 0 :: .int 0 :: .long 0 :: .int 0 :: .ref a32 :: .int 0 :: .int 0 :: .int 0 :: .int 0 :: .ref a33 :: .ref a34 :: .ref a35 :: [])))] sz) ((fun A => nQi D y (fun r _ => r = (-1)) (fun u => [(a0, .inr (12, (.int 0 :: .ref a1 :: .ref a2 :: .ref a3 :: .ref a4 :: .ref a5 :: .ref a6 :: .ref a7 :: .int 0 :: .ref a8 :: .int 0 :: .ref a9 :: .ref a10 :: .int 1 :: .ref a11 :: .int 0 :: .ref a12 :: .int 0 :: .int 0 :: .null :: .int 0 :: .int 0 :: .int 0 :: .int 0 :: .ref a13 :: .ref a14 :: .ref a15 :: .int (-1) :: .int 0 :: .int 0 :: .int 0 :: .int 0 :: .int 0 :: .int 0 :: .int 0 :: .ref a16 :: .int 0 :: .ref a17 :: .int 0 :: .ref a18 :: .ref a19 :: .int 0 :: .int 0 :: .int 0 :: .int 0 :: .ref a20 :: .ref a21 :: .ref a22 :: .ref a23 :: .ref a24 :: .ref a25 :: .ref a26 :: .ref a27 :: .ref a28 :: .int 0 :: .ref a29 :: .ref a30 :: .ref a31 :: .long 0 :: .int 0 :: .int 0 :: .int 0 :: .long 0 :: .int 0 :: .ref a32 :: .int 0 :: .int 0 :: .int 0 :: .int 0 :: .ref a33 :: .ref a34 :: .ref a35 :: [])))]) A) (va_A [(a0, .inr (12, (.int 0 :: .ref a1 :: .ref a2 :: .ref a3 :: .ref a4 :: .ref a5 :: .ref a6 :: .ref a7 :: .int 0 :: .ref a8 :: .int 0 :: .ref a9 :: .ref a10 :: .int 1 :: .ref a11 :: .int 0 :: .ref a12 :: .int 0 :: .int 0 :: .null :: .int 0 :: .int 0 :: .int 0 :: .int 0 :: .ref a13 :: .ref a14 :: .ref a15 :: .int (-1) :: .int 0 :: .int 0 :: .int 0 :: .int 0 :: .int 0 :: .int 0 :: .int 0 :: .ref a16 :: .int 0 :: .ref a17 :: .int 0 :: .ref a18 :: .ref a19 :: .int 0 :: .int 0 :: .int 0 :: .int 0 :: .ref a20 :: .ref a21 :: .ref a22 :: .ref a23 :: .ref a24 :: .ref a25 :: .ref a26 :: .ref a27 :: .ref a28 :: .int 0 :: .ref a29 :: .ref a30 :: .ref a31 :: .long 0 :: .int 0 :: .int 0 :: .int 0 :: .long 0 :: .int 0 :: .ref a32 :: .int 0 :: .int 0 :: .int 0 :: .int 0 :: .ref a33 :: .ref a34 :: .ref a35 :: [])))] sz)) 0 0 (va_A [(a0, .inr (12, (.int 0 :: .ref a1 :: .ref a2 :: .ref a3 :: .ref a4 :: .ref a5 :: .ref a6 :: .ref a7 :: .int 0 :: .ref a8 :: .int 0 :: .ref a9 :: .ref a10 :: .int 1 :: .ref a11 :: .int 0 :: .ref a12 :: .int 0 :: .int 0 :: .null :: .int 0 :: .int 0 :: .int 0 :: .int 0 :: .ref a13 :: .ref a14 :: .ref a15 :: .int (-1) :: .int 0 :: .int 0 :: .int 0 :: .int 0 :: .int 0 :: .int 0 :: .int 0 :: .ref a16 :: .int 0 :: .ref a17 :: .int 0 :: .ref a18 :: .ref a19 :: .int 0 :: .int 0 :: .int 0 :: .int 0 :: .ref a20 :: .ref a21 :: .ref a22 :: .ref a23 :: .ref a24 :: .ref a25 :: .ref a26 :: .ref a27 :: .ref a28 :: .int 0 :: .ref a29 :: .ref a30 :: .ref a31 :: .long 0 :: .int 0 :: .int 0 :: .int 0 :: .long 0 :: .int 0 :: .ref a32 :: .int 0 :: .int 0 :: .int 0 :: .int 0 :: .ref a33 :: .ref a34 :: .ref a35 :: [])))] sz) := by
  refine nm_ofW (D := D) (y := y) (E := nT) (yy := yX12_needs) (wsy := wsX12_needs) (rm := { frames := 5, cells := 0, slots := 0, locals := 267 }) (as := [.ref a0, .int n0]) (ws := [(a0, .inr (12, (.int 0 :: .ref a1 :: .ref a2 :: .ref a3 :: .ref a4 :: .ref a5 :: .ref a6 :: .ref a7 :: .int 0 :: .ref a8 :: .int 0 :: .ref a9 :: .ref a10 :: .int 1 :: .ref a11 :: .int 0 :: .ref a12 :: .int 0 :: .int 0 :: .null :: .int 0 :: .int 0 :: .int 0 :: .int 0 :: .ref a13 :: .ref a14 :: .ref a15 :: .int (-1) :: .int 0 :: .int 0 :: .int 0 :: .int 0 :: .int 0 :: .int 0 :: .int 0 :: .ref a16 :: .int 0 :: .ref a17 :: .int 0 :: .ref a18 :: .ref a19 :: .int 0 :: .int 0 :: .int 0 :: .int 0 :: .ref a20 :: .ref a21 :: .ref a22 :: .ref a23 :: .ref a24 :: .ref a25 :: .ref a26 :: .ref a27 :: .ref a28 :: .int 0 :: .ref a29 :: .ref a30 :: .ref a31 :: .long 0 :: .int 0 :: .int 0 :: .int 0 :: .long 0 :: .int 0 :: .ref a32 :: .int 0 :: .int 0 :: .int 0 :: .int 0 :: .ref a33 :: .ref a34 :: .ref a35 :: [])))]) (sz := sz) (mc := 0) (ms := 0) (Qc := fun A => nQi D y (fun r _ => r = (-1)) (fun u => [(a0, .inr (12, (.int 0 :: .ref a1 :: .ref a2 :: .ref a3 :: .ref a4 :: .ref a5 :: .ref a6 :: .ref a7 :: .int 0 :: .ref a8 :: .int 0 :: .ref a9 :: .ref a10 :: .int 1 :: .ref a11 :: .int 0 :: .ref a12 :: .int 0 :: .int 0 :: .null :: .int 0 :: .int 0 :: .int 0 :: .int 0 :: .ref a13 :: .ref a14 :: .ref a15 :: .int (-1) :: .int 0 :: .int 0 :: .int 0 :: .int 0 :: .int 0 :: .int 0 :: .int 0 :: .ref a16 :: .int 0 :: .ref a17 :: .int 0 :: .ref a18 :: .ref a19 :: .int 0 :: .int 0 :: .int 0 :: .int 0 :: .ref a20 :: .ref a21 :: .ref a22 :: .ref a23 :: .ref a24 :: .ref a25 :: .ref a26 :: .ref a27 :: .ref a28 :: .int 0 :: .ref a29 :: .ref a30 :: .ref a31 :: .long 0 :: .int 0 :: .int 0 :: .int 0 :: .long 0 :: .int 0 :: .ref a32 :: .int 0 :: .int 0 :: .int 0 :: .int 0 :: .ref a33 :: .ref a34 :: .ref a35 :: [])))]) A) (cc := cX12_needs) (maxL := 5) (ret := (some .int)) (by decide +kernel) rfl (Nat.le_of_ble_eq_true rfl) ?_
  intro p e s m below meth c A ls H hx hb hr hml hts hown hlocks hnm hsz hP hK hD hA hS hE hAe hl
  replace hl : lv_has ls 5 [(0, .ref a0), (1, .int n0)] := hl
  have hown : s.vm.findClass RX12 = some m.cls := hown
  have w_0 := hts (.fieldLink RX12 127 "SoldToBehindModel" "thrown" "I") (gt_k wd_6_211)
  refine lv_aload_n hx hb dX12_needs_0 rfl (lv_at hl 0 rfl) ?_
  refine lv_iconst (v := 0) hx hb dX12_needs_1 (by decide +kernel) ?_
  refine nb_put (D := D) (ci := 12) (v := .int 0) (ty := .int) (C := RX12) (T := TX12) (N := 72) (ws' := [(a0, .inr (12, (.int 0 :: .ref a1 :: .ref a2 :: .ref a3 :: .ref a4 :: .ref a5 :: .ref a6 :: .ref a7 :: .int 0 :: .ref a8 :: .int 0 :: .ref a9 :: .ref a10 :: .int 1 :: .ref a11 :: .int 0 :: .ref a12 :: .int 0 :: .int 0 :: .null :: .int 0 :: .int 0 :: .int 0 :: .int 0 :: .ref a13 :: .ref a14 :: .ref a15 :: .int (-1) :: .int 0 :: .int 0 :: .int 0 :: .int 0 :: .int 0 :: .int 0 :: .int 0 :: .ref a16 :: .int 0 :: .ref a17 :: .int 0 :: .ref a18 :: .ref a19 :: .int 0 :: .int 0 :: .int 0 :: .int 0 :: .ref a20 :: .ref a21 :: .ref a22 :: .ref a23 :: .ref a24 :: .ref a25 :: .ref a26 :: .ref a27 :: .ref a28 :: .int 0 :: .ref a29 :: .ref a30 :: .ref a31 :: .long 0 :: .int 0 :: .int 0 :: .int 0 :: .long 0 :: .int 0 :: .ref a32 :: .int 0 :: .int 0 :: .int 0 :: .int 0 :: .ref a33 :: .ref a34 :: .ref a35 :: [])))]) hx hb hts (gt_c iG_X12) tyX12 tyX12_ok nmX12 hown hK hP hD hS 0 rfl rfl 18 (by decide +kernel) w_0 (fun _ h9 => h9) rfl (by decide +kernel) rfl rfl (Nat.le_of_ble_eq_true rfl) rfl dX12_needs_2 (fun H locs hP hD hS => ?_)
  refine lv_aload_n hx hb dX12_needs_5 rfl (lv_at hl 0 rfl) ?_
  refine lv_iload_n hx hb dX12_needs_6 rfl (lv_at hl 1 rfl) ?_
  refine nj_i (ws := [(a0, .inr (12, (.int 0 :: .ref a1 :: .ref a2 :: .ref a3 :: .ref a4 :: .ref a5 :: .ref a6 :: .ref a7 :: .int 0 :: .ref a8 :: .int 0 :: .ref a9 :: .ref a10 :: .int 1 :: .ref a11 :: .int 0 :: .ref a12 :: .int 0 :: .int 0 :: .null :: .int 0 :: .int 0 :: .int 0 :: .int 0 :: .ref a13 :: .ref a14 :: .ref a15 :: .int (-1) :: .int 0 :: .int 0 :: .int 0 :: .int 0 :: .int 0 :: .int 0 :: .int 0 :: .ref a16 :: .int 0 :: .ref a17 :: .int 0 :: .ref a18 :: .ref a19 :: .int 0 :: .int 0 :: .int 0 :: .int 0 :: .ref a20 :: .ref a21 :: .ref a22 :: .ref a23 :: .ref a24 :: .ref a25 :: .ref a26 :: .ref a27 :: .ref a28 :: .int 0 :: .ref a29 :: .ref a30 :: .ref a31 :: .long 0 :: .int 0 :: .int 0 :: .int 0 :: .long 0 :: .int 0 :: .ref a32 :: .int 0 :: .int 0 :: .int 0 :: .int 0 :: .ref a33 :: .ref a34 :: .ref a35 :: [])))]) (wc := [(a0, .inr (12, (.int 0 :: .ref a1 :: .ref a2 :: .ref a3 :: .ref a4 :: .ref a5 :: .ref a6 :: .ref a7 :: .int 0 :: .ref a8 :: .int 0 :: .ref a9 :: .ref a10 :: .int 1 :: .ref a11 :: .int 0 :: .ref a12 :: .int 0 :: .int 0 :: .null :: .int 0 :: .int 0 :: .int 0 :: .int 0 :: .ref a13 :: .ref a14 :: .ref a15 :: .int (-1) :: .int 0 :: .int 0 :: .int 0 :: .int 0 :: .int 0 :: .int 0 :: .int 0 :: .ref a16 :: .int 0 :: .ref a17 :: .int 0 :: .ref a18 :: .ref a19 :: .int 0 :: .int 0 :: .int 0 :: .int 0 :: .ref a20 :: .ref a21 :: .ref a22 :: .ref a23 :: .ref a24 :: .ref a25 :: .ref a26 :: .ref a27 :: .ref a28 :: .int 0 :: .ref a29 :: .ref a30 :: .ref a31 :: .long 0 :: .int 0 :: .int 0 :: .int 0 :: .long 0 :: .int 0 :: .ref a32 :: .int 0 :: .int 0 :: .int 0 :: .int 0 :: .ref a33 :: .ref a34 :: .ref a35 :: [])))]) (wr := []) (nr_V (As := [.int n0]) (rest := []) ⟨hx, hb, hml, hown, hts⟩ (cX12_isInLine_1 l D y a0 n0 hn0h a1 a2 a3 a4 a5 a6 a7 a8 a9 a10 a11 a12 a13 a14 a15 a16 a17 a18 a19 a20 a21 a22 a23 a24 a25 a26 a27 a28 a29 a30 a31 a32 a33 a34 a35 H.size) (cwV 1 hts gX12_needs_X12_isInLine rfl rfl rfl (by decide +kernel) ⟨Nat.le_of_ble_eq_true rfl, Nat.le_of_ble_eq_true rfl⟩) hK hP hD hE [0] rfl (by decide +kernel) 0 12 rfl rfl rfl rfl rfl hl.1 rfl (lv_room (Nat.le_of_ble_eq_true rfl)) dX12_needs_7 ⟨Nat.le_of_ble_eq_true rfl, Nat.le_of_ble_eq_true rfl⟩) hP hD hS hA [0] [] rfl rfl (by decide +kernel) (by decide +kernel) (fun r2 u1 H locs er2 hP hD hS => ?_)
  subst er2
  refine lv_if_ne (tgt := 15) hx hb dX12_needs_10 (by decide +kernel) (fun c => absurd (by decide +kernel) c) (fun _ => ?_)
  refine lv_iconst (v := (-1)) hx hb dX12_needs_13 (by decide +kernel) ?_
  refine W.widen (k := 0) (n := 0) (Nat.le_of_ble_eq_true rfl) (Nat.le_of_ble_eq_true rfl) ?_
  exact W.iret (v := (-1)) hx hb hr (fun t ht hW => ⟨⟨(-1), (fun _ => 0), rfl, rfl, by rw [ht]; exact hP, va_K.moved hW.alike hK, hD⟩, hS.F ht⟩) hS.2.2 dX12_needs_14 hlocks
set_option maxRecDepth 100000 in
set_option maxHeartbeats 4000000 in
theorem cX12_needs_2 (l : Launch) (D : va_G) (y : Nat → ClassId) (a0 : Nat) (n0 : Int32) (hn0l : 0 ≤ n0) (a1 : Nat) (a2 : Nat) (a3 : Nat) (a4 : Nat) (a5 : Nat) (a6 : Nat) (a7 : Nat) (a8 : Nat) (a9 : Nat) (a10 : Nat) (a11 : Nat) (a12 : Nat) (a13 : Nat) (a14 : Nat) (a15 : Nat) (a16 : Nat) (a17 : Nat) (a18 : Nat) (a19 : Nat) (a20 : Nat) (a21 : Nat) (a22 : Nat) (a23 : Nat) (a24 : Nat) (a25 : Nat) (a26 : Nat) (a27 : Nat) (a28 : Nat) (a29 : Nat) (a30 : Nat) (a31 : Nat) (a32 : Nat) (a33 : Nat) (a34 : Nat) (a35 : Nat) (sz : Nat) : Met l yX12_needs wsX12_needs { frames := 5, cells := 0, slots := 0, locals := 267 } (nPc D y nT [.ref a0, .int n0] [(a0, .inr (12, (.int 0 :: .ref a1 :: .ref a2 :: .ref a3 :: .ref a4 :: .ref a5 :: .ref a6 :: .ref a7 :: .int 0 :: .ref a8 :: .int 0 :: .ref a9 :: .ref a10 :: .int 1 :: .ref a11 :: .int 0 :: .ref a12 :: .int 0 :: .int 0 :: .null :: .int 0 :: .int 0 :: .int 0 :: .int 0 :: .ref a13 :: .ref a14 :: .ref a15 :: .int (-1) :: .int 0 :: .int 0 :: .int 0 :: .int 0 :: .int 0 :: .int 0 :: .int 0 :: .ref a16 :: .int 0 :: .ref a17 :: .int 0 :: .ref a18 :: .ref a19 :: .int 0 :: .int 0 :: .int 0 :: .int 0 :: .ref a20 :: .ref a21 :: .ref a22 :: .ref a23 :: .ref a24 :: .ref a25 :: .ref a26 :: .ref a27 :: .ref a28 :: .int 0 :: .ref a29 :: .ref a30 :: .ref a31 :: .long 0 :: .int 0 :: .int 0 :: .int 0 :: .long 0 :: .int 0 :: .ref a32 :: .int 0 :: .int 0 :: .int 0 :: .int 0 :: .ref a33 :: .ref a34 :: .ref a35 :: [])))] sz) ((fun A => nQi D y (fun r _ => r = (-1)) (fun u => [(a0, .inr (12, (.int 0 :: .ref a1 :: .ref a2 :: .ref a3 :: .ref a4 :: .ref a5 :: .ref a6 :: .ref a7 :: .int 0 :: .ref a8 :: .int 0 :: .ref a9 :: .ref a10 :: .int 1 :: .ref a11 :: .int 0 :: .ref a12 :: .int 0 :: .int 0 :: .null :: .int 0 :: .int 0 :: .int 0 :: .int 0 :: .ref a13 :: .ref a14 :: .ref a15 :: .int (-1) :: .int 0 :: .int 0 :: .int 0 :: .int 0 :: .int 0 :: .int 0 :: .int 0 :: .ref a16 :: .int 0 :: .ref a17 :: .int 0 :: .ref a18 :: .ref a19 :: .int 0 :: .int 0 :: .int 0 :: .int 0 :: .ref a20 :: .ref a21 :: .ref a22 :: .ref a23 :: .ref a24 :: .ref a25 :: .ref a26 :: .ref a27 :: .ref a28 :: .int 0 :: .ref a29 :: .ref a30 :: .ref a31 :: .long 0 :: .int 0 :: .int 0 :: .int 0 :: .long 0 :: .int 0 :: .ref a32 :: .int 0 :: .int 0 :: .int 0 :: .int 0 :: .ref a33 :: .ref a34 :: .ref a35 :: [])))]) A) (va_A [(a0, .inr (12, (.int 0 :: .ref a1 :: .ref a2 :: .ref a3 :: .ref a4 :: .ref a5 :: .ref a6 :: .ref a7 :: .int 0 :: .ref a8 :: .int 0 :: .ref a9 :: .ref a10 :: .int 1 :: .ref a11 :: .int 0 :: .ref a12 :: .int 0 :: .int 0 :: .null :: .int 0 :: .int 0 :: .int 0 :: .int 0 :: .ref a13 :: .ref a14 :: .ref a15 :: .int (-1) :: .int 0 :: .int 0 :: .int 0 :: .int 0 :: .int 0 :: .int 0 :: .int 0 :: .ref a16 :: .int 0 :: .ref a17 :: .int 0 :: .ref a18 :: .ref a19 :: .int 0 :: .int 0 :: .int 0 :: .int 0 :: .ref a20 :: .ref a21 :: .ref a22 :: .ref a23 :: .ref a24 :: .ref a25 :: .ref a26 :: .ref a27 :: .ref a28 :: .int 0 :: .ref a29 :: .ref a30 :: .ref a31 :: .long 0 :: .int 0 :: .int 0 :: .int 0 :: .long 0 :: .int 0 :: .ref a32 :: .int 0 :: .int 0 :: .int 0 :: .int 0 :: .ref a33 :: .ref a34 :: .ref a35 :: [])))] sz)) 0 0 (va_A [(a0, .inr (12, (.int 0 :: .ref a1 :: .ref a2 :: .ref a3 :: .ref a4 :: .ref a5 :: .ref a6 :: .ref a7 :: .int 0 :: .ref a8 :: .int 0 :: .ref a9 :: .ref a10 :: .int 1 :: .ref a11 :: .int 0 :: .ref a12 :: .int 0 :: .int 0 :: .null :: .int 0 :: .int 0 :: .int 0 :: .int 0 :: .ref a13 :: .ref a14 :: .ref a15 :: .int (-1) :: .int 0 :: .int 0 :: .int 0 :: .int 0 :: .int 0 :: .int 0 :: .int 0 :: .ref a16 :: .int 0 :: .ref a17 :: .int 0 :: .ref a18 :: .ref a19 :: .int 0 :: .int 0 :: .int 0 :: .int 0 :: .ref a20 :: .ref a21 :: .ref a22 :: .ref a23 :: .ref a24 :: .ref a25 :: .ref a26 :: .ref a27 :: .ref a28 :: .int 0 :: .ref a29 :: .ref a30 :: .ref a31 :: .long 0 :: .int 0 :: .int 0 :: .int 0 :: .long 0 :: .int 0 :: .ref a32 :: .int 0 :: .int 0 :: .int 0 :: .int 0 :: .ref a33 :: .ref a34 :: .ref a35 :: [])))] sz) := by
  refine nm_ofW (D := D) (y := y) (E := nT) (yy := yX12_needs) (wsy := wsX12_needs) (rm := { frames := 5, cells := 0, slots := 0, locals := 267 }) (as := [.ref a0, .int n0]) (ws := [(a0, .inr (12, (.int 0 :: .ref a1 :: .ref a2 :: .ref a3 :: .ref a4 :: .ref a5 :: .ref a6 :: .ref a7 :: .int 0 :: .ref a8 :: .int 0 :: .ref a9 :: .ref a10 :: .int 1 :: .ref a11 :: .int 0 :: .ref a12 :: .int 0 :: .int 0 :: .null :: .int 0 :: .int 0 :: .int 0 :: .int 0 :: .ref a13 :: .ref a14 :: .ref a15 :: .int (-1) :: .int 0 :: .int 0 :: .int 0 :: .int 0 :: .int 0 :: .int 0 :: .int 0 :: .ref a16 :: .int 0 :: .ref a17 :: .int 0 :: .ref a18 :: .ref a19 :: .int 0 :: .int 0 :: .int 0 :: .int 0 :: .ref a20 :: .ref a21 :: .ref a22 :: .ref a23 :: .ref a24 :: .ref a25 :: .ref a26 :: .ref a27 :: .ref a28 :: .int 0 :: .ref a29 :: .ref a30 :: .ref a31 :: .long 0 :: .int 0 :: .int 0 :: .int 0 :: .long 0 :: .int 0 :: .ref a32 :: .int 0 :: .int 0 :: .int 0 :: .int 0 :: .ref a33 :: .ref a34 :: .ref a35 :: [])))]) (sz := sz) (mc := 0) (ms := 0) (Qc := fun A => nQi D y (fun r _ => r = (-1)) (fun u => [(a0, .inr (12, (.int 0 :: .ref a1 :: .ref a2 :: .ref a3 :: .ref a4 :: .ref a5 :: .ref a6 :: .ref a7 :: .int 0 :: .ref a8 :: .int 0 :: .ref a9 :: .ref a10 :: .int 1 :: .ref a11 :: .int 0 :: .ref a12 :: .int 0 :: .int 0 :: .null :: .int 0 :: .int 0 :: .int 0 :: .int 0 :: .ref a13 :: .ref a14 :: .ref a15 :: .int (-1) :: .int 0 :: .int 0 :: .int 0 :: .int 0 :: .int 0 :: .int 0 :: .int 0 :: .ref a16 :: .int 0 :: .ref a17 :: .int 0 :: .ref a18 :: .ref a19 :: .int 0 :: .int 0 :: .int 0 :: .int 0 :: .ref a20 :: .ref a21 :: .ref a22 :: .ref a23 :: .ref a24 :: .ref a25 :: .ref a26 :: .ref a27 :: .ref a28 :: .int 0 :: .ref a29 :: .ref a30 :: .ref a31 :: .long 0 :: .int 0 :: .int 0 :: .int 0 :: .long 0 :: .int 0 :: .ref a32 :: .int 0 :: .int 0 :: .int 0 :: .int 0 :: .ref a33 :: .ref a34 :: .ref a35 :: [])))]) A) (cc := cX12_needs) (maxL := 5) (ret := (some .int)) (by decide +kernel) rfl (Nat.le_of_ble_eq_true rfl) ?_
  intro p e s m below meth c A ls H hx hb hr hml hts hown hlocks hnm hsz hP hK hD hA hS hE hAe hl
  replace hl : lv_has ls 5 [(0, .ref a0), (1, .int n0)] := hl
  have hown : s.vm.findClass RX12 = some m.cls := hown
  have w_0 := hts (.fieldLink RX12 127 "SoldToBehindModel" "thrown" "I") (gt_k wd_6_211)
  refine lv_aload_n hx hb dX12_needs_0 rfl (lv_at hl 0 rfl) ?_
  refine lv_iconst (v := 0) hx hb dX12_needs_1 (by decide +kernel) ?_
  refine nb_put (D := D) (ci := 12) (v := .int 0) (ty := .int) (C := RX12) (T := TX12) (N := 72) (ws' := [(a0, .inr (12, (.int 0 :: .ref a1 :: .ref a2 :: .ref a3 :: .ref a4 :: .ref a5 :: .ref a6 :: .ref a7 :: .int 0 :: .ref a8 :: .int 0 :: .ref a9 :: .ref a10 :: .int 1 :: .ref a11 :: .int 0 :: .ref a12 :: .int 0 :: .int 0 :: .null :: .int 0 :: .int 0 :: .int 0 :: .int 0 :: .ref a13 :: .ref a14 :: .ref a15 :: .int (-1) :: .int 0 :: .int 0 :: .int 0 :: .int 0 :: .int 0 :: .int 0 :: .int 0 :: .ref a16 :: .int 0 :: .ref a17 :: .int 0 :: .ref a18 :: .ref a19 :: .int 0 :: .int 0 :: .int 0 :: .int 0 :: .ref a20 :: .ref a21 :: .ref a22 :: .ref a23 :: .ref a24 :: .ref a25 :: .ref a26 :: .ref a27 :: .ref a28 :: .int 0 :: .ref a29 :: .ref a30 :: .ref a31 :: .long 0 :: .int 0 :: .int 0 :: .int 0 :: .long 0 :: .int 0 :: .ref a32 :: .int 0 :: .int 0 :: .int 0 :: .int 0 :: .ref a33 :: .ref a34 :: .ref a35 :: [])))]) hx hb hts (gt_c iG_X12) tyX12 tyX12_ok nmX12 hown hK hP hD hS 0 rfl rfl 18 (by decide +kernel) w_0 (fun _ h9 => h9) rfl (by decide +kernel) rfl rfl (Nat.le_of_ble_eq_true rfl) rfl dX12_needs_2 (fun H locs hP hD hS => ?_)
  refine lv_aload_n hx hb dX12_needs_5 rfl (lv_at hl 0 rfl) ?_
  refine lv_iload_n hx hb dX12_needs_6 rfl (lv_at hl 1 rfl) ?_
  refine nj_i (ws := [(a0, .inr (12, (.int 0 :: .ref a1 :: .ref a2 :: .ref a3 :: .ref a4 :: .ref a5 :: .ref a6 :: .ref a7 :: .int 0 :: .ref a8 :: .int 0 :: .ref a9 :: .ref a10 :: .int 1 :: .ref a11 :: .int 0 :: .ref a12 :: .int 0 :: .int 0 :: .null :: .int 0 :: .int 0 :: .int 0 :: .int 0 :: .ref a13 :: .ref a14 :: .ref a15 :: .int (-1) :: .int 0 :: .int 0 :: .int 0 :: .int 0 :: .int 0 :: .int 0 :: .int 0 :: .ref a16 :: .int 0 :: .ref a17 :: .int 0 :: .ref a18 :: .ref a19 :: .int 0 :: .int 0 :: .int 0 :: .int 0 :: .ref a20 :: .ref a21 :: .ref a22 :: .ref a23 :: .ref a24 :: .ref a25 :: .ref a26 :: .ref a27 :: .ref a28 :: .int 0 :: .ref a29 :: .ref a30 :: .ref a31 :: .long 0 :: .int 0 :: .int 0 :: .int 0 :: .long 0 :: .int 0 :: .ref a32 :: .int 0 :: .int 0 :: .int 0 :: .int 0 :: .ref a33 :: .ref a34 :: .ref a35 :: [])))]) (wc := [(a0, .inr (12, (.int 0 :: .ref a1 :: .ref a2 :: .ref a3 :: .ref a4 :: .ref a5 :: .ref a6 :: .ref a7 :: .int 0 :: .ref a8 :: .int 0 :: .ref a9 :: .ref a10 :: .int 1 :: .ref a11 :: .int 0 :: .ref a12 :: .int 0 :: .int 0 :: .null :: .int 0 :: .int 0 :: .int 0 :: .int 0 :: .ref a13 :: .ref a14 :: .ref a15 :: .int (-1) :: .int 0 :: .int 0 :: .int 0 :: .int 0 :: .int 0 :: .int 0 :: .int 0 :: .ref a16 :: .int 0 :: .ref a17 :: .int 0 :: .ref a18 :: .ref a19 :: .int 0 :: .int 0 :: .int 0 :: .int 0 :: .ref a20 :: .ref a21 :: .ref a22 :: .ref a23 :: .ref a24 :: .ref a25 :: .ref a26 :: .ref a27 :: .ref a28 :: .int 0 :: .ref a29 :: .ref a30 :: .ref a31 :: .long 0 :: .int 0 :: .int 0 :: .int 0 :: .long 0 :: .int 0 :: .ref a32 :: .int 0 :: .int 0 :: .int 0 :: .int 0 :: .ref a33 :: .ref a34 :: .ref a35 :: [])))]) (wr := []) (nr_V (As := [.int n0]) (rest := []) ⟨hx, hb, hml, hown, hts⟩ (cX12_isInLine_2 l D y a0 n0 hn0l a1 a2 a3 a4 a5 a6 a7 a8 a9 a10 a11 a12 a13 a14 a15 a16 a17 a18 a19 a20 a21 a22 a23 a24 a25 a26 a27 a28 a29 a30 a31 a32 a33 a34 a35 H.size) (cwV 1 hts gX12_needs_X12_isInLine rfl rfl rfl (by decide +kernel) ⟨Nat.le_of_ble_eq_true rfl, Nat.le_of_ble_eq_true rfl⟩) hK hP hD hE [0] rfl (by decide +kernel) 0 12 rfl rfl rfl rfl rfl hl.1 rfl (lv_room (Nat.le_of_ble_eq_true rfl)) dX12_needs_7 ⟨Nat.le_of_ble_eq_true rfl, Nat.le_of_ble_eq_true rfl⟩) hP hD hS hA [0] [] rfl rfl (by decide +kernel) (by decide +kernel) (fun r2 u1 H locs er2 hP hD hS => ?_)
  subst er2
  refine lv_if_ne (tgt := 15) hx hb dX12_needs_10 (by decide +kernel) (fun c => absurd (by decide +kernel) c) (fun _ => ?_)
  refine lv_iconst (v := (-1)) hx hb dX12_needs_13 (by decide +kernel) ?_
  refine W.widen (k := 0) (n := 0) (Nat.le_of_ble_eq_true rfl) (Nat.le_of_ble_eq_true rfl) ?_
  exact W.iret (v := (-1)) hx hb hr (fun t ht hW => ⟨⟨(-1), (fun _ => 0), rfl, rfl, by rw [ht]; exact hP, va_K.moved hW.alike hK, hD⟩, hS.F ht⟩) hS.2.2 dX12_needs_14 hlocks
set_option maxRecDepth 100000 in
set_option maxHeartbeats 4000000 in
theorem cX2_init_2 (l : Launch) (D : va_G) (y : Nat → ClassId) (a0 : Nat) (sz : Nat) : Met l yX2_init wsX2_init { frames := 2, cells := 4, slots := 8004, locals := 200 } (nPc D y nT [.ref a0, .int 2001] [(a0, .inr (2, [.null, .null, .null, .null]))] sz) ((fun A => nQv D y (fun _ => True) (fun u => [(a0, .inr (2, [.ref (u 0), .ref (u 1), .ref (u 2), .ref (u 3)])), ((u 0), .inl (y 0, 2001, .inl nz)), ((u 1), .inl (y 1, 2001, .inr (.inl nzl))), ((u 2), .inl (y 1, 2001, .inr (.inl nzl))), ((u 3), .inl (y 1, 2001, .inr (.inl nzl)))]) A) (va_A [(a0, .inr (2, [.null, .null, .null, .null]))] sz)) 4 8004 (va_A [(a0, .inr (2, [.null, .null, .null, .null]))] sz) := by
  refine nm_ofW (D := D) (y := y) (E := nT) (yy := yX2_init) (wsy := wsX2_init) (rm := { frames := 2, cells := 4, slots := 8004, locals := 200 }) (as := [.ref a0, .int 2001]) (ws := [(a0, .inr (2, [.null, .null, .null, .null]))]) (sz := sz) (mc := 4) (ms := 8004) (Qc := fun A => nQv D y (fun _ => True) (fun u => [(a0, .inr (2, [.ref (u 0), .ref (u 1), .ref (u 2), .ref (u 3)])), ((u 0), .inl (y 0, 2001, .inl nz)), ((u 1), .inl (y 1, 2001, .inr (.inl nzl))), ((u 2), .inl (y 1, 2001, .inr (.inl nzl))), ((u 3), .inl (y 1, 2001, .inr (.inl nzl)))]) A) (cc := cX2_init) (maxL := 2) (ret := none) (by decide +kernel) rfl (Nat.le_of_ble_eq_true rfl) ?_
  intro p e s m below meth c A ls H hx hb hr hml hts hown hlocks hnm hsz hP hK hD hA hS hE hAe hl
  replace hl : lv_has ls 2 [(0, .ref a0), (1, .int 2001)] := hl
  have hown : s.vm.findClass RX2 = some m.cls := hown
  have w_0 := hts (.methodLink RX2 3 objectInit) (gt_k wd_2_25)
  have w_1 := hts (.instanceMethod objectInit) (gt_k wd_1_33)
  have w_2 := hts (.code objectInit ⟨#[0xb1]⟩ 1 none) (gt_k wd_1_34)
  have w_3 := hts (.arrayClass .int) (gt_k wd_1_53)
  have w_4 := hts (.fieldLink RX2 9 "SoldToBehind$Packed" "code" "[I") (gt_k wd_2_26)
  have w_5 := hts (.arrayClass .long) (gt_k wd_1_71)
  have w_6 := hts (.fieldLink RX2 15 "SoldToBehind$Packed" "low" "[J") (gt_k wd_2_29)
  have w_7 := hts (.fieldLink RX2 19 "SoldToBehind$Packed" "high" "[J") (gt_k wd_2_30)
  have w_8 := hts (.fieldLink RX2 22 "SoldToBehind$Packed" "sales" "[J") (gt_k wd_2_31)
  refine lv_aload_n hx hb dX2_init_0 rfl (lv_at hl 0 rfl) ?_
  refine W.objInit hx hb hown w_0 w_1 w_2 rfl (by rw [hml]; exact hl.1) rfl dX2_init_1 (Nat.le_of_ble_eq_true rfl) (Nat.le_of_ble_eq_true rfl) ?_
  refine W.eq (g2 := F0 m 4 ls []) rfl ?_
  refine lv_aload_n hx hb dX2_init_4 rfl (lv_at hl 0 rfl) ?_
  refine lv_iload_n hx hb dX2_init_5 rfl (lv_at hl 1 rfl) ?_
  refine nb_newa (atype := .int) (ty := .int) (N' := 2001) (a0 := (2001, .inl nz)) hx hb w_3 rfl hK hP hD hS hA 0 rfl (fun _ _ h => h) (fun _ => rfl) (by decide +kernel) (by decide +kernel) (by decide +kernel) (Nat.le_of_ble_eq_true rfl) (Nat.le_of_ble_eq_true rfl) dX2_init_6 (fun q1 H hP hD hS => ?_)
  refine nb_putF (D := D) (ci := 2) (v := .ref q1) (ty := .array .int) (C := RX2) (T := TX2) (N := 4) (ws' := [(a0, .inr (2, [.ref q1, .null, .null, .null])), (q1, .inl (y 0, 2001, .inl nz))]) hx hb hts (gt_c iG_X2) tyX2 tyX2_ok nmX2 hown hK hP hD hS 0 rfl rfl 0 (by decide +kernel) w_4 (fun _ h9 => h9) rfl hnm rfl (by decide +kernel) rfl rfl (Nat.le_of_ble_eq_true rfl) rfl dX2_init_8 (fun H locs hP hD hS => ?_)
  refine lv_aload_n hx hb dX2_init_11 rfl (lv_at hl 0 rfl) ?_
  refine lv_iload_n hx hb dX2_init_12 rfl (lv_at hl 1 rfl) ?_
  refine nb_newa (atype := .long) (ty := .long) (N' := 2001) (a0 := (2001, .inr (.inl nzl))) hx hb w_5 rfl hK hP hD hS hA 1 rfl (fun _ _ h => h) (fun _ => rfl) (by decide +kernel) (by decide +kernel) (by decide +kernel) (Nat.le_of_ble_eq_true rfl) (Nat.le_of_ble_eq_true rfl) dX2_init_13 (fun q2 H hP hD hS => ?_)
  refine nb_putF (D := D) (ci := 2) (v := .ref q2) (ty := .array .long) (C := RX2) (T := TX2) (N := 4) (ws' := [(a0, .inr (2, [.ref q1, .ref q2, .null, .null])), (q1, .inl (y 0, 2001, .inl nz)), (q2, .inl (y 1, 2001, .inr (.inl nzl)))]) hx hb hts (gt_c iG_X2) tyX2 tyX2_ok nmX2 hown hK hP hD hS 0 rfl rfl 1 (by decide +kernel) w_6 (fun _ h9 => h9) rfl hnm rfl (by decide +kernel) rfl rfl (Nat.le_of_ble_eq_true rfl) rfl dX2_init_15 (fun H locs hP hD hS => ?_)
  refine lv_aload_n hx hb dX2_init_18 rfl (lv_at hl 0 rfl) ?_
  refine lv_iload_n hx hb dX2_init_19 rfl (lv_at hl 1 rfl) ?_
  refine nb_newa (atype := .long) (ty := .long) (N' := 2001) (a0 := (2001, .inr (.inl nzl))) hx hb w_5 rfl hK hP hD hS hA 1 rfl (fun _ _ h => h) (fun _ => rfl) (by decide +kernel) (by decide +kernel) (by decide +kernel) (Nat.le_of_ble_eq_true rfl) (Nat.le_of_ble_eq_true rfl) dX2_init_20 (fun q3 H hP hD hS => ?_)
  refine nb_putF (D := D) (ci := 2) (v := .ref q3) (ty := .array .long) (C := RX2) (T := TX2) (N := 4) (ws' := [(a0, .inr (2, [.ref q1, .ref q2, .ref q3, .null])), (q1, .inl (y 0, 2001, .inl nz)), (q2, .inl (y 1, 2001, .inr (.inl nzl))), (q3, .inl (y 1, 2001, .inr (.inl nzl)))]) hx hb hts (gt_c iG_X2) tyX2 tyX2_ok nmX2 hown hK hP hD hS 0 rfl rfl 2 (by decide +kernel) w_7 (fun _ h9 => h9) rfl hnm rfl (by decide +kernel) rfl rfl (Nat.le_of_ble_eq_true rfl) rfl dX2_init_22 (fun H locs hP hD hS => ?_)
  refine lv_aload_n hx hb dX2_init_25 rfl (lv_at hl 0 rfl) ?_
  refine lv_iload_n hx hb dX2_init_26 rfl (lv_at hl 1 rfl) ?_
  refine nb_newa (atype := .long) (ty := .long) (N' := 2001) (a0 := (2001, .inr (.inl nzl))) hx hb w_5 rfl hK hP hD hS hA 1 rfl (fun _ _ h => h) (fun _ => rfl) (by decide +kernel) (by decide +kernel) (by decide +kernel) (Nat.le_of_ble_eq_true rfl) (Nat.le_of_ble_eq_true rfl) dX2_init_27 (fun q4 H hP hD hS => ?_)
  refine nb_putF (D := D) (ci := 2) (v := .ref q4) (ty := .array .long) (C := RX2) (T := TX2) (N := 4) (ws' := [(a0, .inr (2, [.ref q1, .ref q2, .ref q3, .ref q4])), (q1, .inl (y 0, 2001, .inl nz)), (q2, .inl (y 1, 2001, .inr (.inl nzl))), (q3, .inl (y 1, 2001, .inr (.inl nzl))), (q4, .inl (y 1, 2001, .inr (.inl nzl)))]) hx hb hts (gt_c iG_X2) tyX2 tyX2_ok nmX2 hown hK hP hD hS 0 rfl rfl 3 (by decide +kernel) w_8 (fun _ h9 => h9) rfl hnm rfl (by decide +kernel) rfl rfl (Nat.le_of_ble_eq_true rfl) rfl dX2_init_29 (fun H locs hP hD hS => ?_)
  refine W.widen (k := 4) (n := 8004) (Nat.le_of_ble_eq_true rfl) (Nat.le_of_ble_eq_true rfl) ?_
  exact W.vret hx hb hr (fun t ht hW => ⟨⟨(fun k => if k = 0 then q1 else if k = 1 then q2 else if k = 2 then q3 else if k = 3 then q4 else 0), rfl, trivial, by rw [ht]; exact hP, va_K.moved hW.alike hK, hD⟩, hS.F ht⟩) hS.2.2 dX2_init_32 hlocks
set_option maxRecDepth 100000 in
set_option maxHeartbeats 4000000 in
theorem cX4_init_1 (l : Launch) (D : va_G) (y : Nat → ClassId) (a0 : Nat) (a1 : Nat) (sz : Nat) : Met l yX4_init wsX4_init { frames := 3, cells := 22, slots := 42173, locals := 221 } (nPc D y nT [.ref a0, .ref a1] [(a0, .inr (4, [.null, .null, .null, .int 0, .int 0, .null, .null, .null, .null, .null, .null, .null, .null]))] sz) ((fun A => nQv D y (fun _ => True) (fun u => [(a0, .inr (4, [.ref (u 0), .ref (u 5), .ref (u 6), .int 0, .int 0, .ref (u 7), .ref (u 8), .ref (u 9), .ref (u 10), .ref (u 11), .ref (u 12), .ref (u 13), .ref (u 14)])), ((u 0), .inr (2, [.ref (u 1), .ref (u 2), .ref (u 3), .ref (u 4)])), ((u 1), .inl (y 0, 2001, .inl nz)), ((u 2), .inl (y 1, 2001, .inr (.inl nzl))), ((u 3), .inl (y 1, 2001, .inr (.inl nzl))), ((u 4), .inl (y 1, 2001, .inr (.inl nzl))), ((u 5), .inl (y 0, 2000, .inl nz)), ((u 6), .inl (y 0, 2000, .inl nz)), ((u 7), .inl (y 0, 2001, .inl nz)), ((u 8), .inl (y 2, 2000, .inl nz)), ((u 9), .inl (y 0, 16000, .inl nz)), ((u 10), .inl (y 0, 2000, .inl nz)), ((u 11), .inl (y 0, 2000, .inl nz)), ((u 12), .inl (y 1, 2000, .inr (.inl nzl))), ((u 13), .inl (y 0, 4096, .inl nz)), ((u 14), .inr (7, [.ref (u 15), .ref (u 16), .ref (u 17), .ref (u 18), .int 0, .int 0, .ref (u 19), .ref (u 20), .ref (u 21), .ref a1])), ((u 15), .inl (y 0, 9, .inl nz)), ((u 16), .inl (y 0, 9, .inl nz)), ((u 17), .inl (y 0, 9, .inl nz)), ((u 18), .inl (y 0, 4, .inl (upd nz 2 99))), ((u 19), .inl (y 0, 9, .inl nz)), ((u 20), .inl (y 0, 9, .inl nz)), ((u 21), .inl (y 0, 9, .inl nz))]) A) (va_A [(a0, .inr (4, [.null, .null, .null, .int 0, .int 0, .null, .null, .null, .null, .null, .null, .null, .null]))] sz)) 22 42173 (va_A [(a0, .inr (4, [.null, .null, .null, .int 0, .int 0, .null, .null, .null, .null, .null, .null, .null, .null]))] sz) := by
  refine nm_ofW (D := D) (y := y) (E := nT) (yy := yX4_init) (wsy := wsX4_init) (rm := { frames := 3, cells := 22, slots := 42173, locals := 221 }) (as := [.ref a0, .ref a1]) (ws := [(a0, .inr (4, [.null, .null, .null, .int 0, .int 0, .null, .null, .null, .null, .null, .null, .null, .null]))]) (sz := sz) (mc := 22) (ms := 42173) (Qc := fun A => nQv D y (fun _ => True) (fun u => [(a0, .inr (4, [.ref (u 0), .ref (u 5), .ref (u 6), .int 0, .int 0, .ref (u 7), .ref (u 8), .ref (u 9), .ref (u 10), .ref (u 11), .ref (u 12), .ref (u 13), .ref (u 14)])), ((u 0), .inr (2, [.ref (u 1), .ref (u 2), .ref (u 3), .ref (u 4)])), ((u 1), .inl (y 0, 2001, .inl nz)), ((u 2), .inl (y 1, 2001, .inr (.inl nzl))), ((u 3), .inl (y 1, 2001, .inr (.inl nzl))), ((u 4), .inl (y 1, 2001, .inr (.inl nzl))), ((u 5), .inl (y 0, 2000, .inl nz)), ((u 6), .inl (y 0, 2000, .inl nz)), ((u 7), .inl (y 0, 2001, .inl nz)), ((u 8), .inl (y 2, 2000, .inl nz)), ((u 9), .inl (y 0, 16000, .inl nz)), ((u 10), .inl (y 0, 2000, .inl nz)), ((u 11), .inl (y 0, 2000, .inl nz)), ((u 12), .inl (y 1, 2000, .inr (.inl nzl))), ((u 13), .inl (y 0, 4096, .inl nz)), ((u 14), .inr (7, [.ref (u 15), .ref (u 16), .ref (u 17), .ref (u 18), .int 0, .int 0, .ref (u 19), .ref (u 20), .ref (u 21), .ref a1])), ((u 15), .inl (y 0, 9, .inl nz)), ((u 16), .inl (y 0, 9, .inl nz)), ((u 17), .inl (y 0, 9, .inl nz)), ((u 18), .inl (y 0, 4, .inl (upd nz 2 99))), ((u 19), .inl (y 0, 9, .inl nz)), ((u 20), .inl (y 0, 9, .inl nz)), ((u 21), .inl (y 0, 9, .inl nz))]) A) (cc := cX4_init) (maxL := 2) (ret := none) (by decide +kernel) rfl (Nat.le_of_ble_eq_true rfl) ?_
  intro p e s m below meth c A ls H hx hb hr hml hts hown hlocks hnm hsz hP hK hD hA hS hE hAe hl
  replace hl : lv_has ls 2 [(0, .ref a0), (1, .ref a1)] := hl
  have hown : s.vm.findClass RX4 = some m.cls := hown
  have w_0 := hts (.methodLink RX4 5 objectInit) (gt_k wd_5_4)
  have w_1 := hts (.instanceMethod objectInit) (gt_k wd_1_33)
  have w_2 := hts (.code objectInit ⟨#[0xb1]⟩ 1 none) (gt_k wd_1_34)
  have w_3 := hts (.classLink RX4 11 RX2) (gt_k wd_5_5)
  have w_4 := hts (.instantiable RX2 4) (gt_k wd_2_21)
  have w_5 := hts (.initialized RX2) (gt_k wd_1_10)
  have w_6 := hts (.methodLink RX4 13 yX2_init) (gt_k wd_5_6)
  have w_7 := hts (.instanceMethod yX2_init) (gt_k wd_2_23)
  have w_8 := hts (.fieldLink RX4 16 "SoldToBehind$Reach" "store" "LSoldToBehind$Packed;") (gt_k wd_5_9)
  have w_9 := hts (.arrayClass .int) (gt_k wd_1_53)
  have w_10 := hts (.fieldLink RX4 20 "SoldToBehind$Reach" "total" "[I") (gt_k wd_5_11)
  have w_11 := hts (.fieldLink RX4 24 "SoldToBehind$Reach" "paid" "[I") (gt_k wd_5_13)
  have w_12 := hts (.fieldLink RX4 27 "SoldToBehind$Reach" "count" "I") (gt_k wd_5_15)
  have w_13 := hts (.fieldLink RX4 31 "SoldToBehind$Reach" "whole" "Z") (gt_k wd_5_17)
  have w_14 := hts (.fieldLink RX4 35 "SoldToBehind$Reach" "depth" "[I") (gt_k wd_5_19)
  have w_15 := hts (.arrayClass .boolean) (gt_k wd_5_54)
  have w_16 := hts (.fieldLink RX4 38 "SoldToBehind$Reach" "rest" "[Z") (gt_k wd_5_20)
  have w_17 := hts (.fieldLink RX4 42 "SoldToBehind$Reach" "out" "[I") (gt_k wd_5_21)
  have w_18 := hts (.fieldLink RX4 45 "SoldToBehind$Reach" "from" "[I") (gt_k wd_5_22)
  have w_19 := hts (.fieldLink RX4 48 "SoldToBehind$Reach" "by" "[I") (gt_k wd_5_23)
  have w_20 := hts (.arrayClass .long) (gt_k wd_1_71)
  have w_21 := hts (.fieldLink RX4 51 "SoldToBehind$Reach" "ways" "[J") (gt_k wd_5_24)
  have w_22 := hts (.fieldLink RX4 55 "SoldToBehind$Reach" "table" "[I") (gt_k wd_5_25)
  have w_23 := hts (.classLink RX4 58 RX7) (gt_k wd_5_7)
  have w_24 := hts (.instantiable RX7 10) (gt_k wd_1_201)
  have w_25 := hts (.initialized RX7) (gt_k wd_1_8)
  have w_26 := hts (.methodLink RX4 60 yX7_init) (gt_k wd_5_8)
  have w_27 := hts (.instanceMethod yX7_init) (gt_k wd_1_203)
  have w_28 := hts (.fieldLink RX4 63 "SoldToBehind$Reach" "scene" "LSoldToBehind$Standing;") (gt_k wd_5_26)
  refine lv_aload_n hx hb dX4_init_0 rfl (lv_at hl 0 rfl) ?_
  refine W.objInit hx hb hown w_0 w_1 w_2 rfl (by rw [hml]; exact hl.1) rfl dX4_init_1 (Nat.le_of_ble_eq_true rfl) (Nat.le_of_ble_eq_true rfl) ?_
  refine W.eq (g2 := F0 m 4 ls []) rfl ?_
  refine lv_aload_n hx hb dX4_init_4 rfl (lv_at hl 0 rfl) ?_
  refine va_new (ci := 2) (fs := [.null, .null, .null, .null]) (C := RX2) (T := TX2) (N := 4) hx hb hts (gt_c iG_X2) tyX2 tyX2_ok hown w_3 w_4 w_5 hK hP hD hS hA rfl (by decide +kernel) (Nat.le_of_ble_eq_true rfl) (Nat.le_of_ble_eq_true rfl) dX4_init_5 (fun q1 H hP hD hS => ?_)
  refine lv_dup hx hb dX4_init_8 rfl ?_
  refine lv_sipush (v := 2001) hx hb dX4_init_9 (by decide +kernel) ?_
  refine nj_v (ws := [(a0, .inr (4, [.null, .null, .null, .int 0, .int 0, .null, .null, .null, .null, .null, .null, .null, .null])), (q1, .inr (2, [.null, .null, .null, .null]))]) (wc := [(q1, .inr (2, [.null, .null, .null, .null]))]) (wr := [(a0, .inr (4, [.null, .null, .null, .int 0, .int 0, .null, .null, .null, .null, .null, .null, .null, .null]))]) (nr_I (As := [.int 2001]) (rest := [.ref q1, .ref a0]) ⟨hx, hb, hml, hown, hts⟩ (cX2_init_2 l D y q1 H.size) (cwI 1 hts gX4_init_X2_init rfl rfl rfl w_5 w_6 w_7 rfl (by decide +kernel) ⟨Nat.le_of_ble_eq_true rfl, Nat.le_of_ble_eq_true rfl⟩) hK hP hD hE [1] rfl (by decide +kernel) rfl rfl hl.1 rfl (lv_room (Nat.le_of_ble_eq_true rfl)) dX4_init_12 ⟨Nat.le_of_ble_eq_true rfl, Nat.le_of_ble_eq_true rfl⟩) hP hD hS hA [1] [0] rfl rfl (by decide +kernel) (by decide +kernel) (fun u2 H locs _ hP hD hS => ?_)
  refine nb_putF (D := D) (ci := 4) (v := .ref q1) (ty := .object "SoldToBehind$Packed") (C := RX4) (T := TX4) (N := 13) (ws' := [(a0, .inr (4, [.ref q1, .null, .null, .int 0, .int 0, .null, .null, .null, .null, .null, .null, .null, .null])), (q1, .inr (2, [.ref (u2 0), .ref (u2 1), .ref (u2 2), .ref (u2 3)])), ((u2 0), .inl (y 0, 2001, .inl nz)), ((u2 1), .inl (y 1, 2001, .inr (.inl nzl))), ((u2 2), .inl (y 1, 2001, .inr (.inl nzl))), ((u2 3), .inl (y 1, 2001, .inr (.inl nzl)))]) hx hb hts (gt_c iG_X4) tyX4 tyX4_ok nmX4 hown hK hP hD hS 0 rfl rfl 0 (by decide +kernel) w_8 (fun _ h9 => h9) rfl hnm rfl (by decide +kernel) rfl rfl (Nat.le_of_ble_eq_true rfl) rfl dX4_init_15 (fun H locs hP hD hS => ?_)
  refine lv_aload_n hx hb dX4_init_18 rfl (lv_at hl 0 rfl) ?_
  refine lv_sipush (v := 2000) hx hb dX4_init_19 (by decide +kernel) ?_
  refine nb_newa (atype := .int) (ty := .int) (N' := 2000) (a0 := (2000, .inl nz)) hx hb w_9 rfl hK hP hD hS hA 0 rfl (fun _ _ h => h) (fun _ => rfl) (by decide +kernel) (by decide +kernel) (by decide +kernel) (Nat.le_of_ble_eq_true rfl) (Nat.le_of_ble_eq_true rfl) dX4_init_22 (fun q4 H hP hD hS => ?_)
  refine nb_putF (D := D) (ci := 4) (v := .ref q4) (ty := .array .int) (C := RX4) (T := TX4) (N := 13) (ws' := [(a0, .inr (4, [.ref q1, .ref q4, .null, .int 0, .int 0, .null, .null, .null, .null, .null, .null, .null, .null])), (q1, .inr (2, [.ref (u2 0), .ref (u2 1), .ref (u2 2), .ref (u2 3)])), ((u2 0), .inl (y 0, 2001, .inl nz)), ((u2 1), .inl (y 1, 2001, .inr (.inl nzl))), ((u2 2), .inl (y 1, 2001, .inr (.inl nzl))), ((u2 3), .inl (y 1, 2001, .inr (.inl nzl))), (q4, .inl (y 0, 2000, .inl nz))]) hx hb hts (gt_c iG_X4) tyX4 tyX4_ok nmX4 hown hK hP hD hS 0 rfl rfl 1 (by decide +kernel) w_10 (fun _ h9 => h9) rfl hnm rfl (by decide +kernel) rfl rfl (Nat.le_of_ble_eq_true rfl) rfl dX4_init_24 (fun H locs hP hD hS => ?_)
  refine lv_aload_n hx hb dX4_init_27 rfl (lv_at hl 0 rfl) ?_
  refine lv_sipush (v := 2000) hx hb dX4_init_28 (by decide +kernel) ?_
  refine nb_newa (atype := .int) (ty := .int) (N' := 2000) (a0 := (2000, .inl nz)) hx hb w_9 rfl hK hP hD hS hA 0 rfl (fun _ _ h => h) (fun _ => rfl) (by decide +kernel) (by decide +kernel) (by decide +kernel) (Nat.le_of_ble_eq_true rfl) (Nat.le_of_ble_eq_true rfl) dX4_init_31 (fun q5 H hP hD hS => ?_)
  refine nb_putF (D := D) (ci := 4) (v := .ref q5) (ty := .array .int) (C := RX4) (T := TX4) (N := 13) (ws' := [(a0, .inr (4, [.ref q1, .ref q4, .ref q5, .int 0, .int 0, .null, .null, .null, .null, .null, .null, .null, .null])), (q1, .inr (2, [.ref (u2 0), .ref (u2 1), .ref (u2 2), .ref (u2 3)])), ((u2 0), .inl (y 0, 2001, .inl nz)), ((u2 1), .inl (y 1, 2001, .inr (.inl nzl))), ((u2 2), .inl (y 1, 2001, .inr (.inl nzl))), ((u2 3), .inl (y 1, 2001, .inr (.inl nzl))), (q4, .inl (y 0, 2000, .inl nz)), (q5, .inl (y 0, 2000, .inl nz))]) hx hb hts (gt_c iG_X4) tyX4 tyX4_ok nmX4 hown hK hP hD hS 0 rfl rfl 2 (by decide +kernel) w_11 (fun _ h9 => h9) rfl hnm rfl (by decide +kernel) rfl rfl (Nat.le_of_ble_eq_true rfl) rfl dX4_init_33 (fun H locs hP hD hS => ?_)
  refine lv_aload_n hx hb dX4_init_36 rfl (lv_at hl 0 rfl) ?_
  refine lv_iconst (v := 0) hx hb dX4_init_37 (by decide +kernel) ?_
  refine nb_put (D := D) (ci := 4) (v := .int 0) (ty := .int) (C := RX4) (T := TX4) (N := 13) (ws' := [(a0, .inr (4, [.ref q1, .ref q4, .ref q5, .int 0, .int 0, .null, .null, .null, .null, .null, .null, .null, .null])), (q1, .inr (2, [.ref (u2 0), .ref (u2 1), .ref (u2 2), .ref (u2 3)])), ((u2 0), .inl (y 0, 2001, .inl nz)), ((u2 1), .inl (y 1, 2001, .inr (.inl nzl))), ((u2 2), .inl (y 1, 2001, .inr (.inl nzl))), ((u2 3), .inl (y 1, 2001, .inr (.inl nzl))), (q4, .inl (y 0, 2000, .inl nz)), (q5, .inl (y 0, 2000, .inl nz))]) hx hb hts (gt_c iG_X4) tyX4 tyX4_ok nmX4 hown hK hP hD hS 0 rfl rfl 3 (by decide +kernel) w_12 (fun _ h9 => h9) rfl (by decide +kernel) rfl rfl (Nat.le_of_ble_eq_true rfl) rfl dX4_init_38 (fun H locs hP hD hS => ?_)
  refine lv_aload_n hx hb dX4_init_41 rfl (lv_at hl 0 rfl) ?_
  refine lv_iconst (v := 0) hx hb dX4_init_42 (by decide +kernel) ?_
  refine nb_put (D := D) (ci := 4) (v := .int 0) (ty := .boolean) (C := RX4) (T := TX4) (N := 13) (ws' := [(a0, .inr (4, [.ref q1, .ref q4, .ref q5, .int 0, .int 0, .null, .null, .null, .null, .null, .null, .null, .null])), (q1, .inr (2, [.ref (u2 0), .ref (u2 1), .ref (u2 2), .ref (u2 3)])), ((u2 0), .inl (y 0, 2001, .inl nz)), ((u2 1), .inl (y 1, 2001, .inr (.inl nzl))), ((u2 2), .inl (y 1, 2001, .inr (.inl nzl))), ((u2 3), .inl (y 1, 2001, .inr (.inl nzl))), (q4, .inl (y 0, 2000, .inl nz)), (q5, .inl (y 0, 2000, .inl nz))]) hx hb hts (gt_c iG_X4) tyX4 tyX4_ok nmX4 hown hK hP hD hS 0 rfl rfl 4 (by decide +kernel) w_13 (fun _ h9 => h9) rfl (by decide +kernel) rfl rfl (Nat.le_of_ble_eq_true rfl) rfl dX4_init_43 (fun H locs hP hD hS => ?_)
  refine lv_aload_n hx hb dX4_init_46 rfl (lv_at hl 0 rfl) ?_
  refine lv_sipush (v := 2001) hx hb dX4_init_47 (by decide +kernel) ?_
  refine nb_newa (atype := .int) (ty := .int) (N' := 2001) (a0 := (2001, .inl nz)) hx hb w_9 rfl hK hP hD hS hA 0 rfl (fun _ _ h => h) (fun _ => rfl) (by decide +kernel) (by decide +kernel) (by decide +kernel) (Nat.le_of_ble_eq_true rfl) (Nat.le_of_ble_eq_true rfl) dX4_init_50 (fun q6 H hP hD hS => ?_)
  refine nb_putF (D := D) (ci := 4) (v := .ref q6) (ty := .array .int) (C := RX4) (T := TX4) (N := 13) (ws' := [(a0, .inr (4, [.ref q1, .ref q4, .ref q5, .int 0, .int 0, .ref q6, .null, .null, .null, .null, .null, .null, .null])), (q1, .inr (2, [.ref (u2 0), .ref (u2 1), .ref (u2 2), .ref (u2 3)])), ((u2 0), .inl (y 0, 2001, .inl nz)), ((u2 1), .inl (y 1, 2001, .inr (.inl nzl))), ((u2 2), .inl (y 1, 2001, .inr (.inl nzl))), ((u2 3), .inl (y 1, 2001, .inr (.inl nzl))), (q4, .inl (y 0, 2000, .inl nz)), (q5, .inl (y 0, 2000, .inl nz)), (q6, .inl (y 0, 2001, .inl nz))]) hx hb hts (gt_c iG_X4) tyX4 tyX4_ok nmX4 hown hK hP hD hS 0 rfl rfl 5 (by decide +kernel) w_14 (fun _ h9 => h9) rfl hnm rfl (by decide +kernel) rfl rfl (Nat.le_of_ble_eq_true rfl) rfl dX4_init_52 (fun H locs hP hD hS => ?_)
  refine lv_aload_n hx hb dX4_init_55 rfl (lv_at hl 0 rfl) ?_
  refine lv_sipush (v := 2000) hx hb dX4_init_56 (by decide +kernel) ?_
  refine nb_newa (atype := .boolean) (ty := .boolean) (N' := 2000) (a0 := (2000, .inl nz)) hx hb w_15 rfl hK hP hD hS hA 2 rfl (fun _ _ h => h) (fun _ => rfl) (by decide +kernel) (by decide +kernel) (by decide +kernel) (Nat.le_of_ble_eq_true rfl) (Nat.le_of_ble_eq_true rfl) dX4_init_59 (fun q7 H hP hD hS => ?_)
  refine nb_putF (D := D) (ci := 4) (v := .ref q7) (ty := .array .boolean) (C := RX4) (T := TX4) (N := 13) (ws' := [(a0, .inr (4, [.ref q1, .ref q4, .ref q5, .int 0, .int 0, .ref q6, .ref q7, .null, .null, .null, .null, .null, .null])), (q1, .inr (2, [.ref (u2 0), .ref (u2 1), .ref (u2 2), .ref (u2 3)])), ((u2 0), .inl (y 0, 2001, .inl nz)), ((u2 1), .inl (y 1, 2001, .inr (.inl nzl))), ((u2 2), .inl (y 1, 2001, .inr (.inl nzl))), ((u2 3), .inl (y 1, 2001, .inr (.inl nzl))), (q4, .inl (y 0, 2000, .inl nz)), (q5, .inl (y 0, 2000, .inl nz)), (q6, .inl (y 0, 2001, .inl nz)), (q7, .inl (y 2, 2000, .inl nz))]) hx hb hts (gt_c iG_X4) tyX4 tyX4_ok nmX4 hown hK hP hD hS 0 rfl rfl 6 (by decide +kernel) w_16 (fun _ h9 => h9) rfl hnm rfl (by decide +kernel) rfl rfl (Nat.le_of_ble_eq_true rfl) rfl dX4_init_61 (fun H locs hP hD hS => ?_)
  refine lv_aload_n hx hb dX4_init_64 rfl (lv_at hl 0 rfl) ?_
  refine lv_sipush (v := 16000) hx hb dX4_init_65 (by decide +kernel) ?_
  refine nb_newa (atype := .int) (ty := .int) (N' := 16000) (a0 := (16000, .inl nz)) hx hb w_9 rfl hK hP hD hS hA 0 rfl (fun _ _ h => h) (fun _ => rfl) (by decide +kernel) (by decide +kernel) (by decide +kernel) (Nat.le_of_ble_eq_true rfl) (Nat.le_of_ble_eq_true rfl) dX4_init_68 (fun q8 H hP hD hS => ?_)
  refine nb_putF (D := D) (ci := 4) (v := .ref q8) (ty := .array .int) (C := RX4) (T := TX4) (N := 13) (ws' := [(a0, .inr (4, [.ref q1, .ref q4, .ref q5, .int 0, .int 0, .ref q6, .ref q7, .ref q8, .null, .null, .null, .null, .null])), (q1, .inr (2, [.ref (u2 0), .ref (u2 1), .ref (u2 2), .ref (u2 3)])), ((u2 0), .inl (y 0, 2001, .inl nz)), ((u2 1), .inl (y 1, 2001, .inr (.inl nzl))), ((u2 2), .inl (y 1, 2001, .inr (.inl nzl))), ((u2 3), .inl (y 1, 2001, .inr (.inl nzl))), (q4, .inl (y 0, 2000, .inl nz)), (q5, .inl (y 0, 2000, .inl nz)), (q6, .inl (y 0, 2001, .inl nz)), (q7, .inl (y 2, 2000, .inl nz)), (q8, .inl (y 0, 16000, .inl nz))]) hx hb hts (gt_c iG_X4) tyX4 tyX4_ok nmX4 hown hK hP hD hS 0 rfl rfl 7 (by decide +kernel) w_17 (fun _ h9 => h9) rfl hnm rfl (by decide +kernel) rfl rfl (Nat.le_of_ble_eq_true rfl) rfl dX4_init_70 (fun H locs hP hD hS => ?_)
  refine lv_aload_n hx hb dX4_init_73 rfl (lv_at hl 0 rfl) ?_
  refine lv_sipush (v := 2000) hx hb dX4_init_74 (by decide +kernel) ?_
  refine nb_newa (atype := .int) (ty := .int) (N' := 2000) (a0 := (2000, .inl nz)) hx hb w_9 rfl hK hP hD hS hA 0 rfl (fun _ _ h => h) (fun _ => rfl) (by decide +kernel) (by decide +kernel) (by decide +kernel) (Nat.le_of_ble_eq_true rfl) (Nat.le_of_ble_eq_true rfl) dX4_init_77 (fun q9 H hP hD hS => ?_)
  refine nb_putF (D := D) (ci := 4) (v := .ref q9) (ty := .array .int) (C := RX4) (T := TX4) (N := 13) (ws' := [(a0, .inr (4, [.ref q1, .ref q4, .ref q5, .int 0, .int 0, .ref q6, .ref q7, .ref q8, .ref q9, .null, .null, .null, .null])), (q1, .inr (2, [.ref (u2 0), .ref (u2 1), .ref (u2 2), .ref (u2 3)])), ((u2 0), .inl (y 0, 2001, .inl nz)), ((u2 1), .inl (y 1, 2001, .inr (.inl nzl))), ((u2 2), .inl (y 1, 2001, .inr (.inl nzl))), ((u2 3), .inl (y 1, 2001, .inr (.inl nzl))), (q4, .inl (y 0, 2000, .inl nz)), (q5, .inl (y 0, 2000, .inl nz)), (q6, .inl (y 0, 2001, .inl nz)), (q7, .inl (y 2, 2000, .inl nz)), (q8, .inl (y 0, 16000, .inl nz)), (q9, .inl (y 0, 2000, .inl nz))]) hx hb hts (gt_c iG_X4) tyX4 tyX4_ok nmX4 hown hK hP hD hS 0 rfl rfl 8 (by decide +kernel) w_18 (fun _ h9 => h9) rfl hnm rfl (by decide +kernel) rfl rfl (Nat.le_of_ble_eq_true rfl) rfl dX4_init_79 (fun H locs hP hD hS => ?_)
  refine lv_aload_n hx hb dX4_init_82 rfl (lv_at hl 0 rfl) ?_
  refine lv_sipush (v := 2000) hx hb dX4_init_83 (by decide +kernel) ?_
  refine nb_newa (atype := .int) (ty := .int) (N' := 2000) (a0 := (2000, .inl nz)) hx hb w_9 rfl hK hP hD hS hA 0 rfl (fun _ _ h => h) (fun _ => rfl) (by decide +kernel) (by decide +kernel) (by decide +kernel) (Nat.le_of_ble_eq_true rfl) (Nat.le_of_ble_eq_true rfl) dX4_init_86 (fun q10 H hP hD hS => ?_)
  refine nb_putF (D := D) (ci := 4) (v := .ref q10) (ty := .array .int) (C := RX4) (T := TX4) (N := 13) (ws' := [(a0, .inr (4, [.ref q1, .ref q4, .ref q5, .int 0, .int 0, .ref q6, .ref q7, .ref q8, .ref q9, .ref q10, .null, .null, .null])), (q1, .inr (2, [.ref (u2 0), .ref (u2 1), .ref (u2 2), .ref (u2 3)])), ((u2 0), .inl (y 0, 2001, .inl nz)), ((u2 1), .inl (y 1, 2001, .inr (.inl nzl))), ((u2 2), .inl (y 1, 2001, .inr (.inl nzl))), ((u2 3), .inl (y 1, 2001, .inr (.inl nzl))), (q4, .inl (y 0, 2000, .inl nz)), (q5, .inl (y 0, 2000, .inl nz)), (q6, .inl (y 0, 2001, .inl nz)), (q7, .inl (y 2, 2000, .inl nz)), (q8, .inl (y 0, 16000, .inl nz)), (q9, .inl (y 0, 2000, .inl nz)), (q10, .inl (y 0, 2000, .inl nz))]) hx hb hts (gt_c iG_X4) tyX4 tyX4_ok nmX4 hown hK hP hD hS 0 rfl rfl 9 (by decide +kernel) w_19 (fun _ h9 => h9) rfl hnm rfl (by decide +kernel) rfl rfl (Nat.le_of_ble_eq_true rfl) rfl dX4_init_88 (fun H locs hP hD hS => ?_)
  refine lv_aload_n hx hb dX4_init_91 rfl (lv_at hl 0 rfl) ?_
  refine lv_sipush (v := 2000) hx hb dX4_init_92 (by decide +kernel) ?_
  refine nb_newa (atype := .long) (ty := .long) (N' := 2000) (a0 := (2000, .inr (.inl nzl))) hx hb w_20 rfl hK hP hD hS hA 1 rfl (fun _ _ h => h) (fun _ => rfl) (by decide +kernel) (by decide +kernel) (by decide +kernel) (Nat.le_of_ble_eq_true rfl) (Nat.le_of_ble_eq_true rfl) dX4_init_95 (fun q11 H hP hD hS => ?_)
  refine nb_putF (D := D) (ci := 4) (v := .ref q11) (ty := .array .long) (C := RX4) (T := TX4) (N := 13) (ws' := [(a0, .inr (4, [.ref q1, .ref q4, .ref q5, .int 0, .int 0, .ref q6, .ref q7, .ref q8, .ref q9, .ref q10, .ref q11, .null, .null])), (q1, .inr (2, [.ref (u2 0), .ref (u2 1), .ref (u2 2), .ref (u2 3)])), ((u2 0), .inl (y 0, 2001, .inl nz)), ((u2 1), .inl (y 1, 2001, .inr (.inl nzl))), ((u2 2), .inl (y 1, 2001, .inr (.inl nzl))), ((u2 3), .inl (y 1, 2001, .inr (.inl nzl))), (q4, .inl (y 0, 2000, .inl nz)), (q5, .inl (y 0, 2000, .inl nz)), (q6, .inl (y 0, 2001, .inl nz)), (q7, .inl (y 2, 2000, .inl nz)), (q8, .inl (y 0, 16000, .inl nz)), (q9, .inl (y 0, 2000, .inl nz)), (q10, .inl (y 0, 2000, .inl nz)), (q11, .inl (y 1, 2000, .inr (.inl nzl)))]) hx hb hts (gt_c iG_X4) tyX4 tyX4_ok nmX4 hown hK hP hD hS 0 rfl rfl 10 (by decide +kernel) w_21 (fun _ h9 => h9) rfl hnm rfl (by decide +kernel) rfl rfl (Nat.le_of_ble_eq_true rfl) rfl dX4_init_97 (fun H locs hP hD hS => ?_)
  refine lv_aload_n hx hb dX4_init_100 rfl (lv_at hl 0 rfl) ?_
  refine lv_sipush (v := 4096) hx hb dX4_init_101 (by decide +kernel) ?_
  refine nb_newa (atype := .int) (ty := .int) (N' := 4096) (a0 := (4096, .inl nz)) hx hb w_9 rfl hK hP hD hS hA 0 rfl (fun _ _ h => h) (fun _ => rfl) (by decide +kernel) (by decide +kernel) (by decide +kernel) (Nat.le_of_ble_eq_true rfl) (Nat.le_of_ble_eq_true rfl) dX4_init_104 (fun q12 H hP hD hS => ?_)
  refine nb_putF (D := D) (ci := 4) (v := .ref q12) (ty := .array .int) (C := RX4) (T := TX4) (N := 13) (ws' := [(a0, .inr (4, [.ref q1, .ref q4, .ref q5, .int 0, .int 0, .ref q6, .ref q7, .ref q8, .ref q9, .ref q10, .ref q11, .ref q12, .null])), (q1, .inr (2, [.ref (u2 0), .ref (u2 1), .ref (u2 2), .ref (u2 3)])), ((u2 0), .inl (y 0, 2001, .inl nz)), ((u2 1), .inl (y 1, 2001, .inr (.inl nzl))), ((u2 2), .inl (y 1, 2001, .inr (.inl nzl))), ((u2 3), .inl (y 1, 2001, .inr (.inl nzl))), (q4, .inl (y 0, 2000, .inl nz)), (q5, .inl (y 0, 2000, .inl nz)), (q6, .inl (y 0, 2001, .inl nz)), (q7, .inl (y 2, 2000, .inl nz)), (q8, .inl (y 0, 16000, .inl nz)), (q9, .inl (y 0, 2000, .inl nz)), (q10, .inl (y 0, 2000, .inl nz)), (q11, .inl (y 1, 2000, .inr (.inl nzl))), (q12, .inl (y 0, 4096, .inl nz))]) hx hb hts (gt_c iG_X4) tyX4 tyX4_ok nmX4 hown hK hP hD hS 0 rfl rfl 11 (by decide +kernel) w_22 (fun _ h9 => h9) rfl hnm rfl (by decide +kernel) rfl rfl (Nat.le_of_ble_eq_true rfl) rfl dX4_init_106 (fun H locs hP hD hS => ?_)
  refine lv_aload_n hx hb dX4_init_109 rfl (lv_at hl 0 rfl) ?_
  refine va_new (ci := 7) (fs := [.null, .null, .null, .null, .int 0, .int 0, .null, .null, .null, .null]) (C := RX7) (T := TX7) (N := 10) hx hb hts (gt_c iG_X7) tyX7 tyX7_ok hown w_23 w_24 w_25 hK hP hD hS hA rfl (by decide +kernel) (Nat.le_of_ble_eq_true rfl) (Nat.le_of_ble_eq_true rfl) dX4_init_110 (fun q13 H hP hD hS => ?_)
  refine lv_dup hx hb dX4_init_113 rfl ?_
  refine lv_aload_n hx hb dX4_init_114 rfl (lv_at hl 1 rfl) ?_
  refine nj_v (ws := [(a0, .inr (4, [.ref q1, .ref q4, .ref q5, .int 0, .int 0, .ref q6, .ref q7, .ref q8, .ref q9, .ref q10, .ref q11, .ref q12, .null])), (q1, .inr (2, [.ref (u2 0), .ref (u2 1), .ref (u2 2), .ref (u2 3)])), ((u2 0), .inl (y 0, 2001, .inl nz)), ((u2 1), .inl (y 1, 2001, .inr (.inl nzl))), ((u2 2), .inl (y 1, 2001, .inr (.inl nzl))), ((u2 3), .inl (y 1, 2001, .inr (.inl nzl))), (q4, .inl (y 0, 2000, .inl nz)), (q5, .inl (y 0, 2000, .inl nz)), (q6, .inl (y 0, 2001, .inl nz)), (q7, .inl (y 2, 2000, .inl nz)), (q8, .inl (y 0, 16000, .inl nz)), (q9, .inl (y 0, 2000, .inl nz)), (q10, .inl (y 0, 2000, .inl nz)), (q11, .inl (y 1, 2000, .inr (.inl nzl))), (q12, .inl (y 0, 4096, .inl nz)), (q13, .inr (7, [.null, .null, .null, .null, .int 0, .int 0, .null, .null, .null, .null]))]) (wc := [(q13, .inr (7, [.null, .null, .null, .null, .int 0, .int 0, .null, .null, .null, .null]))]) (wr := [(a0, .inr (4, [.ref q1, .ref q4, .ref q5, .int 0, .int 0, .ref q6, .ref q7, .ref q8, .ref q9, .ref q10, .ref q11, .ref q12, .null])), (q1, .inr (2, [.ref (u2 0), .ref (u2 1), .ref (u2 2), .ref (u2 3)])), ((u2 0), .inl (y 0, 2001, .inl nz)), ((u2 1), .inl (y 1, 2001, .inr (.inl nzl))), ((u2 2), .inl (y 1, 2001, .inr (.inl nzl))), ((u2 3), .inl (y 1, 2001, .inr (.inl nzl))), (q4, .inl (y 0, 2000, .inl nz)), (q5, .inl (y 0, 2000, .inl nz)), (q6, .inl (y 0, 2001, .inl nz)), (q7, .inl (y 2, 2000, .inl nz)), (q8, .inl (y 0, 16000, .inl nz)), (q9, .inl (y 0, 2000, .inl nz)), (q10, .inl (y 0, 2000, .inl nz)), (q11, .inl (y 1, 2000, .inr (.inl nzl))), (q12, .inl (y 0, 4096, .inl nz))]) (nr_I (As := [.ref a1]) (rest := [.ref q13, .ref a0]) ⟨hx, hb, hml, hown, hts⟩ (cX7_init_1 l D y q13 a1 H.size) (cwI 1 hts gX4_init_X7_init rfl rfl rfl w_25 w_26 w_27 rfl (by decide +kernel) ⟨Nat.le_of_ble_eq_true rfl, Nat.le_of_ble_eq_true rfl⟩) hK hP hD hE [15] rfl (by decide +kernel) rfl rfl hl.1 rfl (lv_room (Nat.le_of_ble_eq_true rfl)) dX4_init_115 ⟨Nat.le_of_ble_eq_true rfl, Nat.le_of_ble_eq_true rfl⟩) hP hD hS hA [15] [0, 1, 2, 3, 4, 5, 6, 7, 8, 9, 10, 11, 12, 13, 14] rfl rfl (by decide +kernel) (by decide +kernel) (fun u14 H locs _ hP hD hS => ?_)
  refine nb_putF (D := D) (ci := 4) (v := .ref q13) (ty := .object "SoldToBehind$Standing") (C := RX4) (T := TX4) (N := 13) (ws' := [(a0, .inr (4, [.ref q1, .ref q4, .ref q5, .int 0, .int 0, .ref q6, .ref q7, .ref q8, .ref q9, .ref q10, .ref q11, .ref q12, .ref q13])), (q1, .inr (2, [.ref (u2 0), .ref (u2 1), .ref (u2 2), .ref (u2 3)])), ((u2 0), .inl (y 0, 2001, .inl nz)), ((u2 1), .inl (y 1, 2001, .inr (.inl nzl))), ((u2 2), .inl (y 1, 2001, .inr (.inl nzl))), ((u2 3), .inl (y 1, 2001, .inr (.inl nzl))), (q4, .inl (y 0, 2000, .inl nz)), (q5, .inl (y 0, 2000, .inl nz)), (q6, .inl (y 0, 2001, .inl nz)), (q7, .inl (y 2, 2000, .inl nz)), (q8, .inl (y 0, 16000, .inl nz)), (q9, .inl (y 0, 2000, .inl nz)), (q10, .inl (y 0, 2000, .inl nz)), (q11, .inl (y 1, 2000, .inr (.inl nzl))), (q12, .inl (y 0, 4096, .inl nz)), (q13, .inr (7, [.ref (u14 0), .ref (u14 1), .ref (u14 2), .ref (u14 3), .int 0, .int 0, .ref (u14 4), .ref (u14 5), .ref (u14 6), .ref a1])), ((u14 0), .inl (y 0, 9, .inl nz)), ((u14 1), .inl (y 0, 9, .inl nz)), ((u14 2), .inl (y 0, 9, .inl nz)), ((u14 3), .inl (y 0, 4, .inl (upd nz 2 99))), ((u14 4), .inl (y 0, 9, .inl nz)), ((u14 5), .inl (y 0, 9, .inl nz)), ((u14 6), .inl (y 0, 9, .inl nz))]) hx hb hts (gt_c iG_X4) tyX4 tyX4_ok nmX4 hown hK hP hD hS 0 rfl rfl 12 (by decide +kernel) w_28 (fun _ h9 => h9) rfl hnm rfl (by decide +kernel) rfl rfl (Nat.le_of_ble_eq_true rfl) rfl dX4_init_118 (fun H locs hP hD hS => ?_)
  refine W.widen (k := 22) (n := 42173) (Nat.le_of_ble_eq_true rfl) (Nat.le_of_ble_eq_true rfl) ?_
  exact W.vret hx hb hr (fun t ht hW => ⟨⟨(fun k => if k = 0 then q1 else if k = 1 then (u2 0) else if k = 2 then (u2 1) else if k = 3 then (u2 2) else if k = 4 then (u2 3) else if k = 5 then q4 else if k = 6 then q5 else if k = 7 then q6 else if k = 8 then q7 else if k = 9 then q8 else if k = 10 then q9 else if k = 11 then q10 else if k = 12 then q11 else if k = 13 then q12 else if k = 14 then q13 else if k = 15 then (u14 0) else if k = 16 then (u14 1) else if k = 17 then (u14 2) else if k = 18 then (u14 3) else if k = 19 then (u14 4) else if k = 20 then (u14 5) else if k = 21 then (u14 6) else 0), rfl, trivial, by rw [ht]; exact hP, va_K.moved hW.alike hK, hD⟩, hS.F ht⟩) hS.2.2 dX4_init_121 hlocks
set_option maxRecDepth 100000 in
set_option maxHeartbeats 4000000 in
theorem cJ7_fill_53178_2 (l : Launch) (D : va_G) (y : Nat → ClassId) (a0 : Nat) (sz : Nat) : Met l yJ7_fill_53178 wsJ7_fill_53178 { frames := 2, cells := 0, slots := 0, locals := 200 } (nPc D y nT [.ref a0, .int 0] [(a0, .inl (y 0, 4096, .inl nz))] sz) ((fun A => nQv D y (fun _ => True) (fun u => [(a0, .inl (y 0, 4096, .inl nz))]) A) (va_A [(a0, .inl (y 0, 4096, .inl nz))] sz)) 0 0 (va_A [(a0, .inl (y 0, 4096, .inl nz))] sz) := by
  refine nm_ofW (D := D) (y := y) (E := nT) (yy := yJ7_fill_53178) (wsy := wsJ7_fill_53178) (rm := { frames := 2, cells := 0, slots := 0, locals := 200 }) (as := [.ref a0, .int 0]) (ws := [(a0, .inl (y 0, 4096, .inl nz))]) (sz := sz) (mc := 0) (ms := 0) (Qc := fun A => nQv D y (fun _ => True) (fun u => [(a0, .inl (y 0, 4096, .inl nz))]) A) (cc := cJ7_fill_53178) (maxL := 4) (ret := none) (by decide +kernel) rfl (Nat.le_of_ble_eq_true rfl) ?_
  intro p e s m below meth c A ls H hx hb hr hml hts hown hlocks hnm hsz hP hK hD hA hS hE hAe hl
  replace hl : lv_has ls 4 [(0, .ref a0), (1, .int 0)] := hl
  have hown : s.vm.findClass RJ7 = some m.cls := hown
  refine lv_iconst (v := 0) hx hb dJ7_fill_53178_0 (by decide +kernel) ?_
  refine lv_istore_n (lv' := [(2, .int 0), (0, .ref a0), (1, .int 0)]) hx hb dJ7_fill_53178_1 rfl hl (by decide +kernel) rfl (fun ls hl => ?_)
  refine lv_aload_n hx hb dJ7_fill_53178_2 rfl (lv_at hl 1 rfl) ?_
  refine va_alen (v := 4096) hx hb hK hP 0 0 rfl rfl (by decide +kernel) dJ7_fill_53178_3 ?_
  refine lv_istore_n (lv' := [(3, .int 4096), (2, .int 0), (0, .ref a0), (1, .int 0)]) hx hb dJ7_fill_53178_4 rfl hl (by decide +kernel) rfl (fun ls hl => ?_)
  refine n_loop (σ := Nat → Int32) (D := D) (A := A) (H0 := s.heap) (nL := 4) (head := 5) (st := []) (fun i g => [(a0, .inl (y 0, 4096, .inl nz))]) (fun i g => [(3, .int 4096), (2, .int (nI i)), (0, .ref a0), (1, .int 0)]) 4096 ?_ ?_ 0 (by decide +kernel) nz H _ ls hP hD hS hl
  · intro g H locs ls hP hD hS hl
    replace hP : va_P D vwCl [(a0, .inl (y 0, 4096, .inl nz))] H := hP
    replace hD : va_D A [(a0, .inl (y 0, 4096, .inl nz))] := hD
    replace hl : lv_has ls 4 [(3, .int 4096), (2, .int 4096), (0, .ref a0), (1, .int 0)] := hl
    refine lv_iload_n hx hb dJ7_fill_53178_5 rfl (lv_at hl 1 rfl) ?_
    refine lv_iload_n hx hb dJ7_fill_53178_6 rfl (lv_at hl 0 rfl) ?_
    refine lv_icmp_ge (tgt := 20) hx hb dJ7_fill_53178_7 (by decide +kernel) (fun _ => ?_) (fun c => absurd (by decide +kernel) c)
    refine W.widen (k := 0) (n := 0) (Nat.le_of_ble_eq_true rfl) (Nat.le_of_ble_eq_true rfl) ?_
    exact W.vret hx hb hr (fun t ht hW => ⟨⟨(fun _ => 0), rfl, trivial, by rw [ht]; exact hP, va_K.moved hW.alike hK, hD⟩, hS.F ht⟩) hS.2.2 dJ7_fill_53178_20 hlocks
  · intro i1 hi ih g H locs ls hP hD hS hl
    replace hP : va_P D vwCl [(a0, .inl (y 0, 4096, .inl nz))] H := hP
    replace hD : va_D A [(a0, .inl (y 0, 4096, .inl nz))] := hD
    replace hl : lv_has ls 4 [(3, .int 4096), (2, .int (nI i1)), (0, .ref a0), (1, .int 0)] := hl
    have hili1 : (0 : Int32) ≤ nI i1 := nI_pos' (by omega)
    have hihi1 : nI i1 ≤ 4095 := nI_le (b := 4095) (by omega) (by decide +kernel)
    refine lv_iload_n hx hb dJ7_fill_53178_5 rfl (lv_at hl 1 rfl) ?_
    refine lv_iload_n hx hb dJ7_fill_53178_6 rfl (lv_at hl 0 rfl) ?_
    refine lv_icmp_ge (tgt := 20) hx hb dJ7_fill_53178_7 (by decide +kernel) (fun c => absurd c (q_nge hihi1 (by decide +kernel))) (fun _ => ?_)
    refine lv_aload_n hx hb dJ7_fill_53178_10 rfl (lv_at hl 2 rfl) ?_
    refine lv_iload_n hx hb dJ7_fill_53178_11 rfl (lv_at hl 1 rfl) ?_
    refine lv_iload_n hx hb dJ7_fill_53178_12 rfl (lv_at hl 3 rfl) ?_
    refine nb_iast (ws' := [(a0, .inl (y 0, 4096, .inl nz))]) hx hb hK hP hD hS 0 0 rfl rfl (vp_in_nI (by omega) (by decide +kernel)) (by rw [nb_upI (f := nz) (i := Int32.toNatClampNeg (nI i1)) (x := 0) rfl]; rfl) dJ7_fill_53178_13 (fun H locs hP hD hS => ?_)
    refine lv_iinc (v := (nI (i1 + 1))) (lv' := [(2, .int (nI (i1 + 1))), (3, .int 4096), (0, .ref a0), (1, .int 0)]) hx hb dJ7_fill_53178_14 hl (k := 1) rfl (nI_inc i1) (by decide +kernel) rfl (fun ls hl => ?_)
    refine lv_goto (tgt := 5) hx hb dJ7_fill_53178_17 (by decide +kernel) ?_
    exact ih nz H locs ls (hP.sub [0] rfl) (hD.sub [0] (by decide +kernel) rfl) hS (lv_sub hl [1, 0, 2, 3] rfl)
set_option maxRecDepth 100000 in
set_option maxHeartbeats 4000000 in
theorem cX2_addPurse_1 (l : Launch) (D : va_G) (y : Nat → ClassId) (a0 : Nat) (a1 : Nat) (a2 : Nat) (a3 : Nat) (a4 : Nat) (sz : Nat) : Met l yX2_addPurse wsX2_addPurse { frames := 2, cells := 0, slots := 0, locals := 200 } (nPc D y nT [.ref a0, .int 0, .int 0, .int 0] [(a0, .inr (2, [.ref a1, .ref a2, .ref a3, .ref a4])), (a2, .inl (y 1, 2001, .inr (.inl nzl)))] sz) ((fun A => nQv D y (fun _ => True) (fun u => [(a0, .inr (2, [.ref a1, .ref a2, .ref a3, .ref a4])), (a2, .inl (y 1, 2001, .inr (.inl nzl)))]) A) (va_A [(a0, .inr (2, [.ref a1, .ref a2, .ref a3, .ref a4])), (a2, .inl (y 1, 2001, .inr (.inl nzl)))] sz)) 0 0 (va_A [(a0, .inr (2, [.ref a1, .ref a2, .ref a3, .ref a4])), (a2, .inl (y 1, 2001, .inr (.inl nzl)))] sz) := by
  refine nm_ofW (D := D) (y := y) (E := nT) (yy := yX2_addPurse) (wsy := wsX2_addPurse) (rm := { frames := 2, cells := 0, slots := 0, locals := 200 }) (as := [.ref a0, .int 0, .int 0, .int 0]) (ws := [(a0, .inr (2, [.ref a1, .ref a2, .ref a3, .ref a4])), (a2, .inl (y 1, 2001, .inr (.inl nzl)))]) (sz := sz) (mc := 0) (ms := 0) (Qc := fun A => nQv D y (fun _ => True) (fun u => [(a0, .inr (2, [.ref a1, .ref a2, .ref a3, .ref a4])), (a2, .inl (y 1, 2001, .inr (.inl nzl)))]) A) (cc := cX2_addPurse) (maxL := 4) (ret := none) (by decide +kernel) rfl (Nat.le_of_ble_eq_true rfl) ?_
  intro p e s m below meth c A ls H hx hb hr hml hts hown hlocks hnm hsz hP hK hD hA hS hE hAe hl
  replace hl : lv_has ls 4 [(0, .ref a0), (1, .int 0), (2, .int 0), (3, .int 0)] := hl
  have hown : s.vm.findClass RX2 = some m.cls := hown
  have w_0 := hts (.fieldLink RX2 15 "SoldToBehind$Packed" "low" "[J") (gt_k wd_2_29)
  refine lv_iload_n hx hb dX2_addPurse_0 rfl (lv_at hl 2 rfl) ?_
  refine lv_bipush (v := 6) hx hb dX2_addPurse_1 (by decide +kernel) ?_
  refine lv_icmp_ge (tgt := 25) hx hb dX2_addPurse_3 (by decide +kernel) (fun c => absurd c (by decide +kernel)) (fun _ => ?_)
  refine lv_aload_n hx hb dX2_addPurse_6 rfl (lv_at hl 0 rfl) ?_
  refine va_get (D := D) (ci := 2) (v := .ref a2) (C := RX2) (T := TX2) (N := 4) hx hb hts (gt_c iG_X2) hown hK hP 0 rfl rfl 1 (by decide +kernel) w_0 (fun _ h9 => h9) rfl dX2_addPurse_7 ?_
  refine lv_iload_n hx hb dX2_addPurse_10 rfl (lv_at hl 1 rfl) ?_
  refine lv_dup2_11 hx hb dX2_addPurse_11 rfl rfl ?_
  refine va_lald hx hb hK hP 1 1 rfl rfl (n_in (by decide +kernel)) dX2_addPurse_12 ?_
  refine nv_l (v := 0) rfl ?_
  refine lv_iload_n hx hb dX2_addPurse_13 rfl (lv_at hl 3 rfl) ?_
  refine lv_i2l (v := 0) hx hb dX2_addPurse_14 (by decide +kernel) ?_
  refine lv_bipush (v := 10) hx hb dX2_addPurse_15 (by decide +kernel) ?_
  refine lv_iload_n hx hb dX2_addPurse_17 rfl (lv_at hl 2 rfl) ?_
  refine lv_imul hx hb dX2_addPurse_18 ?_
  refine nv_i (v := 0) (by decide +kernel) ?_
  refine lv_lshl hx hb dX2_addPurse_19 rfl ?_
  refine nv_l (v := 0) (by decide +kernel) ?_
  refine lv_ladd hx hb dX2_addPurse_20 ?_
  refine nv_l (v := 0) (by decide +kernel) ?_
  refine nb_last (ws' := [(a0, .inr (2, [.ref a1, .ref a2, .ref a3, .ref a4])), (a2, .inl (y 1, 2001, .inr (.inl nzl)))]) hx hb hK hP hD hS 1 1 rfl rfl (n_in (by decide +kernel)) (by rw [nb_upL (f := nzl) (i := Int32.toNatClampNeg 0) (x := 0) rfl]; rfl) dX2_addPurse_21 (fun H locs hP hD hS => ?_)
  refine lv_goto (tgt := 44) hx hb dX2_addPurse_22 (by decide +kernel) ?_
  refine W.widen (k := 0) (n := 0) (Nat.le_of_ble_eq_true rfl) (Nat.le_of_ble_eq_true rfl) ?_
  exact W.vret hx hb hr (fun t ht hW => ⟨⟨(fun _ => 0), rfl, trivial, by rw [ht]; exact hP, va_K.moved hW.alike hK, hD⟩, hS.F ht⟩) hS.2.2 dX2_addPurse_44 hlocks
set_option maxRecDepth 100000 in
set_option maxHeartbeats 4000000 in
theorem cX2_addSales_1 (l : Launch) (D : va_G) (y : Nat → ClassId) (a0 : Nat) (a1 : Nat) (a2 : Nat) (a3 : Nat) (a4 : Nat) (sz : Nat) : Met l yX2_addSales wsX2_addSales { frames := 2, cells := 0, slots := 0, locals := 200 } (nPc D y nT [.ref a0, .int 0, .int 0, .int 0] [(a0, .inr (2, [.ref a1, .ref a2, .ref a3, .ref a4])), (a4, .inl (y 1, 2001, .inr (.inl nzl)))] sz) ((fun A => nQv D y (fun _ => True) (fun u => [(a0, .inr (2, [.ref a1, .ref a2, .ref a3, .ref a4])), (a4, .inl (y 1, 2001, .inr (.inl nzl)))]) A) (va_A [(a0, .inr (2, [.ref a1, .ref a2, .ref a3, .ref a4])), (a4, .inl (y 1, 2001, .inr (.inl nzl)))] sz)) 0 0 (va_A [(a0, .inr (2, [.ref a1, .ref a2, .ref a3, .ref a4])), (a4, .inl (y 1, 2001, .inr (.inl nzl)))] sz) := by
  refine nm_ofW (D := D) (y := y) (E := nT) (yy := yX2_addSales) (wsy := wsX2_addSales) (rm := { frames := 2, cells := 0, slots := 0, locals := 200 }) (as := [.ref a0, .int 0, .int 0, .int 0]) (ws := [(a0, .inr (2, [.ref a1, .ref a2, .ref a3, .ref a4])), (a4, .inl (y 1, 2001, .inr (.inl nzl)))]) (sz := sz) (mc := 0) (ms := 0) (Qc := fun A => nQv D y (fun _ => True) (fun u => [(a0, .inr (2, [.ref a1, .ref a2, .ref a3, .ref a4])), (a4, .inl (y 1, 2001, .inr (.inl nzl)))]) A) (cc := cX2_addSales) (maxL := 4) (ret := none) (by decide +kernel) rfl (Nat.le_of_ble_eq_true rfl) ?_
  intro p e s m below meth c A ls H hx hb hr hml hts hown hlocks hnm hsz hP hK hD hA hS hE hAe hl
  replace hl : lv_has ls 4 [(0, .ref a0), (1, .int 0), (2, .int 0), (3, .int 0)] := hl
  have hown : s.vm.findClass RX2 = some m.cls := hown
  have w_0 := hts (.fieldLink RX2 22 "SoldToBehind$Packed" "sales" "[J") (gt_k wd_2_31)
  refine lv_aload_n hx hb dX2_addSales_0 rfl (lv_at hl 0 rfl) ?_
  refine va_get (D := D) (ci := 2) (v := .ref a4) (C := RX2) (T := TX2) (N := 4) hx hb hts (gt_c iG_X2) hown hK hP 0 rfl rfl 3 (by decide +kernel) w_0 (fun _ h9 => h9) rfl dX2_addSales_1 ?_
  refine lv_iload_n hx hb dX2_addSales_4 rfl (lv_at hl 1 rfl) ?_
  refine lv_dup2_11 hx hb dX2_addSales_5 rfl rfl ?_
  refine va_lald hx hb hK hP 1 1 rfl rfl (n_in (by decide +kernel)) dX2_addSales_6 ?_
  refine nv_l (v := 0) rfl ?_
  refine lv_iload_n hx hb dX2_addSales_7 rfl (lv_at hl 3 rfl) ?_
  refine lv_i2l (v := 0) hx hb dX2_addSales_8 (by decide +kernel) ?_
  refine lv_bipush (v := 7) hx hb dX2_addSales_9 (by decide +kernel) ?_
  refine lv_iload_n hx hb dX2_addSales_11 rfl (lv_at hl 2 rfl) ?_
  refine lv_imul hx hb dX2_addSales_12 ?_
  refine nv_i (v := 0) (by decide +kernel) ?_
  refine lv_lshl hx hb dX2_addSales_13 rfl ?_
  refine nv_l (v := 0) (by decide +kernel) ?_
  refine lv_ladd hx hb dX2_addSales_14 ?_
  refine nv_l (v := 0) (by decide +kernel) ?_
  refine nb_last (ws' := [(a0, .inr (2, [.ref a1, .ref a2, .ref a3, .ref a4])), (a4, .inl (y 1, 2001, .inr (.inl nzl)))]) hx hb hK hP hD hS 1 1 rfl rfl (n_in (by decide +kernel)) (by rw [nb_upL (f := nzl) (i := Int32.toNatClampNeg 0) (x := 0) rfl]; rfl) dX2_addSales_15 (fun H locs hP hD hS => ?_)
  refine W.widen (k := 0) (n := 0) (Nat.le_of_ble_eq_true rfl) (Nat.le_of_ble_eq_true rfl) ?_
  exact W.vret hx hb hr (fun t ht hW => ⟨⟨(fun _ => 0), rfl, trivial, by rw [ht]; exact hP, va_K.moved hW.alike hK, hD⟩, hS.F ht⟩) hS.2.2 dX2_addSales_16 hlocks
set_option maxRecDepth 100000 in
set_option maxHeartbeats 4000000 in
theorem cX2_addPurse_2 (l : Launch) (D : va_G) (y : Nat → ClassId) (a0 : Nat) (a1 : Nat) (a2 : Nat) (a3 : Nat) (a4 : Nat) (sz : Nat) : Met l yX2_addPurse wsX2_addPurse { frames := 2, cells := 0, slots := 0, locals := 200 } (nPc D y nT [.ref a0, .int 0, .int 1, .int 0] [(a0, .inr (2, [.ref a1, .ref a2, .ref a3, .ref a4])), (a2, .inl (y 1, 2001, .inr (.inl nzl)))] sz) ((fun A => nQv D y (fun _ => True) (fun u => [(a0, .inr (2, [.ref a1, .ref a2, .ref a3, .ref a4])), (a2, .inl (y 1, 2001, .inr (.inl nzl)))]) A) (va_A [(a0, .inr (2, [.ref a1, .ref a2, .ref a3, .ref a4])), (a2, .inl (y 1, 2001, .inr (.inl nzl)))] sz)) 0 0 (va_A [(a0, .inr (2, [.ref a1, .ref a2, .ref a3, .ref a4])), (a2, .inl (y 1, 2001, .inr (.inl nzl)))] sz) := by
  refine nm_ofW (D := D) (y := y) (E := nT) (yy := yX2_addPurse) (wsy := wsX2_addPurse) (rm := { frames := 2, cells := 0, slots := 0, locals := 200 }) (as := [.ref a0, .int 0, .int 1, .int 0]) (ws := [(a0, .inr (2, [.ref a1, .ref a2, .ref a3, .ref a4])), (a2, .inl (y 1, 2001, .inr (.inl nzl)))]) (sz := sz) (mc := 0) (ms := 0) (Qc := fun A => nQv D y (fun _ => True) (fun u => [(a0, .inr (2, [.ref a1, .ref a2, .ref a3, .ref a4])), (a2, .inl (y 1, 2001, .inr (.inl nzl)))]) A) (cc := cX2_addPurse) (maxL := 4) (ret := none) (by decide +kernel) rfl (Nat.le_of_ble_eq_true rfl) ?_
  intro p e s m below meth c A ls H hx hb hr hml hts hown hlocks hnm hsz hP hK hD hA hS hE hAe hl
  replace hl : lv_has ls 4 [(0, .ref a0), (1, .int 0), (2, .int 1), (3, .int 0)] := hl
  have hown : s.vm.findClass RX2 = some m.cls := hown
  have w_0 := hts (.fieldLink RX2 15 "SoldToBehind$Packed" "low" "[J") (gt_k wd_2_29)
  refine lv_iload_n hx hb dX2_addPurse_0 rfl (lv_at hl 2 rfl) ?_
  refine lv_bipush (v := 6) hx hb dX2_addPurse_1 (by decide +kernel) ?_
  refine lv_icmp_ge (tgt := 25) hx hb dX2_addPurse_3 (by decide +kernel) (fun c => absurd c (by decide +kernel)) (fun _ => ?_)
  refine lv_aload_n hx hb dX2_addPurse_6 rfl (lv_at hl 0 rfl) ?_
  refine va_get (D := D) (ci := 2) (v := .ref a2) (C := RX2) (T := TX2) (N := 4) hx hb hts (gt_c iG_X2) hown hK hP 0 rfl rfl 1 (by decide +kernel) w_0 (fun _ h9 => h9) rfl dX2_addPurse_7 ?_
  refine lv_iload_n hx hb dX2_addPurse_10 rfl (lv_at hl 1 rfl) ?_
  refine lv_dup2_11 hx hb dX2_addPurse_11 rfl rfl ?_
  refine va_lald hx hb hK hP 1 1 rfl rfl (n_in (by decide +kernel)) dX2_addPurse_12 ?_
  refine nv_l (v := 0) rfl ?_
  refine lv_iload_n hx hb dX2_addPurse_13 rfl (lv_at hl 3 rfl) ?_
  refine lv_i2l (v := 0) hx hb dX2_addPurse_14 (by decide +kernel) ?_
  refine lv_bipush (v := 10) hx hb dX2_addPurse_15 (by decide +kernel) ?_
  refine lv_iload_n hx hb dX2_addPurse_17 rfl (lv_at hl 2 rfl) ?_
  refine lv_imul hx hb dX2_addPurse_18 ?_
  refine nv_i (v := 10) (by decide +kernel) ?_
  refine lv_lshl hx hb dX2_addPurse_19 rfl ?_
  refine nv_l (v := 0) (by decide +kernel) ?_
  refine lv_ladd hx hb dX2_addPurse_20 ?_
  refine nv_l (v := 0) (by decide +kernel) ?_
  refine nb_last (ws' := [(a0, .inr (2, [.ref a1, .ref a2, .ref a3, .ref a4])), (a2, .inl (y 1, 2001, .inr (.inl nzl)))]) hx hb hK hP hD hS 1 1 rfl rfl (n_in (by decide +kernel)) (by rw [nb_upL (f := nzl) (i := Int32.toNatClampNeg 0) (x := 0) rfl]; rfl) dX2_addPurse_21 (fun H locs hP hD hS => ?_)
  refine lv_goto (tgt := 44) hx hb dX2_addPurse_22 (by decide +kernel) ?_
  refine W.widen (k := 0) (n := 0) (Nat.le_of_ble_eq_true rfl) (Nat.le_of_ble_eq_true rfl) ?_
  exact W.vret hx hb hr (fun t ht hW => ⟨⟨(fun _ => 0), rfl, trivial, by rw [ht]; exact hP, va_K.moved hW.alike hK, hD⟩, hS.F ht⟩) hS.2.2 dX2_addPurse_44 hlocks
set_option maxRecDepth 100000 in
set_option maxHeartbeats 4000000 in
theorem cX2_addSales_2 (l : Launch) (D : va_G) (y : Nat → ClassId) (a0 : Nat) (a1 : Nat) (a2 : Nat) (a3 : Nat) (a4 : Nat) (sz : Nat) : Met l yX2_addSales wsX2_addSales { frames := 2, cells := 0, slots := 0, locals := 200 } (nPc D y nT [.ref a0, .int 0, .int 1, .int 0] [(a0, .inr (2, [.ref a1, .ref a2, .ref a3, .ref a4])), (a4, .inl (y 1, 2001, .inr (.inl nzl)))] sz) ((fun A => nQv D y (fun _ => True) (fun u => [(a0, .inr (2, [.ref a1, .ref a2, .ref a3, .ref a4])), (a4, .inl (y 1, 2001, .inr (.inl nzl)))]) A) (va_A [(a0, .inr (2, [.ref a1, .ref a2, .ref a3, .ref a4])), (a4, .inl (y 1, 2001, .inr (.inl nzl)))] sz)) 0 0 (va_A [(a0, .inr (2, [.ref a1, .ref a2, .ref a3, .ref a4])), (a4, .inl (y 1, 2001, .inr (.inl nzl)))] sz) := by
  refine nm_ofW (D := D) (y := y) (E := nT) (yy := yX2_addSales) (wsy := wsX2_addSales) (rm := { frames := 2, cells := 0, slots := 0, locals := 200 }) (as := [.ref a0, .int 0, .int 1, .int 0]) (ws := [(a0, .inr (2, [.ref a1, .ref a2, .ref a3, .ref a4])), (a4, .inl (y 1, 2001, .inr (.inl nzl)))]) (sz := sz) (mc := 0) (ms := 0) (Qc := fun A => nQv D y (fun _ => True) (fun u => [(a0, .inr (2, [.ref a1, .ref a2, .ref a3, .ref a4])), (a4, .inl (y 1, 2001, .inr (.inl nzl)))]) A) (cc := cX2_addSales) (maxL := 4) (ret := none) (by decide +kernel) rfl (Nat.le_of_ble_eq_true rfl) ?_
  intro p e s m below meth c A ls H hx hb hr hml hts hown hlocks hnm hsz hP hK hD hA hS hE hAe hl
  replace hl : lv_has ls 4 [(0, .ref a0), (1, .int 0), (2, .int 1), (3, .int 0)] := hl
  have hown : s.vm.findClass RX2 = some m.cls := hown
  have w_0 := hts (.fieldLink RX2 22 "SoldToBehind$Packed" "sales" "[J") (gt_k wd_2_31)
  refine lv_aload_n hx hb dX2_addSales_0 rfl (lv_at hl 0 rfl) ?_
  refine va_get (D := D) (ci := 2) (v := .ref a4) (C := RX2) (T := TX2) (N := 4) hx hb hts (gt_c iG_X2) hown hK hP 0 rfl rfl 3 (by decide +kernel) w_0 (fun _ h9 => h9) rfl dX2_addSales_1 ?_
  refine lv_iload_n hx hb dX2_addSales_4 rfl (lv_at hl 1 rfl) ?_
  refine lv_dup2_11 hx hb dX2_addSales_5 rfl rfl ?_
  refine va_lald hx hb hK hP 1 1 rfl rfl (n_in (by decide +kernel)) dX2_addSales_6 ?_
  refine nv_l (v := 0) rfl ?_
  refine lv_iload_n hx hb dX2_addSales_7 rfl (lv_at hl 3 rfl) ?_
  refine lv_i2l (v := 0) hx hb dX2_addSales_8 (by decide +kernel) ?_
  refine lv_bipush (v := 7) hx hb dX2_addSales_9 (by decide +kernel) ?_
  refine lv_iload_n hx hb dX2_addSales_11 rfl (lv_at hl 2 rfl) ?_
  refine lv_imul hx hb dX2_addSales_12 ?_
  refine nv_i (v := 7) (by decide +kernel) ?_
  refine lv_lshl hx hb dX2_addSales_13 rfl ?_
  refine nv_l (v := 0) (by decide +kernel) ?_
  refine lv_ladd hx hb dX2_addSales_14 ?_
  refine nv_l (v := 0) (by decide +kernel) ?_
  refine nb_last (ws' := [(a0, .inr (2, [.ref a1, .ref a2, .ref a3, .ref a4])), (a4, .inl (y 1, 2001, .inr (.inl nzl)))]) hx hb hK hP hD hS 1 1 rfl rfl (n_in (by decide +kernel)) (by rw [nb_upL (f := nzl) (i := Int32.toNatClampNeg 0) (x := 0) rfl]; rfl) dX2_addSales_15 (fun H locs hP hD hS => ?_)
  refine W.widen (k := 0) (n := 0) (Nat.le_of_ble_eq_true rfl) (Nat.le_of_ble_eq_true rfl) ?_
  exact W.vret hx hb hr (fun t ht hW => ⟨⟨(fun _ => 0), rfl, trivial, by rw [ht]; exact hP, va_K.moved hW.alike hK, hD⟩, hS.F ht⟩) hS.2.2 dX2_addSales_16 hlocks
set_option maxRecDepth 100000 in
set_option maxHeartbeats 4000000 in
theorem cX2_addPurse_3 (l : Launch) (D : va_G) (y : Nat → ClassId) (a0 : Nat) (a1 : Nat) (a2 : Nat) (a3 : Nat) (a4 : Nat) (sz : Nat) : Met l yX2_addPurse wsX2_addPurse { frames := 2, cells := 0, slots := 0, locals := 200 } (nPc D y nT [.ref a0, .int 0, .int 2, .int 0] [(a0, .inr (2, [.ref a1, .ref a2, .ref a3, .ref a4])), (a2, .inl (y 1, 2001, .inr (.inl nzl)))] sz) ((fun A => nQv D y (fun _ => True) (fun u => [(a0, .inr (2, [.ref a1, .ref a2, .ref a3, .ref a4])), (a2, .inl (y 1, 2001, .inr (.inl nzl)))]) A) (va_A [(a0, .inr (2, [.ref a1, .ref a2, .ref a3, .ref a4])), (a2, .inl (y 1, 2001, .inr (.inl nzl)))] sz)) 0 0 (va_A [(a0, .inr (2, [.ref a1, .ref a2, .ref a3, .ref a4])), (a2, .inl (y 1, 2001, .inr (.inl nzl)))] sz) := by
  refine nm_ofW (D := D) (y := y) (E := nT) (yy := yX2_addPurse) (wsy := wsX2_addPurse) (rm := { frames := 2, cells := 0, slots := 0, locals := 200 }) (as := [.ref a0, .int 0, .int 2, .int 0]) (ws := [(a0, .inr (2, [.ref a1, .ref a2, .ref a3, .ref a4])), (a2, .inl (y 1, 2001, .inr (.inl nzl)))]) (sz := sz) (mc := 0) (ms := 0) (Qc := fun A => nQv D y (fun _ => True) (fun u => [(a0, .inr (2, [.ref a1, .ref a2, .ref a3, .ref a4])), (a2, .inl (y 1, 2001, .inr (.inl nzl)))]) A) (cc := cX2_addPurse) (maxL := 4) (ret := none) (by decide +kernel) rfl (Nat.le_of_ble_eq_true rfl) ?_
  intro p e s m below meth c A ls H hx hb hr hml hts hown hlocks hnm hsz hP hK hD hA hS hE hAe hl
  replace hl : lv_has ls 4 [(0, .ref a0), (1, .int 0), (2, .int 2), (3, .int 0)] := hl
  have hown : s.vm.findClass RX2 = some m.cls := hown
  have w_0 := hts (.fieldLink RX2 15 "SoldToBehind$Packed" "low" "[J") (gt_k wd_2_29)
  refine lv_iload_n hx hb dX2_addPurse_0 rfl (lv_at hl 2 rfl) ?_
  refine lv_bipush (v := 6) hx hb dX2_addPurse_1 (by decide +kernel) ?_
  refine lv_icmp_ge (tgt := 25) hx hb dX2_addPurse_3 (by decide +kernel) (fun c => absurd c (by decide +kernel)) (fun _ => ?_)
  refine lv_aload_n hx hb dX2_addPurse_6 rfl (lv_at hl 0 rfl) ?_
  refine va_get (D := D) (ci := 2) (v := .ref a2) (C := RX2) (T := TX2) (N := 4) hx hb hts (gt_c iG_X2) hown hK hP 0 rfl rfl 1 (by decide +kernel) w_0 (fun _ h9 => h9) rfl dX2_addPurse_7 ?_
  refine lv_iload_n hx hb dX2_addPurse_10 rfl (lv_at hl 1 rfl) ?_
  refine lv_dup2_11 hx hb dX2_addPurse_11 rfl rfl ?_
  refine va_lald hx hb hK hP 1 1 rfl rfl (n_in (by decide +kernel)) dX2_addPurse_12 ?_
  refine nv_l (v := 0) rfl ?_
  refine lv_iload_n hx hb dX2_addPurse_13 rfl (lv_at hl 3 rfl) ?_
  refine lv_i2l (v := 0) hx hb dX2_addPurse_14 (by decide +kernel) ?_
  refine lv_bipush (v := 10) hx hb dX2_addPurse_15 (by decide +kernel) ?_
  refine lv_iload_n hx hb dX2_addPurse_17 rfl (lv_at hl 2 rfl) ?_
  refine lv_imul hx hb dX2_addPurse_18 ?_
  refine nv_i (v := 20) (by decide +kernel) ?_
  refine lv_lshl hx hb dX2_addPurse_19 rfl ?_
  refine nv_l (v := 0) (by decide +kernel) ?_
  refine lv_ladd hx hb dX2_addPurse_20 ?_
  refine nv_l (v := 0) (by decide +kernel) ?_
  refine nb_last (ws' := [(a0, .inr (2, [.ref a1, .ref a2, .ref a3, .ref a4])), (a2, .inl (y 1, 2001, .inr (.inl nzl)))]) hx hb hK hP hD hS 1 1 rfl rfl (n_in (by decide +kernel)) (by rw [nb_upL (f := nzl) (i := Int32.toNatClampNeg 0) (x := 0) rfl]; rfl) dX2_addPurse_21 (fun H locs hP hD hS => ?_)
  refine lv_goto (tgt := 44) hx hb dX2_addPurse_22 (by decide +kernel) ?_
  refine W.widen (k := 0) (n := 0) (Nat.le_of_ble_eq_true rfl) (Nat.le_of_ble_eq_true rfl) ?_
  exact W.vret hx hb hr (fun t ht hW => ⟨⟨(fun _ => 0), rfl, trivial, by rw [ht]; exact hP, va_K.moved hW.alike hK, hD⟩, hS.F ht⟩) hS.2.2 dX2_addPurse_44 hlocks
set_option maxRecDepth 100000 in
set_option maxHeartbeats 4000000 in
theorem cX2_addSales_3 (l : Launch) (D : va_G) (y : Nat → ClassId) (a0 : Nat) (a1 : Nat) (a2 : Nat) (a3 : Nat) (a4 : Nat) (sz : Nat) : Met l yX2_addSales wsX2_addSales { frames := 2, cells := 0, slots := 0, locals := 200 } (nPc D y nT [.ref a0, .int 0, .int 2, .int 0] [(a0, .inr (2, [.ref a1, .ref a2, .ref a3, .ref a4])), (a4, .inl (y 1, 2001, .inr (.inl nzl)))] sz) ((fun A => nQv D y (fun _ => True) (fun u => [(a0, .inr (2, [.ref a1, .ref a2, .ref a3, .ref a4])), (a4, .inl (y 1, 2001, .inr (.inl nzl)))]) A) (va_A [(a0, .inr (2, [.ref a1, .ref a2, .ref a3, .ref a4])), (a4, .inl (y 1, 2001, .inr (.inl nzl)))] sz)) 0 0 (va_A [(a0, .inr (2, [.ref a1, .ref a2, .ref a3, .ref a4])), (a4, .inl (y 1, 2001, .inr (.inl nzl)))] sz) := by
  refine nm_ofW (D := D) (y := y) (E := nT) (yy := yX2_addSales) (wsy := wsX2_addSales) (rm := { frames := 2, cells := 0, slots := 0, locals := 200 }) (as := [.ref a0, .int 0, .int 2, .int 0]) (ws := [(a0, .inr (2, [.ref a1, .ref a2, .ref a3, .ref a4])), (a4, .inl (y 1, 2001, .inr (.inl nzl)))]) (sz := sz) (mc := 0) (ms := 0) (Qc := fun A => nQv D y (fun _ => True) (fun u => [(a0, .inr (2, [.ref a1, .ref a2, .ref a3, .ref a4])), (a4, .inl (y 1, 2001, .inr (.inl nzl)))]) A) (cc := cX2_addSales) (maxL := 4) (ret := none) (by decide +kernel) rfl (Nat.le_of_ble_eq_true rfl) ?_
  intro p e s m below meth c A ls H hx hb hr hml hts hown hlocks hnm hsz hP hK hD hA hS hE hAe hl
  replace hl : lv_has ls 4 [(0, .ref a0), (1, .int 0), (2, .int 2), (3, .int 0)] := hl
  have hown : s.vm.findClass RX2 = some m.cls := hown
  have w_0 := hts (.fieldLink RX2 22 "SoldToBehind$Packed" "sales" "[J") (gt_k wd_2_31)
  refine lv_aload_n hx hb dX2_addSales_0 rfl (lv_at hl 0 rfl) ?_
  refine va_get (D := D) (ci := 2) (v := .ref a4) (C := RX2) (T := TX2) (N := 4) hx hb hts (gt_c iG_X2) hown hK hP 0 rfl rfl 3 (by decide +kernel) w_0 (fun _ h9 => h9) rfl dX2_addSales_1 ?_
  refine lv_iload_n hx hb dX2_addSales_4 rfl (lv_at hl 1 rfl) ?_
  refine lv_dup2_11 hx hb dX2_addSales_5 rfl rfl ?_
  refine va_lald hx hb hK hP 1 1 rfl rfl (n_in (by decide +kernel)) dX2_addSales_6 ?_
  refine nv_l (v := 0) rfl ?_
  refine lv_iload_n hx hb dX2_addSales_7 rfl (lv_at hl 3 rfl) ?_
  refine lv_i2l (v := 0) hx hb dX2_addSales_8 (by decide +kernel) ?_
  refine lv_bipush (v := 7) hx hb dX2_addSales_9 (by decide +kernel) ?_
  refine lv_iload_n hx hb dX2_addSales_11 rfl (lv_at hl 2 rfl) ?_
  refine lv_imul hx hb dX2_addSales_12 ?_
  refine nv_i (v := 14) (by decide +kernel) ?_
  refine lv_lshl hx hb dX2_addSales_13 rfl ?_
  refine nv_l (v := 0) (by decide +kernel) ?_
  refine lv_ladd hx hb dX2_addSales_14 ?_
  refine nv_l (v := 0) (by decide +kernel) ?_
  refine nb_last (ws' := [(a0, .inr (2, [.ref a1, .ref a2, .ref a3, .ref a4])), (a4, .inl (y 1, 2001, .inr (.inl nzl)))]) hx hb hK hP hD hS 1 1 rfl rfl (n_in (by decide +kernel)) (by rw [nb_upL (f := nzl) (i := Int32.toNatClampNeg 0) (x := 0) rfl]; rfl) dX2_addSales_15 (fun H locs hP hD hS => ?_)
  refine W.widen (k := 0) (n := 0) (Nat.le_of_ble_eq_true rfl) (Nat.le_of_ble_eq_true rfl) ?_
  exact W.vret hx hb hr (fun t ht hW => ⟨⟨(fun _ => 0), rfl, trivial, by rw [ht]; exact hP, va_K.moved hW.alike hK, hD⟩, hS.F ht⟩) hS.2.2 dX2_addSales_16 hlocks
set_option maxRecDepth 100000 in
set_option maxHeartbeats 4000000 in
theorem cX2_addPurse_4 (l : Launch) (D : va_G) (y : Nat → ClassId) (a0 : Nat) (a1 : Nat) (a2 : Nat) (a3 : Nat) (a4 : Nat) (sz : Nat) : Met l yX2_addPurse wsX2_addPurse { frames := 2, cells := 0, slots := 0, locals := 200 } (nPc D y nT [.ref a0, .int 0, .int 3, .int 0] [(a0, .inr (2, [.ref a1, .ref a2, .ref a3, .ref a4])), (a2, .inl (y 1, 2001, .inr (.inl nzl)))] sz) ((fun A => nQv D y (fun _ => True) (fun u => [(a0, .inr (2, [.ref a1, .ref a2, .ref a3, .ref a4])), (a2, .inl (y 1, 2001, .inr (.inl nzl)))]) A) (va_A [(a0, .inr (2, [.ref a1, .ref a2, .ref a3, .ref a4])), (a2, .inl (y 1, 2001, .inr (.inl nzl)))] sz)) 0 0 (va_A [(a0, .inr (2, [.ref a1, .ref a2, .ref a3, .ref a4])), (a2, .inl (y 1, 2001, .inr (.inl nzl)))] sz) := by
  refine nm_ofW (D := D) (y := y) (E := nT) (yy := yX2_addPurse) (wsy := wsX2_addPurse) (rm := { frames := 2, cells := 0, slots := 0, locals := 200 }) (as := [.ref a0, .int 0, .int 3, .int 0]) (ws := [(a0, .inr (2, [.ref a1, .ref a2, .ref a3, .ref a4])), (a2, .inl (y 1, 2001, .inr (.inl nzl)))]) (sz := sz) (mc := 0) (ms := 0) (Qc := fun A => nQv D y (fun _ => True) (fun u => [(a0, .inr (2, [.ref a1, .ref a2, .ref a3, .ref a4])), (a2, .inl (y 1, 2001, .inr (.inl nzl)))]) A) (cc := cX2_addPurse) (maxL := 4) (ret := none) (by decide +kernel) rfl (Nat.le_of_ble_eq_true rfl) ?_
  intro p e s m below meth c A ls H hx hb hr hml hts hown hlocks hnm hsz hP hK hD hA hS hE hAe hl
  replace hl : lv_has ls 4 [(0, .ref a0), (1, .int 0), (2, .int 3), (3, .int 0)] := hl
  have hown : s.vm.findClass RX2 = some m.cls := hown
  have w_0 := hts (.fieldLink RX2 15 "SoldToBehind$Packed" "low" "[J") (gt_k wd_2_29)
  refine lv_iload_n hx hb dX2_addPurse_0 rfl (lv_at hl 2 rfl) ?_
  refine lv_bipush (v := 6) hx hb dX2_addPurse_1 (by decide +kernel) ?_
  refine lv_icmp_ge (tgt := 25) hx hb dX2_addPurse_3 (by decide +kernel) (fun c => absurd c (by decide +kernel)) (fun _ => ?_)
  refine lv_aload_n hx hb dX2_addPurse_6 rfl (lv_at hl 0 rfl) ?_
  refine va_get (D := D) (ci := 2) (v := .ref a2) (C := RX2) (T := TX2) (N := 4) hx hb hts (gt_c iG_X2) hown hK hP 0 rfl rfl 1 (by decide +kernel) w_0 (fun _ h9 => h9) rfl dX2_addPurse_7 ?_
  refine lv_iload_n hx hb dX2_addPurse_10 rfl (lv_at hl 1 rfl) ?_
  refine lv_dup2_11 hx hb dX2_addPurse_11 rfl rfl ?_
  refine va_lald hx hb hK hP 1 1 rfl rfl (n_in (by decide +kernel)) dX2_addPurse_12 ?_
  refine nv_l (v := 0) rfl ?_
  refine lv_iload_n hx hb dX2_addPurse_13 rfl (lv_at hl 3 rfl) ?_
  refine lv_i2l (v := 0) hx hb dX2_addPurse_14 (by decide +kernel) ?_
  refine lv_bipush (v := 10) hx hb dX2_addPurse_15 (by decide +kernel) ?_
  refine lv_iload_n hx hb dX2_addPurse_17 rfl (lv_at hl 2 rfl) ?_
  refine lv_imul hx hb dX2_addPurse_18 ?_
  refine nv_i (v := 30) (by decide +kernel) ?_
  refine lv_lshl hx hb dX2_addPurse_19 rfl ?_
  refine nv_l (v := 0) (by decide +kernel) ?_
  refine lv_ladd hx hb dX2_addPurse_20 ?_
  refine nv_l (v := 0) (by decide +kernel) ?_
  refine nb_last (ws' := [(a0, .inr (2, [.ref a1, .ref a2, .ref a3, .ref a4])), (a2, .inl (y 1, 2001, .inr (.inl nzl)))]) hx hb hK hP hD hS 1 1 rfl rfl (n_in (by decide +kernel)) (by rw [nb_upL (f := nzl) (i := Int32.toNatClampNeg 0) (x := 0) rfl]; rfl) dX2_addPurse_21 (fun H locs hP hD hS => ?_)
  refine lv_goto (tgt := 44) hx hb dX2_addPurse_22 (by decide +kernel) ?_
  refine W.widen (k := 0) (n := 0) (Nat.le_of_ble_eq_true rfl) (Nat.le_of_ble_eq_true rfl) ?_
  exact W.vret hx hb hr (fun t ht hW => ⟨⟨(fun _ => 0), rfl, trivial, by rw [ht]; exact hP, va_K.moved hW.alike hK, hD⟩, hS.F ht⟩) hS.2.2 dX2_addPurse_44 hlocks
set_option maxRecDepth 100000 in
set_option maxHeartbeats 4000000 in
theorem cX2_addSales_4 (l : Launch) (D : va_G) (y : Nat → ClassId) (a0 : Nat) (a1 : Nat) (a2 : Nat) (a3 : Nat) (a4 : Nat) (sz : Nat) : Met l yX2_addSales wsX2_addSales { frames := 2, cells := 0, slots := 0, locals := 200 } (nPc D y nT [.ref a0, .int 0, .int 3, .int 0] [(a0, .inr (2, [.ref a1, .ref a2, .ref a3, .ref a4])), (a4, .inl (y 1, 2001, .inr (.inl nzl)))] sz) ((fun A => nQv D y (fun _ => True) (fun u => [(a0, .inr (2, [.ref a1, .ref a2, .ref a3, .ref a4])), (a4, .inl (y 1, 2001, .inr (.inl nzl)))]) A) (va_A [(a0, .inr (2, [.ref a1, .ref a2, .ref a3, .ref a4])), (a4, .inl (y 1, 2001, .inr (.inl nzl)))] sz)) 0 0 (va_A [(a0, .inr (2, [.ref a1, .ref a2, .ref a3, .ref a4])), (a4, .inl (y 1, 2001, .inr (.inl nzl)))] sz) := by
  refine nm_ofW (D := D) (y := y) (E := nT) (yy := yX2_addSales) (wsy := wsX2_addSales) (rm := { frames := 2, cells := 0, slots := 0, locals := 200 }) (as := [.ref a0, .int 0, .int 3, .int 0]) (ws := [(a0, .inr (2, [.ref a1, .ref a2, .ref a3, .ref a4])), (a4, .inl (y 1, 2001, .inr (.inl nzl)))]) (sz := sz) (mc := 0) (ms := 0) (Qc := fun A => nQv D y (fun _ => True) (fun u => [(a0, .inr (2, [.ref a1, .ref a2, .ref a3, .ref a4])), (a4, .inl (y 1, 2001, .inr (.inl nzl)))]) A) (cc := cX2_addSales) (maxL := 4) (ret := none) (by decide +kernel) rfl (Nat.le_of_ble_eq_true rfl) ?_
  intro p e s m below meth c A ls H hx hb hr hml hts hown hlocks hnm hsz hP hK hD hA hS hE hAe hl
  replace hl : lv_has ls 4 [(0, .ref a0), (1, .int 0), (2, .int 3), (3, .int 0)] := hl
  have hown : s.vm.findClass RX2 = some m.cls := hown
  have w_0 := hts (.fieldLink RX2 22 "SoldToBehind$Packed" "sales" "[J") (gt_k wd_2_31)
  refine lv_aload_n hx hb dX2_addSales_0 rfl (lv_at hl 0 rfl) ?_
  refine va_get (D := D) (ci := 2) (v := .ref a4) (C := RX2) (T := TX2) (N := 4) hx hb hts (gt_c iG_X2) hown hK hP 0 rfl rfl 3 (by decide +kernel) w_0 (fun _ h9 => h9) rfl dX2_addSales_1 ?_
  refine lv_iload_n hx hb dX2_addSales_4 rfl (lv_at hl 1 rfl) ?_
  refine lv_dup2_11 hx hb dX2_addSales_5 rfl rfl ?_
  refine va_lald hx hb hK hP 1 1 rfl rfl (n_in (by decide +kernel)) dX2_addSales_6 ?_
  refine nv_l (v := 0) rfl ?_
  refine lv_iload_n hx hb dX2_addSales_7 rfl (lv_at hl 3 rfl) ?_
  refine lv_i2l (v := 0) hx hb dX2_addSales_8 (by decide +kernel) ?_
  refine lv_bipush (v := 7) hx hb dX2_addSales_9 (by decide +kernel) ?_
  refine lv_iload_n hx hb dX2_addSales_11 rfl (lv_at hl 2 rfl) ?_
  refine lv_imul hx hb dX2_addSales_12 ?_
  refine nv_i (v := 21) (by decide +kernel) ?_
  refine lv_lshl hx hb dX2_addSales_13 rfl ?_
  refine nv_l (v := 0) (by decide +kernel) ?_
  refine lv_ladd hx hb dX2_addSales_14 ?_
  refine nv_l (v := 0) (by decide +kernel) ?_
  refine nb_last (ws' := [(a0, .inr (2, [.ref a1, .ref a2, .ref a3, .ref a4])), (a4, .inl (y 1, 2001, .inr (.inl nzl)))]) hx hb hK hP hD hS 1 1 rfl rfl (n_in (by decide +kernel)) (by rw [nb_upL (f := nzl) (i := Int32.toNatClampNeg 0) (x := 0) rfl]; rfl) dX2_addSales_15 (fun H locs hP hD hS => ?_)
  refine W.widen (k := 0) (n := 0) (Nat.le_of_ble_eq_true rfl) (Nat.le_of_ble_eq_true rfl) ?_
  exact W.vret hx hb hr (fun t ht hW => ⟨⟨(fun _ => 0), rfl, trivial, by rw [ht]; exact hP, va_K.moved hW.alike hK, hD⟩, hS.F ht⟩) hS.2.2 dX2_addSales_16 hlocks
set_option maxRecDepth 100000 in
set_option maxHeartbeats 4000000 in
theorem cX2_addPurse_5 (l : Launch) (D : va_G) (y : Nat → ClassId) (a0 : Nat) (a1 : Nat) (a2 : Nat) (a3 : Nat) (a4 : Nat) (sz : Nat) : Met l yX2_addPurse wsX2_addPurse { frames := 2, cells := 0, slots := 0, locals := 200 } (nPc D y nT [.ref a0, .int 0, .int 4, .int 0] [(a0, .inr (2, [.ref a1, .ref a2, .ref a3, .ref a4])), (a2, .inl (y 1, 2001, .inr (.inl nzl)))] sz) ((fun A => nQv D y (fun _ => True) (fun u => [(a0, .inr (2, [.ref a1, .ref a2, .ref a3, .ref a4])), (a2, .inl (y 1, 2001, .inr (.inl nzl)))]) A) (va_A [(a0, .inr (2, [.ref a1, .ref a2, .ref a3, .ref a4])), (a2, .inl (y 1, 2001, .inr (.inl nzl)))] sz)) 0 0 (va_A [(a0, .inr (2, [.ref a1, .ref a2, .ref a3, .ref a4])), (a2, .inl (y 1, 2001, .inr (.inl nzl)))] sz) := by
  refine nm_ofW (D := D) (y := y) (E := nT) (yy := yX2_addPurse) (wsy := wsX2_addPurse) (rm := { frames := 2, cells := 0, slots := 0, locals := 200 }) (as := [.ref a0, .int 0, .int 4, .int 0]) (ws := [(a0, .inr (2, [.ref a1, .ref a2, .ref a3, .ref a4])), (a2, .inl (y 1, 2001, .inr (.inl nzl)))]) (sz := sz) (mc := 0) (ms := 0) (Qc := fun A => nQv D y (fun _ => True) (fun u => [(a0, .inr (2, [.ref a1, .ref a2, .ref a3, .ref a4])), (a2, .inl (y 1, 2001, .inr (.inl nzl)))]) A) (cc := cX2_addPurse) (maxL := 4) (ret := none) (by decide +kernel) rfl (Nat.le_of_ble_eq_true rfl) ?_
  intro p e s m below meth c A ls H hx hb hr hml hts hown hlocks hnm hsz hP hK hD hA hS hE hAe hl
  replace hl : lv_has ls 4 [(0, .ref a0), (1, .int 0), (2, .int 4), (3, .int 0)] := hl
  have hown : s.vm.findClass RX2 = some m.cls := hown
  have w_0 := hts (.fieldLink RX2 15 "SoldToBehind$Packed" "low" "[J") (gt_k wd_2_29)
  refine lv_iload_n hx hb dX2_addPurse_0 rfl (lv_at hl 2 rfl) ?_
  refine lv_bipush (v := 6) hx hb dX2_addPurse_1 (by decide +kernel) ?_
  refine lv_icmp_ge (tgt := 25) hx hb dX2_addPurse_3 (by decide +kernel) (fun c => absurd c (by decide +kernel)) (fun _ => ?_)
  refine lv_aload_n hx hb dX2_addPurse_6 rfl (lv_at hl 0 rfl) ?_
  refine va_get (D := D) (ci := 2) (v := .ref a2) (C := RX2) (T := TX2) (N := 4) hx hb hts (gt_c iG_X2) hown hK hP 0 rfl rfl 1 (by decide +kernel) w_0 (fun _ h9 => h9) rfl dX2_addPurse_7 ?_
  refine lv_iload_n hx hb dX2_addPurse_10 rfl (lv_at hl 1 rfl) ?_
  refine lv_dup2_11 hx hb dX2_addPurse_11 rfl rfl ?_
  refine va_lald hx hb hK hP 1 1 rfl rfl (n_in (by decide +kernel)) dX2_addPurse_12 ?_
  refine nv_l (v := 0) rfl ?_
  refine lv_iload_n hx hb dX2_addPurse_13 rfl (lv_at hl 3 rfl) ?_
  refine lv_i2l (v := 0) hx hb dX2_addPurse_14 (by decide +kernel) ?_
  refine lv_bipush (v := 10) hx hb dX2_addPurse_15 (by decide +kernel) ?_
  refine lv_iload_n hx hb dX2_addPurse_17 rfl (lv_at hl 2 rfl) ?_
  refine lv_imul hx hb dX2_addPurse_18 ?_
  refine nv_i (v := 40) (by decide +kernel) ?_
  refine lv_lshl hx hb dX2_addPurse_19 rfl ?_
  refine nv_l (v := 0) (by decide +kernel) ?_
  refine lv_ladd hx hb dX2_addPurse_20 ?_
  refine nv_l (v := 0) (by decide +kernel) ?_
  refine nb_last (ws' := [(a0, .inr (2, [.ref a1, .ref a2, .ref a3, .ref a4])), (a2, .inl (y 1, 2001, .inr (.inl nzl)))]) hx hb hK hP hD hS 1 1 rfl rfl (n_in (by decide +kernel)) (by rw [nb_upL (f := nzl) (i := Int32.toNatClampNeg 0) (x := 0) rfl]; rfl) dX2_addPurse_21 (fun H locs hP hD hS => ?_)
  refine lv_goto (tgt := 44) hx hb dX2_addPurse_22 (by decide +kernel) ?_
  refine W.widen (k := 0) (n := 0) (Nat.le_of_ble_eq_true rfl) (Nat.le_of_ble_eq_true rfl) ?_
  exact W.vret hx hb hr (fun t ht hW => ⟨⟨(fun _ => 0), rfl, trivial, by rw [ht]; exact hP, va_K.moved hW.alike hK, hD⟩, hS.F ht⟩) hS.2.2 dX2_addPurse_44 hlocks
set_option maxRecDepth 100000 in
set_option maxHeartbeats 4000000 in
theorem cX2_addSales_5 (l : Launch) (D : va_G) (y : Nat → ClassId) (a0 : Nat) (a1 : Nat) (a2 : Nat) (a3 : Nat) (a4 : Nat) (sz : Nat) : Met l yX2_addSales wsX2_addSales { frames := 2, cells := 0, slots := 0, locals := 200 } (nPc D y nT [.ref a0, .int 0, .int 4, .int 0] [(a0, .inr (2, [.ref a1, .ref a2, .ref a3, .ref a4])), (a4, .inl (y 1, 2001, .inr (.inl nzl)))] sz) ((fun A => nQv D y (fun _ => True) (fun u => [(a0, .inr (2, [.ref a1, .ref a2, .ref a3, .ref a4])), (a4, .inl (y 1, 2001, .inr (.inl nzl)))]) A) (va_A [(a0, .inr (2, [.ref a1, .ref a2, .ref a3, .ref a4])), (a4, .inl (y 1, 2001, .inr (.inl nzl)))] sz)) 0 0 (va_A [(a0, .inr (2, [.ref a1, .ref a2, .ref a3, .ref a4])), (a4, .inl (y 1, 2001, .inr (.inl nzl)))] sz) := by
  refine nm_ofW (D := D) (y := y) (E := nT) (yy := yX2_addSales) (wsy := wsX2_addSales) (rm := { frames := 2, cells := 0, slots := 0, locals := 200 }) (as := [.ref a0, .int 0, .int 4, .int 0]) (ws := [(a0, .inr (2, [.ref a1, .ref a2, .ref a3, .ref a4])), (a4, .inl (y 1, 2001, .inr (.inl nzl)))]) (sz := sz) (mc := 0) (ms := 0) (Qc := fun A => nQv D y (fun _ => True) (fun u => [(a0, .inr (2, [.ref a1, .ref a2, .ref a3, .ref a4])), (a4, .inl (y 1, 2001, .inr (.inl nzl)))]) A) (cc := cX2_addSales) (maxL := 4) (ret := none) (by decide +kernel) rfl (Nat.le_of_ble_eq_true rfl) ?_
  intro p e s m below meth c A ls H hx hb hr hml hts hown hlocks hnm hsz hP hK hD hA hS hE hAe hl
  replace hl : lv_has ls 4 [(0, .ref a0), (1, .int 0), (2, .int 4), (3, .int 0)] := hl
  have hown : s.vm.findClass RX2 = some m.cls := hown
  have w_0 := hts (.fieldLink RX2 22 "SoldToBehind$Packed" "sales" "[J") (gt_k wd_2_31)
  refine lv_aload_n hx hb dX2_addSales_0 rfl (lv_at hl 0 rfl) ?_
  refine va_get (D := D) (ci := 2) (v := .ref a4) (C := RX2) (T := TX2) (N := 4) hx hb hts (gt_c iG_X2) hown hK hP 0 rfl rfl 3 (by decide +kernel) w_0 (fun _ h9 => h9) rfl dX2_addSales_1 ?_
  refine lv_iload_n hx hb dX2_addSales_4 rfl (lv_at hl 1 rfl) ?_
  refine lv_dup2_11 hx hb dX2_addSales_5 rfl rfl ?_
  refine va_lald hx hb hK hP 1 1 rfl rfl (n_in (by decide +kernel)) dX2_addSales_6 ?_
  refine nv_l (v := 0) rfl ?_
  refine lv_iload_n hx hb dX2_addSales_7 rfl (lv_at hl 3 rfl) ?_
  refine lv_i2l (v := 0) hx hb dX2_addSales_8 (by decide +kernel) ?_
  refine lv_bipush (v := 7) hx hb dX2_addSales_9 (by decide +kernel) ?_
  refine lv_iload_n hx hb dX2_addSales_11 rfl (lv_at hl 2 rfl) ?_
  refine lv_imul hx hb dX2_addSales_12 ?_
  refine nv_i (v := 28) (by decide +kernel) ?_
  refine lv_lshl hx hb dX2_addSales_13 rfl ?_
  refine nv_l (v := 0) (by decide +kernel) ?_
  refine lv_ladd hx hb dX2_addSales_14 ?_
  refine nv_l (v := 0) (by decide +kernel) ?_
  refine nb_last (ws' := [(a0, .inr (2, [.ref a1, .ref a2, .ref a3, .ref a4])), (a4, .inl (y 1, 2001, .inr (.inl nzl)))]) hx hb hK hP hD hS 1 1 rfl rfl (n_in (by decide +kernel)) (by rw [nb_upL (f := nzl) (i := Int32.toNatClampNeg 0) (x := 0) rfl]; rfl) dX2_addSales_15 (fun H locs hP hD hS => ?_)
  refine W.widen (k := 0) (n := 0) (Nat.le_of_ble_eq_true rfl) (Nat.le_of_ble_eq_true rfl) ?_
  exact W.vret hx hb hr (fun t ht hW => ⟨⟨(fun _ => 0), rfl, trivial, by rw [ht]; exact hP, va_K.moved hW.alike hK, hD⟩, hS.F ht⟩) hS.2.2 dX2_addSales_16 hlocks
set_option maxRecDepth 100000 in
set_option maxHeartbeats 4000000 in
theorem cX2_addPurse_6 (l : Launch) (D : va_G) (y : Nat → ClassId) (a0 : Nat) (a1 : Nat) (a2 : Nat) (a3 : Nat) (a4 : Nat) (sz : Nat) : Met l yX2_addPurse wsX2_addPurse { frames := 2, cells := 0, slots := 0, locals := 200 } (nPc D y nT [.ref a0, .int 0, .int 5, .int 0] [(a0, .inr (2, [.ref a1, .ref a2, .ref a3, .ref a4])), (a2, .inl (y 1, 2001, .inr (.inl nzl)))] sz) ((fun A => nQv D y (fun _ => True) (fun u => [(a0, .inr (2, [.ref a1, .ref a2, .ref a3, .ref a4])), (a2, .inl (y 1, 2001, .inr (.inl nzl)))]) A) (va_A [(a0, .inr (2, [.ref a1, .ref a2, .ref a3, .ref a4])), (a2, .inl (y 1, 2001, .inr (.inl nzl)))] sz)) 0 0 (va_A [(a0, .inr (2, [.ref a1, .ref a2, .ref a3, .ref a4])), (a2, .inl (y 1, 2001, .inr (.inl nzl)))] sz) := by
  refine nm_ofW (D := D) (y := y) (E := nT) (yy := yX2_addPurse) (wsy := wsX2_addPurse) (rm := { frames := 2, cells := 0, slots := 0, locals := 200 }) (as := [.ref a0, .int 0, .int 5, .int 0]) (ws := [(a0, .inr (2, [.ref a1, .ref a2, .ref a3, .ref a4])), (a2, .inl (y 1, 2001, .inr (.inl nzl)))]) (sz := sz) (mc := 0) (ms := 0) (Qc := fun A => nQv D y (fun _ => True) (fun u => [(a0, .inr (2, [.ref a1, .ref a2, .ref a3, .ref a4])), (a2, .inl (y 1, 2001, .inr (.inl nzl)))]) A) (cc := cX2_addPurse) (maxL := 4) (ret := none) (by decide +kernel) rfl (Nat.le_of_ble_eq_true rfl) ?_
  intro p e s m below meth c A ls H hx hb hr hml hts hown hlocks hnm hsz hP hK hD hA hS hE hAe hl
  replace hl : lv_has ls 4 [(0, .ref a0), (1, .int 0), (2, .int 5), (3, .int 0)] := hl
  have hown : s.vm.findClass RX2 = some m.cls := hown
  have w_0 := hts (.fieldLink RX2 15 "SoldToBehind$Packed" "low" "[J") (gt_k wd_2_29)
  refine lv_iload_n hx hb dX2_addPurse_0 rfl (lv_at hl 2 rfl) ?_
  refine lv_bipush (v := 6) hx hb dX2_addPurse_1 (by decide +kernel) ?_
  refine lv_icmp_ge (tgt := 25) hx hb dX2_addPurse_3 (by decide +kernel) (fun c => absurd c (by decide +kernel)) (fun _ => ?_)
  refine lv_aload_n hx hb dX2_addPurse_6 rfl (lv_at hl 0 rfl) ?_
  refine va_get (D := D) (ci := 2) (v := .ref a2) (C := RX2) (T := TX2) (N := 4) hx hb hts (gt_c iG_X2) hown hK hP 0 rfl rfl 1 (by decide +kernel) w_0 (fun _ h9 => h9) rfl dX2_addPurse_7 ?_
  refine lv_iload_n hx hb dX2_addPurse_10 rfl (lv_at hl 1 rfl) ?_
  refine lv_dup2_11 hx hb dX2_addPurse_11 rfl rfl ?_
  refine va_lald hx hb hK hP 1 1 rfl rfl (n_in (by decide +kernel)) dX2_addPurse_12 ?_
  refine nv_l (v := 0) rfl ?_
  refine lv_iload_n hx hb dX2_addPurse_13 rfl (lv_at hl 3 rfl) ?_
  refine lv_i2l (v := 0) hx hb dX2_addPurse_14 (by decide +kernel) ?_
  refine lv_bipush (v := 10) hx hb dX2_addPurse_15 (by decide +kernel) ?_
  refine lv_iload_n hx hb dX2_addPurse_17 rfl (lv_at hl 2 rfl) ?_
  refine lv_imul hx hb dX2_addPurse_18 ?_
  refine nv_i (v := 50) (by decide +kernel) ?_
  refine lv_lshl hx hb dX2_addPurse_19 rfl ?_
  refine nv_l (v := 0) (by decide +kernel) ?_
  refine lv_ladd hx hb dX2_addPurse_20 ?_
  refine nv_l (v := 0) (by decide +kernel) ?_
  refine nb_last (ws' := [(a0, .inr (2, [.ref a1, .ref a2, .ref a3, .ref a4])), (a2, .inl (y 1, 2001, .inr (.inl nzl)))]) hx hb hK hP hD hS 1 1 rfl rfl (n_in (by decide +kernel)) (by rw [nb_upL (f := nzl) (i := Int32.toNatClampNeg 0) (x := 0) rfl]; rfl) dX2_addPurse_21 (fun H locs hP hD hS => ?_)
  refine lv_goto (tgt := 44) hx hb dX2_addPurse_22 (by decide +kernel) ?_
  refine W.widen (k := 0) (n := 0) (Nat.le_of_ble_eq_true rfl) (Nat.le_of_ble_eq_true rfl) ?_
  exact W.vret hx hb hr (fun t ht hW => ⟨⟨(fun _ => 0), rfl, trivial, by rw [ht]; exact hP, va_K.moved hW.alike hK, hD⟩, hS.F ht⟩) hS.2.2 dX2_addPurse_44 hlocks
set_option maxRecDepth 100000 in
set_option maxHeartbeats 4000000 in
theorem cX2_addSales_6 (l : Launch) (D : va_G) (y : Nat → ClassId) (a0 : Nat) (a1 : Nat) (a2 : Nat) (a3 : Nat) (a4 : Nat) (sz : Nat) : Met l yX2_addSales wsX2_addSales { frames := 2, cells := 0, slots := 0, locals := 200 } (nPc D y nT [.ref a0, .int 0, .int 5, .int 0] [(a0, .inr (2, [.ref a1, .ref a2, .ref a3, .ref a4])), (a4, .inl (y 1, 2001, .inr (.inl nzl)))] sz) ((fun A => nQv D y (fun _ => True) (fun u => [(a0, .inr (2, [.ref a1, .ref a2, .ref a3, .ref a4])), (a4, .inl (y 1, 2001, .inr (.inl nzl)))]) A) (va_A [(a0, .inr (2, [.ref a1, .ref a2, .ref a3, .ref a4])), (a4, .inl (y 1, 2001, .inr (.inl nzl)))] sz)) 0 0 (va_A [(a0, .inr (2, [.ref a1, .ref a2, .ref a3, .ref a4])), (a4, .inl (y 1, 2001, .inr (.inl nzl)))] sz) := by
  refine nm_ofW (D := D) (y := y) (E := nT) (yy := yX2_addSales) (wsy := wsX2_addSales) (rm := { frames := 2, cells := 0, slots := 0, locals := 200 }) (as := [.ref a0, .int 0, .int 5, .int 0]) (ws := [(a0, .inr (2, [.ref a1, .ref a2, .ref a3, .ref a4])), (a4, .inl (y 1, 2001, .inr (.inl nzl)))]) (sz := sz) (mc := 0) (ms := 0) (Qc := fun A => nQv D y (fun _ => True) (fun u => [(a0, .inr (2, [.ref a1, .ref a2, .ref a3, .ref a4])), (a4, .inl (y 1, 2001, .inr (.inl nzl)))]) A) (cc := cX2_addSales) (maxL := 4) (ret := none) (by decide +kernel) rfl (Nat.le_of_ble_eq_true rfl) ?_
  intro p e s m below meth c A ls H hx hb hr hml hts hown hlocks hnm hsz hP hK hD hA hS hE hAe hl
  replace hl : lv_has ls 4 [(0, .ref a0), (1, .int 0), (2, .int 5), (3, .int 0)] := hl
  have hown : s.vm.findClass RX2 = some m.cls := hown
  have w_0 := hts (.fieldLink RX2 22 "SoldToBehind$Packed" "sales" "[J") (gt_k wd_2_31)
  refine lv_aload_n hx hb dX2_addSales_0 rfl (lv_at hl 0 rfl) ?_
  refine va_get (D := D) (ci := 2) (v := .ref a4) (C := RX2) (T := TX2) (N := 4) hx hb hts (gt_c iG_X2) hown hK hP 0 rfl rfl 3 (by decide +kernel) w_0 (fun _ h9 => h9) rfl dX2_addSales_1 ?_
  refine lv_iload_n hx hb dX2_addSales_4 rfl (lv_at hl 1 rfl) ?_
  refine lv_dup2_11 hx hb dX2_addSales_5 rfl rfl ?_
  refine va_lald hx hb hK hP 1 1 rfl rfl (n_in (by decide +kernel)) dX2_addSales_6 ?_
  refine nv_l (v := 0) rfl ?_
  refine lv_iload_n hx hb dX2_addSales_7 rfl (lv_at hl 3 rfl) ?_
  refine lv_i2l (v := 0) hx hb dX2_addSales_8 (by decide +kernel) ?_
  refine lv_bipush (v := 7) hx hb dX2_addSales_9 (by decide +kernel) ?_
  refine lv_iload_n hx hb dX2_addSales_11 rfl (lv_at hl 2 rfl) ?_
  refine lv_imul hx hb dX2_addSales_12 ?_
  refine nv_i (v := 35) (by decide +kernel) ?_
  refine lv_lshl hx hb dX2_addSales_13 rfl ?_
  refine nv_l (v := 0) (by decide +kernel) ?_
  refine lv_ladd hx hb dX2_addSales_14 ?_
  refine nv_l (v := 0) (by decide +kernel) ?_
  refine nb_last (ws' := [(a0, .inr (2, [.ref a1, .ref a2, .ref a3, .ref a4])), (a4, .inl (y 1, 2001, .inr (.inl nzl)))]) hx hb hK hP hD hS 1 1 rfl rfl (n_in (by decide +kernel)) (by rw [nb_upL (f := nzl) (i := Int32.toNatClampNeg 0) (x := 0) rfl]; rfl) dX2_addSales_15 (fun H locs hP hD hS => ?_)
  refine W.widen (k := 0) (n := 0) (Nat.le_of_ble_eq_true rfl) (Nat.le_of_ble_eq_true rfl) ?_
  exact W.vret hx hb hr (fun t ht hW => ⟨⟨(fun _ => 0), rfl, trivial, by rw [ht]; exact hP, va_K.moved hW.alike hK, hD⟩, hS.F ht⟩) hS.2.2 dX2_addSales_16 hlocks
set_option maxRecDepth 100000 in
set_option maxHeartbeats 4000000 in
theorem cX2_addPurse_7 (l : Launch) (D : va_G) (y : Nat → ClassId) (a0 : Nat) (a1 : Nat) (a2 : Nat) (a3 : Nat) (a4 : Nat) (sz : Nat) : Met l yX2_addPurse wsX2_addPurse { frames := 2, cells := 0, slots := 0, locals := 200 } (nPc D y nT [.ref a0, .int 0, .int 6, .int 0] [(a0, .inr (2, [.ref a1, .ref a2, .ref a3, .ref a4])), (a3, .inl (y 1, 2001, .inr (.inl nzl)))] sz) ((fun A => nQv D y (fun _ => True) (fun u => [(a0, .inr (2, [.ref a1, .ref a2, .ref a3, .ref a4])), (a3, .inl (y 1, 2001, .inr (.inl nzl)))]) A) (va_A [(a0, .inr (2, [.ref a1, .ref a2, .ref a3, .ref a4])), (a3, .inl (y 1, 2001, .inr (.inl nzl)))] sz)) 0 0 (va_A [(a0, .inr (2, [.ref a1, .ref a2, .ref a3, .ref a4])), (a3, .inl (y 1, 2001, .inr (.inl nzl)))] sz) := by
  refine nm_ofW (D := D) (y := y) (E := nT) (yy := yX2_addPurse) (wsy := wsX2_addPurse) (rm := { frames := 2, cells := 0, slots := 0, locals := 200 }) (as := [.ref a0, .int 0, .int 6, .int 0]) (ws := [(a0, .inr (2, [.ref a1, .ref a2, .ref a3, .ref a4])), (a3, .inl (y 1, 2001, .inr (.inl nzl)))]) (sz := sz) (mc := 0) (ms := 0) (Qc := fun A => nQv D y (fun _ => True) (fun u => [(a0, .inr (2, [.ref a1, .ref a2, .ref a3, .ref a4])), (a3, .inl (y 1, 2001, .inr (.inl nzl)))]) A) (cc := cX2_addPurse) (maxL := 4) (ret := none) (by decide +kernel) rfl (Nat.le_of_ble_eq_true rfl) ?_
  intro p e s m below meth c A ls H hx hb hr hml hts hown hlocks hnm hsz hP hK hD hA hS hE hAe hl
  replace hl : lv_has ls 4 [(0, .ref a0), (1, .int 0), (2, .int 6), (3, .int 0)] := hl
  have hown : s.vm.findClass RX2 = some m.cls := hown
  have w_0 := hts (.fieldLink RX2 19 "SoldToBehind$Packed" "high" "[J") (gt_k wd_2_30)
  refine lv_iload_n hx hb dX2_addPurse_0 rfl (lv_at hl 2 rfl) ?_
  refine lv_bipush (v := 6) hx hb dX2_addPurse_1 (by decide +kernel) ?_
  refine lv_icmp_ge (tgt := 25) hx hb dX2_addPurse_3 (by decide +kernel) (fun _ => ?_) (fun c => absurd (by decide +kernel) c)
  refine lv_aload_n hx hb dX2_addPurse_25 rfl (lv_at hl 0 rfl) ?_
  refine va_get (D := D) (ci := 2) (v := .ref a3) (C := RX2) (T := TX2) (N := 4) hx hb hts (gt_c iG_X2) hown hK hP 0 rfl rfl 2 (by decide +kernel) w_0 (fun _ h9 => h9) rfl dX2_addPurse_26 ?_
  refine lv_iload_n hx hb dX2_addPurse_29 rfl (lv_at hl 1 rfl) ?_
  refine lv_dup2_11 hx hb dX2_addPurse_30 rfl rfl ?_
  refine va_lald hx hb hK hP 1 1 rfl rfl (n_in (by decide +kernel)) dX2_addPurse_31 ?_
  refine nv_l (v := 0) rfl ?_
  refine lv_iload_n hx hb dX2_addPurse_32 rfl (lv_at hl 3 rfl) ?_
  refine lv_i2l (v := 0) hx hb dX2_addPurse_33 (by decide +kernel) ?_
  refine lv_bipush (v := 10) hx hb dX2_addPurse_34 (by decide +kernel) ?_
  refine lv_iload_n hx hb dX2_addPurse_36 rfl (lv_at hl 2 rfl) ?_
  refine lv_bipush (v := 6) hx hb dX2_addPurse_37 (by decide +kernel) ?_
  refine lv_isub hx hb dX2_addPurse_39 ?_
  refine nv_i (v := 0) (by decide +kernel) ?_
  refine lv_imul hx hb dX2_addPurse_40 ?_
  refine nv_i (v := 0) (by decide +kernel) ?_
  refine lv_lshl hx hb dX2_addPurse_41 rfl ?_
  refine nv_l (v := 0) (by decide +kernel) ?_
  refine lv_ladd hx hb dX2_addPurse_42 ?_
  refine nv_l (v := 0) (by decide +kernel) ?_
  refine nb_last (ws' := [(a0, .inr (2, [.ref a1, .ref a2, .ref a3, .ref a4])), (a3, .inl (y 1, 2001, .inr (.inl nzl)))]) hx hb hK hP hD hS 1 1 rfl rfl (n_in (by decide +kernel)) (by rw [nb_upL (f := nzl) (i := Int32.toNatClampNeg 0) (x := 0) rfl]; rfl) dX2_addPurse_43 (fun H locs hP hD hS => ?_)
  refine W.widen (k := 0) (n := 0) (Nat.le_of_ble_eq_true rfl) (Nat.le_of_ble_eq_true rfl) ?_
  exact W.vret hx hb hr (fun t ht hW => ⟨⟨(fun _ => 0), rfl, trivial, by rw [ht]; exact hP, va_K.moved hW.alike hK, hD⟩, hS.F ht⟩) hS.2.2 dX2_addPurse_44 hlocks
set_option maxRecDepth 100000 in
set_option maxHeartbeats 4000000 in
theorem cX2_addSales_7 (l : Launch) (D : va_G) (y : Nat → ClassId) (a0 : Nat) (a1 : Nat) (a2 : Nat) (a3 : Nat) (a4 : Nat) (sz : Nat) : Met l yX2_addSales wsX2_addSales { frames := 2, cells := 0, slots := 0, locals := 200 } (nPc D y nT [.ref a0, .int 0, .int 6, .int 0] [(a0, .inr (2, [.ref a1, .ref a2, .ref a3, .ref a4])), (a4, .inl (y 1, 2001, .inr (.inl nzl)))] sz) ((fun A => nQv D y (fun _ => True) (fun u => [(a0, .inr (2, [.ref a1, .ref a2, .ref a3, .ref a4])), (a4, .inl (y 1, 2001, .inr (.inl nzl)))]) A) (va_A [(a0, .inr (2, [.ref a1, .ref a2, .ref a3, .ref a4])), (a4, .inl (y 1, 2001, .inr (.inl nzl)))] sz)) 0 0 (va_A [(a0, .inr (2, [.ref a1, .ref a2, .ref a3, .ref a4])), (a4, .inl (y 1, 2001, .inr (.inl nzl)))] sz) := by
  refine nm_ofW (D := D) (y := y) (E := nT) (yy := yX2_addSales) (wsy := wsX2_addSales) (rm := { frames := 2, cells := 0, slots := 0, locals := 200 }) (as := [.ref a0, .int 0, .int 6, .int 0]) (ws := [(a0, .inr (2, [.ref a1, .ref a2, .ref a3, .ref a4])), (a4, .inl (y 1, 2001, .inr (.inl nzl)))]) (sz := sz) (mc := 0) (ms := 0) (Qc := fun A => nQv D y (fun _ => True) (fun u => [(a0, .inr (2, [.ref a1, .ref a2, .ref a3, .ref a4])), (a4, .inl (y 1, 2001, .inr (.inl nzl)))]) A) (cc := cX2_addSales) (maxL := 4) (ret := none) (by decide +kernel) rfl (Nat.le_of_ble_eq_true rfl) ?_
  intro p e s m below meth c A ls H hx hb hr hml hts hown hlocks hnm hsz hP hK hD hA hS hE hAe hl
  replace hl : lv_has ls 4 [(0, .ref a0), (1, .int 0), (2, .int 6), (3, .int 0)] := hl
  have hown : s.vm.findClass RX2 = some m.cls := hown
  have w_0 := hts (.fieldLink RX2 22 "SoldToBehind$Packed" "sales" "[J") (gt_k wd_2_31)
  refine lv_aload_n hx hb dX2_addSales_0 rfl (lv_at hl 0 rfl) ?_
  refine va_get (D := D) (ci := 2) (v := .ref a4) (C := RX2) (T := TX2) (N := 4) hx hb hts (gt_c iG_X2) hown hK hP 0 rfl rfl 3 (by decide +kernel) w_0 (fun _ h9 => h9) rfl dX2_addSales_1 ?_
  refine lv_iload_n hx hb dX2_addSales_4 rfl (lv_at hl 1 rfl) ?_
  refine lv_dup2_11 hx hb dX2_addSales_5 rfl rfl ?_
  refine va_lald hx hb hK hP 1 1 rfl rfl (n_in (by decide +kernel)) dX2_addSales_6 ?_
  refine nv_l (v := 0) rfl ?_
  refine lv_iload_n hx hb dX2_addSales_7 rfl (lv_at hl 3 rfl) ?_
  refine lv_i2l (v := 0) hx hb dX2_addSales_8 (by decide +kernel) ?_
  refine lv_bipush (v := 7) hx hb dX2_addSales_9 (by decide +kernel) ?_
  refine lv_iload_n hx hb dX2_addSales_11 rfl (lv_at hl 2 rfl) ?_
  refine lv_imul hx hb dX2_addSales_12 ?_
  refine nv_i (v := 42) (by decide +kernel) ?_
  refine lv_lshl hx hb dX2_addSales_13 rfl ?_
  refine nv_l (v := 0) (by decide +kernel) ?_
  refine lv_ladd hx hb dX2_addSales_14 ?_
  refine nv_l (v := 0) (by decide +kernel) ?_
  refine nb_last (ws' := [(a0, .inr (2, [.ref a1, .ref a2, .ref a3, .ref a4])), (a4, .inl (y 1, 2001, .inr (.inl nzl)))]) hx hb hK hP hD hS 1 1 rfl rfl (n_in (by decide +kernel)) (by rw [nb_upL (f := nzl) (i := Int32.toNatClampNeg 0) (x := 0) rfl]; rfl) dX2_addSales_15 (fun H locs hP hD hS => ?_)
  refine W.widen (k := 0) (n := 0) (Nat.le_of_ble_eq_true rfl) (Nat.le_of_ble_eq_true rfl) ?_
  exact W.vret hx hb hr (fun t ht hW => ⟨⟨(fun _ => 0), rfl, trivial, by rw [ht]; exact hP, va_K.moved hW.alike hK, hD⟩, hS.F ht⟩) hS.2.2 dX2_addSales_16 hlocks
set_option maxRecDepth 100000 in
set_option maxHeartbeats 4000000 in
theorem cX2_addPurse_8 (l : Launch) (D : va_G) (y : Nat → ClassId) (a0 : Nat) (a1 : Nat) (a2 : Nat) (a3 : Nat) (a4 : Nat) (sz : Nat) : Met l yX2_addPurse wsX2_addPurse { frames := 2, cells := 0, slots := 0, locals := 200 } (nPc D y nT [.ref a0, .int 0, .int 7, .int 0] [(a0, .inr (2, [.ref a1, .ref a2, .ref a3, .ref a4])), (a3, .inl (y 1, 2001, .inr (.inl nzl)))] sz) ((fun A => nQv D y (fun _ => True) (fun u => [(a0, .inr (2, [.ref a1, .ref a2, .ref a3, .ref a4])), (a3, .inl (y 1, 2001, .inr (.inl nzl)))]) A) (va_A [(a0, .inr (2, [.ref a1, .ref a2, .ref a3, .ref a4])), (a3, .inl (y 1, 2001, .inr (.inl nzl)))] sz)) 0 0 (va_A [(a0, .inr (2, [.ref a1, .ref a2, .ref a3, .ref a4])), (a3, .inl (y 1, 2001, .inr (.inl nzl)))] sz) := by
  refine nm_ofW (D := D) (y := y) (E := nT) (yy := yX2_addPurse) (wsy := wsX2_addPurse) (rm := { frames := 2, cells := 0, slots := 0, locals := 200 }) (as := [.ref a0, .int 0, .int 7, .int 0]) (ws := [(a0, .inr (2, [.ref a1, .ref a2, .ref a3, .ref a4])), (a3, .inl (y 1, 2001, .inr (.inl nzl)))]) (sz := sz) (mc := 0) (ms := 0) (Qc := fun A => nQv D y (fun _ => True) (fun u => [(a0, .inr (2, [.ref a1, .ref a2, .ref a3, .ref a4])), (a3, .inl (y 1, 2001, .inr (.inl nzl)))]) A) (cc := cX2_addPurse) (maxL := 4) (ret := none) (by decide +kernel) rfl (Nat.le_of_ble_eq_true rfl) ?_
  intro p e s m below meth c A ls H hx hb hr hml hts hown hlocks hnm hsz hP hK hD hA hS hE hAe hl
  replace hl : lv_has ls 4 [(0, .ref a0), (1, .int 0), (2, .int 7), (3, .int 0)] := hl
  have hown : s.vm.findClass RX2 = some m.cls := hown
  have w_0 := hts (.fieldLink RX2 19 "SoldToBehind$Packed" "high" "[J") (gt_k wd_2_30)
  refine lv_iload_n hx hb dX2_addPurse_0 rfl (lv_at hl 2 rfl) ?_
  refine lv_bipush (v := 6) hx hb dX2_addPurse_1 (by decide +kernel) ?_
  refine lv_icmp_ge (tgt := 25) hx hb dX2_addPurse_3 (by decide +kernel) (fun _ => ?_) (fun c => absurd (by decide +kernel) c)
  refine lv_aload_n hx hb dX2_addPurse_25 rfl (lv_at hl 0 rfl) ?_
  refine va_get (D := D) (ci := 2) (v := .ref a3) (C := RX2) (T := TX2) (N := 4) hx hb hts (gt_c iG_X2) hown hK hP 0 rfl rfl 2 (by decide +kernel) w_0 (fun _ h9 => h9) rfl dX2_addPurse_26 ?_
  refine lv_iload_n hx hb dX2_addPurse_29 rfl (lv_at hl 1 rfl) ?_
  refine lv_dup2_11 hx hb dX2_addPurse_30 rfl rfl ?_
  refine va_lald hx hb hK hP 1 1 rfl rfl (n_in (by decide +kernel)) dX2_addPurse_31 ?_
  refine nv_l (v := 0) rfl ?_
  refine lv_iload_n hx hb dX2_addPurse_32 rfl (lv_at hl 3 rfl) ?_
  refine lv_i2l (v := 0) hx hb dX2_addPurse_33 (by decide +kernel) ?_
  refine lv_bipush (v := 10) hx hb dX2_addPurse_34 (by decide +kernel) ?_
  refine lv_iload_n hx hb dX2_addPurse_36 rfl (lv_at hl 2 rfl) ?_
  refine lv_bipush (v := 6) hx hb dX2_addPurse_37 (by decide +kernel) ?_
  refine lv_isub hx hb dX2_addPurse_39 ?_
  refine nv_i (v := 1) (by decide +kernel) ?_
  refine lv_imul hx hb dX2_addPurse_40 ?_
  refine nv_i (v := 10) (by decide +kernel) ?_
  refine lv_lshl hx hb dX2_addPurse_41 rfl ?_
  refine nv_l (v := 0) (by decide +kernel) ?_
  refine lv_ladd hx hb dX2_addPurse_42 ?_
  refine nv_l (v := 0) (by decide +kernel) ?_
  refine nb_last (ws' := [(a0, .inr (2, [.ref a1, .ref a2, .ref a3, .ref a4])), (a3, .inl (y 1, 2001, .inr (.inl nzl)))]) hx hb hK hP hD hS 1 1 rfl rfl (n_in (by decide +kernel)) (by rw [nb_upL (f := nzl) (i := Int32.toNatClampNeg 0) (x := 0) rfl]; rfl) dX2_addPurse_43 (fun H locs hP hD hS => ?_)
  refine W.widen (k := 0) (n := 0) (Nat.le_of_ble_eq_true rfl) (Nat.le_of_ble_eq_true rfl) ?_
  exact W.vret hx hb hr (fun t ht hW => ⟨⟨(fun _ => 0), rfl, trivial, by rw [ht]; exact hP, va_K.moved hW.alike hK, hD⟩, hS.F ht⟩) hS.2.2 dX2_addPurse_44 hlocks
set_option maxRecDepth 100000 in
set_option maxHeartbeats 4000000 in
theorem cX2_addSales_8 (l : Launch) (D : va_G) (y : Nat → ClassId) (a0 : Nat) (a1 : Nat) (a2 : Nat) (a3 : Nat) (a4 : Nat) (sz : Nat) : Met l yX2_addSales wsX2_addSales { frames := 2, cells := 0, slots := 0, locals := 200 } (nPc D y nT [.ref a0, .int 0, .int 7, .int 0] [(a0, .inr (2, [.ref a1, .ref a2, .ref a3, .ref a4])), (a4, .inl (y 1, 2001, .inr (.inl nzl)))] sz) ((fun A => nQv D y (fun _ => True) (fun u => [(a0, .inr (2, [.ref a1, .ref a2, .ref a3, .ref a4])), (a4, .inl (y 1, 2001, .inr (.inl nzl)))]) A) (va_A [(a0, .inr (2, [.ref a1, .ref a2, .ref a3, .ref a4])), (a4, .inl (y 1, 2001, .inr (.inl nzl)))] sz)) 0 0 (va_A [(a0, .inr (2, [.ref a1, .ref a2, .ref a3, .ref a4])), (a4, .inl (y 1, 2001, .inr (.inl nzl)))] sz) := by
  refine nm_ofW (D := D) (y := y) (E := nT) (yy := yX2_addSales) (wsy := wsX2_addSales) (rm := { frames := 2, cells := 0, slots := 0, locals := 200 }) (as := [.ref a0, .int 0, .int 7, .int 0]) (ws := [(a0, .inr (2, [.ref a1, .ref a2, .ref a3, .ref a4])), (a4, .inl (y 1, 2001, .inr (.inl nzl)))]) (sz := sz) (mc := 0) (ms := 0) (Qc := fun A => nQv D y (fun _ => True) (fun u => [(a0, .inr (2, [.ref a1, .ref a2, .ref a3, .ref a4])), (a4, .inl (y 1, 2001, .inr (.inl nzl)))]) A) (cc := cX2_addSales) (maxL := 4) (ret := none) (by decide +kernel) rfl (Nat.le_of_ble_eq_true rfl) ?_
  intro p e s m below meth c A ls H hx hb hr hml hts hown hlocks hnm hsz hP hK hD hA hS hE hAe hl
  replace hl : lv_has ls 4 [(0, .ref a0), (1, .int 0), (2, .int 7), (3, .int 0)] := hl
  have hown : s.vm.findClass RX2 = some m.cls := hown
  have w_0 := hts (.fieldLink RX2 22 "SoldToBehind$Packed" "sales" "[J") (gt_k wd_2_31)
  refine lv_aload_n hx hb dX2_addSales_0 rfl (lv_at hl 0 rfl) ?_
  refine va_get (D := D) (ci := 2) (v := .ref a4) (C := RX2) (T := TX2) (N := 4) hx hb hts (gt_c iG_X2) hown hK hP 0 rfl rfl 3 (by decide +kernel) w_0 (fun _ h9 => h9) rfl dX2_addSales_1 ?_
  refine lv_iload_n hx hb dX2_addSales_4 rfl (lv_at hl 1 rfl) ?_
  refine lv_dup2_11 hx hb dX2_addSales_5 rfl rfl ?_
  refine va_lald hx hb hK hP 1 1 rfl rfl (n_in (by decide +kernel)) dX2_addSales_6 ?_
  refine nv_l (v := 0) rfl ?_
  refine lv_iload_n hx hb dX2_addSales_7 rfl (lv_at hl 3 rfl) ?_
  refine lv_i2l (v := 0) hx hb dX2_addSales_8 (by decide +kernel) ?_
  refine lv_bipush (v := 7) hx hb dX2_addSales_9 (by decide +kernel) ?_
  refine lv_iload_n hx hb dX2_addSales_11 rfl (lv_at hl 2 rfl) ?_
  refine lv_imul hx hb dX2_addSales_12 ?_
  refine nv_i (v := 49) (by decide +kernel) ?_
  refine lv_lshl hx hb dX2_addSales_13 rfl ?_
  refine nv_l (v := 0) (by decide +kernel) ?_
  refine lv_ladd hx hb dX2_addSales_14 ?_
  refine nv_l (v := 0) (by decide +kernel) ?_
  refine nb_last (ws' := [(a0, .inr (2, [.ref a1, .ref a2, .ref a3, .ref a4])), (a4, .inl (y 1, 2001, .inr (.inl nzl)))]) hx hb hK hP hD hS 1 1 rfl rfl (n_in (by decide +kernel)) (by rw [nb_upL (f := nzl) (i := Int32.toNatClampNeg 0) (x := 0) rfl]; rfl) dX2_addSales_15 (fun H locs hP hD hS => ?_)
  refine W.widen (k := 0) (n := 0) (Nat.le_of_ble_eq_true rfl) (Nat.le_of_ble_eq_true rfl) ?_
  exact W.vret hx hb hr (fun t ht hW => ⟨⟨(fun _ => 0), rfl, trivial, by rw [ht]; exact hP, va_K.moved hW.alike hK, hD⟩, hS.F ht⟩) hS.2.2 dX2_addSales_16 hlocks
set_option maxRecDepth 100000 in
set_option maxHeartbeats 4000000 in
theorem cX2_addPurse_9 (l : Launch) (D : va_G) (y : Nat → ClassId) (a0 : Nat) (a1 : Nat) (a2 : Nat) (a3 : Nat) (a4 : Nat) (sz : Nat) : Met l yX2_addPurse wsX2_addPurse { frames := 2, cells := 0, slots := 0, locals := 200 } (nPc D y nT [.ref a0, .int 0, .int 8, .int 0] [(a0, .inr (2, [.ref a1, .ref a2, .ref a3, .ref a4])), (a3, .inl (y 1, 2001, .inr (.inl nzl)))] sz) ((fun A => nQv D y (fun _ => True) (fun u => [(a0, .inr (2, [.ref a1, .ref a2, .ref a3, .ref a4])), (a3, .inl (y 1, 2001, .inr (.inl nzl)))]) A) (va_A [(a0, .inr (2, [.ref a1, .ref a2, .ref a3, .ref a4])), (a3, .inl (y 1, 2001, .inr (.inl nzl)))] sz)) 0 0 (va_A [(a0, .inr (2, [.ref a1, .ref a2, .ref a3, .ref a4])), (a3, .inl (y 1, 2001, .inr (.inl nzl)))] sz) := by
  refine nm_ofW (D := D) (y := y) (E := nT) (yy := yX2_addPurse) (wsy := wsX2_addPurse) (rm := { frames := 2, cells := 0, slots := 0, locals := 200 }) (as := [.ref a0, .int 0, .int 8, .int 0]) (ws := [(a0, .inr (2, [.ref a1, .ref a2, .ref a3, .ref a4])), (a3, .inl (y 1, 2001, .inr (.inl nzl)))]) (sz := sz) (mc := 0) (ms := 0) (Qc := fun A => nQv D y (fun _ => True) (fun u => [(a0, .inr (2, [.ref a1, .ref a2, .ref a3, .ref a4])), (a3, .inl (y 1, 2001, .inr (.inl nzl)))]) A) (cc := cX2_addPurse) (maxL := 4) (ret := none) (by decide +kernel) rfl (Nat.le_of_ble_eq_true rfl) ?_
  intro p e s m below meth c A ls H hx hb hr hml hts hown hlocks hnm hsz hP hK hD hA hS hE hAe hl
  replace hl : lv_has ls 4 [(0, .ref a0), (1, .int 0), (2, .int 8), (3, .int 0)] := hl
  have hown : s.vm.findClass RX2 = some m.cls := hown
  have w_0 := hts (.fieldLink RX2 19 "SoldToBehind$Packed" "high" "[J") (gt_k wd_2_30)
  refine lv_iload_n hx hb dX2_addPurse_0 rfl (lv_at hl 2 rfl) ?_
  refine lv_bipush (v := 6) hx hb dX2_addPurse_1 (by decide +kernel) ?_
  refine lv_icmp_ge (tgt := 25) hx hb dX2_addPurse_3 (by decide +kernel) (fun _ => ?_) (fun c => absurd (by decide +kernel) c)
  refine lv_aload_n hx hb dX2_addPurse_25 rfl (lv_at hl 0 rfl) ?_
  refine va_get (D := D) (ci := 2) (v := .ref a3) (C := RX2) (T := TX2) (N := 4) hx hb hts (gt_c iG_X2) hown hK hP 0 rfl rfl 2 (by decide +kernel) w_0 (fun _ h9 => h9) rfl dX2_addPurse_26 ?_
  refine lv_iload_n hx hb dX2_addPurse_29 rfl (lv_at hl 1 rfl) ?_
  refine lv_dup2_11 hx hb dX2_addPurse_30 rfl rfl ?_
  refine va_lald hx hb hK hP 1 1 rfl rfl (n_in (by decide +kernel)) dX2_addPurse_31 ?_
  refine nv_l (v := 0) rfl ?_
  refine lv_iload_n hx hb dX2_addPurse_32 rfl (lv_at hl 3 rfl) ?_
  refine lv_i2l (v := 0) hx hb dX2_addPurse_33 (by decide +kernel) ?_
  refine lv_bipush (v := 10) hx hb dX2_addPurse_34 (by decide +kernel) ?_
  refine lv_iload_n hx hb dX2_addPurse_36 rfl (lv_at hl 2 rfl) ?_
  refine lv_bipush (v := 6) hx hb dX2_addPurse_37 (by decide +kernel) ?_
  refine lv_isub hx hb dX2_addPurse_39 ?_
  refine nv_i (v := 2) (by decide +kernel) ?_
  refine lv_imul hx hb dX2_addPurse_40 ?_
  refine nv_i (v := 20) (by decide +kernel) ?_
  refine lv_lshl hx hb dX2_addPurse_41 rfl ?_
  refine nv_l (v := 0) (by decide +kernel) ?_
  refine lv_ladd hx hb dX2_addPurse_42 ?_
  refine nv_l (v := 0) (by decide +kernel) ?_
  refine nb_last (ws' := [(a0, .inr (2, [.ref a1, .ref a2, .ref a3, .ref a4])), (a3, .inl (y 1, 2001, .inr (.inl nzl)))]) hx hb hK hP hD hS 1 1 rfl rfl (n_in (by decide +kernel)) (by rw [nb_upL (f := nzl) (i := Int32.toNatClampNeg 0) (x := 0) rfl]; rfl) dX2_addPurse_43 (fun H locs hP hD hS => ?_)
  refine W.widen (k := 0) (n := 0) (Nat.le_of_ble_eq_true rfl) (Nat.le_of_ble_eq_true rfl) ?_
  exact W.vret hx hb hr (fun t ht hW => ⟨⟨(fun _ => 0), rfl, trivial, by rw [ht]; exact hP, va_K.moved hW.alike hK, hD⟩, hS.F ht⟩) hS.2.2 dX2_addPurse_44 hlocks
set_option maxRecDepth 100000 in
set_option maxHeartbeats 4000000 in
theorem cX2_addSales_9 (l : Launch) (D : va_G) (y : Nat → ClassId) (a0 : Nat) (a1 : Nat) (a2 : Nat) (a3 : Nat) (a4 : Nat) (sz : Nat) : Met l yX2_addSales wsX2_addSales { frames := 2, cells := 0, slots := 0, locals := 200 } (nPc D y nT [.ref a0, .int 0, .int 8, .int 0] [(a0, .inr (2, [.ref a1, .ref a2, .ref a3, .ref a4])), (a4, .inl (y 1, 2001, .inr (.inl nzl)))] sz) ((fun A => nQv D y (fun _ => True) (fun u => [(a0, .inr (2, [.ref a1, .ref a2, .ref a3, .ref a4])), (a4, .inl (y 1, 2001, .inr (.inl nzl)))]) A) (va_A [(a0, .inr (2, [.ref a1, .ref a2, .ref a3, .ref a4])), (a4, .inl (y 1, 2001, .inr (.inl nzl)))] sz)) 0 0 (va_A [(a0, .inr (2, [.ref a1, .ref a2, .ref a3, .ref a4])), (a4, .inl (y 1, 2001, .inr (.inl nzl)))] sz) := by
  refine nm_ofW (D := D) (y := y) (E := nT) (yy := yX2_addSales) (wsy := wsX2_addSales) (rm := { frames := 2, cells := 0, slots := 0, locals := 200 }) (as := [.ref a0, .int 0, .int 8, .int 0]) (ws := [(a0, .inr (2, [.ref a1, .ref a2, .ref a3, .ref a4])), (a4, .inl (y 1, 2001, .inr (.inl nzl)))]) (sz := sz) (mc := 0) (ms := 0) (Qc := fun A => nQv D y (fun _ => True) (fun u => [(a0, .inr (2, [.ref a1, .ref a2, .ref a3, .ref a4])), (a4, .inl (y 1, 2001, .inr (.inl nzl)))]) A) (cc := cX2_addSales) (maxL := 4) (ret := none) (by decide +kernel) rfl (Nat.le_of_ble_eq_true rfl) ?_
  intro p e s m below meth c A ls H hx hb hr hml hts hown hlocks hnm hsz hP hK hD hA hS hE hAe hl
  replace hl : lv_has ls 4 [(0, .ref a0), (1, .int 0), (2, .int 8), (3, .int 0)] := hl
  have hown : s.vm.findClass RX2 = some m.cls := hown
  have w_0 := hts (.fieldLink RX2 22 "SoldToBehind$Packed" "sales" "[J") (gt_k wd_2_31)
  refine lv_aload_n hx hb dX2_addSales_0 rfl (lv_at hl 0 rfl) ?_
  refine va_get (D := D) (ci := 2) (v := .ref a4) (C := RX2) (T := TX2) (N := 4) hx hb hts (gt_c iG_X2) hown hK hP 0 rfl rfl 3 (by decide +kernel) w_0 (fun _ h9 => h9) rfl dX2_addSales_1 ?_
  refine lv_iload_n hx hb dX2_addSales_4 rfl (lv_at hl 1 rfl) ?_
  refine lv_dup2_11 hx hb dX2_addSales_5 rfl rfl ?_
  refine va_lald hx hb hK hP 1 1 rfl rfl (n_in (by decide +kernel)) dX2_addSales_6 ?_
  refine nv_l (v := 0) rfl ?_
  refine lv_iload_n hx hb dX2_addSales_7 rfl (lv_at hl 3 rfl) ?_
  refine lv_i2l (v := 0) hx hb dX2_addSales_8 (by decide +kernel) ?_
  refine lv_bipush (v := 7) hx hb dX2_addSales_9 (by decide +kernel) ?_
  refine lv_iload_n hx hb dX2_addSales_11 rfl (lv_at hl 2 rfl) ?_
  refine lv_imul hx hb dX2_addSales_12 ?_
  refine nv_i (v := 56) (by decide +kernel) ?_
  refine lv_lshl hx hb dX2_addSales_13 rfl ?_
  refine nv_l (v := 0) (by decide +kernel) ?_
  refine lv_ladd hx hb dX2_addSales_14 ?_
  refine nv_l (v := 0) (by decide +kernel) ?_
  refine nb_last (ws' := [(a0, .inr (2, [.ref a1, .ref a2, .ref a3, .ref a4])), (a4, .inl (y 1, 2001, .inr (.inl nzl)))]) hx hb hK hP hD hS 1 1 rfl rfl (n_in (by decide +kernel)) (by rw [nb_upL (f := nzl) (i := Int32.toNatClampNeg 0) (x := 0) rfl]; rfl) dX2_addSales_15 (fun H locs hP hD hS => ?_)
  refine W.widen (k := 0) (n := 0) (Nat.le_of_ble_eq_true rfl) (Nat.le_of_ble_eq_true rfl) ?_
  exact W.vret hx hb hr (fun t ht hW => ⟨⟨(fun _ => 0), rfl, trivial, by rw [ht]; exact hP, va_K.moved hW.alike hK, hD⟩, hS.F ht⟩) hS.2.2 dX2_addSales_16 hlocks
