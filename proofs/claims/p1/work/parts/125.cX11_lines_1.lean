theorem dX11_lines_0 : decode cX11_lines 0 = .ok (.aload_n 0, 1) := by decide +kernel
theorem dX11_lines_1 : decode cX11_lines 1 = .ok (.invokevirtual 342, 3) := by decide +kernel
theorem dX11_lines_4 : decode cX11_lines 4 = .ok (.astore_n 1, 1) := by decide +kernel
theorem dX11_lines_5 : decode cX11_lines 5 = .ok (.aload_n 1, 1) := by decide +kernel
theorem dX11_lines_6 : decode cX11_lines 6 = .ok (.ifnonnull 6, 3) := by decide +kernel
theorem dX11_lines_12 : decode cX11_lines 12 = .ok (.aload_n 1, 1) := by decide +kernel
theorem dX11_lines_13 : decode cX11_lines 13 = .ok (.aload_n 0, 1) := by decide +kernel
theorem dX11_lines_14 : decode cX11_lines 14 = .ok (.getfield 19, 3) := by decide +kernel
theorem dX11_lines_17 : decode cX11_lines 17 = .ok (.invokevirtual 346, 3) := by decide +kernel
theorem dX11_lines_20 : decode cX11_lines 20 = .ok (.aload_n 1, 1) := by decide +kernel
theorem dX11_lines_21 : decode cX11_lines 21 = .ok (.getfield 350, 3) := by decide +kernel
theorem dX11_lines_24 : decode cX11_lines 24 = .ok (.ireturn, 1) := by decide +kernel
theorem iX11_lines_X11 : ∀ w ∈ u_ws RX11 TX11 17, w ∈ wsX11_lines := by decide +kernel
theorem iX11_lines_X4 : ∀ w ∈ u_ws RX4 TX4 13, w ∈ wsX11_lines := by decide +kernel
set_option maxRecDepth 20000 in
theorem ggX11_lines_X11_allLines : GoodIn wsX11_lines wsX11_allLines := goodIn_r _ [7, 8, 9, 10, 11, 12, 13, 14, 15, 16, 17, 18, 19, 20, 21, 22, 23, 24, 25, 26, 27, 28, 29, 30, 31, 32, 33, 34, 35, 36, 37, 38, 39, 40, 41, 42, 43, 44, 45, 46, 47, 48, 49, 50, 51, 52, 53, 54, 55, 56, 57, 58, 59, 60, 61, 62, 63, 64, 65, 66, 67, 68, 69, 70, 71, 72, 73, 74, 75, 76, 77, 78, 79, 80, 81, 82, 83, 84, 85, 86, 87, 88, 89, 90, 91, 92, 93, 94, 95, 96, 97, 98, 99, 100, 101, 102, 103, 104, 105, 106, 107, 108, 109, 110, 111, 112, 113, 114, 115, 116, 117, 118, 119, 120, 121, 122, 123, 124, 125, 126, 127, 128, 129, 130, 131, 132, 133, 134, 135, 136, 137, 138, 139, 140, 141, 142, 143, 144, 145, 146, 147, 148, 149, 150, 151, 152, 153, 154, 155, 156, 157, 158, 159, 160, 161, 162, 163, 164, 165, 166, 167, 168, 169, 170, 171, 172, 173, 174, 175, 176, 177, 178, 179, 180, 181, 182, 183, 184, 185, 186, 187, 188, 189, 190, 191, 192, 193, 194, 195, 196, 197, 198, 199, 200, 201, 202, 203, 204, 205, 206, 207, 208, 209, 210, 211, 212, 213, 214, 215, 216, 217, 218, 219, 220, 221, 222, 223, 224, 225, 251, 252, 253, 254, 255, 256, 257, 258, 259, 260, 261, 262, 263, 264, 265, 266, 267, 268, 269, 270, 271, 272, 273, 274, 275, 276, 277, 278, 279, 280, 281, 282, 283, 284, 285, 286, 287, 288, 289, 290, 291, 292, 293, 294, 295, 296, 297, 298, 299, 300, 301, 302, 303] (by decide +kernel) (by decide +kernel)
set_option maxRecDepth 20000 in
theorem ggX11_lines_X4_tellRests : GoodIn wsX11_lines wsX4_tellRests := goodIn_r _ [229, 29, 33, 31, 230, 148, 145, 149, 213, 144, 146, 231, 232, 233, 11, 234, 39, 25, 214, 78, 79, 80, 81, 235, 236, 237, 24, 238, 48, 109, 239, 240, 241, 242, 243, 244, 245, 246, 247, 248, 249, 250, 268, 269, 270, 271, 272, 273, 274, 275, 276, 277, 278, 279, 280, 281, 282, 283, 284, 304, 305] (by decide +kernel) (by decide +kernel)
set_option maxRecDepth 20000 in
theorem gX11_lines_X11_allLines : GoodIn wsX11_lines (wsV RX11 342 RX11 yX11_allLines wsX11_allLines) := goodIn_app (goodIn_of _ (by decide +kernel)) ggX11_lines_X11_allLines
set_option maxRecDepth 20000 in
theorem gX11_lines_X4_tellRests : GoodIn wsX11_lines (wsV RX11 346 RX4 yX4_tellRests wsX4_tellRests) := goodIn_app (goodIn_of _ (by decide +kernel)) ggX11_lines_X4_tellRests
theorem dX12_slot_0 : decode cX12_slot 0 = .ok (.bipush 7, 2) := by decide +kernel
theorem dX12_slot_2 : decode cX12_slot 2 = .ok (.istore_n 1, 1) := by decide +kernel
theorem dX12_slot_3 : decode cX12_slot 3 = .ok (.iconst 0, 1) := by decide +kernel
theorem dX12_slot_4 : decode cX12_slot 4 = .ok (.istore_n 2, 1) := by decide +kernel
theorem dX12_slot_5 : decode cX12_slot 5 = .ok (.iload_n 2, 1) := by decide +kernel
theorem dX12_slot_6 : decode cX12_slot 6 = .ok (.aload_n 0, 1) := by decide +kernel
theorem dX12_slot_7 : decode cX12_slot 7 = .ok (.getfield 140, 3) := by decide +kernel
theorem dX12_slot_10 : decode cX12_slot 10 = .ok (.if_icmp .ge 21, 3) := by decide +kernel
theorem dX12_slot_31 : decode cX12_slot 31 = .ok (.iconst 0, 1) := by decide +kernel
theorem dX12_slot_32 : decode cX12_slot 32 = .ok (.istore_n 2, 1) := by decide +kernel
theorem dX12_slot_33 : decode cX12_slot 33 = .ok (.iload_n 2, 1) := by decide +kernel
theorem dX12_slot_34 : decode cX12_slot 34 = .ok (.aload_n 0, 1) := by decide +kernel
theorem dX12_slot_35 : decode cX12_slot 35 = .ok (.getfield 133, 3) := by decide +kernel
theorem dX12_slot_38 : decode cX12_slot 38 = .ok (.if_icmp .ge 31, 3) := by decide +kernel
theorem dX12_slot_69 : decode cX12_slot 69 = .ok (.iload_n 1, 1) := by decide +kernel
theorem dX12_slot_70 : decode cX12_slot 70 = .ok (.iload_n 1, 1) := by decide +kernel
theorem dX12_slot_71 : decode cX12_slot 71 = .ok (.bipush 13, 2) := by decide +kernel
theorem dX12_slot_73 : decode cX12_slot 73 = .ok (.iushr, 1) := by decide +kernel
theorem dX12_slot_74 : decode cX12_slot 74 = .ok (.ixor, 1) := by decide +kernel
theorem dX12_slot_75 : decode cX12_slot 75 = .ok (.sipush 8191, 3) := by decide +kernel
theorem dX12_slot_78 : decode cX12_slot 78 = .ok (.iand, 1) := by decide +kernel
theorem dX12_slot_79 : decode cX12_slot 79 = .ok (.istore_n 2, 1) := by decide +kernel
theorem dX12_slot_80 : decode cX12_slot 80 = .ok (.aload_n 0, 1) := by decide +kernel
theorem dX12_slot_81 : decode cX12_slot 81 = .ok (.getfield 106, 3) := by decide +kernel
theorem dX12_slot_84 : decode cX12_slot 84 = .ok (.iload_n 2, 1) := by decide +kernel
theorem dX12_slot_85 : decode cX12_slot 85 = .ok (.iaload, 1) := by decide +kernel
theorem dX12_slot_86 : decode cX12_slot 86 = .ok (.ifCond .eq 29, 3) := by decide +kernel
theorem dX12_slot_115 : decode cX12_slot 115 = .ok (.iload_n 2, 1) := by decide +kernel
theorem dX12_slot_116 : decode cX12_slot 116 = .ok (.ireturn, 1) := by decide +kernel
theorem iX12_slot_X12 : ∀ w ∈ u_ws RX12 TX12 72, w ∈ wsX12_slot := by decide +kernel
theorem dX12_stateNow_0 : decode cX12_stateNow 0 = .ok (.aload_n 0, 1) := by decide +kernel
theorem dX12_stateNow_1 : decode cX12_stateNow 1 = .ok (.invokevirtual 378, 3) := by decide +kernel
theorem dX12_stateNow_4 : decode cX12_stateNow 4 = .ok (.istore_n 2, 1) := by decide +kernel
theorem dX12_stateNow_5 : decode cX12_stateNow 5 = .ok (.aload_n 0, 1) := by decide +kernel
theorem dX12_stateNow_6 : decode cX12_stateNow 6 = .ok (.getfield 106, 3) := by decide +kernel
theorem dX12_stateNow_9 : decode cX12_stateNow 9 = .ok (.iload_n 2, 1) := by decide +kernel
theorem dX12_stateNow_10 : decode cX12_stateNow 10 = .ok (.iaload, 1) := by decide +kernel
theorem dX12_stateNow_11 : decode cX12_stateNow 11 = .ok (.ifCond .eq 12, 3) := by decide +kernel
theorem dX12_stateNow_23 : decode cX12_stateNow 23 = .ok (.aload_n 0, 1) := by decide +kernel
theorem dX12_stateNow_24 : decode cX12_stateNow 24 = .ok (.getfield 381, 3) := by decide +kernel
theorem dX12_stateNow_27 : decode cX12_stateNow 27 = .ok (.sipush 2000, 3) := by decide +kernel
theorem dX12_stateNow_30 : decode cX12_stateNow 30 = .ok (.if_icmp .ne 5, 3) := by decide +kernel
theorem dX12_stateNow_35 : decode cX12_stateNow 35 = .ok (.iconst 0, 1) := by decide +kernel
theorem dX12_stateNow_36 : decode cX12_stateNow 36 = .ok (.istore_n 3, 1) := by decide +kernel
theorem dX12_stateNow_37 : decode cX12_stateNow 37 = .ok (.iload_n 3, 1) := by decide +kernel
theorem dX12_stateNow_38 : decode cX12_stateNow 38 = .ok (.bipush 9, 2) := by decide +kernel
theorem dX12_stateNow_40 : decode cX12_stateNow 40 = .ok (.if_icmp .ge 69, 3) := by decide +kernel
theorem dX12_stateNow_43 : decode cX12_stateNow 43 = .ok (.aload_n 0, 1) := by decide +kernel
theorem dX12_stateNow_44 : decode cX12_stateNow 44 = .ok (.getfield 79, 3) := by decide +kernel
theorem dX12_stateNow_47 : decode cX12_stateNow 47 = .ok (.bipush 9, 2) := by decide +kernel
theorem dX12_stateNow_49 : decode cX12_stateNow 49 = .ok (.aload_n 0, 1) := by decide +kernel
theorem dX12_stateNow_50 : decode cX12_stateNow 50 = .ok (.getfield 381, 3) := by decide +kernel
theorem dX12_stateNow_53 : decode cX12_stateNow 53 = .ok (.imul, 1) := by decide +kernel
theorem dX12_stateNow_54 : decode cX12_stateNow 54 = .ok (.iload_n 3, 1) := by decide +kernel
theorem dX12_stateNow_55 : decode cX12_stateNow 55 = .ok (.iadd, 1) := by decide +kernel
theorem dX12_stateNow_56 : decode cX12_stateNow 56 = .ok (.aload_n 0, 1) := by decide +kernel
theorem dX12_stateNow_57 : decode cX12_stateNow 57 = .ok (.getfield 29, 3) := by decide +kernel
theorem dX12_stateNow_60 : decode cX12_stateNow 60 = .ok (.iload_n 3, 1) := by decide +kernel
theorem dX12_stateNow_61 : decode cX12_stateNow 61 = .ok (.iaload, 1) := by decide +kernel
theorem dX12_stateNow_62 : decode cX12_stateNow 62 = .ok (.iastore, 1) := by decide +kernel
theorem dX12_stateNow_63 : decode cX12_stateNow 63 = .ok (.aload_n 0, 1) := by decide +kernel
theorem dX12_stateNow_64 : decode cX12_stateNow 64 = .ok (.getfield 82, 3) := by decide +kernel
theorem dX12_stateNow_67 : decode cX12_stateNow 67 = .ok (.bipush 9, 2) := by decide +kernel
theorem dX12_stateNow_69 : decode cX12_stateNow 69 = .ok (.aload_n 0, 1) := by decide +kernel
theorem dX12_stateNow_70 : decode cX12_stateNow 70 = .ok (.getfield 381, 3) := by decide +kernel
theorem dX12_stateNow_73 : decode cX12_stateNow 73 = .ok (.imul, 1) := by decide +kernel
theorem dX12_stateNow_74 : decode cX12_stateNow 74 = .ok (.iload_n 3, 1) := by decide +kernel
theorem dX12_stateNow_75 : decode cX12_stateNow 75 = .ok (.iadd, 1) := by decide +kernel
theorem dX12_stateNow_76 : decode cX12_stateNow 76 = .ok (.aload_n 0, 1) := by decide +kernel
theorem dX12_stateNow_77 : decode cX12_stateNow 77 = .ok (.getfield 9, 3) := by decide +kernel
theorem dX12_stateNow_80 : decode cX12_stateNow 80 = .ok (.iload_n 3, 1) := by decide +kernel
theorem dX12_stateNow_81 : decode cX12_stateNow 81 = .ok (.iaload, 1) := by decide +kernel
theorem dX12_stateNow_82 : decode cX12_stateNow 82 = .ok (.iastore, 1) := by decide +kernel
theorem dX12_stateNow_83 : decode cX12_stateNow 83 = .ok (.aload_n 0, 1) := by decide +kernel
theorem dX12_stateNow_84 : decode cX12_stateNow 84 = .ok (.getfield 85, 3) := by decide +kernel
theorem dX12_stateNow_87 : decode cX12_stateNow 87 = .ok (.bipush 9, 2) := by decide +kernel
theorem dX12_stateNow_89 : decode cX12_stateNow 89 = .ok (.aload_n 0, 1) := by decide +kernel
theorem dX12_stateNow_90 : decode cX12_stateNow 90 = .ok (.getfield 381, 3) := by decide +kernel
theorem dX12_stateNow_93 : decode cX12_stateNow 93 = .ok (.imul, 1) := by decide +kernel
theorem dX12_stateNow_94 : decode cX12_stateNow 94 = .ok (.iload_n 3, 1) := by decide +kernel
theorem dX12_stateNow_95 : decode cX12_stateNow 95 = .ok (.iadd, 1) := by decide +kernel
theorem dX12_stateNow_96 : decode cX12_stateNow 96 = .ok (.aload_n 0, 1) := by decide +kernel
theorem dX12_stateNow_97 : decode cX12_stateNow 97 = .ok (.getfield 26, 3) := by decide +kernel
theorem dX12_stateNow_100 : decode cX12_stateNow 100 = .ok (.iload_n 3, 1) := by decide +kernel
theorem dX12_stateNow_101 : decode cX12_stateNow 101 = .ok (.iaload, 1) := by decide +kernel
theorem dX12_stateNow_102 : decode cX12_stateNow 102 = .ok (.iastore, 1) := by decide +kernel
theorem dX12_stateNow_103 : decode cX12_stateNow 103 = .ok (.iinc 3 1, 3) := by decide +kernel
theorem dX12_stateNow_106 : decode cX12_stateNow 106 = .ok (.goto (-69), 3) := by decide +kernel
theorem dX12_stateNow_109 : decode cX12_stateNow 109 = .ok (.aload_n 0, 1) := by decide +kernel
theorem dX12_stateNow_110 : decode cX12_stateNow 110 = .ok (.getfield 88, 3) := by decide +kernel
theorem dX12_stateNow_113 : decode cX12_stateNow 113 = .ok (.aload_n 0, 1) := by decide +kernel
theorem dX12_stateNow_114 : decode cX12_stateNow 114 = .ok (.getfield 381, 3) := by decide +kernel
theorem dX12_stateNow_117 : decode cX12_stateNow 117 = .ok (.iload_n 1, 1) := by decide +kernel
theorem dX12_stateNow_118 : decode cX12_stateNow 118 = .ok (.iastore, 1) := by decide +kernel
theorem dX12_stateNow_119 : decode cX12_stateNow 119 = .ok (.aload_n 0, 1) := by decide +kernel
theorem dX12_stateNow_120 : decode cX12_stateNow 120 = .ok (.getfield 94, 3) := by decide +kernel
theorem dX12_stateNow_123 : decode cX12_stateNow 123 = .ok (.aload_n 0, 1) := by decide +kernel
theorem dX12_stateNow_124 : decode cX12_stateNow 124 = .ok (.getfield 381, 3) := by decide +kernel
theorem dX12_stateNow_127 : decode cX12_stateNow 127 = .ok (.iconst (-1), 1) := by decide +kernel
theorem dX12_stateNow_128 : decode cX12_stateNow 128 = .ok (.iastore, 1) := by decide +kernel
theorem dX12_stateNow_129 : decode cX12_stateNow 129 = .ok (.aload_n 0, 1) := by decide +kernel
theorem dX12_stateNow_130 : decode cX12_stateNow 130 = .ok (.getfield 100, 3) := by decide +kernel
theorem dX12_stateNow_133 : decode cX12_stateNow 133 = .ok (.aload_n 0, 1) := by decide +kernel
theorem dX12_stateNow_134 : decode cX12_stateNow 134 = .ok (.getfield 381, 3) := by decide +kernel
theorem dX12_stateNow_137 : decode cX12_stateNow 137 = .ok (.lconst 0, 1) := by decide +kernel
theorem dX12_stateNow_138 : decode cX12_stateNow 138 = .ok (.lastore, 1) := by decide +kernel
theorem dX12_stateNow_139 : decode cX12_stateNow 139 = .ok (.aload_n 0, 1) := by decide +kernel
theorem dX12_stateNow_140 : decode cX12_stateNow 140 = .ok (.dup, 1) := by decide +kernel
theorem dX12_stateNow_141 : decode cX12_stateNow 141 = .ok (.getfield 381, 3) := by decide +kernel
theorem dX12_stateNow_144 : decode cX12_stateNow 144 = .ok (.iconst 1, 1) := by decide +kernel
theorem dX12_stateNow_145 : decode cX12_stateNow 145 = .ok (.iadd, 1) := by decide +kernel
theorem dX12_stateNow_146 : decode cX12_stateNow 146 = .ok (.putfield 381, 3) := by decide +kernel
theorem dX12_stateNow_149 : decode cX12_stateNow 149 = .ok (.aload_n 0, 1) := by decide +kernel
theorem dX12_stateNow_150 : decode cX12_stateNow 150 = .ok (.getfield 106, 3) := by decide +kernel
theorem dX12_stateNow_153 : decode cX12_stateNow 153 = .ok (.iload_n 2, 1) := by decide +kernel
theorem dX12_stateNow_154 : decode cX12_stateNow 154 = .ok (.aload_n 0, 1) := by decide +kernel
theorem dX12_stateNow_155 : decode cX12_stateNow 155 = .ok (.getfield 381, 3) := by decide +kernel
theorem dX12_stateNow_158 : decode cX12_stateNow 158 = .ok (.iastore, 1) := by decide +kernel
theorem dX12_stateNow_159 : decode cX12_stateNow 159 = .ok (.aload_n 0, 1) := by decide +kernel
theorem dX12_stateNow_160 : decode cX12_stateNow 160 = .ok (.getfield 381, 3) := by decide +kernel
theorem dX12_stateNow_163 : decode cX12_stateNow 163 = .ok (.iconst 1, 1) := by decide +kernel
theorem dX12_stateNow_164 : decode cX12_stateNow 164 = .ok (.isub, 1) := by decide +kernel
theorem dX12_stateNow_165 : decode cX12_stateNow 165 = .ok (.ireturn, 1) := by decide +kernel
theorem iX12_stateNow_X12 : ∀ w ∈ u_ws RX12 TX12 72, w ∈ wsX12_stateNow := by decide +kernel
set_option maxRecDepth 20000 in
theorem ggX12_stateNow_X12_slot : GoodIn wsX12_stateNow wsX12_slot := goodIn_r _ [16, 17, 4, 18, 6, 8, 1, 19, 20, 21, 15, 22, 3, 5, 7, 23, 24, 25, 26, 27, 28, 29, 30, 31, 32, 33, 34, 35, 36, 37, 38, 39, 40, 41, 42, 43, 44, 45, 46, 47, 48, 49, 50, 51, 52, 53, 54, 55, 56, 57, 58, 59, 60, 61, 62, 63, 64, 65, 66, 67, 68, 69, 70, 71, 72, 73, 74, 75, 76, 77, 78, 79, 80, 81, 82, 83, 84, 85, 86, 87, 88, 89, 90, 91, 92, 93, 94] (by decide +kernel) (by decide +kernel)
set_option maxRecDepth 20000 in
theorem gX12_stateNow_X12_slot : GoodIn wsX12_stateNow (wsV RX12 378 RX12 yX12_slot wsX12_slot) := goodIn_app (goodIn_of _ (by decide +kernel)) ggX12_stateNow_X12_slot
set_option maxRecDepth 100000 in
set_option maxHeartbeats 4000000 in
theorem cX11_lines_1 (l : Launch) (D : va_G) (y : Nat → ClassId) (a0 : Nat) (a1 : Nat) (a2 : Nat) (a3 : Nat) (a4 : Nat) (a5 : Nat) (a6 : Nat) (a7 : Nat) (a8 : Nat) (a9 : Nat) (a10 : Nat) (a11 : Nat) (a12 : Nat) (a13 : Nat) (a14 : Nat) (a15 : Nat) (a16 : Nat) (a17 : Nat) (a18 : Nat) (a19 : Nat) (a20 : Nat) (a21 : Nat) (a22 : Nat) (sz : Nat) : Met l yX11_lines wsX11_lines { frames := 6, cells := 23, slots := 42186, locals := 290 } (nPc D y nT [.ref a0] [(a0, .inr (11, [.ref a1, .ref a2, .ref a3, .ref a4, .ref a5, .ref a6, .ref a7, .ref a8, .ref a9, .ref a10, .ref a11, .ref a12, .ref a13, .ref a14, .int 1, .null, .int 0])), (a6, .inr (7, [.ref a15, .ref a16, .ref a17, .ref a18, .int 0, .int 0, .ref a19, .ref a20, .ref a21, .ref a3])), (a15, .inl (y 0, 9, .inl nz)), (a16, .inl (y 0, 9, .inl nz)), (a17, .inl (y 0, 9, .inl nz)), (a18, .inl (y 0, 4, .inl (upd nz 2 99))), (a19, .inl (y 0, 9, .inl nz)), (a20, .inl (y 0, 9, .inl nz)), (a21, .inl (y 0, 9, .inl nz)), (a2, .inr (5, [.ref a22, .int 0])), (a22, .inl (y 1, 9, .inr (.inl nzl)))] sz) ((fun A => nQi D y (fun r _ => r = 1) (fun u => [(a0, .inr (11, [.ref a1, .ref a2, .ref a3, .ref a4, .ref a5, .ref a6, .ref a7, .ref a8, .ref a9, .ref a10, .ref a11, .ref a12, .ref a13, .ref a14, .int 1, .ref (u 18), .int 1])), ((u 0), .inl (y 0, 2000, .inl nz)), ((u 1), .inl (y 0, 2000, .inl nz)), ((u 2), .inl (y 0, 2000, .inl nz)), ((u 3), .inl (y 1, 2000, .inr (.inl nzl))), (a15, .inl (y 0, 9, .inl nz)), ((u 5), .inl (y 0, 9, .inl nz)), ((u 6), .inl (y 0, 4, .inl (upd nz 2 99))), (a18, .inl (y 0, 4, .inl (upd nz 2 99))), (a19, .inl (y 0, 9, .inl nz)), ((u 7), .inl (y 0, 9, .inl nz)), (a20, .inl (y 0, 9, .inl nz)), ((u 8), .inl (y 0, 9, .inl nz)), (a21, .inl (y 0, 9, .inl nz)), ((u 9), .inl (y 0, 9, .inl nz)), (a16, .inl (y 0, 9, .inl nz)), (a17, .inl (y 0, 9, .inl nz)), (a6, .inr (7, [.ref a15, .ref a16, .ref a17, .ref a18, .int 0, .int 0, .ref a19, .ref a20, .ref a21, .ref a3])), ((u 12), .inl (y 0, 9, .inl nz)), ((u 13), .inl (y 1, 2001, .inr (.inl nzl))), ((u 14), .inl (y 0, 9, .inl nz)), ((u 15), .inl (y 1, 2001, .inr (.inl nzl))), ((u 17), .inl (y 1, 2001, .inr (.inl nzl))), ((u 19), .inl (y 0, 2000, .inl nz)), ((u 21), .inl (y 0, 16000, .inl (upd (upd (upd (upd (upd (upd (upd (upd nz 0 (-1)) 1 (-1)) 2 (-1)) 3 (-1)) 4 (-1)) 5 (-1)) 6 (-1)) 7 (-1)))), ((u 22), .inr (7, [.ref (u 5), .ref (u 12), .ref (u 14), .ref (u 6), .int 0, .int 0, .ref (u 7), .ref (u 8), .ref (u 9), .ref a3])), ((u 20), .inl (y 2, 2000, .inl (upd nz 0 1))), ((u 4), .inl (y 0, 2001, .inl nz)), ((u 18), .inr (4, [.ref (u 16), .ref (u 19), .ref (u 0), .int 1, .int 1, .ref (u 4), .ref (u 20), .ref (u 21), .ref (u 1), .ref (u 2), .ref (u 3), .ref (u 10), .ref (u 22)])), ((u 10), .inl (y 0, 4096, .inl (upd (nfil 4096 0 (upd nz 3476 1)) 2531 1))), ((u 16), .inr (2, [.ref (u 11), .ref (u 15), .ref (u 17), .ref (u 13)])), ((u 11), .inl (y 0, 2001, .inl (upd nz 0 1))), (a2, .inr (5, [.ref a22, .int 4])), (a22, .inl (y 1, 9, .inr (.inl (vp_updL (vp_updL nzl 0 1) 1 1))))]) A) (va_A [(a0, .inr (11, [.ref a1, .ref a2, .ref a3, .ref a4, .ref a5, .ref a6, .ref a7, .ref a8, .ref a9, .ref a10, .ref a11, .ref a12, .ref a13, .ref a14, .int 1, .null, .int 0])), (a6, .inr (7, [.ref a15, .ref a16, .ref a17, .ref a18, .int 0, .int 0, .ref a19, .ref a20, .ref a21, .ref a3])), (a15, .inl (y 0, 9, .inl nz)), (a16, .inl (y 0, 9, .inl nz)), (a17, .inl (y 0, 9, .inl nz)), (a18, .inl (y 0, 4, .inl (upd nz 2 99))), (a19, .inl (y 0, 9, .inl nz)), (a20, .inl (y 0, 9, .inl nz)), (a21, .inl (y 0, 9, .inl nz)), (a2, .inr (5, [.ref a22, .int 0])), (a22, .inl (y 1, 9, .inr (.inl nzl)))] sz)) 23 42186 (va_A [(a0, .inr (11, [.ref a1, .ref a2, .ref a3, .ref a4, .ref a5, .ref a6, .ref a7, .ref a8, .ref a9, .ref a10, .ref a11, .ref a12, .ref a13, .ref a14, .int 1, .null, .int 0])), (a6, .inr (7, [.ref a15, .ref a16, .ref a17, .ref a18, .int 0, .int 0, .ref a19, .ref a20, .ref a21, .ref a3])), (a15, .inl (y 0, 9, .inl nz)), (a16, .inl (y 0, 9, .inl nz)), (a17, .inl (y 0, 9, .inl nz)), (a18, .inl (y 0, 4, .inl (upd nz 2 99))), (a19, .inl (y 0, 9, .inl nz)), (a20, .inl (y 0, 9, .inl nz)), (a21, .inl (y 0, 9, .inl nz)), (a2, .inr (5, [.ref a22, .int 0])), (a22, .inl (y 1, 9, .inr (.inl nzl)))] sz) := by
  refine nm_ofW (D := D) (y := y) (E := nT) (yy := yX11_lines) (wsy := wsX11_lines) (rm := { frames := 6, cells := 23, slots := 42186, locals := 290 }) (as := [.ref a0]) (ws := [(a0, .inr (11, [.ref a1, .ref a2, .ref a3, .ref a4, .ref a5, .ref a6, .ref a7, .ref a8, .ref a9, .ref a10, .ref a11, .ref a12, .ref a13, .ref a14, .int 1, .null, .int 0])), (a6, .inr (7, [.ref a15, .ref a16, .ref a17, .ref a18, .int 0, .int 0, .ref a19, .ref a20, .ref a21, .ref a3])), (a15, .inl (y 0, 9, .inl nz)), (a16, .inl (y 0, 9, .inl nz)), (a17, .inl (y 0, 9, .inl nz)), (a18, .inl (y 0, 4, .inl (upd nz 2 99))), (a19, .inl (y 0, 9, .inl nz)), (a20, .inl (y 0, 9, .inl nz)), (a21, .inl (y 0, 9, .inl nz)), (a2, .inr (5, [.ref a22, .int 0])), (a22, .inl (y 1, 9, .inr (.inl nzl)))]) (sz := sz) (mc := 23) (ms := 42186) (Qc := fun A => nQi D y (fun r _ => r = 1) (fun u => [(a0, .inr (11, [.ref a1, .ref a2, .ref a3, .ref a4, .ref a5, .ref a6, .ref a7, .ref a8, .ref a9, .ref a10, .ref a11, .ref a12, .ref a13, .ref a14, .int 1, .ref (u 18), .int 1])), ((u 0), .inl (y 0, 2000, .inl nz)), ((u 1), .inl (y 0, 2000, .inl nz)), ((u 2), .inl (y 0, 2000, .inl nz)), ((u 3), .inl (y 1, 2000, .inr (.inl nzl))), (a15, .inl (y 0, 9, .inl nz)), ((u 5), .inl (y 0, 9, .inl nz)), ((u 6), .inl (y 0, 4, .inl (upd nz 2 99))), (a18, .inl (y 0, 4, .inl (upd nz 2 99))), (a19, .inl (y 0, 9, .inl nz)), ((u 7), .inl (y 0, 9, .inl nz)), (a20, .inl (y 0, 9, .inl nz)), ((u 8), .inl (y 0, 9, .inl nz)), (a21, .inl (y 0, 9, .inl nz)), ((u 9), .inl (y 0, 9, .inl nz)), (a16, .inl (y 0, 9, .inl nz)), (a17, .inl (y 0, 9, .inl nz)), (a6, .inr (7, [.ref a15, .ref a16, .ref a17, .ref a18, .int 0, .int 0, .ref a19, .ref a20, .ref a21, .ref a3])), ((u 12), .inl (y 0, 9, .inl nz)), ((u 13), .inl (y 1, 2001, .inr (.inl nzl))), ((u 14), .inl (y 0, 9, .inl nz)), ((u 15), .inl (y 1, 2001, .inr (.inl nzl))), ((u 17), .inl (y 1, 2001, .inr (.inl nzl))), ((u 19), .inl (y 0, 2000, .inl nz)), ((u 21), .inl (y 0, 16000, .inl (upd (upd (upd (upd (upd (upd (upd (upd nz 0 (-1)) 1 (-1)) 2 (-1)) 3 (-1)) 4 (-1)) 5 (-1)) 6 (-1)) 7 (-1)))), ((u 22), .inr (7, [.ref (u 5), .ref (u 12), .ref (u 14), .ref (u 6), .int 0, .int 0, .ref (u 7), .ref (u 8), .ref (u 9), .ref a3])), ((u 20), .inl (y 2, 2000, .inl (upd nz 0 1))), ((u 4), .inl (y 0, 2001, .inl nz)), ((u 18), .inr (4, [.ref (u 16), .ref (u 19), .ref (u 0), .int 1, .int 1, .ref (u 4), .ref (u 20), .ref (u 21), .ref (u 1), .ref (u 2), .ref (u 3), .ref (u 10), .ref (u 22)])), ((u 10), .inl (y 0, 4096, .inl (upd (nfil 4096 0 (upd nz 3476 1)) 2531 1))), ((u 16), .inr (2, [.ref (u 11), .ref (u 15), .ref (u 17), .ref (u 13)])), ((u 11), .inl (y 0, 2001, .inl (upd nz 0 1))), (a2, .inr (5, [.ref a22, .int 4])), (a22, .inl (y 1, 9, .inr (.inl (vp_updL (vp_updL nzl 0 1) 1 1))))]) A) (cc := cX11_lines) (maxL := 2) (ret := (some .int)) (by decide +kernel) rfl (Nat.le_of_ble_eq_true rfl) ?_
  intro p e s m below meth c A ls H hx hb hr hml hts hown hlocks hnm hsz hP hK hD hA hS hE hAe hl
  replace hl : lv_has ls 2 [(0, .ref a0)] := hl
  have hown : s.vm.findClass RX11 = some m.cls := hown
  have w_0 := hts (.fieldLink RX11 19 "SoldToBehind" "told" "LSoldToBehind$Row;") (by decide +kernel)
  have w_1 := hts (.fieldLink RX11 350 "SoldToBehind$Reach" "count" "I") (by decide +kernel)
  refine lv_aload_n hx hb dX11_lines_0 rfl (lv_at hl 0 rfl) ?_
  refine nj_r (ws := [(a0, .inr (11, [.ref a1, .ref a2, .ref a3, .ref a4, .ref a5, .ref a6, .ref a7, .ref a8, .ref a9, .ref a10, .ref a11, .ref a12, .ref a13, .ref a14, .int 1, .null, .int 0])), (a6, .inr (7, [.ref a15, .ref a16, .ref a17, .ref a18, .int 0, .int 0, .ref a19, .ref a20, .ref a21, .ref a3])), (a15, .inl (y 0, 9, .inl nz)), (a16, .inl (y 0, 9, .inl nz)), (a17, .inl (y 0, 9, .inl nz)), (a18, .inl (y 0, 4, .inl (upd nz 2 99))), (a19, .inl (y 0, 9, .inl nz)), (a20, .inl (y 0, 9, .inl nz)), (a21, .inl (y 0, 9, .inl nz)), (a2, .inr (5, [.ref a22, .int 0])), (a22, .inl (y 1, 9, .inr (.inl nzl)))]) (wc := [(a0, .inr (11, [.ref a1, .ref a2, .ref a3, .ref a4, .ref a5, .ref a6, .ref a7, .ref a8, .ref a9, .ref a10, .ref a11, .ref a12, .ref a13, .ref a14, .int 1, .null, .int 0])), (a6, .inr (7, [.ref a15, .ref a16, .ref a17, .ref a18, .int 0, .int 0, .ref a19, .ref a20, .ref a21, .ref a3])), (a15, .inl (y 0, 9, .inl nz)), (a16, .inl (y 0, 9, .inl nz)), (a17, .inl (y 0, 9, .inl nz)), (a18, .inl (y 0, 4, .inl (upd nz 2 99))), (a19, .inl (y 0, 9, .inl nz)), (a20, .inl (y 0, 9, .inl nz)), (a21, .inl (y 0, 9, .inl nz))]) (wr := [(a2, .inr (5, [.ref a22, .int 0])), (a22, .inl (y 1, 9, .inr (.inl nzl)))]) (nr_V (As := []) (rest := []) ⟨hx, hb, hml, hown, hts⟩ (cX11_allLines_1 l D y a0 a1 a2 a3 a4 a5 a6 a7 a8 a9 a10 a11 a12 a13 a14 a15 a16 a17 a18 a19 a20 a21 H.size) (cwV 0 hts gX11_lines_X11_allLines rfl rfl rfl (by decide +kernel) ⟨Nat.le_of_ble_eq_true rfl, Nat.le_of_ble_eq_true rfl⟩) hK hP hD hE [0, 1, 2, 3, 4, 5, 6, 7, 8] rfl (by decide +kernel) 0 11 rfl rfl rfl rfl rfl hl.1 rfl (lv_room (Nat.le_of_ble_eq_true rfl)) dX11_lines_1 ⟨Nat.le_of_ble_eq_true rfl, Nat.le_of_ble_eq_true rfl⟩) hP hD hS hA [0, 1, 2, 3, 4, 5, 6, 7, 8] [9, 10] rfl rfl (by decide +kernel) (by decide +kernel) (fun u1 H locs hP hD hS => ?_)
  replace hP : va_P D vwCl [(a2, .inr (5, [.ref a22, .int 0])), (a22, .inl (y 1, 9, .inr (.inl nzl))), (a0, .inr (11, [.ref a1, .ref a2, .ref a3, .ref a4, .ref a5, .ref a6, .ref a7, .ref a8, .ref a9, .ref a10, .ref a11, .ref a12, .ref a13, .ref a14, .int 1, .ref (u1 0), .int 1])), ((u1 7), .inl (y 0, 2000, .inl nz)), ((u1 11), .inl (y 0, 2000, .inl nz)), ((u1 12), .inl (y 0, 2000, .inl nz)), ((u1 13), .inl (y 1, 2000, .inr (.inl nzl))), ((u1 8), .inl (y 0, 2001, .inl nz)), (a15, .inl (y 0, 9, .inl nz)), ((u1 16), .inl (y 0, 9, .inl nz)), ((u1 19), .inl (y 0, 4, .inl (upd nz 2 99))), (a18, .inl (y 0, 4, .inl (upd nz 2 99))), (a19, .inl (y 0, 9, .inl nz)), ((u1 20), .inl (y 0, 9, .inl nz)), (a20, .inl (y 0, 9, .inl nz)), ((u1 21), .inl (y 0, 9, .inl nz)), (a21, .inl (y 0, 9, .inl nz)), ((u1 22), .inl (y 0, 9, .inl nz)), (a16, .inl (y 0, 9, .inl nz)), (a17, .inl (y 0, 9, .inl nz)), (a6, .inr (7, [.ref a15, .ref a16, .ref a17, .ref a18, .int 0, .int 0, .ref a19, .ref a20, .ref a21, .ref a3])), ((u1 14), .inl (y 0, 4096, .inl (upd nz 3476 1))), ((u1 2), .inl (y 0, 2001, .inl (upd nz 0 1))), ((u1 17), .inl (y 0, 9, .inl nz)), ((u1 5), .inl (y 1, 2001, .inr (.inl nzl))), ((u1 18), .inl (y 0, 9, .inl nz)), ((u1 3), .inl (y 1, 2001, .inr (.inl nzl))), ((u1 1), .inr (2, [.ref (u1 2), .ref (u1 3), .ref (u1 4), .ref (u1 5)])), ((u1 4), .inl (y 1, 2001, .inr (.inl nzl))), ((u1 0), .inr (4, [.ref (u1 1), .ref (u1 6), .ref (u1 7), .int 1, .int 1, .ref (u1 8), .ref (u1 9), .ref (u1 10), .ref (u1 11), .ref (u1 12), .ref (u1 13), .ref (u1 14), .ref (u1 15)])), ((u1 6), .inl (y 0, 2000, .inl nz)), ((u1 9), .inl (y 2, 2000, .inl (upd nz 0 1))), ((u1 10), .inl (y 0, 16000, .inl (upd (upd (upd (upd (upd (upd (upd (upd nz 0 (-1)) 1 (-1)) 2 (-1)) 3 (-1)) 4 (-1)) 5 (-1)) 6 (-1)) 7 (-1)))), ((u1 15), .inr (7, [.ref (u1 16), .ref (u1 17), .ref (u1 18), .ref (u1 19), .int 0, .int 0, .ref (u1 20), .ref (u1 21), .ref (u1 22), .ref a3]))] H := hP
  replace hD : va_D A [(a2, .inr (5, [.ref a22, .int 0])), (a22, .inl (y 1, 9, .inr (.inl nzl))), (a0, .inr (11, [.ref a1, .ref a2, .ref a3, .ref a4, .ref a5, .ref a6, .ref a7, .ref a8, .ref a9, .ref a10, .ref a11, .ref a12, .ref a13, .ref a14, .int 1, .ref (u1 0), .int 1])), ((u1 7), .inl (y 0, 2000, .inl nz)), ((u1 11), .inl (y 0, 2000, .inl nz)), ((u1 12), .inl (y 0, 2000, .inl nz)), ((u1 13), .inl (y 1, 2000, .inr (.inl nzl))), ((u1 8), .inl (y 0, 2001, .inl nz)), (a15, .inl (y 0, 9, .inl nz)), ((u1 16), .inl (y 0, 9, .inl nz)), ((u1 19), .inl (y 0, 4, .inl (upd nz 2 99))), (a18, .inl (y 0, 4, .inl (upd nz 2 99))), (a19, .inl (y 0, 9, .inl nz)), ((u1 20), .inl (y 0, 9, .inl nz)), (a20, .inl (y 0, 9, .inl nz)), ((u1 21), .inl (y 0, 9, .inl nz)), (a21, .inl (y 0, 9, .inl nz)), ((u1 22), .inl (y 0, 9, .inl nz)), (a16, .inl (y 0, 9, .inl nz)), (a17, .inl (y 0, 9, .inl nz)), (a6, .inr (7, [.ref a15, .ref a16, .ref a17, .ref a18, .int 0, .int 0, .ref a19, .ref a20, .ref a21, .ref a3])), ((u1 14), .inl (y 0, 4096, .inl (upd nz 3476 1))), ((u1 2), .inl (y 0, 2001, .inl (upd nz 0 1))), ((u1 17), .inl (y 0, 9, .inl nz)), ((u1 5), .inl (y 1, 2001, .inr (.inl nzl))), ((u1 18), .inl (y 0, 9, .inl nz)), ((u1 3), .inl (y 1, 2001, .inr (.inl nzl))), ((u1 1), .inr (2, [.ref (u1 2), .ref (u1 3), .ref (u1 4), .ref (u1 5)])), ((u1 4), .inl (y 1, 2001, .inr (.inl nzl))), ((u1 0), .inr (4, [.ref (u1 1), .ref (u1 6), .ref (u1 7), .int 1, .int 1, .ref (u1 8), .ref (u1 9), .ref (u1 10), .ref (u1 11), .ref (u1 12), .ref (u1 13), .ref (u1 14), .ref (u1 15)])), ((u1 6), .inl (y 0, 2000, .inl nz)), ((u1 9), .inl (y 2, 2000, .inl (upd nz 0 1))), ((u1 10), .inl (y 0, 16000, .inl (upd (upd (upd (upd (upd (upd (upd (upd nz 0 (-1)) 1 (-1)) 2 (-1)) 3 (-1)) 4 (-1)) 5 (-1)) 6 (-1)) 7 (-1)))), ((u1 15), .inr (7, [.ref (u1 16), .ref (u1 17), .ref (u1 18), .ref (u1 19), .int 0, .int 0, .ref (u1 20), .ref (u1 21), .ref (u1 22), .ref a3]))] := hD
  refine lv_astore_n (lv' := [(1, .ref (u1 0)), (0, .ref a0)]) hx hb dX11_lines_4 rfl hl (by decide +kernel) rfl (fun ls hl => ?_)
  refine lv_aload_n hx hb dX11_lines_5 rfl (lv_at hl 0 rfl) ?_
  refine lv_ifnonnull (tgt := 12) hx hb dX11_lines_6 (by decide +kernel) ?_
  refine lv_aload_n hx hb dX11_lines_12 rfl (lv_at hl 0 rfl) ?_
  refine lv_aload_n hx hb dX11_lines_13 rfl (lv_at hl 1 rfl) ?_
  refine va_get (D := D) (ci := 11) (v := .ref a2) (C := RX11) (T := TX11) (N := 17) hx hb hts iX11_lines_X11 hown hK hP 2 rfl rfl 1 (by decide +kernel) w_0 (fun _ h9 => h9) rfl dX11_lines_14 ?_
  refine nj_v (ws := [(a2, .inr (5, [.ref a22, .int 0])), (a22, .inl (y 1, 9, .inr (.inl nzl))), (a0, .inr (11, [.ref a1, .ref a2, .ref a3, .ref a4, .ref a5, .ref a6, .ref a7, .ref a8, .ref a9, .ref a10, .ref a11, .ref a12, .ref a13, .ref a14, .int 1, .ref (u1 0), .int 1])), ((u1 7), .inl (y 0, 2000, .inl nz)), ((u1 11), .inl (y 0, 2000, .inl nz)), ((u1 12), .inl (y 0, 2000, .inl nz)), ((u1 13), .inl (y 1, 2000, .inr (.inl nzl))), ((u1 8), .inl (y 0, 2001, .inl nz)), (a15, .inl (y 0, 9, .inl nz)), ((u1 16), .inl (y 0, 9, .inl nz)), ((u1 19), .inl (y 0, 4, .inl (upd nz 2 99))), (a18, .inl (y 0, 4, .inl (upd nz 2 99))), (a19, .inl (y 0, 9, .inl nz)), ((u1 20), .inl (y 0, 9, .inl nz)), (a20, .inl (y 0, 9, .inl nz)), ((u1 21), .inl (y 0, 9, .inl nz)), (a21, .inl (y 0, 9, .inl nz)), ((u1 22), .inl (y 0, 9, .inl nz)), (a16, .inl (y 0, 9, .inl nz)), (a17, .inl (y 0, 9, .inl nz)), (a6, .inr (7, [.ref a15, .ref a16, .ref a17, .ref a18, .int 0, .int 0, .ref a19, .ref a20, .ref a21, .ref a3])), ((u1 14), .inl (y 0, 4096, .inl (upd nz 3476 1))), ((u1 2), .inl (y 0, 2001, .inl (upd nz 0 1))), ((u1 17), .inl (y 0, 9, .inl nz)), ((u1 5), .inl (y 1, 2001, .inr (.inl nzl))), ((u1 18), .inl (y 0, 9, .inl nz)), ((u1 3), .inl (y 1, 2001, .inr (.inl nzl))), ((u1 1), .inr (2, [.ref (u1 2), .ref (u1 3), .ref (u1 4), .ref (u1 5)])), ((u1 4), .inl (y 1, 2001, .inr (.inl nzl))), ((u1 0), .inr (4, [.ref (u1 1), .ref (u1 6), .ref (u1 7), .int 1, .int 1, .ref (u1 8), .ref (u1 9), .ref (u1 10), .ref (u1 11), .ref (u1 12), .ref (u1 13), .ref (u1 14), .ref (u1 15)])), ((u1 6), .inl (y 0, 2000, .inl nz)), ((u1 9), .inl (y 2, 2000, .inl (upd nz 0 1))), ((u1 10), .inl (y 0, 16000, .inl (upd (upd (upd (upd (upd (upd (upd (upd nz 0 (-1)) 1 (-1)) 2 (-1)) 3 (-1)) 4 (-1)) 5 (-1)) 6 (-1)) 7 (-1)))), ((u1 15), .inr (7, [.ref (u1 16), .ref (u1 17), .ref (u1 18), .ref (u1 19), .int 0, .int 0, .ref (u1 20), .ref (u1 21), .ref (u1 22), .ref a3]))]) (wc := [((u1 0), .inr (4, [.ref (u1 1), .ref (u1 6), .ref (u1 7), .int 1, .int 1, .ref (u1 8), .ref (u1 9), .ref (u1 10), .ref (u1 11), .ref (u1 12), .ref (u1 13), .ref (u1 14), .ref (u1 15)])), ((u1 9), .inl (y 2, 2000, .inl (upd nz 0 1))), ((u1 8), .inl (y 0, 2001, .inl nz)), ((u1 14), .inl (y 0, 4096, .inl (upd nz 3476 1))), ((u1 1), .inr (2, [.ref (u1 2), .ref (u1 3), .ref (u1 4), .ref (u1 5)])), ((u1 2), .inl (y 0, 2001, .inl (upd nz 0 1))), (a2, .inr (5, [.ref a22, .int 0])), (a22, .inl (y 1, 9, .inr (.inl nzl)))]) (wr := [(a0, .inr (11, [.ref a1, .ref a2, .ref a3, .ref a4, .ref a5, .ref a6, .ref a7, .ref a8, .ref a9, .ref a10, .ref a11, .ref a12, .ref a13, .ref a14, .int 1, .ref (u1 0), .int 1])), ((u1 7), .inl (y 0, 2000, .inl nz)), ((u1 11), .inl (y 0, 2000, .inl nz)), ((u1 12), .inl (y 0, 2000, .inl nz)), ((u1 13), .inl (y 1, 2000, .inr (.inl nzl))), (a15, .inl (y 0, 9, .inl nz)), ((u1 16), .inl (y 0, 9, .inl nz)), ((u1 19), .inl (y 0, 4, .inl (upd nz 2 99))), (a18, .inl (y 0, 4, .inl (upd nz 2 99))), (a19, .inl (y 0, 9, .inl nz)), ((u1 20), .inl (y 0, 9, .inl nz)), (a20, .inl (y 0, 9, .inl nz)), ((u1 21), .inl (y 0, 9, .inl nz)), (a21, .inl (y 0, 9, .inl nz)), ((u1 22), .inl (y 0, 9, .inl nz)), (a16, .inl (y 0, 9, .inl nz)), (a17, .inl (y 0, 9, .inl nz)), (a6, .inr (7, [.ref a15, .ref a16, .ref a17, .ref a18, .int 0, .int 0, .ref a19, .ref a20, .ref a21, .ref a3])), ((u1 17), .inl (y 0, 9, .inl nz)), ((u1 5), .inl (y 1, 2001, .inr (.inl nzl))), ((u1 18), .inl (y 0, 9, .inl nz)), ((u1 3), .inl (y 1, 2001, .inr (.inl nzl))), ((u1 4), .inl (y 1, 2001, .inr (.inl nzl))), ((u1 6), .inl (y 0, 2000, .inl nz)), ((u1 10), .inl (y 0, 16000, .inl (upd (upd (upd (upd (upd (upd (upd (upd nz 0 (-1)) 1 (-1)) 2 (-1)) 3 (-1)) 4 (-1)) 5 (-1)) 6 (-1)) 7 (-1)))), ((u1 15), .inr (7, [.ref (u1 16), .ref (u1 17), .ref (u1 18), .ref (u1 19), .int 0, .int 0, .ref (u1 20), .ref (u1 21), .ref (u1 22), .ref a3]))]) (nr_V (As := [.ref a2]) (rest := []) ⟨hx, hb, hml, hown, hts⟩ (cX4_tellRests_1 l D y (u1 0) a2 (u1 1) (u1 6) (u1 7) (u1 8) (u1 9) (u1 10) (u1 11) (u1 12) (u1 13) (u1 14) (u1 15) (u1 2) (u1 3) (u1 4) (u1 5) a22 H.size) (cwV 1 hts gX11_lines_X4_tellRests rfl rfl rfl (by decide +kernel) ⟨Nat.le_of_ble_eq_true rfl, Nat.le_of_ble_eq_true rfl⟩) hK hP hD hE [29, 31, 7, 21, 27, 22, 0, 1] rfl (by decide +kernel) 0 4 rfl rfl rfl rfl rfl hl.1 rfl (lv_room (Nat.le_of_ble_eq_true rfl)) dX11_lines_17 ⟨Nat.le_of_ble_eq_true rfl, Nat.le_of_ble_eq_true rfl⟩) hP hD hS hA [29, 31, 7, 21, 27, 22, 0, 1] [2, 3, 4, 5, 6, 8, 9, 10, 11, 12, 13, 14, 15, 16, 17, 18, 19, 20, 23, 24, 25, 26, 28, 30, 32, 33] rfl rfl (by decide +kernel) (by decide +kernel) (fun u2 H locs _ hP hD hS => ?_)
  replace hP : va_P D vwCl [(a0, .inr (11, [.ref a1, .ref a2, .ref a3, .ref a4, .ref a5, .ref a6, .ref a7, .ref a8, .ref a9, .ref a10, .ref a11, .ref a12, .ref a13, .ref a14, .int 1, .ref (u1 0), .int 1])), ((u1 7), .inl (y 0, 2000, .inl nz)), ((u1 11), .inl (y 0, 2000, .inl nz)), ((u1 12), .inl (y 0, 2000, .inl nz)), ((u1 13), .inl (y 1, 2000, .inr (.inl nzl))), (a15, .inl (y 0, 9, .inl nz)), ((u1 16), .inl (y 0, 9, .inl nz)), ((u1 19), .inl (y 0, 4, .inl (upd nz 2 99))), (a18, .inl (y 0, 4, .inl (upd nz 2 99))), (a19, .inl (y 0, 9, .inl nz)), ((u1 20), .inl (y 0, 9, .inl nz)), (a20, .inl (y 0, 9, .inl nz)), ((u1 21), .inl (y 0, 9, .inl nz)), (a21, .inl (y 0, 9, .inl nz)), ((u1 22), .inl (y 0, 9, .inl nz)), (a16, .inl (y 0, 9, .inl nz)), (a17, .inl (y 0, 9, .inl nz)), (a6, .inr (7, [.ref a15, .ref a16, .ref a17, .ref a18, .int 0, .int 0, .ref a19, .ref a20, .ref a21, .ref a3])), ((u1 17), .inl (y 0, 9, .inl nz)), ((u1 5), .inl (y 1, 2001, .inr (.inl nzl))), ((u1 18), .inl (y 0, 9, .inl nz)), ((u1 3), .inl (y 1, 2001, .inr (.inl nzl))), ((u1 4), .inl (y 1, 2001, .inr (.inl nzl))), ((u1 6), .inl (y 0, 2000, .inl nz)), ((u1 10), .inl (y 0, 16000, .inl (upd (upd (upd (upd (upd (upd (upd (upd nz 0 (-1)) 1 (-1)) 2 (-1)) 3 (-1)) 4 (-1)) 5 (-1)) 6 (-1)) 7 (-1)))), ((u1 15), .inr (7, [.ref (u1 16), .ref (u1 17), .ref (u1 18), .ref (u1 19), .int 0, .int 0, .ref (u1 20), .ref (u1 21), .ref (u1 22), .ref a3])), ((u1 9), .inl (y 2, 2000, .inl (upd nz 0 1))), ((u1 8), .inl (y 0, 2001, .inl nz)), ((u1 0), .inr (4, [.ref (u1 1), .ref (u1 6), .ref (u1 7), .int 1, .int 1, .ref (u1 8), .ref (u1 9), .ref (u1 10), .ref (u1 11), .ref (u1 12), .ref (u1 13), .ref (u1 14), .ref (u1 15)])), ((u1 14), .inl (y 0, 4096, .inl (upd (nfil 4096 0 (upd nz 3476 1)) 2531 1))), ((u1 1), .inr (2, [.ref (u1 2), .ref (u1 3), .ref (u1 4), .ref (u1 5)])), ((u1 2), .inl (y 0, 2001, .inl (upd nz 0 1))), (a2, .inr (5, [.ref a22, .int 4])), (a22, .inl (y 1, 9, .inr (.inl (vp_updL (vp_updL nzl 0 1) 1 1))))] H := hP
  replace hD : va_D A [(a0, .inr (11, [.ref a1, .ref a2, .ref a3, .ref a4, .ref a5, .ref a6, .ref a7, .ref a8, .ref a9, .ref a10, .ref a11, .ref a12, .ref a13, .ref a14, .int 1, .ref (u1 0), .int 1])), ((u1 7), .inl (y 0, 2000, .inl nz)), ((u1 11), .inl (y 0, 2000, .inl nz)), ((u1 12), .inl (y 0, 2000, .inl nz)), ((u1 13), .inl (y 1, 2000, .inr (.inl nzl))), (a15, .inl (y 0, 9, .inl nz)), ((u1 16), .inl (y 0, 9, .inl nz)), ((u1 19), .inl (y 0, 4, .inl (upd nz 2 99))), (a18, .inl (y 0, 4, .inl (upd nz 2 99))), (a19, .inl (y 0, 9, .inl nz)), ((u1 20), .inl (y 0, 9, .inl nz)), (a20, .inl (y 0, 9, .inl nz)), ((u1 21), .inl (y 0, 9, .inl nz)), (a21, .inl (y 0, 9, .inl nz)), ((u1 22), .inl (y 0, 9, .inl nz)), (a16, .inl (y 0, 9, .inl nz)), (a17, .inl (y 0, 9, .inl nz)), (a6, .inr (7, [.ref a15, .ref a16, .ref a17, .ref a18, .int 0, .int 0, .ref a19, .ref a20, .ref a21, .ref a3])), ((u1 17), .inl (y 0, 9, .inl nz)), ((u1 5), .inl (y 1, 2001, .inr (.inl nzl))), ((u1 18), .inl (y 0, 9, .inl nz)), ((u1 3), .inl (y 1, 2001, .inr (.inl nzl))), ((u1 4), .inl (y 1, 2001, .inr (.inl nzl))), ((u1 6), .inl (y 0, 2000, .inl nz)), ((u1 10), .inl (y 0, 16000, .inl (upd (upd (upd (upd (upd (upd (upd (upd nz 0 (-1)) 1 (-1)) 2 (-1)) 3 (-1)) 4 (-1)) 5 (-1)) 6 (-1)) 7 (-1)))), ((u1 15), .inr (7, [.ref (u1 16), .ref (u1 17), .ref (u1 18), .ref (u1 19), .int 0, .int 0, .ref (u1 20), .ref (u1 21), .ref (u1 22), .ref a3])), ((u1 9), .inl (y 2, 2000, .inl (upd nz 0 1))), ((u1 8), .inl (y 0, 2001, .inl nz)), ((u1 0), .inr (4, [.ref (u1 1), .ref (u1 6), .ref (u1 7), .int 1, .int 1, .ref (u1 8), .ref (u1 9), .ref (u1 10), .ref (u1 11), .ref (u1 12), .ref (u1 13), .ref (u1 14), .ref (u1 15)])), ((u1 14), .inl (y 0, 4096, .inl (upd (nfil 4096 0 (upd nz 3476 1)) 2531 1))), ((u1 1), .inr (2, [.ref (u1 2), .ref (u1 3), .ref (u1 4), .ref (u1 5)])), ((u1 2), .inl (y 0, 2001, .inl (upd nz 0 1))), (a2, .inr (5, [.ref a22, .int 4])), (a22, .inl (y 1, 9, .inr (.inl (vp_updL (vp_updL nzl 0 1) 1 1))))] := hD
  refine lv_aload_n hx hb dX11_lines_20 rfl (lv_at hl 0 rfl) ?_
  refine va_get (D := D) (ci := 4) (v := .int 1) (C := RX4) (T := TX4) (N := 13) hx hb hts iX11_lines_X4 hown hK hP 28 rfl rfl 3 (by decide +kernel) w_1 (fun _ h9 => h9) rfl dX11_lines_21 ?_
  refine W.widen (k := 23) (n := 42186) (Nat.le_of_ble_eq_true rfl) (Nat.le_of_ble_eq_true rfl) ?_
  exact W.iret (v := 1) hx hb hr (fun t ht hW => ⟨⟨1, (fun k => if k = 0 then (u1 7) else if k = 1 then (u1 11) else if k = 2 then (u1 12) else if k = 3 then (u1 13) else if k = 4 then (u1 8) else if k = 5 then (u1 16) else if k = 6 then (u1 19) else if k = 7 then (u1 20) else if k = 8 then (u1 21) else if k = 9 then (u1 22) else if k = 10 then (u1 14) else if k = 11 then (u1 2) else if k = 12 then (u1 17) else if k = 13 then (u1 5) else if k = 14 then (u1 18) else if k = 15 then (u1 3) else if k = 16 then (u1 1) else if k = 17 then (u1 4) else if k = 18 then (u1 0) else if k = 19 then (u1 6) else if k = 20 then (u1 9) else if k = 21 then (u1 10) else if k = 22 then (u1 15) else 0), rfl, rfl, by rw [ht]; exact hP, va_K.moved hW.alike hK, hD⟩, hS.F ht⟩) hS.2.2 dX11_lines_24 hlocks
set_option maxRecDepth 100000 in
set_option maxHeartbeats 4000000 in
theorem cX12_slot_1 (l : Launch) (D : va_G) (y : Nat → ClassId) (a0 : Nat) (a1 : Nat) (a2 : Nat) (a3 : Nat) (a4 : Nat) (a5 : Nat) (a6 : Nat) (a7 : Nat) (a8 : Nat) (a9 : Nat) (a10 : Nat) (a11 : Nat) (a12 : Nat) (a13 : Nat) (a14 : Nat) (a15 : Nat) (a16 : Nat) (a17 : Nat) (a18 : Nat) (a19 : Nat) (a20 : Nat) (a21 : Nat) (a22 : Nat) (a23 : Nat) (a24 : Nat) (a25 : Nat) (a26 : Nat) (a27 : Nat) (a28 : Nat) (a29 : Nat) (a30 : Nat) (a31 : Nat) (a32 : Nat) (a33 : Nat) (a34 : Nat) (a35 : Nat) (sz : Nat) : Met l yX12_slot wsX12_slot { frames := 2, cells := 0, slots := 0, locals := 200 } (nPc D y nT [.ref a0] [(a0, .inr (12, [.int 0, .ref a1, .ref a2, .ref a3, .ref a4, .ref a5, .ref a6, .ref a7, .int 0, .ref a8, .int 0, .ref a9, .ref a10, .int 1, .ref a11, .int 0, .ref a12, .int 0, .int 0, .null, .int 0, .int 0, .int 0, .int 0, .ref a13, .ref a14, .ref a15, .int (-1), .int 0, .int 0, .int 0, .int 0, .int 0, .int 0, .int 0, .ref a16, .int 0, .ref a17, .int 0, .ref a18, .ref a19, .int 0, .int 0, .int 0, .int 0, .ref a20, .ref a21, .ref a22, .ref a23, .ref a24, .ref a25, .ref a26, .ref a27, .ref a28, .int 0, .ref a29, .ref a30, .ref a31, .long 0, .int 0, .int 0, .int 0, .long 0, .int 0, .ref a32, .int 0, .int 0, .int 0, .int 0, .ref a33, .ref a34, .ref a35])), (a29, .inl (y 0, 8192, .inl nz))] sz) ((fun A => nQi D y (fun r _ => r = 7) (fun u => [(a0, .inr (12, [.int 0, .ref a1, .ref a2, .ref a3, .ref a4, .ref a5, .ref a6, .ref a7, .int 0, .ref a8, .int 0, .ref a9, .ref a10, .int 1, .ref a11, .int 0, .ref a12, .int 0, .int 0, .null, .int 0, .int 0, .int 0, .int 0, .ref a13, .ref a14, .ref a15, .int (-1), .int 0, .int 0, .int 0, .int 0, .int 0, .int 0, .int 0, .ref a16, .int 0, .ref a17, .int 0, .ref a18, .ref a19, .int 0, .int 0, .int 0, .int 0, .ref a20, .ref a21, .ref a22, .ref a23, .ref a24, .ref a25, .ref a26, .ref a27, .ref a28, .int 0, .ref a29, .ref a30, .ref a31, .long 0, .int 0, .int 0, .int 0, .long 0, .int 0, .ref a32, .int 0, .int 0, .int 0, .int 0, .ref a33, .ref a34, .ref a35])), (a29, .inl (y 0, 8192, .inl nz))]) A) (va_A [(a0, .inr (12, [.int 0, .ref a1, .ref a2, .ref a3, .ref a4, .ref a5, .ref a6, .ref a7, .int 0, .ref a8, .int 0, .ref a9, .ref a10, .int 1, .ref a11, .int 0, .ref a12, .int 0, .int 0, .null, .int 0, .int 0, .int 0, .int 0, .ref a13, .ref a14, .ref a15, .int (-1), .int 0, .int 0, .int 0, .int 0, .int 0, .int 0, .int 0, .ref a16, .int 0, .ref a17, .int 0, .ref a18, .ref a19, .int 0, .int 0, .int 0, .int 0, .ref a20, .ref a21, .ref a22, .ref a23, .ref a24, .ref a25, .ref a26, .ref a27, .ref a28, .int 0, .ref a29, .ref a30, .ref a31, .long 0, .int 0, .int 0, .int 0, .long 0, .int 0, .ref a32, .int 0, .int 0, .int 0, .int 0, .ref a33, .ref a34, .ref a35])), (a29, .inl (y 0, 8192, .inl nz))] sz)) 0 0 (va_A [(a0, .inr (12, [.int 0, .ref a1, .ref a2, .ref a3, .ref a4, .ref a5, .ref a6, .ref a7, .int 0, .ref a8, .int 0, .ref a9, .ref a10, .int 1, .ref a11, .int 0, .ref a12, .int 0, .int 0, .null, .int 0, .int 0, .int 0, .int 0, .ref a13, .ref a14, .ref a15, .int (-1), .int 0, .int 0, .int 0, .int 0, .int 0, .int 0, .int 0, .ref a16, .int 0, .ref a17, .int 0, .ref a18, .ref a19, .int 0, .int 0, .int 0, .int 0, .ref a20, .ref a21, .ref a22, .ref a23, .ref a24, .ref a25, .ref a26, .ref a27, .ref a28, .int 0, .ref a29, .ref a30, .ref a31, .long 0, .int 0, .int 0, .int 0, .long 0, .int 0, .ref a32, .int 0, .int 0, .int 0, .int 0, .ref a33, .ref a34, .ref a35])), (a29, .inl (y 0, 8192, .inl nz))] sz) := by
  refine nm_ofW (D := D) (y := y) (E := nT) (yy := yX12_slot) (wsy := wsX12_slot) (rm := { frames := 2, cells := 0, slots := 0, locals := 200 }) (as := [.ref a0]) (ws := [(a0, .inr (12, [.int 0, .ref a1, .ref a2, .ref a3, .ref a4, .ref a5, .ref a6, .ref a7, .int 0, .ref a8, .int 0, .ref a9, .ref a10, .int 1, .ref a11, .int 0, .ref a12, .int 0, .int 0, .null, .int 0, .int 0, .int 0, .int 0, .ref a13, .ref a14, .ref a15, .int (-1), .int 0, .int 0, .int 0, .int 0, .int 0, .int 0, .int 0, .ref a16, .int 0, .ref a17, .int 0, .ref a18, .ref a19, .int 0, .int 0, .int 0, .int 0, .ref a20, .ref a21, .ref a22, .ref a23, .ref a24, .ref a25, .ref a26, .ref a27, .ref a28, .int 0, .ref a29, .ref a30, .ref a31, .long 0, .int 0, .int 0, .int 0, .long 0, .int 0, .ref a32, .int 0, .int 0, .int 0, .int 0, .ref a33, .ref a34, .ref a35])), (a29, .inl (y 0, 8192, .inl nz))]) (sz := sz) (mc := 0) (ms := 0) (Qc := fun A => nQi D y (fun r _ => r = 7) (fun u => [(a0, .inr (12, [.int 0, .ref a1, .ref a2, .ref a3, .ref a4, .ref a5, .ref a6, .ref a7, .int 0, .ref a8, .int 0, .ref a9, .ref a10, .int 1, .ref a11, .int 0, .ref a12, .int 0, .int 0, .null, .int 0, .int 0, .int 0, .int 0, .ref a13, .ref a14, .ref a15, .int (-1), .int 0, .int 0, .int 0, .int 0, .int 0, .int 0, .int 0, .ref a16, .int 0, .ref a17, .int 0, .ref a18, .ref a19, .int 0, .int 0, .int 0, .int 0, .ref a20, .ref a21, .ref a22, .ref a23, .ref a24, .ref a25, .ref a26, .ref a27, .ref a28, .int 0, .ref a29, .ref a30, .ref a31, .long 0, .int 0, .int 0, .int 0, .long 0, .int 0, .ref a32, .int 0, .int 0, .int 0, .int 0, .ref a33, .ref a34, .ref a35])), (a29, .inl (y 0, 8192, .inl nz))]) A) (cc := cX12_slot) (maxL := 3) (ret := (some .int)) (by decide +kernel) rfl (Nat.le_of_ble_eq_true rfl) ?_
  intro p e s m below meth c A ls H hx hb hr hml hts hown hlocks hnm hsz hP hK hD hA hS hE hAe hl
  replace hl : lv_has ls 3 [(0, .ref a0)] := hl
  have hown : s.vm.findClass RX12 = some m.cls := hown
  have w_0 := hts (.fieldLink RX12 140 "SoldToBehindModel" "many" "I") (by decide +kernel)
  have w_1 := hts (.fieldLink RX12 133 "SoldToBehindModel" "people" "I") (by decide +kernel)
  have w_2 := hts (.fieldLink RX12 106 "SoldToBehindModel" "table" "[I") (by decide +kernel)
  refine lv_bipush (v := 7) hx hb dX12_slot_0 (by decide +kernel) ?_
  refine lv_istore_n (lv' := [(1, .int 7), (0, .ref a0)]) hx hb dX12_slot_2 rfl hl (by decide +kernel) rfl (fun ls hl => ?_)
  refine lv_iconst (v := 0) hx hb dX12_slot_3 (by decide +kernel) ?_
  refine lv_istore_n (lv' := [(2, .int 0), (1, .int 7), (0, .ref a0)]) hx hb dX12_slot_4 rfl hl (by decide +kernel) rfl (fun ls hl => ?_)
  refine lv_iload_n hx hb dX12_slot_5 rfl (lv_at hl 0 rfl) ?_
  refine lv_aload_n hx hb dX12_slot_6 rfl (lv_at hl 2 rfl) ?_
  refine va_get (D := D) (ci := 12) (v := .int 0) (C := RX12) (T := TX12) (N := 72) hx hb hts iX12_slot_X12 hown hK hP 0 rfl rfl 8 (by decide +kernel) w_0 (fun _ h9 => h9) rfl dX12_slot_7 ?_
  refine lv_icmp_ge (tgt := 31) hx hb dX12_slot_10 (by decide +kernel) (fun _ => ?_) (fun c => absurd (by decide +kernel) c)
  refine lv_iconst (v := 0) hx hb dX12_slot_31 (by decide +kernel) ?_
  refine lv_istore_n (lv' := [(2, .int 0), (1, .int 7), (0, .ref a0)]) hx hb dX12_slot_32 rfl hl (by decide +kernel) rfl (fun ls hl => ?_)
  refine lv_iload_n hx hb dX12_slot_33 rfl (lv_at hl 0 rfl) ?_
  refine lv_aload_n hx hb dX12_slot_34 rfl (lv_at hl 2 rfl) ?_
  refine va_get (D := D) (ci := 12) (v := .int 0) (C := RX12) (T := TX12) (N := 72) hx hb hts iX12_slot_X12 hown hK hP 0 rfl rfl 0 (by decide +kernel) w_1 (fun _ h9 => h9) rfl dX12_slot_35 ?_
  refine lv_icmp_ge (tgt := 69) hx hb dX12_slot_38 (by decide +kernel) (fun _ => ?_) (fun c => absurd (by decide +kernel) c)
  refine lv_iload_n hx hb dX12_slot_69 rfl (lv_at hl 1 rfl) ?_
  refine lv_iload_n hx hb dX12_slot_70 rfl (lv_at hl 1 rfl) ?_
  refine lv_bipush (v := 13) hx hb dX12_slot_71 (by decide +kernel) ?_
  refine lv_iushr hx hb dX12_slot_73 rfl ?_
  refine nv_i (v := 0) (by decide +kernel) ?_
  refine lv_ixor hx hb dX12_slot_74 ?_
  refine nv_i (v := 7) (by decide +kernel) ?_
  refine lv_sipush (v := 8191) hx hb dX12_slot_75 (by decide +kernel) ?_
  refine lv_iand hx hb dX12_slot_78 ?_
  refine nv_i (v := 7) (by decide +kernel) ?_
  refine lv_istore_n (lv' := [(2, .int 7), (1, .int 7), (0, .ref a0)]) hx hb dX12_slot_79 rfl hl (by decide +kernel) rfl (fun ls hl => ?_)
  refine lv_aload_n hx hb dX12_slot_80 rfl (lv_at hl 2 rfl) ?_
  refine va_get (D := D) (ci := 12) (v := .ref a29) (C := RX12) (T := TX12) (N := 72) hx hb hts iX12_slot_X12 hown hK hP 0 rfl rfl 55 (by decide +kernel) w_2 (fun _ h9 => h9) rfl dX12_slot_81 ?_
  refine lv_iload_n hx hb dX12_slot_84 rfl (lv_at hl 0 rfl) ?_
  refine va_iald hx hb hK hP 1 0 rfl rfl (n_in (by decide +kernel)) dX12_slot_85 ?_
  refine nv_i (v := 0) rfl ?_
  refine lv_if_eq (tgt := 115) hx hb dX12_slot_86 (by decide +kernel) (fun _ => ?_) (fun c => absurd (by decide +kernel) c)
  refine lv_iload_n hx hb dX12_slot_115 rfl (lv_at hl 0 rfl) ?_
  refine W.widen (k := 0) (n := 0) (Nat.le_of_ble_eq_true rfl) (Nat.le_of_ble_eq_true rfl) ?_
  exact W.iret (v := 7) hx hb hr (fun t ht hW => ⟨⟨7, (fun _ => 0), rfl, rfl, by rw [ht]; exact hP, va_K.moved hW.alike hK, hD⟩, hS.F ht⟩) hS.2.2 dX12_slot_116 hlocks
set_option maxRecDepth 100000 in
set_option maxHeartbeats 4000000 in
theorem cX12_stateNow_1 (l : Launch) (D : va_G) (y : Nat → ClassId) (a0 : Nat) (a1 : Nat) (a2 : Nat) (a3 : Nat) (a4 : Nat) (a5 : Nat) (a6 : Nat) (a7 : Nat) (a8 : Nat) (a9 : Nat) (a10 : Nat) (a11 : Nat) (a12 : Nat) (a13 : Nat) (a14 : Nat) (a15 : Nat) (a16 : Nat) (a17 : Nat) (a18 : Nat) (a19 : Nat) (a20 : Nat) (a21 : Nat) (a22 : Nat) (a23 : Nat) (a24 : Nat) (a25 : Nat) (a26 : Nat) (a27 : Nat) (a28 : Nat) (a29 : Nat) (a30 : Nat) (a31 : Nat) (a32 : Nat) (a33 : Nat) (a34 : Nat) (a35 : Nat) (sz : Nat) : Met l yX12_stateNow wsX12_stateNow { frames := 3, cells := 0, slots := 0, locals := 222 } (nPc D y nT [.ref a0, .int 0] [(a0, .inr (12, [.int 0, .ref a1, .ref a2, .ref a3, .ref a4, .ref a5, .ref a6, .ref a7, .int 0, .ref a8, .int 0, .ref a9, .ref a10, .int 1, .ref a11, .int 0, .ref a12, .int 0, .int 0, .null, .int 0, .int 0, .int 0, .int 0, .ref a13, .ref a14, .ref a15, .int (-1), .int 0, .int 0, .int 0, .int 0, .int 0, .int 0, .int 0, .ref a16, .int 0, .ref a17, .int 0, .ref a18, .ref a19, .int 0, .int 0, .int 0, .int 0, .ref a20, .ref a21, .ref a22, .ref a23, .ref a24, .ref a25, .ref a26, .ref a27, .ref a28, .int 0, .ref a29, .ref a30, .ref a31, .long 0, .int 0, .int 0, .int 0, .long 0, .int 0, .ref a32, .int 0, .int 0, .int 0, .int 0, .ref a33, .ref a34, .ref a35])), (a29, .inl (y 0, 8192, .inl nz)), (a7, .inl (y 0, 9, .inl nz)), (a20, .inl (y 0, 18000, .inl nz)), (a1, .inl (y 0, 9, .inl nz)), (a21, .inl (y 0, 18000, .inl nz)), (a6, .inl (y 0, 9, .inl nz)), (a22, .inl (y 0, 18000, .inl nz)), (a23, .inl (y 0, 2000, .inl nz)), (a25, .inl (y 0, 2000, .inl nz)), (a27, .inl (y 1, 2000, .inr (.inl nzl)))] sz) ((fun A => nQi D y (fun r _ => r = 0) (fun u => [(a7, .inl (y 0, 9, .inl nz)), (a20, .inl (y 0, 18000, .inl nz)), (a1, .inl (y 0, 9, .inl nz)), (a21, .inl (y 0, 18000, .inl nz)), (a6, .inl (y 0, 9, .inl nz)), (a22, .inl (y 0, 18000, .inl nz)), (a23, .inl (y 0, 2000, .inl nz)), (a25, .inl (y 0, 2000, .inl (upd nz 0 (-1)))), (a27, .inl (y 1, 2000, .inr (.inl nzl))), (a0, .inr (12, [.int 0, .ref a1, .ref a2, .ref a3, .ref a4, .ref a5, .ref a6, .ref a7, .int 0, .ref a8, .int 0, .ref a9, .ref a10, .int 1, .ref a11, .int 0, .ref a12, .int 0, .int 0, .null, .int 0, .int 0, .int 0, .int 0, .ref a13, .ref a14, .ref a15, .int (-1), .int 0, .int 0, .int 0, .int 0, .int 0, .int 0, .int 0, .ref a16, .int 0, .ref a17, .int 0, .ref a18, .ref a19, .int 0, .int 0, .int 0, .int 0, .ref a20, .ref a21, .ref a22, .ref a23, .ref a24, .ref a25, .ref a26, .ref a27, .ref a28, .int 1, .ref a29, .ref a30, .ref a31, .long 0, .int 0, .int 0, .int 0, .long 0, .int 0, .ref a32, .int 0, .int 0, .int 0, .int 0, .ref a33, .ref a34, .ref a35])), (a29, .inl (y 0, 8192, .inl (upd nz 7 1)))]) A) (va_A [(a0, .inr (12, [.int 0, .ref a1, .ref a2, .ref a3, .ref a4, .ref a5, .ref a6, .ref a7, .int 0, .ref a8, .int 0, .ref a9, .ref a10, .int 1, .ref a11, .int 0, .ref a12, .int 0, .int 0, .null, .int 0, .int 0, .int 0, .int 0, .ref a13, .ref a14, .ref a15, .int (-1), .int 0, .int 0, .int 0, .int 0, .int 0, .int 0, .int 0, .ref a16, .int 0, .ref a17, .int 0, .ref a18, .ref a19, .int 0, .int 0, .int 0, .int 0, .ref a20, .ref a21, .ref a22, .ref a23, .ref a24, .ref a25, .ref a26, .ref a27, .ref a28, .int 0, .ref a29, .ref a30, .ref a31, .long 0, .int 0, .int 0, .int 0, .long 0, .int 0, .ref a32, .int 0, .int 0, .int 0, .int 0, .ref a33, .ref a34, .ref a35])), (a29, .inl (y 0, 8192, .inl nz)), (a7, .inl (y 0, 9, .inl nz)), (a20, .inl (y 0, 18000, .inl nz)), (a1, .inl (y 0, 9, .inl nz)), (a21, .inl (y 0, 18000, .inl nz)), (a6, .inl (y 0, 9, .inl nz)), (a22, .inl (y 0, 18000, .inl nz)), (a23, .inl (y 0, 2000, .inl nz)), (a25, .inl (y 0, 2000, .inl nz)), (a27, .inl (y 1, 2000, .inr (.inl nzl)))] sz)) 0 0 (va_A [(a0, .inr (12, [.int 0, .ref a1, .ref a2, .ref a3, .ref a4, .ref a5, .ref a6, .ref a7, .int 0, .ref a8, .int 0, .ref a9, .ref a10, .int 1, .ref a11, .int 0, .ref a12, .int 0, .int 0, .null, .int 0, .int 0, .int 0, .int 0, .ref a13, .ref a14, .ref a15, .int (-1), .int 0, .int 0, .int 0, .int 0, .int 0, .int 0, .int 0, .ref a16, .int 0, .ref a17, .int 0, .ref a18, .ref a19, .int 0, .int 0, .int 0, .int 0, .ref a20, .ref a21, .ref a22, .ref a23, .ref a24, .ref a25, .ref a26, .ref a27, .ref a28, .int 0, .ref a29, .ref a30, .ref a31, .long 0, .int 0, .int 0, .int 0, .long 0, .int 0, .ref a32, .int 0, .int 0, .int 0, .int 0, .ref a33, .ref a34, .ref a35])), (a29, .inl (y 0, 8192, .inl nz)), (a7, .inl (y 0, 9, .inl nz)), (a20, .inl (y 0, 18000, .inl nz)), (a1, .inl (y 0, 9, .inl nz)), (a21, .inl (y 0, 18000, .inl nz)), (a6, .inl (y 0, 9, .inl nz)), (a22, .inl (y 0, 18000, .inl nz)), (a23, .inl (y 0, 2000, .inl nz)), (a25, .inl (y 0, 2000, .inl nz)), (a27, .inl (y 1, 2000, .inr (.inl nzl)))] sz) := by
  refine nm_ofW (D := D) (y := y) (E := nT) (yy := yX12_stateNow) (wsy := wsX12_stateNow) (rm := { frames := 3, cells := 0, slots := 0, locals := 222 }) (as := [.ref a0, .int 0]) (ws := [(a0, .inr (12, [.int 0, .ref a1, .ref a2, .ref a3, .ref a4, .ref a5, .ref a6, .ref a7, .int 0, .ref a8, .int 0, .ref a9, .ref a10, .int 1, .ref a11, .int 0, .ref a12, .int 0, .int 0, .null, .int 0, .int 0, .int 0, .int 0, .ref a13, .ref a14, .ref a15, .int (-1), .int 0, .int 0, .int 0, .int 0, .int 0, .int 0, .int 0, .ref a16, .int 0, .ref a17, .int 0, .ref a18, .ref a19, .int 0, .int 0, .int 0, .int 0, .ref a20, .ref a21, .ref a22, .ref a23, .ref a24, .ref a25, .ref a26, .ref a27, .ref a28, .int 0, .ref a29, .ref a30, .ref a31, .long 0, .int 0, .int 0, .int 0, .long 0, .int 0, .ref a32, .int 0, .int 0, .int 0, .int 0, .ref a33, .ref a34, .ref a35])), (a29, .inl (y 0, 8192, .inl nz)), (a7, .inl (y 0, 9, .inl nz)), (a20, .inl (y 0, 18000, .inl nz)), (a1, .inl (y 0, 9, .inl nz)), (a21, .inl (y 0, 18000, .inl nz)), (a6, .inl (y 0, 9, .inl nz)), (a22, .inl (y 0, 18000, .inl nz)), (a23, .inl (y 0, 2000, .inl nz)), (a25, .inl (y 0, 2000, .inl nz)), (a27, .inl (y 1, 2000, .inr (.inl nzl)))]) (sz := sz) (mc := 0) (ms := 0) (Qc := fun A => nQi D y (fun r _ => r = 0) (fun u => [(a7, .inl (y 0, 9, .inl nz)), (a20, .inl (y 0, 18000, .inl nz)), (a1, .inl (y 0, 9, .inl nz)), (a21, .inl (y 0, 18000, .inl nz)), (a6, .inl (y 0, 9, .inl nz)), (a22, .inl (y 0, 18000, .inl nz)), (a23, .inl (y 0, 2000, .inl nz)), (a25, .inl (y 0, 2000, .inl (upd nz 0 (-1)))), (a27, .inl (y 1, 2000, .inr (.inl nzl))), (a0, .inr (12, [.int 0, .ref a1, .ref a2, .ref a3, .ref a4, .ref a5, .ref a6, .ref a7, .int 0, .ref a8, .int 0, .ref a9, .ref a10, .int 1, .ref a11, .int 0, .ref a12, .int 0, .int 0, .null, .int 0, .int 0, .int 0, .int 0, .ref a13, .ref a14, .ref a15, .int (-1), .int 0, .int 0, .int 0, .int 0, .int 0, .int 0, .int 0, .ref a16, .int 0, .ref a17, .int 0, .ref a18, .ref a19, .int 0, .int 0, .int 0, .int 0, .ref a20, .ref a21, .ref a22, .ref a23, .ref a24, .ref a25, .ref a26, .ref a27, .ref a28, .int 1, .ref a29, .ref a30, .ref a31, .long 0, .int 0, .int 0, .int 0, .long 0, .int 0, .ref a32, .int 0, .int 0, .int 0, .int 0, .ref a33, .ref a34, .ref a35])), (a29, .inl (y 0, 8192, .inl (upd nz 7 1)))]) A) (cc := cX12_stateNow) (maxL := 4) (ret := (some .int)) (by decide +kernel) rfl (Nat.le_of_ble_eq_true rfl) ?_
  intro p e s m below meth c A ls H hx hb hr hml hts hown hlocks hnm hsz hP hK hD hA hS hE hAe hl
  replace hl : lv_has ls 4 [(0, .ref a0), (1, .int 0)] := hl
  have hown : s.vm.findClass RX12 = some m.cls := hown
  have w_0 := hts (.fieldLink RX12 106 "SoldToBehindModel" "table" "[I") (by decide +kernel)
  have w_1 := hts (.fieldLink RX12 381 "SoldToBehindModel" "states" "I") (by decide +kernel)
  have w_2 := hts (.fieldLink RX12 79 "SoldToBehindModel" "stateLine" "[I") (by decide +kernel)
  have w_3 := hts (.fieldLink RX12 29 "SoldToBehindModel" "line" "[I") (by decide +kernel)
  have w_4 := hts (.fieldLink RX12 82 "SoldToBehindModel" "statePurse" "[I") (by decide +kernel)
  have w_5 := hts (.fieldLink RX12 9 "SoldToBehindModel" "purse" "[I") (by decide +kernel)
  have w_6 := hts (.fieldLink RX12 85 "SoldToBehindModel" "stateSold" "[I") (by decide +kernel)
  have w_7 := hts (.fieldLink RX12 26 "SoldToBehindModel" "sold" "[I") (by decide +kernel)
  have w_8 := hts (.fieldLink RX12 88 "SoldToBehindModel" "depth" "[I") (by decide +kernel)
  have w_9 := hts (.fieldLink RX12 94 "SoldToBehindModel" "parent" "[I") (by decide +kernel)
  have w_10 := hts (.fieldLink RX12 100 "SoldToBehindModel" "paths" "[J") (by decide +kernel)
  refine lv_aload_n hx hb dX12_stateNow_0 rfl (lv_at hl 0 rfl) ?_
  refine nj_i (ws := [(a0, .inr (12, [.int 0, .ref a1, .ref a2, .ref a3, .ref a4, .ref a5, .ref a6, .ref a7, .int 0, .ref a8, .int 0, .ref a9, .ref a10, .int 1, .ref a11, .int 0, .ref a12, .int 0, .int 0, .null, .int 0, .int 0, .int 0, .int 0, .ref a13, .ref a14, .ref a15, .int (-1), .int 0, .int 0, .int 0, .int 0, .int 0, .int 0, .int 0, .ref a16, .int 0, .ref a17, .int 0, .ref a18, .ref a19, .int 0, .int 0, .int 0, .int 0, .ref a20, .ref a21, .ref a22, .ref a23, .ref a24, .ref a25, .ref a26, .ref a27, .ref a28, .int 0, .ref a29, .ref a30, .ref a31, .long 0, .int 0, .int 0, .int 0, .long 0, .int 0, .ref a32, .int 0, .int 0, .int 0, .int 0, .ref a33, .ref a34, .ref a35])), (a29, .inl (y 0, 8192, .inl nz)), (a7, .inl (y 0, 9, .inl nz)), (a20, .inl (y 0, 18000, .inl nz)), (a1, .inl (y 0, 9, .inl nz)), (a21, .inl (y 0, 18000, .inl nz)), (a6, .inl (y 0, 9, .inl nz)), (a22, .inl (y 0, 18000, .inl nz)), (a23, .inl (y 0, 2000, .inl nz)), (a25, .inl (y 0, 2000, .inl nz)), (a27, .inl (y 1, 2000, .inr (.inl nzl)))]) (wc := [(a0, .inr (12, [.int 0, .ref a1, .ref a2, .ref a3, .ref a4, .ref a5, .ref a6, .ref a7, .int 0, .ref a8, .int 0, .ref a9, .ref a10, .int 1, .ref a11, .int 0, .ref a12, .int 0, .int 0, .null, .int 0, .int 0, .int 0, .int 0, .ref a13, .ref a14, .ref a15, .int (-1), .int 0, .int 0, .int 0, .int 0, .int 0, .int 0, .int 0, .ref a16, .int 0, .ref a17, .int 0, .ref a18, .ref a19, .int 0, .int 0, .int 0, .int 0, .ref a20, .ref a21, .ref a22, .ref a23, .ref a24, .ref a25, .ref a26, .ref a27, .ref a28, .int 0, .ref a29, .ref a30, .ref a31, .long 0, .int 0, .int 0, .int 0, .long 0, .int 0, .ref a32, .int 0, .int 0, .int 0, .int 0, .ref a33, .ref a34, .ref a35])), (a29, .inl (y 0, 8192, .inl nz))]) (wr := [(a7, .inl (y 0, 9, .inl nz)), (a20, .inl (y 0, 18000, .inl nz)), (a1, .inl (y 0, 9, .inl nz)), (a21, .inl (y 0, 18000, .inl nz)), (a6, .inl (y 0, 9, .inl nz)), (a22, .inl (y 0, 18000, .inl nz)), (a23, .inl (y 0, 2000, .inl nz)), (a25, .inl (y 0, 2000, .inl nz)), (a27, .inl (y 1, 2000, .inr (.inl nzl)))]) (nr_V (As := []) (rest := []) ⟨hx, hb, hml, hown, hts⟩ (cX12_slot_1 l D y a0 a1 a2 a3 a4 a5 a6 a7 a8 a9 a10 a11 a12 a13 a14 a15 a16 a17 a18 a19 a20 a21 a22 a23 a24 a25 a26 a27 a28 a29 a30 a31 a32 a33 a34 a35 H.size) (cwV 0 hts gX12_stateNow_X12_slot rfl rfl rfl (by decide +kernel) ⟨Nat.le_of_ble_eq_true rfl, Nat.le_of_ble_eq_true rfl⟩) hK hP hD hE [0, 1] rfl (by decide +kernel) 0 12 rfl rfl rfl rfl rfl hl.1 rfl (lv_room (Nat.le_of_ble_eq_true rfl)) dX12_stateNow_1 ⟨Nat.le_of_ble_eq_true rfl, Nat.le_of_ble_eq_true rfl⟩) hP hD hS hA [0, 1] [2, 3, 4, 5, 6, 7, 8, 9, 10] rfl rfl (by decide +kernel) (by decide +kernel) (fun r2 u1 H locs er2 hP hD hS => ?_)
  replace hP : va_P D vwCl [(a7, .inl (y 0, 9, .inl nz)), (a20, .inl (y 0, 18000, .inl nz)), (a1, .inl (y 0, 9, .inl nz)), (a21, .inl (y 0, 18000, .inl nz)), (a6, .inl (y 0, 9, .inl nz)), (a22, .inl (y 0, 18000, .inl nz)), (a23, .inl (y 0, 2000, .inl nz)), (a25, .inl (y 0, 2000, .inl nz)), (a27, .inl (y 1, 2000, .inr (.inl nzl))), (a0, .inr (12, [.int 0, .ref a1, .ref a2, .ref a3, .ref a4, .ref a5, .ref a6, .ref a7, .int 0, .ref a8, .int 0, .ref a9, .ref a10, .int 1, .ref a11, .int 0, .ref a12, .int 0, .int 0, .null, .int 0, .int 0, .int 0, .int 0, .ref a13, .ref a14, .ref a15, .int (-1), .int 0, .int 0, .int 0, .int 0, .int 0, .int 0, .int 0, .ref a16, .int 0, .ref a17, .int 0, .ref a18, .ref a19, .int 0, .int 0, .int 0, .int 0, .ref a20, .ref a21, .ref a22, .ref a23, .ref a24, .ref a25, .ref a26, .ref a27, .ref a28, .int 0, .ref a29, .ref a30, .ref a31, .long 0, .int 0, .int 0, .int 0, .long 0, .int 0, .ref a32, .int 0, .int 0, .int 0, .int 0, .ref a33, .ref a34, .ref a35])), (a29, .inl (y 0, 8192, .inl nz))] H := hP
  replace hD : va_D A [(a7, .inl (y 0, 9, .inl nz)), (a20, .inl (y 0, 18000, .inl nz)), (a1, .inl (y 0, 9, .inl nz)), (a21, .inl (y 0, 18000, .inl nz)), (a6, .inl (y 0, 9, .inl nz)), (a22, .inl (y 0, 18000, .inl nz)), (a23, .inl (y 0, 2000, .inl nz)), (a25, .inl (y 0, 2000, .inl nz)), (a27, .inl (y 1, 2000, .inr (.inl nzl))), (a0, .inr (12, [.int 0, .ref a1, .ref a2, .ref a3, .ref a4, .ref a5, .ref a6, .ref a7, .int 0, .ref a8, .int 0, .ref a9, .ref a10, .int 1, .ref a11, .int 0, .ref a12, .int 0, .int 0, .null, .int 0, .int 0, .int 0, .int 0, .ref a13, .ref a14, .ref a15, .int (-1), .int 0, .int 0, .int 0, .int 0, .int 0, .int 0, .int 0, .ref a16, .int 0, .ref a17, .int 0, .ref a18, .ref a19, .int 0, .int 0, .int 0, .int 0, .ref a20, .ref a21, .ref a22, .ref a23, .ref a24, .ref a25, .ref a26, .ref a27, .ref a28, .int 0, .ref a29, .ref a30, .ref a31, .long 0, .int 0, .int 0, .int 0, .long 0, .int 0, .ref a32, .int 0, .int 0, .int 0, .int 0, .ref a33, .ref a34, .ref a35])), (a29, .inl (y 0, 8192, .inl nz))] := hD
  subst er2
  refine lv_istore_n (lv' := [(2, .int 7), (0, .ref a0), (1, .int 0)]) hx hb dX12_stateNow_4 rfl hl (by decide +kernel) rfl (fun ls hl => ?_)
  refine lv_aload_n hx hb dX12_stateNow_5 rfl (lv_at hl 1 rfl) ?_
  refine va_get (D := D) (ci := 12) (v := .ref a29) (C := RX12) (T := TX12) (N := 72) hx hb hts iX12_stateNow_X12 hown hK hP 9 rfl rfl 55 (by decide +kernel) w_0 (fun _ h9 => h9) rfl dX12_stateNow_6 ?_
  refine lv_iload_n hx hb dX12_stateNow_9 rfl (lv_at hl 0 rfl) ?_
  refine va_iald hx hb hK hP 10 0 rfl rfl (n_in (by decide +kernel)) dX12_stateNow_10 ?_
  refine nv_i (v := 0) rfl ?_
  refine lv_if_eq (tgt := 23) hx hb dX12_stateNow_11 (by decide +kernel) (fun _ => ?_) (fun c => absurd (by decide +kernel) c)
  refine lv_aload_n hx hb dX12_stateNow_23 rfl (lv_at hl 1 rfl) ?_
  refine va_get (D := D) (ci := 12) (v := .int 0) (C := RX12) (T := TX12) (N := 72) hx hb hts iX12_stateNow_X12 hown hK hP 9 rfl rfl 54 (by decide +kernel) w_1 (fun _ h9 => h9) rfl dX12_stateNow_24 ?_
  refine lv_sipush (v := 2000) hx hb dX12_stateNow_27 (by decide +kernel) ?_
  refine lv_icmp_ne (tgt := 35) hx hb dX12_stateNow_30 (by decide +kernel) (fun _ => ?_) (fun c => absurd c (by decide +kernel))
  refine lv_iconst (v := 0) hx hb dX12_stateNow_35 (by decide +kernel) ?_
  refine lv_istore_n (lv' := [(3, .int 0), (2, .int 7), (0, .ref a0), (1, .int 0)]) hx hb dX12_stateNow_36 rfl hl (by decide +kernel) rfl (fun ls hl => ?_)
  refine lv_iload_n hx hb dX12_stateNow_37 rfl (lv_at hl 0 rfl) ?_
  refine lv_bipush (v := 9) hx hb dX12_stateNow_38 (by decide +kernel) ?_
  refine lv_icmp_ge (tgt := 109) hx hb dX12_stateNow_40 (by decide +kernel) (fun c => absurd c (by decide +kernel)) (fun _ => ?_)
  refine lv_aload_n hx hb dX12_stateNow_43 rfl (lv_at hl 2 rfl) ?_
  refine va_get (D := D) (ci := 12) (v := .ref a20) (C := RX12) (T := TX12) (N := 72) hx hb hts iX12_stateNow_X12 hown hK hP 9 rfl rfl 45 (by decide +kernel) w_2 (fun _ h9 => h9) rfl dX12_stateNow_44 ?_
  refine lv_bipush (v := 9) hx hb dX12_stateNow_47 (by decide +kernel) ?_
  refine lv_aload_n hx hb dX12_stateNow_49 rfl (lv_at hl 2 rfl) ?_
  refine va_get (D := D) (ci := 12) (v := .int 0) (C := RX12) (T := TX12) (N := 72) hx hb hts iX12_stateNow_X12 hown hK hP 9 rfl rfl 54 (by decide +kernel) w_1 (fun _ h9 => h9) rfl dX12_stateNow_50 ?_
  refine lv_imul hx hb dX12_stateNow_53 ?_
  refine nv_i (v := 0) (by decide +kernel) ?_
  refine lv_iload_n hx hb dX12_stateNow_54 rfl (lv_at hl 0 rfl) ?_
  refine lv_iadd hx hb dX12_stateNow_55 ?_
  refine nv_i (v := 0) (by decide +kernel) ?_
  refine lv_aload_n hx hb dX12_stateNow_56 rfl (lv_at hl 2 rfl) ?_
  refine va_get (D := D) (ci := 12) (v := .ref a7) (C := RX12) (T := TX12) (N := 72) hx hb hts iX12_stateNow_X12 hown hK hP 9 rfl rfl 7 (by decide +kernel) w_3 (fun _ h9 => h9) rfl dX12_stateNow_57 ?_
  refine lv_iload_n hx hb dX12_stateNow_60 rfl (lv_at hl 0 rfl) ?_
  refine va_iald hx hb hK hP 0 0 rfl rfl (n_in (by decide +kernel)) dX12_stateNow_61 ?_
  refine nv_i (v := 0) rfl ?_
  refine nb_iast (ws' := [(a7, .inl (y 0, 9, .inl nz)), (a20, .inl (y 0, 18000, .inl nz)), (a1, .inl (y 0, 9, .inl nz)), (a21, .inl (y 0, 18000, .inl nz)), (a6, .inl (y 0, 9, .inl nz)), (a22, .inl (y 0, 18000, .inl nz)), (a23, .inl (y 0, 2000, .inl nz)), (a25, .inl (y 0, 2000, .inl nz)), (a27, .inl (y 1, 2000, .inr (.inl nzl))), (a0, .inr (12, [.int 0, .ref a1, .ref a2, .ref a3, .ref a4, .ref a5, .ref a6, .ref a7, .int 0, .ref a8, .int 0, .ref a9, .ref a10, .int 1, .ref a11, .int 0, .ref a12, .int 0, .int 0, .null, .int 0, .int 0, .int 0, .int 0, .ref a13, .ref a14, .ref a15, .int (-1), .int 0, .int 0, .int 0, .int 0, .int 0, .int 0, .int 0, .ref a16, .int 0, .ref a17, .int 0, .ref a18, .ref a19, .int 0, .int 0, .int 0, .int 0, .ref a20, .ref a21, .ref a22, .ref a23, .ref a24, .ref a25, .ref a26, .ref a27, .ref a28, .int 0, .ref a29, .ref a30, .ref a31, .long 0, .int 0, .int 0, .int 0, .long 0, .int 0, .ref a32, .int 0, .int 0, .int 0, .int 0, .ref a33, .ref a34, .ref a35])), (a29, .inl (y 0, 8192, .inl nz))]) hx hb hK hP hD hS 1 0 rfl rfl (n_in (by decide +kernel)) (by rw [nb_upI (f := nz) (i := Int32.toNatClampNeg 0) (x := 0) rfl]; rfl) dX12_stateNow_62 (fun H locs hP hD hS => ?_)
  refine lv_aload_n hx hb dX12_stateNow_63 rfl (lv_at hl 2 rfl) ?_
  refine va_get (D := D) (ci := 12) (v := .ref a21) (C := RX12) (T := TX12) (N := 72) hx hb hts iX12_stateNow_X12 hown hK hP 9 rfl rfl 46 (by decide +kernel) w_4 (fun _ h9 => h9) rfl dX12_stateNow_64 ?_
  refine lv_bipush (v := 9) hx hb dX12_stateNow_67 (by decide +kernel) ?_
  refine lv_aload_n hx hb dX12_stateNow_69 rfl (lv_at hl 2 rfl) ?_
  refine va_get (D := D) (ci := 12) (v := .int 0) (C := RX12) (T := TX12) (N := 72) hx hb hts iX12_stateNow_X12 hown hK hP 9 rfl rfl 54 (by decide +kernel) w_1 (fun _ h9 => h9) rfl dX12_stateNow_70 ?_
  refine lv_imul hx hb dX12_stateNow_73 ?_
  refine nv_i (v := 0) (by decide +kernel) ?_
  refine lv_iload_n hx hb dX12_stateNow_74 rfl (lv_at hl 0 rfl) ?_
  refine lv_iadd hx hb dX12_stateNow_75 ?_
  refine nv_i (v := 0) (by decide +kernel) ?_
  refine lv_aload_n hx hb dX12_stateNow_76 rfl (lv_at hl 2 rfl) ?_
  refine va_get (D := D) (ci := 12) (v := .ref a1) (C := RX12) (T := TX12) (N := 72) hx hb hts iX12_stateNow_X12 hown hK hP 9 rfl rfl 1 (by decide +kernel) w_5 (fun _ h9 => h9) rfl dX12_stateNow_77 ?_
  refine lv_iload_n hx hb dX12_stateNow_80 rfl (lv_at hl 0 rfl) ?_
  refine va_iald hx hb hK hP 2 0 rfl rfl (n_in (by decide +kernel)) dX12_stateNow_81 ?_
  refine nv_i (v := 0) rfl ?_
  refine nb_iast (ws' := [(a7, .inl (y 0, 9, .inl nz)), (a20, .inl (y 0, 18000, .inl nz)), (a1, .inl (y 0, 9, .inl nz)), (a21, .inl (y 0, 18000, .inl nz)), (a6, .inl (y 0, 9, .inl nz)), (a22, .inl (y 0, 18000, .inl nz)), (a23, .inl (y 0, 2000, .inl nz)), (a25, .inl (y 0, 2000, .inl nz)), (a27, .inl (y 1, 2000, .inr (.inl nzl))), (a0, .inr (12, [.int 0, .ref a1, .ref a2, .ref a3, .ref a4, .ref a5, .ref a6, .ref a7, .int 0, .ref a8, .int 0, .ref a9, .ref a10, .int 1, .ref a11, .int 0, .ref a12, .int 0, .int 0, .null, .int 0, .int 0, .int 0, .int 0, .ref a13, .ref a14, .ref a15, .int (-1), .int 0, .int 0, .int 0, .int 0, .int 0, .int 0, .int 0, .ref a16, .int 0, .ref a17, .int 0, .ref a18, .ref a19, .int 0, .int 0, .int 0, .int 0, .ref a20, .ref a21, .ref a22, .ref a23, .ref a24, .ref a25, .ref a26, .ref a27, .ref a28, .int 0, .ref a29, .ref a30, .ref a31, .long 0, .int 0, .int 0, .int 0, .long 0, .int 0, .ref a32, .int 0, .int 0, .int 0, .int 0, .ref a33, .ref a34, .ref a35])), (a29, .inl (y 0, 8192, .inl nz))]) hx hb hK hP hD hS 3 0 rfl rfl (n_in (by decide +kernel)) (by rw [nb_upI (f := nz) (i := Int32.toNatClampNeg 0) (x := 0) rfl]; rfl) dX12_stateNow_82 (fun H locs hP hD hS => ?_)
  refine lv_aload_n hx hb dX12_stateNow_83 rfl (lv_at hl 2 rfl) ?_
  refine va_get (D := D) (ci := 12) (v := .ref a22) (C := RX12) (T := TX12) (N := 72) hx hb hts iX12_stateNow_X12 hown hK hP 9 rfl rfl 47 (by decide +kernel) w_6 (fun _ h9 => h9) rfl dX12_stateNow_84 ?_
  refine lv_bipush (v := 9) hx hb dX12_stateNow_87 (by decide +kernel) ?_
  refine lv_aload_n hx hb dX12_stateNow_89 rfl (lv_at hl 2 rfl) ?_
  refine va_get (D := D) (ci := 12) (v := .int 0) (C := RX12) (T := TX12) (N := 72) hx hb hts iX12_stateNow_X12 hown hK hP 9 rfl rfl 54 (by decide +kernel) w_1 (fun _ h9 => h9) rfl dX12_stateNow_90 ?_
  refine lv_imul hx hb dX12_stateNow_93 ?_
  refine nv_i (v := 0) (by decide +kernel) ?_
  refine lv_iload_n hx hb dX12_stateNow_94 rfl (lv_at hl 0 rfl) ?_
  refine lv_iadd hx hb dX12_stateNow_95 ?_
  refine nv_i (v := 0) (by decide +kernel) ?_
  refine lv_aload_n hx hb dX12_stateNow_96 rfl (lv_at hl 2 rfl) ?_
  refine va_get (D := D) (ci := 12) (v := .ref a6) (C := RX12) (T := TX12) (N := 72) hx hb hts iX12_stateNow_X12 hown hK hP 9 rfl rfl 6 (by decide +kernel) w_7 (fun _ h9 => h9) rfl dX12_stateNow_97 ?_
  refine lv_iload_n hx hb dX12_stateNow_100 rfl (lv_at hl 0 rfl) ?_
  refine va_iald hx hb hK hP 4 0 rfl rfl (n_in (by decide +kernel)) dX12_stateNow_101 ?_
  refine nv_i (v := 0) rfl ?_
  refine nb_iast (ws' := [(a7, .inl (y 0, 9, .inl nz)), (a20, .inl (y 0, 18000, .inl nz)), (a1, .inl (y 0, 9, .inl nz)), (a21, .inl (y 0, 18000, .inl nz)), (a6, .inl (y 0, 9, .inl nz)), (a22, .inl (y 0, 18000, .inl nz)), (a23, .inl (y 0, 2000, .inl nz)), (a25, .inl (y 0, 2000, .inl nz)), (a27, .inl (y 1, 2000, .inr (.inl nzl))), (a0, .inr (12, [.int 0, .ref a1, .ref a2, .ref a3, .ref a4, .ref a5, .ref a6, .ref a7, .int 0, .ref a8, .int 0, .ref a9, .ref a10, .int 1, .ref a11, .int 0, .ref a12, .int 0, .int 0, .null, .int 0, .int 0, .int 0, .int 0, .ref a13, .ref a14, .ref a15, .int (-1), .int 0, .int 0, .int 0, .int 0, .int 0, .int 0, .int 0, .ref a16, .int 0, .ref a17, .int 0, .ref a18, .ref a19, .int 0, .int 0, .int 0, .int 0, .ref a20, .ref a21, .ref a22, .ref a23, .ref a24, .ref a25, .ref a26, .ref a27, .ref a28, .int 0, .ref a29, .ref a30, .ref a31, .long 0, .int 0, .int 0, .int 0, .long 0, .int 0, .ref a32, .int 0, .int 0, .int 0, .int 0, .ref a33, .ref a34, .ref a35])), (a29, .inl (y 0, 8192, .inl nz))]) hx hb hK hP hD hS 5 0 rfl rfl (n_in (by decide +kernel)) (by rw [nb_upI (f := nz) (i := Int32.toNatClampNeg 0) (x := 0) rfl]; rfl) dX12_stateNow_102 (fun H locs hP hD hS => ?_)
  refine lv_iinc (v := 1) (lv' := [(3, .int 1), (2, .int 7), (0, .ref a0), (1, .int 0)]) hx hb dX12_stateNow_103 hl (k := 0) rfl (by decide +kernel) (by decide +kernel) rfl (fun ls hl => ?_)
  refine lv_goto (tgt := 37) hx hb dX12_stateNow_106 (by decide +kernel) ?_
  refine lv_iload_n hx hb dX12_stateNow_37 rfl (lv_at hl 0 rfl) ?_
  refine lv_bipush (v := 9) hx hb dX12_stateNow_38 (by decide +kernel) ?_
  refine lv_icmp_ge (tgt := 109) hx hb dX12_stateNow_40 (by decide +kernel) (fun c => absurd c (by decide +kernel)) (fun _ => ?_)
  refine lv_aload_n hx hb dX12_stateNow_43 rfl (lv_at hl 2 rfl) ?_
  refine va_get (D := D) (ci := 12) (v := .ref a20) (C := RX12) (T := TX12) (N := 72) hx hb hts iX12_stateNow_X12 hown hK hP 9 rfl rfl 45 (by decide +kernel) w_2 (fun _ h9 => h9) rfl dX12_stateNow_44 ?_
  refine lv_bipush (v := 9) hx hb dX12_stateNow_47 (by decide +kernel) ?_
  refine lv_aload_n hx hb dX12_stateNow_49 rfl (lv_at hl 2 rfl) ?_
  refine va_get (D := D) (ci := 12) (v := .int 0) (C := RX12) (T := TX12) (N := 72) hx hb hts iX12_stateNow_X12 hown hK hP 9 rfl rfl 54 (by decide +kernel) w_1 (fun _ h9 => h9) rfl dX12_stateNow_50 ?_
  refine lv_imul hx hb dX12_stateNow_53 ?_
  refine nv_i (v := 0) (by decide +kernel) ?_
  refine lv_iload_n hx hb dX12_stateNow_54 rfl (lv_at hl 0 rfl) ?_
  refine lv_iadd hx hb dX12_stateNow_55 ?_
  refine nv_i (v := 1) (by decide +kernel) ?_
  refine lv_aload_n hx hb dX12_stateNow_56 rfl (lv_at hl 2 rfl) ?_
  refine va_get (D := D) (ci := 12) (v := .ref a7) (C := RX12) (T := TX12) (N := 72) hx hb hts iX12_stateNow_X12 hown hK hP 9 rfl rfl 7 (by decide +kernel) w_3 (fun _ h9 => h9) rfl dX12_stateNow_57 ?_
  refine lv_iload_n hx hb dX12_stateNow_60 rfl (lv_at hl 0 rfl) ?_
  refine va_iald hx hb hK hP 0 0 rfl rfl (n_in (by decide +kernel)) dX12_stateNow_61 ?_
  refine nv_i (v := 0) rfl ?_
  refine nb_iast (ws' := [(a7, .inl (y 0, 9, .inl nz)), (a20, .inl (y 0, 18000, .inl nz)), (a1, .inl (y 0, 9, .inl nz)), (a21, .inl (y 0, 18000, .inl nz)), (a6, .inl (y 0, 9, .inl nz)), (a22, .inl (y 0, 18000, .inl nz)), (a23, .inl (y 0, 2000, .inl nz)), (a25, .inl (y 0, 2000, .inl nz)), (a27, .inl (y 1, 2000, .inr (.inl nzl))), (a0, .inr (12, [.int 0, .ref a1, .ref a2, .ref a3, .ref a4, .ref a5, .ref a6, .ref a7, .int 0, .ref a8, .int 0, .ref a9, .ref a10, .int 1, .ref a11, .int 0, .ref a12, .int 0, .int 0, .null, .int 0, .int 0, .int 0, .int 0, .ref a13, .ref a14, .ref a15, .int (-1), .int 0, .int 0, .int 0, .int 0, .int 0, .int 0, .int 0, .ref a16, .int 0, .ref a17, .int 0, .ref a18, .ref a19, .int 0, .int 0, .int 0, .int 0, .ref a20, .ref a21, .ref a22, .ref a23, .ref a24, .ref a25, .ref a26, .ref a27, .ref a28, .int 0, .ref a29, .ref a30, .ref a31, .long 0, .int 0, .int 0, .int 0, .long 0, .int 0, .ref a32, .int 0, .int 0, .int 0, .int 0, .ref a33, .ref a34, .ref a35])), (a29, .inl (y 0, 8192, .inl nz))]) hx hb hK hP hD hS 1 0 rfl rfl (n_in (by decide +kernel)) (by rw [nb_upI (f := nz) (i := Int32.toNatClampNeg 1) (x := 0) rfl]; rfl) dX12_stateNow_62 (fun H locs hP hD hS => ?_)
  refine lv_aload_n hx hb dX12_stateNow_63 rfl (lv_at hl 2 rfl) ?_
  refine va_get (D := D) (ci := 12) (v := .ref a21) (C := RX12) (T := TX12) (N := 72) hx hb hts iX12_stateNow_X12 hown hK hP 9 rfl rfl 46 (by decide +kernel) w_4 (fun _ h9 => h9) rfl dX12_stateNow_64 ?_
  refine lv_bipush (v := 9) hx hb dX12_stateNow_67 (by decide +kernel) ?_
  refine lv_aload_n hx hb dX12_stateNow_69 rfl (lv_at hl 2 rfl) ?_
  refine va_get (D := D) (ci := 12) (v := .int 0) (C := RX12) (T := TX12) (N := 72) hx hb hts iX12_stateNow_X12 hown hK hP 9 rfl rfl 54 (by decide +kernel) w_1 (fun _ h9 => h9) rfl dX12_stateNow_70 ?_
  refine lv_imul hx hb dX12_stateNow_73 ?_
  refine nv_i (v := 0) (by decide +kernel) ?_
  refine lv_iload_n hx hb dX12_stateNow_74 rfl (lv_at hl 0 rfl) ?_
  refine lv_iadd hx hb dX12_stateNow_75 ?_
  refine nv_i (v := 1) (by decide +kernel) ?_
  refine lv_aload_n hx hb dX12_stateNow_76 rfl (lv_at hl 2 rfl) ?_
  refine va_get (D := D) (ci := 12) (v := .ref a1) (C := RX12) (T := TX12) (N := 72) hx hb hts iX12_stateNow_X12 hown hK hP 9 rfl rfl 1 (by decide +kernel) w_5 (fun _ h9 => h9) rfl dX12_stateNow_77 ?_
  refine lv_iload_n hx hb dX12_stateNow_80 rfl (lv_at hl 0 rfl) ?_
  refine va_iald hx hb hK hP 2 0 rfl rfl (n_in (by decide +kernel)) dX12_stateNow_81 ?_
  refine nv_i (v := 0) rfl ?_
  refine nb_iast (ws' := [(a7, .inl (y 0, 9, .inl nz)), (a20, .inl (y 0, 18000, .inl nz)), (a1, .inl (y 0, 9, .inl nz)), (a21, .inl (y 0, 18000, .inl nz)), (a6, .inl (y 0, 9, .inl nz)), (a22, .inl (y 0, 18000, .inl nz)), (a23, .inl (y 0, 2000, .inl nz)), (a25, .inl (y 0, 2000, .inl nz)), (a27, .inl (y 1, 2000, .inr (.inl nzl))), (a0, .inr (12, [.int 0, .ref a1, .ref a2, .ref a3, .ref a4, .ref a5, .ref a6, .ref a7, .int 0, .ref a8, .int 0, .ref a9, .ref a10, .int 1, .ref a11, .int 0, .ref a12, .int 0, .int 0, .null, .int 0, .int 0, .int 0, .int 0, .ref a13, .ref a14, .ref a15, .int (-1), .int 0, .int 0, .int 0, .int 0, .int 0, .int 0, .int 0, .ref a16, .int 0, .ref a17, .int 0, .ref a18, .ref a19, .int 0, .int 0, .int 0, .int 0, .ref a20, .ref a21, .ref a22, .ref a23, .ref a24, .ref a25, .ref a26, .ref a27, .ref a28, .int 0, .ref a29, .ref a30, .ref a31, .long 0, .int 0, .int 0, .int 0, .long 0, .int 0, .ref a32, .int 0, .int 0, .int 0, .int 0, .ref a33, .ref a34, .ref a35])), (a29, .inl (y 0, 8192, .inl nz))]) hx hb hK hP hD hS 3 0 rfl rfl (n_in (by decide +kernel)) (by rw [nb_upI (f := nz) (i := Int32.toNatClampNeg 1) (x := 0) rfl]; rfl) dX12_stateNow_82 (fun H locs hP hD hS => ?_)
  refine lv_aload_n hx hb dX12_stateNow_83 rfl (lv_at hl 2 rfl) ?_
  refine va_get (D := D) (ci := 12) (v := .ref a22) (C := RX12) (T := TX12) (N := 72) hx hb hts iX12_stateNow_X12 hown hK hP 9 rfl rfl 47 (by decide +kernel) w_6 (fun _ h9 => h9) rfl dX12_stateNow_84 ?_
  refine lv_bipush (v := 9) hx hb dX12_stateNow_87 (by decide +kernel) ?_
  refine lv_aload_n hx hb dX12_stateNow_89 rfl (lv_at hl 2 rfl) ?_
  refine va_get (D := D) (ci := 12) (v := .int 0) (C := RX12) (T := TX12) (N := 72) hx hb hts iX12_stateNow_X12 hown hK hP 9 rfl rfl 54 (by decide +kernel) w_1 (fun _ h9 => h9) rfl dX12_stateNow_90 ?_
  refine lv_imul hx hb dX12_stateNow_93 ?_
  refine nv_i (v := 0) (by decide +kernel) ?_
  refine lv_iload_n hx hb dX12_stateNow_94 rfl (lv_at hl 0 rfl) ?_
  refine lv_iadd hx hb dX12_stateNow_95 ?_
  refine nv_i (v := 1) (by decide +kernel) ?_
  refine lv_aload_n hx hb dX12_stateNow_96 rfl (lv_at hl 2 rfl) ?_
  refine va_get (D := D) (ci := 12) (v := .ref a6) (C := RX12) (T := TX12) (N := 72) hx hb hts iX12_stateNow_X12 hown hK hP 9 rfl rfl 6 (by decide +kernel) w_7 (fun _ h9 => h9) rfl dX12_stateNow_97 ?_
  refine lv_iload_n hx hb dX12_stateNow_100 rfl (lv_at hl 0 rfl) ?_
  refine va_iald hx hb hK hP 4 0 rfl rfl (n_in (by decide +kernel)) dX12_stateNow_101 ?_
  refine nv_i (v := 0) rfl ?_
  refine nb_iast (ws' := [(a7, .inl (y 0, 9, .inl nz)), (a20, .inl (y 0, 18000, .inl nz)), (a1, .inl (y 0, 9, .inl nz)), (a21, .inl (y 0, 18000, .inl nz)), (a6, .inl (y 0, 9, .inl nz)), (a22, .inl (y 0, 18000, .inl nz)), (a23, .inl (y 0, 2000, .inl nz)), (a25, .inl (y 0, 2000, .inl nz)), (a27, .inl (y 1, 2000, .inr (.inl nzl))), (a0, .inr (12, [.int 0, .ref a1, .ref a2, .ref a3, .ref a4, .ref a5, .ref a6, .ref a7, .int 0, .ref a8, .int 0, .ref a9, .ref a10, .int 1, .ref a11, .int 0, .ref a12, .int 0, .int 0, .null, .int 0, .int 0, .int 0, .int 0, .ref a13, .ref a14, .ref a15, .int (-1), .int 0, .int 0, .int 0, .int 0, .int 0, .int 0, .int 0, .ref a16, .int 0, .ref a17, .int 0, .ref a18, .ref a19, .int 0, .int 0, .int 0, .int 0, .ref a20, .ref a21, .ref a22, .ref a23, .ref a24, .ref a25, .ref a26, .ref a27, .ref a28, .int 0, .ref a29, .ref a30, .ref a31, .long 0, .int 0, .int 0, .int 0, .long 0, .int 0, .ref a32, .int 0, .int 0, .int 0, .int 0, .ref a33, .ref a34, .ref a35])), (a29, .inl (y 0, 8192, .inl nz))]) hx hb hK hP hD hS 5 0 rfl rfl (n_in (by decide +kernel)) (by rw [nb_upI (f := nz) (i := Int32.toNatClampNeg 1) (x := 0) rfl]; rfl) dX12_stateNow_102 (fun H locs hP hD hS => ?_)
  refine lv_iinc (v := 2) (lv' := [(3, .int 2), (2, .int 7), (0, .ref a0), (1, .int 0)]) hx hb dX12_stateNow_103 hl (k := 0) rfl (by decide +kernel) (by decide +kernel) rfl (fun ls hl => ?_)
  refine lv_goto (tgt := 37) hx hb dX12_stateNow_106 (by decide +kernel) ?_
  refine lv_iload_n hx hb dX12_stateNow_37 rfl (lv_at hl 0 rfl) ?_
  refine lv_bipush (v := 9) hx hb dX12_stateNow_38 (by decide +kernel) ?_
  refine lv_icmp_ge (tgt := 109) hx hb dX12_stateNow_40 (by decide +kernel) (fun c => absurd c (by decide +kernel)) (fun _ => ?_)
  refine lv_aload_n hx hb dX12_stateNow_43 rfl (lv_at hl 2 rfl) ?_
  refine va_get (D := D) (ci := 12) (v := .ref a20) (C := RX12) (T := TX12) (N := 72) hx hb hts iX12_stateNow_X12 hown hK hP 9 rfl rfl 45 (by decide +kernel) w_2 (fun _ h9 => h9) rfl dX12_stateNow_44 ?_
  refine lv_bipush (v := 9) hx hb dX12_stateNow_47 (by decide +kernel) ?_
  refine lv_aload_n hx hb dX12_stateNow_49 rfl (lv_at hl 2 rfl) ?_
  refine va_get (D := D) (ci := 12) (v := .int 0) (C := RX12) (T := TX12) (N := 72) hx hb hts iX12_stateNow_X12 hown hK hP 9 rfl rfl 54 (by decide +kernel) w_1 (fun _ h9 => h9) rfl dX12_stateNow_50 ?_
  refine lv_imul hx hb dX12_stateNow_53 ?_
  refine nv_i (v := 0) (by decide +kernel) ?_
  refine lv_iload_n hx hb dX12_stateNow_54 rfl (lv_at hl 0 rfl) ?_
  refine lv_iadd hx hb dX12_stateNow_55 ?_
  refine nv_i (v := 2) (by decide +kernel) ?_
  refine lv_aload_n hx hb dX12_stateNow_56 rfl (lv_at hl 2 rfl) ?_
  refine va_get (D := D) (ci := 12) (v := .ref a7) (C := RX12) (T := TX12) (N := 72) hx hb hts iX12_stateNow_X12 hown hK hP 9 rfl rfl 7 (by decide +kernel) w_3 (fun _ h9 => h9) rfl dX12_stateNow_57 ?_
  refine lv_iload_n hx hb dX12_stateNow_60 rfl (lv_at hl 0 rfl) ?_
  refine va_iald hx hb hK hP 0 0 rfl rfl (n_in (by decide +kernel)) dX12_stateNow_61 ?_
  refine nv_i (v := 0) rfl ?_
  refine nb_iast (ws' := [(a7, .inl (y 0, 9, .inl nz)), (a20, .inl (y 0, 18000, .inl nz)), (a1, .inl (y 0, 9, .inl nz)), (a21, .inl (y 0, 18000, .inl nz)), (a6, .inl (y 0, 9, .inl nz)), (a22, .inl (y 0, 18000, .inl nz)), (a23, .inl (y 0, 2000, .inl nz)), (a25, .inl (y 0, 2000, .inl nz)), (a27, .inl (y 1, 2000, .inr (.inl nzl))), (a0, .inr (12, [.int 0, .ref a1, .ref a2, .ref a3, .ref a4, .ref a5, .ref a6, .ref a7, .int 0, .ref a8, .int 0, .ref a9, .ref a10, .int 1, .ref a11, .int 0, .ref a12, .int 0, .int 0, .null, .int 0, .int 0, .int 0, .int 0, .ref a13, .ref a14, .ref a15, .int (-1), .int 0, .int 0, .int 0, .int 0, .int 0, .int 0, .int 0, .ref a16, .int 0, .ref a17, .int 0, .ref a18, .ref a19, .int 0, .int 0, .int 0, .int 0, .ref a20, .ref a21, .ref a22, .ref a23, .ref a24, .ref a25, .ref a26, .ref a27, .ref a28, .int 0, .ref a29, .ref a30, .ref a31, .long 0, .int 0, .int 0, .int 0, .long 0, .int 0, .ref a32, .int 0, .int 0, .int 0, .int 0, .ref a33, .ref a34, .ref a35])), (a29, .inl (y 0, 8192, .inl nz))]) hx hb hK hP hD hS 1 0 rfl rfl (n_in (by decide +kernel)) (by rw [nb_upI (f := nz) (i := Int32.toNatClampNeg 2) (x := 0) rfl]; rfl) dX12_stateNow_62 (fun H locs hP hD hS => ?_)
  refine lv_aload_n hx hb dX12_stateNow_63 rfl (lv_at hl 2 rfl) ?_
  refine va_get (D := D) (ci := 12) (v := .ref a21) (C := RX12) (T := TX12) (N := 72) hx hb hts iX12_stateNow_X12 hown hK hP 9 rfl rfl 46 (by decide +kernel) w_4 (fun _ h9 => h9) rfl dX12_stateNow_64 ?_
  refine lv_bipush (v := 9) hx hb dX12_stateNow_67 (by decide +kernel) ?_
  refine lv_aload_n hx hb dX12_stateNow_69 rfl (lv_at hl 2 rfl) ?_
  refine va_get (D := D) (ci := 12) (v := .int 0) (C := RX12) (T := TX12) (N := 72) hx hb hts iX12_stateNow_X12 hown hK hP 9 rfl rfl 54 (by decide +kernel) w_1 (fun _ h9 => h9) rfl dX12_stateNow_70 ?_
  refine lv_imul hx hb dX12_stateNow_73 ?_
  refine nv_i (v := 0) (by decide +kernel) ?_
  refine lv_iload_n hx hb dX12_stateNow_74 rfl (lv_at hl 0 rfl) ?_
  refine lv_iadd hx hb dX12_stateNow_75 ?_
  refine nv_i (v := 2) (by decide +kernel) ?_
  refine lv_aload_n hx hb dX12_stateNow_76 rfl (lv_at hl 2 rfl) ?_
  refine va_get (D := D) (ci := 12) (v := .ref a1) (C := RX12) (T := TX12) (N := 72) hx hb hts iX12_stateNow_X12 hown hK hP 9 rfl rfl 1 (by decide +kernel) w_5 (fun _ h9 => h9) rfl dX12_stateNow_77 ?_
  refine lv_iload_n hx hb dX12_stateNow_80 rfl (lv_at hl 0 rfl) ?_
  refine va_iald hx hb hK hP 2 0 rfl rfl (n_in (by decide +kernel)) dX12_stateNow_81 ?_
  refine nv_i (v := 0) rfl ?_
  refine nb_iast (ws' := [(a7, .inl (y 0, 9, .inl nz)), (a20, .inl (y 0, 18000, .inl nz)), (a1, .inl (y 0, 9, .inl nz)), (a21, .inl (y 0, 18000, .inl nz)), (a6, .inl (y 0, 9, .inl nz)), (a22, .inl (y 0, 18000, .inl nz)), (a23, .inl (y 0, 2000, .inl nz)), (a25, .inl (y 0, 2000, .inl nz)), (a27, .inl (y 1, 2000, .inr (.inl nzl))), (a0, .inr (12, [.int 0, .ref a1, .ref a2, .ref a3, .ref a4, .ref a5, .ref a6, .ref a7, .int 0, .ref a8, .int 0, .ref a9, .ref a10, .int 1, .ref a11, .int 0, .ref a12, .int 0, .int 0, .null, .int 0, .int 0, .int 0, .int 0, .ref a13, .ref a14, .ref a15, .int (-1), .int 0, .int 0, .int 0, .int 0, .int 0, .int 0, .int 0, .ref a16, .int 0, .ref a17, .int 0, .ref a18, .ref a19, .int 0, .int 0, .int 0, .int 0, .ref a20, .ref a21, .ref a22, .ref a23, .ref a24, .ref a25, .ref a26, .ref a27, .ref a28, .int 0, .ref a29, .ref a30, .ref a31, .long 0, .int 0, .int 0, .int 0, .long 0, .int 0, .ref a32, .int 0, .int 0, .int 0, .int 0, .ref a33, .ref a34, .ref a35])), (a29, .inl (y 0, 8192, .inl nz))]) hx hb hK hP hD hS 3 0 rfl rfl (n_in (by decide +kernel)) (by rw [nb_upI (f := nz) (i := Int32.toNatClampNeg 2) (x := 0) rfl]; rfl) dX12_stateNow_82 (fun H locs hP hD hS => ?_)
  refine lv_aload_n hx hb dX12_stateNow_83 rfl (lv_at hl 2 rfl) ?_
  refine va_get (D := D) (ci := 12) (v := .ref a22) (C := RX12) (T := TX12) (N := 72) hx hb hts iX12_stateNow_X12 hown hK hP 9 rfl rfl 47 (by decide +kernel) w_6 (fun _ h9 => h9) rfl dX12_stateNow_84 ?_
  refine lv_bipush (v := 9) hx hb dX12_stateNow_87 (by decide +kernel) ?_
  refine lv_aload_n hx hb dX12_stateNow_89 rfl (lv_at hl 2 rfl) ?_
  refine va_get (D := D) (ci := 12) (v := .int 0) (C := RX12) (T := TX12) (N := 72) hx hb hts iX12_stateNow_X12 hown hK hP 9 rfl rfl 54 (by decide +kernel) w_1 (fun _ h9 => h9) rfl dX12_stateNow_90 ?_
  refine lv_imul hx hb dX12_stateNow_93 ?_
  refine nv_i (v := 0) (by decide +kernel) ?_
  refine lv_iload_n hx hb dX12_stateNow_94 rfl (lv_at hl 0 rfl) ?_
  refine lv_iadd hx hb dX12_stateNow_95 ?_
  refine nv_i (v := 2) (by decide +kernel) ?_
  refine lv_aload_n hx hb dX12_stateNow_96 rfl (lv_at hl 2 rfl) ?_
  refine va_get (D := D) (ci := 12) (v := .ref a6) (C := RX12) (T := TX12) (N := 72) hx hb hts iX12_stateNow_X12 hown hK hP 9 rfl rfl 6 (by decide +kernel) w_7 (fun _ h9 => h9) rfl dX12_stateNow_97 ?_
  refine lv_iload_n hx hb dX12_stateNow_100 rfl (lv_at hl 0 rfl) ?_
  refine va_iald hx hb hK hP 4 0 rfl rfl (n_in (by decide +kernel)) dX12_stateNow_101 ?_
  refine nv_i (v := 0) rfl ?_
  refine nb_iast (ws' := [(a7, .inl (y 0, 9, .inl nz)), (a20, .inl (y 0, 18000, .inl nz)), (a1, .inl (y 0, 9, .inl nz)), (a21, .inl (y 0, 18000, .inl nz)), (a6, .inl (y 0, 9, .inl nz)), (a22, .inl (y 0, 18000, .inl nz)), (a23, .inl (y 0, 2000, .inl nz)), (a25, .inl (y 0, 2000, .inl nz)), (a27, .inl (y 1, 2000, .inr (.inl nzl))), (a0, .inr (12, [.int 0, .ref a1, .ref a2, .ref a3, .ref a4, .ref a5, .ref a6, .ref a7, .int 0, .ref a8, .int 0, .ref a9, .ref a10, .int 1, .ref a11, .int 0, .ref a12, .int 0, .int 0, .null, .int 0, .int 0, .int 0, .int 0, .ref a13, .ref a14, .ref a15, .int (-1), .int 0, .int 0, .int 0, .int 0, .int 0, .int 0, .int 0, .ref a16, .int 0, .ref a17, .int 0, .ref a18, .ref a19, .int 0, .int 0, .int 0, .int 0, .ref a20, .ref a21, .ref a22, .ref a23, .ref a24, .ref a25, .ref a26, .ref a27, .ref a28, .int 0, .ref a29, .ref a30, .ref a31, .long 0, .int 0, .int 0, .int 0, .long 0, .int 0, .ref a32, .int 0, .int 0, .int 0, .int 0, .ref a33, .ref a34, .ref a35])), (a29, .inl (y 0, 8192, .inl nz))]) hx hb hK hP hD hS 5 0 rfl rfl (n_in (by decide +kernel)) (by rw [nb_upI (f := nz) (i := Int32.toNatClampNeg 2) (x := 0) rfl]; rfl) dX12_stateNow_102 (fun H locs hP hD hS => ?_)
  refine lv_iinc (v := 3) (lv' := [(3, .int 3), (2, .int 7), (0, .ref a0), (1, .int 0)]) hx hb dX12_stateNow_103 hl (k := 0) rfl (by decide +kernel) (by decide +kernel) rfl (fun ls hl => ?_)
  refine lv_goto (tgt := 37) hx hb dX12_stateNow_106 (by decide +kernel) ?_
  refine lv_iload_n hx hb dX12_stateNow_37 rfl (lv_at hl 0 rfl) ?_
  refine lv_bipush (v := 9) hx hb dX12_stateNow_38 (by decide +kernel) ?_
  refine lv_icmp_ge (tgt := 109) hx hb dX12_stateNow_40 (by decide +kernel) (fun c => absurd c (by decide +kernel)) (fun _ => ?_)
  refine lv_aload_n hx hb dX12_stateNow_43 rfl (lv_at hl 2 rfl) ?_
  refine va_get (D := D) (ci := 12) (v := .ref a20) (C := RX12) (T := TX12) (N := 72) hx hb hts iX12_stateNow_X12 hown hK hP 9 rfl rfl 45 (by decide +kernel) w_2 (fun _ h9 => h9) rfl dX12_stateNow_44 ?_
  refine lv_bipush (v := 9) hx hb dX12_stateNow_47 (by decide +kernel) ?_
  refine lv_aload_n hx hb dX12_stateNow_49 rfl (lv_at hl 2 rfl) ?_
  refine va_get (D := D) (ci := 12) (v := .int 0) (C := RX12) (T := TX12) (N := 72) hx hb hts iX12_stateNow_X12 hown hK hP 9 rfl rfl 54 (by decide +kernel) w_1 (fun _ h9 => h9) rfl dX12_stateNow_50 ?_
  refine lv_imul hx hb dX12_stateNow_53 ?_
  refine nv_i (v := 0) (by decide +kernel) ?_
  refine lv_iload_n hx hb dX12_stateNow_54 rfl (lv_at hl 0 rfl) ?_
  refine lv_iadd hx hb dX12_stateNow_55 ?_
  refine nv_i (v := 3) (by decide +kernel) ?_
  refine lv_aload_n hx hb dX12_stateNow_56 rfl (lv_at hl 2 rfl) ?_
  refine va_get (D := D) (ci := 12) (v := .ref a7) (C := RX12) (T := TX12) (N := 72) hx hb hts iX12_stateNow_X12 hown hK hP 9 rfl rfl 7 (by decide +kernel) w_3 (fun _ h9 => h9) rfl dX12_stateNow_57 ?_
  refine lv_iload_n hx hb dX12_stateNow_60 rfl (lv_at hl 0 rfl) ?_
  refine va_iald hx hb hK hP 0 0 rfl rfl (n_in (by decide +kernel)) dX12_stateNow_61 ?_
  refine nv_i (v := 0) rfl ?_
  refine nb_iast (ws' := [(a7, .inl (y 0, 9, .inl nz)), (a20, .inl (y 0, 18000, .inl nz)), (a1, .inl (y 0, 9, .inl nz)), (a21, .inl (y 0, 18000, .inl nz)), (a6, .inl (y 0, 9, .inl nz)), (a22, .inl (y 0, 18000, .inl nz)), (a23, .inl (y 0, 2000, .inl nz)), (a25, .inl (y 0, 2000, .inl nz)), (a27, .inl (y 1, 2000, .inr (.inl nzl))), (a0, .inr (12, [.int 0, .ref a1, .ref a2, .ref a3, .ref a4, .ref a5, .ref a6, .ref a7, .int 0, .ref a8, .int 0, .ref a9, .ref a10, .int 1, .ref a11, .int 0, .ref a12, .int 0, .int 0, .null, .int 0, .int 0, .int 0, .int 0, .ref a13, .ref a14, .ref a15, .int (-1), .int 0, .int 0, .int 0, .int 0, .int 0, .int 0, .int 0, .ref a16, .int 0, .ref a17, .int 0, .ref a18, .ref a19, .int 0, .int 0, .int 0, .int 0, .ref a20, .ref a21, .ref a22, .ref a23, .ref a24, .ref a25, .ref a26, .ref a27, .ref a28, .int 0, .ref a29, .ref a30, .ref a31, .long 0, .int 0, .int 0, .int 0, .long 0, .int 0, .ref a32, .int 0, .int 0, .int 0, .int 0, .ref a33, .ref a34, .ref a35])), (a29, .inl (y 0, 8192, .inl nz))]) hx hb hK hP hD hS 1 0 rfl rfl (n_in (by decide +kernel)) (by rw [nb_upI (f := nz) (i := Int32.toNatClampNeg 3) (x := 0) rfl]; rfl) dX12_stateNow_62 (fun H locs hP hD hS => ?_)
  refine lv_aload_n hx hb dX12_stateNow_63 rfl (lv_at hl 2 rfl) ?_
  refine va_get (D := D) (ci := 12) (v := .ref a21) (C := RX12) (T := TX12) (N := 72) hx hb hts iX12_stateNow_X12 hown hK hP 9 rfl rfl 46 (by decide +kernel) w_4 (fun _ h9 => h9) rfl dX12_stateNow_64 ?_
  refine lv_bipush (v := 9) hx hb dX12_stateNow_67 (by decide +kernel) ?_
  refine lv_aload_n hx hb dX12_stateNow_69 rfl (lv_at hl 2 rfl) ?_
  refine va_get (D := D) (ci := 12) (v := .int 0) (C := RX12) (T := TX12) (N := 72) hx hb hts iX12_stateNow_X12 hown hK hP 9 rfl rfl 54 (by decide +kernel) w_1 (fun _ h9 => h9) rfl dX12_stateNow_70 ?_
  refine lv_imul hx hb dX12_stateNow_73 ?_
  refine nv_i (v := 0) (by decide +kernel) ?_
  refine lv_iload_n hx hb dX12_stateNow_74 rfl (lv_at hl 0 rfl) ?_
  refine lv_iadd hx hb dX12_stateNow_75 ?_
  refine nv_i (v := 3) (by decide +kernel) ?_
  refine lv_aload_n hx hb dX12_stateNow_76 rfl (lv_at hl 2 rfl) ?_
  refine va_get (D := D) (ci := 12) (v := .ref a1) (C := RX12) (T := TX12) (N := 72) hx hb hts iX12_stateNow_X12 hown hK hP 9 rfl rfl 1 (by decide +kernel) w_5 (fun _ h9 => h9) rfl dX12_stateNow_77 ?_
  refine lv_iload_n hx hb dX12_stateNow_80 rfl (lv_at hl 0 rfl) ?_
  refine va_iald hx hb hK hP 2 0 rfl rfl (n_in (by decide +kernel)) dX12_stateNow_81 ?_
  refine nv_i (v := 0) rfl ?_
  refine nb_iast (ws' := [(a7, .inl (y 0, 9, .inl nz)), (a20, .inl (y 0, 18000, .inl nz)), (a1, .inl (y 0, 9, .inl nz)), (a21, .inl (y 0, 18000, .inl nz)), (a6, .inl (y 0, 9, .inl nz)), (a22, .inl (y 0, 18000, .inl nz)), (a23, .inl (y 0, 2000, .inl nz)), (a25, .inl (y 0, 2000, .inl nz)), (a27, .inl (y 1, 2000, .inr (.inl nzl))), (a0, .inr (12, [.int 0, .ref a1, .ref a2, .ref a3, .ref a4, .ref a5, .ref a6, .ref a7, .int 0, .ref a8, .int 0, .ref a9, .ref a10, .int 1, .ref a11, .int 0, .ref a12, .int 0, .int 0, .null, .int 0, .int 0, .int 0, .int 0, .ref a13, .ref a14, .ref a15, .int (-1), .int 0, .int 0, .int 0, .int 0, .int 0, .int 0, .int 0, .ref a16, .int 0, .ref a17, .int 0, .ref a18, .ref a19, .int 0, .int 0, .int 0, .int 0, .ref a20, .ref a21, .ref a22, .ref a23, .ref a24, .ref a25, .ref a26, .ref a27, .ref a28, .int 0, .ref a29, .ref a30, .ref a31, .long 0, .int 0, .int 0, .int 0, .long 0, .int 0, .ref a32, .int 0, .int 0, .int 0, .int 0, .ref a33, .ref a34, .ref a35])), (a29, .inl (y 0, 8192, .inl nz))]) hx hb hK hP hD hS 3 0 rfl rfl (n_in (by decide +kernel)) (by rw [nb_upI (f := nz) (i := Int32.toNatClampNeg 3) (x := 0) rfl]; rfl) dX12_stateNow_82 (fun H locs hP hD hS => ?_)
  refine lv_aload_n hx hb dX12_stateNow_83 rfl (lv_at hl 2 rfl) ?_
  refine va_get (D := D) (ci := 12) (v := .ref a22) (C := RX12) (T := TX12) (N := 72) hx hb hts iX12_stateNow_X12 hown hK hP 9 rfl rfl 47 (by decide +kernel) w_6 (fun _ h9 => h9) rfl dX12_stateNow_84 ?_
  refine lv_bipush (v := 9) hx hb dX12_stateNow_87 (by decide +kernel) ?_
  refine lv_aload_n hx hb dX12_stateNow_89 rfl (lv_at hl 2 rfl) ?_
  refine va_get (D := D) (ci := 12) (v := .int 0) (C := RX12) (T := TX12) (N := 72) hx hb hts iX12_stateNow_X12 hown hK hP 9 rfl rfl 54 (by decide +kernel) w_1 (fun _ h9 => h9) rfl dX12_stateNow_90 ?_
  refine lv_imul hx hb dX12_stateNow_93 ?_
  refine nv_i (v := 0) (by decide +kernel) ?_
  refine lv_iload_n hx hb dX12_stateNow_94 rfl (lv_at hl 0 rfl) ?_
  refine lv_iadd hx hb dX12_stateNow_95 ?_
  refine nv_i (v := 3) (by decide +kernel) ?_
  refine lv_aload_n hx hb dX12_stateNow_96 rfl (lv_at hl 2 rfl) ?_
  refine va_get (D := D) (ci := 12) (v := .ref a6) (C := RX12) (T := TX12) (N := 72) hx hb hts iX12_stateNow_X12 hown hK hP 9 rfl rfl 6 (by decide +kernel) w_7 (fun _ h9 => h9) rfl dX12_stateNow_97 ?_
  refine lv_iload_n hx hb dX12_stateNow_100 rfl (lv_at hl 0 rfl) ?_
  refine va_iald hx hb hK hP 4 0 rfl rfl (n_in (by decide +kernel)) dX12_stateNow_101 ?_
  refine nv_i (v := 0) rfl ?_
  refine nb_iast (ws' := [(a7, .inl (y 0, 9, .inl nz)), (a20, .inl (y 0, 18000, .inl nz)), (a1, .inl (y 0, 9, .inl nz)), (a21, .inl (y 0, 18000, .inl nz)), (a6, .inl (y 0, 9, .inl nz)), (a22, .inl (y 0, 18000, .inl nz)), (a23, .inl (y 0, 2000, .inl nz)), (a25, .inl (y 0, 2000, .inl nz)), (a27, .inl (y 1, 2000, .inr (.inl nzl))), (a0, .inr (12, [.int 0, .ref a1, .ref a2, .ref a3, .ref a4, .ref a5, .ref a6, .ref a7, .int 0, .ref a8, .int 0, .ref a9, .ref a10, .int 1, .ref a11, .int 0, .ref a12, .int 0, .int 0, .null, .int 0, .int 0, .int 0, .int 0, .ref a13, .ref a14, .ref a15, .int (-1), .int 0, .int 0, .int 0, .int 0, .int 0, .int 0, .int 0, .ref a16, .int 0, .ref a17, .int 0, .ref a18, .ref a19, .int 0, .int 0, .int 0, .int 0, .ref a20, .ref a21, .ref a22, .ref a23, .ref a24, .ref a25, .ref a26, .ref a27, .ref a28, .int 0, .ref a29, .ref a30, .ref a31, .long 0, .int 0, .int 0, .int 0, .long 0, .int 0, .ref a32, .int 0, .int 0, .int 0, .int 0, .ref a33, .ref a34, .ref a35])), (a29, .inl (y 0, 8192, .inl nz))]) hx hb hK hP hD hS 5 0 rfl rfl (n_in (by decide +kernel)) (by rw [nb_upI (f := nz) (i := Int32.toNatClampNeg 3) (x := 0) rfl]; rfl) dX12_stateNow_102 (fun H locs hP hD hS => ?_)
  refine lv_iinc (v := 4) (lv' := [(3, .int 4), (2, .int 7), (0, .ref a0), (1, .int 0)]) hx hb dX12_stateNow_103 hl (k := 0) rfl (by decide +kernel) (by decide +kernel) rfl (fun ls hl => ?_)
  refine lv_goto (tgt := 37) hx hb dX12_stateNow_106 (by decide +kernel) ?_
  refine lv_iload_n hx hb dX12_stateNow_37 rfl (lv_at hl 0 rfl) ?_
  refine lv_bipush (v := 9) hx hb dX12_stateNow_38 (by decide +kernel) ?_
  refine lv_icmp_ge (tgt := 109) hx hb dX12_stateNow_40 (by decide +kernel) (fun c => absurd c (by decide +kernel)) (fun _ => ?_)
  refine lv_aload_n hx hb dX12_stateNow_43 rfl (lv_at hl 2 rfl) ?_
  refine va_get (D := D) (ci := 12) (v := .ref a20) (C := RX12) (T := TX12) (N := 72) hx hb hts iX12_stateNow_X12 hown hK hP 9 rfl rfl 45 (by decide +kernel) w_2 (fun _ h9 => h9) rfl dX12_stateNow_44 ?_
  refine lv_bipush (v := 9) hx hb dX12_stateNow_47 (by decide +kernel) ?_
  refine lv_aload_n hx hb dX12_stateNow_49 rfl (lv_at hl 2 rfl) ?_
  refine va_get (D := D) (ci := 12) (v := .int 0) (C := RX12) (T := TX12) (N := 72) hx hb hts iX12_stateNow_X12 hown hK hP 9 rfl rfl 54 (by decide +kernel) w_1 (fun _ h9 => h9) rfl dX12_stateNow_50 ?_
  refine lv_imul hx hb dX12_stateNow_53 ?_
  refine nv_i (v := 0) (by decide +kernel) ?_
  refine lv_iload_n hx hb dX12_stateNow_54 rfl (lv_at hl 0 rfl) ?_
  refine lv_iadd hx hb dX12_stateNow_55 ?_
  refine nv_i (v := 4) (by decide +kernel) ?_
  refine lv_aload_n hx hb dX12_stateNow_56 rfl (lv_at hl 2 rfl) ?_
  refine va_get (D := D) (ci := 12) (v := .ref a7) (C := RX12) (T := TX12) (N := 72) hx hb hts iX12_stateNow_X12 hown hK hP 9 rfl rfl 7 (by decide +kernel) w_3 (fun _ h9 => h9) rfl dX12_stateNow_57 ?_
  refine lv_iload_n hx hb dX12_stateNow_60 rfl (lv_at hl 0 rfl) ?_
  refine va_iald hx hb hK hP 0 0 rfl rfl (n_in (by decide +kernel)) dX12_stateNow_61 ?_
  refine nv_i (v := 0) rfl ?_
  refine nb_iast (ws' := [(a7, .inl (y 0, 9, .inl nz)), (a20, .inl (y 0, 18000, .inl nz)), (a1, .inl (y 0, 9, .inl nz)), (a21, .inl (y 0, 18000, .inl nz)), (a6, .inl (y 0, 9, .inl nz)), (a22, .inl (y 0, 18000, .inl nz)), (a23, .inl (y 0, 2000, .inl nz)), (a25, .inl (y 0, 2000, .inl nz)), (a27, .inl (y 1, 2000, .inr (.inl nzl))), (a0, .inr (12, [.int 0, .ref a1, .ref a2, .ref a3, .ref a4, .ref a5, .ref a6, .ref a7, .int 0, .ref a8, .int 0, .ref a9, .ref a10, .int 1, .ref a11, .int 0, .ref a12, .int 0, .int 0, .null, .int 0, .int 0, .int 0, .int 0, .ref a13, .ref a14, .ref a15, .int (-1), .int 0, .int 0, .int 0, .int 0, .int 0, .int 0, .int 0, .ref a16, .int 0, .ref a17, .int 0, .ref a18, .ref a19, .int 0, .int 0, .int 0, .int 0, .ref a20, .ref a21, .ref a22, .ref a23, .ref a24, .ref a25, .ref a26, .ref a27, .ref a28, .int 0, .ref a29, .ref a30, .ref a31, .long 0, .int 0, .int 0, .int 0, .long 0, .int 0, .ref a32, .int 0, .int 0, .int 0, .int 0, .ref a33, .ref a34, .ref a35])), (a29, .inl (y 0, 8192, .inl nz))]) hx hb hK hP hD hS 1 0 rfl rfl (n_in (by decide +kernel)) (by rw [nb_upI (f := nz) (i := Int32.toNatClampNeg 4) (x := 0) rfl]; rfl) dX12_stateNow_62 (fun H locs hP hD hS => ?_)
  refine lv_aload_n hx hb dX12_stateNow_63 rfl (lv_at hl 2 rfl) ?_
  refine va_get (D := D) (ci := 12) (v := .ref a21) (C := RX12) (T := TX12) (N := 72) hx hb hts iX12_stateNow_X12 hown hK hP 9 rfl rfl 46 (by decide +kernel) w_4 (fun _ h9 => h9) rfl dX12_stateNow_64 ?_
  refine lv_bipush (v := 9) hx hb dX12_stateNow_67 (by decide +kernel) ?_
  refine lv_aload_n hx hb dX12_stateNow_69 rfl (lv_at hl 2 rfl) ?_
  refine va_get (D := D) (ci := 12) (v := .int 0) (C := RX12) (T := TX12) (N := 72) hx hb hts iX12_stateNow_X12 hown hK hP 9 rfl rfl 54 (by decide +kernel) w_1 (fun _ h9 => h9) rfl dX12_stateNow_70 ?_
  refine lv_imul hx hb dX12_stateNow_73 ?_
  refine nv_i (v := 0) (by decide +kernel) ?_
  refine lv_iload_n hx hb dX12_stateNow_74 rfl (lv_at hl 0 rfl) ?_
  refine lv_iadd hx hb dX12_stateNow_75 ?_
  refine nv_i (v := 4) (by decide +kernel) ?_
  refine lv_aload_n hx hb dX12_stateNow_76 rfl (lv_at hl 2 rfl) ?_
  refine va_get (D := D) (ci := 12) (v := .ref a1) (C := RX12) (T := TX12) (N := 72) hx hb hts iX12_stateNow_X12 hown hK hP 9 rfl rfl 1 (by decide +kernel) w_5 (fun _ h9 => h9) rfl dX12_stateNow_77 ?_
  refine lv_iload_n hx hb dX12_stateNow_80 rfl (lv_at hl 0 rfl) ?_
  refine va_iald hx hb hK hP 2 0 rfl rfl (n_in (by decide +kernel)) dX12_stateNow_81 ?_
  refine nv_i (v := 0) rfl ?_
  refine nb_iast (ws' := [(a7, .inl (y 0, 9, .inl nz)), (a20, .inl (y 0, 18000, .inl nz)), (a1, .inl (y 0, 9, .inl nz)), (a21, .inl (y 0, 18000, .inl nz)), (a6, .inl (y 0, 9, .inl nz)), (a22, .inl (y 0, 18000, .inl nz)), (a23, .inl (y 0, 2000, .inl nz)), (a25, .inl (y 0, 2000, .inl nz)), (a27, .inl (y 1, 2000, .inr (.inl nzl))), (a0, .inr (12, [.int 0, .ref a1, .ref a2, .ref a3, .ref a4, .ref a5, .ref a6, .ref a7, .int 0, .ref a8, .int 0, .ref a9, .ref a10, .int 1, .ref a11, .int 0, .ref a12, .int 0, .int 0, .null, .int 0, .int 0, .int 0, .int 0, .ref a13, .ref a14, .ref a15, .int (-1), .int 0, .int 0, .int 0, .int 0, .int 0, .int 0, .int 0, .ref a16, .int 0, .ref a17, .int 0, .ref a18, .ref a19, .int 0, .int 0, .int 0, .int 0, .ref a20, .ref a21, .ref a22, .ref a23, .ref a24, .ref a25, .ref a26, .ref a27, .ref a28, .int 0, .ref a29, .ref a30, .ref a31, .long 0, .int 0, .int 0, .int 0, .long 0, .int 0, .ref a32, .int 0, .int 0, .int 0, .int 0, .ref a33, .ref a34, .ref a35])), (a29, .inl (y 0, 8192, .inl nz))]) hx hb hK hP hD hS 3 0 rfl rfl (n_in (by decide +kernel)) (by rw [nb_upI (f := nz) (i := Int32.toNatClampNeg 4) (x := 0) rfl]; rfl) dX12_stateNow_82 (fun H locs hP hD hS => ?_)
  refine lv_aload_n hx hb dX12_stateNow_83 rfl (lv_at hl 2 rfl) ?_
  refine va_get (D := D) (ci := 12) (v := .ref a22) (C := RX12) (T := TX12) (N := 72) hx hb hts iX12_stateNow_X12 hown hK hP 9 rfl rfl 47 (by decide +kernel) w_6 (fun _ h9 => h9) rfl dX12_stateNow_84 ?_
  refine lv_bipush (v := 9) hx hb dX12_stateNow_87 (by decide +kernel) ?_
  refine lv_aload_n hx hb dX12_stateNow_89 rfl (lv_at hl 2 rfl) ?_
  refine va_get (D := D) (ci := 12) (v := .int 0) (C := RX12) (T := TX12) (N := 72) hx hb hts iX12_stateNow_X12 hown hK hP 9 rfl rfl 54 (by decide +kernel) w_1 (fun _ h9 => h9) rfl dX12_stateNow_90 ?_
  refine lv_imul hx hb dX12_stateNow_93 ?_
  refine nv_i (v := 0) (by decide +kernel) ?_
  refine lv_iload_n hx hb dX12_stateNow_94 rfl (lv_at hl 0 rfl) ?_
  refine lv_iadd hx hb dX12_stateNow_95 ?_
  refine nv_i (v := 4) (by decide +kernel) ?_
  refine lv_aload_n hx hb dX12_stateNow_96 rfl (lv_at hl 2 rfl) ?_
  refine va_get (D := D) (ci := 12) (v := .ref a6) (C := RX12) (T := TX12) (N := 72) hx hb hts iX12_stateNow_X12 hown hK hP 9 rfl rfl 6 (by decide +kernel) w_7 (fun _ h9 => h9) rfl dX12_stateNow_97 ?_
  refine lv_iload_n hx hb dX12_stateNow_100 rfl (lv_at hl 0 rfl) ?_
  refine va_iald hx hb hK hP 4 0 rfl rfl (n_in (by decide +kernel)) dX12_stateNow_101 ?_
  refine nv_i (v := 0) rfl ?_
  refine nb_iast (ws' := [(a7, .inl (y 0, 9, .inl nz)), (a20, .inl (y 0, 18000, .inl nz)), (a1, .inl (y 0, 9, .inl nz)), (a21, .inl (y 0, 18000, .inl nz)), (a6, .inl (y 0, 9, .inl nz)), (a22, .inl (y 0, 18000, .inl nz)), (a23, .inl (y 0, 2000, .inl nz)), (a25, .inl (y 0, 2000, .inl nz)), (a27, .inl (y 1, 2000, .inr (.inl nzl))), (a0, .inr (12, [.int 0, .ref a1, .ref a2, .ref a3, .ref a4, .ref a5, .ref a6, .ref a7, .int 0, .ref a8, .int 0, .ref a9, .ref a10, .int 1, .ref a11, .int 0, .ref a12, .int 0, .int 0, .null, .int 0, .int 0, .int 0, .int 0, .ref a13, .ref a14, .ref a15, .int (-1), .int 0, .int 0, .int 0, .int 0, .int 0, .int 0, .int 0, .ref a16, .int 0, .ref a17, .int 0, .ref a18, .ref a19, .int 0, .int 0, .int 0, .int 0, .ref a20, .ref a21, .ref a22, .ref a23, .ref a24, .ref a25, .ref a26, .ref a27, .ref a28, .int 0, .ref a29, .ref a30, .ref a31, .long 0, .int 0, .int 0, .int 0, .long 0, .int 0, .ref a32, .int 0, .int 0, .int 0, .int 0, .ref a33, .ref a34, .ref a35])), (a29, .inl (y 0, 8192, .inl nz))]) hx hb hK hP hD hS 5 0 rfl rfl (n_in (by decide +kernel)) (by rw [nb_upI (f := nz) (i := Int32.toNatClampNeg 4) (x := 0) rfl]; rfl) dX12_stateNow_102 (fun H locs hP hD hS => ?_)
  refine lv_iinc (v := 5) (lv' := [(3, .int 5), (2, .int 7), (0, .ref a0), (1, .int 0)]) hx hb dX12_stateNow_103 hl (k := 0) rfl (by decide +kernel) (by decide +kernel) rfl (fun ls hl => ?_)
  refine lv_goto (tgt := 37) hx hb dX12_stateNow_106 (by decide +kernel) ?_
  refine lv_iload_n hx hb dX12_stateNow_37 rfl (lv_at hl 0 rfl) ?_
  refine lv_bipush (v := 9) hx hb dX12_stateNow_38 (by decide +kernel) ?_
  refine lv_icmp_ge (tgt := 109) hx hb dX12_stateNow_40 (by decide +kernel) (fun c => absurd c (by decide +kernel)) (fun _ => ?_)
  refine lv_aload_n hx hb dX12_stateNow_43 rfl (lv_at hl 2 rfl) ?_
  refine va_get (D := D) (ci := 12) (v := .ref a20) (C := RX12) (T := TX12) (N := 72) hx hb hts iX12_stateNow_X12 hown hK hP 9 rfl rfl 45 (by decide +kernel) w_2 (fun _ h9 => h9) rfl dX12_stateNow_44 ?_
  refine lv_bipush (v := 9) hx hb dX12_stateNow_47 (by decide +kernel) ?_
  refine lv_aload_n hx hb dX12_stateNow_49 rfl (lv_at hl 2 rfl) ?_
  refine va_get (D := D) (ci := 12) (v := .int 0) (C := RX12) (T := TX12) (N := 72) hx hb hts iX12_stateNow_X12 hown hK hP 9 rfl rfl 54 (by decide +kernel) w_1 (fun _ h9 => h9) rfl dX12_stateNow_50 ?_
  refine lv_imul hx hb dX12_stateNow_53 ?_
  refine nv_i (v := 0) (by decide +kernel) ?_
  refine lv_iload_n hx hb dX12_stateNow_54 rfl (lv_at hl 0 rfl) ?_
  refine lv_iadd hx hb dX12_stateNow_55 ?_
  refine nv_i (v := 5) (by decide +kernel) ?_
  refine lv_aload_n hx hb dX12_stateNow_56 rfl (lv_at hl 2 rfl) ?_
  refine va_get (D := D) (ci := 12) (v := .ref a7) (C := RX12) (T := TX12) (N := 72) hx hb hts iX12_stateNow_X12 hown hK hP 9 rfl rfl 7 (by decide +kernel) w_3 (fun _ h9 => h9) rfl dX12_stateNow_57 ?_
  refine lv_iload_n hx hb dX12_stateNow_60 rfl (lv_at hl 0 rfl) ?_
  refine va_iald hx hb hK hP 0 0 rfl rfl (n_in (by decide +kernel)) dX12_stateNow_61 ?_
  refine nv_i (v := 0) rfl ?_
  refine nb_iast (ws' := [(a7, .inl (y 0, 9, .inl nz)), (a20, .inl (y 0, 18000, .inl nz)), (a1, .inl (y 0, 9, .inl nz)), (a21, .inl (y 0, 18000, .inl nz)), (a6, .inl (y 0, 9, .inl nz)), (a22, .inl (y 0, 18000, .inl nz)), (a23, .inl (y 0, 2000, .inl nz)), (a25, .inl (y 0, 2000, .inl nz)), (a27, .inl (y 1, 2000, .inr (.inl nzl))), (a0, .inr (12, [.int 0, .ref a1, .ref a2, .ref a3, .ref a4, .ref a5, .ref a6, .ref a7, .int 0, .ref a8, .int 0, .ref a9, .ref a10, .int 1, .ref a11, .int 0, .ref a12, .int 0, .int 0, .null, .int 0, .int 0, .int 0, .int 0, .ref a13, .ref a14, .ref a15, .int (-1), .int 0, .int 0, .int 0, .int 0, .int 0, .int 0, .int 0, .ref a16, .int 0, .ref a17, .int 0, .ref a18, .ref a19, .int 0, .int 0, .int 0, .int 0, .ref a20, .ref a21, .ref a22, .ref a23, .ref a24, .ref a25, .ref a26, .ref a27, .ref a28, .int 0, .ref a29, .ref a30, .ref a31, .long 0, .int 0, .int 0, .int 0, .long 0, .int 0, .ref a32, .int 0, .int 0, .int 0, .int 0, .ref a33, .ref a34, .ref a35])), (a29, .inl (y 0, 8192, .inl nz))]) hx hb hK hP hD hS 1 0 rfl rfl (n_in (by decide +kernel)) (by rw [nb_upI (f := nz) (i := Int32.toNatClampNeg 5) (x := 0) rfl]; rfl) dX12_stateNow_62 (fun H locs hP hD hS => ?_)
  refine lv_aload_n hx hb dX12_stateNow_63 rfl (lv_at hl 2 rfl) ?_
  refine va_get (D := D) (ci := 12) (v := .ref a21) (C := RX12) (T := TX12) (N := 72) hx hb hts iX12_stateNow_X12 hown hK hP 9 rfl rfl 46 (by decide +kernel) w_4 (fun _ h9 => h9) rfl dX12_stateNow_64 ?_
  refine lv_bipush (v := 9) hx hb dX12_stateNow_67 (by decide +kernel) ?_
  refine lv_aload_n hx hb dX12_stateNow_69 rfl (lv_at hl 2 rfl) ?_
  refine va_get (D := D) (ci := 12) (v := .int 0) (C := RX12) (T := TX12) (N := 72) hx hb hts iX12_stateNow_X12 hown hK hP 9 rfl rfl 54 (by decide +kernel) w_1 (fun _ h9 => h9) rfl dX12_stateNow_70 ?_
  refine lv_imul hx hb dX12_stateNow_73 ?_
  refine nv_i (v := 0) (by decide +kernel) ?_
  refine lv_iload_n hx hb dX12_stateNow_74 rfl (lv_at hl 0 rfl) ?_
  refine lv_iadd hx hb dX12_stateNow_75 ?_
  refine nv_i (v := 5) (by decide +kernel) ?_
  refine lv_aload_n hx hb dX12_stateNow_76 rfl (lv_at hl 2 rfl) ?_
  refine va_get (D := D) (ci := 12) (v := .ref a1) (C := RX12) (T := TX12) (N := 72) hx hb hts iX12_stateNow_X12 hown hK hP 9 rfl rfl 1 (by decide +kernel) w_5 (fun _ h9 => h9) rfl dX12_stateNow_77 ?_
  refine lv_iload_n hx hb dX12_stateNow_80 rfl (lv_at hl 0 rfl) ?_
  refine va_iald hx hb hK hP 2 0 rfl rfl (n_in (by decide +kernel)) dX12_stateNow_81 ?_
  refine nv_i (v := 0) rfl ?_
  refine nb_iast (ws' := [(a7, .inl (y 0, 9, .inl nz)), (a20, .inl (y 0, 18000, .inl nz)), (a1, .inl (y 0, 9, .inl nz)), (a21, .inl (y 0, 18000, .inl nz)), (a6, .inl (y 0, 9, .inl nz)), (a22, .inl (y 0, 18000, .inl nz)), (a23, .inl (y 0, 2000, .inl nz)), (a25, .inl (y 0, 2000, .inl nz)), (a27, .inl (y 1, 2000, .inr (.inl nzl))), (a0, .inr (12, [.int 0, .ref a1, .ref a2, .ref a3, .ref a4, .ref a5, .ref a6, .ref a7, .int 0, .ref a8, .int 0, .ref a9, .ref a10, .int 1, .ref a11, .int 0, .ref a12, .int 0, .int 0, .null, .int 0, .int 0, .int 0, .int 0, .ref a13, .ref a14, .ref a15, .int (-1), .int 0, .int 0, .int 0, .int 0, .int 0, .int 0, .int 0, .ref a16, .int 0, .ref a17, .int 0, .ref a18, .ref a19, .int 0, .int 0, .int 0, .int 0, .ref a20, .ref a21, .ref a22, .ref a23, .ref a24, .ref a25, .ref a26, .ref a27, .ref a28, .int 0, .ref a29, .ref a30, .ref a31, .long 0, .int 0, .int 0, .int 0, .long 0, .int 0, .ref a32, .int 0, .int 0, .int 0, .int 0, .ref a33, .ref a34, .ref a35])), (a29, .inl (y 0, 8192, .inl nz))]) hx hb hK hP hD hS 3 0 rfl rfl (n_in (by decide +kernel)) (by rw [nb_upI (f := nz) (i := Int32.toNatClampNeg 5) (x := 0) rfl]; rfl) dX12_stateNow_82 (fun H locs hP hD hS => ?_)
  refine lv_aload_n hx hb dX12_stateNow_83 rfl (lv_at hl 2 rfl) ?_
  refine va_get (D := D) (ci := 12) (v := .ref a22) (C := RX12) (T := TX12) (N := 72) hx hb hts iX12_stateNow_X12 hown hK hP 9 rfl rfl 47 (by decide +kernel) w_6 (fun _ h9 => h9) rfl dX12_stateNow_84 ?_
  refine lv_bipush (v := 9) hx hb dX12_stateNow_87 (by decide +kernel) ?_
  refine lv_aload_n hx hb dX12_stateNow_89 rfl (lv_at hl 2 rfl) ?_
  refine va_get (D := D) (ci := 12) (v := .int 0) (C := RX12) (T := TX12) (N := 72) hx hb hts iX12_stateNow_X12 hown hK hP 9 rfl rfl 54 (by decide +kernel) w_1 (fun _ h9 => h9) rfl dX12_stateNow_90 ?_
  refine lv_imul hx hb dX12_stateNow_93 ?_
  refine nv_i (v := 0) (by decide +kernel) ?_
  refine lv_iload_n hx hb dX12_stateNow_94 rfl (lv_at hl 0 rfl) ?_
  refine lv_iadd hx hb dX12_stateNow_95 ?_
  refine nv_i (v := 5) (by decide +kernel) ?_
  refine lv_aload_n hx hb dX12_stateNow_96 rfl (lv_at hl 2 rfl) ?_
  refine va_get (D := D) (ci := 12) (v := .ref a6) (C := RX12) (T := TX12) (N := 72) hx hb hts iX12_stateNow_X12 hown hK hP 9 rfl rfl 6 (by decide +kernel) w_7 (fun _ h9 => h9) rfl dX12_stateNow_97 ?_
  refine lv_iload_n hx hb dX12_stateNow_100 rfl (lv_at hl 0 rfl) ?_
  refine va_iald hx hb hK hP 4 0 rfl rfl (n_in (by decide +kernel)) dX12_stateNow_101 ?_
  refine nv_i (v := 0) rfl ?_
  refine nb_iast (ws' := [(a7, .inl (y 0, 9, .inl nz)), (a20, .inl (y 0, 18000, .inl nz)), (a1, .inl (y 0, 9, .inl nz)), (a21, .inl (y 0, 18000, .inl nz)), (a6, .inl (y 0, 9, .inl nz)), (a22, .inl (y 0, 18000, .inl nz)), (a23, .inl (y 0, 2000, .inl nz)), (a25, .inl (y 0, 2000, .inl nz)), (a27, .inl (y 1, 2000, .inr (.inl nzl))), (a0, .inr (12, [.int 0, .ref a1, .ref a2, .ref a3, .ref a4, .ref a5, .ref a6, .ref a7, .int 0, .ref a8, .int 0, .ref a9, .ref a10, .int 1, .ref a11, .int 0, .ref a12, .int 0, .int 0, .null, .int 0, .int 0, .int 0, .int 0, .ref a13, .ref a14, .ref a15, .int (-1), .int 0, .int 0, .int 0, .int 0, .int 0, .int 0, .int 0, .ref a16, .int 0, .ref a17, .int 0, .ref a18, .ref a19, .int 0, .int 0, .int 0, .int 0, .ref a20, .ref a21, .ref a22, .ref a23, .ref a24, .ref a25, .ref a26, .ref a27, .ref a28, .int 0, .ref a29, .ref a30, .ref a31, .long 0, .int 0, .int 0, .int 0, .long 0, .int 0, .ref a32, .int 0, .int 0, .int 0, .int 0, .ref a33, .ref a34, .ref a35])), (a29, .inl (y 0, 8192, .inl nz))]) hx hb hK hP hD hS 5 0 rfl rfl (n_in (by decide +kernel)) (by rw [nb_upI (f := nz) (i := Int32.toNatClampNeg 5) (x := 0) rfl]; rfl) dX12_stateNow_102 (fun H locs hP hD hS => ?_)
  refine lv_iinc (v := 6) (lv' := [(3, .int 6), (2, .int 7), (0, .ref a0), (1, .int 0)]) hx hb dX12_stateNow_103 hl (k := 0) rfl (by decide +kernel) (by decide +kernel) rfl (fun ls hl => ?_)
  refine lv_goto (tgt := 37) hx hb dX12_stateNow_106 (by decide +kernel) ?_
  refine lv_iload_n hx hb dX12_stateNow_37 rfl (lv_at hl 0 rfl) ?_
  refine lv_bipush (v := 9) hx hb dX12_stateNow_38 (by decide +kernel) ?_
  refine lv_icmp_ge (tgt := 109) hx hb dX12_stateNow_40 (by decide +kernel) (fun c => absurd c (by decide +kernel)) (fun _ => ?_)
  refine lv_aload_n hx hb dX12_stateNow_43 rfl (lv_at hl 2 rfl) ?_
  refine va_get (D := D) (ci := 12) (v := .ref a20) (C := RX12) (T := TX12) (N := 72) hx hb hts iX12_stateNow_X12 hown hK hP 9 rfl rfl 45 (by decide +kernel) w_2 (fun _ h9 => h9) rfl dX12_stateNow_44 ?_
  refine lv_bipush (v := 9) hx hb dX12_stateNow_47 (by decide +kernel) ?_
  refine lv_aload_n hx hb dX12_stateNow_49 rfl (lv_at hl 2 rfl) ?_
  refine va_get (D := D) (ci := 12) (v := .int 0) (C := RX12) (T := TX12) (N := 72) hx hb hts iX12_stateNow_X12 hown hK hP 9 rfl rfl 54 (by decide +kernel) w_1 (fun _ h9 => h9) rfl dX12_stateNow_50 ?_
  refine lv_imul hx hb dX12_stateNow_53 ?_
  refine nv_i (v := 0) (by decide +kernel) ?_
  refine lv_iload_n hx hb dX12_stateNow_54 rfl (lv_at hl 0 rfl) ?_
  refine lv_iadd hx hb dX12_stateNow_55 ?_
  refine nv_i (v := 6) (by decide +kernel) ?_
  refine lv_aload_n hx hb dX12_stateNow_56 rfl (lv_at hl 2 rfl) ?_
  refine va_get (D := D) (ci := 12) (v := .ref a7) (C := RX12) (T := TX12) (N := 72) hx hb hts iX12_stateNow_X12 hown hK hP 9 rfl rfl 7 (by decide +kernel) w_3 (fun _ h9 => h9) rfl dX12_stateNow_57 ?_
  refine lv_iload_n hx hb dX12_stateNow_60 rfl (lv_at hl 0 rfl) ?_
  refine va_iald hx hb hK hP 0 0 rfl rfl (n_in (by decide +kernel)) dX12_stateNow_61 ?_
  refine nv_i (v := 0) rfl ?_
  refine nb_iast (ws' := [(a7, .inl (y 0, 9, .inl nz)), (a20, .inl (y 0, 18000, .inl nz)), (a1, .inl (y 0, 9, .inl nz)), (a21, .inl (y 0, 18000, .inl nz)), (a6, .inl (y 0, 9, .inl nz)), (a22, .inl (y 0, 18000, .inl nz)), (a23, .inl (y 0, 2000, .inl nz)), (a25, .inl (y 0, 2000, .inl nz)), (a27, .inl (y 1, 2000, .inr (.inl nzl))), (a0, .inr (12, [.int 0, .ref a1, .ref a2, .ref a3, .ref a4, .ref a5, .ref a6, .ref a7, .int 0, .ref a8, .int 0, .ref a9, .ref a10, .int 1, .ref a11, .int 0, .ref a12, .int 0, .int 0, .null, .int 0, .int 0, .int 0, .int 0, .ref a13, .ref a14, .ref a15, .int (-1), .int 0, .int 0, .int 0, .int 0, .int 0, .int 0, .int 0, .ref a16, .int 0, .ref a17, .int 0, .ref a18, .ref a19, .int 0, .int 0, .int 0, .int 0, .ref a20, .ref a21, .ref a22, .ref a23, .ref a24, .ref a25, .ref a26, .ref a27, .ref a28, .int 0, .ref a29, .ref a30, .ref a31, .long 0, .int 0, .int 0, .int 0, .long 0, .int 0, .ref a32, .int 0, .int 0, .int 0, .int 0, .ref a33, .ref a34, .ref a35])), (a29, .inl (y 0, 8192, .inl nz))]) hx hb hK hP hD hS 1 0 rfl rfl (n_in (by decide +kernel)) (by rw [nb_upI (f := nz) (i := Int32.toNatClampNeg 6) (x := 0) rfl]; rfl) dX12_stateNow_62 (fun H locs hP hD hS => ?_)
  refine lv_aload_n hx hb dX12_stateNow_63 rfl (lv_at hl 2 rfl) ?_
  refine va_get (D := D) (ci := 12) (v := .ref a21) (C := RX12) (T := TX12) (N := 72) hx hb hts iX12_stateNow_X12 hown hK hP 9 rfl rfl 46 (by decide +kernel) w_4 (fun _ h9 => h9) rfl dX12_stateNow_64 ?_
  refine lv_bipush (v := 9) hx hb dX12_stateNow_67 (by decide +kernel) ?_
  refine lv_aload_n hx hb dX12_stateNow_69 rfl (lv_at hl 2 rfl) ?_
  refine va_get (D := D) (ci := 12) (v := .int 0) (C := RX12) (T := TX12) (N := 72) hx hb hts iX12_stateNow_X12 hown hK hP 9 rfl rfl 54 (by decide +kernel) w_1 (fun _ h9 => h9) rfl dX12_stateNow_70 ?_
  refine lv_imul hx hb dX12_stateNow_73 ?_
  refine nv_i (v := 0) (by decide +kernel) ?_
  refine lv_iload_n hx hb dX12_stateNow_74 rfl (lv_at hl 0 rfl) ?_
  refine lv_iadd hx hb dX12_stateNow_75 ?_
  refine nv_i (v := 6) (by decide +kernel) ?_
  refine lv_aload_n hx hb dX12_stateNow_76 rfl (lv_at hl 2 rfl) ?_
  refine va_get (D := D) (ci := 12) (v := .ref a1) (C := RX12) (T := TX12) (N := 72) hx hb hts iX12_stateNow_X12 hown hK hP 9 rfl rfl 1 (by decide +kernel) w_5 (fun _ h9 => h9) rfl dX12_stateNow_77 ?_
  refine lv_iload_n hx hb dX12_stateNow_80 rfl (lv_at hl 0 rfl) ?_
  refine va_iald hx hb hK hP 2 0 rfl rfl (n_in (by decide +kernel)) dX12_stateNow_81 ?_
  refine nv_i (v := 0) rfl ?_
  refine nb_iast (ws' := [(a7, .inl (y 0, 9, .inl nz)), (a20, .inl (y 0, 18000, .inl nz)), (a1, .inl (y 0, 9, .inl nz)), (a21, .inl (y 0, 18000, .inl nz)), (a6, .inl (y 0, 9, .inl nz)), (a22, .inl (y 0, 18000, .inl nz)), (a23, .inl (y 0, 2000, .inl nz)), (a25, .inl (y 0, 2000, .inl nz)), (a27, .inl (y 1, 2000, .inr (.inl nzl))), (a0, .inr (12, [.int 0, .ref a1, .ref a2, .ref a3, .ref a4, .ref a5, .ref a6, .ref a7, .int 0, .ref a8, .int 0, .ref a9, .ref a10, .int 1, .ref a11, .int 0, .ref a12, .int 0, .int 0, .null, .int 0, .int 0, .int 0, .int 0, .ref a13, .ref a14, .ref a15, .int (-1), .int 0, .int 0, .int 0, .int 0, .int 0, .int 0, .int 0, .ref a16, .int 0, .ref a17, .int 0, .ref a18, .ref a19, .int 0, .int 0, .int 0, .int 0, .ref a20, .ref a21, .ref a22, .ref a23, .ref a24, .ref a25, .ref a26, .ref a27, .ref a28, .int 0, .ref a29, .ref a30, .ref a31, .long 0, .int 0, .int 0, .int 0, .long 0, .int 0, .ref a32, .int 0, .int 0, .int 0, .int 0, .ref a33, .ref a34, .ref a35])), (a29, .inl (y 0, 8192, .inl nz))]) hx hb hK hP hD hS 3 0 rfl rfl (n_in (by decide +kernel)) (by rw [nb_upI (f := nz) (i := Int32.toNatClampNeg 6) (x := 0) rfl]; rfl) dX12_stateNow_82 (fun H locs hP hD hS => ?_)
  refine lv_aload_n hx hb dX12_stateNow_83 rfl (lv_at hl 2 rfl) ?_
  refine va_get (D := D) (ci := 12) (v := .ref a22) (C := RX12) (T := TX12) (N := 72) hx hb hts iX12_stateNow_X12 hown hK hP 9 rfl rfl 47 (by decide +kernel) w_6 (fun _ h9 => h9) rfl dX12_stateNow_84 ?_
  refine lv_bipush (v := 9) hx hb dX12_stateNow_87 (by decide +kernel) ?_
  refine lv_aload_n hx hb dX12_stateNow_89 rfl (lv_at hl 2 rfl) ?_
  refine va_get (D := D) (ci := 12) (v := .int 0) (C := RX12) (T := TX12) (N := 72) hx hb hts iX12_stateNow_X12 hown hK hP 9 rfl rfl 54 (by decide +kernel) w_1 (fun _ h9 => h9) rfl dX12_stateNow_90 ?_
  refine lv_imul hx hb dX12_stateNow_93 ?_
  refine nv_i (v := 0) (by decide +kernel) ?_
  refine lv_iload_n hx hb dX12_stateNow_94 rfl (lv_at hl 0 rfl) ?_
  refine lv_iadd hx hb dX12_stateNow_95 ?_
  refine nv_i (v := 6) (by decide +kernel) ?_
  refine lv_aload_n hx hb dX12_stateNow_96 rfl (lv_at hl 2 rfl) ?_
  refine va_get (D := D) (ci := 12) (v := .ref a6) (C := RX12) (T := TX12) (N := 72) hx hb hts iX12_stateNow_X12 hown hK hP 9 rfl rfl 6 (by decide +kernel) w_7 (fun _ h9 => h9) rfl dX12_stateNow_97 ?_
  refine lv_iload_n hx hb dX12_stateNow_100 rfl (lv_at hl 0 rfl) ?_
  refine va_iald hx hb hK hP 4 0 rfl rfl (n_in (by decide +kernel)) dX12_stateNow_101 ?_
  refine nv_i (v := 0) rfl ?_
  refine nb_iast (ws' := [(a7, .inl (y 0, 9, .inl nz)), (a20, .inl (y 0, 18000, .inl nz)), (a1, .inl (y 0, 9, .inl nz)), (a21, .inl (y 0, 18000, .inl nz)), (a6, .inl (y 0, 9, .inl nz)), (a22, .inl (y 0, 18000, .inl nz)), (a23, .inl (y 0, 2000, .inl nz)), (a25, .inl (y 0, 2000, .inl nz)), (a27, .inl (y 1, 2000, .inr (.inl nzl))), (a0, .inr (12, [.int 0, .ref a1, .ref a2, .ref a3, .ref a4, .ref a5, .ref a6, .ref a7, .int 0, .ref a8, .int 0, .ref a9, .ref a10, .int 1, .ref a11, .int 0, .ref a12, .int 0, .int 0, .null, .int 0, .int 0, .int 0, .int 0, .ref a13, .ref a14, .ref a15, .int (-1), .int 0, .int 0, .int 0, .int 0, .int 0, .int 0, .int 0, .ref a16, .int 0, .ref a17, .int 0, .ref a18, .ref a19, .int 0, .int 0, .int 0, .int 0, .ref a20, .ref a21, .ref a22, .ref a23, .ref a24, .ref a25, .ref a26, .ref a27, .ref a28, .int 0, .ref a29, .ref a30, .ref a31, .long 0, .int 0, .int 0, .int 0, .long 0, .int 0, .ref a32, .int 0, .int 0, .int 0, .int 0, .ref a33, .ref a34, .ref a35])), (a29, .inl (y 0, 8192, .inl nz))]) hx hb hK hP hD hS 5 0 rfl rfl (n_in (by decide +kernel)) (by rw [nb_upI (f := nz) (i := Int32.toNatClampNeg 6) (x := 0) rfl]; rfl) dX12_stateNow_102 (fun H locs hP hD hS => ?_)
  refine lv_iinc (v := 7) (lv' := [(3, .int 7), (2, .int 7), (0, .ref a0), (1, .int 0)]) hx hb dX12_stateNow_103 hl (k := 0) rfl (by decide +kernel) (by decide +kernel) rfl (fun ls hl => ?_)
  refine lv_goto (tgt := 37) hx hb dX12_stateNow_106 (by decide +kernel) ?_
  refine lv_iload_n hx hb dX12_stateNow_37 rfl (lv_at hl 0 rfl) ?_
  refine lv_bipush (v := 9) hx hb dX12_stateNow_38 (by decide +kernel) ?_
  refine lv_icmp_ge (tgt := 109) hx hb dX12_stateNow_40 (by decide +kernel) (fun c => absurd c (by decide +kernel)) (fun _ => ?_)
  refine lv_aload_n hx hb dX12_stateNow_43 rfl (lv_at hl 2 rfl) ?_
  refine va_get (D := D) (ci := 12) (v := .ref a20) (C := RX12) (T := TX12) (N := 72) hx hb hts iX12_stateNow_X12 hown hK hP 9 rfl rfl 45 (by decide +kernel) w_2 (fun _ h9 => h9) rfl dX12_stateNow_44 ?_
  refine lv_bipush (v := 9) hx hb dX12_stateNow_47 (by decide +kernel) ?_
  refine lv_aload_n hx hb dX12_stateNow_49 rfl (lv_at hl 2 rfl) ?_
  refine va_get (D := D) (ci := 12) (v := .int 0) (C := RX12) (T := TX12) (N := 72) hx hb hts iX12_stateNow_X12 hown hK hP 9 rfl rfl 54 (by decide +kernel) w_1 (fun _ h9 => h9) rfl dX12_stateNow_50 ?_
  refine lv_imul hx hb dX12_stateNow_53 ?_
  refine nv_i (v := 0) (by decide +kernel) ?_
  refine lv_iload_n hx hb dX12_stateNow_54 rfl (lv_at hl 0 rfl) ?_
  refine lv_iadd hx hb dX12_stateNow_55 ?_
  refine nv_i (v := 7) (by decide +kernel) ?_
  refine lv_aload_n hx hb dX12_stateNow_56 rfl (lv_at hl 2 rfl) ?_
  refine va_get (D := D) (ci := 12) (v := .ref a7) (C := RX12) (T := TX12) (N := 72) hx hb hts iX12_stateNow_X12 hown hK hP 9 rfl rfl 7 (by decide +kernel) w_3 (fun _ h9 => h9) rfl dX12_stateNow_57 ?_
  refine lv_iload_n hx hb dX12_stateNow_60 rfl (lv_at hl 0 rfl) ?_
  refine va_iald hx hb hK hP 0 0 rfl rfl (n_in (by decide +kernel)) dX12_stateNow_61 ?_
  refine nv_i (v := 0) rfl ?_
  refine nb_iast (ws' := [(a7, .inl (y 0, 9, .inl nz)), (a20, .inl (y 0, 18000, .inl nz)), (a1, .inl (y 0, 9, .inl nz)), (a21, .inl (y 0, 18000, .inl nz)), (a6, .inl (y 0, 9, .inl nz)), (a22, .inl (y 0, 18000, .inl nz)), (a23, .inl (y 0, 2000, .inl nz)), (a25, .inl (y 0, 2000, .inl nz)), (a27, .inl (y 1, 2000, .inr (.inl nzl))), (a0, .inr (12, [.int 0, .ref a1, .ref a2, .ref a3, .ref a4, .ref a5, .ref a6, .ref a7, .int 0, .ref a8, .int 0, .ref a9, .ref a10, .int 1, .ref a11, .int 0, .ref a12, .int 0, .int 0, .null, .int 0, .int 0, .int 0, .int 0, .ref a13, .ref a14, .ref a15, .int (-1), .int 0, .int 0, .int 0, .int 0, .int 0, .int 0, .int 0, .ref a16, .int 0, .ref a17, .int 0, .ref a18, .ref a19, .int 0, .int 0, .int 0, .int 0, .ref a20, .ref a21, .ref a22, .ref a23, .ref a24, .ref a25, .ref a26, .ref a27, .ref a28, .int 0, .ref a29, .ref a30, .ref a31, .long 0, .int 0, .int 0, .int 0, .long 0, .int 0, .ref a32, .int 0, .int 0, .int 0, .int 0, .ref a33, .ref a34, .ref a35])), (a29, .inl (y 0, 8192, .inl nz))]) hx hb hK hP hD hS 1 0 rfl rfl (n_in (by decide +kernel)) (by rw [nb_upI (f := nz) (i := Int32.toNatClampNeg 7) (x := 0) rfl]; rfl) dX12_stateNow_62 (fun H locs hP hD hS => ?_)
  refine lv_aload_n hx hb dX12_stateNow_63 rfl (lv_at hl 2 rfl) ?_
  refine va_get (D := D) (ci := 12) (v := .ref a21) (C := RX12) (T := TX12) (N := 72) hx hb hts iX12_stateNow_X12 hown hK hP 9 rfl rfl 46 (by decide +kernel) w_4 (fun _ h9 => h9) rfl dX12_stateNow_64 ?_
  refine lv_bipush (v := 9) hx hb dX12_stateNow_67 (by decide +kernel) ?_
  refine lv_aload_n hx hb dX12_stateNow_69 rfl (lv_at hl 2 rfl) ?_
  refine va_get (D := D) (ci := 12) (v := .int 0) (C := RX12) (T := TX12) (N := 72) hx hb hts iX12_stateNow_X12 hown hK hP 9 rfl rfl 54 (by decide +kernel) w_1 (fun _ h9 => h9) rfl dX12_stateNow_70 ?_
  refine lv_imul hx hb dX12_stateNow_73 ?_
  refine nv_i (v := 0) (by decide +kernel) ?_
  refine lv_iload_n hx hb dX12_stateNow_74 rfl (lv_at hl 0 rfl) ?_
  refine lv_iadd hx hb dX12_stateNow_75 ?_
  refine nv_i (v := 7) (by decide +kernel) ?_
  refine lv_aload_n hx hb dX12_stateNow_76 rfl (lv_at hl 2 rfl) ?_
  refine va_get (D := D) (ci := 12) (v := .ref a1) (C := RX12) (T := TX12) (N := 72) hx hb hts iX12_stateNow_X12 hown hK hP 9 rfl rfl 1 (by decide +kernel) w_5 (fun _ h9 => h9) rfl dX12_stateNow_77 ?_
  refine lv_iload_n hx hb dX12_stateNow_80 rfl (lv_at hl 0 rfl) ?_
  refine va_iald hx hb hK hP 2 0 rfl rfl (n_in (by decide +kernel)) dX12_stateNow_81 ?_
  refine nv_i (v := 0) rfl ?_
  refine nb_iast (ws' := [(a7, .inl (y 0, 9, .inl nz)), (a20, .inl (y 0, 18000, .inl nz)), (a1, .inl (y 0, 9, .inl nz)), (a21, .inl (y 0, 18000, .inl nz)), (a6, .inl (y 0, 9, .inl nz)), (a22, .inl (y 0, 18000, .inl nz)), (a23, .inl (y 0, 2000, .inl nz)), (a25, .inl (y 0, 2000, .inl nz)), (a27, .inl (y 1, 2000, .inr (.inl nzl))), (a0, .inr (12, [.int 0, .ref a1, .ref a2, .ref a3, .ref a4, .ref a5, .ref a6, .ref a7, .int 0, .ref a8, .int 0, .ref a9, .ref a10, .int 1, .ref a11, .int 0, .ref a12, .int 0, .int 0, .null, .int 0, .int 0, .int 0, .int 0, .ref a13, .ref a14, .ref a15, .int (-1), .int 0, .int 0, .int 0, .int 0, .int 0, .int 0, .int 0, .ref a16, .int 0, .ref a17, .int 0, .ref a18, .ref a19, .int 0, .int 0, .int 0, .int 0, .ref a20, .ref a21, .ref a22, .ref a23, .ref a24, .ref a25, .ref a26, .ref a27, .ref a28, .int 0, .ref a29, .ref a30, .ref a31, .long 0, .int 0, .int 0, .int 0, .long 0, .int 0, .ref a32, .int 0, .int 0, .int 0, .int 0, .ref a33, .ref a34, .ref a35])), (a29, .inl (y 0, 8192, .inl nz))]) hx hb hK hP hD hS 3 0 rfl rfl (n_in (by decide +kernel)) (by rw [nb_upI (f := nz) (i := Int32.toNatClampNeg 7) (x := 0) rfl]; rfl) dX12_stateNow_82 (fun H locs hP hD hS => ?_)
  refine lv_aload_n hx hb dX12_stateNow_83 rfl (lv_at hl 2 rfl) ?_
  refine va_get (D := D) (ci := 12) (v := .ref a22) (C := RX12) (T := TX12) (N := 72) hx hb hts iX12_stateNow_X12 hown hK hP 9 rfl rfl 47 (by decide +kernel) w_6 (fun _ h9 => h9) rfl dX12_stateNow_84 ?_
  refine lv_bipush (v := 9) hx hb dX12_stateNow_87 (by decide +kernel) ?_
  refine lv_aload_n hx hb dX12_stateNow_89 rfl (lv_at hl 2 rfl) ?_
  refine va_get (D := D) (ci := 12) (v := .int 0) (C := RX12) (T := TX12) (N := 72) hx hb hts iX12_stateNow_X12 hown hK hP 9 rfl rfl 54 (by decide +kernel) w_1 (fun _ h9 => h9) rfl dX12_stateNow_90 ?_
  refine lv_imul hx hb dX12_stateNow_93 ?_
  refine nv_i (v := 0) (by decide +kernel) ?_
  refine lv_iload_n hx hb dX12_stateNow_94 rfl (lv_at hl 0 rfl) ?_
  refine lv_iadd hx hb dX12_stateNow_95 ?_
  refine nv_i (v := 7) (by decide +kernel) ?_
  refine lv_aload_n hx hb dX12_stateNow_96 rfl (lv_at hl 2 rfl) ?_
  refine va_get (D := D) (ci := 12) (v := .ref a6) (C := RX12) (T := TX12) (N := 72) hx hb hts iX12_stateNow_X12 hown hK hP 9 rfl rfl 6 (by decide +kernel) w_7 (fun _ h9 => h9) rfl dX12_stateNow_97 ?_
  refine lv_iload_n hx hb dX12_stateNow_100 rfl (lv_at hl 0 rfl) ?_
  refine va_iald hx hb hK hP 4 0 rfl rfl (n_in (by decide +kernel)) dX12_stateNow_101 ?_
  refine nv_i (v := 0) rfl ?_
  refine nb_iast (ws' := [(a7, .inl (y 0, 9, .inl nz)), (a20, .inl (y 0, 18000, .inl nz)), (a1, .inl (y 0, 9, .inl nz)), (a21, .inl (y 0, 18000, .inl nz)), (a6, .inl (y 0, 9, .inl nz)), (a22, .inl (y 0, 18000, .inl nz)), (a23, .inl (y 0, 2000, .inl nz)), (a25, .inl (y 0, 2000, .inl nz)), (a27, .inl (y 1, 2000, .inr (.inl nzl))), (a0, .inr (12, [.int 0, .ref a1, .ref a2, .ref a3, .ref a4, .ref a5, .ref a6, .ref a7, .int 0, .ref a8, .int 0, .ref a9, .ref a10, .int 1, .ref a11, .int 0, .ref a12, .int 0, .int 0, .null, .int 0, .int 0, .int 0, .int 0, .ref a13, .ref a14, .ref a15, .int (-1), .int 0, .int 0, .int 0, .int 0, .int 0, .int 0, .int 0, .ref a16, .int 0, .ref a17, .int 0, .ref a18, .ref a19, .int 0, .int 0, .int 0, .int 0, .ref a20, .ref a21, .ref a22, .ref a23, .ref a24, .ref a25, .ref a26, .ref a27, .ref a28, .int 0, .ref a29, .ref a30, .ref a31, .long 0, .int 0, .int 0, .int 0, .long 0, .int 0, .ref a32, .int 0, .int 0, .int 0, .int 0, .ref a33, .ref a34, .ref a35])), (a29, .inl (y 0, 8192, .inl nz))]) hx hb hK hP hD hS 5 0 rfl rfl (n_in (by decide +kernel)) (by rw [nb_upI (f := nz) (i := Int32.toNatClampNeg 7) (x := 0) rfl]; rfl) dX12_stateNow_102 (fun H locs hP hD hS => ?_)
  refine lv_iinc (v := 8) (lv' := [(3, .int 8), (2, .int 7), (0, .ref a0), (1, .int 0)]) hx hb dX12_stateNow_103 hl (k := 0) rfl (by decide +kernel) (by decide +kernel) rfl (fun ls hl => ?_)
  refine lv_goto (tgt := 37) hx hb dX12_stateNow_106 (by decide +kernel) ?_
  refine lv_iload_n hx hb dX12_stateNow_37 rfl (lv_at hl 0 rfl) ?_
  refine lv_bipush (v := 9) hx hb dX12_stateNow_38 (by decide +kernel) ?_
  refine lv_icmp_ge (tgt := 109) hx hb dX12_stateNow_40 (by decide +kernel) (fun c => absurd c (by decide +kernel)) (fun _ => ?_)
  refine lv_aload_n hx hb dX12_stateNow_43 rfl (lv_at hl 2 rfl) ?_
  refine va_get (D := D) (ci := 12) (v := .ref a20) (C := RX12) (T := TX12) (N := 72) hx hb hts iX12_stateNow_X12 hown hK hP 9 rfl rfl 45 (by decide +kernel) w_2 (fun _ h9 => h9) rfl dX12_stateNow_44 ?_
  refine lv_bipush (v := 9) hx hb dX12_stateNow_47 (by decide +kernel) ?_
  refine lv_aload_n hx hb dX12_stateNow_49 rfl (lv_at hl 2 rfl) ?_
  refine va_get (D := D) (ci := 12) (v := .int 0) (C := RX12) (T := TX12) (N := 72) hx hb hts iX12_stateNow_X12 hown hK hP 9 rfl rfl 54 (by decide +kernel) w_1 (fun _ h9 => h9) rfl dX12_stateNow_50 ?_
  refine lv_imul hx hb dX12_stateNow_53 ?_
  refine nv_i (v := 0) (by decide +kernel) ?_
  refine lv_iload_n hx hb dX12_stateNow_54 rfl (lv_at hl 0 rfl) ?_
  refine lv_iadd hx hb dX12_stateNow_55 ?_
  refine nv_i (v := 8) (by decide +kernel) ?_
  refine lv_aload_n hx hb dX12_stateNow_56 rfl (lv_at hl 2 rfl) ?_
  refine va_get (D := D) (ci := 12) (v := .ref a7) (C := RX12) (T := TX12) (N := 72) hx hb hts iX12_stateNow_X12 hown hK hP 9 rfl rfl 7 (by decide +kernel) w_3 (fun _ h9 => h9) rfl dX12_stateNow_57 ?_
  refine lv_iload_n hx hb dX12_stateNow_60 rfl (lv_at hl 0 rfl) ?_
  refine va_iald hx hb hK hP 0 0 rfl rfl (n_in (by decide +kernel)) dX12_stateNow_61 ?_
  refine nv_i (v := 0) rfl ?_
  refine nb_iast (ws' := [(a7, .inl (y 0, 9, .inl nz)), (a20, .inl (y 0, 18000, .inl nz)), (a1, .inl (y 0, 9, .inl nz)), (a21, .inl (y 0, 18000, .inl nz)), (a6, .inl (y 0, 9, .inl nz)), (a22, .inl (y 0, 18000, .inl nz)), (a23, .inl (y 0, 2000, .inl nz)), (a25, .inl (y 0, 2000, .inl nz)), (a27, .inl (y 1, 2000, .inr (.inl nzl))), (a0, .inr (12, [.int 0, .ref a1, .ref a2, .ref a3, .ref a4, .ref a5, .ref a6, .ref a7, .int 0, .ref a8, .int 0, .ref a9, .ref a10, .int 1, .ref a11, .int 0, .ref a12, .int 0, .int 0, .null, .int 0, .int 0, .int 0, .int 0, .ref a13, .ref a14, .ref a15, .int (-1), .int 0, .int 0, .int 0, .int 0, .int 0, .int 0, .int 0, .ref a16, .int 0, .ref a17, .int 0, .ref a18, .ref a19, .int 0, .int 0, .int 0, .int 0, .ref a20, .ref a21, .ref a22, .ref a23, .ref a24, .ref a25, .ref a26, .ref a27, .ref a28, .int 0, .ref a29, .ref a30, .ref a31, .long 0, .int 0, .int 0, .int 0, .long 0, .int 0, .ref a32, .int 0, .int 0, .int 0, .int 0, .ref a33, .ref a34, .ref a35])), (a29, .inl (y 0, 8192, .inl nz))]) hx hb hK hP hD hS 1 0 rfl rfl (n_in (by decide +kernel)) (by rw [nb_upI (f := nz) (i := Int32.toNatClampNeg 8) (x := 0) rfl]; rfl) dX12_stateNow_62 (fun H locs hP hD hS => ?_)
  refine lv_aload_n hx hb dX12_stateNow_63 rfl (lv_at hl 2 rfl) ?_
  refine va_get (D := D) (ci := 12) (v := .ref a21) (C := RX12) (T := TX12) (N := 72) hx hb hts iX12_stateNow_X12 hown hK hP 9 rfl rfl 46 (by decide +kernel) w_4 (fun _ h9 => h9) rfl dX12_stateNow_64 ?_
  refine lv_bipush (v := 9) hx hb dX12_stateNow_67 (by decide +kernel) ?_
  refine lv_aload_n hx hb dX12_stateNow_69 rfl (lv_at hl 2 rfl) ?_
  refine va_get (D := D) (ci := 12) (v := .int 0) (C := RX12) (T := TX12) (N := 72) hx hb hts iX12_stateNow_X12 hown hK hP 9 rfl rfl 54 (by decide +kernel) w_1 (fun _ h9 => h9) rfl dX12_stateNow_70 ?_
  refine lv_imul hx hb dX12_stateNow_73 ?_
  refine nv_i (v := 0) (by decide +kernel) ?_
  refine lv_iload_n hx hb dX12_stateNow_74 rfl (lv_at hl 0 rfl) ?_
  refine lv_iadd hx hb dX12_stateNow_75 ?_
  refine nv_i (v := 8) (by decide +kernel) ?_
  refine lv_aload_n hx hb dX12_stateNow_76 rfl (lv_at hl 2 rfl) ?_
  refine va_get (D := D) (ci := 12) (v := .ref a1) (C := RX12) (T := TX12) (N := 72) hx hb hts iX12_stateNow_X12 hown hK hP 9 rfl rfl 1 (by decide +kernel) w_5 (fun _ h9 => h9) rfl dX12_stateNow_77 ?_
  refine lv_iload_n hx hb dX12_stateNow_80 rfl (lv_at hl 0 rfl) ?_
  refine va_iald hx hb hK hP 2 0 rfl rfl (n_in (by decide +kernel)) dX12_stateNow_81 ?_
  refine nv_i (v := 0) rfl ?_
  refine nb_iast (ws' := [(a7, .inl (y 0, 9, .inl nz)), (a20, .inl (y 0, 18000, .inl nz)), (a1, .inl (y 0, 9, .inl nz)), (a21, .inl (y 0, 18000, .inl nz)), (a6, .inl (y 0, 9, .inl nz)), (a22, .inl (y 0, 18000, .inl nz)), (a23, .inl (y 0, 2000, .inl nz)), (a25, .inl (y 0, 2000, .inl nz)), (a27, .inl (y 1, 2000, .inr (.inl nzl))), (a0, .inr (12, [.int 0, .ref a1, .ref a2, .ref a3, .ref a4, .ref a5, .ref a6, .ref a7, .int 0, .ref a8, .int 0, .ref a9, .ref a10, .int 1, .ref a11, .int 0, .ref a12, .int 0, .int 0, .null, .int 0, .int 0, .int 0, .int 0, .ref a13, .ref a14, .ref a15, .int (-1), .int 0, .int 0, .int 0, .int 0, .int 0, .int 0, .int 0, .ref a16, .int 0, .ref a17, .int 0, .ref a18, .ref a19, .int 0, .int 0, .int 0, .int 0, .ref a20, .ref a21, .ref a22, .ref a23, .ref a24, .ref a25, .ref a26, .ref a27, .ref a28, .int 0, .ref a29, .ref a30, .ref a31, .long 0, .int 0, .int 0, .int 0, .long 0, .int 0, .ref a32, .int 0, .int 0, .int 0, .int 0, .ref a33, .ref a34, .ref a35])), (a29, .inl (y 0, 8192, .inl nz))]) hx hb hK hP hD hS 3 0 rfl rfl (n_in (by decide +kernel)) (by rw [nb_upI (f := nz) (i := Int32.toNatClampNeg 8) (x := 0) rfl]; rfl) dX12_stateNow_82 (fun H locs hP hD hS => ?_)
  refine lv_aload_n hx hb dX12_stateNow_83 rfl (lv_at hl 2 rfl) ?_
  refine va_get (D := D) (ci := 12) (v := .ref a22) (C := RX12) (T := TX12) (N := 72) hx hb hts iX12_stateNow_X12 hown hK hP 9 rfl rfl 47 (by decide +kernel) w_6 (fun _ h9 => h9) rfl dX12_stateNow_84 ?_
  refine lv_bipush (v := 9) hx hb dX12_stateNow_87 (by decide +kernel) ?_
  refine lv_aload_n hx hb dX12_stateNow_89 rfl (lv_at hl 2 rfl) ?_
  refine va_get (D := D) (ci := 12) (v := .int 0) (C := RX12) (T := TX12) (N := 72) hx hb hts iX12_stateNow_X12 hown hK hP 9 rfl rfl 54 (by decide +kernel) w_1 (fun _ h9 => h9) rfl dX12_stateNow_90 ?_
  refine lv_imul hx hb dX12_stateNow_93 ?_
  refine nv_i (v := 0) (by decide +kernel) ?_
  refine lv_iload_n hx hb dX12_stateNow_94 rfl (lv_at hl 0 rfl) ?_
  refine lv_iadd hx hb dX12_stateNow_95 ?_
  refine nv_i (v := 8) (by decide +kernel) ?_
  refine lv_aload_n hx hb dX12_stateNow_96 rfl (lv_at hl 2 rfl) ?_
  refine va_get (D := D) (ci := 12) (v := .ref a6) (C := RX12) (T := TX12) (N := 72) hx hb hts iX12_stateNow_X12 hown hK hP 9 rfl rfl 6 (by decide +kernel) w_7 (fun _ h9 => h9) rfl dX12_stateNow_97 ?_
  refine lv_iload_n hx hb dX12_stateNow_100 rfl (lv_at hl 0 rfl) ?_
  refine va_iald hx hb hK hP 4 0 rfl rfl (n_in (by decide +kernel)) dX12_stateNow_101 ?_
  refine nv_i (v := 0) rfl ?_
  refine nb_iast (ws' := [(a7, .inl (y 0, 9, .inl nz)), (a20, .inl (y 0, 18000, .inl nz)), (a1, .inl (y 0, 9, .inl nz)), (a21, .inl (y 0, 18000, .inl nz)), (a6, .inl (y 0, 9, .inl nz)), (a22, .inl (y 0, 18000, .inl nz)), (a23, .inl (y 0, 2000, .inl nz)), (a25, .inl (y 0, 2000, .inl nz)), (a27, .inl (y 1, 2000, .inr (.inl nzl))), (a0, .inr (12, [.int 0, .ref a1, .ref a2, .ref a3, .ref a4, .ref a5, .ref a6, .ref a7, .int 0, .ref a8, .int 0, .ref a9, .ref a10, .int 1, .ref a11, .int 0, .ref a12, .int 0, .int 0, .null, .int 0, .int 0, .int 0, .int 0, .ref a13, .ref a14, .ref a15, .int (-1), .int 0, .int 0, .int 0, .int 0, .int 0, .int 0, .int 0, .ref a16, .int 0, .ref a17, .int 0, .ref a18, .ref a19, .int 0, .int 0, .int 0, .int 0, .ref a20, .ref a21, .ref a22, .ref a23, .ref a24, .ref a25, .ref a26, .ref a27, .ref a28, .int 0, .ref a29, .ref a30, .ref a31, .long 0, .int 0, .int 0, .int 0, .long 0, .int 0, .ref a32, .int 0, .int 0, .int 0, .int 0, .ref a33, .ref a34, .ref a35])), (a29, .inl (y 0, 8192, .inl nz))]) hx hb hK hP hD hS 5 0 rfl rfl (n_in (by decide +kernel)) (by rw [nb_upI (f := nz) (i := Int32.toNatClampNeg 8) (x := 0) rfl]; rfl) dX12_stateNow_102 (fun H locs hP hD hS => ?_)
  refine lv_iinc (v := 9) (lv' := [(3, .int 9), (2, .int 7), (0, .ref a0), (1, .int 0)]) hx hb dX12_stateNow_103 hl (k := 0) rfl (by decide +kernel) (by decide +kernel) rfl (fun ls hl => ?_)
  refine lv_goto (tgt := 37) hx hb dX12_stateNow_106 (by decide +kernel) ?_
  refine lv_iload_n hx hb dX12_stateNow_37 rfl (lv_at hl 0 rfl) ?_
  refine lv_bipush (v := 9) hx hb dX12_stateNow_38 (by decide +kernel) ?_
  refine lv_icmp_ge (tgt := 109) hx hb dX12_stateNow_40 (by decide +kernel) (fun _ => ?_) (fun c => absurd (by decide +kernel) c)
  refine lv_aload_n hx hb dX12_stateNow_109 rfl (lv_at hl 2 rfl) ?_
  refine va_get (D := D) (ci := 12) (v := .ref a23) (C := RX12) (T := TX12) (N := 72) hx hb hts iX12_stateNow_X12 hown hK hP 9 rfl rfl 48 (by decide +kernel) w_8 (fun _ h9 => h9) rfl dX12_stateNow_110 ?_
  refine lv_aload_n hx hb dX12_stateNow_113 rfl (lv_at hl 2 rfl) ?_
  refine va_get (D := D) (ci := 12) (v := .int 0) (C := RX12) (T := TX12) (N := 72) hx hb hts iX12_stateNow_X12 hown hK hP 9 rfl rfl 54 (by decide +kernel) w_1 (fun _ h9 => h9) rfl dX12_stateNow_114 ?_
  refine lv_iload_n hx hb dX12_stateNow_117 rfl (lv_at hl 3 rfl) ?_
  refine nb_iast (ws' := [(a7, .inl (y 0, 9, .inl nz)), (a20, .inl (y 0, 18000, .inl nz)), (a1, .inl (y 0, 9, .inl nz)), (a21, .inl (y 0, 18000, .inl nz)), (a6, .inl (y 0, 9, .inl nz)), (a22, .inl (y 0, 18000, .inl nz)), (a23, .inl (y 0, 2000, .inl nz)), (a25, .inl (y 0, 2000, .inl nz)), (a27, .inl (y 1, 2000, .inr (.inl nzl))), (a0, .inr (12, [.int 0, .ref a1, .ref a2, .ref a3, .ref a4, .ref a5, .ref a6, .ref a7, .int 0, .ref a8, .int 0, .ref a9, .ref a10, .int 1, .ref a11, .int 0, .ref a12, .int 0, .int 0, .null, .int 0, .int 0, .int 0, .int 0, .ref a13, .ref a14, .ref a15, .int (-1), .int 0, .int 0, .int 0, .int 0, .int 0, .int 0, .int 0, .ref a16, .int 0, .ref a17, .int 0, .ref a18, .ref a19, .int 0, .int 0, .int 0, .int 0, .ref a20, .ref a21, .ref a22, .ref a23, .ref a24, .ref a25, .ref a26, .ref a27, .ref a28, .int 0, .ref a29, .ref a30, .ref a31, .long 0, .int 0, .int 0, .int 0, .long 0, .int 0, .ref a32, .int 0, .int 0, .int 0, .int 0, .ref a33, .ref a34, .ref a35])), (a29, .inl (y 0, 8192, .inl nz))]) hx hb hK hP hD hS 6 0 rfl rfl (n_in (by decide +kernel)) (by rw [nb_upI (f := nz) (i := Int32.toNatClampNeg 0) (x := 0) rfl]; rfl) dX12_stateNow_118 (fun H locs hP hD hS => ?_)
  refine lv_aload_n hx hb dX12_stateNow_119 rfl (lv_at hl 2 rfl) ?_
  refine va_get (D := D) (ci := 12) (v := .ref a25) (C := RX12) (T := TX12) (N := 72) hx hb hts iX12_stateNow_X12 hown hK hP 9 rfl rfl 50 (by decide +kernel) w_9 (fun _ h9 => h9) rfl dX12_stateNow_120 ?_
  refine lv_aload_n hx hb dX12_stateNow_123 rfl (lv_at hl 2 rfl) ?_
  refine va_get (D := D) (ci := 12) (v := .int 0) (C := RX12) (T := TX12) (N := 72) hx hb hts iX12_stateNow_X12 hown hK hP 9 rfl rfl 54 (by decide +kernel) w_1 (fun _ h9 => h9) rfl dX12_stateNow_124 ?_
  refine lv_iconst (v := (-1)) hx hb dX12_stateNow_127 (by decide +kernel) ?_
  refine nb_iast (ws' := [(a7, .inl (y 0, 9, .inl nz)), (a20, .inl (y 0, 18000, .inl nz)), (a1, .inl (y 0, 9, .inl nz)), (a21, .inl (y 0, 18000, .inl nz)), (a6, .inl (y 0, 9, .inl nz)), (a22, .inl (y 0, 18000, .inl nz)), (a23, .inl (y 0, 2000, .inl nz)), (a25, .inl (y 0, 2000, .inl (upd nz 0 (-1)))), (a27, .inl (y 1, 2000, .inr (.inl nzl))), (a0, .inr (12, [.int 0, .ref a1, .ref a2, .ref a3, .ref a4, .ref a5, .ref a6, .ref a7, .int 0, .ref a8, .int 0, .ref a9, .ref a10, .int 1, .ref a11, .int 0, .ref a12, .int 0, .int 0, .null, .int 0, .int 0, .int 0, .int 0, .ref a13, .ref a14, .ref a15, .int (-1), .int 0, .int 0, .int 0, .int 0, .int 0, .int 0, .int 0, .ref a16, .int 0, .ref a17, .int 0, .ref a18, .ref a19, .int 0, .int 0, .int 0, .int 0, .ref a20, .ref a21, .ref a22, .ref a23, .ref a24, .ref a25, .ref a26, .ref a27, .ref a28, .int 0, .ref a29, .ref a30, .ref a31, .long 0, .int 0, .int 0, .int 0, .long 0, .int 0, .ref a32, .int 0, .int 0, .int 0, .int 0, .ref a33, .ref a34, .ref a35])), (a29, .inl (y 0, 8192, .inl nz))]) hx hb hK hP hD hS 7 0 rfl rfl (n_in (by decide +kernel)) rfl dX12_stateNow_128 (fun H locs hP hD hS => ?_)
  refine lv_aload_n hx hb dX12_stateNow_129 rfl (lv_at hl 2 rfl) ?_
  refine va_get (D := D) (ci := 12) (v := .ref a27) (C := RX12) (T := TX12) (N := 72) hx hb hts iX12_stateNow_X12 hown hK hP 9 rfl rfl 52 (by decide +kernel) w_10 (fun _ h9 => h9) rfl dX12_stateNow_130 ?_
  refine lv_aload_n hx hb dX12_stateNow_133 rfl (lv_at hl 2 rfl) ?_
  refine va_get (D := D) (ci := 12) (v := .int 0) (C := RX12) (T := TX12) (N := 72) hx hb hts iX12_stateNow_X12 hown hK hP 9 rfl rfl 54 (by decide +kernel) w_1 (fun _ h9 => h9) rfl dX12_stateNow_134 ?_
  refine lv_lconst (v := 0) hx hb dX12_stateNow_137 (by decide +kernel) ?_
  refine nb_last (ws' := [(a7, .inl (y 0, 9, .inl nz)), (a20, .inl (y 0, 18000, .inl nz)), (a1, .inl (y 0, 9, .inl nz)), (a21, .inl (y 0, 18000, .inl nz)), (a6, .inl (y 0, 9, .inl nz)), (a22, .inl (y 0, 18000, .inl nz)), (a23, .inl (y 0, 2000, .inl nz)), (a25, .inl (y 0, 2000, .inl (upd nz 0 (-1)))), (a27, .inl (y 1, 2000, .inr (.inl nzl))), (a0, .inr (12, [.int 0, .ref a1, .ref a2, .ref a3, .ref a4, .ref a5, .ref a6, .ref a7, .int 0, .ref a8, .int 0, .ref a9, .ref a10, .int 1, .ref a11, .int 0, .ref a12, .int 0, .int 0, .null, .int 0, .int 0, .int 0, .int 0, .ref a13, .ref a14, .ref a15, .int (-1), .int 0, .int 0, .int 0, .int 0, .int 0, .int 0, .int 0, .ref a16, .int 0, .ref a17, .int 0, .ref a18, .ref a19, .int 0, .int 0, .int 0, .int 0, .ref a20, .ref a21, .ref a22, .ref a23, .ref a24, .ref a25, .ref a26, .ref a27, .ref a28, .int 0, .ref a29, .ref a30, .ref a31, .long 0, .int 0, .int 0, .int 0, .long 0, .int 0, .ref a32, .int 0, .int 0, .int 0, .int 0, .ref a33, .ref a34, .ref a35])), (a29, .inl (y 0, 8192, .inl nz))]) hx hb hK hP hD hS 8 1 rfl rfl (n_in (by decide +kernel)) (by rw [nb_upL (f := nzl) (i := Int32.toNatClampNeg 0) (x := 0) rfl]; rfl) dX12_stateNow_138 (fun H locs hP hD hS => ?_)
  refine lv_aload_n hx hb dX12_stateNow_139 rfl (lv_at hl 2 rfl) ?_
  refine lv_dup hx hb dX12_stateNow_140 rfl ?_
  refine va_get (D := D) (ci := 12) (v := .int 0) (C := RX12) (T := TX12) (N := 72) hx hb hts iX12_stateNow_X12 hown hK hP 9 rfl rfl 54 (by decide +kernel) w_1 (fun _ h9 => h9) rfl dX12_stateNow_141 ?_
  refine lv_iconst (v := 1) hx hb dX12_stateNow_144 (by decide +kernel) ?_
  refine lv_iadd hx hb dX12_stateNow_145 ?_
  refine nv_i (v := 1) (by decide +kernel) ?_
  refine nb_put (D := D) (ci := 12) (v := .int 1) (ty := .int) (C := RX12) (T := TX12) (N := 72) (ws' := [(a7, .inl (y 0, 9, .inl nz)), (a20, .inl (y 0, 18000, .inl nz)), (a1, .inl (y 0, 9, .inl nz)), (a21, .inl (y 0, 18000, .inl nz)), (a6, .inl (y 0, 9, .inl nz)), (a22, .inl (y 0, 18000, .inl nz)), (a23, .inl (y 0, 2000, .inl nz)), (a25, .inl (y 0, 2000, .inl (upd nz 0 (-1)))), (a27, .inl (y 1, 2000, .inr (.inl nzl))), (a0, .inr (12, [.int 0, .ref a1, .ref a2, .ref a3, .ref a4, .ref a5, .ref a6, .ref a7, .int 0, .ref a8, .int 0, .ref a9, .ref a10, .int 1, .ref a11, .int 0, .ref a12, .int 0, .int 0, .null, .int 0, .int 0, .int 0, .int 0, .ref a13, .ref a14, .ref a15, .int (-1), .int 0, .int 0, .int 0, .int 0, .int 0, .int 0, .int 0, .ref a16, .int 0, .ref a17, .int 0, .ref a18, .ref a19, .int 0, .int 0, .int 0, .int 0, .ref a20, .ref a21, .ref a22, .ref a23, .ref a24, .ref a25, .ref a26, .ref a27, .ref a28, .int 1, .ref a29, .ref a30, .ref a31, .long 0, .int 0, .int 0, .int 0, .long 0, .int 0, .ref a32, .int 0, .int 0, .int 0, .int 0, .ref a33, .ref a34, .ref a35])), (a29, .inl (y 0, 8192, .inl nz))]) hx hb hts iX12_stateNow_X12 tyX12 tyX12_ok nmX12 hown hK hP hD hS 9 rfl rfl 54 (by decide +kernel) w_1 (fun _ h9 => h9) rfl (by decide +kernel) rfl rfl (Nat.le_of_ble_eq_true rfl) rfl dX12_stateNow_146 (fun H locs hP hD hS => ?_)
  refine lv_aload_n hx hb dX12_stateNow_149 rfl (lv_at hl 2 rfl) ?_
  refine va_get (D := D) (ci := 12) (v := .ref a29) (C := RX12) (T := TX12) (N := 72) hx hb hts iX12_stateNow_X12 hown hK hP 9 rfl rfl 55 (by decide +kernel) w_0 (fun _ h9 => h9) rfl dX12_stateNow_150 ?_
  refine lv_iload_n hx hb dX12_stateNow_153 rfl (lv_at hl 1 rfl) ?_
  refine lv_aload_n hx hb dX12_stateNow_154 rfl (lv_at hl 2 rfl) ?_
  refine va_get (D := D) (ci := 12) (v := .int 1) (C := RX12) (T := TX12) (N := 72) hx hb hts iX12_stateNow_X12 hown hK hP 9 rfl rfl 54 (by decide +kernel) w_1 (fun _ h9 => h9) rfl dX12_stateNow_155 ?_
  refine nb_iast (ws' := [(a7, .inl (y 0, 9, .inl nz)), (a20, .inl (y 0, 18000, .inl nz)), (a1, .inl (y 0, 9, .inl nz)), (a21, .inl (y 0, 18000, .inl nz)), (a6, .inl (y 0, 9, .inl nz)), (a22, .inl (y 0, 18000, .inl nz)), (a23, .inl (y 0, 2000, .inl nz)), (a25, .inl (y 0, 2000, .inl (upd nz 0 (-1)))), (a27, .inl (y 1, 2000, .inr (.inl nzl))), (a0, .inr (12, [.int 0, .ref a1, .ref a2, .ref a3, .ref a4, .ref a5, .ref a6, .ref a7, .int 0, .ref a8, .int 0, .ref a9, .ref a10, .int 1, .ref a11, .int 0, .ref a12, .int 0, .int 0, .null, .int 0, .int 0, .int 0, .int 0, .ref a13, .ref a14, .ref a15, .int (-1), .int 0, .int 0, .int 0, .int 0, .int 0, .int 0, .int 0, .ref a16, .int 0, .ref a17, .int 0, .ref a18, .ref a19, .int 0, .int 0, .int 0, .int 0, .ref a20, .ref a21, .ref a22, .ref a23, .ref a24, .ref a25, .ref a26, .ref a27, .ref a28, .int 1, .ref a29, .ref a30, .ref a31, .long 0, .int 0, .int 0, .int 0, .long 0, .int 0, .ref a32, .int 0, .int 0, .int 0, .int 0, .ref a33, .ref a34, .ref a35])), (a29, .inl (y 0, 8192, .inl (upd nz 7 1)))]) hx hb hK hP hD hS 10 0 rfl rfl (n_in (by decide +kernel)) rfl dX12_stateNow_158 (fun H locs hP hD hS => ?_)
  refine lv_aload_n hx hb dX12_stateNow_159 rfl (lv_at hl 2 rfl) ?_
  refine va_get (D := D) (ci := 12) (v := .int 1) (C := RX12) (T := TX12) (N := 72) hx hb hts iX12_stateNow_X12 hown hK hP 9 rfl rfl 54 (by decide +kernel) w_1 (fun _ h9 => h9) rfl dX12_stateNow_160 ?_
  refine lv_iconst (v := 1) hx hb dX12_stateNow_163 (by decide +kernel) ?_
  refine lv_isub hx hb dX12_stateNow_164 ?_
  refine nv_i (v := 0) (by decide +kernel) ?_
  refine W.widen (k := 0) (n := 0) (Nat.le_of_ble_eq_true rfl) (Nat.le_of_ble_eq_true rfl) ?_
  exact W.iret (v := 0) hx hb hr (fun t ht hW => ⟨⟨0, (fun _ => 0), rfl, rfl, by rw [ht]; exact hP, va_K.moved hW.alike hK, hD⟩, hS.F ht⟩) hS.2.2 dX12_stateNow_165 hlocks
