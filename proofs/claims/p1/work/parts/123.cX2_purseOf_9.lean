theorem dX2_take_0 : decode cX2_take 0 = .ok (.aload_n 0, 1) := by decide +kernel
theorem dX2_take_1 : decode cX2_take 1 = .ok (.getfield 9, 3) := by decide +kernel
theorem dX2_take_4 : decode cX2_take 4 = .ok (.iload_n 1, 1) := by decide +kernel
theorem dX2_take_5 : decode cX2_take 5 = .ok (.iaload, 1) := by decide +kernel
theorem dX2_take_6 : decode cX2_take 6 = .ok (.istore_n 3, 1) := by decide +kernel
theorem dX2_take_7 : decode cX2_take 7 = .ok (.aload_n 2, 1) := by decide +kernel
theorem dX2_take_8 : decode cX2_take 8 = .ok (.getfield 42, 3) := by decide +kernel
theorem dX2_take_11 : decode cX2_take 11 = .ok (.iconst 1, 1) := by decide +kernel
theorem dX2_take_12 : decode cX2_take 12 = .ok (.isub, 1) := by decide +kernel
theorem dX2_take_13 : decode cX2_take 13 = .ok (.istore 4, 2) := by decide +kernel
theorem dX2_take_15 : decode cX2_take 15 = .ok (.iload 4, 2) := by decide +kernel
theorem dX2_take_17 : decode cX2_take 17 = .ok (.ifCond .lt 25, 3) := by decide +kernel
theorem dX2_take_42 : decode cX2_take 42 = .ok (.iconst 0, 1) := by decide +kernel
theorem dX2_take_43 : decode cX2_take 43 = .ok (.istore 4, 2) := by decide +kernel
theorem dX2_take_45 : decode cX2_take 45 = .ok (.iload 4, 2) := by decide +kernel
theorem dX2_take_47 : decode cX2_take 47 = .ok (.bipush 9, 2) := by decide +kernel
theorem dX2_take_49 : decode cX2_take 49 = .ok (.if_icmp .ge 46, 3) := by decide +kernel
theorem dX2_take_52 : decode cX2_take 52 = .ok (.aload_n 2, 1) := by decide +kernel
theorem dX2_take_53 : decode cX2_take 53 = .ok (.getfield 30, 3) := by decide +kernel
theorem dX2_take_56 : decode cX2_take 56 = .ok (.iload 4, 2) := by decide +kernel
theorem dX2_take_58 : decode cX2_take 58 = .ok (.aload_n 0, 1) := by decide +kernel
theorem dX2_take_59 : decode cX2_take 59 = .ok (.iload_n 1, 1) := by decide +kernel
theorem dX2_take_60 : decode cX2_take 60 = .ok (.iload 4, 2) := by decide +kernel
theorem dX2_take_62 : decode cX2_take 62 = .ok (.invokevirtual 49, 3) := by decide +kernel
theorem dX2_take_65 : decode cX2_take 65 = .ok (.iastore, 1) := by decide +kernel
theorem dX2_take_66 : decode cX2_take 66 = .ok (.aload_n 2, 1) := by decide +kernel
theorem dX2_take_67 : decode cX2_take 67 = .ok (.getfield 37, 3) := by decide +kernel
theorem dX2_take_70 : decode cX2_take 70 = .ok (.iload 4, 2) := by decide +kernel
theorem dX2_take_72 : decode cX2_take 72 = .ok (.aload_n 0, 1) := by decide +kernel
theorem dX2_take_73 : decode cX2_take 73 = .ok (.getfield 22, 3) := by decide +kernel
theorem dX2_take_76 : decode cX2_take 76 = .ok (.iload_n 1, 1) := by decide +kernel
theorem dX2_take_77 : decode cX2_take 77 = .ok (.laload, 1) := by decide +kernel
theorem dX2_take_78 : decode cX2_take 78 = .ok (.bipush 7, 2) := by decide +kernel
theorem dX2_take_80 : decode cX2_take 80 = .ok (.iload 4, 2) := by decide +kernel
theorem dX2_take_82 : decode cX2_take 82 = .ok (.imul, 1) := by decide +kernel
theorem dX2_take_83 : decode cX2_take 83 = .ok (.lshr, 1) := by decide +kernel
theorem dX2_take_84 : decode cX2_take 84 = .ok (.l2i, 1) := by decide +kernel
theorem dX2_take_85 : decode cX2_take 85 = .ok (.bipush 127, 2) := by decide +kernel
theorem dX2_take_87 : decode cX2_take 87 = .ok (.iand, 1) := by decide +kernel
theorem dX2_take_88 : decode cX2_take 88 = .ok (.iastore, 1) := by decide +kernel
theorem dX2_take_89 : decode cX2_take 89 = .ok (.iinc 4 1, 3) := by decide +kernel
theorem dX2_take_92 : decode cX2_take 92 = .ok (.goto (-47), 3) := by decide +kernel
theorem dX2_take_95 : decode cX2_take 95 = .ok (.return_, 1) := by decide +kernel
theorem iX2_take_X2 : ∀ w ∈ u_ws RX2 TX2 4, w ∈ wsX2_take := by decide +kernel
theorem iX2_take_X7 : ∀ w ∈ u_ws RX7 TX7 10, w ∈ wsX2_take := by decide +kernel
set_option maxRecDepth 20000 in
theorem ggX2_take_X2_purseOf : GoodIn wsX2_take wsX2_purseOf := goodIn_r _ [11, 12, 13, 14, 15, 16, 17] (by decide +kernel) (by decide +kernel)
set_option maxRecDepth 20000 in
theorem gX2_take_X2_purseOf : GoodIn wsX2_take (wsV RX2 49 RX2 yX2_purseOf wsX2_purseOf) := goodIn_app (goodIn_of _ (by decide +kernel)) ggX2_take_X2_purseOf
theorem dX4_expand_0 : decode cX4_expand 0 = .ok (.aload_n 0, 1) := by decide +kernel
theorem dX4_expand_1 : decode cX4_expand 1 = .ok (.getfield 20, 3) := by decide +kernel
theorem dX4_expand_4 : decode cX4_expand 4 = .ok (.iload_n 1, 1) := by decide +kernel
theorem dX4_expand_5 : decode cX4_expand 5 = .ok (.aload_n 0, 1) := by decide +kernel
theorem dX4_expand_6 : decode cX4_expand 6 = .ok (.getfield 63, 3) := by decide +kernel
theorem dX4_expand_9 : decode cX4_expand 9 = .ok (.invokevirtual 94, 3) := by decide +kernel
theorem dX4_expand_12 : decode cX4_expand 12 = .ok (.iastore, 1) := by decide +kernel
theorem dX4_expand_13 : decode cX4_expand 13 = .ok (.aload_n 0, 1) := by decide +kernel
theorem dX4_expand_14 : decode cX4_expand 14 = .ok (.getfield 38, 3) := by decide +kernel
theorem dX4_expand_17 : decode cX4_expand 17 = .ok (.iload_n 1, 1) := by decide +kernel
theorem dX4_expand_18 : decode cX4_expand 18 = .ok (.iconst 1, 1) := by decide +kernel
theorem dX4_expand_19 : decode cX4_expand 19 = .ok (.bastore, 1) := by decide +kernel
theorem dX4_expand_20 : decode cX4_expand 20 = .ok (.iconst 1, 1) := by decide +kernel
theorem dX4_expand_21 : decode cX4_expand 21 = .ok (.istore_n 2, 1) := by decide +kernel
theorem dX4_expand_22 : decode cX4_expand 22 = .ok (.iload_n 2, 1) := by decide +kernel
theorem dX4_expand_23 : decode cX4_expand 23 = .ok (.bipush 8, 2) := by decide +kernel
theorem dX4_expand_25 : decode cX4_expand 25 = .ok (.if_icmp .gt 61, 3) := by decide +kernel
theorem dX4_expand_28 : decode cX4_expand 28 = .ok (.iconst (-1), 1) := by decide +kernel
theorem dX4_expand_29 : decode cX4_expand 29 = .ok (.istore_n 3, 1) := by decide +kernel
theorem dX4_expand_30 : decode cX4_expand 30 = .ok (.aload_n 0, 1) := by decide +kernel
theorem dX4_expand_31 : decode cX4_expand 31 = .ok (.getfield 63, 3) := by decide +kernel
theorem dX4_expand_34 : decode cX4_expand 34 = .ok (.iload_n 2, 1) := by decide +kernel
theorem dX4_expand_35 : decode cX4_expand 35 = .ok (.invokevirtual 97, 3) := by decide +kernel
theorem dX4_expand_38 : decode cX4_expand 38 = .ok (.ifCond .eq 28, 3) := by decide +kernel
theorem dX4_expand_66 : decode cX4_expand 66 = .ok (.aload_n 0, 1) := by decide +kernel
theorem dX4_expand_67 : decode cX4_expand 67 = .ok (.getfield 42, 3) := by decide +kernel
theorem dX4_expand_70 : decode cX4_expand 70 = .ok (.iload_n 1, 1) := by decide +kernel
theorem dX4_expand_71 : decode cX4_expand 71 = .ok (.bipush 8, 2) := by decide +kernel
theorem dX4_expand_73 : decode cX4_expand 73 = .ok (.imul, 1) := by decide +kernel
theorem dX4_expand_74 : decode cX4_expand 74 = .ok (.iload_n 2, 1) := by decide +kernel
theorem dX4_expand_75 : decode cX4_expand 75 = .ok (.iadd, 1) := by decide +kernel
theorem dX4_expand_76 : decode cX4_expand 76 = .ok (.iconst 1, 1) := by decide +kernel
theorem dX4_expand_77 : decode cX4_expand 77 = .ok (.isub, 1) := by decide +kernel
theorem dX4_expand_78 : decode cX4_expand 78 = .ok (.iload_n 3, 1) := by decide +kernel
theorem dX4_expand_79 : decode cX4_expand 79 = .ok (.iastore, 1) := by decide +kernel
theorem dX4_expand_80 : decode cX4_expand 80 = .ok (.iinc 2 1, 3) := by decide +kernel
theorem dX4_expand_83 : decode cX4_expand 83 = .ok (.goto (-61), 3) := by decide +kernel
theorem dX4_expand_86 : decode cX4_expand 86 = .ok (.return_, 1) := by decide +kernel
theorem iX4_expand_X4 : ∀ w ∈ u_ws RX4 TX4 13, w ∈ wsX4_expand := by decide +kernel
set_option maxRecDepth 20000 in
theorem ggX4_expand_X7_isSold : GoodIn wsX4_expand wsX7_isSold := goodIn_r _ [15, 10, 118, 119, 120, 121, 122, 123, 124, 125, 126, 127] (by decide +kernel) (by decide +kernel)
set_option maxRecDepth 20000 in
theorem ggX4_expand_X7_total : GoodIn wsX4_expand wsX7_total := goodIn_r _ [9, 10, 11, 118, 119, 120, 121, 122, 123, 124, 125, 126, 127] (by decide +kernel) (by decide +kernel)
set_option maxRecDepth 20000 in
theorem gX4_expand_X7_isSold : GoodIn wsX4_expand (wsV RX4 97 RX7 yX7_isSold wsX7_isSold) := goodIn_app (goodIn_of _ (by decide +kernel)) ggX4_expand_X7_isSold
set_option maxRecDepth 20000 in
theorem gX4_expand_X7_total : GoodIn wsX4_expand (wsV RX4 94 RX7 yX7_total wsX7_total) := goodIn_app (goodIn_of _ (by decide +kernel)) ggX4_expand_X7_total
set_option maxRecDepth 100000 in
set_option maxHeartbeats 4000000 in
theorem cX2_purseOf_9 (l : Launch) (D : va_G) (y : Nat → ClassId) (a0 : Nat) (a1 : Nat) (a2 : Nat) (a3 : Nat) (a4 : Nat) (sz : Nat) : Met l yX2_purseOf wsX2_purseOf { frames := 2, cells := 0, slots := 0, locals := 200 } (nPc D y nT [.ref a0, .int 0, .int 8] [(a0, .inr (2, [.ref a1, .ref a2, .ref a3, .ref a4])), (a3, .inl (y 1, 2001, .inr (.inl nzl)))] sz) ((fun A => nQi D y (fun r _ => r = 0) (fun u => [(a0, .inr (2, [.ref a1, .ref a2, .ref a3, .ref a4])), (a3, .inl (y 1, 2001, .inr (.inl nzl)))]) A) (va_A [(a0, .inr (2, [.ref a1, .ref a2, .ref a3, .ref a4])), (a3, .inl (y 1, 2001, .inr (.inl nzl)))] sz)) 0 0 (va_A [(a0, .inr (2, [.ref a1, .ref a2, .ref a3, .ref a4])), (a3, .inl (y 1, 2001, .inr (.inl nzl)))] sz) := by
  refine nm_ofW (D := D) (y := y) (E := nT) (yy := yX2_purseOf) (wsy := wsX2_purseOf) (rm := { frames := 2, cells := 0, slots := 0, locals := 200 }) (as := [.ref a0, .int 0, .int 8]) (ws := [(a0, .inr (2, [.ref a1, .ref a2, .ref a3, .ref a4])), (a3, .inl (y 1, 2001, .inr (.inl nzl)))]) (sz := sz) (mc := 0) (ms := 0) (Qc := fun A => nQi D y (fun r _ => r = 0) (fun u => [(a0, .inr (2, [.ref a1, .ref a2, .ref a3, .ref a4])), (a3, .inl (y 1, 2001, .inr (.inl nzl)))]) A) (cc := cX2_purseOf) (maxL := 5) (ret := (some .int)) (by decide +kernel) rfl (Nat.le_of_ble_eq_true rfl) ?_
  intro p e s m below meth c A ls H hx hb hr hml hts hown hlocks hnm hsz hP hK hD hA hS hE hAe hl
  replace hl : lv_has ls 5 [(0, .ref a0), (1, .int 0), (2, .int 8)] := hl
  have hown : s.vm.findClass RX2 = some m.cls := hown
  have w_0 := hts (.fieldLink RX2 19 "SoldToBehind$Packed" "high" "[J") (by decide +kernel)
  refine lv_iload_n hx hb dX2_purseOf_0 rfl (lv_at hl 2 rfl) ?_
  refine lv_bipush (v := 6) hx hb dX2_purseOf_1 (by decide +kernel) ?_
  refine lv_icmp_ge (tgt := 20) hx hb dX2_purseOf_3 (by decide +kernel) (fun _ => ?_) (fun c => absurd (by decide +kernel) c)
  refine lv_aload_n hx hb dX2_purseOf_20 rfl (lv_at hl 0 rfl) ?_
  refine va_get (D := D) (ci := 2) (v := .ref a3) (C := RX2) (T := TX2) (N := 4) hx hb hts iX2_purseOf_X2 hown hK hP 0 rfl rfl 2 (by decide +kernel) w_0 (fun _ h9 => h9) rfl dX2_purseOf_21 ?_
  refine lv_iload_n hx hb dX2_purseOf_24 rfl (lv_at hl 1 rfl) ?_
  refine va_lald hx hb hK hP 1 1 rfl rfl (n_in (by decide +kernel)) dX2_purseOf_25 ?_
  refine nv_l (v := 0) rfl ?_
  refine lv_bipush (v := 10) hx hb dX2_purseOf_26 (by decide +kernel) ?_
  refine lv_iload_n hx hb dX2_purseOf_28 rfl (lv_at hl 2 rfl) ?_
  refine lv_bipush (v := 6) hx hb dX2_purseOf_29 (by decide +kernel) ?_
  refine lv_isub hx hb dX2_purseOf_31 ?_
  refine nv_i (v := 2) (by decide +kernel) ?_
  refine lv_imul hx hb dX2_purseOf_32 ?_
  refine nv_i (v := 20) (by decide +kernel) ?_
  refine lv_lshr hx hb dX2_purseOf_33 rfl ?_
  refine nv_l (v := 0) (by decide +kernel) ?_
  refine lv_lstore_n (lv' := [(3, .long 0), (0, .ref a0), (1, .int 0), (2, .int 8)]) hx hb dX2_purseOf_34 rfl hl (by decide +kernel) rfl (fun ls hl => ?_)
  refine lv_lload_n hx hb dX2_purseOf_35 rfl (lv_at hl 0 rfl) ?_
  refine lv_l2i (v := 0) hx hb dX2_purseOf_36 (by decide +kernel) ?_
  refine lv_sipush (v := 1023) hx hb dX2_purseOf_37 (by decide +kernel) ?_
  refine lv_iand hx hb dX2_purseOf_40 ?_
  refine nv_i (v := 0) (by decide +kernel) ?_
  refine W.widen (k := 0) (n := 0) (Nat.le_of_ble_eq_true rfl) (Nat.le_of_ble_eq_true rfl) ?_
  exact W.iret (v := 0) hx hb hr (fun t ht hW => ⟨⟨0, (fun _ => 0), rfl, rfl, by rw [ht]; exact hP, va_K.moved hW.alike hK, hD⟩, hS.F ht⟩) hS.2.2 dX2_purseOf_41 hlocks
set_option maxRecDepth 100000 in
set_option maxHeartbeats 4000000 in
theorem cX2_take_1 (l : Launch) (D : va_G) (y : Nat → ClassId) (a0 : Nat) (a1 : Nat) (a2 : Nat) (a3 : Nat) (a4 : Nat) (a5 : Nat) (a6 : Nat) (a7 : Nat) (a8 : Nat) (a9 : Nat) (a10 : Nat) (a11 : Nat) (a12 : Nat) (a13 : Nat) (sz : Nat) : Met l yX2_take wsX2_take { frames := 3, cells := 0, slots := 0, locals := 224 } (nPc D y nT [.ref a0, .int 0, .ref a1] [(a0, .inr (2, [.ref a2, .ref a3, .ref a4, .ref a5])), (a2, .inl (y 0, 2001, .inl (upd nz 0 1))), (a1, .inr (7, [.ref a6, .ref a7, .ref a8, .ref a9, .int 0, .int 0, .ref a10, .ref a11, .ref a12, .ref a13])), (a3, .inl (y 1, 2001, .inr (.inl nzl))), (a7, .inl (y 0, 9, .inl nz)), (a5, .inl (y 1, 2001, .inr (.inl nzl))), (a8, .inl (y 0, 9, .inl nz)), (a4, .inl (y 1, 2001, .inr (.inl nzl)))] sz) ((fun A => nQv D y (fun _ => True) (fun u => [(a2, .inl (y 0, 2001, .inl (upd nz 0 1))), (a1, .inr (7, [.ref a6, .ref a7, .ref a8, .ref a9, .int 0, .int 0, .ref a10, .ref a11, .ref a12, .ref a13])), (a7, .inl (y 0, 9, .inl nz)), (a5, .inl (y 1, 2001, .inr (.inl nzl))), (a8, .inl (y 0, 9, .inl nz)), (a3, .inl (y 1, 2001, .inr (.inl nzl))), (a0, .inr (2, [.ref a2, .ref a3, .ref a4, .ref a5])), (a4, .inl (y 1, 2001, .inr (.inl nzl)))]) A) (va_A [(a0, .inr (2, [.ref a2, .ref a3, .ref a4, .ref a5])), (a2, .inl (y 0, 2001, .inl (upd nz 0 1))), (a1, .inr (7, [.ref a6, .ref a7, .ref a8, .ref a9, .int 0, .int 0, .ref a10, .ref a11, .ref a12, .ref a13])), (a3, .inl (y 1, 2001, .inr (.inl nzl))), (a7, .inl (y 0, 9, .inl nz)), (a5, .inl (y 1, 2001, .inr (.inl nzl))), (a8, .inl (y 0, 9, .inl nz)), (a4, .inl (y 1, 2001, .inr (.inl nzl)))] sz)) 0 0 (va_A [(a0, .inr (2, [.ref a2, .ref a3, .ref a4, .ref a5])), (a2, .inl (y 0, 2001, .inl (upd nz 0 1))), (a1, .inr (7, [.ref a6, .ref a7, .ref a8, .ref a9, .int 0, .int 0, .ref a10, .ref a11, .ref a12, .ref a13])), (a3, .inl (y 1, 2001, .inr (.inl nzl))), (a7, .inl (y 0, 9, .inl nz)), (a5, .inl (y 1, 2001, .inr (.inl nzl))), (a8, .inl (y 0, 9, .inl nz)), (a4, .inl (y 1, 2001, .inr (.inl nzl)))] sz) := by
  refine nm_ofW (D := D) (y := y) (E := nT) (yy := yX2_take) (wsy := wsX2_take) (rm := { frames := 3, cells := 0, slots := 0, locals := 224 }) (as := [.ref a0, .int 0, .ref a1]) (ws := [(a0, .inr (2, [.ref a2, .ref a3, .ref a4, .ref a5])), (a2, .inl (y 0, 2001, .inl (upd nz 0 1))), (a1, .inr (7, [.ref a6, .ref a7, .ref a8, .ref a9, .int 0, .int 0, .ref a10, .ref a11, .ref a12, .ref a13])), (a3, .inl (y 1, 2001, .inr (.inl nzl))), (a7, .inl (y 0, 9, .inl nz)), (a5, .inl (y 1, 2001, .inr (.inl nzl))), (a8, .inl (y 0, 9, .inl nz)), (a4, .inl (y 1, 2001, .inr (.inl nzl)))]) (sz := sz) (mc := 0) (ms := 0) (Qc := fun A => nQv D y (fun _ => True) (fun u => [(a2, .inl (y 0, 2001, .inl (upd nz 0 1))), (a1, .inr (7, [.ref a6, .ref a7, .ref a8, .ref a9, .int 0, .int 0, .ref a10, .ref a11, .ref a12, .ref a13])), (a7, .inl (y 0, 9, .inl nz)), (a5, .inl (y 1, 2001, .inr (.inl nzl))), (a8, .inl (y 0, 9, .inl nz)), (a3, .inl (y 1, 2001, .inr (.inl nzl))), (a0, .inr (2, [.ref a2, .ref a3, .ref a4, .ref a5])), (a4, .inl (y 1, 2001, .inr (.inl nzl)))]) A) (cc := cX2_take) (maxL := 5) (ret := none) (by decide +kernel) rfl (Nat.le_of_ble_eq_true rfl) ?_
  intro p e s m below meth c A ls H hx hb hr hml hts hown hlocks hnm hsz hP hK hD hA hS hE hAe hl
  replace hl : lv_has ls 5 [(0, .ref a0), (1, .int 0), (2, .ref a1)] := hl
  have hown : s.vm.findClass RX2 = some m.cls := hown
  have w_0 := hts (.fieldLink RX2 9 "SoldToBehind$Packed" "code" "[I") (by decide +kernel)
  have w_1 := hts (.fieldLink RX2 42 "SoldToBehind$Standing" "size" "I") (by decide +kernel)
  have w_2 := hts (.fieldLink RX2 30 "SoldToBehind$Standing" "purse" "[I") (by decide +kernel)
  have w_3 := hts (.fieldLink RX2 37 "SoldToBehind$Standing" "sales" "[I") (by decide +kernel)
  have w_4 := hts (.fieldLink RX2 22 "SoldToBehind$Packed" "sales" "[J") (by decide +kernel)
  refine lv_aload_n hx hb dX2_take_0 rfl (lv_at hl 0 rfl) ?_
  refine va_get (D := D) (ci := 2) (v := .ref a2) (C := RX2) (T := TX2) (N := 4) hx hb hts iX2_take_X2 hown hK hP 0 rfl rfl 0 (by decide +kernel) w_0 (fun _ h9 => h9) rfl dX2_take_1 ?_
  refine lv_iload_n hx hb dX2_take_4 rfl (lv_at hl 1 rfl) ?_
  refine va_iald hx hb hK hP 1 0 rfl rfl (n_in (by decide +kernel)) dX2_take_5 ?_
  refine nv_i (v := 1) rfl ?_
  refine lv_istore_n (lv' := [(3, .int 1), (0, .ref a0), (1, .int 0), (2, .ref a1)]) hx hb dX2_take_6 rfl hl (by decide +kernel) rfl (fun ls hl => ?_)
  refine lv_aload_n hx hb dX2_take_7 rfl (lv_at hl 3 rfl) ?_
  refine va_get (D := D) (ci := 7) (v := .int 0) (C := RX7) (T := TX7) (N := 10) hx hb hts iX2_take_X7 hown hK hP 2 rfl rfl 4 (by decide +kernel) w_1 (fun _ h9 => h9) rfl dX2_take_8 ?_
  refine lv_iconst (v := 1) hx hb dX2_take_11 (by decide +kernel) ?_
  refine lv_isub hx hb dX2_take_12 ?_
  refine nv_i (v := (-1)) (by decide +kernel) ?_
  refine lv_istore (lv' := [(4, .int (-1)), (3, .int 1), (0, .ref a0), (1, .int 0), (2, .ref a1)]) hx hb dX2_take_13 hl (by decide +kernel) rfl (fun ls hl => ?_)
  refine lv_iload hx hb dX2_take_15 (lv_at hl 0 rfl) ?_
  refine lv_if_lt (tgt := 42) hx hb dX2_take_17 (by decide +kernel) (fun _ => ?_) (fun c => absurd (by decide +kernel) c)
  refine lv_iconst (v := 0) hx hb dX2_take_42 (by decide +kernel) ?_
  refine lv_istore (lv' := [(4, .int 0), (3, .int 1), (0, .ref a0), (1, .int 0), (2, .ref a1)]) hx hb dX2_take_43 hl (by decide +kernel) rfl (fun ls hl => ?_)
  refine lv_iload hx hb dX2_take_45 (lv_at hl 0 rfl) ?_
  refine lv_bipush (v := 9) hx hb dX2_take_47 (by decide +kernel) ?_
  refine lv_icmp_ge (tgt := 95) hx hb dX2_take_49 (by decide +kernel) (fun c => absurd c (by decide +kernel)) (fun _ => ?_)
  refine lv_aload_n hx hb dX2_take_52 rfl (lv_at hl 4 rfl) ?_
  refine va_get (D := D) (ci := 7) (v := .ref a7) (C := RX7) (T := TX7) (N := 10) hx hb hts iX2_take_X7 hown hK hP 2 rfl rfl 1 (by decide +kernel) w_2 (fun _ h9 => h9) rfl dX2_take_53 ?_
  refine lv_iload hx hb dX2_take_56 (lv_at hl 0 rfl) ?_
  refine lv_aload_n hx hb dX2_take_58 rfl (lv_at hl 2 rfl) ?_
  refine lv_iload_n hx hb dX2_take_59 rfl (lv_at hl 3 rfl) ?_
  refine lv_iload hx hb dX2_take_60 (lv_at hl 0 rfl) ?_
  refine nj_i (ws := [(a0, .inr (2, [.ref a2, .ref a3, .ref a4, .ref a5])), (a2, .inl (y 0, 2001, .inl (upd nz 0 1))), (a1, .inr (7, [.ref a6, .ref a7, .ref a8, .ref a9, .int 0, .int 0, .ref a10, .ref a11, .ref a12, .ref a13])), (a3, .inl (y 1, 2001, .inr (.inl nzl))), (a7, .inl (y 0, 9, .inl nz)), (a5, .inl (y 1, 2001, .inr (.inl nzl))), (a8, .inl (y 0, 9, .inl nz)), (a4, .inl (y 1, 2001, .inr (.inl nzl)))]) (wc := [(a0, .inr (2, [.ref a2, .ref a3, .ref a4, .ref a5])), (a3, .inl (y 1, 2001, .inr (.inl nzl)))]) (wr := [(a2, .inl (y 0, 2001, .inl (upd nz 0 1))), (a1, .inr (7, [.ref a6, .ref a7, .ref a8, .ref a9, .int 0, .int 0, .ref a10, .ref a11, .ref a12, .ref a13])), (a7, .inl (y 0, 9, .inl nz)), (a5, .inl (y 1, 2001, .inr (.inl nzl))), (a8, .inl (y 0, 9, .inl nz)), (a4, .inl (y 1, 2001, .inr (.inl nzl)))]) (nr_V (As := [.int 0, .int 0]) (rest := [.int 0, .ref a7]) ⟨hx, hb, hml, hown, hts⟩ (cX2_purseOf_1 l D y a0 a2 a3 a4 a5 H.size) (cwV 2 hts gX2_take_X2_purseOf rfl rfl rfl (by decide +kernel) ⟨Nat.le_of_ble_eq_true rfl, Nat.le_of_ble_eq_true rfl⟩) hK hP hD hE [0, 3] rfl (by decide +kernel) 0 2 rfl rfl rfl rfl rfl hl.1 rfl (lv_room (Nat.le_of_ble_eq_true rfl)) dX2_take_62 ⟨Nat.le_of_ble_eq_true rfl, Nat.le_of_ble_eq_true rfl⟩) hP hD hS hA [0, 3] [1, 2, 4, 5, 6, 7] rfl rfl (by decide +kernel) (by decide +kernel) (fun r2 u1 H locs er2 hP hD hS => ?_)
  replace hP : va_P D vwCl [(a2, .inl (y 0, 2001, .inl (upd nz 0 1))), (a1, .inr (7, [.ref a6, .ref a7, .ref a8, .ref a9, .int 0, .int 0, .ref a10, .ref a11, .ref a12, .ref a13])), (a7, .inl (y 0, 9, .inl nz)), (a5, .inl (y 1, 2001, .inr (.inl nzl))), (a8, .inl (y 0, 9, .inl nz)), (a4, .inl (y 1, 2001, .inr (.inl nzl))), (a0, .inr (2, [.ref a2, .ref a3, .ref a4, .ref a5])), (a3, .inl (y 1, 2001, .inr (.inl nzl)))] H := hP
  replace hD : va_D A [(a2, .inl (y 0, 2001, .inl (upd nz 0 1))), (a1, .inr (7, [.ref a6, .ref a7, .ref a8, .ref a9, .int 0, .int 0, .ref a10, .ref a11, .ref a12, .ref a13])), (a7, .inl (y 0, 9, .inl nz)), (a5, .inl (y 1, 2001, .inr (.inl nzl))), (a8, .inl (y 0, 9, .inl nz)), (a4, .inl (y 1, 2001, .inr (.inl nzl))), (a0, .inr (2, [.ref a2, .ref a3, .ref a4, .ref a5])), (a3, .inl (y 1, 2001, .inr (.inl nzl)))] := hD
  subst er2
  refine nb_iast (ws' := [(a2, .inl (y 0, 2001, .inl (upd nz 0 1))), (a1, .inr (7, [.ref a6, .ref a7, .ref a8, .ref a9, .int 0, .int 0, .ref a10, .ref a11, .ref a12, .ref a13])), (a7, .inl (y 0, 9, .inl nz)), (a5, .inl (y 1, 2001, .inr (.inl nzl))), (a8, .inl (y 0, 9, .inl nz)), (a4, .inl (y 1, 2001, .inr (.inl nzl))), (a0, .inr (2, [.ref a2, .ref a3, .ref a4, .ref a5])), (a3, .inl (y 1, 2001, .inr (.inl nzl)))]) hx hb hK hP hD hS 2 0 rfl rfl (n_in (by decide +kernel)) (by rw [nb_upI (f := nz) (i := Int32.toNatClampNeg 0) (x := 0) rfl]; rfl) dX2_take_65 (fun H locs hP hD hS => ?_)
  refine lv_aload_n hx hb dX2_take_66 rfl (lv_at hl 4 rfl) ?_
  refine va_get (D := D) (ci := 7) (v := .ref a8) (C := RX7) (T := TX7) (N := 10) hx hb hts iX2_take_X7 hown hK hP 1 rfl rfl 2 (by decide +kernel) w_3 (fun _ h9 => h9) rfl dX2_take_67 ?_
  refine lv_iload hx hb dX2_take_70 (lv_at hl 0 rfl) ?_
  refine lv_aload_n hx hb dX2_take_72 rfl (lv_at hl 2 rfl) ?_
  refine va_get (D := D) (ci := 2) (v := .ref a5) (C := RX2) (T := TX2) (N := 4) hx hb hts iX2_take_X2 hown hK hP 6 rfl rfl 3 (by decide +kernel) w_4 (fun _ h9 => h9) rfl dX2_take_73 ?_
  refine lv_iload_n hx hb dX2_take_76 rfl (lv_at hl 3 rfl) ?_
  refine va_lald hx hb hK hP 3 1 rfl rfl (n_in (by decide +kernel)) dX2_take_77 ?_
  refine nv_l (v := 0) rfl ?_
  refine lv_bipush (v := 7) hx hb dX2_take_78 (by decide +kernel) ?_
  refine lv_iload hx hb dX2_take_80 (lv_at hl 0 rfl) ?_
  refine lv_imul hx hb dX2_take_82 ?_
  refine nv_i (v := 0) (by decide +kernel) ?_
  refine lv_lshr hx hb dX2_take_83 rfl ?_
  refine nv_l (v := 0) (by decide +kernel) ?_
  refine lv_l2i (v := 0) hx hb dX2_take_84 (by decide +kernel) ?_
  refine lv_bipush (v := 127) hx hb dX2_take_85 (by decide +kernel) ?_
  refine lv_iand hx hb dX2_take_87 ?_
  refine nv_i (v := 0) (by decide +kernel) ?_
  refine nb_iast (ws' := [(a2, .inl (y 0, 2001, .inl (upd nz 0 1))), (a1, .inr (7, [.ref a6, .ref a7, .ref a8, .ref a9, .int 0, .int 0, .ref a10, .ref a11, .ref a12, .ref a13])), (a7, .inl (y 0, 9, .inl nz)), (a5, .inl (y 1, 2001, .inr (.inl nzl))), (a8, .inl (y 0, 9, .inl nz)), (a4, .inl (y 1, 2001, .inr (.inl nzl))), (a0, .inr (2, [.ref a2, .ref a3, .ref a4, .ref a5])), (a3, .inl (y 1, 2001, .inr (.inl nzl)))]) hx hb hK hP hD hS 4 0 rfl rfl (n_in (by decide +kernel)) (by rw [nb_upI (f := nz) (i := Int32.toNatClampNeg 0) (x := 0) rfl]; rfl) dX2_take_88 (fun H locs hP hD hS => ?_)
  refine lv_iinc (v := 1) (lv' := [(4, .int 1), (3, .int 1), (0, .ref a0), (1, .int 0), (2, .ref a1)]) hx hb dX2_take_89 hl (k := 0) rfl (by decide +kernel) (by decide +kernel) rfl (fun ls hl => ?_)
  refine lv_goto (tgt := 45) hx hb dX2_take_92 (by decide +kernel) ?_
  refine lv_iload hx hb dX2_take_45 (lv_at hl 0 rfl) ?_
  refine lv_bipush (v := 9) hx hb dX2_take_47 (by decide +kernel) ?_
  refine lv_icmp_ge (tgt := 95) hx hb dX2_take_49 (by decide +kernel) (fun c => absurd c (by decide +kernel)) (fun _ => ?_)
  refine lv_aload_n hx hb dX2_take_52 rfl (lv_at hl 4 rfl) ?_
  refine va_get (D := D) (ci := 7) (v := .ref a7) (C := RX7) (T := TX7) (N := 10) hx hb hts iX2_take_X7 hown hK hP 1 rfl rfl 1 (by decide +kernel) w_2 (fun _ h9 => h9) rfl dX2_take_53 ?_
  refine lv_iload hx hb dX2_take_56 (lv_at hl 0 rfl) ?_
  refine lv_aload_n hx hb dX2_take_58 rfl (lv_at hl 2 rfl) ?_
  refine lv_iload_n hx hb dX2_take_59 rfl (lv_at hl 3 rfl) ?_
  refine lv_iload hx hb dX2_take_60 (lv_at hl 0 rfl) ?_
  refine nj_i (ws := [(a2, .inl (y 0, 2001, .inl (upd nz 0 1))), (a1, .inr (7, [.ref a6, .ref a7, .ref a8, .ref a9, .int 0, .int 0, .ref a10, .ref a11, .ref a12, .ref a13])), (a7, .inl (y 0, 9, .inl nz)), (a5, .inl (y 1, 2001, .inr (.inl nzl))), (a8, .inl (y 0, 9, .inl nz)), (a4, .inl (y 1, 2001, .inr (.inl nzl))), (a0, .inr (2, [.ref a2, .ref a3, .ref a4, .ref a5])), (a3, .inl (y 1, 2001, .inr (.inl nzl)))]) (wc := [(a0, .inr (2, [.ref a2, .ref a3, .ref a4, .ref a5])), (a3, .inl (y 1, 2001, .inr (.inl nzl)))]) (wr := [(a2, .inl (y 0, 2001, .inl (upd nz 0 1))), (a1, .inr (7, [.ref a6, .ref a7, .ref a8, .ref a9, .int 0, .int 0, .ref a10, .ref a11, .ref a12, .ref a13])), (a7, .inl (y 0, 9, .inl nz)), (a5, .inl (y 1, 2001, .inr (.inl nzl))), (a8, .inl (y 0, 9, .inl nz)), (a4, .inl (y 1, 2001, .inr (.inl nzl)))]) (nr_V (As := [.int 0, .int 1]) (rest := [.int 1, .ref a7]) ⟨hx, hb, hml, hown, hts⟩ (cX2_purseOf_2 l D y a0 a2 a3 a4 a5 H.size) (cwV 2 hts gX2_take_X2_purseOf rfl rfl rfl (by decide +kernel) ⟨Nat.le_of_ble_eq_true rfl, Nat.le_of_ble_eq_true rfl⟩) hK hP hD hE [6, 7] rfl (by decide +kernel) 0 2 rfl rfl rfl rfl rfl hl.1 rfl (lv_room (Nat.le_of_ble_eq_true rfl)) dX2_take_62 ⟨Nat.le_of_ble_eq_true rfl, Nat.le_of_ble_eq_true rfl⟩) hP hD hS hA [6, 7] [0, 1, 2, 3, 4, 5] rfl rfl (by decide +kernel) (by decide +kernel) (fun r4 u3 H locs er4 hP hD hS => ?_)
  replace hP : va_P D vwCl [(a2, .inl (y 0, 2001, .inl (upd nz 0 1))), (a1, .inr (7, [.ref a6, .ref a7, .ref a8, .ref a9, .int 0, .int 0, .ref a10, .ref a11, .ref a12, .ref a13])), (a7, .inl (y 0, 9, .inl nz)), (a5, .inl (y 1, 2001, .inr (.inl nzl))), (a8, .inl (y 0, 9, .inl nz)), (a4, .inl (y 1, 2001, .inr (.inl nzl))), (a0, .inr (2, [.ref a2, .ref a3, .ref a4, .ref a5])), (a3, .inl (y 1, 2001, .inr (.inl nzl)))] H := hP
  replace hD : va_D A [(a2, .inl (y 0, 2001, .inl (upd nz 0 1))), (a1, .inr (7, [.ref a6, .ref a7, .ref a8, .ref a9, .int 0, .int 0, .ref a10, .ref a11, .ref a12, .ref a13])), (a7, .inl (y 0, 9, .inl nz)), (a5, .inl (y 1, 2001, .inr (.inl nzl))), (a8, .inl (y 0, 9, .inl nz)), (a4, .inl (y 1, 2001, .inr (.inl nzl))), (a0, .inr (2, [.ref a2, .ref a3, .ref a4, .ref a5])), (a3, .inl (y 1, 2001, .inr (.inl nzl)))] := hD
  subst er4
  refine nb_iast (ws' := [(a2, .inl (y 0, 2001, .inl (upd nz 0 1))), (a1, .inr (7, [.ref a6, .ref a7, .ref a8, .ref a9, .int 0, .int 0, .ref a10, .ref a11, .ref a12, .ref a13])), (a7, .inl (y 0, 9, .inl nz)), (a5, .inl (y 1, 2001, .inr (.inl nzl))), (a8, .inl (y 0, 9, .inl nz)), (a4, .inl (y 1, 2001, .inr (.inl nzl))), (a0, .inr (2, [.ref a2, .ref a3, .ref a4, .ref a5])), (a3, .inl (y 1, 2001, .inr (.inl nzl)))]) hx hb hK hP hD hS 2 0 rfl rfl (n_in (by decide +kernel)) (by rw [nb_upI (f := nz) (i := Int32.toNatClampNeg 1) (x := 0) rfl]; rfl) dX2_take_65 (fun H locs hP hD hS => ?_)
  refine lv_aload_n hx hb dX2_take_66 rfl (lv_at hl 4 rfl) ?_
  refine va_get (D := D) (ci := 7) (v := .ref a8) (C := RX7) (T := TX7) (N := 10) hx hb hts iX2_take_X7 hown hK hP 1 rfl rfl 2 (by decide +kernel) w_3 (fun _ h9 => h9) rfl dX2_take_67 ?_
  refine lv_iload hx hb dX2_take_70 (lv_at hl 0 rfl) ?_
  refine lv_aload_n hx hb dX2_take_72 rfl (lv_at hl 2 rfl) ?_
  refine va_get (D := D) (ci := 2) (v := .ref a5) (C := RX2) (T := TX2) (N := 4) hx hb hts iX2_take_X2 hown hK hP 6 rfl rfl 3 (by decide +kernel) w_4 (fun _ h9 => h9) rfl dX2_take_73 ?_
  refine lv_iload_n hx hb dX2_take_76 rfl (lv_at hl 3 rfl) ?_
  refine va_lald hx hb hK hP 3 1 rfl rfl (n_in (by decide +kernel)) dX2_take_77 ?_
  refine nv_l (v := 0) rfl ?_
  refine lv_bipush (v := 7) hx hb dX2_take_78 (by decide +kernel) ?_
  refine lv_iload hx hb dX2_take_80 (lv_at hl 0 rfl) ?_
  refine lv_imul hx hb dX2_take_82 ?_
  refine nv_i (v := 7) (by decide +kernel) ?_
  refine lv_lshr hx hb dX2_take_83 rfl ?_
  refine nv_l (v := 0) (by decide +kernel) ?_
  refine lv_l2i (v := 0) hx hb dX2_take_84 (by decide +kernel) ?_
  refine lv_bipush (v := 127) hx hb dX2_take_85 (by decide +kernel) ?_
  refine lv_iand hx hb dX2_take_87 ?_
  refine nv_i (v := 0) (by decide +kernel) ?_
  refine nb_iast (ws' := [(a2, .inl (y 0, 2001, .inl (upd nz 0 1))), (a1, .inr (7, [.ref a6, .ref a7, .ref a8, .ref a9, .int 0, .int 0, .ref a10, .ref a11, .ref a12, .ref a13])), (a7, .inl (y 0, 9, .inl nz)), (a5, .inl (y 1, 2001, .inr (.inl nzl))), (a8, .inl (y 0, 9, .inl nz)), (a4, .inl (y 1, 2001, .inr (.inl nzl))), (a0, .inr (2, [.ref a2, .ref a3, .ref a4, .ref a5])), (a3, .inl (y 1, 2001, .inr (.inl nzl)))]) hx hb hK hP hD hS 4 0 rfl rfl (n_in (by decide +kernel)) (by rw [nb_upI (f := nz) (i := Int32.toNatClampNeg 1) (x := 0) rfl]; rfl) dX2_take_88 (fun H locs hP hD hS => ?_)
  refine lv_iinc (v := 2) (lv' := [(4, .int 2), (3, .int 1), (0, .ref a0), (1, .int 0), (2, .ref a1)]) hx hb dX2_take_89 hl (k := 0) rfl (by decide +kernel) (by decide +kernel) rfl (fun ls hl => ?_)
  refine lv_goto (tgt := 45) hx hb dX2_take_92 (by decide +kernel) ?_
  refine lv_iload hx hb dX2_take_45 (lv_at hl 0 rfl) ?_
  refine lv_bipush (v := 9) hx hb dX2_take_47 (by decide +kernel) ?_
  refine lv_icmp_ge (tgt := 95) hx hb dX2_take_49 (by decide +kernel) (fun c => absurd c (by decide +kernel)) (fun _ => ?_)
  refine lv_aload_n hx hb dX2_take_52 rfl (lv_at hl 4 rfl) ?_
  refine va_get (D := D) (ci := 7) (v := .ref a7) (C := RX7) (T := TX7) (N := 10) hx hb hts iX2_take_X7 hown hK hP 1 rfl rfl 1 (by decide +kernel) w_2 (fun _ h9 => h9) rfl dX2_take_53 ?_
  refine lv_iload hx hb dX2_take_56 (lv_at hl 0 rfl) ?_
  refine lv_aload_n hx hb dX2_take_58 rfl (lv_at hl 2 rfl) ?_
  refine lv_iload_n hx hb dX2_take_59 rfl (lv_at hl 3 rfl) ?_
  refine lv_iload hx hb dX2_take_60 (lv_at hl 0 rfl) ?_
  refine nj_i (ws := [(a2, .inl (y 0, 2001, .inl (upd nz 0 1))), (a1, .inr (7, [.ref a6, .ref a7, .ref a8, .ref a9, .int 0, .int 0, .ref a10, .ref a11, .ref a12, .ref a13])), (a7, .inl (y 0, 9, .inl nz)), (a5, .inl (y 1, 2001, .inr (.inl nzl))), (a8, .inl (y 0, 9, .inl nz)), (a4, .inl (y 1, 2001, .inr (.inl nzl))), (a0, .inr (2, [.ref a2, .ref a3, .ref a4, .ref a5])), (a3, .inl (y 1, 2001, .inr (.inl nzl)))]) (wc := [(a0, .inr (2, [.ref a2, .ref a3, .ref a4, .ref a5])), (a3, .inl (y 1, 2001, .inr (.inl nzl)))]) (wr := [(a2, .inl (y 0, 2001, .inl (upd nz 0 1))), (a1, .inr (7, [.ref a6, .ref a7, .ref a8, .ref a9, .int 0, .int 0, .ref a10, .ref a11, .ref a12, .ref a13])), (a7, .inl (y 0, 9, .inl nz)), (a5, .inl (y 1, 2001, .inr (.inl nzl))), (a8, .inl (y 0, 9, .inl nz)), (a4, .inl (y 1, 2001, .inr (.inl nzl)))]) (nr_V (As := [.int 0, .int 2]) (rest := [.int 2, .ref a7]) ⟨hx, hb, hml, hown, hts⟩ (cX2_purseOf_3 l D y a0 a2 a3 a4 a5 H.size) (cwV 2 hts gX2_take_X2_purseOf rfl rfl rfl (by decide +kernel) ⟨Nat.le_of_ble_eq_true rfl, Nat.le_of_ble_eq_true rfl⟩) hK hP hD hE [6, 7] rfl (by decide +kernel) 0 2 rfl rfl rfl rfl rfl hl.1 rfl (lv_room (Nat.le_of_ble_eq_true rfl)) dX2_take_62 ⟨Nat.le_of_ble_eq_true rfl, Nat.le_of_ble_eq_true rfl⟩) hP hD hS hA [6, 7] [0, 1, 2, 3, 4, 5] rfl rfl (by decide +kernel) (by decide +kernel) (fun r6 u5 H locs er6 hP hD hS => ?_)
  replace hP : va_P D vwCl [(a2, .inl (y 0, 2001, .inl (upd nz 0 1))), (a1, .inr (7, [.ref a6, .ref a7, .ref a8, .ref a9, .int 0, .int 0, .ref a10, .ref a11, .ref a12, .ref a13])), (a7, .inl (y 0, 9, .inl nz)), (a5, .inl (y 1, 2001, .inr (.inl nzl))), (a8, .inl (y 0, 9, .inl nz)), (a4, .inl (y 1, 2001, .inr (.inl nzl))), (a0, .inr (2, [.ref a2, .ref a3, .ref a4, .ref a5])), (a3, .inl (y 1, 2001, .inr (.inl nzl)))] H := hP
  replace hD : va_D A [(a2, .inl (y 0, 2001, .inl (upd nz 0 1))), (a1, .inr (7, [.ref a6, .ref a7, .ref a8, .ref a9, .int 0, .int 0, .ref a10, .ref a11, .ref a12, .ref a13])), (a7, .inl (y 0, 9, .inl nz)), (a5, .inl (y 1, 2001, .inr (.inl nzl))), (a8, .inl (y 0, 9, .inl nz)), (a4, .inl (y 1, 2001, .inr (.inl nzl))), (a0, .inr (2, [.ref a2, .ref a3, .ref a4, .ref a5])), (a3, .inl (y 1, 2001, .inr (.inl nzl)))] := hD
  subst er6
  refine nb_iast (ws' := [(a2, .inl (y 0, 2001, .inl (upd nz 0 1))), (a1, .inr (7, [.ref a6, .ref a7, .ref a8, .ref a9, .int 0, .int 0, .ref a10, .ref a11, .ref a12, .ref a13])), (a7, .inl (y 0, 9, .inl nz)), (a5, .inl (y 1, 2001, .inr (.inl nzl))), (a8, .inl (y 0, 9, .inl nz)), (a4, .inl (y 1, 2001, .inr (.inl nzl))), (a0, .inr (2, [.ref a2, .ref a3, .ref a4, .ref a5])), (a3, .inl (y 1, 2001, .inr (.inl nzl)))]) hx hb hK hP hD hS 2 0 rfl rfl (n_in (by decide +kernel)) (by rw [nb_upI (f := nz) (i := Int32.toNatClampNeg 2) (x := 0) rfl]; rfl) dX2_take_65 (fun H locs hP hD hS => ?_)
  refine lv_aload_n hx hb dX2_take_66 rfl (lv_at hl 4 rfl) ?_
  refine va_get (D := D) (ci := 7) (v := .ref a8) (C := RX7) (T := TX7) (N := 10) hx hb hts iX2_take_X7 hown hK hP 1 rfl rfl 2 (by decide +kernel) w_3 (fun _ h9 => h9) rfl dX2_take_67 ?_
  refine lv_iload hx hb dX2_take_70 (lv_at hl 0 rfl) ?_
  refine lv_aload_n hx hb dX2_take_72 rfl (lv_at hl 2 rfl) ?_
  refine va_get (D := D) (ci := 2) (v := .ref a5) (C := RX2) (T := TX2) (N := 4) hx hb hts iX2_take_X2 hown hK hP 6 rfl rfl 3 (by decide +kernel) w_4 (fun _ h9 => h9) rfl dX2_take_73 ?_
  refine lv_iload_n hx hb dX2_take_76 rfl (lv_at hl 3 rfl) ?_
  refine va_lald hx hb hK hP 3 1 rfl rfl (n_in (by decide +kernel)) dX2_take_77 ?_
  refine nv_l (v := 0) rfl ?_
  refine lv_bipush (v := 7) hx hb dX2_take_78 (by decide +kernel) ?_
  refine lv_iload hx hb dX2_take_80 (lv_at hl 0 rfl) ?_
  refine lv_imul hx hb dX2_take_82 ?_
  refine nv_i (v := 14) (by decide +kernel) ?_
  refine lv_lshr hx hb dX2_take_83 rfl ?_
  refine nv_l (v := 0) (by decide +kernel) ?_
  refine lv_l2i (v := 0) hx hb dX2_take_84 (by decide +kernel) ?_
  refine lv_bipush (v := 127) hx hb dX2_take_85 (by decide +kernel) ?_
  refine lv_iand hx hb dX2_take_87 ?_
  refine nv_i (v := 0) (by decide +kernel) ?_
  refine nb_iast (ws' := [(a2, .inl (y 0, 2001, .inl (upd nz 0 1))), (a1, .inr (7, [.ref a6, .ref a7, .ref a8, .ref a9, .int 0, .int 0, .ref a10, .ref a11, .ref a12, .ref a13])), (a7, .inl (y 0, 9, .inl nz)), (a5, .inl (y 1, 2001, .inr (.inl nzl))), (a8, .inl (y 0, 9, .inl nz)), (a4, .inl (y 1, 2001, .inr (.inl nzl))), (a0, .inr (2, [.ref a2, .ref a3, .ref a4, .ref a5])), (a3, .inl (y 1, 2001, .inr (.inl nzl)))]) hx hb hK hP hD hS 4 0 rfl rfl (n_in (by decide +kernel)) (by rw [nb_upI (f := nz) (i := Int32.toNatClampNeg 2) (x := 0) rfl]; rfl) dX2_take_88 (fun H locs hP hD hS => ?_)
  refine lv_iinc (v := 3) (lv' := [(4, .int 3), (3, .int 1), (0, .ref a0), (1, .int 0), (2, .ref a1)]) hx hb dX2_take_89 hl (k := 0) rfl (by decide +kernel) (by decide +kernel) rfl (fun ls hl => ?_)
  refine lv_goto (tgt := 45) hx hb dX2_take_92 (by decide +kernel) ?_
  refine lv_iload hx hb dX2_take_45 (lv_at hl 0 rfl) ?_
  refine lv_bipush (v := 9) hx hb dX2_take_47 (by decide +kernel) ?_
  refine lv_icmp_ge (tgt := 95) hx hb dX2_take_49 (by decide +kernel) (fun c => absurd c (by decide +kernel)) (fun _ => ?_)
  refine lv_aload_n hx hb dX2_take_52 rfl (lv_at hl 4 rfl) ?_
  refine va_get (D := D) (ci := 7) (v := .ref a7) (C := RX7) (T := TX7) (N := 10) hx hb hts iX2_take_X7 hown hK hP 1 rfl rfl 1 (by decide +kernel) w_2 (fun _ h9 => h9) rfl dX2_take_53 ?_
  refine lv_iload hx hb dX2_take_56 (lv_at hl 0 rfl) ?_
  refine lv_aload_n hx hb dX2_take_58 rfl (lv_at hl 2 rfl) ?_
  refine lv_iload_n hx hb dX2_take_59 rfl (lv_at hl 3 rfl) ?_
  refine lv_iload hx hb dX2_take_60 (lv_at hl 0 rfl) ?_
  refine nj_i (ws := [(a2, .inl (y 0, 2001, .inl (upd nz 0 1))), (a1, .inr (7, [.ref a6, .ref a7, .ref a8, .ref a9, .int 0, .int 0, .ref a10, .ref a11, .ref a12, .ref a13])), (a7, .inl (y 0, 9, .inl nz)), (a5, .inl (y 1, 2001, .inr (.inl nzl))), (a8, .inl (y 0, 9, .inl nz)), (a4, .inl (y 1, 2001, .inr (.inl nzl))), (a0, .inr (2, [.ref a2, .ref a3, .ref a4, .ref a5])), (a3, .inl (y 1, 2001, .inr (.inl nzl)))]) (wc := [(a0, .inr (2, [.ref a2, .ref a3, .ref a4, .ref a5])), (a3, .inl (y 1, 2001, .inr (.inl nzl)))]) (wr := [(a2, .inl (y 0, 2001, .inl (upd nz 0 1))), (a1, .inr (7, [.ref a6, .ref a7, .ref a8, .ref a9, .int 0, .int 0, .ref a10, .ref a11, .ref a12, .ref a13])), (a7, .inl (y 0, 9, .inl nz)), (a5, .inl (y 1, 2001, .inr (.inl nzl))), (a8, .inl (y 0, 9, .inl nz)), (a4, .inl (y 1, 2001, .inr (.inl nzl)))]) (nr_V (As := [.int 0, .int 3]) (rest := [.int 3, .ref a7]) ⟨hx, hb, hml, hown, hts⟩ (cX2_purseOf_4 l D y a0 a2 a3 a4 a5 H.size) (cwV 2 hts gX2_take_X2_purseOf rfl rfl rfl (by decide +kernel) ⟨Nat.le_of_ble_eq_true rfl, Nat.le_of_ble_eq_true rfl⟩) hK hP hD hE [6, 7] rfl (by decide +kernel) 0 2 rfl rfl rfl rfl rfl hl.1 rfl (lv_room (Nat.le_of_ble_eq_true rfl)) dX2_take_62 ⟨Nat.le_of_ble_eq_true rfl, Nat.le_of_ble_eq_true rfl⟩) hP hD hS hA [6, 7] [0, 1, 2, 3, 4, 5] rfl rfl (by decide +kernel) (by decide +kernel) (fun r8 u7 H locs er8 hP hD hS => ?_)
  replace hP : va_P D vwCl [(a2, .inl (y 0, 2001, .inl (upd nz 0 1))), (a1, .inr (7, [.ref a6, .ref a7, .ref a8, .ref a9, .int 0, .int 0, .ref a10, .ref a11, .ref a12, .ref a13])), (a7, .inl (y 0, 9, .inl nz)), (a5, .inl (y 1, 2001, .inr (.inl nzl))), (a8, .inl (y 0, 9, .inl nz)), (a4, .inl (y 1, 2001, .inr (.inl nzl))), (a0, .inr (2, [.ref a2, .ref a3, .ref a4, .ref a5])), (a3, .inl (y 1, 2001, .inr (.inl nzl)))] H := hP
  replace hD : va_D A [(a2, .inl (y 0, 2001, .inl (upd nz 0 1))), (a1, .inr (7, [.ref a6, .ref a7, .ref a8, .ref a9, .int 0, .int 0, .ref a10, .ref a11, .ref a12, .ref a13])), (a7, .inl (y 0, 9, .inl nz)), (a5, .inl (y 1, 2001, .inr (.inl nzl))), (a8, .inl (y 0, 9, .inl nz)), (a4, .inl (y 1, 2001, .inr (.inl nzl))), (a0, .inr (2, [.ref a2, .ref a3, .ref a4, .ref a5])), (a3, .inl (y 1, 2001, .inr (.inl nzl)))] := hD
  subst er8
  refine nb_iast (ws' := [(a2, .inl (y 0, 2001, .inl (upd nz 0 1))), (a1, .inr (7, [.ref a6, .ref a7, .ref a8, .ref a9, .int 0, .int 0, .ref a10, .ref a11, .ref a12, .ref a13])), (a7, .inl (y 0, 9, .inl nz)), (a5, .inl (y 1, 2001, .inr (.inl nzl))), (a8, .inl (y 0, 9, .inl nz)), (a4, .inl (y 1, 2001, .inr (.inl nzl))), (a0, .inr (2, [.ref a2, .ref a3, .ref a4, .ref a5])), (a3, .inl (y 1, 2001, .inr (.inl nzl)))]) hx hb hK hP hD hS 2 0 rfl rfl (n_in (by decide +kernel)) (by rw [nb_upI (f := nz) (i := Int32.toNatClampNeg 3) (x := 0) rfl]; rfl) dX2_take_65 (fun H locs hP hD hS => ?_)
  refine lv_aload_n hx hb dX2_take_66 rfl (lv_at hl 4 rfl) ?_
  refine va_get (D := D) (ci := 7) (v := .ref a8) (C := RX7) (T := TX7) (N := 10) hx hb hts iX2_take_X7 hown hK hP 1 rfl rfl 2 (by decide +kernel) w_3 (fun _ h9 => h9) rfl dX2_take_67 ?_
  refine lv_iload hx hb dX2_take_70 (lv_at hl 0 rfl) ?_
  refine lv_aload_n hx hb dX2_take_72 rfl (lv_at hl 2 rfl) ?_
  refine va_get (D := D) (ci := 2) (v := .ref a5) (C := RX2) (T := TX2) (N := 4) hx hb hts iX2_take_X2 hown hK hP 6 rfl rfl 3 (by decide +kernel) w_4 (fun _ h9 => h9) rfl dX2_take_73 ?_
  refine lv_iload_n hx hb dX2_take_76 rfl (lv_at hl 3 rfl) ?_
  refine va_lald hx hb hK hP 3 1 rfl rfl (n_in (by decide +kernel)) dX2_take_77 ?_
  refine nv_l (v := 0) rfl ?_
  refine lv_bipush (v := 7) hx hb dX2_take_78 (by decide +kernel) ?_
  refine lv_iload hx hb dX2_take_80 (lv_at hl 0 rfl) ?_
  refine lv_imul hx hb dX2_take_82 ?_
  refine nv_i (v := 21) (by decide +kernel) ?_
  refine lv_lshr hx hb dX2_take_83 rfl ?_
  refine nv_l (v := 0) (by decide +kernel) ?_
  refine lv_l2i (v := 0) hx hb dX2_take_84 (by decide +kernel) ?_
  refine lv_bipush (v := 127) hx hb dX2_take_85 (by decide +kernel) ?_
  refine lv_iand hx hb dX2_take_87 ?_
  refine nv_i (v := 0) (by decide +kernel) ?_
  refine nb_iast (ws' := [(a2, .inl (y 0, 2001, .inl (upd nz 0 1))), (a1, .inr (7, [.ref a6, .ref a7, .ref a8, .ref a9, .int 0, .int 0, .ref a10, .ref a11, .ref a12, .ref a13])), (a7, .inl (y 0, 9, .inl nz)), (a5, .inl (y 1, 2001, .inr (.inl nzl))), (a8, .inl (y 0, 9, .inl nz)), (a4, .inl (y 1, 2001, .inr (.inl nzl))), (a0, .inr (2, [.ref a2, .ref a3, .ref a4, .ref a5])), (a3, .inl (y 1, 2001, .inr (.inl nzl)))]) hx hb hK hP hD hS 4 0 rfl rfl (n_in (by decide +kernel)) (by rw [nb_upI (f := nz) (i := Int32.toNatClampNeg 3) (x := 0) rfl]; rfl) dX2_take_88 (fun H locs hP hD hS => ?_)
  refine lv_iinc (v := 4) (lv' := [(4, .int 4), (3, .int 1), (0, .ref a0), (1, .int 0), (2, .ref a1)]) hx hb dX2_take_89 hl (k := 0) rfl (by decide +kernel) (by decide +kernel) rfl (fun ls hl => ?_)
  refine lv_goto (tgt := 45) hx hb dX2_take_92 (by decide +kernel) ?_
  refine lv_iload hx hb dX2_take_45 (lv_at hl 0 rfl) ?_
  refine lv_bipush (v := 9) hx hb dX2_take_47 (by decide +kernel) ?_
  refine lv_icmp_ge (tgt := 95) hx hb dX2_take_49 (by decide +kernel) (fun c => absurd c (by decide +kernel)) (fun _ => ?_)
  refine lv_aload_n hx hb dX2_take_52 rfl (lv_at hl 4 rfl) ?_
  refine va_get (D := D) (ci := 7) (v := .ref a7) (C := RX7) (T := TX7) (N := 10) hx hb hts iX2_take_X7 hown hK hP 1 rfl rfl 1 (by decide +kernel) w_2 (fun _ h9 => h9) rfl dX2_take_53 ?_
  refine lv_iload hx hb dX2_take_56 (lv_at hl 0 rfl) ?_
  refine lv_aload_n hx hb dX2_take_58 rfl (lv_at hl 2 rfl) ?_
  refine lv_iload_n hx hb dX2_take_59 rfl (lv_at hl 3 rfl) ?_
  refine lv_iload hx hb dX2_take_60 (lv_at hl 0 rfl) ?_
  refine nj_i (ws := [(a2, .inl (y 0, 2001, .inl (upd nz 0 1))), (a1, .inr (7, [.ref a6, .ref a7, .ref a8, .ref a9, .int 0, .int 0, .ref a10, .ref a11, .ref a12, .ref a13])), (a7, .inl (y 0, 9, .inl nz)), (a5, .inl (y 1, 2001, .inr (.inl nzl))), (a8, .inl (y 0, 9, .inl nz)), (a4, .inl (y 1, 2001, .inr (.inl nzl))), (a0, .inr (2, [.ref a2, .ref a3, .ref a4, .ref a5])), (a3, .inl (y 1, 2001, .inr (.inl nzl)))]) (wc := [(a0, .inr (2, [.ref a2, .ref a3, .ref a4, .ref a5])), (a3, .inl (y 1, 2001, .inr (.inl nzl)))]) (wr := [(a2, .inl (y 0, 2001, .inl (upd nz 0 1))), (a1, .inr (7, [.ref a6, .ref a7, .ref a8, .ref a9, .int 0, .int 0, .ref a10, .ref a11, .ref a12, .ref a13])), (a7, .inl (y 0, 9, .inl nz)), (a5, .inl (y 1, 2001, .inr (.inl nzl))), (a8, .inl (y 0, 9, .inl nz)), (a4, .inl (y 1, 2001, .inr (.inl nzl)))]) (nr_V (As := [.int 0, .int 4]) (rest := [.int 4, .ref a7]) ⟨hx, hb, hml, hown, hts⟩ (cX2_purseOf_5 l D y a0 a2 a3 a4 a5 H.size) (cwV 2 hts gX2_take_X2_purseOf rfl rfl rfl (by decide +kernel) ⟨Nat.le_of_ble_eq_true rfl, Nat.le_of_ble_eq_true rfl⟩) hK hP hD hE [6, 7] rfl (by decide +kernel) 0 2 rfl rfl rfl rfl rfl hl.1 rfl (lv_room (Nat.le_of_ble_eq_true rfl)) dX2_take_62 ⟨Nat.le_of_ble_eq_true rfl, Nat.le_of_ble_eq_true rfl⟩) hP hD hS hA [6, 7] [0, 1, 2, 3, 4, 5] rfl rfl (by decide +kernel) (by decide +kernel) (fun r10 u9 H locs er10 hP hD hS => ?_)
  replace hP : va_P D vwCl [(a2, .inl (y 0, 2001, .inl (upd nz 0 1))), (a1, .inr (7, [.ref a6, .ref a7, .ref a8, .ref a9, .int 0, .int 0, .ref a10, .ref a11, .ref a12, .ref a13])), (a7, .inl (y 0, 9, .inl nz)), (a5, .inl (y 1, 2001, .inr (.inl nzl))), (a8, .inl (y 0, 9, .inl nz)), (a4, .inl (y 1, 2001, .inr (.inl nzl))), (a0, .inr (2, [.ref a2, .ref a3, .ref a4, .ref a5])), (a3, .inl (y 1, 2001, .inr (.inl nzl)))] H := hP
  replace hD : va_D A [(a2, .inl (y 0, 2001, .inl (upd nz 0 1))), (a1, .inr (7, [.ref a6, .ref a7, .ref a8, .ref a9, .int 0, .int 0, .ref a10, .ref a11, .ref a12, .ref a13])), (a7, .inl (y 0, 9, .inl nz)), (a5, .inl (y 1, 2001, .inr (.inl nzl))), (a8, .inl (y 0, 9, .inl nz)), (a4, .inl (y 1, 2001, .inr (.inl nzl))), (a0, .inr (2, [.ref a2, .ref a3, .ref a4, .ref a5])), (a3, .inl (y 1, 2001, .inr (.inl nzl)))] := hD
  subst er10
  refine nb_iast (ws' := [(a2, .inl (y 0, 2001, .inl (upd nz 0 1))), (a1, .inr (7, [.ref a6, .ref a7, .ref a8, .ref a9, .int 0, .int 0, .ref a10, .ref a11, .ref a12, .ref a13])), (a7, .inl (y 0, 9, .inl nz)), (a5, .inl (y 1, 2001, .inr (.inl nzl))), (a8, .inl (y 0, 9, .inl nz)), (a4, .inl (y 1, 2001, .inr (.inl nzl))), (a0, .inr (2, [.ref a2, .ref a3, .ref a4, .ref a5])), (a3, .inl (y 1, 2001, .inr (.inl nzl)))]) hx hb hK hP hD hS 2 0 rfl rfl (n_in (by decide +kernel)) (by rw [nb_upI (f := nz) (i := Int32.toNatClampNeg 4) (x := 0) rfl]; rfl) dX2_take_65 (fun H locs hP hD hS => ?_)
  refine lv_aload_n hx hb dX2_take_66 rfl (lv_at hl 4 rfl) ?_
  refine va_get (D := D) (ci := 7) (v := .ref a8) (C := RX7) (T := TX7) (N := 10) hx hb hts iX2_take_X7 hown hK hP 1 rfl rfl 2 (by decide +kernel) w_3 (fun _ h9 => h9) rfl dX2_take_67 ?_
  refine lv_iload hx hb dX2_take_70 (lv_at hl 0 rfl) ?_
  refine lv_aload_n hx hb dX2_take_72 rfl (lv_at hl 2 rfl) ?_
  refine va_get (D := D) (ci := 2) (v := .ref a5) (C := RX2) (T := TX2) (N := 4) hx hb hts iX2_take_X2 hown hK hP 6 rfl rfl 3 (by decide +kernel) w_4 (fun _ h9 => h9) rfl dX2_take_73 ?_
  refine lv_iload_n hx hb dX2_take_76 rfl (lv_at hl 3 rfl) ?_
  refine va_lald hx hb hK hP 3 1 rfl rfl (n_in (by decide +kernel)) dX2_take_77 ?_
  refine nv_l (v := 0) rfl ?_
  refine lv_bipush (v := 7) hx hb dX2_take_78 (by decide +kernel) ?_
  refine lv_iload hx hb dX2_take_80 (lv_at hl 0 rfl) ?_
  refine lv_imul hx hb dX2_take_82 ?_
  refine nv_i (v := 28) (by decide +kernel) ?_
  refine lv_lshr hx hb dX2_take_83 rfl ?_
  refine nv_l (v := 0) (by decide +kernel) ?_
  refine lv_l2i (v := 0) hx hb dX2_take_84 (by decide +kernel) ?_
  refine lv_bipush (v := 127) hx hb dX2_take_85 (by decide +kernel) ?_
  refine lv_iand hx hb dX2_take_87 ?_
  refine nv_i (v := 0) (by decide +kernel) ?_
  refine nb_iast (ws' := [(a2, .inl (y 0, 2001, .inl (upd nz 0 1))), (a1, .inr (7, [.ref a6, .ref a7, .ref a8, .ref a9, .int 0, .int 0, .ref a10, .ref a11, .ref a12, .ref a13])), (a7, .inl (y 0, 9, .inl nz)), (a5, .inl (y 1, 2001, .inr (.inl nzl))), (a8, .inl (y 0, 9, .inl nz)), (a4, .inl (y 1, 2001, .inr (.inl nzl))), (a0, .inr (2, [.ref a2, .ref a3, .ref a4, .ref a5])), (a3, .inl (y 1, 2001, .inr (.inl nzl)))]) hx hb hK hP hD hS 4 0 rfl rfl (n_in (by decide +kernel)) (by rw [nb_upI (f := nz) (i := Int32.toNatClampNeg 4) (x := 0) rfl]; rfl) dX2_take_88 (fun H locs hP hD hS => ?_)
  refine lv_iinc (v := 5) (lv' := [(4, .int 5), (3, .int 1), (0, .ref a0), (1, .int 0), (2, .ref a1)]) hx hb dX2_take_89 hl (k := 0) rfl (by decide +kernel) (by decide +kernel) rfl (fun ls hl => ?_)
  refine lv_goto (tgt := 45) hx hb dX2_take_92 (by decide +kernel) ?_
  refine lv_iload hx hb dX2_take_45 (lv_at hl 0 rfl) ?_
  refine lv_bipush (v := 9) hx hb dX2_take_47 (by decide +kernel) ?_
  refine lv_icmp_ge (tgt := 95) hx hb dX2_take_49 (by decide +kernel) (fun c => absurd c (by decide +kernel)) (fun _ => ?_)
  refine lv_aload_n hx hb dX2_take_52 rfl (lv_at hl 4 rfl) ?_
  refine va_get (D := D) (ci := 7) (v := .ref a7) (C := RX7) (T := TX7) (N := 10) hx hb hts iX2_take_X7 hown hK hP 1 rfl rfl 1 (by decide +kernel) w_2 (fun _ h9 => h9) rfl dX2_take_53 ?_
  refine lv_iload hx hb dX2_take_56 (lv_at hl 0 rfl) ?_
  refine lv_aload_n hx hb dX2_take_58 rfl (lv_at hl 2 rfl) ?_
  refine lv_iload_n hx hb dX2_take_59 rfl (lv_at hl 3 rfl) ?_
  refine lv_iload hx hb dX2_take_60 (lv_at hl 0 rfl) ?_
  refine nj_i (ws := [(a2, .inl (y 0, 2001, .inl (upd nz 0 1))), (a1, .inr (7, [.ref a6, .ref a7, .ref a8, .ref a9, .int 0, .int 0, .ref a10, .ref a11, .ref a12, .ref a13])), (a7, .inl (y 0, 9, .inl nz)), (a5, .inl (y 1, 2001, .inr (.inl nzl))), (a8, .inl (y 0, 9, .inl nz)), (a4, .inl (y 1, 2001, .inr (.inl nzl))), (a0, .inr (2, [.ref a2, .ref a3, .ref a4, .ref a5])), (a3, .inl (y 1, 2001, .inr (.inl nzl)))]) (wc := [(a0, .inr (2, [.ref a2, .ref a3, .ref a4, .ref a5])), (a3, .inl (y 1, 2001, .inr (.inl nzl)))]) (wr := [(a2, .inl (y 0, 2001, .inl (upd nz 0 1))), (a1, .inr (7, [.ref a6, .ref a7, .ref a8, .ref a9, .int 0, .int 0, .ref a10, .ref a11, .ref a12, .ref a13])), (a7, .inl (y 0, 9, .inl nz)), (a5, .inl (y 1, 2001, .inr (.inl nzl))), (a8, .inl (y 0, 9, .inl nz)), (a4, .inl (y 1, 2001, .inr (.inl nzl)))]) (nr_V (As := [.int 0, .int 5]) (rest := [.int 5, .ref a7]) ⟨hx, hb, hml, hown, hts⟩ (cX2_purseOf_6 l D y a0 a2 a3 a4 a5 H.size) (cwV 2 hts gX2_take_X2_purseOf rfl rfl rfl (by decide +kernel) ⟨Nat.le_of_ble_eq_true rfl, Nat.le_of_ble_eq_true rfl⟩) hK hP hD hE [6, 7] rfl (by decide +kernel) 0 2 rfl rfl rfl rfl rfl hl.1 rfl (lv_room (Nat.le_of_ble_eq_true rfl)) dX2_take_62 ⟨Nat.le_of_ble_eq_true rfl, Nat.le_of_ble_eq_true rfl⟩) hP hD hS hA [6, 7] [0, 1, 2, 3, 4, 5] rfl rfl (by decide +kernel) (by decide +kernel) (fun r12 u11 H locs er12 hP hD hS => ?_)
  replace hP : va_P D vwCl [(a2, .inl (y 0, 2001, .inl (upd nz 0 1))), (a1, .inr (7, [.ref a6, .ref a7, .ref a8, .ref a9, .int 0, .int 0, .ref a10, .ref a11, .ref a12, .ref a13])), (a7, .inl (y 0, 9, .inl nz)), (a5, .inl (y 1, 2001, .inr (.inl nzl))), (a8, .inl (y 0, 9, .inl nz)), (a4, .inl (y 1, 2001, .inr (.inl nzl))), (a0, .inr (2, [.ref a2, .ref a3, .ref a4, .ref a5])), (a3, .inl (y 1, 2001, .inr (.inl nzl)))] H := hP
  replace hD : va_D A [(a2, .inl (y 0, 2001, .inl (upd nz 0 1))), (a1, .inr (7, [.ref a6, .ref a7, .ref a8, .ref a9, .int 0, .int 0, .ref a10, .ref a11, .ref a12, .ref a13])), (a7, .inl (y 0, 9, .inl nz)), (a5, .inl (y 1, 2001, .inr (.inl nzl))), (a8, .inl (y 0, 9, .inl nz)), (a4, .inl (y 1, 2001, .inr (.inl nzl))), (a0, .inr (2, [.ref a2, .ref a3, .ref a4, .ref a5])), (a3, .inl (y 1, 2001, .inr (.inl nzl)))] := hD
  subst er12
  refine nb_iast (ws' := [(a2, .inl (y 0, 2001, .inl (upd nz 0 1))), (a1, .inr (7, [.ref a6, .ref a7, .ref a8, .ref a9, .int 0, .int 0, .ref a10, .ref a11, .ref a12, .ref a13])), (a7, .inl (y 0, 9, .inl nz)), (a5, .inl (y 1, 2001, .inr (.inl nzl))), (a8, .inl (y 0, 9, .inl nz)), (a4, .inl (y 1, 2001, .inr (.inl nzl))), (a0, .inr (2, [.ref a2, .ref a3, .ref a4, .ref a5])), (a3, .inl (y 1, 2001, .inr (.inl nzl)))]) hx hb hK hP hD hS 2 0 rfl rfl (n_in (by decide +kernel)) (by rw [nb_upI (f := nz) (i := Int32.toNatClampNeg 5) (x := 0) rfl]; rfl) dX2_take_65 (fun H locs hP hD hS => ?_)
  refine lv_aload_n hx hb dX2_take_66 rfl (lv_at hl 4 rfl) ?_
  refine va_get (D := D) (ci := 7) (v := .ref a8) (C := RX7) (T := TX7) (N := 10) hx hb hts iX2_take_X7 hown hK hP 1 rfl rfl 2 (by decide +kernel) w_3 (fun _ h9 => h9) rfl dX2_take_67 ?_
  refine lv_iload hx hb dX2_take_70 (lv_at hl 0 rfl) ?_
  refine lv_aload_n hx hb dX2_take_72 rfl (lv_at hl 2 rfl) ?_
  refine va_get (D := D) (ci := 2) (v := .ref a5) (C := RX2) (T := TX2) (N := 4) hx hb hts iX2_take_X2 hown hK hP 6 rfl rfl 3 (by decide +kernel) w_4 (fun _ h9 => h9) rfl dX2_take_73 ?_
  refine lv_iload_n hx hb dX2_take_76 rfl (lv_at hl 3 rfl) ?_
  refine va_lald hx hb hK hP 3 1 rfl rfl (n_in (by decide +kernel)) dX2_take_77 ?_
  refine nv_l (v := 0) rfl ?_
  refine lv_bipush (v := 7) hx hb dX2_take_78 (by decide +kernel) ?_
  refine lv_iload hx hb dX2_take_80 (lv_at hl 0 rfl) ?_
  refine lv_imul hx hb dX2_take_82 ?_
  refine nv_i (v := 35) (by decide +kernel) ?_
  refine lv_lshr hx hb dX2_take_83 rfl ?_
  refine nv_l (v := 0) (by decide +kernel) ?_
  refine lv_l2i (v := 0) hx hb dX2_take_84 (by decide +kernel) ?_
  refine lv_bipush (v := 127) hx hb dX2_take_85 (by decide +kernel) ?_
  refine lv_iand hx hb dX2_take_87 ?_
  refine nv_i (v := 0) (by decide +kernel) ?_
  refine nb_iast (ws' := [(a2, .inl (y 0, 2001, .inl (upd nz 0 1))), (a1, .inr (7, [.ref a6, .ref a7, .ref a8, .ref a9, .int 0, .int 0, .ref a10, .ref a11, .ref a12, .ref a13])), (a7, .inl (y 0, 9, .inl nz)), (a5, .inl (y 1, 2001, .inr (.inl nzl))), (a8, .inl (y 0, 9, .inl nz)), (a4, .inl (y 1, 2001, .inr (.inl nzl))), (a0, .inr (2, [.ref a2, .ref a3, .ref a4, .ref a5])), (a3, .inl (y 1, 2001, .inr (.inl nzl)))]) hx hb hK hP hD hS 4 0 rfl rfl (n_in (by decide +kernel)) (by rw [nb_upI (f := nz) (i := Int32.toNatClampNeg 5) (x := 0) rfl]; rfl) dX2_take_88 (fun H locs hP hD hS => ?_)
  refine lv_iinc (v := 6) (lv' := [(4, .int 6), (3, .int 1), (0, .ref a0), (1, .int 0), (2, .ref a1)]) hx hb dX2_take_89 hl (k := 0) rfl (by decide +kernel) (by decide +kernel) rfl (fun ls hl => ?_)
  refine lv_goto (tgt := 45) hx hb dX2_take_92 (by decide +kernel) ?_
  refine lv_iload hx hb dX2_take_45 (lv_at hl 0 rfl) ?_
  refine lv_bipush (v := 9) hx hb dX2_take_47 (by decide +kernel) ?_
  refine lv_icmp_ge (tgt := 95) hx hb dX2_take_49 (by decide +kernel) (fun c => absurd c (by decide +kernel)) (fun _ => ?_)
  refine lv_aload_n hx hb dX2_take_52 rfl (lv_at hl 4 rfl) ?_
  refine va_get (D := D) (ci := 7) (v := .ref a7) (C := RX7) (T := TX7) (N := 10) hx hb hts iX2_take_X7 hown hK hP 1 rfl rfl 1 (by decide +kernel) w_2 (fun _ h9 => h9) rfl dX2_take_53 ?_
  refine lv_iload hx hb dX2_take_56 (lv_at hl 0 rfl) ?_
  refine lv_aload_n hx hb dX2_take_58 rfl (lv_at hl 2 rfl) ?_
  refine lv_iload_n hx hb dX2_take_59 rfl (lv_at hl 3 rfl) ?_
  refine lv_iload hx hb dX2_take_60 (lv_at hl 0 rfl) ?_
  refine nj_i (ws := [(a2, .inl (y 0, 2001, .inl (upd nz 0 1))), (a1, .inr (7, [.ref a6, .ref a7, .ref a8, .ref a9, .int 0, .int 0, .ref a10, .ref a11, .ref a12, .ref a13])), (a7, .inl (y 0, 9, .inl nz)), (a5, .inl (y 1, 2001, .inr (.inl nzl))), (a8, .inl (y 0, 9, .inl nz)), (a4, .inl (y 1, 2001, .inr (.inl nzl))), (a0, .inr (2, [.ref a2, .ref a3, .ref a4, .ref a5])), (a3, .inl (y 1, 2001, .inr (.inl nzl)))]) (wc := [(a0, .inr (2, [.ref a2, .ref a3, .ref a4, .ref a5])), (a4, .inl (y 1, 2001, .inr (.inl nzl)))]) (wr := [(a2, .inl (y 0, 2001, .inl (upd nz 0 1))), (a1, .inr (7, [.ref a6, .ref a7, .ref a8, .ref a9, .int 0, .int 0, .ref a10, .ref a11, .ref a12, .ref a13])), (a7, .inl (y 0, 9, .inl nz)), (a5, .inl (y 1, 2001, .inr (.inl nzl))), (a8, .inl (y 0, 9, .inl nz)), (a3, .inl (y 1, 2001, .inr (.inl nzl)))]) (nr_V (As := [.int 0, .int 6]) (rest := [.int 6, .ref a7]) ⟨hx, hb, hml, hown, hts⟩ (cX2_purseOf_7 l D y a0 a2 a3 a4 a5 H.size) (cwV 2 hts gX2_take_X2_purseOf rfl rfl rfl (by decide +kernel) ⟨Nat.le_of_ble_eq_true rfl, Nat.le_of_ble_eq_true rfl⟩) hK hP hD hE [6, 5] rfl (by decide +kernel) 0 2 rfl rfl rfl rfl rfl hl.1 rfl (lv_room (Nat.le_of_ble_eq_true rfl)) dX2_take_62 ⟨Nat.le_of_ble_eq_true rfl, Nat.le_of_ble_eq_true rfl⟩) hP hD hS hA [6, 5] [0, 1, 2, 3, 4, 7] rfl rfl (by decide +kernel) (by decide +kernel) (fun r14 u13 H locs er14 hP hD hS => ?_)
  replace hP : va_P D vwCl [(a2, .inl (y 0, 2001, .inl (upd nz 0 1))), (a1, .inr (7, [.ref a6, .ref a7, .ref a8, .ref a9, .int 0, .int 0, .ref a10, .ref a11, .ref a12, .ref a13])), (a7, .inl (y 0, 9, .inl nz)), (a5, .inl (y 1, 2001, .inr (.inl nzl))), (a8, .inl (y 0, 9, .inl nz)), (a3, .inl (y 1, 2001, .inr (.inl nzl))), (a0, .inr (2, [.ref a2, .ref a3, .ref a4, .ref a5])), (a4, .inl (y 1, 2001, .inr (.inl nzl)))] H := hP
  replace hD : va_D A [(a2, .inl (y 0, 2001, .inl (upd nz 0 1))), (a1, .inr (7, [.ref a6, .ref a7, .ref a8, .ref a9, .int 0, .int 0, .ref a10, .ref a11, .ref a12, .ref a13])), (a7, .inl (y 0, 9, .inl nz)), (a5, .inl (y 1, 2001, .inr (.inl nzl))), (a8, .inl (y 0, 9, .inl nz)), (a3, .inl (y 1, 2001, .inr (.inl nzl))), (a0, .inr (2, [.ref a2, .ref a3, .ref a4, .ref a5])), (a4, .inl (y 1, 2001, .inr (.inl nzl)))] := hD
  subst er14
  refine nb_iast (ws' := [(a2, .inl (y 0, 2001, .inl (upd nz 0 1))), (a1, .inr (7, [.ref a6, .ref a7, .ref a8, .ref a9, .int 0, .int 0, .ref a10, .ref a11, .ref a12, .ref a13])), (a7, .inl (y 0, 9, .inl nz)), (a5, .inl (y 1, 2001, .inr (.inl nzl))), (a8, .inl (y 0, 9, .inl nz)), (a3, .inl (y 1, 2001, .inr (.inl nzl))), (a0, .inr (2, [.ref a2, .ref a3, .ref a4, .ref a5])), (a4, .inl (y 1, 2001, .inr (.inl nzl)))]) hx hb hK hP hD hS 2 0 rfl rfl (n_in (by decide +kernel)) (by rw [nb_upI (f := nz) (i := Int32.toNatClampNeg 6) (x := 0) rfl]; rfl) dX2_take_65 (fun H locs hP hD hS => ?_)
  refine lv_aload_n hx hb dX2_take_66 rfl (lv_at hl 4 rfl) ?_
  refine va_get (D := D) (ci := 7) (v := .ref a8) (C := RX7) (T := TX7) (N := 10) hx hb hts iX2_take_X7 hown hK hP 1 rfl rfl 2 (by decide +kernel) w_3 (fun _ h9 => h9) rfl dX2_take_67 ?_
  refine lv_iload hx hb dX2_take_70 (lv_at hl 0 rfl) ?_
  refine lv_aload_n hx hb dX2_take_72 rfl (lv_at hl 2 rfl) ?_
  refine va_get (D := D) (ci := 2) (v := .ref a5) (C := RX2) (T := TX2) (N := 4) hx hb hts iX2_take_X2 hown hK hP 6 rfl rfl 3 (by decide +kernel) w_4 (fun _ h9 => h9) rfl dX2_take_73 ?_
  refine lv_iload_n hx hb dX2_take_76 rfl (lv_at hl 3 rfl) ?_
  refine va_lald hx hb hK hP 3 1 rfl rfl (n_in (by decide +kernel)) dX2_take_77 ?_
  refine nv_l (v := 0) rfl ?_
  refine lv_bipush (v := 7) hx hb dX2_take_78 (by decide +kernel) ?_
  refine lv_iload hx hb dX2_take_80 (lv_at hl 0 rfl) ?_
  refine lv_imul hx hb dX2_take_82 ?_
  refine nv_i (v := 42) (by decide +kernel) ?_
  refine lv_lshr hx hb dX2_take_83 rfl ?_
  refine nv_l (v := 0) (by decide +kernel) ?_
  refine lv_l2i (v := 0) hx hb dX2_take_84 (by decide +kernel) ?_
  refine lv_bipush (v := 127) hx hb dX2_take_85 (by decide +kernel) ?_
  refine lv_iand hx hb dX2_take_87 ?_
  refine nv_i (v := 0) (by decide +kernel) ?_
  refine nb_iast (ws' := [(a2, .inl (y 0, 2001, .inl (upd nz 0 1))), (a1, .inr (7, [.ref a6, .ref a7, .ref a8, .ref a9, .int 0, .int 0, .ref a10, .ref a11, .ref a12, .ref a13])), (a7, .inl (y 0, 9, .inl nz)), (a5, .inl (y 1, 2001, .inr (.inl nzl))), (a8, .inl (y 0, 9, .inl nz)), (a3, .inl (y 1, 2001, .inr (.inl nzl))), (a0, .inr (2, [.ref a2, .ref a3, .ref a4, .ref a5])), (a4, .inl (y 1, 2001, .inr (.inl nzl)))]) hx hb hK hP hD hS 4 0 rfl rfl (n_in (by decide +kernel)) (by rw [nb_upI (f := nz) (i := Int32.toNatClampNeg 6) (x := 0) rfl]; rfl) dX2_take_88 (fun H locs hP hD hS => ?_)
  refine lv_iinc (v := 7) (lv' := [(4, .int 7), (3, .int 1), (0, .ref a0), (1, .int 0), (2, .ref a1)]) hx hb dX2_take_89 hl (k := 0) rfl (by decide +kernel) (by decide +kernel) rfl (fun ls hl => ?_)
  refine lv_goto (tgt := 45) hx hb dX2_take_92 (by decide +kernel) ?_
  refine lv_iload hx hb dX2_take_45 (lv_at hl 0 rfl) ?_
  refine lv_bipush (v := 9) hx hb dX2_take_47 (by decide +kernel) ?_
  refine lv_icmp_ge (tgt := 95) hx hb dX2_take_49 (by decide +kernel) (fun c => absurd c (by decide +kernel)) (fun _ => ?_)
  refine lv_aload_n hx hb dX2_take_52 rfl (lv_at hl 4 rfl) ?_
  refine va_get (D := D) (ci := 7) (v := .ref a7) (C := RX7) (T := TX7) (N := 10) hx hb hts iX2_take_X7 hown hK hP 1 rfl rfl 1 (by decide +kernel) w_2 (fun _ h9 => h9) rfl dX2_take_53 ?_
  refine lv_iload hx hb dX2_take_56 (lv_at hl 0 rfl) ?_
  refine lv_aload_n hx hb dX2_take_58 rfl (lv_at hl 2 rfl) ?_
  refine lv_iload_n hx hb dX2_take_59 rfl (lv_at hl 3 rfl) ?_
  refine lv_iload hx hb dX2_take_60 (lv_at hl 0 rfl) ?_
  refine nj_i (ws := [(a2, .inl (y 0, 2001, .inl (upd nz 0 1))), (a1, .inr (7, [.ref a6, .ref a7, .ref a8, .ref a9, .int 0, .int 0, .ref a10, .ref a11, .ref a12, .ref a13])), (a7, .inl (y 0, 9, .inl nz)), (a5, .inl (y 1, 2001, .inr (.inl nzl))), (a8, .inl (y 0, 9, .inl nz)), (a3, .inl (y 1, 2001, .inr (.inl nzl))), (a0, .inr (2, [.ref a2, .ref a3, .ref a4, .ref a5])), (a4, .inl (y 1, 2001, .inr (.inl nzl)))]) (wc := [(a0, .inr (2, [.ref a2, .ref a3, .ref a4, .ref a5])), (a4, .inl (y 1, 2001, .inr (.inl nzl)))]) (wr := [(a2, .inl (y 0, 2001, .inl (upd nz 0 1))), (a1, .inr (7, [.ref a6, .ref a7, .ref a8, .ref a9, .int 0, .int 0, .ref a10, .ref a11, .ref a12, .ref a13])), (a7, .inl (y 0, 9, .inl nz)), (a5, .inl (y 1, 2001, .inr (.inl nzl))), (a8, .inl (y 0, 9, .inl nz)), (a3, .inl (y 1, 2001, .inr (.inl nzl)))]) (nr_V (As := [.int 0, .int 7]) (rest := [.int 7, .ref a7]) ⟨hx, hb, hml, hown, hts⟩ (cX2_purseOf_8 l D y a0 a2 a3 a4 a5 H.size) (cwV 2 hts gX2_take_X2_purseOf rfl rfl rfl (by decide +kernel) ⟨Nat.le_of_ble_eq_true rfl, Nat.le_of_ble_eq_true rfl⟩) hK hP hD hE [6, 7] rfl (by decide +kernel) 0 2 rfl rfl rfl rfl rfl hl.1 rfl (lv_room (Nat.le_of_ble_eq_true rfl)) dX2_take_62 ⟨Nat.le_of_ble_eq_true rfl, Nat.le_of_ble_eq_true rfl⟩) hP hD hS hA [6, 7] [0, 1, 2, 3, 4, 5] rfl rfl (by decide +kernel) (by decide +kernel) (fun r16 u15 H locs er16 hP hD hS => ?_)
  replace hP : va_P D vwCl [(a2, .inl (y 0, 2001, .inl (upd nz 0 1))), (a1, .inr (7, [.ref a6, .ref a7, .ref a8, .ref a9, .int 0, .int 0, .ref a10, .ref a11, .ref a12, .ref a13])), (a7, .inl (y 0, 9, .inl nz)), (a5, .inl (y 1, 2001, .inr (.inl nzl))), (a8, .inl (y 0, 9, .inl nz)), (a3, .inl (y 1, 2001, .inr (.inl nzl))), (a0, .inr (2, [.ref a2, .ref a3, .ref a4, .ref a5])), (a4, .inl (y 1, 2001, .inr (.inl nzl)))] H := hP
  replace hD : va_D A [(a2, .inl (y 0, 2001, .inl (upd nz 0 1))), (a1, .inr (7, [.ref a6, .ref a7, .ref a8, .ref a9, .int 0, .int 0, .ref a10, .ref a11, .ref a12, .ref a13])), (a7, .inl (y 0, 9, .inl nz)), (a5, .inl (y 1, 2001, .inr (.inl nzl))), (a8, .inl (y 0, 9, .inl nz)), (a3, .inl (y 1, 2001, .inr (.inl nzl))), (a0, .inr (2, [.ref a2, .ref a3, .ref a4, .ref a5])), (a4, .inl (y 1, 2001, .inr (.inl nzl)))] := hD
  subst er16
  refine nb_iast (ws' := [(a2, .inl (y 0, 2001, .inl (upd nz 0 1))), (a1, .inr (7, [.ref a6, .ref a7, .ref a8, .ref a9, .int 0, .int 0, .ref a10, .ref a11, .ref a12, .ref a13])), (a7, .inl (y 0, 9, .inl nz)), (a5, .inl (y 1, 2001, .inr (.inl nzl))), (a8, .inl (y 0, 9, .inl nz)), (a3, .inl (y 1, 2001, .inr (.inl nzl))), (a0, .inr (2, [.ref a2, .ref a3, .ref a4, .ref a5])), (a4, .inl (y 1, 2001, .inr (.inl nzl)))]) hx hb hK hP hD hS 2 0 rfl rfl (n_in (by decide +kernel)) (by rw [nb_upI (f := nz) (i := Int32.toNatClampNeg 7) (x := 0) rfl]; rfl) dX2_take_65 (fun H locs hP hD hS => ?_)
  refine lv_aload_n hx hb dX2_take_66 rfl (lv_at hl 4 rfl) ?_
  refine va_get (D := D) (ci := 7) (v := .ref a8) (C := RX7) (T := TX7) (N := 10) hx hb hts iX2_take_X7 hown hK hP 1 rfl rfl 2 (by decide +kernel) w_3 (fun _ h9 => h9) rfl dX2_take_67 ?_
  refine lv_iload hx hb dX2_take_70 (lv_at hl 0 rfl) ?_
  refine lv_aload_n hx hb dX2_take_72 rfl (lv_at hl 2 rfl) ?_
  refine va_get (D := D) (ci := 2) (v := .ref a5) (C := RX2) (T := TX2) (N := 4) hx hb hts iX2_take_X2 hown hK hP 6 rfl rfl 3 (by decide +kernel) w_4 (fun _ h9 => h9) rfl dX2_take_73 ?_
  refine lv_iload_n hx hb dX2_take_76 rfl (lv_at hl 3 rfl) ?_
  refine va_lald hx hb hK hP 3 1 rfl rfl (n_in (by decide +kernel)) dX2_take_77 ?_
  refine nv_l (v := 0) rfl ?_
  refine lv_bipush (v := 7) hx hb dX2_take_78 (by decide +kernel) ?_
  refine lv_iload hx hb dX2_take_80 (lv_at hl 0 rfl) ?_
  refine lv_imul hx hb dX2_take_82 ?_
  refine nv_i (v := 49) (by decide +kernel) ?_
  refine lv_lshr hx hb dX2_take_83 rfl ?_
  refine nv_l (v := 0) (by decide +kernel) ?_
  refine lv_l2i (v := 0) hx hb dX2_take_84 (by decide +kernel) ?_
  refine lv_bipush (v := 127) hx hb dX2_take_85 (by decide +kernel) ?_
  refine lv_iand hx hb dX2_take_87 ?_
  refine nv_i (v := 0) (by decide +kernel) ?_
  refine nb_iast (ws' := [(a2, .inl (y 0, 2001, .inl (upd nz 0 1))), (a1, .inr (7, [.ref a6, .ref a7, .ref a8, .ref a9, .int 0, .int 0, .ref a10, .ref a11, .ref a12, .ref a13])), (a7, .inl (y 0, 9, .inl nz)), (a5, .inl (y 1, 2001, .inr (.inl nzl))), (a8, .inl (y 0, 9, .inl nz)), (a3, .inl (y 1, 2001, .inr (.inl nzl))), (a0, .inr (2, [.ref a2, .ref a3, .ref a4, .ref a5])), (a4, .inl (y 1, 2001, .inr (.inl nzl)))]) hx hb hK hP hD hS 4 0 rfl rfl (n_in (by decide +kernel)) (by rw [nb_upI (f := nz) (i := Int32.toNatClampNeg 7) (x := 0) rfl]; rfl) dX2_take_88 (fun H locs hP hD hS => ?_)
  refine lv_iinc (v := 8) (lv' := [(4, .int 8), (3, .int 1), (0, .ref a0), (1, .int 0), (2, .ref a1)]) hx hb dX2_take_89 hl (k := 0) rfl (by decide +kernel) (by decide +kernel) rfl (fun ls hl => ?_)
  refine lv_goto (tgt := 45) hx hb dX2_take_92 (by decide +kernel) ?_
  refine lv_iload hx hb dX2_take_45 (lv_at hl 0 rfl) ?_
  refine lv_bipush (v := 9) hx hb dX2_take_47 (by decide +kernel) ?_
  refine lv_icmp_ge (tgt := 95) hx hb dX2_take_49 (by decide +kernel) (fun c => absurd c (by decide +kernel)) (fun _ => ?_)
  refine lv_aload_n hx hb dX2_take_52 rfl (lv_at hl 4 rfl) ?_
  refine va_get (D := D) (ci := 7) (v := .ref a7) (C := RX7) (T := TX7) (N := 10) hx hb hts iX2_take_X7 hown hK hP 1 rfl rfl 1 (by decide +kernel) w_2 (fun _ h9 => h9) rfl dX2_take_53 ?_
  refine lv_iload hx hb dX2_take_56 (lv_at hl 0 rfl) ?_
  refine lv_aload_n hx hb dX2_take_58 rfl (lv_at hl 2 rfl) ?_
  refine lv_iload_n hx hb dX2_take_59 rfl (lv_at hl 3 rfl) ?_
  refine lv_iload hx hb dX2_take_60 (lv_at hl 0 rfl) ?_
  refine nj_i (ws := [(a2, .inl (y 0, 2001, .inl (upd nz 0 1))), (a1, .inr (7, [.ref a6, .ref a7, .ref a8, .ref a9, .int 0, .int 0, .ref a10, .ref a11, .ref a12, .ref a13])), (a7, .inl (y 0, 9, .inl nz)), (a5, .inl (y 1, 2001, .inr (.inl nzl))), (a8, .inl (y 0, 9, .inl nz)), (a3, .inl (y 1, 2001, .inr (.inl nzl))), (a0, .inr (2, [.ref a2, .ref a3, .ref a4, .ref a5])), (a4, .inl (y 1, 2001, .inr (.inl nzl)))]) (wc := [(a0, .inr (2, [.ref a2, .ref a3, .ref a4, .ref a5])), (a4, .inl (y 1, 2001, .inr (.inl nzl)))]) (wr := [(a2, .inl (y 0, 2001, .inl (upd nz 0 1))), (a1, .inr (7, [.ref a6, .ref a7, .ref a8, .ref a9, .int 0, .int 0, .ref a10, .ref a11, .ref a12, .ref a13])), (a7, .inl (y 0, 9, .inl nz)), (a5, .inl (y 1, 2001, .inr (.inl nzl))), (a8, .inl (y 0, 9, .inl nz)), (a3, .inl (y 1, 2001, .inr (.inl nzl)))]) (nr_V (As := [.int 0, .int 8]) (rest := [.int 8, .ref a7]) ⟨hx, hb, hml, hown, hts⟩ (cX2_purseOf_9 l D y a0 a2 a3 a4 a5 H.size) (cwV 2 hts gX2_take_X2_purseOf rfl rfl rfl (by decide +kernel) ⟨Nat.le_of_ble_eq_true rfl, Nat.le_of_ble_eq_true rfl⟩) hK hP hD hE [6, 7] rfl (by decide +kernel) 0 2 rfl rfl rfl rfl rfl hl.1 rfl (lv_room (Nat.le_of_ble_eq_true rfl)) dX2_take_62 ⟨Nat.le_of_ble_eq_true rfl, Nat.le_of_ble_eq_true rfl⟩) hP hD hS hA [6, 7] [0, 1, 2, 3, 4, 5] rfl rfl (by decide +kernel) (by decide +kernel) (fun r18 u17 H locs er18 hP hD hS => ?_)
  replace hP : va_P D vwCl [(a2, .inl (y 0, 2001, .inl (upd nz 0 1))), (a1, .inr (7, [.ref a6, .ref a7, .ref a8, .ref a9, .int 0, .int 0, .ref a10, .ref a11, .ref a12, .ref a13])), (a7, .inl (y 0, 9, .inl nz)), (a5, .inl (y 1, 2001, .inr (.inl nzl))), (a8, .inl (y 0, 9, .inl nz)), (a3, .inl (y 1, 2001, .inr (.inl nzl))), (a0, .inr (2, [.ref a2, .ref a3, .ref a4, .ref a5])), (a4, .inl (y 1, 2001, .inr (.inl nzl)))] H := hP
  replace hD : va_D A [(a2, .inl (y 0, 2001, .inl (upd nz 0 1))), (a1, .inr (7, [.ref a6, .ref a7, .ref a8, .ref a9, .int 0, .int 0, .ref a10, .ref a11, .ref a12, .ref a13])), (a7, .inl (y 0, 9, .inl nz)), (a5, .inl (y 1, 2001, .inr (.inl nzl))), (a8, .inl (y 0, 9, .inl nz)), (a3, .inl (y 1, 2001, .inr (.inl nzl))), (a0, .inr (2, [.ref a2, .ref a3, .ref a4, .ref a5])), (a4, .inl (y 1, 2001, .inr (.inl nzl)))] := hD
  subst er18
  refine nb_iast (ws' := [(a2, .inl (y 0, 2001, .inl (upd nz 0 1))), (a1, .inr (7, [.ref a6, .ref a7, .ref a8, .ref a9, .int 0, .int 0, .ref a10, .ref a11, .ref a12, .ref a13])), (a7, .inl (y 0, 9, .inl nz)), (a5, .inl (y 1, 2001, .inr (.inl nzl))), (a8, .inl (y 0, 9, .inl nz)), (a3, .inl (y 1, 2001, .inr (.inl nzl))), (a0, .inr (2, [.ref a2, .ref a3, .ref a4, .ref a5])), (a4, .inl (y 1, 2001, .inr (.inl nzl)))]) hx hb hK hP hD hS 2 0 rfl rfl (n_in (by decide +kernel)) (by rw [nb_upI (f := nz) (i := Int32.toNatClampNeg 8) (x := 0) rfl]; rfl) dX2_take_65 (fun H locs hP hD hS => ?_)
  refine lv_aload_n hx hb dX2_take_66 rfl (lv_at hl 4 rfl) ?_
  refine va_get (D := D) (ci := 7) (v := .ref a8) (C := RX7) (T := TX7) (N := 10) hx hb hts iX2_take_X7 hown hK hP 1 rfl rfl 2 (by decide +kernel) w_3 (fun _ h9 => h9) rfl dX2_take_67 ?_
  refine lv_iload hx hb dX2_take_70 (lv_at hl 0 rfl) ?_
  refine lv_aload_n hx hb dX2_take_72 rfl (lv_at hl 2 rfl) ?_
  refine va_get (D := D) (ci := 2) (v := .ref a5) (C := RX2) (T := TX2) (N := 4) hx hb hts iX2_take_X2 hown hK hP 6 rfl rfl 3 (by decide +kernel) w_4 (fun _ h9 => h9) rfl dX2_take_73 ?_
  refine lv_iload_n hx hb dX2_take_76 rfl (lv_at hl 3 rfl) ?_
  refine va_lald hx hb hK hP 3 1 rfl rfl (n_in (by decide +kernel)) dX2_take_77 ?_
  refine nv_l (v := 0) rfl ?_
  refine lv_bipush (v := 7) hx hb dX2_take_78 (by decide +kernel) ?_
  refine lv_iload hx hb dX2_take_80 (lv_at hl 0 rfl) ?_
  refine lv_imul hx hb dX2_take_82 ?_
  refine nv_i (v := 56) (by decide +kernel) ?_
  refine lv_lshr hx hb dX2_take_83 rfl ?_
  refine nv_l (v := 0) (by decide +kernel) ?_
  refine lv_l2i (v := 0) hx hb dX2_take_84 (by decide +kernel) ?_
  refine lv_bipush (v := 127) hx hb dX2_take_85 (by decide +kernel) ?_
  refine lv_iand hx hb dX2_take_87 ?_
  refine nv_i (v := 0) (by decide +kernel) ?_
  refine nb_iast (ws' := [(a2, .inl (y 0, 2001, .inl (upd nz 0 1))), (a1, .inr (7, [.ref a6, .ref a7, .ref a8, .ref a9, .int 0, .int 0, .ref a10, .ref a11, .ref a12, .ref a13])), (a7, .inl (y 0, 9, .inl nz)), (a5, .inl (y 1, 2001, .inr (.inl nzl))), (a8, .inl (y 0, 9, .inl nz)), (a3, .inl (y 1, 2001, .inr (.inl nzl))), (a0, .inr (2, [.ref a2, .ref a3, .ref a4, .ref a5])), (a4, .inl (y 1, 2001, .inr (.inl nzl)))]) hx hb hK hP hD hS 4 0 rfl rfl (n_in (by decide +kernel)) (by rw [nb_upI (f := nz) (i := Int32.toNatClampNeg 8) (x := 0) rfl]; rfl) dX2_take_88 (fun H locs hP hD hS => ?_)
  refine lv_iinc (v := 9) (lv' := [(4, .int 9), (3, .int 1), (0, .ref a0), (1, .int 0), (2, .ref a1)]) hx hb dX2_take_89 hl (k := 0) rfl (by decide +kernel) (by decide +kernel) rfl (fun ls hl => ?_)
  refine lv_goto (tgt := 45) hx hb dX2_take_92 (by decide +kernel) ?_
  refine lv_iload hx hb dX2_take_45 (lv_at hl 0 rfl) ?_
  refine lv_bipush (v := 9) hx hb dX2_take_47 (by decide +kernel) ?_
  refine lv_icmp_ge (tgt := 95) hx hb dX2_take_49 (by decide +kernel) (fun _ => ?_) (fun c => absurd (by decide +kernel) c)
  refine W.widen (k := 0) (n := 0) (Nat.le_of_ble_eq_true rfl) (Nat.le_of_ble_eq_true rfl) ?_
  exact W.vret hx hb hr (fun t ht hW => ⟨⟨(fun _ => 0), rfl, trivial, by rw [ht]; exact hP, va_K.moved hW.alike hK, hD⟩, hS.F ht⟩) hS.2.2 dX2_take_95 hlocks
set_option maxRecDepth 100000 in
set_option maxHeartbeats 4000000 in
theorem cX4_expand_1 (l : Launch) (D : va_G) (y : Nat → ClassId) (a0 : Nat) (a1 : Nat) (a2 : Nat) (a3 : Nat) (a4 : Nat) (a5 : Nat) (a6 : Nat) (a7 : Nat) (a8 : Nat) (a9 : Nat) (a10 : Nat) (a11 : Nat) (a12 : Nat) (a13 : Nat) (a14 : Nat) (a15 : Nat) (a16 : Nat) (a17 : Nat) (a18 : Nat) (a19 : Nat) (sz : Nat) : Met l yX4_expand wsX4_expand { frames := 3, cells := 0, slots := 0, locals := 222 } (nPc D y nT [.ref a0, .int 0] [(a0, .inr (4, [.ref a1, .ref a2, .ref a3, .int 1, .int 1, .ref a4, .ref a5, .ref a6, .ref a7, .ref a8, .ref a9, .ref a10, .ref a11])), (a11, .inr (7, [.ref a12, .ref a13, .ref a14, .ref a15, .int 0, .int 0, .ref a16, .ref a17, .ref a18, .ref a19])), (a2, .inl (y 0, 2000, .inl nz)), (a5, .inl (y 2, 2000, .inl nz)), (a6, .inl (y 0, 16000, .inl nz))] sz) ((fun A => nQv D y (fun _ => True) (fun u => [(a0, .inr (4, [.ref a1, .ref a2, .ref a3, .int 1, .int 1, .ref a4, .ref a5, .ref a6, .ref a7, .ref a8, .ref a9, .ref a10, .ref a11])), (a2, .inl (y 0, 2000, .inl nz)), (a5, .inl (y 2, 2000, .inl (upd nz 0 1))), (a6, .inl (y 0, 16000, .inl (upd (upd (upd (upd (upd (upd (upd (upd nz 0 (-1)) 1 (-1)) 2 (-1)) 3 (-1)) 4 (-1)) 5 (-1)) 6 (-1)) 7 (-1)))), (a11, .inr (7, [.ref a12, .ref a13, .ref a14, .ref a15, .int 0, .int 0, .ref a16, .ref a17, .ref a18, .ref a19]))]) A) (va_A [(a0, .inr (4, [.ref a1, .ref a2, .ref a3, .int 1, .int 1, .ref a4, .ref a5, .ref a6, .ref a7, .ref a8, .ref a9, .ref a10, .ref a11])), (a11, .inr (7, [.ref a12, .ref a13, .ref a14, .ref a15, .int 0, .int 0, .ref a16, .ref a17, .ref a18, .ref a19])), (a2, .inl (y 0, 2000, .inl nz)), (a5, .inl (y 2, 2000, .inl nz)), (a6, .inl (y 0, 16000, .inl nz))] sz)) 0 0 (va_A [(a0, .inr (4, [.ref a1, .ref a2, .ref a3, .int 1, .int 1, .ref a4, .ref a5, .ref a6, .ref a7, .ref a8, .ref a9, .ref a10, .ref a11])), (a11, .inr (7, [.ref a12, .ref a13, .ref a14, .ref a15, .int 0, .int 0, .ref a16, .ref a17, .ref a18, .ref a19])), (a2, .inl (y 0, 2000, .inl nz)), (a5, .inl (y 2, 2000, .inl nz)), (a6, .inl (y 0, 16000, .inl nz))] sz) := by
  refine nm_ofW (D := D) (y := y) (E := nT) (yy := yX4_expand) (wsy := wsX4_expand) (rm := { frames := 3, cells := 0, slots := 0, locals := 222 }) (as := [.ref a0, .int 0]) (ws := [(a0, .inr (4, [.ref a1, .ref a2, .ref a3, .int 1, .int 1, .ref a4, .ref a5, .ref a6, .ref a7, .ref a8, .ref a9, .ref a10, .ref a11])), (a11, .inr (7, [.ref a12, .ref a13, .ref a14, .ref a15, .int 0, .int 0, .ref a16, .ref a17, .ref a18, .ref a19])), (a2, .inl (y 0, 2000, .inl nz)), (a5, .inl (y 2, 2000, .inl nz)), (a6, .inl (y 0, 16000, .inl nz))]) (sz := sz) (mc := 0) (ms := 0) (Qc := fun A => nQv D y (fun _ => True) (fun u => [(a0, .inr (4, [.ref a1, .ref a2, .ref a3, .int 1, .int 1, .ref a4, .ref a5, .ref a6, .ref a7, .ref a8, .ref a9, .ref a10, .ref a11])), (a2, .inl (y 0, 2000, .inl nz)), (a5, .inl (y 2, 2000, .inl (upd nz 0 1))), (a6, .inl (y 0, 16000, .inl (upd (upd (upd (upd (upd (upd (upd (upd nz 0 (-1)) 1 (-1)) 2 (-1)) 3 (-1)) 4 (-1)) 5 (-1)) 6 (-1)) 7 (-1)))), (a11, .inr (7, [.ref a12, .ref a13, .ref a14, .ref a15, .int 0, .int 0, .ref a16, .ref a17, .ref a18, .ref a19]))]) A) (cc := cX4_expand) (maxL := 4) (ret := none) (by decide +kernel) rfl (Nat.le_of_ble_eq_true rfl) ?_
  intro p e s m below meth c A ls H hx hb hr hml hts hown hlocks hnm hsz hP hK hD hA hS hE hAe hl
  replace hl : lv_has ls 4 [(0, .ref a0), (1, .int 0)] := hl
  have hown : s.vm.findClass RX4 = some m.cls := hown
  have w_0 := hts (.fieldLink RX4 20 "SoldToBehind$Reach" "total" "[I") (by decide +kernel)
  have w_1 := hts (.fieldLink RX4 63 "SoldToBehind$Reach" "scene" "LSoldToBehind$Standing;") (by decide +kernel)
  have w_2 := hts (.fieldLink RX4 38 "SoldToBehind$Reach" "rest" "[Z") (by decide +kernel)
  have w_3 := hts (.fieldLink RX4 42 "SoldToBehind$Reach" "out" "[I") (by decide +kernel)
  refine lv_aload_n hx hb dX4_expand_0 rfl (lv_at hl 0 rfl) ?_
  refine va_get (D := D) (ci := 4) (v := .ref a2) (C := RX4) (T := TX4) (N := 13) hx hb hts iX4_expand_X4 hown hK hP 0 rfl rfl 1 (by decide +kernel) w_0 (fun _ h9 => h9) rfl dX4_expand_1 ?_
  refine lv_iload_n hx hb dX4_expand_4 rfl (lv_at hl 1 rfl) ?_
  refine lv_aload_n hx hb dX4_expand_5 rfl (lv_at hl 0 rfl) ?_
  refine va_get (D := D) (ci := 4) (v := .ref a11) (C := RX4) (T := TX4) (N := 13) hx hb hts iX4_expand_X4 hown hK hP 0 rfl rfl 12 (by decide +kernel) w_1 (fun _ h9 => h9) rfl dX4_expand_6 ?_
  refine nj_i (ws := [(a0, .inr (4, [.ref a1, .ref a2, .ref a3, .int 1, .int 1, .ref a4, .ref a5, .ref a6, .ref a7, .ref a8, .ref a9, .ref a10, .ref a11])), (a11, .inr (7, [.ref a12, .ref a13, .ref a14, .ref a15, .int 0, .int 0, .ref a16, .ref a17, .ref a18, .ref a19])), (a2, .inl (y 0, 2000, .inl nz)), (a5, .inl (y 2, 2000, .inl nz)), (a6, .inl (y 0, 16000, .inl nz))]) (wc := [(a11, .inr (7, [.ref a12, .ref a13, .ref a14, .ref a15, .int 0, .int 0, .ref a16, .ref a17, .ref a18, .ref a19]))]) (wr := [(a0, .inr (4, [.ref a1, .ref a2, .ref a3, .int 1, .int 1, .ref a4, .ref a5, .ref a6, .ref a7, .ref a8, .ref a9, .ref a10, .ref a11])), (a2, .inl (y 0, 2000, .inl nz)), (a5, .inl (y 2, 2000, .inl nz)), (a6, .inl (y 0, 16000, .inl nz))]) (nr_V (As := []) (rest := [.int 0, .ref a2]) ⟨hx, hb, hml, hown, hts⟩ (cX7_total_1 l D y a11 a12 a13 a14 a15 a16 a17 a18 a19 H.size) (cwV 0 hts gX4_expand_X7_total rfl rfl rfl (by decide +kernel) ⟨Nat.le_of_ble_eq_true rfl, Nat.le_of_ble_eq_true rfl⟩) hK hP hD hE [1] rfl (by decide +kernel) 0 7 rfl rfl rfl rfl rfl hl.1 rfl (lv_room (Nat.le_of_ble_eq_true rfl)) dX4_expand_9 ⟨Nat.le_of_ble_eq_true rfl, Nat.le_of_ble_eq_true rfl⟩) hP hD hS hA [1] [0, 2, 3, 4] rfl rfl (by decide +kernel) (by decide +kernel) (fun r2 u1 H locs er2 hP hD hS => ?_)
  replace hP : va_P D vwCl [(a0, .inr (4, [.ref a1, .ref a2, .ref a3, .int 1, .int 1, .ref a4, .ref a5, .ref a6, .ref a7, .ref a8, .ref a9, .ref a10, .ref a11])), (a2, .inl (y 0, 2000, .inl nz)), (a5, .inl (y 2, 2000, .inl nz)), (a6, .inl (y 0, 16000, .inl nz)), (a11, .inr (7, [.ref a12, .ref a13, .ref a14, .ref a15, .int 0, .int 0, .ref a16, .ref a17, .ref a18, .ref a19]))] H := hP
  replace hD : va_D A [(a0, .inr (4, [.ref a1, .ref a2, .ref a3, .int 1, .int 1, .ref a4, .ref a5, .ref a6, .ref a7, .ref a8, .ref a9, .ref a10, .ref a11])), (a2, .inl (y 0, 2000, .inl nz)), (a5, .inl (y 2, 2000, .inl nz)), (a6, .inl (y 0, 16000, .inl nz)), (a11, .inr (7, [.ref a12, .ref a13, .ref a14, .ref a15, .int 0, .int 0, .ref a16, .ref a17, .ref a18, .ref a19]))] := hD
  subst er2
  refine nb_iast (ws' := [(a0, .inr (4, [.ref a1, .ref a2, .ref a3, .int 1, .int 1, .ref a4, .ref a5, .ref a6, .ref a7, .ref a8, .ref a9, .ref a10, .ref a11])), (a2, .inl (y 0, 2000, .inl nz)), (a5, .inl (y 2, 2000, .inl nz)), (a6, .inl (y 0, 16000, .inl nz)), (a11, .inr (7, [.ref a12, .ref a13, .ref a14, .ref a15, .int 0, .int 0, .ref a16, .ref a17, .ref a18, .ref a19]))]) hx hb hK hP hD hS 1 0 rfl rfl (n_in (by decide +kernel)) (by rw [nb_upI (f := nz) (i := Int32.toNatClampNeg 0) (x := 0) rfl]; rfl) dX4_expand_12 (fun H locs hP hD hS => ?_)
  refine lv_aload_n hx hb dX4_expand_13 rfl (lv_at hl 0 rfl) ?_
  refine va_get (D := D) (ci := 4) (v := .ref a5) (C := RX4) (T := TX4) (N := 13) hx hb hts iX4_expand_X4 hown hK hP 0 rfl rfl 6 (by decide +kernel) w_2 (fun _ h9 => h9) rfl dX4_expand_14 ?_
  refine lv_iload_n hx hb dX4_expand_17 rfl (lv_at hl 1 rfl) ?_
  refine lv_iconst (v := 1) hx hb dX4_expand_18 (by decide +kernel) ?_
  refine nb_zast (ws' := [(a0, .inr (4, [.ref a1, .ref a2, .ref a3, .int 1, .int 1, .ref a4, .ref a5, .ref a6, .ref a7, .ref a8, .ref a9, .ref a10, .ref a11])), (a2, .inl (y 0, 2000, .inl nz)), (a5, .inl (y 2, 2000, .inl (upd nz 0 1))), (a6, .inl (y 0, 16000, .inl nz)), (a11, .inr (7, [.ref a12, .ref a13, .ref a14, .ref a15, .int 0, .int 0, .ref a16, .ref a17, .ref a18, .ref a19]))]) hx hb hK hP hD hS 2 2 rfl rfl (n_in (by decide +kernel)) (by rw [show vp_nar .boolean 1 = 1 by decide]; rfl) dX4_expand_19 (fun H locs hP hD hS => ?_)
  refine lv_iconst (v := 1) hx hb dX4_expand_20 (by decide +kernel) ?_
  refine lv_istore_n (lv' := [(2, .int 1), (0, .ref a0), (1, .int 0)]) hx hb dX4_expand_21 rfl hl (by decide +kernel) rfl (fun ls hl => ?_)
  refine lv_iload_n hx hb dX4_expand_22 rfl (lv_at hl 0 rfl) ?_
  refine lv_bipush (v := 8) hx hb dX4_expand_23 (by decide +kernel) ?_
  refine lv_icmp_gt (tgt := 86) hx hb dX4_expand_25 (by decide +kernel) (fun c => absurd c (by decide +kernel)) (fun _ => ?_)
  refine lv_iconst (v := (-1)) hx hb dX4_expand_28 (by decide +kernel) ?_
  refine lv_istore_n (lv' := [(3, .int (-1)), (2, .int 1), (0, .ref a0), (1, .int 0)]) hx hb dX4_expand_29 rfl hl (by decide +kernel) rfl (fun ls hl => ?_)
  refine lv_aload_n hx hb dX4_expand_30 rfl (lv_at hl 2 rfl) ?_
  refine va_get (D := D) (ci := 4) (v := .ref a11) (C := RX4) (T := TX4) (N := 13) hx hb hts iX4_expand_X4 hown hK hP 0 rfl rfl 12 (by decide +kernel) w_1 (fun _ h9 => h9) rfl dX4_expand_31 ?_
  refine lv_iload_n hx hb dX4_expand_34 rfl (lv_at hl 1 rfl) ?_
  refine nj_i (ws := [(a0, .inr (4, [.ref a1, .ref a2, .ref a3, .int 1, .int 1, .ref a4, .ref a5, .ref a6, .ref a7, .ref a8, .ref a9, .ref a10, .ref a11])), (a2, .inl (y 0, 2000, .inl nz)), (a5, .inl (y 2, 2000, .inl (upd nz 0 1))), (a6, .inl (y 0, 16000, .inl nz)), (a11, .inr (7, [.ref a12, .ref a13, .ref a14, .ref a15, .int 0, .int 0, .ref a16, .ref a17, .ref a18, .ref a19]))]) (wc := [(a11, .inr (7, [.ref a12, .ref a13, .ref a14, .ref a15, .int 0, .int 0, .ref a16, .ref a17, .ref a18, .ref a19]))]) (wr := [(a0, .inr (4, [.ref a1, .ref a2, .ref a3, .int 1, .int 1, .ref a4, .ref a5, .ref a6, .ref a7, .ref a8, .ref a9, .ref a10, .ref a11])), (a2, .inl (y 0, 2000, .inl nz)), (a5, .inl (y 2, 2000, .inl (upd nz 0 1))), (a6, .inl (y 0, 16000, .inl nz))]) (nr_V (As := [.int 1]) (rest := []) ⟨hx, hb, hml, hown, hts⟩ (cX7_isSold_2 l D y a11 1 (by decide +kernel) a12 a13 a14 a15 a16 a17 a18 a19 H.size) (cwV 1 hts gX4_expand_X7_isSold rfl rfl rfl (by decide +kernel) ⟨Nat.le_of_ble_eq_true rfl, Nat.le_of_ble_eq_true rfl⟩) hK hP hD hE [4] rfl (by decide +kernel) 0 7 rfl rfl rfl rfl rfl hl.1 rfl (lv_room (Nat.le_of_ble_eq_true rfl)) dX4_expand_35 ⟨Nat.le_of_ble_eq_true rfl, Nat.le_of_ble_eq_true rfl⟩) hP hD hS hA [4] [0, 1, 2, 3] rfl rfl (by decide +kernel) (by decide +kernel) (fun r4 u3 H locs er4 hP hD hS => ?_)
  replace hP : va_P D vwCl [(a0, .inr (4, [.ref a1, .ref a2, .ref a3, .int 1, .int 1, .ref a4, .ref a5, .ref a6, .ref a7, .ref a8, .ref a9, .ref a10, .ref a11])), (a2, .inl (y 0, 2000, .inl nz)), (a5, .inl (y 2, 2000, .inl (upd nz 0 1))), (a6, .inl (y 0, 16000, .inl nz)), (a11, .inr (7, [.ref a12, .ref a13, .ref a14, .ref a15, .int 0, .int 0, .ref a16, .ref a17, .ref a18, .ref a19]))] H := hP
  replace hD : va_D A [(a0, .inr (4, [.ref a1, .ref a2, .ref a3, .int 1, .int 1, .ref a4, .ref a5, .ref a6, .ref a7, .ref a8, .ref a9, .ref a10, .ref a11])), (a2, .inl (y 0, 2000, .inl nz)), (a5, .inl (y 2, 2000, .inl (upd nz 0 1))), (a6, .inl (y 0, 16000, .inl nz)), (a11, .inr (7, [.ref a12, .ref a13, .ref a14, .ref a15, .int 0, .int 0, .ref a16, .ref a17, .ref a18, .ref a19]))] := hD
  subst er4
  refine lv_if_eq (tgt := 66) hx hb dX4_expand_38 (by decide +kernel) (fun _ => ?_) (fun c => absurd (by decide +kernel) c)
  refine lv_aload_n hx hb dX4_expand_66 rfl (lv_at hl 2 rfl) ?_
  refine va_get (D := D) (ci := 4) (v := .ref a6) (C := RX4) (T := TX4) (N := 13) hx hb hts iX4_expand_X4 hown hK hP 0 rfl rfl 7 (by decide +kernel) w_3 (fun _ h9 => h9) rfl dX4_expand_67 ?_
  refine lv_iload_n hx hb dX4_expand_70 rfl (lv_at hl 3 rfl) ?_
  refine lv_bipush (v := 8) hx hb dX4_expand_71 (by decide +kernel) ?_
  refine lv_imul hx hb dX4_expand_73 ?_
  refine nv_i (v := 0) (by decide +kernel) ?_
  refine lv_iload_n hx hb dX4_expand_74 rfl (lv_at hl 1 rfl) ?_
  refine lv_iadd hx hb dX4_expand_75 ?_
  refine nv_i (v := 1) (by decide +kernel) ?_
  refine lv_iconst (v := 1) hx hb dX4_expand_76 (by decide +kernel) ?_
  refine lv_isub hx hb dX4_expand_77 ?_
  refine nv_i (v := 0) (by decide +kernel) ?_
  refine lv_iload_n hx hb dX4_expand_78 rfl (lv_at hl 0 rfl) ?_
  refine nb_iast (ws' := [(a0, .inr (4, [.ref a1, .ref a2, .ref a3, .int 1, .int 1, .ref a4, .ref a5, .ref a6, .ref a7, .ref a8, .ref a9, .ref a10, .ref a11])), (a2, .inl (y 0, 2000, .inl nz)), (a5, .inl (y 2, 2000, .inl (upd nz 0 1))), (a6, .inl (y 0, 16000, .inl (upd nz 0 (-1)))), (a11, .inr (7, [.ref a12, .ref a13, .ref a14, .ref a15, .int 0, .int 0, .ref a16, .ref a17, .ref a18, .ref a19]))]) hx hb hK hP hD hS 3 0 rfl rfl (n_in (by decide +kernel)) rfl dX4_expand_79 (fun H locs hP hD hS => ?_)
  refine lv_iinc (v := 2) (lv' := [(2, .int 2), (3, .int (-1)), (0, .ref a0), (1, .int 0)]) hx hb dX4_expand_80 hl (k := 1) rfl (by decide +kernel) (by decide +kernel) rfl (fun ls hl => ?_)
  refine lv_goto (tgt := 22) hx hb dX4_expand_83 (by decide +kernel) ?_
  refine lv_iload_n hx hb dX4_expand_22 rfl (lv_at hl 0 rfl) ?_
  refine lv_bipush (v := 8) hx hb dX4_expand_23 (by decide +kernel) ?_
  refine lv_icmp_gt (tgt := 86) hx hb dX4_expand_25 (by decide +kernel) (fun c => absurd c (by decide +kernel)) (fun _ => ?_)
  refine lv_iconst (v := (-1)) hx hb dX4_expand_28 (by decide +kernel) ?_
  refine lv_istore_n (lv' := [(3, .int (-1)), (2, .int 2), (0, .ref a0), (1, .int 0)]) hx hb dX4_expand_29 rfl hl (by decide +kernel) rfl (fun ls hl => ?_)
  refine lv_aload_n hx hb dX4_expand_30 rfl (lv_at hl 2 rfl) ?_
  refine va_get (D := D) (ci := 4) (v := .ref a11) (C := RX4) (T := TX4) (N := 13) hx hb hts iX4_expand_X4 hown hK hP 0 rfl rfl 12 (by decide +kernel) w_1 (fun _ h9 => h9) rfl dX4_expand_31 ?_
  refine lv_iload_n hx hb dX4_expand_34 rfl (lv_at hl 1 rfl) ?_
  refine nj_i (ws := [(a0, .inr (4, [.ref a1, .ref a2, .ref a3, .int 1, .int 1, .ref a4, .ref a5, .ref a6, .ref a7, .ref a8, .ref a9, .ref a10, .ref a11])), (a2, .inl (y 0, 2000, .inl nz)), (a5, .inl (y 2, 2000, .inl (upd nz 0 1))), (a6, .inl (y 0, 16000, .inl (upd nz 0 (-1)))), (a11, .inr (7, [.ref a12, .ref a13, .ref a14, .ref a15, .int 0, .int 0, .ref a16, .ref a17, .ref a18, .ref a19]))]) (wc := [(a11, .inr (7, [.ref a12, .ref a13, .ref a14, .ref a15, .int 0, .int 0, .ref a16, .ref a17, .ref a18, .ref a19]))]) (wr := [(a0, .inr (4, [.ref a1, .ref a2, .ref a3, .int 1, .int 1, .ref a4, .ref a5, .ref a6, .ref a7, .ref a8, .ref a9, .ref a10, .ref a11])), (a2, .inl (y 0, 2000, .inl nz)), (a5, .inl (y 2, 2000, .inl (upd nz 0 1))), (a6, .inl (y 0, 16000, .inl (upd nz 0 (-1))))]) (nr_V (As := [.int 2]) (rest := []) ⟨hx, hb, hml, hown, hts⟩ (cX7_isSold_2 l D y a11 2 (by decide +kernel) a12 a13 a14 a15 a16 a17 a18 a19 H.size) (cwV 1 hts gX4_expand_X7_isSold rfl rfl rfl (by decide +kernel) ⟨Nat.le_of_ble_eq_true rfl, Nat.le_of_ble_eq_true rfl⟩) hK hP hD hE [4] rfl (by decide +kernel) 0 7 rfl rfl rfl rfl rfl hl.1 rfl (lv_room (Nat.le_of_ble_eq_true rfl)) dX4_expand_35 ⟨Nat.le_of_ble_eq_true rfl, Nat.le_of_ble_eq_true rfl⟩) hP hD hS hA [4] [0, 1, 2, 3] rfl rfl (by decide +kernel) (by decide +kernel) (fun r6 u5 H locs er6 hP hD hS => ?_)
  replace hP : va_P D vwCl [(a0, .inr (4, [.ref a1, .ref a2, .ref a3, .int 1, .int 1, .ref a4, .ref a5, .ref a6, .ref a7, .ref a8, .ref a9, .ref a10, .ref a11])), (a2, .inl (y 0, 2000, .inl nz)), (a5, .inl (y 2, 2000, .inl (upd nz 0 1))), (a6, .inl (y 0, 16000, .inl (upd nz 0 (-1)))), (a11, .inr (7, [.ref a12, .ref a13, .ref a14, .ref a15, .int 0, .int 0, .ref a16, .ref a17, .ref a18, .ref a19]))] H := hP
  replace hD : va_D A [(a0, .inr (4, [.ref a1, .ref a2, .ref a3, .int 1, .int 1, .ref a4, .ref a5, .ref a6, .ref a7, .ref a8, .ref a9, .ref a10, .ref a11])), (a2, .inl (y 0, 2000, .inl nz)), (a5, .inl (y 2, 2000, .inl (upd nz 0 1))), (a6, .inl (y 0, 16000, .inl (upd nz 0 (-1)))), (a11, .inr (7, [.ref a12, .ref a13, .ref a14, .ref a15, .int 0, .int 0, .ref a16, .ref a17, .ref a18, .ref a19]))] := hD
  subst er6
  refine lv_if_eq (tgt := 66) hx hb dX4_expand_38 (by decide +kernel) (fun _ => ?_) (fun c => absurd (by decide +kernel) c)
  refine lv_aload_n hx hb dX4_expand_66 rfl (lv_at hl 2 rfl) ?_
  refine va_get (D := D) (ci := 4) (v := .ref a6) (C := RX4) (T := TX4) (N := 13) hx hb hts iX4_expand_X4 hown hK hP 0 rfl rfl 7 (by decide +kernel) w_3 (fun _ h9 => h9) rfl dX4_expand_67 ?_
  refine lv_iload_n hx hb dX4_expand_70 rfl (lv_at hl 3 rfl) ?_
  refine lv_bipush (v := 8) hx hb dX4_expand_71 (by decide +kernel) ?_
  refine lv_imul hx hb dX4_expand_73 ?_
  refine nv_i (v := 0) (by decide +kernel) ?_
  refine lv_iload_n hx hb dX4_expand_74 rfl (lv_at hl 1 rfl) ?_
  refine lv_iadd hx hb dX4_expand_75 ?_
  refine nv_i (v := 2) (by decide +kernel) ?_
  refine lv_iconst (v := 1) hx hb dX4_expand_76 (by decide +kernel) ?_
  refine lv_isub hx hb dX4_expand_77 ?_
  refine nv_i (v := 1) (by decide +kernel) ?_
  refine lv_iload_n hx hb dX4_expand_78 rfl (lv_at hl 0 rfl) ?_
  refine nb_iast (ws' := [(a0, .inr (4, [.ref a1, .ref a2, .ref a3, .int 1, .int 1, .ref a4, .ref a5, .ref a6, .ref a7, .ref a8, .ref a9, .ref a10, .ref a11])), (a2, .inl (y 0, 2000, .inl nz)), (a5, .inl (y 2, 2000, .inl (upd nz 0 1))), (a6, .inl (y 0, 16000, .inl (upd (upd nz 0 (-1)) 1 (-1)))), (a11, .inr (7, [.ref a12, .ref a13, .ref a14, .ref a15, .int 0, .int 0, .ref a16, .ref a17, .ref a18, .ref a19]))]) hx hb hK hP hD hS 3 0 rfl rfl (n_in (by decide +kernel)) rfl dX4_expand_79 (fun H locs hP hD hS => ?_)
  refine lv_iinc (v := 3) (lv' := [(2, .int 3), (3, .int (-1)), (0, .ref a0), (1, .int 0)]) hx hb dX4_expand_80 hl (k := 1) rfl (by decide +kernel) (by decide +kernel) rfl (fun ls hl => ?_)
  refine lv_goto (tgt := 22) hx hb dX4_expand_83 (by decide +kernel) ?_
  refine lv_iload_n hx hb dX4_expand_22 rfl (lv_at hl 0 rfl) ?_
  refine lv_bipush (v := 8) hx hb dX4_expand_23 (by decide +kernel) ?_
  refine lv_icmp_gt (tgt := 86) hx hb dX4_expand_25 (by decide +kernel) (fun c => absurd c (by decide +kernel)) (fun _ => ?_)
  refine lv_iconst (v := (-1)) hx hb dX4_expand_28 (by decide +kernel) ?_
  refine lv_istore_n (lv' := [(3, .int (-1)), (2, .int 3), (0, .ref a0), (1, .int 0)]) hx hb dX4_expand_29 rfl hl (by decide +kernel) rfl (fun ls hl => ?_)
  refine lv_aload_n hx hb dX4_expand_30 rfl (lv_at hl 2 rfl) ?_
  refine va_get (D := D) (ci := 4) (v := .ref a11) (C := RX4) (T := TX4) (N := 13) hx hb hts iX4_expand_X4 hown hK hP 0 rfl rfl 12 (by decide +kernel) w_1 (fun _ h9 => h9) rfl dX4_expand_31 ?_
  refine lv_iload_n hx hb dX4_expand_34 rfl (lv_at hl 1 rfl) ?_
  refine nj_i (ws := [(a0, .inr (4, [.ref a1, .ref a2, .ref a3, .int 1, .int 1, .ref a4, .ref a5, .ref a6, .ref a7, .ref a8, .ref a9, .ref a10, .ref a11])), (a2, .inl (y 0, 2000, .inl nz)), (a5, .inl (y 2, 2000, .inl (upd nz 0 1))), (a6, .inl (y 0, 16000, .inl (upd (upd nz 0 (-1)) 1 (-1)))), (a11, .inr (7, [.ref a12, .ref a13, .ref a14, .ref a15, .int 0, .int 0, .ref a16, .ref a17, .ref a18, .ref a19]))]) (wc := [(a11, .inr (7, [.ref a12, .ref a13, .ref a14, .ref a15, .int 0, .int 0, .ref a16, .ref a17, .ref a18, .ref a19]))]) (wr := [(a0, .inr (4, [.ref a1, .ref a2, .ref a3, .int 1, .int 1, .ref a4, .ref a5, .ref a6, .ref a7, .ref a8, .ref a9, .ref a10, .ref a11])), (a2, .inl (y 0, 2000, .inl nz)), (a5, .inl (y 2, 2000, .inl (upd nz 0 1))), (a6, .inl (y 0, 16000, .inl (upd (upd nz 0 (-1)) 1 (-1))))]) (nr_V (As := [.int 3]) (rest := []) ⟨hx, hb, hml, hown, hts⟩ (cX7_isSold_2 l D y a11 3 (by decide +kernel) a12 a13 a14 a15 a16 a17 a18 a19 H.size) (cwV 1 hts gX4_expand_X7_isSold rfl rfl rfl (by decide +kernel) ⟨Nat.le_of_ble_eq_true rfl, Nat.le_of_ble_eq_true rfl⟩) hK hP hD hE [4] rfl (by decide +kernel) 0 7 rfl rfl rfl rfl rfl hl.1 rfl (lv_room (Nat.le_of_ble_eq_true rfl)) dX4_expand_35 ⟨Nat.le_of_ble_eq_true rfl, Nat.le_of_ble_eq_true rfl⟩) hP hD hS hA [4] [0, 1, 2, 3] rfl rfl (by decide +kernel) (by decide +kernel) (fun r8 u7 H locs er8 hP hD hS => ?_)
  replace hP : va_P D vwCl [(a0, .inr (4, [.ref a1, .ref a2, .ref a3, .int 1, .int 1, .ref a4, .ref a5, .ref a6, .ref a7, .ref a8, .ref a9, .ref a10, .ref a11])), (a2, .inl (y 0, 2000, .inl nz)), (a5, .inl (y 2, 2000, .inl (upd nz 0 1))), (a6, .inl (y 0, 16000, .inl (upd (upd nz 0 (-1)) 1 (-1)))), (a11, .inr (7, [.ref a12, .ref a13, .ref a14, .ref a15, .int 0, .int 0, .ref a16, .ref a17, .ref a18, .ref a19]))] H := hP
  replace hD : va_D A [(a0, .inr (4, [.ref a1, .ref a2, .ref a3, .int 1, .int 1, .ref a4, .ref a5, .ref a6, .ref a7, .ref a8, .ref a9, .ref a10, .ref a11])), (a2, .inl (y 0, 2000, .inl nz)), (a5, .inl (y 2, 2000, .inl (upd nz 0 1))), (a6, .inl (y 0, 16000, .inl (upd (upd nz 0 (-1)) 1 (-1)))), (a11, .inr (7, [.ref a12, .ref a13, .ref a14, .ref a15, .int 0, .int 0, .ref a16, .ref a17, .ref a18, .ref a19]))] := hD
  subst er8
  refine lv_if_eq (tgt := 66) hx hb dX4_expand_38 (by decide +kernel) (fun _ => ?_) (fun c => absurd (by decide +kernel) c)
  refine lv_aload_n hx hb dX4_expand_66 rfl (lv_at hl 2 rfl) ?_
  refine va_get (D := D) (ci := 4) (v := .ref a6) (C := RX4) (T := TX4) (N := 13) hx hb hts iX4_expand_X4 hown hK hP 0 rfl rfl 7 (by decide +kernel) w_3 (fun _ h9 => h9) rfl dX4_expand_67 ?_
  refine lv_iload_n hx hb dX4_expand_70 rfl (lv_at hl 3 rfl) ?_
  refine lv_bipush (v := 8) hx hb dX4_expand_71 (by decide +kernel) ?_
  refine lv_imul hx hb dX4_expand_73 ?_
  refine nv_i (v := 0) (by decide +kernel) ?_
  refine lv_iload_n hx hb dX4_expand_74 rfl (lv_at hl 1 rfl) ?_
  refine lv_iadd hx hb dX4_expand_75 ?_
  refine nv_i (v := 3) (by decide +kernel) ?_
  refine lv_iconst (v := 1) hx hb dX4_expand_76 (by decide +kernel) ?_
  refine lv_isub hx hb dX4_expand_77 ?_
  refine nv_i (v := 2) (by decide +kernel) ?_
  refine lv_iload_n hx hb dX4_expand_78 rfl (lv_at hl 0 rfl) ?_
  refine nb_iast (ws' := [(a0, .inr (4, [.ref a1, .ref a2, .ref a3, .int 1, .int 1, .ref a4, .ref a5, .ref a6, .ref a7, .ref a8, .ref a9, .ref a10, .ref a11])), (a2, .inl (y 0, 2000, .inl nz)), (a5, .inl (y 2, 2000, .inl (upd nz 0 1))), (a6, .inl (y 0, 16000, .inl (upd (upd (upd nz 0 (-1)) 1 (-1)) 2 (-1)))), (a11, .inr (7, [.ref a12, .ref a13, .ref a14, .ref a15, .int 0, .int 0, .ref a16, .ref a17, .ref a18, .ref a19]))]) hx hb hK hP hD hS 3 0 rfl rfl (n_in (by decide +kernel)) rfl dX4_expand_79 (fun H locs hP hD hS => ?_)
  refine lv_iinc (v := 4) (lv' := [(2, .int 4), (3, .int (-1)), (0, .ref a0), (1, .int 0)]) hx hb dX4_expand_80 hl (k := 1) rfl (by decide +kernel) (by decide +kernel) rfl (fun ls hl => ?_)
  refine lv_goto (tgt := 22) hx hb dX4_expand_83 (by decide +kernel) ?_
  refine lv_iload_n hx hb dX4_expand_22 rfl (lv_at hl 0 rfl) ?_
  refine lv_bipush (v := 8) hx hb dX4_expand_23 (by decide +kernel) ?_
  refine lv_icmp_gt (tgt := 86) hx hb dX4_expand_25 (by decide +kernel) (fun c => absurd c (by decide +kernel)) (fun _ => ?_)
  refine lv_iconst (v := (-1)) hx hb dX4_expand_28 (by decide +kernel) ?_
  refine lv_istore_n (lv' := [(3, .int (-1)), (2, .int 4), (0, .ref a0), (1, .int 0)]) hx hb dX4_expand_29 rfl hl (by decide +kernel) rfl (fun ls hl => ?_)
  refine lv_aload_n hx hb dX4_expand_30 rfl (lv_at hl 2 rfl) ?_
  refine va_get (D := D) (ci := 4) (v := .ref a11) (C := RX4) (T := TX4) (N := 13) hx hb hts iX4_expand_X4 hown hK hP 0 rfl rfl 12 (by decide +kernel) w_1 (fun _ h9 => h9) rfl dX4_expand_31 ?_
  refine lv_iload_n hx hb dX4_expand_34 rfl (lv_at hl 1 rfl) ?_
  refine nj_i (ws := [(a0, .inr (4, [.ref a1, .ref a2, .ref a3, .int 1, .int 1, .ref a4, .ref a5, .ref a6, .ref a7, .ref a8, .ref a9, .ref a10, .ref a11])), (a2, .inl (y 0, 2000, .inl nz)), (a5, .inl (y 2, 2000, .inl (upd nz 0 1))), (a6, .inl (y 0, 16000, .inl (upd (upd (upd nz 0 (-1)) 1 (-1)) 2 (-1)))), (a11, .inr (7, [.ref a12, .ref a13, .ref a14, .ref a15, .int 0, .int 0, .ref a16, .ref a17, .ref a18, .ref a19]))]) (wc := [(a11, .inr (7, [.ref a12, .ref a13, .ref a14, .ref a15, .int 0, .int 0, .ref a16, .ref a17, .ref a18, .ref a19]))]) (wr := [(a0, .inr (4, [.ref a1, .ref a2, .ref a3, .int 1, .int 1, .ref a4, .ref a5, .ref a6, .ref a7, .ref a8, .ref a9, .ref a10, .ref a11])), (a2, .inl (y 0, 2000, .inl nz)), (a5, .inl (y 2, 2000, .inl (upd nz 0 1))), (a6, .inl (y 0, 16000, .inl (upd (upd (upd nz 0 (-1)) 1 (-1)) 2 (-1))))]) (nr_V (As := [.int 4]) (rest := []) ⟨hx, hb, hml, hown, hts⟩ (cX7_isSold_2 l D y a11 4 (by decide +kernel) a12 a13 a14 a15 a16 a17 a18 a19 H.size) (cwV 1 hts gX4_expand_X7_isSold rfl rfl rfl (by decide +kernel) ⟨Nat.le_of_ble_eq_true rfl, Nat.le_of_ble_eq_true rfl⟩) hK hP hD hE [4] rfl (by decide +kernel) 0 7 rfl rfl rfl rfl rfl hl.1 rfl (lv_room (Nat.le_of_ble_eq_true rfl)) dX4_expand_35 ⟨Nat.le_of_ble_eq_true rfl, Nat.le_of_ble_eq_true rfl⟩) hP hD hS hA [4] [0, 1, 2, 3] rfl rfl (by decide +kernel) (by decide +kernel) (fun r10 u9 H locs er10 hP hD hS => ?_)
  replace hP : va_P D vwCl [(a0, .inr (4, [.ref a1, .ref a2, .ref a3, .int 1, .int 1, .ref a4, .ref a5, .ref a6, .ref a7, .ref a8, .ref a9, .ref a10, .ref a11])), (a2, .inl (y 0, 2000, .inl nz)), (a5, .inl (y 2, 2000, .inl (upd nz 0 1))), (a6, .inl (y 0, 16000, .inl (upd (upd (upd nz 0 (-1)) 1 (-1)) 2 (-1)))), (a11, .inr (7, [.ref a12, .ref a13, .ref a14, .ref a15, .int 0, .int 0, .ref a16, .ref a17, .ref a18, .ref a19]))] H := hP
  replace hD : va_D A [(a0, .inr (4, [.ref a1, .ref a2, .ref a3, .int 1, .int 1, .ref a4, .ref a5, .ref a6, .ref a7, .ref a8, .ref a9, .ref a10, .ref a11])), (a2, .inl (y 0, 2000, .inl nz)), (a5, .inl (y 2, 2000, .inl (upd nz 0 1))), (a6, .inl (y 0, 16000, .inl (upd (upd (upd nz 0 (-1)) 1 (-1)) 2 (-1)))), (a11, .inr (7, [.ref a12, .ref a13, .ref a14, .ref a15, .int 0, .int 0, .ref a16, .ref a17, .ref a18, .ref a19]))] := hD
  subst er10
  refine lv_if_eq (tgt := 66) hx hb dX4_expand_38 (by decide +kernel) (fun _ => ?_) (fun c => absurd (by decide +kernel) c)
  refine lv_aload_n hx hb dX4_expand_66 rfl (lv_at hl 2 rfl) ?_
  refine va_get (D := D) (ci := 4) (v := .ref a6) (C := RX4) (T := TX4) (N := 13) hx hb hts iX4_expand_X4 hown hK hP 0 rfl rfl 7 (by decide +kernel) w_3 (fun _ h9 => h9) rfl dX4_expand_67 ?_
  refine lv_iload_n hx hb dX4_expand_70 rfl (lv_at hl 3 rfl) ?_
  refine lv_bipush (v := 8) hx hb dX4_expand_71 (by decide +kernel) ?_
  refine lv_imul hx hb dX4_expand_73 ?_
  refine nv_i (v := 0) (by decide +kernel) ?_
  refine lv_iload_n hx hb dX4_expand_74 rfl (lv_at hl 1 rfl) ?_
  refine lv_iadd hx hb dX4_expand_75 ?_
  refine nv_i (v := 4) (by decide +kernel) ?_
  refine lv_iconst (v := 1) hx hb dX4_expand_76 (by decide +kernel) ?_
  refine lv_isub hx hb dX4_expand_77 ?_
  refine nv_i (v := 3) (by decide +kernel) ?_
  refine lv_iload_n hx hb dX4_expand_78 rfl (lv_at hl 0 rfl) ?_
  refine nb_iast (ws' := [(a0, .inr (4, [.ref a1, .ref a2, .ref a3, .int 1, .int 1, .ref a4, .ref a5, .ref a6, .ref a7, .ref a8, .ref a9, .ref a10, .ref a11])), (a2, .inl (y 0, 2000, .inl nz)), (a5, .inl (y 2, 2000, .inl (upd nz 0 1))), (a6, .inl (y 0, 16000, .inl (upd (upd (upd (upd nz 0 (-1)) 1 (-1)) 2 (-1)) 3 (-1)))), (a11, .inr (7, [.ref a12, .ref a13, .ref a14, .ref a15, .int 0, .int 0, .ref a16, .ref a17, .ref a18, .ref a19]))]) hx hb hK hP hD hS 3 0 rfl rfl (n_in (by decide +kernel)) rfl dX4_expand_79 (fun H locs hP hD hS => ?_)
  refine lv_iinc (v := 5) (lv' := [(2, .int 5), (3, .int (-1)), (0, .ref a0), (1, .int 0)]) hx hb dX4_expand_80 hl (k := 1) rfl (by decide +kernel) (by decide +kernel) rfl (fun ls hl => ?_)
  refine lv_goto (tgt := 22) hx hb dX4_expand_83 (by decide +kernel) ?_
  refine lv_iload_n hx hb dX4_expand_22 rfl (lv_at hl 0 rfl) ?_
  refine lv_bipush (v := 8) hx hb dX4_expand_23 (by decide +kernel) ?_
  refine lv_icmp_gt (tgt := 86) hx hb dX4_expand_25 (by decide +kernel) (fun c => absurd c (by decide +kernel)) (fun _ => ?_)
  refine lv_iconst (v := (-1)) hx hb dX4_expand_28 (by decide +kernel) ?_
  refine lv_istore_n (lv' := [(3, .int (-1)), (2, .int 5), (0, .ref a0), (1, .int 0)]) hx hb dX4_expand_29 rfl hl (by decide +kernel) rfl (fun ls hl => ?_)
  refine lv_aload_n hx hb dX4_expand_30 rfl (lv_at hl 2 rfl) ?_
  refine va_get (D := D) (ci := 4) (v := .ref a11) (C := RX4) (T := TX4) (N := 13) hx hb hts iX4_expand_X4 hown hK hP 0 rfl rfl 12 (by decide +kernel) w_1 (fun _ h9 => h9) rfl dX4_expand_31 ?_
  refine lv_iload_n hx hb dX4_expand_34 rfl (lv_at hl 1 rfl) ?_
  refine nj_i (ws := [(a0, .inr (4, [.ref a1, .ref a2, .ref a3, .int 1, .int 1, .ref a4, .ref a5, .ref a6, .ref a7, .ref a8, .ref a9, .ref a10, .ref a11])), (a2, .inl (y 0, 2000, .inl nz)), (a5, .inl (y 2, 2000, .inl (upd nz 0 1))), (a6, .inl (y 0, 16000, .inl (upd (upd (upd (upd nz 0 (-1)) 1 (-1)) 2 (-1)) 3 (-1)))), (a11, .inr (7, [.ref a12, .ref a13, .ref a14, .ref a15, .int 0, .int 0, .ref a16, .ref a17, .ref a18, .ref a19]))]) (wc := [(a11, .inr (7, [.ref a12, .ref a13, .ref a14, .ref a15, .int 0, .int 0, .ref a16, .ref a17, .ref a18, .ref a19]))]) (wr := [(a0, .inr (4, [.ref a1, .ref a2, .ref a3, .int 1, .int 1, .ref a4, .ref a5, .ref a6, .ref a7, .ref a8, .ref a9, .ref a10, .ref a11])), (a2, .inl (y 0, 2000, .inl nz)), (a5, .inl (y 2, 2000, .inl (upd nz 0 1))), (a6, .inl (y 0, 16000, .inl (upd (upd (upd (upd nz 0 (-1)) 1 (-1)) 2 (-1)) 3 (-1))))]) (nr_V (As := [.int 5]) (rest := []) ⟨hx, hb, hml, hown, hts⟩ (cX7_isSold_2 l D y a11 5 (by decide +kernel) a12 a13 a14 a15 a16 a17 a18 a19 H.size) (cwV 1 hts gX4_expand_X7_isSold rfl rfl rfl (by decide +kernel) ⟨Nat.le_of_ble_eq_true rfl, Nat.le_of_ble_eq_true rfl⟩) hK hP hD hE [4] rfl (by decide +kernel) 0 7 rfl rfl rfl rfl rfl hl.1 rfl (lv_room (Nat.le_of_ble_eq_true rfl)) dX4_expand_35 ⟨Nat.le_of_ble_eq_true rfl, Nat.le_of_ble_eq_true rfl⟩) hP hD hS hA [4] [0, 1, 2, 3] rfl rfl (by decide +kernel) (by decide +kernel) (fun r12 u11 H locs er12 hP hD hS => ?_)
  replace hP : va_P D vwCl [(a0, .inr (4, [.ref a1, .ref a2, .ref a3, .int 1, .int 1, .ref a4, .ref a5, .ref a6, .ref a7, .ref a8, .ref a9, .ref a10, .ref a11])), (a2, .inl (y 0, 2000, .inl nz)), (a5, .inl (y 2, 2000, .inl (upd nz 0 1))), (a6, .inl (y 0, 16000, .inl (upd (upd (upd (upd nz 0 (-1)) 1 (-1)) 2 (-1)) 3 (-1)))), (a11, .inr (7, [.ref a12, .ref a13, .ref a14, .ref a15, .int 0, .int 0, .ref a16, .ref a17, .ref a18, .ref a19]))] H := hP
  replace hD : va_D A [(a0, .inr (4, [.ref a1, .ref a2, .ref a3, .int 1, .int 1, .ref a4, .ref a5, .ref a6, .ref a7, .ref a8, .ref a9, .ref a10, .ref a11])), (a2, .inl (y 0, 2000, .inl nz)), (a5, .inl (y 2, 2000, .inl (upd nz 0 1))), (a6, .inl (y 0, 16000, .inl (upd (upd (upd (upd nz 0 (-1)) 1 (-1)) 2 (-1)) 3 (-1)))), (a11, .inr (7, [.ref a12, .ref a13, .ref a14, .ref a15, .int 0, .int 0, .ref a16, .ref a17, .ref a18, .ref a19]))] := hD
  subst er12
  refine lv_if_eq (tgt := 66) hx hb dX4_expand_38 (by decide +kernel) (fun _ => ?_) (fun c => absurd (by decide +kernel) c)
  refine lv_aload_n hx hb dX4_expand_66 rfl (lv_at hl 2 rfl) ?_
  refine va_get (D := D) (ci := 4) (v := .ref a6) (C := RX4) (T := TX4) (N := 13) hx hb hts iX4_expand_X4 hown hK hP 0 rfl rfl 7 (by decide +kernel) w_3 (fun _ h9 => h9) rfl dX4_expand_67 ?_
  refine lv_iload_n hx hb dX4_expand_70 rfl (lv_at hl 3 rfl) ?_
  refine lv_bipush (v := 8) hx hb dX4_expand_71 (by decide +kernel) ?_
  refine lv_imul hx hb dX4_expand_73 ?_
  refine nv_i (v := 0) (by decide +kernel) ?_
  refine lv_iload_n hx hb dX4_expand_74 rfl (lv_at hl 1 rfl) ?_
  refine lv_iadd hx hb dX4_expand_75 ?_
  refine nv_i (v := 5) (by decide +kernel) ?_
  refine lv_iconst (v := 1) hx hb dX4_expand_76 (by decide +kernel) ?_
  refine lv_isub hx hb dX4_expand_77 ?_
  refine nv_i (v := 4) (by decide +kernel) ?_
  refine lv_iload_n hx hb dX4_expand_78 rfl (lv_at hl 0 rfl) ?_
  refine nb_iast (ws' := [(a0, .inr (4, [.ref a1, .ref a2, .ref a3, .int 1, .int 1, .ref a4, .ref a5, .ref a6, .ref a7, .ref a8, .ref a9, .ref a10, .ref a11])), (a2, .inl (y 0, 2000, .inl nz)), (a5, .inl (y 2, 2000, .inl (upd nz 0 1))), (a6, .inl (y 0, 16000, .inl (upd (upd (upd (upd (upd nz 0 (-1)) 1 (-1)) 2 (-1)) 3 (-1)) 4 (-1)))), (a11, .inr (7, [.ref a12, .ref a13, .ref a14, .ref a15, .int 0, .int 0, .ref a16, .ref a17, .ref a18, .ref a19]))]) hx hb hK hP hD hS 3 0 rfl rfl (n_in (by decide +kernel)) rfl dX4_expand_79 (fun H locs hP hD hS => ?_)
  refine lv_iinc (v := 6) (lv' := [(2, .int 6), (3, .int (-1)), (0, .ref a0), (1, .int 0)]) hx hb dX4_expand_80 hl (k := 1) rfl (by decide +kernel) (by decide +kernel) rfl (fun ls hl => ?_)
  refine lv_goto (tgt := 22) hx hb dX4_expand_83 (by decide +kernel) ?_
  refine lv_iload_n hx hb dX4_expand_22 rfl (lv_at hl 0 rfl) ?_
  refine lv_bipush (v := 8) hx hb dX4_expand_23 (by decide +kernel) ?_
  refine lv_icmp_gt (tgt := 86) hx hb dX4_expand_25 (by decide +kernel) (fun c => absurd c (by decide +kernel)) (fun _ => ?_)
  refine lv_iconst (v := (-1)) hx hb dX4_expand_28 (by decide +kernel) ?_
  refine lv_istore_n (lv' := [(3, .int (-1)), (2, .int 6), (0, .ref a0), (1, .int 0)]) hx hb dX4_expand_29 rfl hl (by decide +kernel) rfl (fun ls hl => ?_)
  refine lv_aload_n hx hb dX4_expand_30 rfl (lv_at hl 2 rfl) ?_
  refine va_get (D := D) (ci := 4) (v := .ref a11) (C := RX4) (T := TX4) (N := 13) hx hb hts iX4_expand_X4 hown hK hP 0 rfl rfl 12 (by decide +kernel) w_1 (fun _ h9 => h9) rfl dX4_expand_31 ?_
  refine lv_iload_n hx hb dX4_expand_34 rfl (lv_at hl 1 rfl) ?_
  refine nj_i (ws := [(a0, .inr (4, [.ref a1, .ref a2, .ref a3, .int 1, .int 1, .ref a4, .ref a5, .ref a6, .ref a7, .ref a8, .ref a9, .ref a10, .ref a11])), (a2, .inl (y 0, 2000, .inl nz)), (a5, .inl (y 2, 2000, .inl (upd nz 0 1))), (a6, .inl (y 0, 16000, .inl (upd (upd (upd (upd (upd nz 0 (-1)) 1 (-1)) 2 (-1)) 3 (-1)) 4 (-1)))), (a11, .inr (7, [.ref a12, .ref a13, .ref a14, .ref a15, .int 0, .int 0, .ref a16, .ref a17, .ref a18, .ref a19]))]) (wc := [(a11, .inr (7, [.ref a12, .ref a13, .ref a14, .ref a15, .int 0, .int 0, .ref a16, .ref a17, .ref a18, .ref a19]))]) (wr := [(a0, .inr (4, [.ref a1, .ref a2, .ref a3, .int 1, .int 1, .ref a4, .ref a5, .ref a6, .ref a7, .ref a8, .ref a9, .ref a10, .ref a11])), (a2, .inl (y 0, 2000, .inl nz)), (a5, .inl (y 2, 2000, .inl (upd nz 0 1))), (a6, .inl (y 0, 16000, .inl (upd (upd (upd (upd (upd nz 0 (-1)) 1 (-1)) 2 (-1)) 3 (-1)) 4 (-1))))]) (nr_V (As := [.int 6]) (rest := []) ⟨hx, hb, hml, hown, hts⟩ (cX7_isSold_2 l D y a11 6 (by decide +kernel) a12 a13 a14 a15 a16 a17 a18 a19 H.size) (cwV 1 hts gX4_expand_X7_isSold rfl rfl rfl (by decide +kernel) ⟨Nat.le_of_ble_eq_true rfl, Nat.le_of_ble_eq_true rfl⟩) hK hP hD hE [4] rfl (by decide +kernel) 0 7 rfl rfl rfl rfl rfl hl.1 rfl (lv_room (Nat.le_of_ble_eq_true rfl)) dX4_expand_35 ⟨Nat.le_of_ble_eq_true rfl, Nat.le_of_ble_eq_true rfl⟩) hP hD hS hA [4] [0, 1, 2, 3] rfl rfl (by decide +kernel) (by decide +kernel) (fun r14 u13 H locs er14 hP hD hS => ?_)
  replace hP : va_P D vwCl [(a0, .inr (4, [.ref a1, .ref a2, .ref a3, .int 1, .int 1, .ref a4, .ref a5, .ref a6, .ref a7, .ref a8, .ref a9, .ref a10, .ref a11])), (a2, .inl (y 0, 2000, .inl nz)), (a5, .inl (y 2, 2000, .inl (upd nz 0 1))), (a6, .inl (y 0, 16000, .inl (upd (upd (upd (upd (upd nz 0 (-1)) 1 (-1)) 2 (-1)) 3 (-1)) 4 (-1)))), (a11, .inr (7, [.ref a12, .ref a13, .ref a14, .ref a15, .int 0, .int 0, .ref a16, .ref a17, .ref a18, .ref a19]))] H := hP
  replace hD : va_D A [(a0, .inr (4, [.ref a1, .ref a2, .ref a3, .int 1, .int 1, .ref a4, .ref a5, .ref a6, .ref a7, .ref a8, .ref a9, .ref a10, .ref a11])), (a2, .inl (y 0, 2000, .inl nz)), (a5, .inl (y 2, 2000, .inl (upd nz 0 1))), (a6, .inl (y 0, 16000, .inl (upd (upd (upd (upd (upd nz 0 (-1)) 1 (-1)) 2 (-1)) 3 (-1)) 4 (-1)))), (a11, .inr (7, [.ref a12, .ref a13, .ref a14, .ref a15, .int 0, .int 0, .ref a16, .ref a17, .ref a18, .ref a19]))] := hD
  subst er14
  refine lv_if_eq (tgt := 66) hx hb dX4_expand_38 (by decide +kernel) (fun _ => ?_) (fun c => absurd (by decide +kernel) c)
  refine lv_aload_n hx hb dX4_expand_66 rfl (lv_at hl 2 rfl) ?_
  refine va_get (D := D) (ci := 4) (v := .ref a6) (C := RX4) (T := TX4) (N := 13) hx hb hts iX4_expand_X4 hown hK hP 0 rfl rfl 7 (by decide +kernel) w_3 (fun _ h9 => h9) rfl dX4_expand_67 ?_
  refine lv_iload_n hx hb dX4_expand_70 rfl (lv_at hl 3 rfl) ?_
  refine lv_bipush (v := 8) hx hb dX4_expand_71 (by decide +kernel) ?_
  refine lv_imul hx hb dX4_expand_73 ?_
  refine nv_i (v := 0) (by decide +kernel) ?_
  refine lv_iload_n hx hb dX4_expand_74 rfl (lv_at hl 1 rfl) ?_
  refine lv_iadd hx hb dX4_expand_75 ?_
  refine nv_i (v := 6) (by decide +kernel) ?_
  refine lv_iconst (v := 1) hx hb dX4_expand_76 (by decide +kernel) ?_
  refine lv_isub hx hb dX4_expand_77 ?_
  refine nv_i (v := 5) (by decide +kernel) ?_
  refine lv_iload_n hx hb dX4_expand_78 rfl (lv_at hl 0 rfl) ?_
  refine nb_iast (ws' := [(a0, .inr (4, [.ref a1, .ref a2, .ref a3, .int 1, .int 1, .ref a4, .ref a5, .ref a6, .ref a7, .ref a8, .ref a9, .ref a10, .ref a11])), (a2, .inl (y 0, 2000, .inl nz)), (a5, .inl (y 2, 2000, .inl (upd nz 0 1))), (a6, .inl (y 0, 16000, .inl (upd (upd (upd (upd (upd (upd nz 0 (-1)) 1 (-1)) 2 (-1)) 3 (-1)) 4 (-1)) 5 (-1)))), (a11, .inr (7, [.ref a12, .ref a13, .ref a14, .ref a15, .int 0, .int 0, .ref a16, .ref a17, .ref a18, .ref a19]))]) hx hb hK hP hD hS 3 0 rfl rfl (n_in (by decide +kernel)) rfl dX4_expand_79 (fun H locs hP hD hS => ?_)
  refine lv_iinc (v := 7) (lv' := [(2, .int 7), (3, .int (-1)), (0, .ref a0), (1, .int 0)]) hx hb dX4_expand_80 hl (k := 1) rfl (by decide +kernel) (by decide +kernel) rfl (fun ls hl => ?_)
  refine lv_goto (tgt := 22) hx hb dX4_expand_83 (by decide +kernel) ?_
  refine lv_iload_n hx hb dX4_expand_22 rfl (lv_at hl 0 rfl) ?_
  refine lv_bipush (v := 8) hx hb dX4_expand_23 (by decide +kernel) ?_
  refine lv_icmp_gt (tgt := 86) hx hb dX4_expand_25 (by decide +kernel) (fun c => absurd c (by decide +kernel)) (fun _ => ?_)
  refine lv_iconst (v := (-1)) hx hb dX4_expand_28 (by decide +kernel) ?_
  refine lv_istore_n (lv' := [(3, .int (-1)), (2, .int 7), (0, .ref a0), (1, .int 0)]) hx hb dX4_expand_29 rfl hl (by decide +kernel) rfl (fun ls hl => ?_)
  refine lv_aload_n hx hb dX4_expand_30 rfl (lv_at hl 2 rfl) ?_
  refine va_get (D := D) (ci := 4) (v := .ref a11) (C := RX4) (T := TX4) (N := 13) hx hb hts iX4_expand_X4 hown hK hP 0 rfl rfl 12 (by decide +kernel) w_1 (fun _ h9 => h9) rfl dX4_expand_31 ?_
  refine lv_iload_n hx hb dX4_expand_34 rfl (lv_at hl 1 rfl) ?_
  refine nj_i (ws := [(a0, .inr (4, [.ref a1, .ref a2, .ref a3, .int 1, .int 1, .ref a4, .ref a5, .ref a6, .ref a7, .ref a8, .ref a9, .ref a10, .ref a11])), (a2, .inl (y 0, 2000, .inl nz)), (a5, .inl (y 2, 2000, .inl (upd nz 0 1))), (a6, .inl (y 0, 16000, .inl (upd (upd (upd (upd (upd (upd nz 0 (-1)) 1 (-1)) 2 (-1)) 3 (-1)) 4 (-1)) 5 (-1)))), (a11, .inr (7, [.ref a12, .ref a13, .ref a14, .ref a15, .int 0, .int 0, .ref a16, .ref a17, .ref a18, .ref a19]))]) (wc := [(a11, .inr (7, [.ref a12, .ref a13, .ref a14, .ref a15, .int 0, .int 0, .ref a16, .ref a17, .ref a18, .ref a19]))]) (wr := [(a0, .inr (4, [.ref a1, .ref a2, .ref a3, .int 1, .int 1, .ref a4, .ref a5, .ref a6, .ref a7, .ref a8, .ref a9, .ref a10, .ref a11])), (a2, .inl (y 0, 2000, .inl nz)), (a5, .inl (y 2, 2000, .inl (upd nz 0 1))), (a6, .inl (y 0, 16000, .inl (upd (upd (upd (upd (upd (upd nz 0 (-1)) 1 (-1)) 2 (-1)) 3 (-1)) 4 (-1)) 5 (-1))))]) (nr_V (As := [.int 7]) (rest := []) ⟨hx, hb, hml, hown, hts⟩ (cX7_isSold_2 l D y a11 7 (by decide +kernel) a12 a13 a14 a15 a16 a17 a18 a19 H.size) (cwV 1 hts gX4_expand_X7_isSold rfl rfl rfl (by decide +kernel) ⟨Nat.le_of_ble_eq_true rfl, Nat.le_of_ble_eq_true rfl⟩) hK hP hD hE [4] rfl (by decide +kernel) 0 7 rfl rfl rfl rfl rfl hl.1 rfl (lv_room (Nat.le_of_ble_eq_true rfl)) dX4_expand_35 ⟨Nat.le_of_ble_eq_true rfl, Nat.le_of_ble_eq_true rfl⟩) hP hD hS hA [4] [0, 1, 2, 3] rfl rfl (by decide +kernel) (by decide +kernel) (fun r16 u15 H locs er16 hP hD hS => ?_)
  replace hP : va_P D vwCl [(a0, .inr (4, [.ref a1, .ref a2, .ref a3, .int 1, .int 1, .ref a4, .ref a5, .ref a6, .ref a7, .ref a8, .ref a9, .ref a10, .ref a11])), (a2, .inl (y 0, 2000, .inl nz)), (a5, .inl (y 2, 2000, .inl (upd nz 0 1))), (a6, .inl (y 0, 16000, .inl (upd (upd (upd (upd (upd (upd nz 0 (-1)) 1 (-1)) 2 (-1)) 3 (-1)) 4 (-1)) 5 (-1)))), (a11, .inr (7, [.ref a12, .ref a13, .ref a14, .ref a15, .int 0, .int 0, .ref a16, .ref a17, .ref a18, .ref a19]))] H := hP
  replace hD : va_D A [(a0, .inr (4, [.ref a1, .ref a2, .ref a3, .int 1, .int 1, .ref a4, .ref a5, .ref a6, .ref a7, .ref a8, .ref a9, .ref a10, .ref a11])), (a2, .inl (y 0, 2000, .inl nz)), (a5, .inl (y 2, 2000, .inl (upd nz 0 1))), (a6, .inl (y 0, 16000, .inl (upd (upd (upd (upd (upd (upd nz 0 (-1)) 1 (-1)) 2 (-1)) 3 (-1)) 4 (-1)) 5 (-1)))), (a11, .inr (7, [.ref a12, .ref a13, .ref a14, .ref a15, .int 0, .int 0, .ref a16, .ref a17, .ref a18, .ref a19]))] := hD
  subst er16
  refine lv_if_eq (tgt := 66) hx hb dX4_expand_38 (by decide +kernel) (fun _ => ?_) (fun c => absurd (by decide +kernel) c)
  refine lv_aload_n hx hb dX4_expand_66 rfl (lv_at hl 2 rfl) ?_
  refine va_get (D := D) (ci := 4) (v := .ref a6) (C := RX4) (T := TX4) (N := 13) hx hb hts iX4_expand_X4 hown hK hP 0 rfl rfl 7 (by decide +kernel) w_3 (fun _ h9 => h9) rfl dX4_expand_67 ?_
  refine lv_iload_n hx hb dX4_expand_70 rfl (lv_at hl 3 rfl) ?_
  refine lv_bipush (v := 8) hx hb dX4_expand_71 (by decide +kernel) ?_
  refine lv_imul hx hb dX4_expand_73 ?_
  refine nv_i (v := 0) (by decide +kernel) ?_
  refine lv_iload_n hx hb dX4_expand_74 rfl (lv_at hl 1 rfl) ?_
  refine lv_iadd hx hb dX4_expand_75 ?_
  refine nv_i (v := 7) (by decide +kernel) ?_
  refine lv_iconst (v := 1) hx hb dX4_expand_76 (by decide +kernel) ?_
  refine lv_isub hx hb dX4_expand_77 ?_
  refine nv_i (v := 6) (by decide +kernel) ?_
  refine lv_iload_n hx hb dX4_expand_78 rfl (lv_at hl 0 rfl) ?_
  refine nb_iast (ws' := [(a0, .inr (4, [.ref a1, .ref a2, .ref a3, .int 1, .int 1, .ref a4, .ref a5, .ref a6, .ref a7, .ref a8, .ref a9, .ref a10, .ref a11])), (a2, .inl (y 0, 2000, .inl nz)), (a5, .inl (y 2, 2000, .inl (upd nz 0 1))), (a6, .inl (y 0, 16000, .inl (upd (upd (upd (upd (upd (upd (upd nz 0 (-1)) 1 (-1)) 2 (-1)) 3 (-1)) 4 (-1)) 5 (-1)) 6 (-1)))), (a11, .inr (7, [.ref a12, .ref a13, .ref a14, .ref a15, .int 0, .int 0, .ref a16, .ref a17, .ref a18, .ref a19]))]) hx hb hK hP hD hS 3 0 rfl rfl (n_in (by decide +kernel)) rfl dX4_expand_79 (fun H locs hP hD hS => ?_)
  refine lv_iinc (v := 8) (lv' := [(2, .int 8), (3, .int (-1)), (0, .ref a0), (1, .int 0)]) hx hb dX4_expand_80 hl (k := 1) rfl (by decide +kernel) (by decide +kernel) rfl (fun ls hl => ?_)
  refine lv_goto (tgt := 22) hx hb dX4_expand_83 (by decide +kernel) ?_
  refine lv_iload_n hx hb dX4_expand_22 rfl (lv_at hl 0 rfl) ?_
  refine lv_bipush (v := 8) hx hb dX4_expand_23 (by decide +kernel) ?_
  refine lv_icmp_gt (tgt := 86) hx hb dX4_expand_25 (by decide +kernel) (fun c => absurd c (by decide +kernel)) (fun _ => ?_)
  refine lv_iconst (v := (-1)) hx hb dX4_expand_28 (by decide +kernel) ?_
  refine lv_istore_n (lv' := [(3, .int (-1)), (2, .int 8), (0, .ref a0), (1, .int 0)]) hx hb dX4_expand_29 rfl hl (by decide +kernel) rfl (fun ls hl => ?_)
  refine lv_aload_n hx hb dX4_expand_30 rfl (lv_at hl 2 rfl) ?_
  refine va_get (D := D) (ci := 4) (v := .ref a11) (C := RX4) (T := TX4) (N := 13) hx hb hts iX4_expand_X4 hown hK hP 0 rfl rfl 12 (by decide +kernel) w_1 (fun _ h9 => h9) rfl dX4_expand_31 ?_
  refine lv_iload_n hx hb dX4_expand_34 rfl (lv_at hl 1 rfl) ?_
  refine nj_i (ws := [(a0, .inr (4, [.ref a1, .ref a2, .ref a3, .int 1, .int 1, .ref a4, .ref a5, .ref a6, .ref a7, .ref a8, .ref a9, .ref a10, .ref a11])), (a2, .inl (y 0, 2000, .inl nz)), (a5, .inl (y 2, 2000, .inl (upd nz 0 1))), (a6, .inl (y 0, 16000, .inl (upd (upd (upd (upd (upd (upd (upd nz 0 (-1)) 1 (-1)) 2 (-1)) 3 (-1)) 4 (-1)) 5 (-1)) 6 (-1)))), (a11, .inr (7, [.ref a12, .ref a13, .ref a14, .ref a15, .int 0, .int 0, .ref a16, .ref a17, .ref a18, .ref a19]))]) (wc := [(a11, .inr (7, [.ref a12, .ref a13, .ref a14, .ref a15, .int 0, .int 0, .ref a16, .ref a17, .ref a18, .ref a19]))]) (wr := [(a0, .inr (4, [.ref a1, .ref a2, .ref a3, .int 1, .int 1, .ref a4, .ref a5, .ref a6, .ref a7, .ref a8, .ref a9, .ref a10, .ref a11])), (a2, .inl (y 0, 2000, .inl nz)), (a5, .inl (y 2, 2000, .inl (upd nz 0 1))), (a6, .inl (y 0, 16000, .inl (upd (upd (upd (upd (upd (upd (upd nz 0 (-1)) 1 (-1)) 2 (-1)) 3 (-1)) 4 (-1)) 5 (-1)) 6 (-1))))]) (nr_V (As := [.int 8]) (rest := []) ⟨hx, hb, hml, hown, hts⟩ (cX7_isSold_2 l D y a11 8 (by decide +kernel) a12 a13 a14 a15 a16 a17 a18 a19 H.size) (cwV 1 hts gX4_expand_X7_isSold rfl rfl rfl (by decide +kernel) ⟨Nat.le_of_ble_eq_true rfl, Nat.le_of_ble_eq_true rfl⟩) hK hP hD hE [4] rfl (by decide +kernel) 0 7 rfl rfl rfl rfl rfl hl.1 rfl (lv_room (Nat.le_of_ble_eq_true rfl)) dX4_expand_35 ⟨Nat.le_of_ble_eq_true rfl, Nat.le_of_ble_eq_true rfl⟩) hP hD hS hA [4] [0, 1, 2, 3] rfl rfl (by decide +kernel) (by decide +kernel) (fun r18 u17 H locs er18 hP hD hS => ?_)
  replace hP : va_P D vwCl [(a0, .inr (4, [.ref a1, .ref a2, .ref a3, .int 1, .int 1, .ref a4, .ref a5, .ref a6, .ref a7, .ref a8, .ref a9, .ref a10, .ref a11])), (a2, .inl (y 0, 2000, .inl nz)), (a5, .inl (y 2, 2000, .inl (upd nz 0 1))), (a6, .inl (y 0, 16000, .inl (upd (upd (upd (upd (upd (upd (upd nz 0 (-1)) 1 (-1)) 2 (-1)) 3 (-1)) 4 (-1)) 5 (-1)) 6 (-1)))), (a11, .inr (7, [.ref a12, .ref a13, .ref a14, .ref a15, .int 0, .int 0, .ref a16, .ref a17, .ref a18, .ref a19]))] H := hP
  replace hD : va_D A [(a0, .inr (4, [.ref a1, .ref a2, .ref a3, .int 1, .int 1, .ref a4, .ref a5, .ref a6, .ref a7, .ref a8, .ref a9, .ref a10, .ref a11])), (a2, .inl (y 0, 2000, .inl nz)), (a5, .inl (y 2, 2000, .inl (upd nz 0 1))), (a6, .inl (y 0, 16000, .inl (upd (upd (upd (upd (upd (upd (upd nz 0 (-1)) 1 (-1)) 2 (-1)) 3 (-1)) 4 (-1)) 5 (-1)) 6 (-1)))), (a11, .inr (7, [.ref a12, .ref a13, .ref a14, .ref a15, .int 0, .int 0, .ref a16, .ref a17, .ref a18, .ref a19]))] := hD
  subst er18
  refine lv_if_eq (tgt := 66) hx hb dX4_expand_38 (by decide +kernel) (fun _ => ?_) (fun c => absurd (by decide +kernel) c)
  refine lv_aload_n hx hb dX4_expand_66 rfl (lv_at hl 2 rfl) ?_
  refine va_get (D := D) (ci := 4) (v := .ref a6) (C := RX4) (T := TX4) (N := 13) hx hb hts iX4_expand_X4 hown hK hP 0 rfl rfl 7 (by decide +kernel) w_3 (fun _ h9 => h9) rfl dX4_expand_67 ?_
  refine lv_iload_n hx hb dX4_expand_70 rfl (lv_at hl 3 rfl) ?_
  refine lv_bipush (v := 8) hx hb dX4_expand_71 (by decide +kernel) ?_
  refine lv_imul hx hb dX4_expand_73 ?_
  refine nv_i (v := 0) (by decide +kernel) ?_
  refine lv_iload_n hx hb dX4_expand_74 rfl (lv_at hl 1 rfl) ?_
  refine lv_iadd hx hb dX4_expand_75 ?_
  refine nv_i (v := 8) (by decide +kernel) ?_
  refine lv_iconst (v := 1) hx hb dX4_expand_76 (by decide +kernel) ?_
  refine lv_isub hx hb dX4_expand_77 ?_
  refine nv_i (v := 7) (by decide +kernel) ?_
  refine lv_iload_n hx hb dX4_expand_78 rfl (lv_at hl 0 rfl) ?_
  refine nb_iast (ws' := [(a0, .inr (4, [.ref a1, .ref a2, .ref a3, .int 1, .int 1, .ref a4, .ref a5, .ref a6, .ref a7, .ref a8, .ref a9, .ref a10, .ref a11])), (a2, .inl (y 0, 2000, .inl nz)), (a5, .inl (y 2, 2000, .inl (upd nz 0 1))), (a6, .inl (y 0, 16000, .inl (upd (upd (upd (upd (upd (upd (upd (upd nz 0 (-1)) 1 (-1)) 2 (-1)) 3 (-1)) 4 (-1)) 5 (-1)) 6 (-1)) 7 (-1)))), (a11, .inr (7, [.ref a12, .ref a13, .ref a14, .ref a15, .int 0, .int 0, .ref a16, .ref a17, .ref a18, .ref a19]))]) hx hb hK hP hD hS 3 0 rfl rfl (n_in (by decide +kernel)) rfl dX4_expand_79 (fun H locs hP hD hS => ?_)
  refine lv_iinc (v := 9) (lv' := [(2, .int 9), (3, .int (-1)), (0, .ref a0), (1, .int 0)]) hx hb dX4_expand_80 hl (k := 1) rfl (by decide +kernel) (by decide +kernel) rfl (fun ls hl => ?_)
  refine lv_goto (tgt := 22) hx hb dX4_expand_83 (by decide +kernel) ?_
  refine lv_iload_n hx hb dX4_expand_22 rfl (lv_at hl 0 rfl) ?_
  refine lv_bipush (v := 8) hx hb dX4_expand_23 (by decide +kernel) ?_
  refine lv_icmp_gt (tgt := 86) hx hb dX4_expand_25 (by decide +kernel) (fun _ => ?_) (fun c => absurd (by decide +kernel) c)
  refine W.widen (k := 0) (n := 0) (Nat.le_of_ble_eq_true rfl) (Nat.le_of_ble_eq_true rfl) ?_
  exact W.vret hx hb hr (fun t ht hW => ⟨⟨(fun _ => 0), rfl, trivial, by rw [ht]; exact hP, va_K.moved hW.alike hK, hD⟩, hS.F ht⟩) hS.2.2 dX4_expand_86 hlocks
