theorem dX12_load_0 : decode cX12_load 0 = .ok (.iconst 0, 1) := by decide +kernel
theorem dX12_load_1 : decode cX12_load 1 = .ok (.istore_n 2, 1) := by decide +kernel
theorem dX12_load_2 : decode cX12_load 2 = .ok (.iload_n 2, 1) := by decide +kernel
theorem dX12_load_3 : decode cX12_load 3 = .ok (.bipush 9, 2) := by decide +kernel
theorem dX12_load_5 : decode cX12_load 5 = .ok (.if_icmp .ge 60, 3) := by decide +kernel
theorem dX12_load_8 : decode cX12_load 8 = .ok (.aload_n 0, 1) := by decide +kernel
theorem dX12_load_9 : decode cX12_load 9 = .ok (.getfield 29, 3) := by decide +kernel
theorem dX12_load_12 : decode cX12_load 12 = .ok (.iload_n 2, 1) := by decide +kernel
theorem dX12_load_13 : decode cX12_load 13 = .ok (.aload_n 0, 1) := by decide +kernel
theorem dX12_load_14 : decode cX12_load 14 = .ok (.getfield 79, 3) := by decide +kernel
theorem dX12_load_17 : decode cX12_load 17 = .ok (.bipush 9, 2) := by decide +kernel
theorem dX12_load_19 : decode cX12_load 19 = .ok (.iload_n 1, 1) := by decide +kernel
theorem dX12_load_20 : decode cX12_load 20 = .ok (.imul, 1) := by decide +kernel
theorem dX12_load_21 : decode cX12_load 21 = .ok (.iload_n 2, 1) := by decide +kernel
theorem dX12_load_22 : decode cX12_load 22 = .ok (.iadd, 1) := by decide +kernel
theorem dX12_load_23 : decode cX12_load 23 = .ok (.iaload, 1) := by decide +kernel
theorem dX12_load_24 : decode cX12_load 24 = .ok (.iastore, 1) := by decide +kernel
theorem dX12_load_25 : decode cX12_load 25 = .ok (.aload_n 0, 1) := by decide +kernel
theorem dX12_load_26 : decode cX12_load 26 = .ok (.getfield 9, 3) := by decide +kernel
theorem dX12_load_29 : decode cX12_load 29 = .ok (.iload_n 2, 1) := by decide +kernel
theorem dX12_load_30 : decode cX12_load 30 = .ok (.aload_n 0, 1) := by decide +kernel
theorem dX12_load_31 : decode cX12_load 31 = .ok (.getfield 82, 3) := by decide +kernel
theorem dX12_load_34 : decode cX12_load 34 = .ok (.bipush 9, 2) := by decide +kernel
theorem dX12_load_36 : decode cX12_load 36 = .ok (.iload_n 1, 1) := by decide +kernel
theorem dX12_load_37 : decode cX12_load 37 = .ok (.imul, 1) := by decide +kernel
theorem dX12_load_38 : decode cX12_load 38 = .ok (.iload_n 2, 1) := by decide +kernel
theorem dX12_load_39 : decode cX12_load 39 = .ok (.iadd, 1) := by decide +kernel
theorem dX12_load_40 : decode cX12_load 40 = .ok (.iaload, 1) := by decide +kernel
theorem dX12_load_41 : decode cX12_load 41 = .ok (.iastore, 1) := by decide +kernel
theorem dX12_load_42 : decode cX12_load 42 = .ok (.aload_n 0, 1) := by decide +kernel
theorem dX12_load_43 : decode cX12_load 43 = .ok (.getfield 26, 3) := by decide +kernel
theorem dX12_load_46 : decode cX12_load 46 = .ok (.iload_n 2, 1) := by decide +kernel
theorem dX12_load_47 : decode cX12_load 47 = .ok (.aload_n 0, 1) := by decide +kernel
theorem dX12_load_48 : decode cX12_load 48 = .ok (.getfield 85, 3) := by decide +kernel
theorem dX12_load_51 : decode cX12_load 51 = .ok (.bipush 9, 2) := by decide +kernel
theorem dX12_load_53 : decode cX12_load 53 = .ok (.iload_n 1, 1) := by decide +kernel
theorem dX12_load_54 : decode cX12_load 54 = .ok (.imul, 1) := by decide +kernel
theorem dX12_load_55 : decode cX12_load 55 = .ok (.iload_n 2, 1) := by decide +kernel
theorem dX12_load_56 : decode cX12_load 56 = .ok (.iadd, 1) := by decide +kernel
theorem dX12_load_57 : decode cX12_load 57 = .ok (.iaload, 1) := by decide +kernel
theorem dX12_load_58 : decode cX12_load 58 = .ok (.iastore, 1) := by decide +kernel
theorem dX12_load_59 : decode cX12_load 59 = .ok (.iinc 2 1, 3) := by decide +kernel
theorem dX12_load_62 : decode cX12_load 62 = .ok (.goto (-60), 3) := by decide +kernel
theorem dX12_load_65 : decode cX12_load 65 = .ok (.return_, 1) := by decide +kernel
theorem iX12_load_X12 : ∀ w ∈ u_ws RX12 TX12 72, w ∈ wsX12_load := by decide +kernel
set_option maxRecDepth 100000 in
set_option maxHeartbeats 4000000 in
theorem cX12_load_1 (l : Launch) (D : va_G) (y : Nat → ClassId) (a0 : Nat) (a1 : Nat) (a2 : Nat) (a3 : Nat) (a4 : Nat) (a5 : Nat) (a6 : Nat) (a7 : Nat) (a8 : Nat) (a9 : Nat) (a10 : Nat) (a11 : Nat) (a12 : Nat) (a13 : Nat) (a14 : Nat) (a15 : Nat) (a16 : Nat) (a17 : Nat) (a18 : Nat) (a19 : Nat) (a20 : Nat) (a21 : Nat) (a22 : Nat) (a23 : Nat) (a24 : Nat) (a25 : Nat) (a26 : Nat) (a27 : Nat) (a28 : Nat) (a29 : Nat) (a30 : Nat) (a31 : Nat) (a32 : Nat) (a33 : Nat) (a34 : Nat) (a35 : Nat) (sz : Nat) : Met l yX12_load wsX12_load { frames := 2, cells := 0, slots := 0, locals := 200 } (nPc D y nT [.ref a0, .int 0] [(a0, .inr (12, [.int 0, .ref a1, .ref a2, .ref a3, .ref a4, .ref a5, .ref a6, .ref a7, .int 0, .ref a8, .int 0, .ref a9, .ref a10, .int 1, .ref a11, .int 0, .ref a12, .int 0, .int 0, .null, .int 0, .int 0, .int 0, .int 0, .ref a13, .ref a14, .ref a15, .int (-1), .int 0, .int 0, .int 0, .int 0, .int 0, .int 0, .int 0, .ref a16, .int 0, .ref a17, .int 0, .ref a18, .ref a19, .int 0, .int 0, .int 0, .int 0, .ref a20, .ref a21, .ref a22, .ref a23, .ref a24, .ref a25, .ref a26, .ref a27, .ref a28, .int 1, .ref a29, .ref a30, .ref a31, .long 0, .int 0, .int 0, .int 0, .long 0, .int 0, .ref a32, .int 0, .int 0, .int 0, .int 0, .ref a33, .ref a34, .ref a35])), (a20, .inl (y 0, 18000, .inl nz)), (a7, .inl (y 0, 9, .inl nz)), (a21, .inl (y 0, 18000, .inl nz)), (a1, .inl (y 0, 9, .inl nz)), (a22, .inl (y 0, 18000, .inl nz)), (a6, .inl (y 0, 9, .inl nz))] sz) ((fun A => nQv D y (fun _ => True) (fun u => [(a0, .inr (12, [.int 0, .ref a1, .ref a2, .ref a3, .ref a4, .ref a5, .ref a6, .ref a7, .int 0, .ref a8, .int 0, .ref a9, .ref a10, .int 1, .ref a11, .int 0, .ref a12, .int 0, .int 0, .null, .int 0, .int 0, .int 0, .int 0, .ref a13, .ref a14, .ref a15, .int (-1), .int 0, .int 0, .int 0, .int 0, .int 0, .int 0, .int 0, .ref a16, .int 0, .ref a17, .int 0, .ref a18, .ref a19, .int 0, .int 0, .int 0, .int 0, .ref a20, .ref a21, .ref a22, .ref a23, .ref a24, .ref a25, .ref a26, .ref a27, .ref a28, .int 1, .ref a29, .ref a30, .ref a31, .long 0, .int 0, .int 0, .int 0, .long 0, .int 0, .ref a32, .int 0, .int 0, .int 0, .int 0, .ref a33, .ref a34, .ref a35])), (a20, .inl (y 0, 18000, .inl nz)), (a7, .inl (y 0, 9, .inl nz)), (a21, .inl (y 0, 18000, .inl nz)), (a1, .inl (y 0, 9, .inl nz)), (a22, .inl (y 0, 18000, .inl nz)), (a6, .inl (y 0, 9, .inl nz))]) A) (va_A [(a0, .inr (12, [.int 0, .ref a1, .ref a2, .ref a3, .ref a4, .ref a5, .ref a6, .ref a7, .int 0, .ref a8, .int 0, .ref a9, .ref a10, .int 1, .ref a11, .int 0, .ref a12, .int 0, .int 0, .null, .int 0, .int 0, .int 0, .int 0, .ref a13, .ref a14, .ref a15, .int (-1), .int 0, .int 0, .int 0, .int 0, .int 0, .int 0, .int 0, .ref a16, .int 0, .ref a17, .int 0, .ref a18, .ref a19, .int 0, .int 0, .int 0, .int 0, .ref a20, .ref a21, .ref a22, .ref a23, .ref a24, .ref a25, .ref a26, .ref a27, .ref a28, .int 1, .ref a29, .ref a30, .ref a31, .long 0, .int 0, .int 0, .int 0, .long 0, .int 0, .ref a32, .int 0, .int 0, .int 0, .int 0, .ref a33, .ref a34, .ref a35])), (a20, .inl (y 0, 18000, .inl nz)), (a7, .inl (y 0, 9, .inl nz)), (a21, .inl (y 0, 18000, .inl nz)), (a1, .inl (y 0, 9, .inl nz)), (a22, .inl (y 0, 18000, .inl nz)), (a6, .inl (y 0, 9, .inl nz))] sz)) 0 0 (va_A [(a0, .inr (12, [.int 0, .ref a1, .ref a2, .ref a3, .ref a4, .ref a5, .ref a6, .ref a7, .int 0, .ref a8, .int 0, .ref a9, .ref a10, .int 1, .ref a11, .int 0, .ref a12, .int 0, .int 0, .null, .int 0, .int 0, .int 0, .int 0, .ref a13, .ref a14, .ref a15, .int (-1), .int 0, .int 0, .int 0, .int 0, .int 0, .int 0, .int 0, .ref a16, .int 0, .ref a17, .int 0, .ref a18, .ref a19, .int 0, .int 0, .int 0, .int 0, .ref a20, .ref a21, .ref a22, .ref a23, .ref a24, .ref a25, .ref a26, .ref a27, .ref a28, .int 1, .ref a29, .ref a30, .ref a31, .long 0, .int 0, .int 0, .int 0, .long 0, .int 0, .ref a32, .int 0, .int 0, .int 0, .int 0, .ref a33, .ref a34, .ref a35])), (a20, .inl (y 0, 18000, .inl nz)), (a7, .inl (y 0, 9, .inl nz)), (a21, .inl (y 0, 18000, .inl nz)), (a1, .inl (y 0, 9, .inl nz)), (a22, .inl (y 0, 18000, .inl nz)), (a6, .inl (y 0, 9, .inl nz))] sz) := by
  refine nm_ofW (D := D) (y := y) (E := nT) (yy := yX12_load) (wsy := wsX12_load) (rm := { frames := 2, cells := 0, slots := 0, locals := 200 }) (as := [.ref a0, .int 0]) (ws := [(a0, .inr (12, [.int 0, .ref a1, .ref a2, .ref a3, .ref a4, .ref a5, .ref a6, .ref a7, .int 0, .ref a8, .int 0, .ref a9, .ref a10, .int 1, .ref a11, .int 0, .ref a12, .int 0, .int 0, .null, .int 0, .int 0, .int 0, .int 0, .ref a13, .ref a14, .ref a15, .int (-1), .int 0, .int 0, .int 0, .int 0, .int 0, .int 0, .int 0, .ref a16, .int 0, .ref a17, .int 0, .ref a18, .ref a19, .int 0, .int 0, .int 0, .int 0, .ref a20, .ref a21, .ref a22, .ref a23, .ref a24, .ref a25, .ref a26, .ref a27, .ref a28, .int 1, .ref a29, .ref a30, .ref a31, .long 0, .int 0, .int 0, .int 0, .long 0, .int 0, .ref a32, .int 0, .int 0, .int 0, .int 0, .ref a33, .ref a34, .ref a35])), (a20, .inl (y 0, 18000, .inl nz)), (a7, .inl (y 0, 9, .inl nz)), (a21, .inl (y 0, 18000, .inl nz)), (a1, .inl (y 0, 9, .inl nz)), (a22, .inl (y 0, 18000, .inl nz)), (a6, .inl (y 0, 9, .inl nz))]) (sz := sz) (mc := 0) (ms := 0) (Qc := fun A => nQv D y (fun _ => True) (fun u => [(a0, .inr (12, [.int 0, .ref a1, .ref a2, .ref a3, .ref a4, .ref a5, .ref a6, .ref a7, .int 0, .ref a8, .int 0, .ref a9, .ref a10, .int 1, .ref a11, .int 0, .ref a12, .int 0, .int 0, .null, .int 0, .int 0, .int 0, .int 0, .ref a13, .ref a14, .ref a15, .int (-1), .int 0, .int 0, .int 0, .int 0, .int 0, .int 0, .int 0, .ref a16, .int 0, .ref a17, .int 0, .ref a18, .ref a19, .int 0, .int 0, .int 0, .int 0, .ref a20, .ref a21, .ref a22, .ref a23, .ref a24, .ref a25, .ref a26, .ref a27, .ref a28, .int 1, .ref a29, .ref a30, .ref a31, .long 0, .int 0, .int 0, .int 0, .long 0, .int 0, .ref a32, .int 0, .int 0, .int 0, .int 0, .ref a33, .ref a34, .ref a35])), (a20, .inl (y 0, 18000, .inl nz)), (a7, .inl (y 0, 9, .inl nz)), (a21, .inl (y 0, 18000, .inl nz)), (a1, .inl (y 0, 9, .inl nz)), (a22, .inl (y 0, 18000, .inl nz)), (a6, .inl (y 0, 9, .inl nz))]) A) (cc := cX12_load) (maxL := 3) (ret := none) (by decide +kernel) rfl (Nat.le_of_ble_eq_true rfl) ?_
  intro p e s m below meth c A ls H hx hb hr hml hts hown hlocks hnm hsz hP hK hD hA hS hE hAe hl
  replace hl : lv_has ls 3 [(0, .ref a0), (1, .int 0)] := hl
  have hown : s.vm.findClass RX12 = some m.cls := hown
  have w_0 := hts (.fieldLink RX12 29 "SoldToBehindModel" "line" "[I") (by decide +kernel)
  have w_1 := hts (.fieldLink RX12 79 "SoldToBehindModel" "stateLine" "[I") (by decide +kernel)
  have w_2 := hts (.fieldLink RX12 9 "SoldToBehindModel" "purse" "[I") (by decide +kernel)
  have w_3 := hts (.fieldLink RX12 82 "SoldToBehindModel" "statePurse" "[I") (by decide +kernel)
  have w_4 := hts (.fieldLink RX12 26 "SoldToBehindModel" "sold" "[I") (by decide +kernel)
  have w_5 := hts (.fieldLink RX12 85 "SoldToBehindModel" "stateSold" "[I") (by decide +kernel)
  refine lv_iconst (v := 0) hx hb dX12_load_0 (by decide +kernel) ?_
  refine lv_istore_n (lv' := [(2, .int 0), (0, .ref a0), (1, .int 0)]) hx hb dX12_load_1 rfl hl (by decide +kernel) rfl (fun ls hl => ?_)
  refine lv_iload_n hx hb dX12_load_2 rfl (lv_at hl 0 rfl) ?_
  refine lv_bipush (v := 9) hx hb dX12_load_3 (by decide +kernel) ?_
  refine lv_icmp_ge (tgt := 65) hx hb dX12_load_5 (by decide +kernel) (fun c => absurd c (by decide +kernel)) (fun _ => ?_)
  refine lv_aload_n hx hb dX12_load_8 rfl (lv_at hl 1 rfl) ?_
  refine va_get (D := D) (ci := 12) (v := .ref a7) (C := RX12) (T := TX12) (N := 72) hx hb hts iX12_load_X12 hown hK hP 0 rfl rfl 7 (by decide +kernel) w_0 (fun _ h9 => h9) rfl dX12_load_9 ?_
  refine lv_iload_n hx hb dX12_load_12 rfl (lv_at hl 0 rfl) ?_
  refine lv_aload_n hx hb dX12_load_13 rfl (lv_at hl 1 rfl) ?_
  refine va_get (D := D) (ci := 12) (v := .ref a20) (C := RX12) (T := TX12) (N := 72) hx hb hts iX12_load_X12 hown hK hP 0 rfl rfl 45 (by decide +kernel) w_1 (fun _ h9 => h9) rfl dX12_load_14 ?_
  refine lv_bipush (v := 9) hx hb dX12_load_17 (by decide +kernel) ?_
  refine lv_iload_n hx hb dX12_load_19 rfl (lv_at hl 2 rfl) ?_
  refine lv_imul hx hb dX12_load_20 ?_
  refine nv_i (v := 0) (by decide +kernel) ?_
  refine lv_iload_n hx hb dX12_load_21 rfl (lv_at hl 0 rfl) ?_
  refine lv_iadd hx hb dX12_load_22 ?_
  refine nv_i (v := 0) (by decide +kernel) ?_
  refine va_iald hx hb hK hP 1 0 rfl rfl (n_in (by decide +kernel)) dX12_load_23 ?_
  refine nv_i (v := 0) rfl ?_
  refine nb_iast (ws' := [(a0, .inr (12, [.int 0, .ref a1, .ref a2, .ref a3, .ref a4, .ref a5, .ref a6, .ref a7, .int 0, .ref a8, .int 0, .ref a9, .ref a10, .int 1, .ref a11, .int 0, .ref a12, .int 0, .int 0, .null, .int 0, .int 0, .int 0, .int 0, .ref a13, .ref a14, .ref a15, .int (-1), .int 0, .int 0, .int 0, .int 0, .int 0, .int 0, .int 0, .ref a16, .int 0, .ref a17, .int 0, .ref a18, .ref a19, .int 0, .int 0, .int 0, .int 0, .ref a20, .ref a21, .ref a22, .ref a23, .ref a24, .ref a25, .ref a26, .ref a27, .ref a28, .int 1, .ref a29, .ref a30, .ref a31, .long 0, .int 0, .int 0, .int 0, .long 0, .int 0, .ref a32, .int 0, .int 0, .int 0, .int 0, .ref a33, .ref a34, .ref a35])), (a20, .inl (y 0, 18000, .inl nz)), (a7, .inl (y 0, 9, .inl nz)), (a21, .inl (y 0, 18000, .inl nz)), (a1, .inl (y 0, 9, .inl nz)), (a22, .inl (y 0, 18000, .inl nz)), (a6, .inl (y 0, 9, .inl nz))]) hx hb hK hP hD hS 2 0 rfl rfl (n_in (by decide +kernel)) (by rw [nb_upI (f := nz) (i := Int32.toNatClampNeg 0) (x := 0) rfl]; rfl) dX12_load_24 (fun H locs hP hD hS => ?_)
  refine lv_aload_n hx hb dX12_load_25 rfl (lv_at hl 1 rfl) ?_
  refine va_get (D := D) (ci := 12) (v := .ref a1) (C := RX12) (T := TX12) (N := 72) hx hb hts iX12_load_X12 hown hK hP 0 rfl rfl 1 (by decide +kernel) w_2 (fun _ h9 => h9) rfl dX12_load_26 ?_
  refine lv_iload_n hx hb dX12_load_29 rfl (lv_at hl 0 rfl) ?_
  refine lv_aload_n hx hb dX12_load_30 rfl (lv_at hl 1 rfl) ?_
  refine va_get (D := D) (ci := 12) (v := .ref a21) (C := RX12) (T := TX12) (N := 72) hx hb hts iX12_load_X12 hown hK hP 0 rfl rfl 46 (by decide +kernel) w_3 (fun _ h9 => h9) rfl dX12_load_31 ?_
  refine lv_bipush (v := 9) hx hb dX12_load_34 (by decide +kernel) ?_
  refine lv_iload_n hx hb dX12_load_36 rfl (lv_at hl 2 rfl) ?_
  refine lv_imul hx hb dX12_load_37 ?_
  refine nv_i (v := 0) (by decide +kernel) ?_
  refine lv_iload_n hx hb dX12_load_38 rfl (lv_at hl 0 rfl) ?_
  refine lv_iadd hx hb dX12_load_39 ?_
  refine nv_i (v := 0) (by decide +kernel) ?_
  refine va_iald hx hb hK hP 3 0 rfl rfl (n_in (by decide +kernel)) dX12_load_40 ?_
  refine nv_i (v := 0) rfl ?_
  refine nb_iast (ws' := [(a0, .inr (12, [.int 0, .ref a1, .ref a2, .ref a3, .ref a4, .ref a5, .ref a6, .ref a7, .int 0, .ref a8, .int 0, .ref a9, .ref a10, .int 1, .ref a11, .int 0, .ref a12, .int 0, .int 0, .null, .int 0, .int 0, .int 0, .int 0, .ref a13, .ref a14, .ref a15, .int (-1), .int 0, .int 0, .int 0, .int 0, .int 0, .int 0, .int 0, .ref a16, .int 0, .ref a17, .int 0, .ref a18, .ref a19, .int 0, .int 0, .int 0, .int 0, .ref a20, .ref a21, .ref a22, .ref a23, .ref a24, .ref a25, .ref a26, .ref a27, .ref a28, .int 1, .ref a29, .ref a30, .ref a31, .long 0, .int 0, .int 0, .int 0, .long 0, .int 0, .ref a32, .int 0, .int 0, .int 0, .int 0, .ref a33, .ref a34, .ref a35])), (a20, .inl (y 0, 18000, .inl nz)), (a7, .inl (y 0, 9, .inl nz)), (a21, .inl (y 0, 18000, .inl nz)), (a1, .inl (y 0, 9, .inl nz)), (a22, .inl (y 0, 18000, .inl nz)), (a6, .inl (y 0, 9, .inl nz))]) hx hb hK hP hD hS 4 0 rfl rfl (n_in (by decide +kernel)) (by rw [nb_upI (f := nz) (i := Int32.toNatClampNeg 0) (x := 0) rfl]; rfl) dX12_load_41 (fun H locs hP hD hS => ?_)
  refine lv_aload_n hx hb dX12_load_42 rfl (lv_at hl 1 rfl) ?_
  refine va_get (D := D) (ci := 12) (v := .ref a6) (C := RX12) (T := TX12) (N := 72) hx hb hts iX12_load_X12 hown hK hP 0 rfl rfl 6 (by decide +kernel) w_4 (fun _ h9 => h9) rfl dX12_load_43 ?_
  refine lv_iload_n hx hb dX12_load_46 rfl (lv_at hl 0 rfl) ?_
  refine lv_aload_n hx hb dX12_load_47 rfl (lv_at hl 1 rfl) ?_
  refine va_get (D := D) (ci := 12) (v := .ref a22) (C := RX12) (T := TX12) (N := 72) hx hb hts iX12_load_X12 hown hK hP 0 rfl rfl 47 (by decide +kernel) w_5 (fun _ h9 => h9) rfl dX12_load_48 ?_
  refine lv_bipush (v := 9) hx hb dX12_load_51 (by decide +kernel) ?_
  refine lv_iload_n hx hb dX12_load_53 rfl (lv_at hl 2 rfl) ?_
  refine lv_imul hx hb dX12_load_54 ?_
  refine nv_i (v := 0) (by decide +kernel) ?_
  refine lv_iload_n hx hb dX12_load_55 rfl (lv_at hl 0 rfl) ?_
  refine lv_iadd hx hb dX12_load_56 ?_
  refine nv_i (v := 0) (by decide +kernel) ?_
  refine va_iald hx hb hK hP 5 0 rfl rfl (n_in (by decide +kernel)) dX12_load_57 ?_
  refine nv_i (v := 0) rfl ?_
  refine nb_iast (ws' := [(a0, .inr (12, [.int 0, .ref a1, .ref a2, .ref a3, .ref a4, .ref a5, .ref a6, .ref a7, .int 0, .ref a8, .int 0, .ref a9, .ref a10, .int 1, .ref a11, .int 0, .ref a12, .int 0, .int 0, .null, .int 0, .int 0, .int 0, .int 0, .ref a13, .ref a14, .ref a15, .int (-1), .int 0, .int 0, .int 0, .int 0, .int 0, .int 0, .int 0, .ref a16, .int 0, .ref a17, .int 0, .ref a18, .ref a19, .int 0, .int 0, .int 0, .int 0, .ref a20, .ref a21, .ref a22, .ref a23, .ref a24, .ref a25, .ref a26, .ref a27, .ref a28, .int 1, .ref a29, .ref a30, .ref a31, .long 0, .int 0, .int 0, .int 0, .long 0, .int 0, .ref a32, .int 0, .int 0, .int 0, .int 0, .ref a33, .ref a34, .ref a35])), (a20, .inl (y 0, 18000, .inl nz)), (a7, .inl (y 0, 9, .inl nz)), (a21, .inl (y 0, 18000, .inl nz)), (a1, .inl (y 0, 9, .inl nz)), (a22, .inl (y 0, 18000, .inl nz)), (a6, .inl (y 0, 9, .inl nz))]) hx hb hK hP hD hS 6 0 rfl rfl (n_in (by decide +kernel)) (by rw [nb_upI (f := nz) (i := Int32.toNatClampNeg 0) (x := 0) rfl]; rfl) dX12_load_58 (fun H locs hP hD hS => ?_)
  refine lv_iinc (v := 1) (lv' := [(2, .int 1), (0, .ref a0), (1, .int 0)]) hx hb dX12_load_59 hl (k := 0) rfl (by decide +kernel) (by decide +kernel) rfl (fun ls hl => ?_)
  refine lv_goto (tgt := 2) hx hb dX12_load_62 (by decide +kernel) ?_
  refine lv_iload_n hx hb dX12_load_2 rfl (lv_at hl 0 rfl) ?_
  refine lv_bipush (v := 9) hx hb dX12_load_3 (by decide +kernel) ?_
  refine lv_icmp_ge (tgt := 65) hx hb dX12_load_5 (by decide +kernel) (fun c => absurd c (by decide +kernel)) (fun _ => ?_)
  refine lv_aload_n hx hb dX12_load_8 rfl (lv_at hl 1 rfl) ?_
  refine va_get (D := D) (ci := 12) (v := .ref a7) (C := RX12) (T := TX12) (N := 72) hx hb hts iX12_load_X12 hown hK hP 0 rfl rfl 7 (by decide +kernel) w_0 (fun _ h9 => h9) rfl dX12_load_9 ?_
  refine lv_iload_n hx hb dX12_load_12 rfl (lv_at hl 0 rfl) ?_
  refine lv_aload_n hx hb dX12_load_13 rfl (lv_at hl 1 rfl) ?_
  refine va_get (D := D) (ci := 12) (v := .ref a20) (C := RX12) (T := TX12) (N := 72) hx hb hts iX12_load_X12 hown hK hP 0 rfl rfl 45 (by decide +kernel) w_1 (fun _ h9 => h9) rfl dX12_load_14 ?_
  refine lv_bipush (v := 9) hx hb dX12_load_17 (by decide +kernel) ?_
  refine lv_iload_n hx hb dX12_load_19 rfl (lv_at hl 2 rfl) ?_
  refine lv_imul hx hb dX12_load_20 ?_
  refine nv_i (v := 0) (by decide +kernel) ?_
  refine lv_iload_n hx hb dX12_load_21 rfl (lv_at hl 0 rfl) ?_
  refine lv_iadd hx hb dX12_load_22 ?_
  refine nv_i (v := 1) (by decide +kernel) ?_
  refine va_iald hx hb hK hP 1 0 rfl rfl (n_in (by decide +kernel)) dX12_load_23 ?_
  refine nv_i (v := 0) rfl ?_
  refine nb_iast (ws' := [(a0, .inr (12, [.int 0, .ref a1, .ref a2, .ref a3, .ref a4, .ref a5, .ref a6, .ref a7, .int 0, .ref a8, .int 0, .ref a9, .ref a10, .int 1, .ref a11, .int 0, .ref a12, .int 0, .int 0, .null, .int 0, .int 0, .int 0, .int 0, .ref a13, .ref a14, .ref a15, .int (-1), .int 0, .int 0, .int 0, .int 0, .int 0, .int 0, .int 0, .ref a16, .int 0, .ref a17, .int 0, .ref a18, .ref a19, .int 0, .int 0, .int 0, .int 0, .ref a20, .ref a21, .ref a22, .ref a23, .ref a24, .ref a25, .ref a26, .ref a27, .ref a28, .int 1, .ref a29, .ref a30, .ref a31, .long 0, .int 0, .int 0, .int 0, .long 0, .int 0, .ref a32, .int 0, .int 0, .int 0, .int 0, .ref a33, .ref a34, .ref a35])), (a20, .inl (y 0, 18000, .inl nz)), (a7, .inl (y 0, 9, .inl nz)), (a21, .inl (y 0, 18000, .inl nz)), (a1, .inl (y 0, 9, .inl nz)), (a22, .inl (y 0, 18000, .inl nz)), (a6, .inl (y 0, 9, .inl nz))]) hx hb hK hP hD hS 2 0 rfl rfl (n_in (by decide +kernel)) (by rw [nb_upI (f := nz) (i := Int32.toNatClampNeg 1) (x := 0) rfl]; rfl) dX12_load_24 (fun H locs hP hD hS => ?_)
  refine lv_aload_n hx hb dX12_load_25 rfl (lv_at hl 1 rfl) ?_
  refine va_get (D := D) (ci := 12) (v := .ref a1) (C := RX12) (T := TX12) (N := 72) hx hb hts iX12_load_X12 hown hK hP 0 rfl rfl 1 (by decide +kernel) w_2 (fun _ h9 => h9) rfl dX12_load_26 ?_
  refine lv_iload_n hx hb dX12_load_29 rfl (lv_at hl 0 rfl) ?_
  refine lv_aload_n hx hb dX12_load_30 rfl (lv_at hl 1 rfl) ?_
  refine va_get (D := D) (ci := 12) (v := .ref a21) (C := RX12) (T := TX12) (N := 72) hx hb hts iX12_load_X12 hown hK hP 0 rfl rfl 46 (by decide +kernel) w_3 (fun _ h9 => h9) rfl dX12_load_31 ?_
  refine lv_bipush (v := 9) hx hb dX12_load_34 (by decide +kernel) ?_
  refine lv_iload_n hx hb dX12_load_36 rfl (lv_at hl 2 rfl) ?_
  refine lv_imul hx hb dX12_load_37 ?_
  refine nv_i (v := 0) (by decide +kernel) ?_
  refine lv_iload_n hx hb dX12_load_38 rfl (lv_at hl 0 rfl) ?_
  refine lv_iadd hx hb dX12_load_39 ?_
  refine nv_i (v := 1) (by decide +kernel) ?_
  refine va_iald hx hb hK hP 3 0 rfl rfl (n_in (by decide +kernel)) dX12_load_40 ?_
  refine nv_i (v := 0) rfl ?_
  refine nb_iast (ws' := [(a0, .inr (12, [.int 0, .ref a1, .ref a2, .ref a3, .ref a4, .ref a5, .ref a6, .ref a7, .int 0, .ref a8, .int 0, .ref a9, .ref a10, .int 1, .ref a11, .int 0, .ref a12, .int 0, .int 0, .null, .int 0, .int 0, .int 0, .int 0, .ref a13, .ref a14, .ref a15, .int (-1), .int 0, .int 0, .int 0, .int 0, .int 0, .int 0, .int 0, .ref a16, .int 0, .ref a17, .int 0, .ref a18, .ref a19, .int 0, .int 0, .int 0, .int 0, .ref a20, .ref a21, .ref a22, .ref a23, .ref a24, .ref a25, .ref a26, .ref a27, .ref a28, .int 1, .ref a29, .ref a30, .ref a31, .long 0, .int 0, .int 0, .int 0, .long 0, .int 0, .ref a32, .int 0, .int 0, .int 0, .int 0, .ref a33, .ref a34, .ref a35])), (a20, .inl (y 0, 18000, .inl nz)), (a7, .inl (y 0, 9, .inl nz)), (a21, .inl (y 0, 18000, .inl nz)), (a1, .inl (y 0, 9, .inl nz)), (a22, .inl (y 0, 18000, .inl nz)), (a6, .inl (y 0, 9, .inl nz))]) hx hb hK hP hD hS 4 0 rfl rfl (n_in (by decide +kernel)) (by rw [nb_upI (f := nz) (i := Int32.toNatClampNeg 1) (x := 0) rfl]; rfl) dX12_load_41 (fun H locs hP hD hS => ?_)
  refine lv_aload_n hx hb dX12_load_42 rfl (lv_at hl 1 rfl) ?_
  refine va_get (D := D) (ci := 12) (v := .ref a6) (C := RX12) (T := TX12) (N := 72) hx hb hts iX12_load_X12 hown hK hP 0 rfl rfl 6 (by decide +kernel) w_4 (fun _ h9 => h9) rfl dX12_load_43 ?_
  refine lv_iload_n hx hb dX12_load_46 rfl (lv_at hl 0 rfl) ?_
  refine lv_aload_n hx hb dX12_load_47 rfl (lv_at hl 1 rfl) ?_
  refine va_get (D := D) (ci := 12) (v := .ref a22) (C := RX12) (T := TX12) (N := 72) hx hb hts iX12_load_X12 hown hK hP 0 rfl rfl 47 (by decide +kernel) w_5 (fun _ h9 => h9) rfl dX12_load_48 ?_
  refine lv_bipush (v := 9) hx hb dX12_load_51 (by decide +kernel) ?_
  refine lv_iload_n hx hb dX12_load_53 rfl (lv_at hl 2 rfl) ?_
  refine lv_imul hx hb dX12_load_54 ?_
  refine nv_i (v := 0) (by decide +kernel) ?_
  refine lv_iload_n hx hb dX12_load_55 rfl (lv_at hl 0 rfl) ?_
  refine lv_iadd hx hb dX12_load_56 ?_
  refine nv_i (v := 1) (by decide +kernel) ?_
  refine va_iald hx hb hK hP 5 0 rfl rfl (n_in (by decide +kernel)) dX12_load_57 ?_
  refine nv_i (v := 0) rfl ?_
  refine nb_iast (ws' := [(a0, .inr (12, [.int 0, .ref a1, .ref a2, .ref a3, .ref a4, .ref a5, .ref a6, .ref a7, .int 0, .ref a8, .int 0, .ref a9, .ref a10, .int 1, .ref a11, .int 0, .ref a12, .int 0, .int 0, .null, .int 0, .int 0, .int 0, .int 0, .ref a13, .ref a14, .ref a15, .int (-1), .int 0, .int 0, .int 0, .int 0, .int 0, .int 0, .int 0, .ref a16, .int 0, .ref a17, .int 0, .ref a18, .ref a19, .int 0, .int 0, .int 0, .int 0, .ref a20, .ref a21, .ref a22, .ref a23, .ref a24, .ref a25, .ref a26, .ref a27, .ref a28, .int 1, .ref a29, .ref a30, .ref a31, .long 0, .int 0, .int 0, .int 0, .long 0, .int 0, .ref a32, .int 0, .int 0, .int 0, .int 0, .ref a33, .ref a34, .ref a35])), (a20, .inl (y 0, 18000, .inl nz)), (a7, .inl (y 0, 9, .inl nz)), (a21, .inl (y 0, 18000, .inl nz)), (a1, .inl (y 0, 9, .inl nz)), (a22, .inl (y 0, 18000, .inl nz)), (a6, .inl (y 0, 9, .inl nz))]) hx hb hK hP hD hS 6 0 rfl rfl (n_in (by decide +kernel)) (by rw [nb_upI (f := nz) (i := Int32.toNatClampNeg 1) (x := 0) rfl]; rfl) dX12_load_58 (fun H locs hP hD hS => ?_)
  refine lv_iinc (v := 2) (lv' := [(2, .int 2), (0, .ref a0), (1, .int 0)]) hx hb dX12_load_59 hl (k := 0) rfl (by decide +kernel) (by decide +kernel) rfl (fun ls hl => ?_)
  refine lv_goto (tgt := 2) hx hb dX12_load_62 (by decide +kernel) ?_
  refine lv_iload_n hx hb dX12_load_2 rfl (lv_at hl 0 rfl) ?_
  refine lv_bipush (v := 9) hx hb dX12_load_3 (by decide +kernel) ?_
  refine lv_icmp_ge (tgt := 65) hx hb dX12_load_5 (by decide +kernel) (fun c => absurd c (by decide +kernel)) (fun _ => ?_)
  refine lv_aload_n hx hb dX12_load_8 rfl (lv_at hl 1 rfl) ?_
  refine va_get (D := D) (ci := 12) (v := .ref a7) (C := RX12) (T := TX12) (N := 72) hx hb hts iX12_load_X12 hown hK hP 0 rfl rfl 7 (by decide +kernel) w_0 (fun _ h9 => h9) rfl dX12_load_9 ?_
  refine lv_iload_n hx hb dX12_load_12 rfl (lv_at hl 0 rfl) ?_
  refine lv_aload_n hx hb dX12_load_13 rfl (lv_at hl 1 rfl) ?_
  refine va_get (D := D) (ci := 12) (v := .ref a20) (C := RX12) (T := TX12) (N := 72) hx hb hts iX12_load_X12 hown hK hP 0 rfl rfl 45 (by decide +kernel) w_1 (fun _ h9 => h9) rfl dX12_load_14 ?_
  refine lv_bipush (v := 9) hx hb dX12_load_17 (by decide +kernel) ?_
  refine lv_iload_n hx hb dX12_load_19 rfl (lv_at hl 2 rfl) ?_
  refine lv_imul hx hb dX12_load_20 ?_
  refine nv_i (v := 0) (by decide +kernel) ?_
  refine lv_iload_n hx hb dX12_load_21 rfl (lv_at hl 0 rfl) ?_
  refine lv_iadd hx hb dX12_load_22 ?_
  refine nv_i (v := 2) (by decide +kernel) ?_
  refine va_iald hx hb hK hP 1 0 rfl rfl (n_in (by decide +kernel)) dX12_load_23 ?_
  refine nv_i (v := 0) rfl ?_
  refine nb_iast (ws' := [(a0, .inr (12, [.int 0, .ref a1, .ref a2, .ref a3, .ref a4, .ref a5, .ref a6, .ref a7, .int 0, .ref a8, .int 0, .ref a9, .ref a10, .int 1, .ref a11, .int 0, .ref a12, .int 0, .int 0, .null, .int 0, .int 0, .int 0, .int 0, .ref a13, .ref a14, .ref a15, .int (-1), .int 0, .int 0, .int 0, .int 0, .int 0, .int 0, .int 0, .ref a16, .int 0, .ref a17, .int 0, .ref a18, .ref a19, .int 0, .int 0, .int 0, .int 0, .ref a20, .ref a21, .ref a22, .ref a23, .ref a24, .ref a25, .ref a26, .ref a27, .ref a28, .int 1, .ref a29, .ref a30, .ref a31, .long 0, .int 0, .int 0, .int 0, .long 0, .int 0, .ref a32, .int 0, .int 0, .int 0, .int 0, .ref a33, .ref a34, .ref a35])), (a20, .inl (y 0, 18000, .inl nz)), (a7, .inl (y 0, 9, .inl nz)), (a21, .inl (y 0, 18000, .inl nz)), (a1, .inl (y 0, 9, .inl nz)), (a22, .inl (y 0, 18000, .inl nz)), (a6, .inl (y 0, 9, .inl nz))]) hx hb hK hP hD hS 2 0 rfl rfl (n_in (by decide +kernel)) (by rw [nb_upI (f := nz) (i := Int32.toNatClampNeg 2) (x := 0) rfl]; rfl) dX12_load_24 (fun H locs hP hD hS => ?_)
  refine lv_aload_n hx hb dX12_load_25 rfl (lv_at hl 1 rfl) ?_
  refine va_get (D := D) (ci := 12) (v := .ref a1) (C := RX12) (T := TX12) (N := 72) hx hb hts iX12_load_X12 hown hK hP 0 rfl rfl 1 (by decide +kernel) w_2 (fun _ h9 => h9) rfl dX12_load_26 ?_
  refine lv_iload_n hx hb dX12_load_29 rfl (lv_at hl 0 rfl) ?_
  refine lv_aload_n hx hb dX12_load_30 rfl (lv_at hl 1 rfl) ?_
  refine va_get (D := D) (ci := 12) (v := .ref a21) (C := RX12) (T := TX12) (N := 72) hx hb hts iX12_load_X12 hown hK hP 0 rfl rfl 46 (by decide +kernel) w_3 (fun _ h9 => h9) rfl dX12_load_31 ?_
  refine lv_bipush (v := 9) hx hb dX12_load_34 (by decide +kernel) ?_
  refine lv_iload_n hx hb dX12_load_36 rfl (lv_at hl 2 rfl) ?_
  refine lv_imul hx hb dX12_load_37 ?_
  refine nv_i (v := 0) (by decide +kernel) ?_
  refine lv_iload_n hx hb dX12_load_38 rfl (lv_at hl 0 rfl) ?_
  refine lv_iadd hx hb dX12_load_39 ?_
  refine nv_i (v := 2) (by decide +kernel) ?_
  refine va_iald hx hb hK hP 3 0 rfl rfl (n_in (by decide +kernel)) dX12_load_40 ?_
  refine nv_i (v := 0) rfl ?_
  refine nb_iast (ws' := [(a0, .inr (12, [.int 0, .ref a1, .ref a2, .ref a3, .ref a4, .ref a5, .ref a6, .ref a7, .int 0, .ref a8, .int 0, .ref a9, .ref a10, .int 1, .ref a11, .int 0, .ref a12, .int 0, .int 0, .null, .int 0, .int 0, .int 0, .int 0, .ref a13, .ref a14, .ref a15, .int (-1), .int 0, .int 0, .int 0, .int 0, .int 0, .int 0, .int 0, .ref a16, .int 0, .ref a17, .int 0, .ref a18, .ref a19, .int 0, .int 0, .int 0, .int 0, .ref a20, .ref a21, .ref a22, .ref a23, .ref a24, .ref a25, .ref a26, .ref a27, .ref a28, .int 1, .ref a29, .ref a30, .ref a31, .long 0, .int 0, .int 0, .int 0, .long 0, .int 0, .ref a32, .int 0, .int 0, .int 0, .int 0, .ref a33, .ref a34, .ref a35])), (a20, .inl (y 0, 18000, .inl nz)), (a7, .inl (y 0, 9, .inl nz)), (a21, .inl (y 0, 18000, .inl nz)), (a1, .inl (y 0, 9, .inl nz)), (a22, .inl (y 0, 18000, .inl nz)), (a6, .inl (y 0, 9, .inl nz))]) hx hb hK hP hD hS 4 0 rfl rfl (n_in (by decide +kernel)) (by rw [nb_upI (f := nz) (i := Int32.toNatClampNeg 2) (x := 0) rfl]; rfl) dX12_load_41 (fun H locs hP hD hS => ?_)
  refine lv_aload_n hx hb dX12_load_42 rfl (lv_at hl 1 rfl) ?_
  refine va_get (D := D) (ci := 12) (v := .ref a6) (C := RX12) (T := TX12) (N := 72) hx hb hts iX12_load_X12 hown hK hP 0 rfl rfl 6 (by decide +kernel) w_4 (fun _ h9 => h9) rfl dX12_load_43 ?_
  refine lv_iload_n hx hb dX12_load_46 rfl (lv_at hl 0 rfl) ?_
  refine lv_aload_n hx hb dX12_load_47 rfl (lv_at hl 1 rfl) ?_
  refine va_get (D := D) (ci := 12) (v := .ref a22) (C := RX12) (T := TX12) (N := 72) hx hb hts iX12_load_X12 hown hK hP 0 rfl rfl 47 (by decide +kernel) w_5 (fun _ h9 => h9) rfl dX12_load_48 ?_
  refine lv_bipush (v := 9) hx hb dX12_load_51 (by decide +kernel) ?_
  refine lv_iload_n hx hb dX12_load_53 rfl (lv_at hl 2 rfl) ?_
  refine lv_imul hx hb dX12_load_54 ?_
  refine nv_i (v := 0) (by decide +kernel) ?_
  refine lv_iload_n hx hb dX12_load_55 rfl (lv_at hl 0 rfl) ?_
  refine lv_iadd hx hb dX12_load_56 ?_
  refine nv_i (v := 2) (by decide +kernel) ?_
  refine va_iald hx hb hK hP 5 0 rfl rfl (n_in (by decide +kernel)) dX12_load_57 ?_
  refine nv_i (v := 0) rfl ?_
  refine nb_iast (ws' := [(a0, .inr (12, [.int 0, .ref a1, .ref a2, .ref a3, .ref a4, .ref a5, .ref a6, .ref a7, .int 0, .ref a8, .int 0, .ref a9, .ref a10, .int 1, .ref a11, .int 0, .ref a12, .int 0, .int 0, .null, .int 0, .int 0, .int 0, .int 0, .ref a13, .ref a14, .ref a15, .int (-1), .int 0, .int 0, .int 0, .int 0, .int 0, .int 0, .int 0, .ref a16, .int 0, .ref a17, .int 0, .ref a18, .ref a19, .int 0, .int 0, .int 0, .int 0, .ref a20, .ref a21, .ref a22, .ref a23, .ref a24, .ref a25, .ref a26, .ref a27, .ref a28, .int 1, .ref a29, .ref a30, .ref a31, .long 0, .int 0, .int 0, .int 0, .long 0, .int 0, .ref a32, .int 0, .int 0, .int 0, .int 0, .ref a33, .ref a34, .ref a35])), (a20, .inl (y 0, 18000, .inl nz)), (a7, .inl (y 0, 9, .inl nz)), (a21, .inl (y 0, 18000, .inl nz)), (a1, .inl (y 0, 9, .inl nz)), (a22, .inl (y 0, 18000, .inl nz)), (a6, .inl (y 0, 9, .inl nz))]) hx hb hK hP hD hS 6 0 rfl rfl (n_in (by decide +kernel)) (by rw [nb_upI (f := nz) (i := Int32.toNatClampNeg 2) (x := 0) rfl]; rfl) dX12_load_58 (fun H locs hP hD hS => ?_)
  refine lv_iinc (v := 3) (lv' := [(2, .int 3), (0, .ref a0), (1, .int 0)]) hx hb dX12_load_59 hl (k := 0) rfl (by decide +kernel) (by decide +kernel) rfl (fun ls hl => ?_)
  refine lv_goto (tgt := 2) hx hb dX12_load_62 (by decide +kernel) ?_
  refine lv_iload_n hx hb dX12_load_2 rfl (lv_at hl 0 rfl) ?_
  refine lv_bipush (v := 9) hx hb dX12_load_3 (by decide +kernel) ?_
  refine lv_icmp_ge (tgt := 65) hx hb dX12_load_5 (by decide +kernel) (fun c => absurd c (by decide +kernel)) (fun _ => ?_)
  refine lv_aload_n hx hb dX12_load_8 rfl (lv_at hl 1 rfl) ?_
  refine va_get (D := D) (ci := 12) (v := .ref a7) (C := RX12) (T := TX12) (N := 72) hx hb hts iX12_load_X12 hown hK hP 0 rfl rfl 7 (by decide +kernel) w_0 (fun _ h9 => h9) rfl dX12_load_9 ?_
  refine lv_iload_n hx hb dX12_load_12 rfl (lv_at hl 0 rfl) ?_
  refine lv_aload_n hx hb dX12_load_13 rfl (lv_at hl 1 rfl) ?_
  refine va_get (D := D) (ci := 12) (v := .ref a20) (C := RX12) (T := TX12) (N := 72) hx hb hts iX12_load_X12 hown hK hP 0 rfl rfl 45 (by decide +kernel) w_1 (fun _ h9 => h9) rfl dX12_load_14 ?_
  refine lv_bipush (v := 9) hx hb dX12_load_17 (by decide +kernel) ?_
  refine lv_iload_n hx hb dX12_load_19 rfl (lv_at hl 2 rfl) ?_
  refine lv_imul hx hb dX12_load_20 ?_
  refine nv_i (v := 0) (by decide +kernel) ?_
  refine lv_iload_n hx hb dX12_load_21 rfl (lv_at hl 0 rfl) ?_
  refine lv_iadd hx hb dX12_load_22 ?_
  refine nv_i (v := 3) (by decide +kernel) ?_
  refine va_iald hx hb hK hP 1 0 rfl rfl (n_in (by decide +kernel)) dX12_load_23 ?_
  refine nv_i (v := 0) rfl ?_
  refine nb_iast (ws' := [(a0, .inr (12, [.int 0, .ref a1, .ref a2, .ref a3, .ref a4, .ref a5, .ref a6, .ref a7, .int 0, .ref a8, .int 0, .ref a9, .ref a10, .int 1, .ref a11, .int 0, .ref a12, .int 0, .int 0, .null, .int 0, .int 0, .int 0, .int 0, .ref a13, .ref a14, .ref a15, .int (-1), .int 0, .int 0, .int 0, .int 0, .int 0, .int 0, .int 0, .ref a16, .int 0, .ref a17, .int 0, .ref a18, .ref a19, .int 0, .int 0, .int 0, .int 0, .ref a20, .ref a21, .ref a22, .ref a23, .ref a24, .ref a25, .ref a26, .ref a27, .ref a28, .int 1, .ref a29, .ref a30, .ref a31, .long 0, .int 0, .int 0, .int 0, .long 0, .int 0, .ref a32, .int 0, .int 0, .int 0, .int 0, .ref a33, .ref a34, .ref a35])), (a20, .inl (y 0, 18000, .inl nz)), (a7, .inl (y 0, 9, .inl nz)), (a21, .inl (y 0, 18000, .inl nz)), (a1, .inl (y 0, 9, .inl nz)), (a22, .inl (y 0, 18000, .inl nz)), (a6, .inl (y 0, 9, .inl nz))]) hx hb hK hP hD hS 2 0 rfl rfl (n_in (by decide +kernel)) (by rw [nb_upI (f := nz) (i := Int32.toNatClampNeg 3) (x := 0) rfl]; rfl) dX12_load_24 (fun H locs hP hD hS => ?_)
  refine lv_aload_n hx hb dX12_load_25 rfl (lv_at hl 1 rfl) ?_
  refine va_get (D := D) (ci := 12) (v := .ref a1) (C := RX12) (T := TX12) (N := 72) hx hb hts iX12_load_X12 hown hK hP 0 rfl rfl 1 (by decide +kernel) w_2 (fun _ h9 => h9) rfl dX12_load_26 ?_
  refine lv_iload_n hx hb dX12_load_29 rfl (lv_at hl 0 rfl) ?_
  refine lv_aload_n hx hb dX12_load_30 rfl (lv_at hl 1 rfl) ?_
  refine va_get (D := D) (ci := 12) (v := .ref a21) (C := RX12) (T := TX12) (N := 72) hx hb hts iX12_load_X12 hown hK hP 0 rfl rfl 46 (by decide +kernel) w_3 (fun _ h9 => h9) rfl dX12_load_31 ?_
  refine lv_bipush (v := 9) hx hb dX12_load_34 (by decide +kernel) ?_
  refine lv_iload_n hx hb dX12_load_36 rfl (lv_at hl 2 rfl) ?_
  refine lv_imul hx hb dX12_load_37 ?_
  refine nv_i (v := 0) (by decide +kernel) ?_
  refine lv_iload_n hx hb dX12_load_38 rfl (lv_at hl 0 rfl) ?_
  refine lv_iadd hx hb dX12_load_39 ?_
  refine nv_i (v := 3) (by decide +kernel) ?_
  refine va_iald hx hb hK hP 3 0 rfl rfl (n_in (by decide +kernel)) dX12_load_40 ?_
  refine nv_i (v := 0) rfl ?_
  refine nb_iast (ws' := [(a0, .inr (12, [.int 0, .ref a1, .ref a2, .ref a3, .ref a4, .ref a5, .ref a6, .ref a7, .int 0, .ref a8, .int 0, .ref a9, .ref a10, .int 1, .ref a11, .int 0, .ref a12, .int 0, .int 0, .null, .int 0, .int 0, .int 0, .int 0, .ref a13, .ref a14, .ref a15, .int (-1), .int 0, .int 0, .int 0, .int 0, .int 0, .int 0, .int 0, .ref a16, .int 0, .ref a17, .int 0, .ref a18, .ref a19, .int 0, .int 0, .int 0, .int 0, .ref a20, .ref a21, .ref a22, .ref a23, .ref a24, .ref a25, .ref a26, .ref a27, .ref a28, .int 1, .ref a29, .ref a30, .ref a31, .long 0, .int 0, .int 0, .int 0, .long 0, .int 0, .ref a32, .int 0, .int 0, .int 0, .int 0, .ref a33, .ref a34, .ref a35])), (a20, .inl (y 0, 18000, .inl nz)), (a7, .inl (y 0, 9, .inl nz)), (a21, .inl (y 0, 18000, .inl nz)), (a1, .inl (y 0, 9, .inl nz)), (a22, .inl (y 0, 18000, .inl nz)), (a6, .inl (y 0, 9, .inl nz))]) hx hb hK hP hD hS 4 0 rfl rfl (n_in (by decide +kernel)) (by rw [nb_upI (f := nz) (i := Int32.toNatClampNeg 3) (x := 0) rfl]; rfl) dX12_load_41 (fun H locs hP hD hS => ?_)
  refine lv_aload_n hx hb dX12_load_42 rfl (lv_at hl 1 rfl) ?_
  refine va_get (D := D) (ci := 12) (v := .ref a6) (C := RX12) (T := TX12) (N := 72) hx hb hts iX12_load_X12 hown hK hP 0 rfl rfl 6 (by decide +kernel) w_4 (fun _ h9 => h9) rfl dX12_load_43 ?_
  refine lv_iload_n hx hb dX12_load_46 rfl (lv_at hl 0 rfl) ?_
  refine lv_aload_n hx hb dX12_load_47 rfl (lv_at hl 1 rfl) ?_
  refine va_get (D := D) (ci := 12) (v := .ref a22) (C := RX12) (T := TX12) (N := 72) hx hb hts iX12_load_X12 hown hK hP 0 rfl rfl 47 (by decide +kernel) w_5 (fun _ h9 => h9) rfl dX12_load_48 ?_
  refine lv_bipush (v := 9) hx hb dX12_load_51 (by decide +kernel) ?_
  refine lv_iload_n hx hb dX12_load_53 rfl (lv_at hl 2 rfl) ?_
  refine lv_imul hx hb dX12_load_54 ?_
  refine nv_i (v := 0) (by decide +kernel) ?_
  refine lv_iload_n hx hb dX12_load_55 rfl (lv_at hl 0 rfl) ?_
  refine lv_iadd hx hb dX12_load_56 ?_
  refine nv_i (v := 3) (by decide +kernel) ?_
  refine va_iald hx hb hK hP 5 0 rfl rfl (n_in (by decide +kernel)) dX12_load_57 ?_
  refine nv_i (v := 0) rfl ?_
  refine nb_iast (ws' := [(a0, .inr (12, [.int 0, .ref a1, .ref a2, .ref a3, .ref a4, .ref a5, .ref a6, .ref a7, .int 0, .ref a8, .int 0, .ref a9, .ref a10, .int 1, .ref a11, .int 0, .ref a12, .int 0, .int 0, .null, .int 0, .int 0, .int 0, .int 0, .ref a13, .ref a14, .ref a15, .int (-1), .int 0, .int 0, .int 0, .int 0, .int 0, .int 0, .int 0, .ref a16, .int 0, .ref a17, .int 0, .ref a18, .ref a19, .int 0, .int 0, .int 0, .int 0, .ref a20, .ref a21, .ref a22, .ref a23, .ref a24, .ref a25, .ref a26, .ref a27, .ref a28, .int 1, .ref a29, .ref a30, .ref a31, .long 0, .int 0, .int 0, .int 0, .long 0, .int 0, .ref a32, .int 0, .int 0, .int 0, .int 0, .ref a33, .ref a34, .ref a35])), (a20, .inl (y 0, 18000, .inl nz)), (a7, .inl (y 0, 9, .inl nz)), (a21, .inl (y 0, 18000, .inl nz)), (a1, .inl (y 0, 9, .inl nz)), (a22, .inl (y 0, 18000, .inl nz)), (a6, .inl (y 0, 9, .inl nz))]) hx hb hK hP hD hS 6 0 rfl rfl (n_in (by decide +kernel)) (by rw [nb_upI (f := nz) (i := Int32.toNatClampNeg 3) (x := 0) rfl]; rfl) dX12_load_58 (fun H locs hP hD hS => ?_)
  refine lv_iinc (v := 4) (lv' := [(2, .int 4), (0, .ref a0), (1, .int 0)]) hx hb dX12_load_59 hl (k := 0) rfl (by decide +kernel) (by decide +kernel) rfl (fun ls hl => ?_)
  refine lv_goto (tgt := 2) hx hb dX12_load_62 (by decide +kernel) ?_
  refine lv_iload_n hx hb dX12_load_2 rfl (lv_at hl 0 rfl) ?_
  refine lv_bipush (v := 9) hx hb dX12_load_3 (by decide +kernel) ?_
  refine lv_icmp_ge (tgt := 65) hx hb dX12_load_5 (by decide +kernel) (fun c => absurd c (by decide +kernel)) (fun _ => ?_)
  refine lv_aload_n hx hb dX12_load_8 rfl (lv_at hl 1 rfl) ?_
  refine va_get (D := D) (ci := 12) (v := .ref a7) (C := RX12) (T := TX12) (N := 72) hx hb hts iX12_load_X12 hown hK hP 0 rfl rfl 7 (by decide +kernel) w_0 (fun _ h9 => h9) rfl dX12_load_9 ?_
  refine lv_iload_n hx hb dX12_load_12 rfl (lv_at hl 0 rfl) ?_
  refine lv_aload_n hx hb dX12_load_13 rfl (lv_at hl 1 rfl) ?_
  refine va_get (D := D) (ci := 12) (v := .ref a20) (C := RX12) (T := TX12) (N := 72) hx hb hts iX12_load_X12 hown hK hP 0 rfl rfl 45 (by decide +kernel) w_1 (fun _ h9 => h9) rfl dX12_load_14 ?_
  refine lv_bipush (v := 9) hx hb dX12_load_17 (by decide +kernel) ?_
  refine lv_iload_n hx hb dX12_load_19 rfl (lv_at hl 2 rfl) ?_
  refine lv_imul hx hb dX12_load_20 ?_
  refine nv_i (v := 0) (by decide +kernel) ?_
  refine lv_iload_n hx hb dX12_load_21 rfl (lv_at hl 0 rfl) ?_
  refine lv_iadd hx hb dX12_load_22 ?_
  refine nv_i (v := 4) (by decide +kernel) ?_
  refine va_iald hx hb hK hP 1 0 rfl rfl (n_in (by decide +kernel)) dX12_load_23 ?_
  refine nv_i (v := 0) rfl ?_
  refine nb_iast (ws' := [(a0, .inr (12, [.int 0, .ref a1, .ref a2, .ref a3, .ref a4, .ref a5, .ref a6, .ref a7, .int 0, .ref a8, .int 0, .ref a9, .ref a10, .int 1, .ref a11, .int 0, .ref a12, .int 0, .int 0, .null, .int 0, .int 0, .int 0, .int 0, .ref a13, .ref a14, .ref a15, .int (-1), .int 0, .int 0, .int 0, .int 0, .int 0, .int 0, .int 0, .ref a16, .int 0, .ref a17, .int 0, .ref a18, .ref a19, .int 0, .int 0, .int 0, .int 0, .ref a20, .ref a21, .ref a22, .ref a23, .ref a24, .ref a25, .ref a26, .ref a27, .ref a28, .int 1, .ref a29, .ref a30, .ref a31, .long 0, .int 0, .int 0, .int 0, .long 0, .int 0, .ref a32, .int 0, .int 0, .int 0, .int 0, .ref a33, .ref a34, .ref a35])), (a20, .inl (y 0, 18000, .inl nz)), (a7, .inl (y 0, 9, .inl nz)), (a21, .inl (y 0, 18000, .inl nz)), (a1, .inl (y 0, 9, .inl nz)), (a22, .inl (y 0, 18000, .inl nz)), (a6, .inl (y 0, 9, .inl nz))]) hx hb hK hP hD hS 2 0 rfl rfl (n_in (by decide +kernel)) (by rw [nb_upI (f := nz) (i := Int32.toNatClampNeg 4) (x := 0) rfl]; rfl) dX12_load_24 (fun H locs hP hD hS => ?_)
  refine lv_aload_n hx hb dX12_load_25 rfl (lv_at hl 1 rfl) ?_
  refine va_get (D := D) (ci := 12) (v := .ref a1) (C := RX12) (T := TX12) (N := 72) hx hb hts iX12_load_X12 hown hK hP 0 rfl rfl 1 (by decide +kernel) w_2 (fun _ h9 => h9) rfl dX12_load_26 ?_
  refine lv_iload_n hx hb dX12_load_29 rfl (lv_at hl 0 rfl) ?_
  refine lv_aload_n hx hb dX12_load_30 rfl (lv_at hl 1 rfl) ?_
  refine va_get (D := D) (ci := 12) (v := .ref a21) (C := RX12) (T := TX12) (N := 72) hx hb hts iX12_load_X12 hown hK hP 0 rfl rfl 46 (by decide +kernel) w_3 (fun _ h9 => h9) rfl dX12_load_31 ?_
  refine lv_bipush (v := 9) hx hb dX12_load_34 (by decide +kernel) ?_
  refine lv_iload_n hx hb dX12_load_36 rfl (lv_at hl 2 rfl) ?_
  refine lv_imul hx hb dX12_load_37 ?_
  refine nv_i (v := 0) (by decide +kernel) ?_
  refine lv_iload_n hx hb dX12_load_38 rfl (lv_at hl 0 rfl) ?_
  refine lv_iadd hx hb dX12_load_39 ?_
  refine nv_i (v := 4) (by decide +kernel) ?_
  refine va_iald hx hb hK hP 3 0 rfl rfl (n_in (by decide +kernel)) dX12_load_40 ?_
  refine nv_i (v := 0) rfl ?_
  refine nb_iast (ws' := [(a0, .inr (12, [.int 0, .ref a1, .ref a2, .ref a3, .ref a4, .ref a5, .ref a6, .ref a7, .int 0, .ref a8, .int 0, .ref a9, .ref a10, .int 1, .ref a11, .int 0, .ref a12, .int 0, .int 0, .null, .int 0, .int 0, .int 0, .int 0, .ref a13, .ref a14, .ref a15, .int (-1), .int 0, .int 0, .int 0, .int 0, .int 0, .int 0, .int 0, .ref a16, .int 0, .ref a17, .int 0, .ref a18, .ref a19, .int 0, .int 0, .int 0, .int 0, .ref a20, .ref a21, .ref a22, .ref a23, .ref a24, .ref a25, .ref a26, .ref a27, .ref a28, .int 1, .ref a29, .ref a30, .ref a31, .long 0, .int 0, .int 0, .int 0, .long 0, .int 0, .ref a32, .int 0, .int 0, .int 0, .int 0, .ref a33, .ref a34, .ref a35])), (a20, .inl (y 0, 18000, .inl nz)), (a7, .inl (y 0, 9, .inl nz)), (a21, .inl (y 0, 18000, .inl nz)), (a1, .inl (y 0, 9, .inl nz)), (a22, .inl (y 0, 18000, .inl nz)), (a6, .inl (y 0, 9, .inl nz))]) hx hb hK hP hD hS 4 0 rfl rfl (n_in (by decide +kernel)) (by rw [nb_upI (f := nz) (i := Int32.toNatClampNeg 4) (x := 0) rfl]; rfl) dX12_load_41 (fun H locs hP hD hS => ?_)
  refine lv_aload_n hx hb dX12_load_42 rfl (lv_at hl 1 rfl) ?_
  refine va_get (D := D) (ci := 12) (v := .ref a6) (C := RX12) (T := TX12) (N := 72) hx hb hts iX12_load_X12 hown hK hP 0 rfl rfl 6 (by decide +kernel) w_4 (fun _ h9 => h9) rfl dX12_load_43 ?_
  refine lv_iload_n hx hb dX12_load_46 rfl (lv_at hl 0 rfl) ?_
  refine lv_aload_n hx hb dX12_load_47 rfl (lv_at hl 1 rfl) ?_
  refine va_get (D := D) (ci := 12) (v := .ref a22) (C := RX12) (T := TX12) (N := 72) hx hb hts iX12_load_X12 hown hK hP 0 rfl rfl 47 (by decide +kernel) w_5 (fun _ h9 => h9) rfl dX12_load_48 ?_
  refine lv_bipush (v := 9) hx hb dX12_load_51 (by decide +kernel) ?_
  refine lv_iload_n hx hb dX12_load_53 rfl (lv_at hl 2 rfl) ?_
  refine lv_imul hx hb dX12_load_54 ?_
  refine nv_i (v := 0) (by decide +kernel) ?_
  refine lv_iload_n hx hb dX12_load_55 rfl (lv_at hl 0 rfl) ?_
  refine lv_iadd hx hb dX12_load_56 ?_
  refine nv_i (v := 4) (by decide +kernel) ?_
  refine va_iald hx hb hK hP 5 0 rfl rfl (n_in (by decide +kernel)) dX12_load_57 ?_
  refine nv_i (v := 0) rfl ?_
  refine nb_iast (ws' := [(a0, .inr (12, [.int 0, .ref a1, .ref a2, .ref a3, .ref a4, .ref a5, .ref a6, .ref a7, .int 0, .ref a8, .int 0, .ref a9, .ref a10, .int 1, .ref a11, .int 0, .ref a12, .int 0, .int 0, .null, .int 0, .int 0, .int 0, .int 0, .ref a13, .ref a14, .ref a15, .int (-1), .int 0, .int 0, .int 0, .int 0, .int 0, .int 0, .int 0, .ref a16, .int 0, .ref a17, .int 0, .ref a18, .ref a19, .int 0, .int 0, .int 0, .int 0, .ref a20, .ref a21, .ref a22, .ref a23, .ref a24, .ref a25, .ref a26, .ref a27, .ref a28, .int 1, .ref a29, .ref a30, .ref a31, .long 0, .int 0, .int 0, .int 0, .long 0, .int 0, .ref a32, .int 0, .int 0, .int 0, .int 0, .ref a33, .ref a34, .ref a35])), (a20, .inl (y 0, 18000, .inl nz)), (a7, .inl (y 0, 9, .inl nz)), (a21, .inl (y 0, 18000, .inl nz)), (a1, .inl (y 0, 9, .inl nz)), (a22, .inl (y 0, 18000, .inl nz)), (a6, .inl (y 0, 9, .inl nz))]) hx hb hK hP hD hS 6 0 rfl rfl (n_in (by decide +kernel)) (by rw [nb_upI (f := nz) (i := Int32.toNatClampNeg 4) (x := 0) rfl]; rfl) dX12_load_58 (fun H locs hP hD hS => ?_)
  refine lv_iinc (v := 5) (lv' := [(2, .int 5), (0, .ref a0), (1, .int 0)]) hx hb dX12_load_59 hl (k := 0) rfl (by decide +kernel) (by decide +kernel) rfl (fun ls hl => ?_)
  refine lv_goto (tgt := 2) hx hb dX12_load_62 (by decide +kernel) ?_
  refine lv_iload_n hx hb dX12_load_2 rfl (lv_at hl 0 rfl) ?_
  refine lv_bipush (v := 9) hx hb dX12_load_3 (by decide +kernel) ?_
  refine lv_icmp_ge (tgt := 65) hx hb dX12_load_5 (by decide +kernel) (fun c => absurd c (by decide +kernel)) (fun _ => ?_)
  refine lv_aload_n hx hb dX12_load_8 rfl (lv_at hl 1 rfl) ?_
  refine va_get (D := D) (ci := 12) (v := .ref a7) (C := RX12) (T := TX12) (N := 72) hx hb hts iX12_load_X12 hown hK hP 0 rfl rfl 7 (by decide +kernel) w_0 (fun _ h9 => h9) rfl dX12_load_9 ?_
  refine lv_iload_n hx hb dX12_load_12 rfl (lv_at hl 0 rfl) ?_
  refine lv_aload_n hx hb dX12_load_13 rfl (lv_at hl 1 rfl) ?_
  refine va_get (D := D) (ci := 12) (v := .ref a20) (C := RX12) (T := TX12) (N := 72) hx hb hts iX12_load_X12 hown hK hP 0 rfl rfl 45 (by decide +kernel) w_1 (fun _ h9 => h9) rfl dX12_load_14 ?_
  refine lv_bipush (v := 9) hx hb dX12_load_17 (by decide +kernel) ?_
  refine lv_iload_n hx hb dX12_load_19 rfl (lv_at hl 2 rfl) ?_
  refine lv_imul hx hb dX12_load_20 ?_
  refine nv_i (v := 0) (by decide +kernel) ?_
  refine lv_iload_n hx hb dX12_load_21 rfl (lv_at hl 0 rfl) ?_
  refine lv_iadd hx hb dX12_load_22 ?_
  refine nv_i (v := 5) (by decide +kernel) ?_
  refine va_iald hx hb hK hP 1 0 rfl rfl (n_in (by decide +kernel)) dX12_load_23 ?_
  refine nv_i (v := 0) rfl ?_
  refine nb_iast (ws' := [(a0, .inr (12, [.int 0, .ref a1, .ref a2, .ref a3, .ref a4, .ref a5, .ref a6, .ref a7, .int 0, .ref a8, .int 0, .ref a9, .ref a10, .int 1, .ref a11, .int 0, .ref a12, .int 0, .int 0, .null, .int 0, .int 0, .int 0, .int 0, .ref a13, .ref a14, .ref a15, .int (-1), .int 0, .int 0, .int 0, .int 0, .int 0, .int 0, .int 0, .ref a16, .int 0, .ref a17, .int 0, .ref a18, .ref a19, .int 0, .int 0, .int 0, .int 0, .ref a20, .ref a21, .ref a22, .ref a23, .ref a24, .ref a25, .ref a26, .ref a27, .ref a28, .int 1, .ref a29, .ref a30, .ref a31, .long 0, .int 0, .int 0, .int 0, .long 0, .int 0, .ref a32, .int 0, .int 0, .int 0, .int 0, .ref a33, .ref a34, .ref a35])), (a20, .inl (y 0, 18000, .inl nz)), (a7, .inl (y 0, 9, .inl nz)), (a21, .inl (y 0, 18000, .inl nz)), (a1, .inl (y 0, 9, .inl nz)), (a22, .inl (y 0, 18000, .inl nz)), (a6, .inl (y 0, 9, .inl nz))]) hx hb hK hP hD hS 2 0 rfl rfl (n_in (by decide +kernel)) (by rw [nb_upI (f := nz) (i := Int32.toNatClampNeg 5) (x := 0) rfl]; rfl) dX12_load_24 (fun H locs hP hD hS => ?_)
  refine lv_aload_n hx hb dX12_load_25 rfl (lv_at hl 1 rfl) ?_
  refine va_get (D := D) (ci := 12) (v := .ref a1) (C := RX12) (T := TX12) (N := 72) hx hb hts iX12_load_X12 hown hK hP 0 rfl rfl 1 (by decide +kernel) w_2 (fun _ h9 => h9) rfl dX12_load_26 ?_
  refine lv_iload_n hx hb dX12_load_29 rfl (lv_at hl 0 rfl) ?_
  refine lv_aload_n hx hb dX12_load_30 rfl (lv_at hl 1 rfl) ?_
  refine va_get (D := D) (ci := 12) (v := .ref a21) (C := RX12) (T := TX12) (N := 72) hx hb hts iX12_load_X12 hown hK hP 0 rfl rfl 46 (by decide +kernel) w_3 (fun _ h9 => h9) rfl dX12_load_31 ?_
  refine lv_bipush (v := 9) hx hb dX12_load_34 (by decide +kernel) ?_
  refine lv_iload_n hx hb dX12_load_36 rfl (lv_at hl 2 rfl) ?_
  refine lv_imul hx hb dX12_load_37 ?_
  refine nv_i (v := 0) (by decide +kernel) ?_
  refine lv_iload_n hx hb dX12_load_38 rfl (lv_at hl 0 rfl) ?_
  refine lv_iadd hx hb dX12_load_39 ?_
  refine nv_i (v := 5) (by decide +kernel) ?_
  refine va_iald hx hb hK hP 3 0 rfl rfl (n_in (by decide +kernel)) dX12_load_40 ?_
  refine nv_i (v := 0) rfl ?_
  refine nb_iast (ws' := [(a0, .inr (12, [.int 0, .ref a1, .ref a2, .ref a3, .ref a4, .ref a5, .ref a6, .ref a7, .int 0, .ref a8, .int 0, .ref a9, .ref a10, .int 1, .ref a11, .int 0, .ref a12, .int 0, .int 0, .null, .int 0, .int 0, .int 0, .int 0, .ref a13, .ref a14, .ref a15, .int (-1), .int 0, .int 0, .int 0, .int 0, .int 0, .int 0, .int 0, .ref a16, .int 0, .ref a17, .int 0, .ref a18, .ref a19, .int 0, .int 0, .int 0, .int 0, .ref a20, .ref a21, .ref a22, .ref a23, .ref a24, .ref a25, .ref a26, .ref a27, .ref a28, .int 1, .ref a29, .ref a30, .ref a31, .long 0, .int 0, .int 0, .int 0, .long 0, .int 0, .ref a32, .int 0, .int 0, .int 0, .int 0, .ref a33, .ref a34, .ref a35])), (a20, .inl (y 0, 18000, .inl nz)), (a7, .inl (y 0, 9, .inl nz)), (a21, .inl (y 0, 18000, .inl nz)), (a1, .inl (y 0, 9, .inl nz)), (a22, .inl (y 0, 18000, .inl nz)), (a6, .inl (y 0, 9, .inl nz))]) hx hb hK hP hD hS 4 0 rfl rfl (n_in (by decide +kernel)) (by rw [nb_upI (f := nz) (i := Int32.toNatClampNeg 5) (x := 0) rfl]; rfl) dX12_load_41 (fun H locs hP hD hS => ?_)
  refine lv_aload_n hx hb dX12_load_42 rfl (lv_at hl 1 rfl) ?_
  refine va_get (D := D) (ci := 12) (v := .ref a6) (C := RX12) (T := TX12) (N := 72) hx hb hts iX12_load_X12 hown hK hP 0 rfl rfl 6 (by decide +kernel) w_4 (fun _ h9 => h9) rfl dX12_load_43 ?_
  refine lv_iload_n hx hb dX12_load_46 rfl (lv_at hl 0 rfl) ?_
  refine lv_aload_n hx hb dX12_load_47 rfl (lv_at hl 1 rfl) ?_
  refine va_get (D := D) (ci := 12) (v := .ref a22) (C := RX12) (T := TX12) (N := 72) hx hb hts iX12_load_X12 hown hK hP 0 rfl rfl 47 (by decide +kernel) w_5 (fun _ h9 => h9) rfl dX12_load_48 ?_
  refine lv_bipush (v := 9) hx hb dX12_load_51 (by decide +kernel) ?_
  refine lv_iload_n hx hb dX12_load_53 rfl (lv_at hl 2 rfl) ?_
  refine lv_imul hx hb dX12_load_54 ?_
  refine nv_i (v := 0) (by decide +kernel) ?_
  refine lv_iload_n hx hb dX12_load_55 rfl (lv_at hl 0 rfl) ?_
  refine lv_iadd hx hb dX12_load_56 ?_
  refine nv_i (v := 5) (by decide +kernel) ?_
  refine va_iald hx hb hK hP 5 0 rfl rfl (n_in (by decide +kernel)) dX12_load_57 ?_
  refine nv_i (v := 0) rfl ?_
  refine nb_iast (ws' := [(a0, .inr (12, [.int 0, .ref a1, .ref a2, .ref a3, .ref a4, .ref a5, .ref a6, .ref a7, .int 0, .ref a8, .int 0, .ref a9, .ref a10, .int 1, .ref a11, .int 0, .ref a12, .int 0, .int 0, .null, .int 0, .int 0, .int 0, .int 0, .ref a13, .ref a14, .ref a15, .int (-1), .int 0, .int 0, .int 0, .int 0, .int 0, .int 0, .int 0, .ref a16, .int 0, .ref a17, .int 0, .ref a18, .ref a19, .int 0, .int 0, .int 0, .int 0, .ref a20, .ref a21, .ref a22, .ref a23, .ref a24, .ref a25, .ref a26, .ref a27, .ref a28, .int 1, .ref a29, .ref a30, .ref a31, .long 0, .int 0, .int 0, .int 0, .long 0, .int 0, .ref a32, .int 0, .int 0, .int 0, .int 0, .ref a33, .ref a34, .ref a35])), (a20, .inl (y 0, 18000, .inl nz)), (a7, .inl (y 0, 9, .inl nz)), (a21, .inl (y 0, 18000, .inl nz)), (a1, .inl (y 0, 9, .inl nz)), (a22, .inl (y 0, 18000, .inl nz)), (a6, .inl (y 0, 9, .inl nz))]) hx hb hK hP hD hS 6 0 rfl rfl (n_in (by decide +kernel)) (by rw [nb_upI (f := nz) (i := Int32.toNatClampNeg 5) (x := 0) rfl]; rfl) dX12_load_58 (fun H locs hP hD hS => ?_)
  refine lv_iinc (v := 6) (lv' := [(2, .int 6), (0, .ref a0), (1, .int 0)]) hx hb dX12_load_59 hl (k := 0) rfl (by decide +kernel) (by decide +kernel) rfl (fun ls hl => ?_)
  refine lv_goto (tgt := 2) hx hb dX12_load_62 (by decide +kernel) ?_
  refine lv_iload_n hx hb dX12_load_2 rfl (lv_at hl 0 rfl) ?_
  refine lv_bipush (v := 9) hx hb dX12_load_3 (by decide +kernel) ?_
  refine lv_icmp_ge (tgt := 65) hx hb dX12_load_5 (by decide +kernel) (fun c => absurd c (by decide +kernel)) (fun _ => ?_)
  refine lv_aload_n hx hb dX12_load_8 rfl (lv_at hl 1 rfl) ?_
  refine va_get (D := D) (ci := 12) (v := .ref a7) (C := RX12) (T := TX12) (N := 72) hx hb hts iX12_load_X12 hown hK hP 0 rfl rfl 7 (by decide +kernel) w_0 (fun _ h9 => h9) rfl dX12_load_9 ?_
  refine lv_iload_n hx hb dX12_load_12 rfl (lv_at hl 0 rfl) ?_
  refine lv_aload_n hx hb dX12_load_13 rfl (lv_at hl 1 rfl) ?_
  refine va_get (D := D) (ci := 12) (v := .ref a20) (C := RX12) (T := TX12) (N := 72) hx hb hts iX12_load_X12 hown hK hP 0 rfl rfl 45 (by decide +kernel) w_1 (fun _ h9 => h9) rfl dX12_load_14 ?_
  refine lv_bipush (v := 9) hx hb dX12_load_17 (by decide +kernel) ?_
  refine lv_iload_n hx hb dX12_load_19 rfl (lv_at hl 2 rfl) ?_
  refine lv_imul hx hb dX12_load_20 ?_
  refine nv_i (v := 0) (by decide +kernel) ?_
  refine lv_iload_n hx hb dX12_load_21 rfl (lv_at hl 0 rfl) ?_
  refine lv_iadd hx hb dX12_load_22 ?_
  refine nv_i (v := 6) (by decide +kernel) ?_
  refine va_iald hx hb hK hP 1 0 rfl rfl (n_in (by decide +kernel)) dX12_load_23 ?_
  refine nv_i (v := 0) rfl ?_
  refine nb_iast (ws' := [(a0, .inr (12, [.int 0, .ref a1, .ref a2, .ref a3, .ref a4, .ref a5, .ref a6, .ref a7, .int 0, .ref a8, .int 0, .ref a9, .ref a10, .int 1, .ref a11, .int 0, .ref a12, .int 0, .int 0, .null, .int 0, .int 0, .int 0, .int 0, .ref a13, .ref a14, .ref a15, .int (-1), .int 0, .int 0, .int 0, .int 0, .int 0, .int 0, .int 0, .ref a16, .int 0, .ref a17, .int 0, .ref a18, .ref a19, .int 0, .int 0, .int 0, .int 0, .ref a20, .ref a21, .ref a22, .ref a23, .ref a24, .ref a25, .ref a26, .ref a27, .ref a28, .int 1, .ref a29, .ref a30, .ref a31, .long 0, .int 0, .int 0, .int 0, .long 0, .int 0, .ref a32, .int 0, .int 0, .int 0, .int 0, .ref a33, .ref a34, .ref a35])), (a20, .inl (y 0, 18000, .inl nz)), (a7, .inl (y 0, 9, .inl nz)), (a21, .inl (y 0, 18000, .inl nz)), (a1, .inl (y 0, 9, .inl nz)), (a22, .inl (y 0, 18000, .inl nz)), (a6, .inl (y 0, 9, .inl nz))]) hx hb hK hP hD hS 2 0 rfl rfl (n_in (by decide +kernel)) (by rw [nb_upI (f := nz) (i := Int32.toNatClampNeg 6) (x := 0) rfl]; rfl) dX12_load_24 (fun H locs hP hD hS => ?_)
  refine lv_aload_n hx hb dX12_load_25 rfl (lv_at hl 1 rfl) ?_
  refine va_get (D := D) (ci := 12) (v := .ref a1) (C := RX12) (T := TX12) (N := 72) hx hb hts iX12_load_X12 hown hK hP 0 rfl rfl 1 (by decide +kernel) w_2 (fun _ h9 => h9) rfl dX12_load_26 ?_
  refine lv_iload_n hx hb dX12_load_29 rfl (lv_at hl 0 rfl) ?_
  refine lv_aload_n hx hb dX12_load_30 rfl (lv_at hl 1 rfl) ?_
  refine va_get (D := D) (ci := 12) (v := .ref a21) (C := RX12) (T := TX12) (N := 72) hx hb hts iX12_load_X12 hown hK hP 0 rfl rfl 46 (by decide +kernel) w_3 (fun _ h9 => h9) rfl dX12_load_31 ?_
  refine lv_bipush (v := 9) hx hb dX12_load_34 (by decide +kernel) ?_
  refine lv_iload_n hx hb dX12_load_36 rfl (lv_at hl 2 rfl) ?_
  refine lv_imul hx hb dX12_load_37 ?_
  refine nv_i (v := 0) (by decide +kernel) ?_
  refine lv_iload_n hx hb dX12_load_38 rfl (lv_at hl 0 rfl) ?_
  refine lv_iadd hx hb dX12_load_39 ?_
  refine nv_i (v := 6) (by decide +kernel) ?_
  refine va_iald hx hb hK hP 3 0 rfl rfl (n_in (by decide +kernel)) dX12_load_40 ?_
  refine nv_i (v := 0) rfl ?_
  refine nb_iast (ws' := [(a0, .inr (12, [.int 0, .ref a1, .ref a2, .ref a3, .ref a4, .ref a5, .ref a6, .ref a7, .int 0, .ref a8, .int 0, .ref a9, .ref a10, .int 1, .ref a11, .int 0, .ref a12, .int 0, .int 0, .null, .int 0, .int 0, .int 0, .int 0, .ref a13, .ref a14, .ref a15, .int (-1), .int 0, .int 0, .int 0, .int 0, .int 0, .int 0, .int 0, .ref a16, .int 0, .ref a17, .int 0, .ref a18, .ref a19, .int 0, .int 0, .int 0, .int 0, .ref a20, .ref a21, .ref a22, .ref a23, .ref a24, .ref a25, .ref a26, .ref a27, .ref a28, .int 1, .ref a29, .ref a30, .ref a31, .long 0, .int 0, .int 0, .int 0, .long 0, .int 0, .ref a32, .int 0, .int 0, .int 0, .int 0, .ref a33, .ref a34, .ref a35])), (a20, .inl (y 0, 18000, .inl nz)), (a7, .inl (y 0, 9, .inl nz)), (a21, .inl (y 0, 18000, .inl nz)), (a1, .inl (y 0, 9, .inl nz)), (a22, .inl (y 0, 18000, .inl nz)), (a6, .inl (y 0, 9, .inl nz))]) hx hb hK hP hD hS 4 0 rfl rfl (n_in (by decide +kernel)) (by rw [nb_upI (f := nz) (i := Int32.toNatClampNeg 6) (x := 0) rfl]; rfl) dX12_load_41 (fun H locs hP hD hS => ?_)
  refine lv_aload_n hx hb dX12_load_42 rfl (lv_at hl 1 rfl) ?_
  refine va_get (D := D) (ci := 12) (v := .ref a6) (C := RX12) (T := TX12) (N := 72) hx hb hts iX12_load_X12 hown hK hP 0 rfl rfl 6 (by decide +kernel) w_4 (fun _ h9 => h9) rfl dX12_load_43 ?_
  refine lv_iload_n hx hb dX12_load_46 rfl (lv_at hl 0 rfl) ?_
  refine lv_aload_n hx hb dX12_load_47 rfl (lv_at hl 1 rfl) ?_
  refine va_get (D := D) (ci := 12) (v := .ref a22) (C := RX12) (T := TX12) (N := 72) hx hb hts iX12_load_X12 hown hK hP 0 rfl rfl 47 (by decide +kernel) w_5 (fun _ h9 => h9) rfl dX12_load_48 ?_
  refine lv_bipush (v := 9) hx hb dX12_load_51 (by decide +kernel) ?_
  refine lv_iload_n hx hb dX12_load_53 rfl (lv_at hl 2 rfl) ?_
  refine lv_imul hx hb dX12_load_54 ?_
  refine nv_i (v := 0) (by decide +kernel) ?_
  refine lv_iload_n hx hb dX12_load_55 rfl (lv_at hl 0 rfl) ?_
  refine lv_iadd hx hb dX12_load_56 ?_
  refine nv_i (v := 6) (by decide +kernel) ?_
  refine va_iald hx hb hK hP 5 0 rfl rfl (n_in (by decide +kernel)) dX12_load_57 ?_
  refine nv_i (v := 0) rfl ?_
  refine nb_iast (ws' := [(a0, .inr (12, [.int 0, .ref a1, .ref a2, .ref a3, .ref a4, .ref a5, .ref a6, .ref a7, .int 0, .ref a8, .int 0, .ref a9, .ref a10, .int 1, .ref a11, .int 0, .ref a12, .int 0, .int 0, .null, .int 0, .int 0, .int 0, .int 0, .ref a13, .ref a14, .ref a15, .int (-1), .int 0, .int 0, .int 0, .int 0, .int 0, .int 0, .int 0, .ref a16, .int 0, .ref a17, .int 0, .ref a18, .ref a19, .int 0, .int 0, .int 0, .int 0, .ref a20, .ref a21, .ref a22, .ref a23, .ref a24, .ref a25, .ref a26, .ref a27, .ref a28, .int 1, .ref a29, .ref a30, .ref a31, .long 0, .int 0, .int 0, .int 0, .long 0, .int 0, .ref a32, .int 0, .int 0, .int 0, .int 0, .ref a33, .ref a34, .ref a35])), (a20, .inl (y 0, 18000, .inl nz)), (a7, .inl (y 0, 9, .inl nz)), (a21, .inl (y 0, 18000, .inl nz)), (a1, .inl (y 0, 9, .inl nz)), (a22, .inl (y 0, 18000, .inl nz)), (a6, .inl (y 0, 9, .inl nz))]) hx hb hK hP hD hS 6 0 rfl rfl (n_in (by decide +kernel)) (by rw [nb_upI (f := nz) (i := Int32.toNatClampNeg 6) (x := 0) rfl]; rfl) dX12_load_58 (fun H locs hP hD hS => ?_)
  refine lv_iinc (v := 7) (lv' := [(2, .int 7), (0, .ref a0), (1, .int 0)]) hx hb dX12_load_59 hl (k := 0) rfl (by decide +kernel) (by decide +kernel) rfl (fun ls hl => ?_)
  refine lv_goto (tgt := 2) hx hb dX12_load_62 (by decide +kernel) ?_
  refine lv_iload_n hx hb dX12_load_2 rfl (lv_at hl 0 rfl) ?_
  refine lv_bipush (v := 9) hx hb dX12_load_3 (by decide +kernel) ?_
  refine lv_icmp_ge (tgt := 65) hx hb dX12_load_5 (by decide +kernel) (fun c => absurd c (by decide +kernel)) (fun _ => ?_)
  refine lv_aload_n hx hb dX12_load_8 rfl (lv_at hl 1 rfl) ?_
  refine va_get (D := D) (ci := 12) (v := .ref a7) (C := RX12) (T := TX12) (N := 72) hx hb hts iX12_load_X12 hown hK hP 0 rfl rfl 7 (by decide +kernel) w_0 (fun _ h9 => h9) rfl dX12_load_9 ?_
  refine lv_iload_n hx hb dX12_load_12 rfl (lv_at hl 0 rfl) ?_
  refine lv_aload_n hx hb dX12_load_13 rfl (lv_at hl 1 rfl) ?_
  refine va_get (D := D) (ci := 12) (v := .ref a20) (C := RX12) (T := TX12) (N := 72) hx hb hts iX12_load_X12 hown hK hP 0 rfl rfl 45 (by decide +kernel) w_1 (fun _ h9 => h9) rfl dX12_load_14 ?_
  refine lv_bipush (v := 9) hx hb dX12_load_17 (by decide +kernel) ?_
  refine lv_iload_n hx hb dX12_load_19 rfl (lv_at hl 2 rfl) ?_
  refine lv_imul hx hb dX12_load_20 ?_
  refine nv_i (v := 0) (by decide +kernel) ?_
  refine lv_iload_n hx hb dX12_load_21 rfl (lv_at hl 0 rfl) ?_
  refine lv_iadd hx hb dX12_load_22 ?_
  refine nv_i (v := 7) (by decide +kernel) ?_
  refine va_iald hx hb hK hP 1 0 rfl rfl (n_in (by decide +kernel)) dX12_load_23 ?_
  refine nv_i (v := 0) rfl ?_
  refine nb_iast (ws' := [(a0, .inr (12, [.int 0, .ref a1, .ref a2, .ref a3, .ref a4, .ref a5, .ref a6, .ref a7, .int 0, .ref a8, .int 0, .ref a9, .ref a10, .int 1, .ref a11, .int 0, .ref a12, .int 0, .int 0, .null, .int 0, .int 0, .int 0, .int 0, .ref a13, .ref a14, .ref a15, .int (-1), .int 0, .int 0, .int 0, .int 0, .int 0, .int 0, .int 0, .ref a16, .int 0, .ref a17, .int 0, .ref a18, .ref a19, .int 0, .int 0, .int 0, .int 0, .ref a20, .ref a21, .ref a22, .ref a23, .ref a24, .ref a25, .ref a26, .ref a27, .ref a28, .int 1, .ref a29, .ref a30, .ref a31, .long 0, .int 0, .int 0, .int 0, .long 0, .int 0, .ref a32, .int 0, .int 0, .int 0, .int 0, .ref a33, .ref a34, .ref a35])), (a20, .inl (y 0, 18000, .inl nz)), (a7, .inl (y 0, 9, .inl nz)), (a21, .inl (y 0, 18000, .inl nz)), (a1, .inl (y 0, 9, .inl nz)), (a22, .inl (y 0, 18000, .inl nz)), (a6, .inl (y 0, 9, .inl nz))]) hx hb hK hP hD hS 2 0 rfl rfl (n_in (by decide +kernel)) (by rw [nb_upI (f := nz) (i := Int32.toNatClampNeg 7) (x := 0) rfl]; rfl) dX12_load_24 (fun H locs hP hD hS => ?_)
  refine lv_aload_n hx hb dX12_load_25 rfl (lv_at hl 1 rfl) ?_
  refine va_get (D := D) (ci := 12) (v := .ref a1) (C := RX12) (T := TX12) (N := 72) hx hb hts iX12_load_X12 hown hK hP 0 rfl rfl 1 (by decide +kernel) w_2 (fun _ h9 => h9) rfl dX12_load_26 ?_
  refine lv_iload_n hx hb dX12_load_29 rfl (lv_at hl 0 rfl) ?_
  refine lv_aload_n hx hb dX12_load_30 rfl (lv_at hl 1 rfl) ?_
  refine va_get (D := D) (ci := 12) (v := .ref a21) (C := RX12) (T := TX12) (N := 72) hx hb hts iX12_load_X12 hown hK hP 0 rfl rfl 46 (by decide +kernel) w_3 (fun _ h9 => h9) rfl dX12_load_31 ?_
  refine lv_bipush (v := 9) hx hb dX12_load_34 (by decide +kernel) ?_
  refine lv_iload_n hx hb dX12_load_36 rfl (lv_at hl 2 rfl) ?_
  refine lv_imul hx hb dX12_load_37 ?_
  refine nv_i (v := 0) (by decide +kernel) ?_
  refine lv_iload_n hx hb dX12_load_38 rfl (lv_at hl 0 rfl) ?_
  refine lv_iadd hx hb dX12_load_39 ?_
  refine nv_i (v := 7) (by decide +kernel) ?_
  refine va_iald hx hb hK hP 3 0 rfl rfl (n_in (by decide +kernel)) dX12_load_40 ?_
  refine nv_i (v := 0) rfl ?_
  refine nb_iast (ws' := [(a0, .inr (12, [.int 0, .ref a1, .ref a2, .ref a3, .ref a4, .ref a5, .ref a6, .ref a7, .int 0, .ref a8, .int 0, .ref a9, .ref a10, .int 1, .ref a11, .int 0, .ref a12, .int 0, .int 0, .null, .int 0, .int 0, .int 0, .int 0, .ref a13, .ref a14, .ref a15, .int (-1), .int 0, .int 0, .int 0, .int 0, .int 0, .int 0, .int 0, .ref a16, .int 0, .ref a17, .int 0, .ref a18, .ref a19, .int 0, .int 0, .int 0, .int 0, .ref a20, .ref a21, .ref a22, .ref a23, .ref a24, .ref a25, .ref a26, .ref a27, .ref a28, .int 1, .ref a29, .ref a30, .ref a31, .long 0, .int 0, .int 0, .int 0, .long 0, .int 0, .ref a32, .int 0, .int 0, .int 0, .int 0, .ref a33, .ref a34, .ref a35])), (a20, .inl (y 0, 18000, .inl nz)), (a7, .inl (y 0, 9, .inl nz)), (a21, .inl (y 0, 18000, .inl nz)), (a1, .inl (y 0, 9, .inl nz)), (a22, .inl (y 0, 18000, .inl nz)), (a6, .inl (y 0, 9, .inl nz))]) hx hb hK hP hD hS 4 0 rfl rfl (n_in (by decide +kernel)) (by rw [nb_upI (f := nz) (i := Int32.toNatClampNeg 7) (x := 0) rfl]; rfl) dX12_load_41 (fun H locs hP hD hS => ?_)
  refine lv_aload_n hx hb dX12_load_42 rfl (lv_at hl 1 rfl) ?_
  refine va_get (D := D) (ci := 12) (v := .ref a6) (C := RX12) (T := TX12) (N := 72) hx hb hts iX12_load_X12 hown hK hP 0 rfl rfl 6 (by decide +kernel) w_4 (fun _ h9 => h9) rfl dX12_load_43 ?_
  refine lv_iload_n hx hb dX12_load_46 rfl (lv_at hl 0 rfl) ?_
  refine lv_aload_n hx hb dX12_load_47 rfl (lv_at hl 1 rfl) ?_
  refine va_get (D := D) (ci := 12) (v := .ref a22) (C := RX12) (T := TX12) (N := 72) hx hb hts iX12_load_X12 hown hK hP 0 rfl rfl 47 (by decide +kernel) w_5 (fun _ h9 => h9) rfl dX12_load_48 ?_
  refine lv_bipush (v := 9) hx hb dX12_load_51 (by decide +kernel) ?_
  refine lv_iload_n hx hb dX12_load_53 rfl (lv_at hl 2 rfl) ?_
  refine lv_imul hx hb dX12_load_54 ?_
  refine nv_i (v := 0) (by decide +kernel) ?_
  refine lv_iload_n hx hb dX12_load_55 rfl (lv_at hl 0 rfl) ?_
  refine lv_iadd hx hb dX12_load_56 ?_
  refine nv_i (v := 7) (by decide +kernel) ?_
  refine va_iald hx hb hK hP 5 0 rfl rfl (n_in (by decide +kernel)) dX12_load_57 ?_
  refine nv_i (v := 0) rfl ?_
  refine nb_iast (ws' := [(a0, .inr (12, [.int 0, .ref a1, .ref a2, .ref a3, .ref a4, .ref a5, .ref a6, .ref a7, .int 0, .ref a8, .int 0, .ref a9, .ref a10, .int 1, .ref a11, .int 0, .ref a12, .int 0, .int 0, .null, .int 0, .int 0, .int 0, .int 0, .ref a13, .ref a14, .ref a15, .int (-1), .int 0, .int 0, .int 0, .int 0, .int 0, .int 0, .int 0, .ref a16, .int 0, .ref a17, .int 0, .ref a18, .ref a19, .int 0, .int 0, .int 0, .int 0, .ref a20, .ref a21, .ref a22, .ref a23, .ref a24, .ref a25, .ref a26, .ref a27, .ref a28, .int 1, .ref a29, .ref a30, .ref a31, .long 0, .int 0, .int 0, .int 0, .long 0, .int 0, .ref a32, .int 0, .int 0, .int 0, .int 0, .ref a33, .ref a34, .ref a35])), (a20, .inl (y 0, 18000, .inl nz)), (a7, .inl (y 0, 9, .inl nz)), (a21, .inl (y 0, 18000, .inl nz)), (a1, .inl (y 0, 9, .inl nz)), (a22, .inl (y 0, 18000, .inl nz)), (a6, .inl (y 0, 9, .inl nz))]) hx hb hK hP hD hS 6 0 rfl rfl (n_in (by decide +kernel)) (by rw [nb_upI (f := nz) (i := Int32.toNatClampNeg 7) (x := 0) rfl]; rfl) dX12_load_58 (fun H locs hP hD hS => ?_)
  refine lv_iinc (v := 8) (lv' := [(2, .int 8), (0, .ref a0), (1, .int 0)]) hx hb dX12_load_59 hl (k := 0) rfl (by decide +kernel) (by decide +kernel) rfl (fun ls hl => ?_)
  refine lv_goto (tgt := 2) hx hb dX12_load_62 (by decide +kernel) ?_
  refine lv_iload_n hx hb dX12_load_2 rfl (lv_at hl 0 rfl) ?_
  refine lv_bipush (v := 9) hx hb dX12_load_3 (by decide +kernel) ?_
  refine lv_icmp_ge (tgt := 65) hx hb dX12_load_5 (by decide +kernel) (fun c => absurd c (by decide +kernel)) (fun _ => ?_)
  refine lv_aload_n hx hb dX12_load_8 rfl (lv_at hl 1 rfl) ?_
  refine va_get (D := D) (ci := 12) (v := .ref a7) (C := RX12) (T := TX12) (N := 72) hx hb hts iX12_load_X12 hown hK hP 0 rfl rfl 7 (by decide +kernel) w_0 (fun _ h9 => h9) rfl dX12_load_9 ?_
  refine lv_iload_n hx hb dX12_load_12 rfl (lv_at hl 0 rfl) ?_
  refine lv_aload_n hx hb dX12_load_13 rfl (lv_at hl 1 rfl) ?_
  refine va_get (D := D) (ci := 12) (v := .ref a20) (C := RX12) (T := TX12) (N := 72) hx hb hts iX12_load_X12 hown hK hP 0 rfl rfl 45 (by decide +kernel) w_1 (fun _ h9 => h9) rfl dX12_load_14 ?_
  refine lv_bipush (v := 9) hx hb dX12_load_17 (by decide +kernel) ?_
  refine lv_iload_n hx hb dX12_load_19 rfl (lv_at hl 2 rfl) ?_
  refine lv_imul hx hb dX12_load_20 ?_
  refine nv_i (v := 0) (by decide +kernel) ?_
  refine lv_iload_n hx hb dX12_load_21 rfl (lv_at hl 0 rfl) ?_
  refine lv_iadd hx hb dX12_load_22 ?_
  refine nv_i (v := 8) (by decide +kernel) ?_
  refine va_iald hx hb hK hP 1 0 rfl rfl (n_in (by decide +kernel)) dX12_load_23 ?_
  refine nv_i (v := 0) rfl ?_
  refine nb_iast (ws' := [(a0, .inr (12, [.int 0, .ref a1, .ref a2, .ref a3, .ref a4, .ref a5, .ref a6, .ref a7, .int 0, .ref a8, .int 0, .ref a9, .ref a10, .int 1, .ref a11, .int 0, .ref a12, .int 0, .int 0, .null, .int 0, .int 0, .int 0, .int 0, .ref a13, .ref a14, .ref a15, .int (-1), .int 0, .int 0, .int 0, .int 0, .int 0, .int 0, .int 0, .ref a16, .int 0, .ref a17, .int 0, .ref a18, .ref a19, .int 0, .int 0, .int 0, .int 0, .ref a20, .ref a21, .ref a22, .ref a23, .ref a24, .ref a25, .ref a26, .ref a27, .ref a28, .int 1, .ref a29, .ref a30, .ref a31, .long 0, .int 0, .int 0, .int 0, .long 0, .int 0, .ref a32, .int 0, .int 0, .int 0, .int 0, .ref a33, .ref a34, .ref a35])), (a20, .inl (y 0, 18000, .inl nz)), (a7, .inl (y 0, 9, .inl nz)), (a21, .inl (y 0, 18000, .inl nz)), (a1, .inl (y 0, 9, .inl nz)), (a22, .inl (y 0, 18000, .inl nz)), (a6, .inl (y 0, 9, .inl nz))]) hx hb hK hP hD hS 2 0 rfl rfl (n_in (by decide +kernel)) (by rw [nb_upI (f := nz) (i := Int32.toNatClampNeg 8) (x := 0) rfl]; rfl) dX12_load_24 (fun H locs hP hD hS => ?_)
  refine lv_aload_n hx hb dX12_load_25 rfl (lv_at hl 1 rfl) ?_
  refine va_get (D := D) (ci := 12) (v := .ref a1) (C := RX12) (T := TX12) (N := 72) hx hb hts iX12_load_X12 hown hK hP 0 rfl rfl 1 (by decide +kernel) w_2 (fun _ h9 => h9) rfl dX12_load_26 ?_
  refine lv_iload_n hx hb dX12_load_29 rfl (lv_at hl 0 rfl) ?_
  refine lv_aload_n hx hb dX12_load_30 rfl (lv_at hl 1 rfl) ?_
  refine va_get (D := D) (ci := 12) (v := .ref a21) (C := RX12) (T := TX12) (N := 72) hx hb hts iX12_load_X12 hown hK hP 0 rfl rfl 46 (by decide +kernel) w_3 (fun _ h9 => h9) rfl dX12_load_31 ?_
  refine lv_bipush (v := 9) hx hb dX12_load_34 (by decide +kernel) ?_
  refine lv_iload_n hx hb dX12_load_36 rfl (lv_at hl 2 rfl) ?_
  refine lv_imul hx hb dX12_load_37 ?_
  refine nv_i (v := 0) (by decide +kernel) ?_
  refine lv_iload_n hx hb dX12_load_38 rfl (lv_at hl 0 rfl) ?_
  refine lv_iadd hx hb dX12_load_39 ?_
  refine nv_i (v := 8) (by decide +kernel) ?_
  refine va_iald hx hb hK hP 3 0 rfl rfl (n_in (by decide +kernel)) dX12_load_40 ?_
  refine nv_i (v := 0) rfl ?_
  refine nb_iast (ws' := [(a0, .inr (12, [.int 0, .ref a1, .ref a2, .ref a3, .ref a4, .ref a5, .ref a6, .ref a7, .int 0, .ref a8, .int 0, .ref a9, .ref a10, .int 1, .ref a11, .int 0, .ref a12, .int 0, .int 0, .null, .int 0, .int 0, .int 0, .int 0, .ref a13, .ref a14, .ref a15, .int (-1), .int 0, .int 0, .int 0, .int 0, .int 0, .int 0, .int 0, .ref a16, .int 0, .ref a17, .int 0, .ref a18, .ref a19, .int 0, .int 0, .int 0, .int 0, .ref a20, .ref a21, .ref a22, .ref a23, .ref a24, .ref a25, .ref a26, .ref a27, .ref a28, .int 1, .ref a29, .ref a30, .ref a31, .long 0, .int 0, .int 0, .int 0, .long 0, .int 0, .ref a32, .int 0, .int 0, .int 0, .int 0, .ref a33, .ref a34, .ref a35])), (a20, .inl (y 0, 18000, .inl nz)), (a7, .inl (y 0, 9, .inl nz)), (a21, .inl (y 0, 18000, .inl nz)), (a1, .inl (y 0, 9, .inl nz)), (a22, .inl (y 0, 18000, .inl nz)), (a6, .inl (y 0, 9, .inl nz))]) hx hb hK hP hD hS 4 0 rfl rfl (n_in (by decide +kernel)) (by rw [nb_upI (f := nz) (i := Int32.toNatClampNeg 8) (x := 0) rfl]; rfl) dX12_load_41 (fun H locs hP hD hS => ?_)
  refine lv_aload_n hx hb dX12_load_42 rfl (lv_at hl 1 rfl) ?_
  refine va_get (D := D) (ci := 12) (v := .ref a6) (C := RX12) (T := TX12) (N := 72) hx hb hts iX12_load_X12 hown hK hP 0 rfl rfl 6 (by decide +kernel) w_4 (fun _ h9 => h9) rfl dX12_load_43 ?_
  refine lv_iload_n hx hb dX12_load_46 rfl (lv_at hl 0 rfl) ?_
  refine lv_aload_n hx hb dX12_load_47 rfl (lv_at hl 1 rfl) ?_
  refine va_get (D := D) (ci := 12) (v := .ref a22) (C := RX12) (T := TX12) (N := 72) hx hb hts iX12_load_X12 hown hK hP 0 rfl rfl 47 (by decide +kernel) w_5 (fun _ h9 => h9) rfl dX12_load_48 ?_
  refine lv_bipush (v := 9) hx hb dX12_load_51 (by decide +kernel) ?_
  refine lv_iload_n hx hb dX12_load_53 rfl (lv_at hl 2 rfl) ?_
  refine lv_imul hx hb dX12_load_54 ?_
  refine nv_i (v := 0) (by decide +kernel) ?_
  refine lv_iload_n hx hb dX12_load_55 rfl (lv_at hl 0 rfl) ?_
  refine lv_iadd hx hb dX12_load_56 ?_
  refine nv_i (v := 8) (by decide +kernel) ?_
  refine va_iald hx hb hK hP 5 0 rfl rfl (n_in (by decide +kernel)) dX12_load_57 ?_
  refine nv_i (v := 0) rfl ?_
  refine nb_iast (ws' := [(a0, .inr (12, [.int 0, .ref a1, .ref a2, .ref a3, .ref a4, .ref a5, .ref a6, .ref a7, .int 0, .ref a8, .int 0, .ref a9, .ref a10, .int 1, .ref a11, .int 0, .ref a12, .int 0, .int 0, .null, .int 0, .int 0, .int 0, .int 0, .ref a13, .ref a14, .ref a15, .int (-1), .int 0, .int 0, .int 0, .int 0, .int 0, .int 0, .int 0, .ref a16, .int 0, .ref a17, .int 0, .ref a18, .ref a19, .int 0, .int 0, .int 0, .int 0, .ref a20, .ref a21, .ref a22, .ref a23, .ref a24, .ref a25, .ref a26, .ref a27, .ref a28, .int 1, .ref a29, .ref a30, .ref a31, .long 0, .int 0, .int 0, .int 0, .long 0, .int 0, .ref a32, .int 0, .int 0, .int 0, .int 0, .ref a33, .ref a34, .ref a35])), (a20, .inl (y 0, 18000, .inl nz)), (a7, .inl (y 0, 9, .inl nz)), (a21, .inl (y 0, 18000, .inl nz)), (a1, .inl (y 0, 9, .inl nz)), (a22, .inl (y 0, 18000, .inl nz)), (a6, .inl (y 0, 9, .inl nz))]) hx hb hK hP hD hS 6 0 rfl rfl (n_in (by decide +kernel)) (by rw [nb_upI (f := nz) (i := Int32.toNatClampNeg 8) (x := 0) rfl]; rfl) dX12_load_58 (fun H locs hP hD hS => ?_)
  refine lv_iinc (v := 9) (lv' := [(2, .int 9), (0, .ref a0), (1, .int 0)]) hx hb dX12_load_59 hl (k := 0) rfl (by decide +kernel) (by decide +kernel) rfl (fun ls hl => ?_)
  refine lv_goto (tgt := 2) hx hb dX12_load_62 (by decide +kernel) ?_
  refine lv_iload_n hx hb dX12_load_2 rfl (lv_at hl 0 rfl) ?_
  refine lv_bipush (v := 9) hx hb dX12_load_3 (by decide +kernel) ?_
  refine lv_icmp_ge (tgt := 65) hx hb dX12_load_5 (by decide +kernel) (fun _ => ?_) (fun c => absurd (by decide +kernel) c)
  refine W.widen (k := 0) (n := 0) (Nat.le_of_ble_eq_true rfl) (Nat.le_of_ble_eq_true rfl) ?_
  exact W.vret hx hb hr (fun t ht hW => ⟨⟨(fun _ => 0), rfl, trivial, by rw [ht]; exact hP, va_K.moved hW.alike hK, hD⟩, hS.F ht⟩) hS.2.2 dX12_load_65 hlocks
set_option maxRecDepth 100000 in
set_option maxHeartbeats 4000000 in
theorem cX12_openPlaces_2 (l : Launch) (D : va_G) (y : Nat → ClassId) (a0 : Nat) (a1 : Nat) (a2 : Nat) (a3 : Nat) (a4 : Nat) (a5 : Nat) (a6 : Nat) (a7 : Nat) (a8 : Nat) (a9 : Nat) (a10 : Nat) (a11 : Nat) (a12 : Nat) (a13 : Nat) (a14 : Nat) (a15 : Nat) (a16 : Nat) (a17 : Nat) (a18 : Nat) (a19 : Nat) (a20 : Nat) (a21 : Nat) (a22 : Nat) (a23 : Nat) (a24 : Nat) (a25 : Nat) (a26 : Nat) (a27 : Nat) (a28 : Nat) (a29 : Nat) (a30 : Nat) (a31 : Nat) (a32 : Nat) (a33 : Nat) (a34 : Nat) (a35 : Nat) (sz : Nat) : Met l yX12_openPlaces wsX12_openPlaces { frames := 2, cells := 0, slots := 0, locals := 200 } (nPc D y nT [.ref a0] [(a0, .inr (12, [.int 0, .ref a1, .ref a2, .ref a3, .ref a4, .ref a5, .ref a6, .ref a7, .int 0, .ref a8, .int 0, .ref a9, .ref a10, .int 1, .ref a11, .int 0, .ref a12, .int 0, .int 0, .null, .int 0, .int 0, .int 0, .int 0, .ref a13, .ref a14, .ref a15, .int (-1), .int 0, .int 0, .int 0, .int 0, .int 0, .int 0, .int 0, .ref a16, .int 0, .ref a17, .int 0, .ref a18, .ref a19, .int 0, .int 0, .int 0, .int 0, .ref a20, .ref a21, .ref a22, .ref a23, .ref a24, .ref a25, .ref a26, .ref a27, .ref a28, .int 1, .ref a29, .ref a30, .ref a31, .long 0, .int 0, .int 0, .int 0, .long 0, .int 0, .ref a32, .int 0, .int 0, .int 0, .int 0, .ref a33, .ref a34, .ref a35]))] sz) ((fun A => nQi D y (fun r _ => r = 0) (fun u => [(a0, .inr (12, [.int 0, .ref a1, .ref a2, .ref a3, .ref a4, .ref a5, .ref a6, .ref a7, .int 0, .ref a8, .int 0, .ref a9, .ref a10, .int 1, .ref a11, .int 0, .ref a12, .int 0, .int 0, .null, .int 0, .int 0, .int 0, .int 0, .ref a13, .ref a14, .ref a15, .int (-1), .int 0, .int 0, .int 0, .int 0, .int 0, .int 0, .int 0, .ref a16, .int 0, .ref a17, .int 0, .ref a18, .ref a19, .int 0, .int 0, .int 0, .int 0, .ref a20, .ref a21, .ref a22, .ref a23, .ref a24, .ref a25, .ref a26, .ref a27, .ref a28, .int 1, .ref a29, .ref a30, .ref a31, .long 0, .int 0, .int 0, .int 0, .long 0, .int 0, .ref a32, .int 0, .int 0, .int 0, .int 0, .ref a33, .ref a34, .ref a35]))]) A) (va_A [(a0, .inr (12, [.int 0, .ref a1, .ref a2, .ref a3, .ref a4, .ref a5, .ref a6, .ref a7, .int 0, .ref a8, .int 0, .ref a9, .ref a10, .int 1, .ref a11, .int 0, .ref a12, .int 0, .int 0, .null, .int 0, .int 0, .int 0, .int 0, .ref a13, .ref a14, .ref a15, .int (-1), .int 0, .int 0, .int 0, .int 0, .int 0, .int 0, .int 0, .ref a16, .int 0, .ref a17, .int 0, .ref a18, .ref a19, .int 0, .int 0, .int 0, .int 0, .ref a20, .ref a21, .ref a22, .ref a23, .ref a24, .ref a25, .ref a26, .ref a27, .ref a28, .int 1, .ref a29, .ref a30, .ref a31, .long 0, .int 0, .int 0, .int 0, .long 0, .int 0, .ref a32, .int 0, .int 0, .int 0, .int 0, .ref a33, .ref a34, .ref a35]))] sz)) 0 0 (va_A [(a0, .inr (12, [.int 0, .ref a1, .ref a2, .ref a3, .ref a4, .ref a5, .ref a6, .ref a7, .int 0, .ref a8, .int 0, .ref a9, .ref a10, .int 1, .ref a11, .int 0, .ref a12, .int 0, .int 0, .null, .int 0, .int 0, .int 0, .int 0, .ref a13, .ref a14, .ref a15, .int (-1), .int 0, .int 0, .int 0, .int 0, .int 0, .int 0, .int 0, .ref a16, .int 0, .ref a17, .int 0, .ref a18, .ref a19, .int 0, .int 0, .int 0, .int 0, .ref a20, .ref a21, .ref a22, .ref a23, .ref a24, .ref a25, .ref a26, .ref a27, .ref a28, .int 1, .ref a29, .ref a30, .ref a31, .long 0, .int 0, .int 0, .int 0, .long 0, .int 0, .ref a32, .int 0, .int 0, .int 0, .int 0, .ref a33, .ref a34, .ref a35]))] sz) := by
  refine nm_ofW (D := D) (y := y) (E := nT) (yy := yX12_openPlaces) (wsy := wsX12_openPlaces) (rm := { frames := 2, cells := 0, slots := 0, locals := 200 }) (as := [.ref a0]) (ws := [(a0, .inr (12, [.int 0, .ref a1, .ref a2, .ref a3, .ref a4, .ref a5, .ref a6, .ref a7, .int 0, .ref a8, .int 0, .ref a9, .ref a10, .int 1, .ref a11, .int 0, .ref a12, .int 0, .int 0, .null, .int 0, .int 0, .int 0, .int 0, .ref a13, .ref a14, .ref a15, .int (-1), .int 0, .int 0, .int 0, .int 0, .int 0, .int 0, .int 0, .ref a16, .int 0, .ref a17, .int 0, .ref a18, .ref a19, .int 0, .int 0, .int 0, .int 0, .ref a20, .ref a21, .ref a22, .ref a23, .ref a24, .ref a25, .ref a26, .ref a27, .ref a28, .int 1, .ref a29, .ref a30, .ref a31, .long 0, .int 0, .int 0, .int 0, .long 0, .int 0, .ref a32, .int 0, .int 0, .int 0, .int 0, .ref a33, .ref a34, .ref a35]))]) (sz := sz) (mc := 0) (ms := 0) (Qc := fun A => nQi D y (fun r _ => r = 0) (fun u => [(a0, .inr (12, [.int 0, .ref a1, .ref a2, .ref a3, .ref a4, .ref a5, .ref a6, .ref a7, .int 0, .ref a8, .int 0, .ref a9, .ref a10, .int 1, .ref a11, .int 0, .ref a12, .int 0, .int 0, .null, .int 0, .int 0, .int 0, .int 0, .ref a13, .ref a14, .ref a15, .int (-1), .int 0, .int 0, .int 0, .int 0, .int 0, .int 0, .int 0, .ref a16, .int 0, .ref a17, .int 0, .ref a18, .ref a19, .int 0, .int 0, .int 0, .int 0, .ref a20, .ref a21, .ref a22, .ref a23, .ref a24, .ref a25, .ref a26, .ref a27, .ref a28, .int 1, .ref a29, .ref a30, .ref a31, .long 0, .int 0, .int 0, .int 0, .long 0, .int 0, .ref a32, .int 0, .int 0, .int 0, .int 0, .ref a33, .ref a34, .ref a35]))]) A) (cc := cX12_openPlaces) (maxL := 3) (ret := (some .int)) (by decide +kernel) rfl (Nat.le_of_ble_eq_true rfl) ?_
  intro p e s m below meth c A ls H hx hb hr hml hts hown hlocks hnm hsz hP hK hD hA hS hE hAe hl
  replace hl : lv_has ls 3 [(0, .ref a0)] := hl
  have hown : s.vm.findClass RX12 = some m.cls := hown
  have w_0 := hts (.fieldLink RX12 140 "SoldToBehindModel" "many" "I") (by decide +kernel)
  refine lv_iconst (v := 0) hx hb dX12_openPlaces_0 (by decide +kernel) ?_
  refine lv_istore_n (lv' := [(1, .int 0), (0, .ref a0)]) hx hb dX12_openPlaces_1 rfl hl (by decide +kernel) rfl (fun ls hl => ?_)
  refine lv_iconst (v := 1) hx hb dX12_openPlaces_2 (by decide +kernel) ?_
  refine lv_istore_n (lv' := [(2, .int 1), (1, .int 0), (0, .ref a0)]) hx hb dX12_openPlaces_3 rfl hl (by decide +kernel) rfl (fun ls hl => ?_)
  refine lv_iload_n hx hb dX12_openPlaces_4 rfl (lv_at hl 0 rfl) ?_
  refine lv_aload_n hx hb dX12_openPlaces_5 rfl (lv_at hl 2 rfl) ?_
  refine va_get (D := D) (ci := 12) (v := .int 0) (C := RX12) (T := TX12) (N := 72) hx hb hts iX12_openPlaces_X12 hown hK hP 0 rfl rfl 8 (by decide +kernel) w_0 (fun _ h9 => h9) rfl dX12_openPlaces_6 ?_
  refine lv_icmp_ge (tgt := 36) hx hb dX12_openPlaces_9 (by decide +kernel) (fun _ => ?_) (fun c => absurd (by decide +kernel) c)
  refine lv_iload_n hx hb dX12_openPlaces_36 rfl (lv_at hl 1 rfl) ?_
  refine W.widen (k := 0) (n := 0) (Nat.le_of_ble_eq_true rfl) (Nat.le_of_ble_eq_true rfl) ?_
  exact W.iret (v := 0) hx hb hr (fun t ht hW => ⟨⟨0, (fun _ => 0), rfl, rfl, by rw [ht]; exact hP, va_K.moved hW.alike hK, hD⟩, hS.F ht⟩) hS.2.2 dX12_openPlaces_37 hlocks
set_option maxRecDepth 100000 in
set_option maxHeartbeats 4000000 in
theorem cX12_takeBack_2 (l : Launch) (D : va_G) (y : Nat → ClassId) (a0 : Nat) (a1 : Nat) (a2 : Nat) (a3 : Nat) (a4 : Nat) (a5 : Nat) (a6 : Nat) (a7 : Nat) (a8 : Nat) (a9 : Nat) (a10 : Nat) (a11 : Nat) (a12 : Nat) (a13 : Nat) (a14 : Nat) (a15 : Nat) (a16 : Nat) (a17 : Nat) (a18 : Nat) (a19 : Nat) (a20 : Nat) (a21 : Nat) (a22 : Nat) (a23 : Nat) (a24 : Nat) (a25 : Nat) (a26 : Nat) (a27 : Nat) (a28 : Nat) (a29 : Nat) (a30 : Nat) (a31 : Nat) (a32 : Nat) (a33 : Nat) (a34 : Nat) (a35 : Nat) (sz : Nat) : Met l yX12_takeBack wsX12_takeBack { frames := 2, cells := 0, slots := 0, locals := 200 } (nPc D y nT [.ref a0] [(a0, .inr (12, [.int 0, .ref a1, .ref a2, .ref a3, .ref a4, .ref a5, .ref a6, .ref a7, .int 0, .ref a8, .int 0, .ref a9, .ref a10, .int 1, .ref a11, .int 0, .ref a12, .int 0, .int 0, .null, .int 0, .int 0, .int 0, .int 0, .ref a13, .ref a14, .ref a15, .int (-1), .int 0, .int 0, .int 0, .int 0, .int 0, .int 0, .int 0, .ref a16, .int 0, .ref a17, .int 0, .ref a18, .ref a19, .int 0, .int 0, .int 0, .int 0, .ref a20, .ref a21, .ref a22, .ref a23, .ref a24, .ref a25, .ref a26, .ref a27, .ref a28, .int 1, .ref a29, .ref a30, .ref a31, .long 0, .int 0, .int 0, .int 0, .long 0, .int 0, .ref a32, .int 0, .int 0, .int 0, .int 0, .ref a33, .ref a34, .ref a35])), (a17, .inl (y 0, 9, .inl nz)), (a7, .inl (y 0, 9, .inl nz)), (a18, .inl (y 0, 9, .inl nz)), (a1, .inl (y 0, 9, .inl nz)), (a19, .inl (y 0, 9, .inl nz)), (a6, .inl (y 0, 9, .inl nz))] sz) ((fun A => nQv D y (fun _ => True) (fun u => [(a0, .inr (12, [.int 0, .ref a1, .ref a2, .ref a3, .ref a4, .ref a5, .ref a6, .ref a7, .int 0, .ref a8, .int 0, .ref a9, .ref a10, .int 1, .ref a11, .int 0, .ref a12, .int 0, .int 0, .null, .int 0, .int 0, .int 0, .int 0, .ref a13, .ref a14, .ref a15, .int (-1), .int 0, .int 0, .int 0, .int 0, .int 0, .int 0, .int 0, .ref a16, .int 0, .ref a17, .int 0, .ref a18, .ref a19, .int 0, .int 0, .int 0, .int 0, .ref a20, .ref a21, .ref a22, .ref a23, .ref a24, .ref a25, .ref a26, .ref a27, .ref a28, .int 1, .ref a29, .ref a30, .ref a31, .long 0, .int 0, .int 0, .int 0, .long 0, .int 0, .ref a32, .int 0, .int 0, .int 0, .int 0, .ref a33, .ref a34, .ref a35])), (a17, .inl (y 0, 9, .inl nz)), (a7, .inl (y 0, 9, .inl nz)), (a18, .inl (y 0, 9, .inl nz)), (a1, .inl (y 0, 9, .inl nz)), (a19, .inl (y 0, 9, .inl nz)), (a6, .inl (y 0, 9, .inl nz))]) A) (va_A [(a0, .inr (12, [.int 0, .ref a1, .ref a2, .ref a3, .ref a4, .ref a5, .ref a6, .ref a7, .int 0, .ref a8, .int 0, .ref a9, .ref a10, .int 1, .ref a11, .int 0, .ref a12, .int 0, .int 0, .null, .int 0, .int 0, .int 0, .int 0, .ref a13, .ref a14, .ref a15, .int (-1), .int 0, .int 0, .int 0, .int 0, .int 0, .int 0, .int 0, .ref a16, .int 0, .ref a17, .int 0, .ref a18, .ref a19, .int 0, .int 0, .int 0, .int 0, .ref a20, .ref a21, .ref a22, .ref a23, .ref a24, .ref a25, .ref a26, .ref a27, .ref a28, .int 1, .ref a29, .ref a30, .ref a31, .long 0, .int 0, .int 0, .int 0, .long 0, .int 0, .ref a32, .int 0, .int 0, .int 0, .int 0, .ref a33, .ref a34, .ref a35])), (a17, .inl (y 0, 9, .inl nz)), (a7, .inl (y 0, 9, .inl nz)), (a18, .inl (y 0, 9, .inl nz)), (a1, .inl (y 0, 9, .inl nz)), (a19, .inl (y 0, 9, .inl nz)), (a6, .inl (y 0, 9, .inl nz))] sz)) 0 0 (va_A [(a0, .inr (12, [.int 0, .ref a1, .ref a2, .ref a3, .ref a4, .ref a5, .ref a6, .ref a7, .int 0, .ref a8, .int 0, .ref a9, .ref a10, .int 1, .ref a11, .int 0, .ref a12, .int 0, .int 0, .null, .int 0, .int 0, .int 0, .int 0, .ref a13, .ref a14, .ref a15, .int (-1), .int 0, .int 0, .int 0, .int 0, .int 0, .int 0, .int 0, .ref a16, .int 0, .ref a17, .int 0, .ref a18, .ref a19, .int 0, .int 0, .int 0, .int 0, .ref a20, .ref a21, .ref a22, .ref a23, .ref a24, .ref a25, .ref a26, .ref a27, .ref a28, .int 1, .ref a29, .ref a30, .ref a31, .long 0, .int 0, .int 0, .int 0, .long 0, .int 0, .ref a32, .int 0, .int 0, .int 0, .int 0, .ref a33, .ref a34, .ref a35])), (a17, .inl (y 0, 9, .inl nz)), (a7, .inl (y 0, 9, .inl nz)), (a18, .inl (y 0, 9, .inl nz)), (a1, .inl (y 0, 9, .inl nz)), (a19, .inl (y 0, 9, .inl nz)), (a6, .inl (y 0, 9, .inl nz))] sz) := by
  refine nm_ofW (D := D) (y := y) (E := nT) (yy := yX12_takeBack) (wsy := wsX12_takeBack) (rm := { frames := 2, cells := 0, slots := 0, locals := 200 }) (as := [.ref a0]) (ws := [(a0, .inr (12, [.int 0, .ref a1, .ref a2, .ref a3, .ref a4, .ref a5, .ref a6, .ref a7, .int 0, .ref a8, .int 0, .ref a9, .ref a10, .int 1, .ref a11, .int 0, .ref a12, .int 0, .int 0, .null, .int 0, .int 0, .int 0, .int 0, .ref a13, .ref a14, .ref a15, .int (-1), .int 0, .int 0, .int 0, .int 0, .int 0, .int 0, .int 0, .ref a16, .int 0, .ref a17, .int 0, .ref a18, .ref a19, .int 0, .int 0, .int 0, .int 0, .ref a20, .ref a21, .ref a22, .ref a23, .ref a24, .ref a25, .ref a26, .ref a27, .ref a28, .int 1, .ref a29, .ref a30, .ref a31, .long 0, .int 0, .int 0, .int 0, .long 0, .int 0, .ref a32, .int 0, .int 0, .int 0, .int 0, .ref a33, .ref a34, .ref a35])), (a17, .inl (y 0, 9, .inl nz)), (a7, .inl (y 0, 9, .inl nz)), (a18, .inl (y 0, 9, .inl nz)), (a1, .inl (y 0, 9, .inl nz)), (a19, .inl (y 0, 9, .inl nz)), (a6, .inl (y 0, 9, .inl nz))]) (sz := sz) (mc := 0) (ms := 0) (Qc := fun A => nQv D y (fun _ => True) (fun u => [(a0, .inr (12, [.int 0, .ref a1, .ref a2, .ref a3, .ref a4, .ref a5, .ref a6, .ref a7, .int 0, .ref a8, .int 0, .ref a9, .ref a10, .int 1, .ref a11, .int 0, .ref a12, .int 0, .int 0, .null, .int 0, .int 0, .int 0, .int 0, .ref a13, .ref a14, .ref a15, .int (-1), .int 0, .int 0, .int 0, .int 0, .int 0, .int 0, .int 0, .ref a16, .int 0, .ref a17, .int 0, .ref a18, .ref a19, .int 0, .int 0, .int 0, .int 0, .ref a20, .ref a21, .ref a22, .ref a23, .ref a24, .ref a25, .ref a26, .ref a27, .ref a28, .int 1, .ref a29, .ref a30, .ref a31, .long 0, .int 0, .int 0, .int 0, .long 0, .int 0, .ref a32, .int 0, .int 0, .int 0, .int 0, .ref a33, .ref a34, .ref a35])), (a17, .inl (y 0, 9, .inl nz)), (a7, .inl (y 0, 9, .inl nz)), (a18, .inl (y 0, 9, .inl nz)), (a1, .inl (y 0, 9, .inl nz)), (a19, .inl (y 0, 9, .inl nz)), (a6, .inl (y 0, 9, .inl nz))]) A) (cc := cX12_takeBack) (maxL := 2) (ret := none) (by decide +kernel) rfl (Nat.le_of_ble_eq_true rfl) ?_
  intro p e s m below meth c A ls H hx hb hr hml hts hown hlocks hnm hsz hP hK hD hA hS hE hAe hl
  replace hl : lv_has ls 2 [(0, .ref a0)] := hl
  have hown : s.vm.findClass RX12 = some m.cls := hown
  have w_0 := hts (.fieldLink RX12 307 "SoldToBehindModel" "manyBy" "I") (by decide +kernel)
  have w_1 := hts (.fieldLink RX12 140 "SoldToBehindModel" "many" "I") (by decide +kernel)
  have w_2 := hts (.fieldLink RX12 29 "SoldToBehindModel" "line" "[I") (by decide +kernel)
  have w_3 := hts (.fieldLink RX12 70 "SoldToBehindModel" "lineBy" "[I") (by decide +kernel)
  have w_4 := hts (.fieldLink RX12 9 "SoldToBehindModel" "purse" "[I") (by decide +kernel)
  have w_5 := hts (.fieldLink RX12 73 "SoldToBehindModel" "purseBy" "[I") (by decide +kernel)
  have w_6 := hts (.fieldLink RX12 26 "SoldToBehindModel" "sold" "[I") (by decide +kernel)
  have w_7 := hts (.fieldLink RX12 76 "SoldToBehindModel" "soldBy" "[I") (by decide +kernel)
  refine lv_aload_n hx hb dX12_takeBack_0 rfl (lv_at hl 0 rfl) ?_
  refine lv_aload_n hx hb dX12_takeBack_1 rfl (lv_at hl 0 rfl) ?_
  refine va_get (D := D) (ci := 12) (v := .int 0) (C := RX12) (T := TX12) (N := 72) hx hb hts iX12_takeBack_X12 hown hK hP 0 rfl rfl 38 (by decide +kernel) w_0 (fun _ h9 => h9) rfl dX12_takeBack_2 ?_
  refine nb_put (D := D) (ci := 12) (v := .int 0) (ty := .int) (C := RX12) (T := TX12) (N := 72) (ws' := [(a0, .inr (12, [.int 0, .ref a1, .ref a2, .ref a3, .ref a4, .ref a5, .ref a6, .ref a7, .int 0, .ref a8, .int 0, .ref a9, .ref a10, .int 1, .ref a11, .int 0, .ref a12, .int 0, .int 0, .null, .int 0, .int 0, .int 0, .int 0, .ref a13, .ref a14, .ref a15, .int (-1), .int 0, .int 0, .int 0, .int 0, .int 0, .int 0, .int 0, .ref a16, .int 0, .ref a17, .int 0, .ref a18, .ref a19, .int 0, .int 0, .int 0, .int 0, .ref a20, .ref a21, .ref a22, .ref a23, .ref a24, .ref a25, .ref a26, .ref a27, .ref a28, .int 1, .ref a29, .ref a30, .ref a31, .long 0, .int 0, .int 0, .int 0, .long 0, .int 0, .ref a32, .int 0, .int 0, .int 0, .int 0, .ref a33, .ref a34, .ref a35])), (a17, .inl (y 0, 9, .inl nz)), (a7, .inl (y 0, 9, .inl nz)), (a18, .inl (y 0, 9, .inl nz)), (a1, .inl (y 0, 9, .inl nz)), (a19, .inl (y 0, 9, .inl nz)), (a6, .inl (y 0, 9, .inl nz))]) hx hb hts iX12_takeBack_X12 tyX12 tyX12_ok nmX12 hown hK hP hD hS 0 rfl rfl 8 (by decide +kernel) w_1 (fun _ h9 => h9) rfl (by decide +kernel) rfl rfl (Nat.le_of_ble_eq_true rfl) rfl dX12_takeBack_5 (fun H locs hP hD hS => ?_)
  refine lv_iconst (v := 0) hx hb dX12_takeBack_8 (by decide +kernel) ?_
  refine lv_istore_n (lv' := [(1, .int 0), (0, .ref a0)]) hx hb dX12_takeBack_9 rfl hl (by decide +kernel) rfl (fun ls hl => ?_)
  refine lv_iload_n hx hb dX12_takeBack_10 rfl (lv_at hl 0 rfl) ?_
  refine lv_bipush (v := 9) hx hb dX12_takeBack_11 (by decide +kernel) ?_
  refine lv_icmp_ge (tgt := 58) hx hb dX12_takeBack_13 (by decide +kernel) (fun c => absurd c (by decide +kernel)) (fun _ => ?_)
  refine lv_aload_n hx hb dX12_takeBack_16 rfl (lv_at hl 1 rfl) ?_
  refine va_get (D := D) (ci := 12) (v := .ref a7) (C := RX12) (T := TX12) (N := 72) hx hb hts iX12_takeBack_X12 hown hK hP 0 rfl rfl 7 (by decide +kernel) w_2 (fun _ h9 => h9) rfl dX12_takeBack_17 ?_
  refine lv_iload_n hx hb dX12_takeBack_20 rfl (lv_at hl 0 rfl) ?_
  refine lv_aload_n hx hb dX12_takeBack_21 rfl (lv_at hl 1 rfl) ?_
  refine va_get (D := D) (ci := 12) (v := .ref a17) (C := RX12) (T := TX12) (N := 72) hx hb hts iX12_takeBack_X12 hown hK hP 0 rfl rfl 37 (by decide +kernel) w_3 (fun _ h9 => h9) rfl dX12_takeBack_22 ?_
  refine lv_iload_n hx hb dX12_takeBack_25 rfl (lv_at hl 0 rfl) ?_
  refine va_iald hx hb hK hP 1 0 rfl rfl (n_in (by decide +kernel)) dX12_takeBack_26 ?_
  refine nv_i (v := 0) rfl ?_
  refine nb_iast (ws' := [(a0, .inr (12, [.int 0, .ref a1, .ref a2, .ref a3, .ref a4, .ref a5, .ref a6, .ref a7, .int 0, .ref a8, .int 0, .ref a9, .ref a10, .int 1, .ref a11, .int 0, .ref a12, .int 0, .int 0, .null, .int 0, .int 0, .int 0, .int 0, .ref a13, .ref a14, .ref a15, .int (-1), .int 0, .int 0, .int 0, .int 0, .int 0, .int 0, .int 0, .ref a16, .int 0, .ref a17, .int 0, .ref a18, .ref a19, .int 0, .int 0, .int 0, .int 0, .ref a20, .ref a21, .ref a22, .ref a23, .ref a24, .ref a25, .ref a26, .ref a27, .ref a28, .int 1, .ref a29, .ref a30, .ref a31, .long 0, .int 0, .int 0, .int 0, .long 0, .int 0, .ref a32, .int 0, .int 0, .int 0, .int 0, .ref a33, .ref a34, .ref a35])), (a17, .inl (y 0, 9, .inl nz)), (a7, .inl (y 0, 9, .inl nz)), (a18, .inl (y 0, 9, .inl nz)), (a1, .inl (y 0, 9, .inl nz)), (a19, .inl (y 0, 9, .inl nz)), (a6, .inl (y 0, 9, .inl nz))]) hx hb hK hP hD hS 2 0 rfl rfl (n_in (by decide +kernel)) (by rw [nb_upI (f := nz) (i := Int32.toNatClampNeg 0) (x := 0) rfl]; rfl) dX12_takeBack_27 (fun H locs hP hD hS => ?_)
  refine lv_aload_n hx hb dX12_takeBack_28 rfl (lv_at hl 1 rfl) ?_
  refine va_get (D := D) (ci := 12) (v := .ref a1) (C := RX12) (T := TX12) (N := 72) hx hb hts iX12_takeBack_X12 hown hK hP 0 rfl rfl 1 (by decide +kernel) w_4 (fun _ h9 => h9) rfl dX12_takeBack_29 ?_
  refine lv_iload_n hx hb dX12_takeBack_32 rfl (lv_at hl 0 rfl) ?_
  refine lv_aload_n hx hb dX12_takeBack_33 rfl (lv_at hl 1 rfl) ?_
  refine va_get (D := D) (ci := 12) (v := .ref a18) (C := RX12) (T := TX12) (N := 72) hx hb hts iX12_takeBack_X12 hown hK hP 0 rfl rfl 39 (by decide +kernel) w_5 (fun _ h9 => h9) rfl dX12_takeBack_34 ?_
  refine lv_iload_n hx hb dX12_takeBack_37 rfl (lv_at hl 0 rfl) ?_
  refine va_iald hx hb hK hP 3 0 rfl rfl (n_in (by decide +kernel)) dX12_takeBack_38 ?_
  refine nv_i (v := 0) rfl ?_
  refine nb_iast (ws' := [(a0, .inr (12, [.int 0, .ref a1, .ref a2, .ref a3, .ref a4, .ref a5, .ref a6, .ref a7, .int 0, .ref a8, .int 0, .ref a9, .ref a10, .int 1, .ref a11, .int 0, .ref a12, .int 0, .int 0, .null, .int 0, .int 0, .int 0, .int 0, .ref a13, .ref a14, .ref a15, .int (-1), .int 0, .int 0, .int 0, .int 0, .int 0, .int 0, .int 0, .ref a16, .int 0, .ref a17, .int 0, .ref a18, .ref a19, .int 0, .int 0, .int 0, .int 0, .ref a20, .ref a21, .ref a22, .ref a23, .ref a24, .ref a25, .ref a26, .ref a27, .ref a28, .int 1, .ref a29, .ref a30, .ref a31, .long 0, .int 0, .int 0, .int 0, .long 0, .int 0, .ref a32, .int 0, .int 0, .int 0, .int 0, .ref a33, .ref a34, .ref a35])), (a17, .inl (y 0, 9, .inl nz)), (a7, .inl (y 0, 9, .inl nz)), (a18, .inl (y 0, 9, .inl nz)), (a1, .inl (y 0, 9, .inl nz)), (a19, .inl (y 0, 9, .inl nz)), (a6, .inl (y 0, 9, .inl nz))]) hx hb hK hP hD hS 4 0 rfl rfl (n_in (by decide +kernel)) (by rw [nb_upI (f := nz) (i := Int32.toNatClampNeg 0) (x := 0) rfl]; rfl) dX12_takeBack_39 (fun H locs hP hD hS => ?_)
  refine lv_aload_n hx hb dX12_takeBack_40 rfl (lv_at hl 1 rfl) ?_
  refine va_get (D := D) (ci := 12) (v := .ref a6) (C := RX12) (T := TX12) (N := 72) hx hb hts iX12_takeBack_X12 hown hK hP 0 rfl rfl 6 (by decide +kernel) w_6 (fun _ h9 => h9) rfl dX12_takeBack_41 ?_
  refine lv_iload_n hx hb dX12_takeBack_44 rfl (lv_at hl 0 rfl) ?_
  refine lv_aload_n hx hb dX12_takeBack_45 rfl (lv_at hl 1 rfl) ?_
  refine va_get (D := D) (ci := 12) (v := .ref a19) (C := RX12) (T := TX12) (N := 72) hx hb hts iX12_takeBack_X12 hown hK hP 0 rfl rfl 40 (by decide +kernel) w_7 (fun _ h9 => h9) rfl dX12_takeBack_46 ?_
  refine lv_iload_n hx hb dX12_takeBack_49 rfl (lv_at hl 0 rfl) ?_
  refine va_iald hx hb hK hP 5 0 rfl rfl (n_in (by decide +kernel)) dX12_takeBack_50 ?_
  refine nv_i (v := 0) rfl ?_
  refine nb_iast (ws' := [(a0, .inr (12, [.int 0, .ref a1, .ref a2, .ref a3, .ref a4, .ref a5, .ref a6, .ref a7, .int 0, .ref a8, .int 0, .ref a9, .ref a10, .int 1, .ref a11, .int 0, .ref a12, .int 0, .int 0, .null, .int 0, .int 0, .int 0, .int 0, .ref a13, .ref a14, .ref a15, .int (-1), .int 0, .int 0, .int 0, .int 0, .int 0, .int 0, .int 0, .ref a16, .int 0, .ref a17, .int 0, .ref a18, .ref a19, .int 0, .int 0, .int 0, .int 0, .ref a20, .ref a21, .ref a22, .ref a23, .ref a24, .ref a25, .ref a26, .ref a27, .ref a28, .int 1, .ref a29, .ref a30, .ref a31, .long 0, .int 0, .int 0, .int 0, .long 0, .int 0, .ref a32, .int 0, .int 0, .int 0, .int 0, .ref a33, .ref a34, .ref a35])), (a17, .inl (y 0, 9, .inl nz)), (a7, .inl (y 0, 9, .inl nz)), (a18, .inl (y 0, 9, .inl nz)), (a1, .inl (y 0, 9, .inl nz)), (a19, .inl (y 0, 9, .inl nz)), (a6, .inl (y 0, 9, .inl nz))]) hx hb hK hP hD hS 6 0 rfl rfl (n_in (by decide +kernel)) (by rw [nb_upI (f := nz) (i := Int32.toNatClampNeg 0) (x := 0) rfl]; rfl) dX12_takeBack_51 (fun H locs hP hD hS => ?_)
  refine lv_iinc (v := 1) (lv' := [(1, .int 1), (0, .ref a0)]) hx hb dX12_takeBack_52 hl (k := 0) rfl (by decide +kernel) (by decide +kernel) rfl (fun ls hl => ?_)
  refine lv_goto (tgt := 10) hx hb dX12_takeBack_55 (by decide +kernel) ?_
  refine lv_iload_n hx hb dX12_takeBack_10 rfl (lv_at hl 0 rfl) ?_
  refine lv_bipush (v := 9) hx hb dX12_takeBack_11 (by decide +kernel) ?_
  refine lv_icmp_ge (tgt := 58) hx hb dX12_takeBack_13 (by decide +kernel) (fun c => absurd c (by decide +kernel)) (fun _ => ?_)
  refine lv_aload_n hx hb dX12_takeBack_16 rfl (lv_at hl 1 rfl) ?_
  refine va_get (D := D) (ci := 12) (v := .ref a7) (C := RX12) (T := TX12) (N := 72) hx hb hts iX12_takeBack_X12 hown hK hP 0 rfl rfl 7 (by decide +kernel) w_2 (fun _ h9 => h9) rfl dX12_takeBack_17 ?_
  refine lv_iload_n hx hb dX12_takeBack_20 rfl (lv_at hl 0 rfl) ?_
  refine lv_aload_n hx hb dX12_takeBack_21 rfl (lv_at hl 1 rfl) ?_
  refine va_get (D := D) (ci := 12) (v := .ref a17) (C := RX12) (T := TX12) (N := 72) hx hb hts iX12_takeBack_X12 hown hK hP 0 rfl rfl 37 (by decide +kernel) w_3 (fun _ h9 => h9) rfl dX12_takeBack_22 ?_
  refine lv_iload_n hx hb dX12_takeBack_25 rfl (lv_at hl 0 rfl) ?_
  refine va_iald hx hb hK hP 1 0 rfl rfl (n_in (by decide +kernel)) dX12_takeBack_26 ?_
  refine nv_i (v := 0) rfl ?_
  refine nb_iast (ws' := [(a0, .inr (12, [.int 0, .ref a1, .ref a2, .ref a3, .ref a4, .ref a5, .ref a6, .ref a7, .int 0, .ref a8, .int 0, .ref a9, .ref a10, .int 1, .ref a11, .int 0, .ref a12, .int 0, .int 0, .null, .int 0, .int 0, .int 0, .int 0, .ref a13, .ref a14, .ref a15, .int (-1), .int 0, .int 0, .int 0, .int 0, .int 0, .int 0, .int 0, .ref a16, .int 0, .ref a17, .int 0, .ref a18, .ref a19, .int 0, .int 0, .int 0, .int 0, .ref a20, .ref a21, .ref a22, .ref a23, .ref a24, .ref a25, .ref a26, .ref a27, .ref a28, .int 1, .ref a29, .ref a30, .ref a31, .long 0, .int 0, .int 0, .int 0, .long 0, .int 0, .ref a32, .int 0, .int 0, .int 0, .int 0, .ref a33, .ref a34, .ref a35])), (a17, .inl (y 0, 9, .inl nz)), (a7, .inl (y 0, 9, .inl nz)), (a18, .inl (y 0, 9, .inl nz)), (a1, .inl (y 0, 9, .inl nz)), (a19, .inl (y 0, 9, .inl nz)), (a6, .inl (y 0, 9, .inl nz))]) hx hb hK hP hD hS 2 0 rfl rfl (n_in (by decide +kernel)) (by rw [nb_upI (f := nz) (i := Int32.toNatClampNeg 1) (x := 0) rfl]; rfl) dX12_takeBack_27 (fun H locs hP hD hS => ?_)
  refine lv_aload_n hx hb dX12_takeBack_28 rfl (lv_at hl 1 rfl) ?_
  refine va_get (D := D) (ci := 12) (v := .ref a1) (C := RX12) (T := TX12) (N := 72) hx hb hts iX12_takeBack_X12 hown hK hP 0 rfl rfl 1 (by decide +kernel) w_4 (fun _ h9 => h9) rfl dX12_takeBack_29 ?_
  refine lv_iload_n hx hb dX12_takeBack_32 rfl (lv_at hl 0 rfl) ?_
  refine lv_aload_n hx hb dX12_takeBack_33 rfl (lv_at hl 1 rfl) ?_
  refine va_get (D := D) (ci := 12) (v := .ref a18) (C := RX12) (T := TX12) (N := 72) hx hb hts iX12_takeBack_X12 hown hK hP 0 rfl rfl 39 (by decide +kernel) w_5 (fun _ h9 => h9) rfl dX12_takeBack_34 ?_
  refine lv_iload_n hx hb dX12_takeBack_37 rfl (lv_at hl 0 rfl) ?_
  refine va_iald hx hb hK hP 3 0 rfl rfl (n_in (by decide +kernel)) dX12_takeBack_38 ?_
  refine nv_i (v := 0) rfl ?_
  refine nb_iast (ws' := [(a0, .inr (12, [.int 0, .ref a1, .ref a2, .ref a3, .ref a4, .ref a5, .ref a6, .ref a7, .int 0, .ref a8, .int 0, .ref a9, .ref a10, .int 1, .ref a11, .int 0, .ref a12, .int 0, .int 0, .null, .int 0, .int 0, .int 0, .int 0, .ref a13, .ref a14, .ref a15, .int (-1), .int 0, .int 0, .int 0, .int 0, .int 0, .int 0, .int 0, .ref a16, .int 0, .ref a17, .int 0, .ref a18, .ref a19, .int 0, .int 0, .int 0, .int 0, .ref a20, .ref a21, .ref a22, .ref a23, .ref a24, .ref a25, .ref a26, .ref a27, .ref a28, .int 1, .ref a29, .ref a30, .ref a31, .long 0, .int 0, .int 0, .int 0, .long 0, .int 0, .ref a32, .int 0, .int 0, .int 0, .int 0, .ref a33, .ref a34, .ref a35])), (a17, .inl (y 0, 9, .inl nz)), (a7, .inl (y 0, 9, .inl nz)), (a18, .inl (y 0, 9, .inl nz)), (a1, .inl (y 0, 9, .inl nz)), (a19, .inl (y 0, 9, .inl nz)), (a6, .inl (y 0, 9, .inl nz))]) hx hb hK hP hD hS 4 0 rfl rfl (n_in (by decide +kernel)) (by rw [nb_upI (f := nz) (i := Int32.toNatClampNeg 1) (x := 0) rfl]; rfl) dX12_takeBack_39 (fun H locs hP hD hS => ?_)
  refine lv_aload_n hx hb dX12_takeBack_40 rfl (lv_at hl 1 rfl) ?_
  refine va_get (D := D) (ci := 12) (v := .ref a6) (C := RX12) (T := TX12) (N := 72) hx hb hts iX12_takeBack_X12 hown hK hP 0 rfl rfl 6 (by decide +kernel) w_6 (fun _ h9 => h9) rfl dX12_takeBack_41 ?_
  refine lv_iload_n hx hb dX12_takeBack_44 rfl (lv_at hl 0 rfl) ?_
  refine lv_aload_n hx hb dX12_takeBack_45 rfl (lv_at hl 1 rfl) ?_
  refine va_get (D := D) (ci := 12) (v := .ref a19) (C := RX12) (T := TX12) (N := 72) hx hb hts iX12_takeBack_X12 hown hK hP 0 rfl rfl 40 (by decide +kernel) w_7 (fun _ h9 => h9) rfl dX12_takeBack_46 ?_
  refine lv_iload_n hx hb dX12_takeBack_49 rfl (lv_at hl 0 rfl) ?_
  refine va_iald hx hb hK hP 5 0 rfl rfl (n_in (by decide +kernel)) dX12_takeBack_50 ?_
  refine nv_i (v := 0) rfl ?_
  refine nb_iast (ws' := [(a0, .inr (12, [.int 0, .ref a1, .ref a2, .ref a3, .ref a4, .ref a5, .ref a6, .ref a7, .int 0, .ref a8, .int 0, .ref a9, .ref a10, .int 1, .ref a11, .int 0, .ref a12, .int 0, .int 0, .null, .int 0, .int 0, .int 0, .int 0, .ref a13, .ref a14, .ref a15, .int (-1), .int 0, .int 0, .int 0, .int 0, .int 0, .int 0, .int 0, .ref a16, .int 0, .ref a17, .int 0, .ref a18, .ref a19, .int 0, .int 0, .int 0, .int 0, .ref a20, .ref a21, .ref a22, .ref a23, .ref a24, .ref a25, .ref a26, .ref a27, .ref a28, .int 1, .ref a29, .ref a30, .ref a31, .long 0, .int 0, .int 0, .int 0, .long 0, .int 0, .ref a32, .int 0, .int 0, .int 0, .int 0, .ref a33, .ref a34, .ref a35])), (a17, .inl (y 0, 9, .inl nz)), (a7, .inl (y 0, 9, .inl nz)), (a18, .inl (y 0, 9, .inl nz)), (a1, .inl (y 0, 9, .inl nz)), (a19, .inl (y 0, 9, .inl nz)), (a6, .inl (y 0, 9, .inl nz))]) hx hb hK hP hD hS 6 0 rfl rfl (n_in (by decide +kernel)) (by rw [nb_upI (f := nz) (i := Int32.toNatClampNeg 1) (x := 0) rfl]; rfl) dX12_takeBack_51 (fun H locs hP hD hS => ?_)
  refine lv_iinc (v := 2) (lv' := [(1, .int 2), (0, .ref a0)]) hx hb dX12_takeBack_52 hl (k := 0) rfl (by decide +kernel) (by decide +kernel) rfl (fun ls hl => ?_)
  refine lv_goto (tgt := 10) hx hb dX12_takeBack_55 (by decide +kernel) ?_
  refine lv_iload_n hx hb dX12_takeBack_10 rfl (lv_at hl 0 rfl) ?_
  refine lv_bipush (v := 9) hx hb dX12_takeBack_11 (by decide +kernel) ?_
  refine lv_icmp_ge (tgt := 58) hx hb dX12_takeBack_13 (by decide +kernel) (fun c => absurd c (by decide +kernel)) (fun _ => ?_)
  refine lv_aload_n hx hb dX12_takeBack_16 rfl (lv_at hl 1 rfl) ?_
  refine va_get (D := D) (ci := 12) (v := .ref a7) (C := RX12) (T := TX12) (N := 72) hx hb hts iX12_takeBack_X12 hown hK hP 0 rfl rfl 7 (by decide +kernel) w_2 (fun _ h9 => h9) rfl dX12_takeBack_17 ?_
  refine lv_iload_n hx hb dX12_takeBack_20 rfl (lv_at hl 0 rfl) ?_
  refine lv_aload_n hx hb dX12_takeBack_21 rfl (lv_at hl 1 rfl) ?_
  refine va_get (D := D) (ci := 12) (v := .ref a17) (C := RX12) (T := TX12) (N := 72) hx hb hts iX12_takeBack_X12 hown hK hP 0 rfl rfl 37 (by decide +kernel) w_3 (fun _ h9 => h9) rfl dX12_takeBack_22 ?_
  refine lv_iload_n hx hb dX12_takeBack_25 rfl (lv_at hl 0 rfl) ?_
  refine va_iald hx hb hK hP 1 0 rfl rfl (n_in (by decide +kernel)) dX12_takeBack_26 ?_
  refine nv_i (v := 0) rfl ?_
  refine nb_iast (ws' := [(a0, .inr (12, [.int 0, .ref a1, .ref a2, .ref a3, .ref a4, .ref a5, .ref a6, .ref a7, .int 0, .ref a8, .int 0, .ref a9, .ref a10, .int 1, .ref a11, .int 0, .ref a12, .int 0, .int 0, .null, .int 0, .int 0, .int 0, .int 0, .ref a13, .ref a14, .ref a15, .int (-1), .int 0, .int 0, .int 0, .int 0, .int 0, .int 0, .int 0, .ref a16, .int 0, .ref a17, .int 0, .ref a18, .ref a19, .int 0, .int 0, .int 0, .int 0, .ref a20, .ref a21, .ref a22, .ref a23, .ref a24, .ref a25, .ref a26, .ref a27, .ref a28, .int 1, .ref a29, .ref a30, .ref a31, .long 0, .int 0, .int 0, .int 0, .long 0, .int 0, .ref a32, .int 0, .int 0, .int 0, .int 0, .ref a33, .ref a34, .ref a35])), (a17, .inl (y 0, 9, .inl nz)), (a7, .inl (y 0, 9, .inl nz)), (a18, .inl (y 0, 9, .inl nz)), (a1, .inl (y 0, 9, .inl nz)), (a19, .inl (y 0, 9, .inl nz)), (a6, .inl (y 0, 9, .inl nz))]) hx hb hK hP hD hS 2 0 rfl rfl (n_in (by decide +kernel)) (by rw [nb_upI (f := nz) (i := Int32.toNatClampNeg 2) (x := 0) rfl]; rfl) dX12_takeBack_27 (fun H locs hP hD hS => ?_)
  refine lv_aload_n hx hb dX12_takeBack_28 rfl (lv_at hl 1 rfl) ?_
  refine va_get (D := D) (ci := 12) (v := .ref a1) (C := RX12) (T := TX12) (N := 72) hx hb hts iX12_takeBack_X12 hown hK hP 0 rfl rfl 1 (by decide +kernel) w_4 (fun _ h9 => h9) rfl dX12_takeBack_29 ?_
  refine lv_iload_n hx hb dX12_takeBack_32 rfl (lv_at hl 0 rfl) ?_
  refine lv_aload_n hx hb dX12_takeBack_33 rfl (lv_at hl 1 rfl) ?_
  refine va_get (D := D) (ci := 12) (v := .ref a18) (C := RX12) (T := TX12) (N := 72) hx hb hts iX12_takeBack_X12 hown hK hP 0 rfl rfl 39 (by decide +kernel) w_5 (fun _ h9 => h9) rfl dX12_takeBack_34 ?_
  refine lv_iload_n hx hb dX12_takeBack_37 rfl (lv_at hl 0 rfl) ?_
  refine va_iald hx hb hK hP 3 0 rfl rfl (n_in (by decide +kernel)) dX12_takeBack_38 ?_
  refine nv_i (v := 0) rfl ?_
  refine nb_iast (ws' := [(a0, .inr (12, [.int 0, .ref a1, .ref a2, .ref a3, .ref a4, .ref a5, .ref a6, .ref a7, .int 0, .ref a8, .int 0, .ref a9, .ref a10, .int 1, .ref a11, .int 0, .ref a12, .int 0, .int 0, .null, .int 0, .int 0, .int 0, .int 0, .ref a13, .ref a14, .ref a15, .int (-1), .int 0, .int 0, .int 0, .int 0, .int 0, .int 0, .int 0, .ref a16, .int 0, .ref a17, .int 0, .ref a18, .ref a19, .int 0, .int 0, .int 0, .int 0, .ref a20, .ref a21, .ref a22, .ref a23, .ref a24, .ref a25, .ref a26, .ref a27, .ref a28, .int 1, .ref a29, .ref a30, .ref a31, .long 0, .int 0, .int 0, .int 0, .long 0, .int 0, .ref a32, .int 0, .int 0, .int 0, .int 0, .ref a33, .ref a34, .ref a35])), (a17, .inl (y 0, 9, .inl nz)), (a7, .inl (y 0, 9, .inl nz)), (a18, .inl (y 0, 9, .inl nz)), (a1, .inl (y 0, 9, .inl nz)), (a19, .inl (y 0, 9, .inl nz)), (a6, .inl (y 0, 9, .inl nz))]) hx hb hK hP hD hS 4 0 rfl rfl (n_in (by decide +kernel)) (by rw [nb_upI (f := nz) (i := Int32.toNatClampNeg 2) (x := 0) rfl]; rfl) dX12_takeBack_39 (fun H locs hP hD hS => ?_)
  refine lv_aload_n hx hb dX12_takeBack_40 rfl (lv_at hl 1 rfl) ?_
  refine va_get (D := D) (ci := 12) (v := .ref a6) (C := RX12) (T := TX12) (N := 72) hx hb hts iX12_takeBack_X12 hown hK hP 0 rfl rfl 6 (by decide +kernel) w_6 (fun _ h9 => h9) rfl dX12_takeBack_41 ?_
  refine lv_iload_n hx hb dX12_takeBack_44 rfl (lv_at hl 0 rfl) ?_
  refine lv_aload_n hx hb dX12_takeBack_45 rfl (lv_at hl 1 rfl) ?_
  refine va_get (D := D) (ci := 12) (v := .ref a19) (C := RX12) (T := TX12) (N := 72) hx hb hts iX12_takeBack_X12 hown hK hP 0 rfl rfl 40 (by decide +kernel) w_7 (fun _ h9 => h9) rfl dX12_takeBack_46 ?_
  refine lv_iload_n hx hb dX12_takeBack_49 rfl (lv_at hl 0 rfl) ?_
  refine va_iald hx hb hK hP 5 0 rfl rfl (n_in (by decide +kernel)) dX12_takeBack_50 ?_
  refine nv_i (v := 0) rfl ?_
  refine nb_iast (ws' := [(a0, .inr (12, [.int 0, .ref a1, .ref a2, .ref a3, .ref a4, .ref a5, .ref a6, .ref a7, .int 0, .ref a8, .int 0, .ref a9, .ref a10, .int 1, .ref a11, .int 0, .ref a12, .int 0, .int 0, .null, .int 0, .int 0, .int 0, .int 0, .ref a13, .ref a14, .ref a15, .int (-1), .int 0, .int 0, .int 0, .int 0, .int 0, .int 0, .int 0, .ref a16, .int 0, .ref a17, .int 0, .ref a18, .ref a19, .int 0, .int 0, .int 0, .int 0, .ref a20, .ref a21, .ref a22, .ref a23, .ref a24, .ref a25, .ref a26, .ref a27, .ref a28, .int 1, .ref a29, .ref a30, .ref a31, .long 0, .int 0, .int 0, .int 0, .long 0, .int 0, .ref a32, .int 0, .int 0, .int 0, .int 0, .ref a33, .ref a34, .ref a35])), (a17, .inl (y 0, 9, .inl nz)), (a7, .inl (y 0, 9, .inl nz)), (a18, .inl (y 0, 9, .inl nz)), (a1, .inl (y 0, 9, .inl nz)), (a19, .inl (y 0, 9, .inl nz)), (a6, .inl (y 0, 9, .inl nz))]) hx hb hK hP hD hS 6 0 rfl rfl (n_in (by decide +kernel)) (by rw [nb_upI (f := nz) (i := Int32.toNatClampNeg 2) (x := 0) rfl]; rfl) dX12_takeBack_51 (fun H locs hP hD hS => ?_)
  refine lv_iinc (v := 3) (lv' := [(1, .int 3), (0, .ref a0)]) hx hb dX12_takeBack_52 hl (k := 0) rfl (by decide +kernel) (by decide +kernel) rfl (fun ls hl => ?_)
  refine lv_goto (tgt := 10) hx hb dX12_takeBack_55 (by decide +kernel) ?_
  refine lv_iload_n hx hb dX12_takeBack_10 rfl (lv_at hl 0 rfl) ?_
  refine lv_bipush (v := 9) hx hb dX12_takeBack_11 (by decide +kernel) ?_
  refine lv_icmp_ge (tgt := 58) hx hb dX12_takeBack_13 (by decide +kernel) (fun c => absurd c (by decide +kernel)) (fun _ => ?_)
  refine lv_aload_n hx hb dX12_takeBack_16 rfl (lv_at hl 1 rfl) ?_
  refine va_get (D := D) (ci := 12) (v := .ref a7) (C := RX12) (T := TX12) (N := 72) hx hb hts iX12_takeBack_X12 hown hK hP 0 rfl rfl 7 (by decide +kernel) w_2 (fun _ h9 => h9) rfl dX12_takeBack_17 ?_
  refine lv_iload_n hx hb dX12_takeBack_20 rfl (lv_at hl 0 rfl) ?_
  refine lv_aload_n hx hb dX12_takeBack_21 rfl (lv_at hl 1 rfl) ?_
  refine va_get (D := D) (ci := 12) (v := .ref a17) (C := RX12) (T := TX12) (N := 72) hx hb hts iX12_takeBack_X12 hown hK hP 0 rfl rfl 37 (by decide +kernel) w_3 (fun _ h9 => h9) rfl dX12_takeBack_22 ?_
  refine lv_iload_n hx hb dX12_takeBack_25 rfl (lv_at hl 0 rfl) ?_
  refine va_iald hx hb hK hP 1 0 rfl rfl (n_in (by decide +kernel)) dX12_takeBack_26 ?_
  refine nv_i (v := 0) rfl ?_
  refine nb_iast (ws' := [(a0, .inr (12, [.int 0, .ref a1, .ref a2, .ref a3, .ref a4, .ref a5, .ref a6, .ref a7, .int 0, .ref a8, .int 0, .ref a9, .ref a10, .int 1, .ref a11, .int 0, .ref a12, .int 0, .int 0, .null, .int 0, .int 0, .int 0, .int 0, .ref a13, .ref a14, .ref a15, .int (-1), .int 0, .int 0, .int 0, .int 0, .int 0, .int 0, .int 0, .ref a16, .int 0, .ref a17, .int 0, .ref a18, .ref a19, .int 0, .int 0, .int 0, .int 0, .ref a20, .ref a21, .ref a22, .ref a23, .ref a24, .ref a25, .ref a26, .ref a27, .ref a28, .int 1, .ref a29, .ref a30, .ref a31, .long 0, .int 0, .int 0, .int 0, .long 0, .int 0, .ref a32, .int 0, .int 0, .int 0, .int 0, .ref a33, .ref a34, .ref a35])), (a17, .inl (y 0, 9, .inl nz)), (a7, .inl (y 0, 9, .inl nz)), (a18, .inl (y 0, 9, .inl nz)), (a1, .inl (y 0, 9, .inl nz)), (a19, .inl (y 0, 9, .inl nz)), (a6, .inl (y 0, 9, .inl nz))]) hx hb hK hP hD hS 2 0 rfl rfl (n_in (by decide +kernel)) (by rw [nb_upI (f := nz) (i := Int32.toNatClampNeg 3) (x := 0) rfl]; rfl) dX12_takeBack_27 (fun H locs hP hD hS => ?_)
  refine lv_aload_n hx hb dX12_takeBack_28 rfl (lv_at hl 1 rfl) ?_
  refine va_get (D := D) (ci := 12) (v := .ref a1) (C := RX12) (T := TX12) (N := 72) hx hb hts iX12_takeBack_X12 hown hK hP 0 rfl rfl 1 (by decide +kernel) w_4 (fun _ h9 => h9) rfl dX12_takeBack_29 ?_
  refine lv_iload_n hx hb dX12_takeBack_32 rfl (lv_at hl 0 rfl) ?_
  refine lv_aload_n hx hb dX12_takeBack_33 rfl (lv_at hl 1 rfl) ?_
  refine va_get (D := D) (ci := 12) (v := .ref a18) (C := RX12) (T := TX12) (N := 72) hx hb hts iX12_takeBack_X12 hown hK hP 0 rfl rfl 39 (by decide +kernel) w_5 (fun _ h9 => h9) rfl dX12_takeBack_34 ?_
  refine lv_iload_n hx hb dX12_takeBack_37 rfl (lv_at hl 0 rfl) ?_
  refine va_iald hx hb hK hP 3 0 rfl rfl (n_in (by decide +kernel)) dX12_takeBack_38 ?_
  refine nv_i (v := 0) rfl ?_
  refine nb_iast (ws' := [(a0, .inr (12, [.int 0, .ref a1, .ref a2, .ref a3, .ref a4, .ref a5, .ref a6, .ref a7, .int 0, .ref a8, .int 0, .ref a9, .ref a10, .int 1, .ref a11, .int 0, .ref a12, .int 0, .int 0, .null, .int 0, .int 0, .int 0, .int 0, .ref a13, .ref a14, .ref a15, .int (-1), .int 0, .int 0, .int 0, .int 0, .int 0, .int 0, .int 0, .ref a16, .int 0, .ref a17, .int 0, .ref a18, .ref a19, .int 0, .int 0, .int 0, .int 0, .ref a20, .ref a21, .ref a22, .ref a23, .ref a24, .ref a25, .ref a26, .ref a27, .ref a28, .int 1, .ref a29, .ref a30, .ref a31, .long 0, .int 0, .int 0, .int 0, .long 0, .int 0, .ref a32, .int 0, .int 0, .int 0, .int 0, .ref a33, .ref a34, .ref a35])), (a17, .inl (y 0, 9, .inl nz)), (a7, .inl (y 0, 9, .inl nz)), (a18, .inl (y 0, 9, .inl nz)), (a1, .inl (y 0, 9, .inl nz)), (a19, .inl (y 0, 9, .inl nz)), (a6, .inl (y 0, 9, .inl nz))]) hx hb hK hP hD hS 4 0 rfl rfl (n_in (by decide +kernel)) (by rw [nb_upI (f := nz) (i := Int32.toNatClampNeg 3) (x := 0) rfl]; rfl) dX12_takeBack_39 (fun H locs hP hD hS => ?_)
  refine lv_aload_n hx hb dX12_takeBack_40 rfl (lv_at hl 1 rfl) ?_
  refine va_get (D := D) (ci := 12) (v := .ref a6) (C := RX12) (T := TX12) (N := 72) hx hb hts iX12_takeBack_X12 hown hK hP 0 rfl rfl 6 (by decide +kernel) w_6 (fun _ h9 => h9) rfl dX12_takeBack_41 ?_
  refine lv_iload_n hx hb dX12_takeBack_44 rfl (lv_at hl 0 rfl) ?_
  refine lv_aload_n hx hb dX12_takeBack_45 rfl (lv_at hl 1 rfl) ?_
  refine va_get (D := D) (ci := 12) (v := .ref a19) (C := RX12) (T := TX12) (N := 72) hx hb hts iX12_takeBack_X12 hown hK hP 0 rfl rfl 40 (by decide +kernel) w_7 (fun _ h9 => h9) rfl dX12_takeBack_46 ?_
  refine lv_iload_n hx hb dX12_takeBack_49 rfl (lv_at hl 0 rfl) ?_
  refine va_iald hx hb hK hP 5 0 rfl rfl (n_in (by decide +kernel)) dX12_takeBack_50 ?_
  refine nv_i (v := 0) rfl ?_
  refine nb_iast (ws' := [(a0, .inr (12, [.int 0, .ref a1, .ref a2, .ref a3, .ref a4, .ref a5, .ref a6, .ref a7, .int 0, .ref a8, .int 0, .ref a9, .ref a10, .int 1, .ref a11, .int 0, .ref a12, .int 0, .int 0, .null, .int 0, .int 0, .int 0, .int 0, .ref a13, .ref a14, .ref a15, .int (-1), .int 0, .int 0, .int 0, .int 0, .int 0, .int 0, .int 0, .ref a16, .int 0, .ref a17, .int 0, .ref a18, .ref a19, .int 0, .int 0, .int 0, .int 0, .ref a20, .ref a21, .ref a22, .ref a23, .ref a24, .ref a25, .ref a26, .ref a27, .ref a28, .int 1, .ref a29, .ref a30, .ref a31, .long 0, .int 0, .int 0, .int 0, .long 0, .int 0, .ref a32, .int 0, .int 0, .int 0, .int 0, .ref a33, .ref a34, .ref a35])), (a17, .inl (y 0, 9, .inl nz)), (a7, .inl (y 0, 9, .inl nz)), (a18, .inl (y 0, 9, .inl nz)), (a1, .inl (y 0, 9, .inl nz)), (a19, .inl (y 0, 9, .inl nz)), (a6, .inl (y 0, 9, .inl nz))]) hx hb hK hP hD hS 6 0 rfl rfl (n_in (by decide +kernel)) (by rw [nb_upI (f := nz) (i := Int32.toNatClampNeg 3) (x := 0) rfl]; rfl) dX12_takeBack_51 (fun H locs hP hD hS => ?_)
  refine lv_iinc (v := 4) (lv' := [(1, .int 4), (0, .ref a0)]) hx hb dX12_takeBack_52 hl (k := 0) rfl (by decide +kernel) (by decide +kernel) rfl (fun ls hl => ?_)
  refine lv_goto (tgt := 10) hx hb dX12_takeBack_55 (by decide +kernel) ?_
  refine lv_iload_n hx hb dX12_takeBack_10 rfl (lv_at hl 0 rfl) ?_
  refine lv_bipush (v := 9) hx hb dX12_takeBack_11 (by decide +kernel) ?_
  refine lv_icmp_ge (tgt := 58) hx hb dX12_takeBack_13 (by decide +kernel) (fun c => absurd c (by decide +kernel)) (fun _ => ?_)
  refine lv_aload_n hx hb dX12_takeBack_16 rfl (lv_at hl 1 rfl) ?_
  refine va_get (D := D) (ci := 12) (v := .ref a7) (C := RX12) (T := TX12) (N := 72) hx hb hts iX12_takeBack_X12 hown hK hP 0 rfl rfl 7 (by decide +kernel) w_2 (fun _ h9 => h9) rfl dX12_takeBack_17 ?_
  refine lv_iload_n hx hb dX12_takeBack_20 rfl (lv_at hl 0 rfl) ?_
  refine lv_aload_n hx hb dX12_takeBack_21 rfl (lv_at hl 1 rfl) ?_
  refine va_get (D := D) (ci := 12) (v := .ref a17) (C := RX12) (T := TX12) (N := 72) hx hb hts iX12_takeBack_X12 hown hK hP 0 rfl rfl 37 (by decide +kernel) w_3 (fun _ h9 => h9) rfl dX12_takeBack_22 ?_
  refine lv_iload_n hx hb dX12_takeBack_25 rfl (lv_at hl 0 rfl) ?_
  refine va_iald hx hb hK hP 1 0 rfl rfl (n_in (by decide +kernel)) dX12_takeBack_26 ?_
  refine nv_i (v := 0) rfl ?_
  refine nb_iast (ws' := [(a0, .inr (12, [.int 0, .ref a1, .ref a2, .ref a3, .ref a4, .ref a5, .ref a6, .ref a7, .int 0, .ref a8, .int 0, .ref a9, .ref a10, .int 1, .ref a11, .int 0, .ref a12, .int 0, .int 0, .null, .int 0, .int 0, .int 0, .int 0, .ref a13, .ref a14, .ref a15, .int (-1), .int 0, .int 0, .int 0, .int 0, .int 0, .int 0, .int 0, .ref a16, .int 0, .ref a17, .int 0, .ref a18, .ref a19, .int 0, .int 0, .int 0, .int 0, .ref a20, .ref a21, .ref a22, .ref a23, .ref a24, .ref a25, .ref a26, .ref a27, .ref a28, .int 1, .ref a29, .ref a30, .ref a31, .long 0, .int 0, .int 0, .int 0, .long 0, .int 0, .ref a32, .int 0, .int 0, .int 0, .int 0, .ref a33, .ref a34, .ref a35])), (a17, .inl (y 0, 9, .inl nz)), (a7, .inl (y 0, 9, .inl nz)), (a18, .inl (y 0, 9, .inl nz)), (a1, .inl (y 0, 9, .inl nz)), (a19, .inl (y 0, 9, .inl nz)), (a6, .inl (y 0, 9, .inl nz))]) hx hb hK hP hD hS 2 0 rfl rfl (n_in (by decide +kernel)) (by rw [nb_upI (f := nz) (i := Int32.toNatClampNeg 4) (x := 0) rfl]; rfl) dX12_takeBack_27 (fun H locs hP hD hS => ?_)
  refine lv_aload_n hx hb dX12_takeBack_28 rfl (lv_at hl 1 rfl) ?_
  refine va_get (D := D) (ci := 12) (v := .ref a1) (C := RX12) (T := TX12) (N := 72) hx hb hts iX12_takeBack_X12 hown hK hP 0 rfl rfl 1 (by decide +kernel) w_4 (fun _ h9 => h9) rfl dX12_takeBack_29 ?_
  refine lv_iload_n hx hb dX12_takeBack_32 rfl (lv_at hl 0 rfl) ?_
  refine lv_aload_n hx hb dX12_takeBack_33 rfl (lv_at hl 1 rfl) ?_
  refine va_get (D := D) (ci := 12) (v := .ref a18) (C := RX12) (T := TX12) (N := 72) hx hb hts iX12_takeBack_X12 hown hK hP 0 rfl rfl 39 (by decide +kernel) w_5 (fun _ h9 => h9) rfl dX12_takeBack_34 ?_
  refine lv_iload_n hx hb dX12_takeBack_37 rfl (lv_at hl 0 rfl) ?_
  refine va_iald hx hb hK hP 3 0 rfl rfl (n_in (by decide +kernel)) dX12_takeBack_38 ?_
  refine nv_i (v := 0) rfl ?_
  refine nb_iast (ws' := [(a0, .inr (12, [.int 0, .ref a1, .ref a2, .ref a3, .ref a4, .ref a5, .ref a6, .ref a7, .int 0, .ref a8, .int 0, .ref a9, .ref a10, .int 1, .ref a11, .int 0, .ref a12, .int 0, .int 0, .null, .int 0, .int 0, .int 0, .int 0, .ref a13, .ref a14, .ref a15, .int (-1), .int 0, .int 0, .int 0, .int 0, .int 0, .int 0, .int 0, .ref a16, .int 0, .ref a17, .int 0, .ref a18, .ref a19, .int 0, .int 0, .int 0, .int 0, .ref a20, .ref a21, .ref a22, .ref a23, .ref a24, .ref a25, .ref a26, .ref a27, .ref a28, .int 1, .ref a29, .ref a30, .ref a31, .long 0, .int 0, .int 0, .int 0, .long 0, .int 0, .ref a32, .int 0, .int 0, .int 0, .int 0, .ref a33, .ref a34, .ref a35])), (a17, .inl (y 0, 9, .inl nz)), (a7, .inl (y 0, 9, .inl nz)), (a18, .inl (y 0, 9, .inl nz)), (a1, .inl (y 0, 9, .inl nz)), (a19, .inl (y 0, 9, .inl nz)), (a6, .inl (y 0, 9, .inl nz))]) hx hb hK hP hD hS 4 0 rfl rfl (n_in (by decide +kernel)) (by rw [nb_upI (f := nz) (i := Int32.toNatClampNeg 4) (x := 0) rfl]; rfl) dX12_takeBack_39 (fun H locs hP hD hS => ?_)
  refine lv_aload_n hx hb dX12_takeBack_40 rfl (lv_at hl 1 rfl) ?_
  refine va_get (D := D) (ci := 12) (v := .ref a6) (C := RX12) (T := TX12) (N := 72) hx hb hts iX12_takeBack_X12 hown hK hP 0 rfl rfl 6 (by decide +kernel) w_6 (fun _ h9 => h9) rfl dX12_takeBack_41 ?_
  refine lv_iload_n hx hb dX12_takeBack_44 rfl (lv_at hl 0 rfl) ?_
  refine lv_aload_n hx hb dX12_takeBack_45 rfl (lv_at hl 1 rfl) ?_
  refine va_get (D := D) (ci := 12) (v := .ref a19) (C := RX12) (T := TX12) (N := 72) hx hb hts iX12_takeBack_X12 hown hK hP 0 rfl rfl 40 (by decide +kernel) w_7 (fun _ h9 => h9) rfl dX12_takeBack_46 ?_
  refine lv_iload_n hx hb dX12_takeBack_49 rfl (lv_at hl 0 rfl) ?_
  refine va_iald hx hb hK hP 5 0 rfl rfl (n_in (by decide +kernel)) dX12_takeBack_50 ?_
  refine nv_i (v := 0) rfl ?_
  refine nb_iast (ws' := [(a0, .inr (12, [.int 0, .ref a1, .ref a2, .ref a3, .ref a4, .ref a5, .ref a6, .ref a7, .int 0, .ref a8, .int 0, .ref a9, .ref a10, .int 1, .ref a11, .int 0, .ref a12, .int 0, .int 0, .null, .int 0, .int 0, .int 0, .int 0, .ref a13, .ref a14, .ref a15, .int (-1), .int 0, .int 0, .int 0, .int 0, .int 0, .int 0, .int 0, .ref a16, .int 0, .ref a17, .int 0, .ref a18, .ref a19, .int 0, .int 0, .int 0, .int 0, .ref a20, .ref a21, .ref a22, .ref a23, .ref a24, .ref a25, .ref a26, .ref a27, .ref a28, .int 1, .ref a29, .ref a30, .ref a31, .long 0, .int 0, .int 0, .int 0, .long 0, .int 0, .ref a32, .int 0, .int 0, .int 0, .int 0, .ref a33, .ref a34, .ref a35])), (a17, .inl (y 0, 9, .inl nz)), (a7, .inl (y 0, 9, .inl nz)), (a18, .inl (y 0, 9, .inl nz)), (a1, .inl (y 0, 9, .inl nz)), (a19, .inl (y 0, 9, .inl nz)), (a6, .inl (y 0, 9, .inl nz))]) hx hb hK hP hD hS 6 0 rfl rfl (n_in (by decide +kernel)) (by rw [nb_upI (f := nz) (i := Int32.toNatClampNeg 4) (x := 0) rfl]; rfl) dX12_takeBack_51 (fun H locs hP hD hS => ?_)
  refine lv_iinc (v := 5) (lv' := [(1, .int 5), (0, .ref a0)]) hx hb dX12_takeBack_52 hl (k := 0) rfl (by decide +kernel) (by decide +kernel) rfl (fun ls hl => ?_)
  refine lv_goto (tgt := 10) hx hb dX12_takeBack_55 (by decide +kernel) ?_
  refine lv_iload_n hx hb dX12_takeBack_10 rfl (lv_at hl 0 rfl) ?_
  refine lv_bipush (v := 9) hx hb dX12_takeBack_11 (by decide +kernel) ?_
  refine lv_icmp_ge (tgt := 58) hx hb dX12_takeBack_13 (by decide +kernel) (fun c => absurd c (by decide +kernel)) (fun _ => ?_)
  refine lv_aload_n hx hb dX12_takeBack_16 rfl (lv_at hl 1 rfl) ?_
  refine va_get (D := D) (ci := 12) (v := .ref a7) (C := RX12) (T := TX12) (N := 72) hx hb hts iX12_takeBack_X12 hown hK hP 0 rfl rfl 7 (by decide +kernel) w_2 (fun _ h9 => h9) rfl dX12_takeBack_17 ?_
  refine lv_iload_n hx hb dX12_takeBack_20 rfl (lv_at hl 0 rfl) ?_
  refine lv_aload_n hx hb dX12_takeBack_21 rfl (lv_at hl 1 rfl) ?_
  refine va_get (D := D) (ci := 12) (v := .ref a17) (C := RX12) (T := TX12) (N := 72) hx hb hts iX12_takeBack_X12 hown hK hP 0 rfl rfl 37 (by decide +kernel) w_3 (fun _ h9 => h9) rfl dX12_takeBack_22 ?_
  refine lv_iload_n hx hb dX12_takeBack_25 rfl (lv_at hl 0 rfl) ?_
  refine va_iald hx hb hK hP 1 0 rfl rfl (n_in (by decide +kernel)) dX12_takeBack_26 ?_
  refine nv_i (v := 0) rfl ?_
  refine nb_iast (ws' := [(a0, .inr (12, [.int 0, .ref a1, .ref a2, .ref a3, .ref a4, .ref a5, .ref a6, .ref a7, .int 0, .ref a8, .int 0, .ref a9, .ref a10, .int 1, .ref a11, .int 0, .ref a12, .int 0, .int 0, .null, .int 0, .int 0, .int 0, .int 0, .ref a13, .ref a14, .ref a15, .int (-1), .int 0, .int 0, .int 0, .int 0, .int 0, .int 0, .int 0, .ref a16, .int 0, .ref a17, .int 0, .ref a18, .ref a19, .int 0, .int 0, .int 0, .int 0, .ref a20, .ref a21, .ref a22, .ref a23, .ref a24, .ref a25, .ref a26, .ref a27, .ref a28, .int 1, .ref a29, .ref a30, .ref a31, .long 0, .int 0, .int 0, .int 0, .long 0, .int 0, .ref a32, .int 0, .int 0, .int 0, .int 0, .ref a33, .ref a34, .ref a35])), (a17, .inl (y 0, 9, .inl nz)), (a7, .inl (y 0, 9, .inl nz)), (a18, .inl (y 0, 9, .inl nz)), (a1, .inl (y 0, 9, .inl nz)), (a19, .inl (y 0, 9, .inl nz)), (a6, .inl (y 0, 9, .inl nz))]) hx hb hK hP hD hS 2 0 rfl rfl (n_in (by decide +kernel)) (by rw [nb_upI (f := nz) (i := Int32.toNatClampNeg 5) (x := 0) rfl]; rfl) dX12_takeBack_27 (fun H locs hP hD hS => ?_)
  refine lv_aload_n hx hb dX12_takeBack_28 rfl (lv_at hl 1 rfl) ?_
  refine va_get (D := D) (ci := 12) (v := .ref a1) (C := RX12) (T := TX12) (N := 72) hx hb hts iX12_takeBack_X12 hown hK hP 0 rfl rfl 1 (by decide +kernel) w_4 (fun _ h9 => h9) rfl dX12_takeBack_29 ?_
  refine lv_iload_n hx hb dX12_takeBack_32 rfl (lv_at hl 0 rfl) ?_
  refine lv_aload_n hx hb dX12_takeBack_33 rfl (lv_at hl 1 rfl) ?_
  refine va_get (D := D) (ci := 12) (v := .ref a18) (C := RX12) (T := TX12) (N := 72) hx hb hts iX12_takeBack_X12 hown hK hP 0 rfl rfl 39 (by decide +kernel) w_5 (fun _ h9 => h9) rfl dX12_takeBack_34 ?_
  refine lv_iload_n hx hb dX12_takeBack_37 rfl (lv_at hl 0 rfl) ?_
  refine va_iald hx hb hK hP 3 0 rfl rfl (n_in (by decide +kernel)) dX12_takeBack_38 ?_
  refine nv_i (v := 0) rfl ?_
  refine nb_iast (ws' := [(a0, .inr (12, [.int 0, .ref a1, .ref a2, .ref a3, .ref a4, .ref a5, .ref a6, .ref a7, .int 0, .ref a8, .int 0, .ref a9, .ref a10, .int 1, .ref a11, .int 0, .ref a12, .int 0, .int 0, .null, .int 0, .int 0, .int 0, .int 0, .ref a13, .ref a14, .ref a15, .int (-1), .int 0, .int 0, .int 0, .int 0, .int 0, .int 0, .int 0, .ref a16, .int 0, .ref a17, .int 0, .ref a18, .ref a19, .int 0, .int 0, .int 0, .int 0, .ref a20, .ref a21, .ref a22, .ref a23, .ref a24, .ref a25, .ref a26, .ref a27, .ref a28, .int 1, .ref a29, .ref a30, .ref a31, .long 0, .int 0, .int 0, .int 0, .long 0, .int 0, .ref a32, .int 0, .int 0, .int 0, .int 0, .ref a33, .ref a34, .ref a35])), (a17, .inl (y 0, 9, .inl nz)), (a7, .inl (y 0, 9, .inl nz)), (a18, .inl (y 0, 9, .inl nz)), (a1, .inl (y 0, 9, .inl nz)), (a19, .inl (y 0, 9, .inl nz)), (a6, .inl (y 0, 9, .inl nz))]) hx hb hK hP hD hS 4 0 rfl rfl (n_in (by decide +kernel)) (by rw [nb_upI (f := nz) (i := Int32.toNatClampNeg 5) (x := 0) rfl]; rfl) dX12_takeBack_39 (fun H locs hP hD hS => ?_)
  refine lv_aload_n hx hb dX12_takeBack_40 rfl (lv_at hl 1 rfl) ?_
  refine va_get (D := D) (ci := 12) (v := .ref a6) (C := RX12) (T := TX12) (N := 72) hx hb hts iX12_takeBack_X12 hown hK hP 0 rfl rfl 6 (by decide +kernel) w_6 (fun _ h9 => h9) rfl dX12_takeBack_41 ?_
  refine lv_iload_n hx hb dX12_takeBack_44 rfl (lv_at hl 0 rfl) ?_
  refine lv_aload_n hx hb dX12_takeBack_45 rfl (lv_at hl 1 rfl) ?_
  refine va_get (D := D) (ci := 12) (v := .ref a19) (C := RX12) (T := TX12) (N := 72) hx hb hts iX12_takeBack_X12 hown hK hP 0 rfl rfl 40 (by decide +kernel) w_7 (fun _ h9 => h9) rfl dX12_takeBack_46 ?_
  refine lv_iload_n hx hb dX12_takeBack_49 rfl (lv_at hl 0 rfl) ?_
  refine va_iald hx hb hK hP 5 0 rfl rfl (n_in (by decide +kernel)) dX12_takeBack_50 ?_
  refine nv_i (v := 0) rfl ?_
  refine nb_iast (ws' := [(a0, .inr (12, [.int 0, .ref a1, .ref a2, .ref a3, .ref a4, .ref a5, .ref a6, .ref a7, .int 0, .ref a8, .int 0, .ref a9, .ref a10, .int 1, .ref a11, .int 0, .ref a12, .int 0, .int 0, .null, .int 0, .int 0, .int 0, .int 0, .ref a13, .ref a14, .ref a15, .int (-1), .int 0, .int 0, .int 0, .int 0, .int 0, .int 0, .int 0, .ref a16, .int 0, .ref a17, .int 0, .ref a18, .ref a19, .int 0, .int 0, .int 0, .int 0, .ref a20, .ref a21, .ref a22, .ref a23, .ref a24, .ref a25, .ref a26, .ref a27, .ref a28, .int 1, .ref a29, .ref a30, .ref a31, .long 0, .int 0, .int 0, .int 0, .long 0, .int 0, .ref a32, .int 0, .int 0, .int 0, .int 0, .ref a33, .ref a34, .ref a35])), (a17, .inl (y 0, 9, .inl nz)), (a7, .inl (y 0, 9, .inl nz)), (a18, .inl (y 0, 9, .inl nz)), (a1, .inl (y 0, 9, .inl nz)), (a19, .inl (y 0, 9, .inl nz)), (a6, .inl (y 0, 9, .inl nz))]) hx hb hK hP hD hS 6 0 rfl rfl (n_in (by decide +kernel)) (by rw [nb_upI (f := nz) (i := Int32.toNatClampNeg 5) (x := 0) rfl]; rfl) dX12_takeBack_51 (fun H locs hP hD hS => ?_)
  refine lv_iinc (v := 6) (lv' := [(1, .int 6), (0, .ref a0)]) hx hb dX12_takeBack_52 hl (k := 0) rfl (by decide +kernel) (by decide +kernel) rfl (fun ls hl => ?_)
  refine lv_goto (tgt := 10) hx hb dX12_takeBack_55 (by decide +kernel) ?_
  refine lv_iload_n hx hb dX12_takeBack_10 rfl (lv_at hl 0 rfl) ?_
  refine lv_bipush (v := 9) hx hb dX12_takeBack_11 (by decide +kernel) ?_
  refine lv_icmp_ge (tgt := 58) hx hb dX12_takeBack_13 (by decide +kernel) (fun c => absurd c (by decide +kernel)) (fun _ => ?_)
  refine lv_aload_n hx hb dX12_takeBack_16 rfl (lv_at hl 1 rfl) ?_
  refine va_get (D := D) (ci := 12) (v := .ref a7) (C := RX12) (T := TX12) (N := 72) hx hb hts iX12_takeBack_X12 hown hK hP 0 rfl rfl 7 (by decide +kernel) w_2 (fun _ h9 => h9) rfl dX12_takeBack_17 ?_
  refine lv_iload_n hx hb dX12_takeBack_20 rfl (lv_at hl 0 rfl) ?_
  refine lv_aload_n hx hb dX12_takeBack_21 rfl (lv_at hl 1 rfl) ?_
  refine va_get (D := D) (ci := 12) (v := .ref a17) (C := RX12) (T := TX12) (N := 72) hx hb hts iX12_takeBack_X12 hown hK hP 0 rfl rfl 37 (by decide +kernel) w_3 (fun _ h9 => h9) rfl dX12_takeBack_22 ?_
  refine lv_iload_n hx hb dX12_takeBack_25 rfl (lv_at hl 0 rfl) ?_
  refine va_iald hx hb hK hP 1 0 rfl rfl (n_in (by decide +kernel)) dX12_takeBack_26 ?_
  refine nv_i (v := 0) rfl ?_
  refine nb_iast (ws' := [(a0, .inr (12, [.int 0, .ref a1, .ref a2, .ref a3, .ref a4, .ref a5, .ref a6, .ref a7, .int 0, .ref a8, .int 0, .ref a9, .ref a10, .int 1, .ref a11, .int 0, .ref a12, .int 0, .int 0, .null, .int 0, .int 0, .int 0, .int 0, .ref a13, .ref a14, .ref a15, .int (-1), .int 0, .int 0, .int 0, .int 0, .int 0, .int 0, .int 0, .ref a16, .int 0, .ref a17, .int 0, .ref a18, .ref a19, .int 0, .int 0, .int 0, .int 0, .ref a20, .ref a21, .ref a22, .ref a23, .ref a24, .ref a25, .ref a26, .ref a27, .ref a28, .int 1, .ref a29, .ref a30, .ref a31, .long 0, .int 0, .int 0, .int 0, .long 0, .int 0, .ref a32, .int 0, .int 0, .int 0, .int 0, .ref a33, .ref a34, .ref a35])), (a17, .inl (y 0, 9, .inl nz)), (a7, .inl (y 0, 9, .inl nz)), (a18, .inl (y 0, 9, .inl nz)), (a1, .inl (y 0, 9, .inl nz)), (a19, .inl (y 0, 9, .inl nz)), (a6, .inl (y 0, 9, .inl nz))]) hx hb hK hP hD hS 2 0 rfl rfl (n_in (by decide +kernel)) (by rw [nb_upI (f := nz) (i := Int32.toNatClampNeg 6) (x := 0) rfl]; rfl) dX12_takeBack_27 (fun H locs hP hD hS => ?_)
  refine lv_aload_n hx hb dX12_takeBack_28 rfl (lv_at hl 1 rfl) ?_
  refine va_get (D := D) (ci := 12) (v := .ref a1) (C := RX12) (T := TX12) (N := 72) hx hb hts iX12_takeBack_X12 hown hK hP 0 rfl rfl 1 (by decide +kernel) w_4 (fun _ h9 => h9) rfl dX12_takeBack_29 ?_
  refine lv_iload_n hx hb dX12_takeBack_32 rfl (lv_at hl 0 rfl) ?_
  refine lv_aload_n hx hb dX12_takeBack_33 rfl (lv_at hl 1 rfl) ?_
  refine va_get (D := D) (ci := 12) (v := .ref a18) (C := RX12) (T := TX12) (N := 72) hx hb hts iX12_takeBack_X12 hown hK hP 0 rfl rfl 39 (by decide +kernel) w_5 (fun _ h9 => h9) rfl dX12_takeBack_34 ?_
  refine lv_iload_n hx hb dX12_takeBack_37 rfl (lv_at hl 0 rfl) ?_
  refine va_iald hx hb hK hP 3 0 rfl rfl (n_in (by decide +kernel)) dX12_takeBack_38 ?_
  refine nv_i (v := 0) rfl ?_
  refine nb_iast (ws' := [(a0, .inr (12, [.int 0, .ref a1, .ref a2, .ref a3, .ref a4, .ref a5, .ref a6, .ref a7, .int 0, .ref a8, .int 0, .ref a9, .ref a10, .int 1, .ref a11, .int 0, .ref a12, .int 0, .int 0, .null, .int 0, .int 0, .int 0, .int 0, .ref a13, .ref a14, .ref a15, .int (-1), .int 0, .int 0, .int 0, .int 0, .int 0, .int 0, .int 0, .ref a16, .int 0, .ref a17, .int 0, .ref a18, .ref a19, .int 0, .int 0, .int 0, .int 0, .ref a20, .ref a21, .ref a22, .ref a23, .ref a24, .ref a25, .ref a26, .ref a27, .ref a28, .int 1, .ref a29, .ref a30, .ref a31, .long 0, .int 0, .int 0, .int 0, .long 0, .int 0, .ref a32, .int 0, .int 0, .int 0, .int 0, .ref a33, .ref a34, .ref a35])), (a17, .inl (y 0, 9, .inl nz)), (a7, .inl (y 0, 9, .inl nz)), (a18, .inl (y 0, 9, .inl nz)), (a1, .inl (y 0, 9, .inl nz)), (a19, .inl (y 0, 9, .inl nz)), (a6, .inl (y 0, 9, .inl nz))]) hx hb hK hP hD hS 4 0 rfl rfl (n_in (by decide +kernel)) (by rw [nb_upI (f := nz) (i := Int32.toNatClampNeg 6) (x := 0) rfl]; rfl) dX12_takeBack_39 (fun H locs hP hD hS => ?_)
  refine lv_aload_n hx hb dX12_takeBack_40 rfl (lv_at hl 1 rfl) ?_
  refine va_get (D := D) (ci := 12) (v := .ref a6) (C := RX12) (T := TX12) (N := 72) hx hb hts iX12_takeBack_X12 hown hK hP 0 rfl rfl 6 (by decide +kernel) w_6 (fun _ h9 => h9) rfl dX12_takeBack_41 ?_
  refine lv_iload_n hx hb dX12_takeBack_44 rfl (lv_at hl 0 rfl) ?_
  refine lv_aload_n hx hb dX12_takeBack_45 rfl (lv_at hl 1 rfl) ?_
  refine va_get (D := D) (ci := 12) (v := .ref a19) (C := RX12) (T := TX12) (N := 72) hx hb hts iX12_takeBack_X12 hown hK hP 0 rfl rfl 40 (by decide +kernel) w_7 (fun _ h9 => h9) rfl dX12_takeBack_46 ?_
  refine lv_iload_n hx hb dX12_takeBack_49 rfl (lv_at hl 0 rfl) ?_
  refine va_iald hx hb hK hP 5 0 rfl rfl (n_in (by decide +kernel)) dX12_takeBack_50 ?_
  refine nv_i (v := 0) rfl ?_
  refine nb_iast (ws' := [(a0, .inr (12, [.int 0, .ref a1, .ref a2, .ref a3, .ref a4, .ref a5, .ref a6, .ref a7, .int 0, .ref a8, .int 0, .ref a9, .ref a10, .int 1, .ref a11, .int 0, .ref a12, .int 0, .int 0, .null, .int 0, .int 0, .int 0, .int 0, .ref a13, .ref a14, .ref a15, .int (-1), .int 0, .int 0, .int 0, .int 0, .int 0, .int 0, .int 0, .ref a16, .int 0, .ref a17, .int 0, .ref a18, .ref a19, .int 0, .int 0, .int 0, .int 0, .ref a20, .ref a21, .ref a22, .ref a23, .ref a24, .ref a25, .ref a26, .ref a27, .ref a28, .int 1, .ref a29, .ref a30, .ref a31, .long 0, .int 0, .int 0, .int 0, .long 0, .int 0, .ref a32, .int 0, .int 0, .int 0, .int 0, .ref a33, .ref a34, .ref a35])), (a17, .inl (y 0, 9, .inl nz)), (a7, .inl (y 0, 9, .inl nz)), (a18, .inl (y 0, 9, .inl nz)), (a1, .inl (y 0, 9, .inl nz)), (a19, .inl (y 0, 9, .inl nz)), (a6, .inl (y 0, 9, .inl nz))]) hx hb hK hP hD hS 6 0 rfl rfl (n_in (by decide +kernel)) (by rw [nb_upI (f := nz) (i := Int32.toNatClampNeg 6) (x := 0) rfl]; rfl) dX12_takeBack_51 (fun H locs hP hD hS => ?_)
  refine lv_iinc (v := 7) (lv' := [(1, .int 7), (0, .ref a0)]) hx hb dX12_takeBack_52 hl (k := 0) rfl (by decide +kernel) (by decide +kernel) rfl (fun ls hl => ?_)
  refine lv_goto (tgt := 10) hx hb dX12_takeBack_55 (by decide +kernel) ?_
  refine lv_iload_n hx hb dX12_takeBack_10 rfl (lv_at hl 0 rfl) ?_
  refine lv_bipush (v := 9) hx hb dX12_takeBack_11 (by decide +kernel) ?_
  refine lv_icmp_ge (tgt := 58) hx hb dX12_takeBack_13 (by decide +kernel) (fun c => absurd c (by decide +kernel)) (fun _ => ?_)
  refine lv_aload_n hx hb dX12_takeBack_16 rfl (lv_at hl 1 rfl) ?_
  refine va_get (D := D) (ci := 12) (v := .ref a7) (C := RX12) (T := TX12) (N := 72) hx hb hts iX12_takeBack_X12 hown hK hP 0 rfl rfl 7 (by decide +kernel) w_2 (fun _ h9 => h9) rfl dX12_takeBack_17 ?_
  refine lv_iload_n hx hb dX12_takeBack_20 rfl (lv_at hl 0 rfl) ?_
  refine lv_aload_n hx hb dX12_takeBack_21 rfl (lv_at hl 1 rfl) ?_
  refine va_get (D := D) (ci := 12) (v := .ref a17) (C := RX12) (T := TX12) (N := 72) hx hb hts iX12_takeBack_X12 hown hK hP 0 rfl rfl 37 (by decide +kernel) w_3 (fun _ h9 => h9) rfl dX12_takeBack_22 ?_
  refine lv_iload_n hx hb dX12_takeBack_25 rfl (lv_at hl 0 rfl) ?_
  refine va_iald hx hb hK hP 1 0 rfl rfl (n_in (by decide +kernel)) dX12_takeBack_26 ?_
  refine nv_i (v := 0) rfl ?_
  refine nb_iast (ws' := [(a0, .inr (12, [.int 0, .ref a1, .ref a2, .ref a3, .ref a4, .ref a5, .ref a6, .ref a7, .int 0, .ref a8, .int 0, .ref a9, .ref a10, .int 1, .ref a11, .int 0, .ref a12, .int 0, .int 0, .null, .int 0, .int 0, .int 0, .int 0, .ref a13, .ref a14, .ref a15, .int (-1), .int 0, .int 0, .int 0, .int 0, .int 0, .int 0, .int 0, .ref a16, .int 0, .ref a17, .int 0, .ref a18, .ref a19, .int 0, .int 0, .int 0, .int 0, .ref a20, .ref a21, .ref a22, .ref a23, .ref a24, .ref a25, .ref a26, .ref a27, .ref a28, .int 1, .ref a29, .ref a30, .ref a31, .long 0, .int 0, .int 0, .int 0, .long 0, .int 0, .ref a32, .int 0, .int 0, .int 0, .int 0, .ref a33, .ref a34, .ref a35])), (a17, .inl (y 0, 9, .inl nz)), (a7, .inl (y 0, 9, .inl nz)), (a18, .inl (y 0, 9, .inl nz)), (a1, .inl (y 0, 9, .inl nz)), (a19, .inl (y 0, 9, .inl nz)), (a6, .inl (y 0, 9, .inl nz))]) hx hb hK hP hD hS 2 0 rfl rfl (n_in (by decide +kernel)) (by rw [nb_upI (f := nz) (i := Int32.toNatClampNeg 7) (x := 0) rfl]; rfl) dX12_takeBack_27 (fun H locs hP hD hS => ?_)
  refine lv_aload_n hx hb dX12_takeBack_28 rfl (lv_at hl 1 rfl) ?_
  refine va_get (D := D) (ci := 12) (v := .ref a1) (C := RX12) (T := TX12) (N := 72) hx hb hts iX12_takeBack_X12 hown hK hP 0 rfl rfl 1 (by decide +kernel) w_4 (fun _ h9 => h9) rfl dX12_takeBack_29 ?_
  refine lv_iload_n hx hb dX12_takeBack_32 rfl (lv_at hl 0 rfl) ?_
  refine lv_aload_n hx hb dX12_takeBack_33 rfl (lv_at hl 1 rfl) ?_
  refine va_get (D := D) (ci := 12) (v := .ref a18) (C := RX12) (T := TX12) (N := 72) hx hb hts iX12_takeBack_X12 hown hK hP 0 rfl rfl 39 (by decide +kernel) w_5 (fun _ h9 => h9) rfl dX12_takeBack_34 ?_
  refine lv_iload_n hx hb dX12_takeBack_37 rfl (lv_at hl 0 rfl) ?_
  refine va_iald hx hb hK hP 3 0 rfl rfl (n_in (by decide +kernel)) dX12_takeBack_38 ?_
  refine nv_i (v := 0) rfl ?_
  refine nb_iast (ws' := [(a0, .inr (12, [.int 0, .ref a1, .ref a2, .ref a3, .ref a4, .ref a5, .ref a6, .ref a7, .int 0, .ref a8, .int 0, .ref a9, .ref a10, .int 1, .ref a11, .int 0, .ref a12, .int 0, .int 0, .null, .int 0, .int 0, .int 0, .int 0, .ref a13, .ref a14, .ref a15, .int (-1), .int 0, .int 0, .int 0, .int 0, .int 0, .int 0, .int 0, .ref a16, .int 0, .ref a17, .int 0, .ref a18, .ref a19, .int 0, .int 0, .int 0, .int 0, .ref a20, .ref a21, .ref a22, .ref a23, .ref a24, .ref a25, .ref a26, .ref a27, .ref a28, .int 1, .ref a29, .ref a30, .ref a31, .long 0, .int 0, .int 0, .int 0, .long 0, .int 0, .ref a32, .int 0, .int 0, .int 0, .int 0, .ref a33, .ref a34, .ref a35])), (a17, .inl (y 0, 9, .inl nz)), (a7, .inl (y 0, 9, .inl nz)), (a18, .inl (y 0, 9, .inl nz)), (a1, .inl (y 0, 9, .inl nz)), (a19, .inl (y 0, 9, .inl nz)), (a6, .inl (y 0, 9, .inl nz))]) hx hb hK hP hD hS 4 0 rfl rfl (n_in (by decide +kernel)) (by rw [nb_upI (f := nz) (i := Int32.toNatClampNeg 7) (x := 0) rfl]; rfl) dX12_takeBack_39 (fun H locs hP hD hS => ?_)
  refine lv_aload_n hx hb dX12_takeBack_40 rfl (lv_at hl 1 rfl) ?_
  refine va_get (D := D) (ci := 12) (v := .ref a6) (C := RX12) (T := TX12) (N := 72) hx hb hts iX12_takeBack_X12 hown hK hP 0 rfl rfl 6 (by decide +kernel) w_6 (fun _ h9 => h9) rfl dX12_takeBack_41 ?_
  refine lv_iload_n hx hb dX12_takeBack_44 rfl (lv_at hl 0 rfl) ?_
  refine lv_aload_n hx hb dX12_takeBack_45 rfl (lv_at hl 1 rfl) ?_
  refine va_get (D := D) (ci := 12) (v := .ref a19) (C := RX12) (T := TX12) (N := 72) hx hb hts iX12_takeBack_X12 hown hK hP 0 rfl rfl 40 (by decide +kernel) w_7 (fun _ h9 => h9) rfl dX12_takeBack_46 ?_
  refine lv_iload_n hx hb dX12_takeBack_49 rfl (lv_at hl 0 rfl) ?_
  refine va_iald hx hb hK hP 5 0 rfl rfl (n_in (by decide +kernel)) dX12_takeBack_50 ?_
  refine nv_i (v := 0) rfl ?_
  refine nb_iast (ws' := [(a0, .inr (12, [.int 0, .ref a1, .ref a2, .ref a3, .ref a4, .ref a5, .ref a6, .ref a7, .int 0, .ref a8, .int 0, .ref a9, .ref a10, .int 1, .ref a11, .int 0, .ref a12, .int 0, .int 0, .null, .int 0, .int 0, .int 0, .int 0, .ref a13, .ref a14, .ref a15, .int (-1), .int 0, .int 0, .int 0, .int 0, .int 0, .int 0, .int 0, .ref a16, .int 0, .ref a17, .int 0, .ref a18, .ref a19, .int 0, .int 0, .int 0, .int 0, .ref a20, .ref a21, .ref a22, .ref a23, .ref a24, .ref a25, .ref a26, .ref a27, .ref a28, .int 1, .ref a29, .ref a30, .ref a31, .long 0, .int 0, .int 0, .int 0, .long 0, .int 0, .ref a32, .int 0, .int 0, .int 0, .int 0, .ref a33, .ref a34, .ref a35])), (a17, .inl (y 0, 9, .inl nz)), (a7, .inl (y 0, 9, .inl nz)), (a18, .inl (y 0, 9, .inl nz)), (a1, .inl (y 0, 9, .inl nz)), (a19, .inl (y 0, 9, .inl nz)), (a6, .inl (y 0, 9, .inl nz))]) hx hb hK hP hD hS 6 0 rfl rfl (n_in (by decide +kernel)) (by rw [nb_upI (f := nz) (i := Int32.toNatClampNeg 7) (x := 0) rfl]; rfl) dX12_takeBack_51 (fun H locs hP hD hS => ?_)
  refine lv_iinc (v := 8) (lv' := [(1, .int 8), (0, .ref a0)]) hx hb dX12_takeBack_52 hl (k := 0) rfl (by decide +kernel) (by decide +kernel) rfl (fun ls hl => ?_)
  refine lv_goto (tgt := 10) hx hb dX12_takeBack_55 (by decide +kernel) ?_
  refine lv_iload_n hx hb dX12_takeBack_10 rfl (lv_at hl 0 rfl) ?_
  refine lv_bipush (v := 9) hx hb dX12_takeBack_11 (by decide +kernel) ?_
  refine lv_icmp_ge (tgt := 58) hx hb dX12_takeBack_13 (by decide +kernel) (fun c => absurd c (by decide +kernel)) (fun _ => ?_)
  refine lv_aload_n hx hb dX12_takeBack_16 rfl (lv_at hl 1 rfl) ?_
  refine va_get (D := D) (ci := 12) (v := .ref a7) (C := RX12) (T := TX12) (N := 72) hx hb hts iX12_takeBack_X12 hown hK hP 0 rfl rfl 7 (by decide +kernel) w_2 (fun _ h9 => h9) rfl dX12_takeBack_17 ?_
  refine lv_iload_n hx hb dX12_takeBack_20 rfl (lv_at hl 0 rfl) ?_
  refine lv_aload_n hx hb dX12_takeBack_21 rfl (lv_at hl 1 rfl) ?_
  refine va_get (D := D) (ci := 12) (v := .ref a17) (C := RX12) (T := TX12) (N := 72) hx hb hts iX12_takeBack_X12 hown hK hP 0 rfl rfl 37 (by decide +kernel) w_3 (fun _ h9 => h9) rfl dX12_takeBack_22 ?_
  refine lv_iload_n hx hb dX12_takeBack_25 rfl (lv_at hl 0 rfl) ?_
  refine va_iald hx hb hK hP 1 0 rfl rfl (n_in (by decide +kernel)) dX12_takeBack_26 ?_
  refine nv_i (v := 0) rfl ?_
  refine nb_iast (ws' := [(a0, .inr (12, [.int 0, .ref a1, .ref a2, .ref a3, .ref a4, .ref a5, .ref a6, .ref a7, .int 0, .ref a8, .int 0, .ref a9, .ref a10, .int 1, .ref a11, .int 0, .ref a12, .int 0, .int 0, .null, .int 0, .int 0, .int 0, .int 0, .ref a13, .ref a14, .ref a15, .int (-1), .int 0, .int 0, .int 0, .int 0, .int 0, .int 0, .int 0, .ref a16, .int 0, .ref a17, .int 0, .ref a18, .ref a19, .int 0, .int 0, .int 0, .int 0, .ref a20, .ref a21, .ref a22, .ref a23, .ref a24, .ref a25, .ref a26, .ref a27, .ref a28, .int 1, .ref a29, .ref a30, .ref a31, .long 0, .int 0, .int 0, .int 0, .long 0, .int 0, .ref a32, .int 0, .int 0, .int 0, .int 0, .ref a33, .ref a34, .ref a35])), (a17, .inl (y 0, 9, .inl nz)), (a7, .inl (y 0, 9, .inl nz)), (a18, .inl (y 0, 9, .inl nz)), (a1, .inl (y 0, 9, .inl nz)), (a19, .inl (y 0, 9, .inl nz)), (a6, .inl (y 0, 9, .inl nz))]) hx hb hK hP hD hS 2 0 rfl rfl (n_in (by decide +kernel)) (by rw [nb_upI (f := nz) (i := Int32.toNatClampNeg 8) (x := 0) rfl]; rfl) dX12_takeBack_27 (fun H locs hP hD hS => ?_)
  refine lv_aload_n hx hb dX12_takeBack_28 rfl (lv_at hl 1 rfl) ?_
  refine va_get (D := D) (ci := 12) (v := .ref a1) (C := RX12) (T := TX12) (N := 72) hx hb hts iX12_takeBack_X12 hown hK hP 0 rfl rfl 1 (by decide +kernel) w_4 (fun _ h9 => h9) rfl dX12_takeBack_29 ?_
  refine lv_iload_n hx hb dX12_takeBack_32 rfl (lv_at hl 0 rfl) ?_
  refine lv_aload_n hx hb dX12_takeBack_33 rfl (lv_at hl 1 rfl) ?_
  refine va_get (D := D) (ci := 12) (v := .ref a18) (C := RX12) (T := TX12) (N := 72) hx hb hts iX12_takeBack_X12 hown hK hP 0 rfl rfl 39 (by decide +kernel) w_5 (fun _ h9 => h9) rfl dX12_takeBack_34 ?_
  refine lv_iload_n hx hb dX12_takeBack_37 rfl (lv_at hl 0 rfl) ?_
  refine va_iald hx hb hK hP 3 0 rfl rfl (n_in (by decide +kernel)) dX12_takeBack_38 ?_
  refine nv_i (v := 0) rfl ?_
  refine nb_iast (ws' := [(a0, .inr (12, [.int 0, .ref a1, .ref a2, .ref a3, .ref a4, .ref a5, .ref a6, .ref a7, .int 0, .ref a8, .int 0, .ref a9, .ref a10, .int 1, .ref a11, .int 0, .ref a12, .int 0, .int 0, .null, .int 0, .int 0, .int 0, .int 0, .ref a13, .ref a14, .ref a15, .int (-1), .int 0, .int 0, .int 0, .int 0, .int 0, .int 0, .int 0, .ref a16, .int 0, .ref a17, .int 0, .ref a18, .ref a19, .int 0, .int 0, .int 0, .int 0, .ref a20, .ref a21, .ref a22, .ref a23, .ref a24, .ref a25, .ref a26, .ref a27, .ref a28, .int 1, .ref a29, .ref a30, .ref a31, .long 0, .int 0, .int 0, .int 0, .long 0, .int 0, .ref a32, .int 0, .int 0, .int 0, .int 0, .ref a33, .ref a34, .ref a35])), (a17, .inl (y 0, 9, .inl nz)), (a7, .inl (y 0, 9, .inl nz)), (a18, .inl (y 0, 9, .inl nz)), (a1, .inl (y 0, 9, .inl nz)), (a19, .inl (y 0, 9, .inl nz)), (a6, .inl (y 0, 9, .inl nz))]) hx hb hK hP hD hS 4 0 rfl rfl (n_in (by decide +kernel)) (by rw [nb_upI (f := nz) (i := Int32.toNatClampNeg 8) (x := 0) rfl]; rfl) dX12_takeBack_39 (fun H locs hP hD hS => ?_)
  refine lv_aload_n hx hb dX12_takeBack_40 rfl (lv_at hl 1 rfl) ?_
  refine va_get (D := D) (ci := 12) (v := .ref a6) (C := RX12) (T := TX12) (N := 72) hx hb hts iX12_takeBack_X12 hown hK hP 0 rfl rfl 6 (by decide +kernel) w_6 (fun _ h9 => h9) rfl dX12_takeBack_41 ?_
  refine lv_iload_n hx hb dX12_takeBack_44 rfl (lv_at hl 0 rfl) ?_
  refine lv_aload_n hx hb dX12_takeBack_45 rfl (lv_at hl 1 rfl) ?_
  refine va_get (D := D) (ci := 12) (v := .ref a19) (C := RX12) (T := TX12) (N := 72) hx hb hts iX12_takeBack_X12 hown hK hP 0 rfl rfl 40 (by decide +kernel) w_7 (fun _ h9 => h9) rfl dX12_takeBack_46 ?_
  refine lv_iload_n hx hb dX12_takeBack_49 rfl (lv_at hl 0 rfl) ?_
  refine va_iald hx hb hK hP 5 0 rfl rfl (n_in (by decide +kernel)) dX12_takeBack_50 ?_
  refine nv_i (v := 0) rfl ?_
  refine nb_iast (ws' := [(a0, .inr (12, [.int 0, .ref a1, .ref a2, .ref a3, .ref a4, .ref a5, .ref a6, .ref a7, .int 0, .ref a8, .int 0, .ref a9, .ref a10, .int 1, .ref a11, .int 0, .ref a12, .int 0, .int 0, .null, .int 0, .int 0, .int 0, .int 0, .ref a13, .ref a14, .ref a15, .int (-1), .int 0, .int 0, .int 0, .int 0, .int 0, .int 0, .int 0, .ref a16, .int 0, .ref a17, .int 0, .ref a18, .ref a19, .int 0, .int 0, .int 0, .int 0, .ref a20, .ref a21, .ref a22, .ref a23, .ref a24, .ref a25, .ref a26, .ref a27, .ref a28, .int 1, .ref a29, .ref a30, .ref a31, .long 0, .int 0, .int 0, .int 0, .long 0, .int 0, .ref a32, .int 0, .int 0, .int 0, .int 0, .ref a33, .ref a34, .ref a35])), (a17, .inl (y 0, 9, .inl nz)), (a7, .inl (y 0, 9, .inl nz)), (a18, .inl (y 0, 9, .inl nz)), (a1, .inl (y 0, 9, .inl nz)), (a19, .inl (y 0, 9, .inl nz)), (a6, .inl (y 0, 9, .inl nz))]) hx hb hK hP hD hS 6 0 rfl rfl (n_in (by decide +kernel)) (by rw [nb_upI (f := nz) (i := Int32.toNatClampNeg 8) (x := 0) rfl]; rfl) dX12_takeBack_51 (fun H locs hP hD hS => ?_)
  refine lv_iinc (v := 9) (lv' := [(1, .int 9), (0, .ref a0)]) hx hb dX12_takeBack_52 hl (k := 0) rfl (by decide +kernel) (by decide +kernel) rfl (fun ls hl => ?_)
  refine lv_goto (tgt := 10) hx hb dX12_takeBack_55 (by decide +kernel) ?_
  refine lv_iload_n hx hb dX12_takeBack_10 rfl (lv_at hl 0 rfl) ?_
  refine lv_bipush (v := 9) hx hb dX12_takeBack_11 (by decide +kernel) ?_
  refine lv_icmp_ge (tgt := 58) hx hb dX12_takeBack_13 (by decide +kernel) (fun _ => ?_) (fun c => absurd (by decide +kernel) c)
  refine W.widen (k := 0) (n := 0) (Nat.le_of_ble_eq_true rfl) (Nat.le_of_ble_eq_true rfl) ?_
  exact W.vret hx hb hr (fun t ht hW => ⟨⟨(fun _ => 0), rfl, trivial, by rw [ht]; exact hP, va_K.moved hW.alike hK, hD⟩, hS.F ht⟩) hS.2.2 dX12_takeBack_58 hlocks
