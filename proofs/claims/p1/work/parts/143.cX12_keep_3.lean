
set_option maxRecDepth 100000 in
set_option maxHeartbeats 4000000 in
theorem cX12_keep_3 (l : Launch) (D : va_G) (y : Nat → ClassId) (a0 : Nat) (a1 : Nat) (a2 : Nat) (a3 : Nat) (a4 : Nat) (a5 : Nat) (a6 : Nat) (a7 : Nat) (a8 : Nat) (a9 : Nat) (a10 : Nat) (a11 : Nat) (a12 : Nat) (a13 : Nat) (a14 : Nat) (a15 : Nat) (a16 : Nat) (a17 : Nat) (a18 : Nat) (a19 : Nat) (a20 : Nat) (a21 : Nat) (a22 : Nat) (a23 : Nat) (a24 : Nat) (a25 : Nat) (a26 : Nat) (a27 : Nat) (a28 : Nat) (a29 : Nat) (a30 : Nat) (a31 : Nat) (a32 : Nat) (a33 : Nat) (a34 : Nat) (a35 : Nat) (sz : Nat) : Met l yX12_keep wsX12_keep { frames := 3, cells := 0, slots := 0, locals := 225 } (nPc D y nT [.ref a0, .int 1] [(a0, .inr (12, [.int 0, .ref a1, .ref a2, .ref a3, .ref a4, .ref a5, .ref a6, .ref a7, .int 0, .ref a8, .int 0, .ref a9, .ref a10, .int 1, .ref a11, .int 0, .ref a12, .int 0, .int 0, .null, .int 0, .int 0, .int 0, .int 0, .ref a13, .ref a14, .ref a15, .int (-1), .int 0, .int 0, .int 0, .int 0, .int 0, .int 0, .int 0, .ref a16, .int 0, .ref a17, .int 0, .ref a18, .ref a19, .int 0, .int 0, .int 0, .int 0, .ref a20, .ref a21, .ref a22, .ref a23, .ref a24, .ref a25, .ref a26, .ref a27, .ref a28, .int 0, .ref a29, .ref a30, .ref a31, .long 0, .int 0, .int 0, .int 0, .long 0, .int 0, .ref a32, .int 0, .int 0, .int 0, .int 0, .ref a33, .ref a34, .ref a35])), (a34, .inl (y 2, 2, .inl nz)), (a35, .inl (y 0, 2, .inl nz)), (a7, .inl (y 0, 9, .inl nz)), (a33, .inl (y 0, 104, .inl nz)), (a8, .inl (y 0, 9, .inl nz)), (a1, .inl (y 0, 9, .inl nz)), (a9, .inl (y 0, 9, .inl nz)), (a6, .inl (y 0, 9, .inl nz)), (a10, .inl (y 0, 4, .inl (upd nz 2 99)))] sz) ((fun A => nQi D y (fun r _ => r = 1) (fun u => [(a0, .inr (12, [.int 0, .ref a1, .ref a2, .ref a3, .ref a4, .ref a5, .ref a6, .ref a7, .int 0, .ref a8, .int 0, .ref a9, .ref a10, .int 1, .ref a11, .int 0, .ref a12, .int 0, .int 0, .null, .int 0, .int 0, .int 0, .int 0, .ref a13, .ref a14, .ref a15, .int (-1), .int 0, .int 0, .int 0, .int 0, .int 0, .int 0, .int 0, .ref a16, .int 0, .ref a17, .int 0, .ref a18, .ref a19, .int 0, .int 0, .int 0, .int 0, .ref a20, .ref a21, .ref a22, .ref a23, .ref a24, .ref a25, .ref a26, .ref a27, .ref a28, .int 0, .ref a29, .ref a30, .ref a31, .long 0, .int 0, .int 0, .int 0, .long 0, .int 0, .ref a32, .int 0, .int 0, .int 0, .int 0, .ref a33, .ref a34, .ref a35])), (a34, .inl (y 2, 2, .inl (upd nz 1 1))), (a35, .inl (y 0, 2, .inl nz)), (a7, .inl (y 0, 9, .inl nz)), (a33, .inl (y 0, 104, .inl (upd (upd nz 99 1) 102 99))), (a8, .inl (y 0, 9, .inl nz)), (a1, .inl (y 0, 9, .inl nz)), (a9, .inl (y 0, 9, .inl nz)), (a6, .inl (y 0, 9, .inl nz)), (a10, .inl (y 0, 4, .inl (upd nz 2 99)))]) A) (va_A [(a0, .inr (12, [.int 0, .ref a1, .ref a2, .ref a3, .ref a4, .ref a5, .ref a6, .ref a7, .int 0, .ref a8, .int 0, .ref a9, .ref a10, .int 1, .ref a11, .int 0, .ref a12, .int 0, .int 0, .null, .int 0, .int 0, .int 0, .int 0, .ref a13, .ref a14, .ref a15, .int (-1), .int 0, .int 0, .int 0, .int 0, .int 0, .int 0, .int 0, .ref a16, .int 0, .ref a17, .int 0, .ref a18, .ref a19, .int 0, .int 0, .int 0, .int 0, .ref a20, .ref a21, .ref a22, .ref a23, .ref a24, .ref a25, .ref a26, .ref a27, .ref a28, .int 0, .ref a29, .ref a30, .ref a31, .long 0, .int 0, .int 0, .int 0, .long 0, .int 0, .ref a32, .int 0, .int 0, .int 0, .int 0, .ref a33, .ref a34, .ref a35])), (a34, .inl (y 2, 2, .inl nz)), (a35, .inl (y 0, 2, .inl nz)), (a7, .inl (y 0, 9, .inl nz)), (a33, .inl (y 0, 104, .inl nz)), (a8, .inl (y 0, 9, .inl nz)), (a1, .inl (y 0, 9, .inl nz)), (a9, .inl (y 0, 9, .inl nz)), (a6, .inl (y 0, 9, .inl nz)), (a10, .inl (y 0, 4, .inl (upd nz 2 99)))] sz)) 0 0 (va_A [(a0, .inr (12, [.int 0, .ref a1, .ref a2, .ref a3, .ref a4, .ref a5, .ref a6, .ref a7, .int 0, .ref a8, .int 0, .ref a9, .ref a10, .int 1, .ref a11, .int 0, .ref a12, .int 0, .int 0, .null, .int 0, .int 0, .int 0, .int 0, .ref a13, .ref a14, .ref a15, .int (-1), .int 0, .int 0, .int 0, .int 0, .int 0, .int 0, .int 0, .ref a16, .int 0, .ref a17, .int 0, .ref a18, .ref a19, .int 0, .int 0, .int 0, .int 0, .ref a20, .ref a21, .ref a22, .ref a23, .ref a24, .ref a25, .ref a26, .ref a27, .ref a28, .int 0, .ref a29, .ref a30, .ref a31, .long 0, .int 0, .int 0, .int 0, .long 0, .int 0, .ref a32, .int 0, .int 0, .int 0, .int 0, .ref a33, .ref a34, .ref a35])), (a34, .inl (y 2, 2, .inl nz)), (a35, .inl (y 0, 2, .inl nz)), (a7, .inl (y 0, 9, .inl nz)), (a33, .inl (y 0, 104, .inl nz)), (a8, .inl (y 0, 9, .inl nz)), (a1, .inl (y 0, 9, .inl nz)), (a9, .inl (y 0, 9, .inl nz)), (a6, .inl (y 0, 9, .inl nz)), (a10, .inl (y 0, 4, .inl (upd nz 2 99)))] sz) := by
  refine nm_ofW (D := D) (y := y) (E := nT) (yy := yX12_keep) (wsy := wsX12_keep) (rm := { frames := 3, cells := 0, slots := 0, locals := 225 }) (as := [.ref a0, .int 1]) (ws := [(a0, .inr (12, [.int 0, .ref a1, .ref a2, .ref a3, .ref a4, .ref a5, .ref a6, .ref a7, .int 0, .ref a8, .int 0, .ref a9, .ref a10, .int 1, .ref a11, .int 0, .ref a12, .int 0, .int 0, .null, .int 0, .int 0, .int 0, .int 0, .ref a13, .ref a14, .ref a15, .int (-1), .int 0, .int 0, .int 0, .int 0, .int 0, .int 0, .int 0, .ref a16, .int 0, .ref a17, .int 0, .ref a18, .ref a19, .int 0, .int 0, .int 0, .int 0, .ref a20, .ref a21, .ref a22, .ref a23, .ref a24, .ref a25, .ref a26, .ref a27, .ref a28, .int 0, .ref a29, .ref a30, .ref a31, .long 0, .int 0, .int 0, .int 0, .long 0, .int 0, .ref a32, .int 0, .int 0, .int 0, .int 0, .ref a33, .ref a34, .ref a35])), (a34, .inl (y 2, 2, .inl nz)), (a35, .inl (y 0, 2, .inl nz)), (a7, .inl (y 0, 9, .inl nz)), (a33, .inl (y 0, 104, .inl nz)), (a8, .inl (y 0, 9, .inl nz)), (a1, .inl (y 0, 9, .inl nz)), (a9, .inl (y 0, 9, .inl nz)), (a6, .inl (y 0, 9, .inl nz)), (a10, .inl (y 0, 4, .inl (upd nz 2 99)))]) (sz := sz) (mc := 0) (ms := 0) (Qc := fun A => nQi D y (fun r _ => r = 1) (fun u => [(a0, .inr (12, [.int 0, .ref a1, .ref a2, .ref a3, .ref a4, .ref a5, .ref a6, .ref a7, .int 0, .ref a8, .int 0, .ref a9, .ref a10, .int 1, .ref a11, .int 0, .ref a12, .int 0, .int 0, .null, .int 0, .int 0, .int 0, .int 0, .ref a13, .ref a14, .ref a15, .int (-1), .int 0, .int 0, .int 0, .int 0, .int 0, .int 0, .int 0, .ref a16, .int 0, .ref a17, .int 0, .ref a18, .ref a19, .int 0, .int 0, .int 0, .int 0, .ref a20, .ref a21, .ref a22, .ref a23, .ref a24, .ref a25, .ref a26, .ref a27, .ref a28, .int 0, .ref a29, .ref a30, .ref a31, .long 0, .int 0, .int 0, .int 0, .long 0, .int 0, .ref a32, .int 0, .int 0, .int 0, .int 0, .ref a33, .ref a34, .ref a35])), (a34, .inl (y 2, 2, .inl (upd nz 1 1))), (a35, .inl (y 0, 2, .inl nz)), (a7, .inl (y 0, 9, .inl nz)), (a33, .inl (y 0, 104, .inl (upd (upd nz 99 1) 102 99))), (a8, .inl (y 0, 9, .inl nz)), (a1, .inl (y 0, 9, .inl nz)), (a9, .inl (y 0, 9, .inl nz)), (a6, .inl (y 0, 9, .inl nz)), (a10, .inl (y 0, 4, .inl (upd nz 2 99)))]) A) (cc := cX12_keep) (maxL := 4) (ret := (some .boolean)) (by decide +kernel) rfl (Nat.le_of_ble_eq_true rfl) ?_
  intro p e s m below meth c A ls H hx hb hr hml hts hown hlocks hnm hsz hP hK hD hA hS hE hAe hl
  replace hl : lv_has ls 4 [(0, .ref a0), (1, .int 1)] := hl
  have hown : s.vm.findClass RX12 = some m.cls := hown
  have w_0 := hts (.fieldLink RX12 127 "SoldToBehindModel" "thrown" "I") (by decide +kernel)
  have w_1 := hts (.fieldLink RX12 121 "SoldToBehindModel" "isKept" "[Z") (by decide +kernel)
  have w_2 := hts (.fieldLink RX12 124 "SoldToBehindModel" "keptTold" "[I") (by decide +kernel)
  have w_3 := hts (.fieldLink RX12 204 "SoldToBehindModel" "peopleTold" "I") (by decide +kernel)
  have w_4 := hts (.fieldLink RX12 118 "SoldToBehindModel" "kept" "[I") (by decide +kernel)
  have w_5 := hts (.fieldLink RX12 29 "SoldToBehindModel" "line" "[I") (by decide +kernel)
  have w_6 := hts (.fieldLink RX12 32 "SoldToBehindModel" "came" "[I") (by decide +kernel)
  have w_7 := hts (.fieldLink RX12 9 "SoldToBehindModel" "purse" "[I") (by decide +kernel)
  have w_8 := hts (.fieldLink RX12 35 "SoldToBehindModel" "camePurse" "[I") (by decide +kernel)
  have w_9 := hts (.fieldLink RX12 26 "SoldToBehindModel" "sold" "[I") (by decide +kernel)
  have w_10 := hts (.fieldLink RX12 140 "SoldToBehindModel" "many" "I") (by decide +kernel)
  have w_11 := hts (.fieldLink RX12 210 "SoldToBehindModel" "cameMany" "I") (by decide +kernel)
  have w_12 := hts (.fieldLink RX12 41 "SoldToBehindModel" "random" "I") (by decide +kernel)
  have w_13 := hts (.fieldLink RX12 38 "SoldToBehindModel" "laws" "[I") (by decide +kernel)
  refine lv_aload_n hx hb dX12_keep_0 rfl (lv_at hl 0 rfl) ?_
  refine lv_iconst (v := 0) hx hb dX12_keep_1 (by decide +kernel) ?_
  refine nb_put (D := D) (ci := 12) (v := .int 0) (ty := .int) (C := RX12) (T := TX12) (N := 72) (ws' := [(a0, .inr (12, [.int 0, .ref a1, .ref a2, .ref a3, .ref a4, .ref a5, .ref a6, .ref a7, .int 0, .ref a8, .int 0, .ref a9, .ref a10, .int 1, .ref a11, .int 0, .ref a12, .int 0, .int 0, .null, .int 0, .int 0, .int 0, .int 0, .ref a13, .ref a14, .ref a15, .int (-1), .int 0, .int 0, .int 0, .int 0, .int 0, .int 0, .int 0, .ref a16, .int 0, .ref a17, .int 0, .ref a18, .ref a19, .int 0, .int 0, .int 0, .int 0, .ref a20, .ref a21, .ref a22, .ref a23, .ref a24, .ref a25, .ref a26, .ref a27, .ref a28, .int 0, .ref a29, .ref a30, .ref a31, .long 0, .int 0, .int 0, .int 0, .long 0, .int 0, .ref a32, .int 0, .int 0, .int 0, .int 0, .ref a33, .ref a34, .ref a35])), (a34, .inl (y 2, 2, .inl nz)), (a35, .inl (y 0, 2, .inl nz)), (a7, .inl (y 0, 9, .inl nz)), (a33, .inl (y 0, 104, .inl nz)), (a8, .inl (y 0, 9, .inl nz)), (a1, .inl (y 0, 9, .inl nz)), (a9, .inl (y 0, 9, .inl nz)), (a6, .inl (y 0, 9, .inl nz)), (a10, .inl (y 0, 4, .inl (upd nz 2 99)))]) hx hb hts iX12_keep_X12 tyX12 tyX12_ok nmX12 hown hK hP hD hS 0 rfl rfl 18 (by decide +kernel) w_0 (fun _ h9 => h9) rfl (by decide +kernel) rfl rfl (Nat.le_of_ble_eq_true rfl) rfl dX12_keep_2 (fun H locs hP hD hS => ?_)
  refine lv_iload_n hx hb dX12_keep_5 rfl (lv_at hl 1 rfl) ?_
  refine lv_i2l (v := 1) hx hb dX12_keep_6 (by decide +kernel) ?_
  refine lv_lconst (v := 0) hx hb dX12_keep_7 (by decide +kernel) ?_
  refine lv_lconst (v := 1) hx hb dX12_keep_8 (by decide +kernel) ?_
  refine nj_i (ws := [(a0, .inr (12, [.int 0, .ref a1, .ref a2, .ref a3, .ref a4, .ref a5, .ref a6, .ref a7, .int 0, .ref a8, .int 0, .ref a9, .ref a10, .int 1, .ref a11, .int 0, .ref a12, .int 0, .int 0, .null, .int 0, .int 0, .int 0, .int 0, .ref a13, .ref a14, .ref a15, .int (-1), .int 0, .int 0, .int 0, .int 0, .int 0, .int 0, .int 0, .ref a16, .int 0, .ref a17, .int 0, .ref a18, .ref a19, .int 0, .int 0, .int 0, .int 0, .ref a20, .ref a21, .ref a22, .ref a23, .ref a24, .ref a25, .ref a26, .ref a27, .ref a28, .int 0, .ref a29, .ref a30, .ref a31, .long 0, .int 0, .int 0, .int 0, .long 0, .int 0, .ref a32, .int 0, .int 0, .int 0, .int 0, .ref a33, .ref a34, .ref a35])), (a34, .inl (y 2, 2, .inl nz)), (a35, .inl (y 0, 2, .inl nz)), (a7, .inl (y 0, 9, .inl nz)), (a33, .inl (y 0, 104, .inl nz)), (a8, .inl (y 0, 9, .inl nz)), (a1, .inl (y 0, 9, .inl nz)), (a9, .inl (y 0, 9, .inl nz)), (a6, .inl (y 0, 9, .inl nz)), (a10, .inl (y 0, 4, .inl (upd nz 2 99)))]) (wc := []) (wr := [(a0, .inr (12, [.int 0, .ref a1, .ref a2, .ref a3, .ref a4, .ref a5, .ref a6, .ref a7, .int 0, .ref a8, .int 0, .ref a9, .ref a10, .int 1, .ref a11, .int 0, .ref a12, .int 0, .int 0, .null, .int 0, .int 0, .int 0, .int 0, .ref a13, .ref a14, .ref a15, .int (-1), .int 0, .int 0, .int 0, .int 0, .int 0, .int 0, .int 0, .ref a16, .int 0, .ref a17, .int 0, .ref a18, .ref a19, .int 0, .int 0, .int 0, .int 0, .ref a20, .ref a21, .ref a22, .ref a23, .ref a24, .ref a25, .ref a26, .ref a27, .ref a28, .int 0, .ref a29, .ref a30, .ref a31, .long 0, .int 0, .int 0, .int 0, .long 0, .int 0, .ref a32, .int 0, .int 0, .int 0, .int 0, .ref a33, .ref a34, .ref a35])), (a34, .inl (y 2, 2, .inl nz)), (a35, .inl (y 0, 2, .inl nz)), (a7, .inl (y 0, 9, .inl nz)), (a33, .inl (y 0, 104, .inl nz)), (a8, .inl (y 0, 9, .inl nz)), (a1, .inl (y 0, 9, .inl nz)), (a9, .inl (y 0, 9, .inl nz)), (a6, .inl (y 0, 9, .inl nz)), (a10, .inl (y 0, 4, .inl (upd nz 2 99)))]) (nr_S (As := [.long 1, .long 0, .long 1]) (rest := []) ⟨hx, hb, hml, hown, hts⟩ (cX12_in_42 l D y  H.size) (va_cwS 3 hts gX12_keep_X12_in rfl rfl rfl (by decide +kernel) ⟨Nat.le_of_ble_eq_true rfl, Nat.le_of_ble_eq_true rfl⟩) hK hP hD hE [] rfl (by decide +kernel) rfl rfl hl.1 rfl (lv_room (Nat.le_of_ble_eq_true rfl)) dX12_keep_9 ⟨Nat.le_of_ble_eq_true rfl, Nat.le_of_ble_eq_true rfl⟩) hP hD hS hA [] [0, 1, 2, 3, 4, 5, 6, 7, 8, 9] rfl rfl (by decide +kernel) (by decide +kernel) (fun r2 u1 H locs er2 hP hD hS => ?_)
  replace hP : va_P D vwCl [(a0, .inr (12, [.int 0, .ref a1, .ref a2, .ref a3, .ref a4, .ref a5, .ref a6, .ref a7, .int 0, .ref a8, .int 0, .ref a9, .ref a10, .int 1, .ref a11, .int 0, .ref a12, .int 0, .int 0, .null, .int 0, .int 0, .int 0, .int 0, .ref a13, .ref a14, .ref a15, .int (-1), .int 0, .int 0, .int 0, .int 0, .int 0, .int 0, .int 0, .ref a16, .int 0, .ref a17, .int 0, .ref a18, .ref a19, .int 0, .int 0, .int 0, .int 0, .ref a20, .ref a21, .ref a22, .ref a23, .ref a24, .ref a25, .ref a26, .ref a27, .ref a28, .int 0, .ref a29, .ref a30, .ref a31, .long 0, .int 0, .int 0, .int 0, .long 0, .int 0, .ref a32, .int 0, .int 0, .int 0, .int 0, .ref a33, .ref a34, .ref a35])), (a34, .inl (y 2, 2, .inl nz)), (a35, .inl (y 0, 2, .inl nz)), (a7, .inl (y 0, 9, .inl nz)), (a33, .inl (y 0, 104, .inl nz)), (a8, .inl (y 0, 9, .inl nz)), (a1, .inl (y 0, 9, .inl nz)), (a9, .inl (y 0, 9, .inl nz)), (a6, .inl (y 0, 9, .inl nz)), (a10, .inl (y 0, 4, .inl (upd nz 2 99)))] H := hP
  replace hD : va_D A [(a0, .inr (12, [.int 0, .ref a1, .ref a2, .ref a3, .ref a4, .ref a5, .ref a6, .ref a7, .int 0, .ref a8, .int 0, .ref a9, .ref a10, .int 1, .ref a11, .int 0, .ref a12, .int 0, .int 0, .null, .int 0, .int 0, .int 0, .int 0, .ref a13, .ref a14, .ref a15, .int (-1), .int 0, .int 0, .int 0, .int 0, .int 0, .int 0, .int 0, .ref a16, .int 0, .ref a17, .int 0, .ref a18, .ref a19, .int 0, .int 0, .int 0, .int 0, .ref a20, .ref a21, .ref a22, .ref a23, .ref a24, .ref a25, .ref a26, .ref a27, .ref a28, .int 0, .ref a29, .ref a30, .ref a31, .long 0, .int 0, .int 0, .int 0, .long 0, .int 0, .ref a32, .int 0, .int 0, .int 0, .int 0, .ref a33, .ref a34, .ref a35])), (a34, .inl (y 2, 2, .inl nz)), (a35, .inl (y 0, 2, .inl nz)), (a7, .inl (y 0, 9, .inl nz)), (a33, .inl (y 0, 104, .inl nz)), (a8, .inl (y 0, 9, .inl nz)), (a1, .inl (y 0, 9, .inl nz)), (a9, .inl (y 0, 9, .inl nz)), (a6, .inl (y 0, 9, .inl nz)), (a10, .inl (y 0, 4, .inl (upd nz 2 99)))] := hD
  subst er2
  refine lv_if_ne (tgt := 17) hx hb dX12_keep_12 (by decide +kernel) (fun _ => ?_) (fun c => absurd c (by decide +kernel))
  refine lv_aload_n hx hb dX12_keep_17 rfl (lv_at hl 0 rfl) ?_
  refine va_get (D := D) (ci := 12) (v := .ref a34) (C := RX12) (T := TX12) (N := 72) hx hb hts iX12_keep_X12 hown hK hP 0 rfl rfl 70 (by decide +kernel) w_1 (fun _ h9 => h9) rfl dX12_keep_18 ?_
  refine lv_iload_n hx hb dX12_keep_21 rfl (lv_at hl 1 rfl) ?_
  refine lv_iconst (v := 1) hx hb dX12_keep_22 (by decide +kernel) ?_
  refine nb_zast (ws' := [(a0, .inr (12, [.int 0, .ref a1, .ref a2, .ref a3, .ref a4, .ref a5, .ref a6, .ref a7, .int 0, .ref a8, .int 0, .ref a9, .ref a10, .int 1, .ref a11, .int 0, .ref a12, .int 0, .int 0, .null, .int 0, .int 0, .int 0, .int 0, .ref a13, .ref a14, .ref a15, .int (-1), .int 0, .int 0, .int 0, .int 0, .int 0, .int 0, .int 0, .ref a16, .int 0, .ref a17, .int 0, .ref a18, .ref a19, .int 0, .int 0, .int 0, .int 0, .ref a20, .ref a21, .ref a22, .ref a23, .ref a24, .ref a25, .ref a26, .ref a27, .ref a28, .int 0, .ref a29, .ref a30, .ref a31, .long 0, .int 0, .int 0, .int 0, .long 0, .int 0, .ref a32, .int 0, .int 0, .int 0, .int 0, .ref a33, .ref a34, .ref a35])), (a34, .inl (y 2, 2, .inl (upd nz 1 1))), (a35, .inl (y 0, 2, .inl nz)), (a7, .inl (y 0, 9, .inl nz)), (a33, .inl (y 0, 104, .inl nz)), (a8, .inl (y 0, 9, .inl nz)), (a1, .inl (y 0, 9, .inl nz)), (a9, .inl (y 0, 9, .inl nz)), (a6, .inl (y 0, 9, .inl nz)), (a10, .inl (y 0, 4, .inl (upd nz 2 99)))]) hx hb hK hP hD hS 1 2 rfl rfl (n_in (by decide +kernel)) (by rw [show vp_nar .boolean 1 = 1 by decide]; rfl) dX12_keep_23 (fun H locs hP hD hS => ?_)
  refine lv_aload_n hx hb dX12_keep_24 rfl (lv_at hl 0 rfl) ?_
  refine va_get (D := D) (ci := 12) (v := .ref a35) (C := RX12) (T := TX12) (N := 72) hx hb hts iX12_keep_X12 hown hK hP 0 rfl rfl 71 (by decide +kernel) w_2 (fun _ h9 => h9) rfl dX12_keep_25 ?_
  refine lv_iload_n hx hb dX12_keep_28 rfl (lv_at hl 1 rfl) ?_
  refine lv_aload_n hx hb dX12_keep_29 rfl (lv_at hl 0 rfl) ?_
  refine va_get (D := D) (ci := 12) (v := .int 0) (C := RX12) (T := TX12) (N := 72) hx hb hts iX12_keep_X12 hown hK hP 0 rfl rfl 68 (by decide +kernel) w_3 (fun _ h9 => h9) rfl dX12_keep_30 ?_
  refine nb_iast (ws' := [(a0, .inr (12, [.int 0, .ref a1, .ref a2, .ref a3, .ref a4, .ref a5, .ref a6, .ref a7, .int 0, .ref a8, .int 0, .ref a9, .ref a10, .int 1, .ref a11, .int 0, .ref a12, .int 0, .int 0, .null, .int 0, .int 0, .int 0, .int 0, .ref a13, .ref a14, .ref a15, .int (-1), .int 0, .int 0, .int 0, .int 0, .int 0, .int 0, .int 0, .ref a16, .int 0, .ref a17, .int 0, .ref a18, .ref a19, .int 0, .int 0, .int 0, .int 0, .ref a20, .ref a21, .ref a22, .ref a23, .ref a24, .ref a25, .ref a26, .ref a27, .ref a28, .int 0, .ref a29, .ref a30, .ref a31, .long 0, .int 0, .int 0, .int 0, .long 0, .int 0, .ref a32, .int 0, .int 0, .int 0, .int 0, .ref a33, .ref a34, .ref a35])), (a34, .inl (y 2, 2, .inl (upd nz 1 1))), (a35, .inl (y 0, 2, .inl nz)), (a7, .inl (y 0, 9, .inl nz)), (a33, .inl (y 0, 104, .inl nz)), (a8, .inl (y 0, 9, .inl nz)), (a1, .inl (y 0, 9, .inl nz)), (a9, .inl (y 0, 9, .inl nz)), (a6, .inl (y 0, 9, .inl nz)), (a10, .inl (y 0, 4, .inl (upd nz 2 99)))]) hx hb hK hP hD hS 2 0 rfl rfl (n_in (by decide +kernel)) (by rw [nb_upI (f := nz) (i := Int32.toNatClampNeg 1) (x := 0) rfl]; rfl) dX12_keep_33 (fun H locs hP hD hS => ?_)
  refine lv_bipush (v := 52) hx hb dX12_keep_34 (by decide +kernel) ?_
  refine lv_iload_n hx hb dX12_keep_36 rfl (lv_at hl 1 rfl) ?_
  refine lv_imul hx hb dX12_keep_37 ?_
  refine nv_i (v := 52) (by decide +kernel) ?_
  refine lv_istore_n (lv' := [(2, .int 52), (0, .ref a0), (1, .int 1)]) hx hb dX12_keep_38 rfl hl (by decide +kernel) rfl (fun ls hl => ?_)
  refine lv_iconst (v := 0) hx hb dX12_keep_39 (by decide +kernel) ?_
  refine lv_istore_n (lv' := [(3, .int 0), (2, .int 52), (0, .ref a0), (1, .int 1)]) hx hb dX12_keep_40 rfl hl (by decide +kernel) rfl (fun ls hl => ?_)
  refine lv_iload_n hx hb dX12_keep_41 rfl (lv_at hl 0 rfl) ?_
  refine lv_bipush (v := 9) hx hb dX12_keep_42 (by decide +kernel) ?_
  refine lv_icmp_ge (tgt := 141) hx hb dX12_keep_44 (by decide +kernel) (fun c => absurd c (by decide +kernel)) (fun _ => ?_)
  refine lv_aload_n hx hb dX12_keep_47 rfl (lv_at hl 2 rfl) ?_
  refine va_get (D := D) (ci := 12) (v := .ref a33) (C := RX12) (T := TX12) (N := 72) hx hb hts iX12_keep_X12 hown hK hP 0 rfl rfl 69 (by decide +kernel) w_4 (fun _ h9 => h9) rfl dX12_keep_48 ?_
  refine lv_iload_n hx hb dX12_keep_51 rfl (lv_at hl 1 rfl) ?_
  refine lv_iconst (v := 5) hx hb dX12_keep_52 (by decide +kernel) ?_
  refine lv_iload_n hx hb dX12_keep_53 rfl (lv_at hl 0 rfl) ?_
  refine lv_imul hx hb dX12_keep_54 ?_
  refine nv_i (v := 0) (by decide +kernel) ?_
  refine lv_iadd hx hb dX12_keep_55 ?_
  refine nv_i (v := 52) (by decide +kernel) ?_
  refine lv_aload_n hx hb dX12_keep_56 rfl (lv_at hl 2 rfl) ?_
  refine va_get (D := D) (ci := 12) (v := .ref a7) (C := RX12) (T := TX12) (N := 72) hx hb hts iX12_keep_X12 hown hK hP 0 rfl rfl 7 (by decide +kernel) w_5 (fun _ h9 => h9) rfl dX12_keep_57 ?_
  refine lv_iload_n hx hb dX12_keep_60 rfl (lv_at hl 0 rfl) ?_
  refine va_iald hx hb hK hP 3 0 rfl rfl (n_in (by decide +kernel)) dX12_keep_61 ?_
  refine nv_i (v := 0) rfl ?_
  refine nb_iast (ws' := [(a0, .inr (12, [.int 0, .ref a1, .ref a2, .ref a3, .ref a4, .ref a5, .ref a6, .ref a7, .int 0, .ref a8, .int 0, .ref a9, .ref a10, .int 1, .ref a11, .int 0, .ref a12, .int 0, .int 0, .null, .int 0, .int 0, .int 0, .int 0, .ref a13, .ref a14, .ref a15, .int (-1), .int 0, .int 0, .int 0, .int 0, .int 0, .int 0, .int 0, .ref a16, .int 0, .ref a17, .int 0, .ref a18, .ref a19, .int 0, .int 0, .int 0, .int 0, .ref a20, .ref a21, .ref a22, .ref a23, .ref a24, .ref a25, .ref a26, .ref a27, .ref a28, .int 0, .ref a29, .ref a30, .ref a31, .long 0, .int 0, .int 0, .int 0, .long 0, .int 0, .ref a32, .int 0, .int 0, .int 0, .int 0, .ref a33, .ref a34, .ref a35])), (a34, .inl (y 2, 2, .inl (upd nz 1 1))), (a35, .inl (y 0, 2, .inl nz)), (a7, .inl (y 0, 9, .inl nz)), (a33, .inl (y 0, 104, .inl nz)), (a8, .inl (y 0, 9, .inl nz)), (a1, .inl (y 0, 9, .inl nz)), (a9, .inl (y 0, 9, .inl nz)), (a6, .inl (y 0, 9, .inl nz)), (a10, .inl (y 0, 4, .inl (upd nz 2 99)))]) hx hb hK hP hD hS 4 0 rfl rfl (n_in (by decide +kernel)) (by rw [nb_upI (f := nz) (i := Int32.toNatClampNeg 52) (x := 0) rfl]; rfl) dX12_keep_62 (fun H locs hP hD hS => ?_)
  refine lv_aload_n hx hb dX12_keep_63 rfl (lv_at hl 2 rfl) ?_
  refine va_get (D := D) (ci := 12) (v := .ref a33) (C := RX12) (T := TX12) (N := 72) hx hb hts iX12_keep_X12 hown hK hP 0 rfl rfl 69 (by decide +kernel) w_4 (fun _ h9 => h9) rfl dX12_keep_64 ?_
  refine lv_iload_n hx hb dX12_keep_67 rfl (lv_at hl 1 rfl) ?_
  refine lv_iconst (v := 5) hx hb dX12_keep_68 (by decide +kernel) ?_
  refine lv_iload_n hx hb dX12_keep_69 rfl (lv_at hl 0 rfl) ?_
  refine lv_imul hx hb dX12_keep_70 ?_
  refine nv_i (v := 0) (by decide +kernel) ?_
  refine lv_iadd hx hb dX12_keep_71 ?_
  refine nv_i (v := 52) (by decide +kernel) ?_
  refine lv_iconst (v := 1) hx hb dX12_keep_72 (by decide +kernel) ?_
  refine lv_iadd hx hb dX12_keep_73 ?_
  refine nv_i (v := 53) (by decide +kernel) ?_
  refine lv_aload_n hx hb dX12_keep_74 rfl (lv_at hl 2 rfl) ?_
  refine va_get (D := D) (ci := 12) (v := .ref a8) (C := RX12) (T := TX12) (N := 72) hx hb hts iX12_keep_X12 hown hK hP 0 rfl rfl 9 (by decide +kernel) w_6 (fun _ h9 => h9) rfl dX12_keep_75 ?_
  refine lv_iload_n hx hb dX12_keep_78 rfl (lv_at hl 0 rfl) ?_
  refine va_iald hx hb hK hP 5 0 rfl rfl (n_in (by decide +kernel)) dX12_keep_79 ?_
  refine nv_i (v := 0) rfl ?_
  refine nb_iast (ws' := [(a0, .inr (12, [.int 0, .ref a1, .ref a2, .ref a3, .ref a4, .ref a5, .ref a6, .ref a7, .int 0, .ref a8, .int 0, .ref a9, .ref a10, .int 1, .ref a11, .int 0, .ref a12, .int 0, .int 0, .null, .int 0, .int 0, .int 0, .int 0, .ref a13, .ref a14, .ref a15, .int (-1), .int 0, .int 0, .int 0, .int 0, .int 0, .int 0, .int 0, .ref a16, .int 0, .ref a17, .int 0, .ref a18, .ref a19, .int 0, .int 0, .int 0, .int 0, .ref a20, .ref a21, .ref a22, .ref a23, .ref a24, .ref a25, .ref a26, .ref a27, .ref a28, .int 0, .ref a29, .ref a30, .ref a31, .long 0, .int 0, .int 0, .int 0, .long 0, .int 0, .ref a32, .int 0, .int 0, .int 0, .int 0, .ref a33, .ref a34, .ref a35])), (a34, .inl (y 2, 2, .inl (upd nz 1 1))), (a35, .inl (y 0, 2, .inl nz)), (a7, .inl (y 0, 9, .inl nz)), (a33, .inl (y 0, 104, .inl nz)), (a8, .inl (y 0, 9, .inl nz)), (a1, .inl (y 0, 9, .inl nz)), (a9, .inl (y 0, 9, .inl nz)), (a6, .inl (y 0, 9, .inl nz)), (a10, .inl (y 0, 4, .inl (upd nz 2 99)))]) hx hb hK hP hD hS 4 0 rfl rfl (n_in (by decide +kernel)) (by rw [nb_upI (f := nz) (i := Int32.toNatClampNeg 53) (x := 0) rfl]; rfl) dX12_keep_80 (fun H locs hP hD hS => ?_)
  refine lv_aload_n hx hb dX12_keep_81 rfl (lv_at hl 2 rfl) ?_
  refine va_get (D := D) (ci := 12) (v := .ref a33) (C := RX12) (T := TX12) (N := 72) hx hb hts iX12_keep_X12 hown hK hP 0 rfl rfl 69 (by decide +kernel) w_4 (fun _ h9 => h9) rfl dX12_keep_82 ?_
  refine lv_iload_n hx hb dX12_keep_85 rfl (lv_at hl 1 rfl) ?_
  refine lv_iconst (v := 5) hx hb dX12_keep_86 (by decide +kernel) ?_
  refine lv_iload_n hx hb dX12_keep_87 rfl (lv_at hl 0 rfl) ?_
  refine lv_imul hx hb dX12_keep_88 ?_
  refine nv_i (v := 0) (by decide +kernel) ?_
  refine lv_iadd hx hb dX12_keep_89 ?_
  refine nv_i (v := 52) (by decide +kernel) ?_
  refine lv_iconst (v := 2) hx hb dX12_keep_90 (by decide +kernel) ?_
  refine lv_iadd hx hb dX12_keep_91 ?_
  refine nv_i (v := 54) (by decide +kernel) ?_
  refine lv_aload_n hx hb dX12_keep_92 rfl (lv_at hl 2 rfl) ?_
  refine va_get (D := D) (ci := 12) (v := .ref a1) (C := RX12) (T := TX12) (N := 72) hx hb hts iX12_keep_X12 hown hK hP 0 rfl rfl 1 (by decide +kernel) w_7 (fun _ h9 => h9) rfl dX12_keep_93 ?_
  refine lv_iload_n hx hb dX12_keep_96 rfl (lv_at hl 0 rfl) ?_
  refine va_iald hx hb hK hP 6 0 rfl rfl (n_in (by decide +kernel)) dX12_keep_97 ?_
  refine nv_i (v := 0) rfl ?_
  refine nb_iast (ws' := [(a0, .inr (12, [.int 0, .ref a1, .ref a2, .ref a3, .ref a4, .ref a5, .ref a6, .ref a7, .int 0, .ref a8, .int 0, .ref a9, .ref a10, .int 1, .ref a11, .int 0, .ref a12, .int 0, .int 0, .null, .int 0, .int 0, .int 0, .int 0, .ref a13, .ref a14, .ref a15, .int (-1), .int 0, .int 0, .int 0, .int 0, .int 0, .int 0, .int 0, .ref a16, .int 0, .ref a17, .int 0, .ref a18, .ref a19, .int 0, .int 0, .int 0, .int 0, .ref a20, .ref a21, .ref a22, .ref a23, .ref a24, .ref a25, .ref a26, .ref a27, .ref a28, .int 0, .ref a29, .ref a30, .ref a31, .long 0, .int 0, .int 0, .int 0, .long 0, .int 0, .ref a32, .int 0, .int 0, .int 0, .int 0, .ref a33, .ref a34, .ref a35])), (a34, .inl (y 2, 2, .inl (upd nz 1 1))), (a35, .inl (y 0, 2, .inl nz)), (a7, .inl (y 0, 9, .inl nz)), (a33, .inl (y 0, 104, .inl nz)), (a8, .inl (y 0, 9, .inl nz)), (a1, .inl (y 0, 9, .inl nz)), (a9, .inl (y 0, 9, .inl nz)), (a6, .inl (y 0, 9, .inl nz)), (a10, .inl (y 0, 4, .inl (upd nz 2 99)))]) hx hb hK hP hD hS 4 0 rfl rfl (n_in (by decide +kernel)) (by rw [nb_upI (f := nz) (i := Int32.toNatClampNeg 54) (x := 0) rfl]; rfl) dX12_keep_98 (fun H locs hP hD hS => ?_)
  refine lv_aload_n hx hb dX12_keep_99 rfl (lv_at hl 2 rfl) ?_
  refine va_get (D := D) (ci := 12) (v := .ref a33) (C := RX12) (T := TX12) (N := 72) hx hb hts iX12_keep_X12 hown hK hP 0 rfl rfl 69 (by decide +kernel) w_4 (fun _ h9 => h9) rfl dX12_keep_100 ?_
  refine lv_iload_n hx hb dX12_keep_103 rfl (lv_at hl 1 rfl) ?_
  refine lv_iconst (v := 5) hx hb dX12_keep_104 (by decide +kernel) ?_
  refine lv_iload_n hx hb dX12_keep_105 rfl (lv_at hl 0 rfl) ?_
  refine lv_imul hx hb dX12_keep_106 ?_
  refine nv_i (v := 0) (by decide +kernel) ?_
  refine lv_iadd hx hb dX12_keep_107 ?_
  refine nv_i (v := 52) (by decide +kernel) ?_
  refine lv_iconst (v := 3) hx hb dX12_keep_108 (by decide +kernel) ?_
  refine lv_iadd hx hb dX12_keep_109 ?_
  refine nv_i (v := 55) (by decide +kernel) ?_
  refine lv_aload_n hx hb dX12_keep_110 rfl (lv_at hl 2 rfl) ?_
  refine va_get (D := D) (ci := 12) (v := .ref a9) (C := RX12) (T := TX12) (N := 72) hx hb hts iX12_keep_X12 hown hK hP 0 rfl rfl 11 (by decide +kernel) w_8 (fun _ h9 => h9) rfl dX12_keep_111 ?_
  refine lv_iload_n hx hb dX12_keep_114 rfl (lv_at hl 0 rfl) ?_
  refine va_iald hx hb hK hP 7 0 rfl rfl (n_in (by decide +kernel)) dX12_keep_115 ?_
  refine nv_i (v := 0) rfl ?_
  refine nb_iast (ws' := [(a0, .inr (12, [.int 0, .ref a1, .ref a2, .ref a3, .ref a4, .ref a5, .ref a6, .ref a7, .int 0, .ref a8, .int 0, .ref a9, .ref a10, .int 1, .ref a11, .int 0, .ref a12, .int 0, .int 0, .null, .int 0, .int 0, .int 0, .int 0, .ref a13, .ref a14, .ref a15, .int (-1), .int 0, .int 0, .int 0, .int 0, .int 0, .int 0, .int 0, .ref a16, .int 0, .ref a17, .int 0, .ref a18, .ref a19, .int 0, .int 0, .int 0, .int 0, .ref a20, .ref a21, .ref a22, .ref a23, .ref a24, .ref a25, .ref a26, .ref a27, .ref a28, .int 0, .ref a29, .ref a30, .ref a31, .long 0, .int 0, .int 0, .int 0, .long 0, .int 0, .ref a32, .int 0, .int 0, .int 0, .int 0, .ref a33, .ref a34, .ref a35])), (a34, .inl (y 2, 2, .inl (upd nz 1 1))), (a35, .inl (y 0, 2, .inl nz)), (a7, .inl (y 0, 9, .inl nz)), (a33, .inl (y 0, 104, .inl nz)), (a8, .inl (y 0, 9, .inl nz)), (a1, .inl (y 0, 9, .inl nz)), (a9, .inl (y 0, 9, .inl nz)), (a6, .inl (y 0, 9, .inl nz)), (a10, .inl (y 0, 4, .inl (upd nz 2 99)))]) hx hb hK hP hD hS 4 0 rfl rfl (n_in (by decide +kernel)) (by rw [nb_upI (f := nz) (i := Int32.toNatClampNeg 55) (x := 0) rfl]; rfl) dX12_keep_116 (fun H locs hP hD hS => ?_)
  refine lv_aload_n hx hb dX12_keep_117 rfl (lv_at hl 2 rfl) ?_
  refine va_get (D := D) (ci := 12) (v := .ref a33) (C := RX12) (T := TX12) (N := 72) hx hb hts iX12_keep_X12 hown hK hP 0 rfl rfl 69 (by decide +kernel) w_4 (fun _ h9 => h9) rfl dX12_keep_118 ?_
  refine lv_iload_n hx hb dX12_keep_121 rfl (lv_at hl 1 rfl) ?_
  refine lv_iconst (v := 5) hx hb dX12_keep_122 (by decide +kernel) ?_
  refine lv_iload_n hx hb dX12_keep_123 rfl (lv_at hl 0 rfl) ?_
  refine lv_imul hx hb dX12_keep_124 ?_
  refine nv_i (v := 0) (by decide +kernel) ?_
  refine lv_iadd hx hb dX12_keep_125 ?_
  refine nv_i (v := 52) (by decide +kernel) ?_
  refine lv_iconst (v := 4) hx hb dX12_keep_126 (by decide +kernel) ?_
  refine lv_iadd hx hb dX12_keep_127 ?_
  refine nv_i (v := 56) (by decide +kernel) ?_
  refine lv_aload_n hx hb dX12_keep_128 rfl (lv_at hl 2 rfl) ?_
  refine va_get (D := D) (ci := 12) (v := .ref a6) (C := RX12) (T := TX12) (N := 72) hx hb hts iX12_keep_X12 hown hK hP 0 rfl rfl 6 (by decide +kernel) w_9 (fun _ h9 => h9) rfl dX12_keep_129 ?_
  refine lv_iload_n hx hb dX12_keep_132 rfl (lv_at hl 0 rfl) ?_
  refine va_iald hx hb hK hP 8 0 rfl rfl (n_in (by decide +kernel)) dX12_keep_133 ?_
  refine nv_i (v := 0) rfl ?_
  refine nb_iast (ws' := [(a0, .inr (12, [.int 0, .ref a1, .ref a2, .ref a3, .ref a4, .ref a5, .ref a6, .ref a7, .int 0, .ref a8, .int 0, .ref a9, .ref a10, .int 1, .ref a11, .int 0, .ref a12, .int 0, .int 0, .null, .int 0, .int 0, .int 0, .int 0, .ref a13, .ref a14, .ref a15, .int (-1), .int 0, .int 0, .int 0, .int 0, .int 0, .int 0, .int 0, .ref a16, .int 0, .ref a17, .int 0, .ref a18, .ref a19, .int 0, .int 0, .int 0, .int 0, .ref a20, .ref a21, .ref a22, .ref a23, .ref a24, .ref a25, .ref a26, .ref a27, .ref a28, .int 0, .ref a29, .ref a30, .ref a31, .long 0, .int 0, .int 0, .int 0, .long 0, .int 0, .ref a32, .int 0, .int 0, .int 0, .int 0, .ref a33, .ref a34, .ref a35])), (a34, .inl (y 2, 2, .inl (upd nz 1 1))), (a35, .inl (y 0, 2, .inl nz)), (a7, .inl (y 0, 9, .inl nz)), (a33, .inl (y 0, 104, .inl nz)), (a8, .inl (y 0, 9, .inl nz)), (a1, .inl (y 0, 9, .inl nz)), (a9, .inl (y 0, 9, .inl nz)), (a6, .inl (y 0, 9, .inl nz)), (a10, .inl (y 0, 4, .inl (upd nz 2 99)))]) hx hb hK hP hD hS 4 0 rfl rfl (n_in (by decide +kernel)) (by rw [nb_upI (f := nz) (i := Int32.toNatClampNeg 56) (x := 0) rfl]; rfl) dX12_keep_134 (fun H locs hP hD hS => ?_)
  refine lv_iinc (v := 1) (lv' := [(3, .int 1), (2, .int 52), (0, .ref a0), (1, .int 1)]) hx hb dX12_keep_135 hl (k := 0) rfl (by decide +kernel) (by decide +kernel) rfl (fun ls hl => ?_)
  refine lv_goto (tgt := 41) hx hb dX12_keep_138 (by decide +kernel) ?_
  refine lv_iload_n hx hb dX12_keep_41 rfl (lv_at hl 0 rfl) ?_
  refine lv_bipush (v := 9) hx hb dX12_keep_42 (by decide +kernel) ?_
  refine lv_icmp_ge (tgt := 141) hx hb dX12_keep_44 (by decide +kernel) (fun c => absurd c (by decide +kernel)) (fun _ => ?_)
  refine lv_aload_n hx hb dX12_keep_47 rfl (lv_at hl 2 rfl) ?_
  refine va_get (D := D) (ci := 12) (v := .ref a33) (C := RX12) (T := TX12) (N := 72) hx hb hts iX12_keep_X12 hown hK hP 0 rfl rfl 69 (by decide +kernel) w_4 (fun _ h9 => h9) rfl dX12_keep_48 ?_
  refine lv_iload_n hx hb dX12_keep_51 rfl (lv_at hl 1 rfl) ?_
  refine lv_iconst (v := 5) hx hb dX12_keep_52 (by decide +kernel) ?_
  refine lv_iload_n hx hb dX12_keep_53 rfl (lv_at hl 0 rfl) ?_
  refine lv_imul hx hb dX12_keep_54 ?_
  refine nv_i (v := 5) (by decide +kernel) ?_
  refine lv_iadd hx hb dX12_keep_55 ?_
  refine nv_i (v := 57) (by decide +kernel) ?_
  refine lv_aload_n hx hb dX12_keep_56 rfl (lv_at hl 2 rfl) ?_
  refine va_get (D := D) (ci := 12) (v := .ref a7) (C := RX12) (T := TX12) (N := 72) hx hb hts iX12_keep_X12 hown hK hP 0 rfl rfl 7 (by decide +kernel) w_5 (fun _ h9 => h9) rfl dX12_keep_57 ?_
  refine lv_iload_n hx hb dX12_keep_60 rfl (lv_at hl 0 rfl) ?_
  refine va_iald hx hb hK hP 3 0 rfl rfl (n_in (by decide +kernel)) dX12_keep_61 ?_
  refine nv_i (v := 0) rfl ?_
  refine nb_iast (ws' := [(a0, .inr (12, [.int 0, .ref a1, .ref a2, .ref a3, .ref a4, .ref a5, .ref a6, .ref a7, .int 0, .ref a8, .int 0, .ref a9, .ref a10, .int 1, .ref a11, .int 0, .ref a12, .int 0, .int 0, .null, .int 0, .int 0, .int 0, .int 0, .ref a13, .ref a14, .ref a15, .int (-1), .int 0, .int 0, .int 0, .int 0, .int 0, .int 0, .int 0, .ref a16, .int 0, .ref a17, .int 0, .ref a18, .ref a19, .int 0, .int 0, .int 0, .int 0, .ref a20, .ref a21, .ref a22, .ref a23, .ref a24, .ref a25, .ref a26, .ref a27, .ref a28, .int 0, .ref a29, .ref a30, .ref a31, .long 0, .int 0, .int 0, .int 0, .long 0, .int 0, .ref a32, .int 0, .int 0, .int 0, .int 0, .ref a33, .ref a34, .ref a35])), (a34, .inl (y 2, 2, .inl (upd nz 1 1))), (a35, .inl (y 0, 2, .inl nz)), (a7, .inl (y 0, 9, .inl nz)), (a33, .inl (y 0, 104, .inl nz)), (a8, .inl (y 0, 9, .inl nz)), (a1, .inl (y 0, 9, .inl nz)), (a9, .inl (y 0, 9, .inl nz)), (a6, .inl (y 0, 9, .inl nz)), (a10, .inl (y 0, 4, .inl (upd nz 2 99)))]) hx hb hK hP hD hS 4 0 rfl rfl (n_in (by decide +kernel)) (by rw [nb_upI (f := nz) (i := Int32.toNatClampNeg 57) (x := 0) rfl]; rfl) dX12_keep_62 (fun H locs hP hD hS => ?_)
  refine lv_aload_n hx hb dX12_keep_63 rfl (lv_at hl 2 rfl) ?_
  refine va_get (D := D) (ci := 12) (v := .ref a33) (C := RX12) (T := TX12) (N := 72) hx hb hts iX12_keep_X12 hown hK hP 0 rfl rfl 69 (by decide +kernel) w_4 (fun _ h9 => h9) rfl dX12_keep_64 ?_
  refine lv_iload_n hx hb dX12_keep_67 rfl (lv_at hl 1 rfl) ?_
  refine lv_iconst (v := 5) hx hb dX12_keep_68 (by decide +kernel) ?_
  refine lv_iload_n hx hb dX12_keep_69 rfl (lv_at hl 0 rfl) ?_
  refine lv_imul hx hb dX12_keep_70 ?_
  refine nv_i (v := 5) (by decide +kernel) ?_
  refine lv_iadd hx hb dX12_keep_71 ?_
  refine nv_i (v := 57) (by decide +kernel) ?_
  refine lv_iconst (v := 1) hx hb dX12_keep_72 (by decide +kernel) ?_
  refine lv_iadd hx hb dX12_keep_73 ?_
  refine nv_i (v := 58) (by decide +kernel) ?_
  refine lv_aload_n hx hb dX12_keep_74 rfl (lv_at hl 2 rfl) ?_
  refine va_get (D := D) (ci := 12) (v := .ref a8) (C := RX12) (T := TX12) (N := 72) hx hb hts iX12_keep_X12 hown hK hP 0 rfl rfl 9 (by decide +kernel) w_6 (fun _ h9 => h9) rfl dX12_keep_75 ?_
  refine lv_iload_n hx hb dX12_keep_78 rfl (lv_at hl 0 rfl) ?_
  refine va_iald hx hb hK hP 5 0 rfl rfl (n_in (by decide +kernel)) dX12_keep_79 ?_
  refine nv_i (v := 0) rfl ?_
  refine nb_iast (ws' := [(a0, .inr (12, [.int 0, .ref a1, .ref a2, .ref a3, .ref a4, .ref a5, .ref a6, .ref a7, .int 0, .ref a8, .int 0, .ref a9, .ref a10, .int 1, .ref a11, .int 0, .ref a12, .int 0, .int 0, .null, .int 0, .int 0, .int 0, .int 0, .ref a13, .ref a14, .ref a15, .int (-1), .int 0, .int 0, .int 0, .int 0, .int 0, .int 0, .int 0, .ref a16, .int 0, .ref a17, .int 0, .ref a18, .ref a19, .int 0, .int 0, .int 0, .int 0, .ref a20, .ref a21, .ref a22, .ref a23, .ref a24, .ref a25, .ref a26, .ref a27, .ref a28, .int 0, .ref a29, .ref a30, .ref a31, .long 0, .int 0, .int 0, .int 0, .long 0, .int 0, .ref a32, .int 0, .int 0, .int 0, .int 0, .ref a33, .ref a34, .ref a35])), (a34, .inl (y 2, 2, .inl (upd nz 1 1))), (a35, .inl (y 0, 2, .inl nz)), (a7, .inl (y 0, 9, .inl nz)), (a33, .inl (y 0, 104, .inl nz)), (a8, .inl (y 0, 9, .inl nz)), (a1, .inl (y 0, 9, .inl nz)), (a9, .inl (y 0, 9, .inl nz)), (a6, .inl (y 0, 9, .inl nz)), (a10, .inl (y 0, 4, .inl (upd nz 2 99)))]) hx hb hK hP hD hS 4 0 rfl rfl (n_in (by decide +kernel)) (by rw [nb_upI (f := nz) (i := Int32.toNatClampNeg 58) (x := 0) rfl]; rfl) dX12_keep_80 (fun H locs hP hD hS => ?_)
  refine lv_aload_n hx hb dX12_keep_81 rfl (lv_at hl 2 rfl) ?_
  refine va_get (D := D) (ci := 12) (v := .ref a33) (C := RX12) (T := TX12) (N := 72) hx hb hts iX12_keep_X12 hown hK hP 0 rfl rfl 69 (by decide +kernel) w_4 (fun _ h9 => h9) rfl dX12_keep_82 ?_
  refine lv_iload_n hx hb dX12_keep_85 rfl (lv_at hl 1 rfl) ?_
  refine lv_iconst (v := 5) hx hb dX12_keep_86 (by decide +kernel) ?_
  refine lv_iload_n hx hb dX12_keep_87 rfl (lv_at hl 0 rfl) ?_
  refine lv_imul hx hb dX12_keep_88 ?_
  refine nv_i (v := 5) (by decide +kernel) ?_
  refine lv_iadd hx hb dX12_keep_89 ?_
  refine nv_i (v := 57) (by decide +kernel) ?_
  refine lv_iconst (v := 2) hx hb dX12_keep_90 (by decide +kernel) ?_
  refine lv_iadd hx hb dX12_keep_91 ?_
  refine nv_i (v := 59) (by decide +kernel) ?_
  refine lv_aload_n hx hb dX12_keep_92 rfl (lv_at hl 2 rfl) ?_
  refine va_get (D := D) (ci := 12) (v := .ref a1) (C := RX12) (T := TX12) (N := 72) hx hb hts iX12_keep_X12 hown hK hP 0 rfl rfl 1 (by decide +kernel) w_7 (fun _ h9 => h9) rfl dX12_keep_93 ?_
  refine lv_iload_n hx hb dX12_keep_96 rfl (lv_at hl 0 rfl) ?_
  refine va_iald hx hb hK hP 6 0 rfl rfl (n_in (by decide +kernel)) dX12_keep_97 ?_
  refine nv_i (v := 0) rfl ?_
  refine nb_iast (ws' := [(a0, .inr (12, [.int 0, .ref a1, .ref a2, .ref a3, .ref a4, .ref a5, .ref a6, .ref a7, .int 0, .ref a8, .int 0, .ref a9, .ref a10, .int 1, .ref a11, .int 0, .ref a12, .int 0, .int 0, .null, .int 0, .int 0, .int 0, .int 0, .ref a13, .ref a14, .ref a15, .int (-1), .int 0, .int 0, .int 0, .int 0, .int 0, .int 0, .int 0, .ref a16, .int 0, .ref a17, .int 0, .ref a18, .ref a19, .int 0, .int 0, .int 0, .int 0, .ref a20, .ref a21, .ref a22, .ref a23, .ref a24, .ref a25, .ref a26, .ref a27, .ref a28, .int 0, .ref a29, .ref a30, .ref a31, .long 0, .int 0, .int 0, .int 0, .long 0, .int 0, .ref a32, .int 0, .int 0, .int 0, .int 0, .ref a33, .ref a34, .ref a35])), (a34, .inl (y 2, 2, .inl (upd nz 1 1))), (a35, .inl (y 0, 2, .inl nz)), (a7, .inl (y 0, 9, .inl nz)), (a33, .inl (y 0, 104, .inl nz)), (a8, .inl (y 0, 9, .inl nz)), (a1, .inl (y 0, 9, .inl nz)), (a9, .inl (y 0, 9, .inl nz)), (a6, .inl (y 0, 9, .inl nz)), (a10, .inl (y 0, 4, .inl (upd nz 2 99)))]) hx hb hK hP hD hS 4 0 rfl rfl (n_in (by decide +kernel)) (by rw [nb_upI (f := nz) (i := Int32.toNatClampNeg 59) (x := 0) rfl]; rfl) dX12_keep_98 (fun H locs hP hD hS => ?_)
  refine lv_aload_n hx hb dX12_keep_99 rfl (lv_at hl 2 rfl) ?_
  refine va_get (D := D) (ci := 12) (v := .ref a33) (C := RX12) (T := TX12) (N := 72) hx hb hts iX12_keep_X12 hown hK hP 0 rfl rfl 69 (by decide +kernel) w_4 (fun _ h9 => h9) rfl dX12_keep_100 ?_
  refine lv_iload_n hx hb dX12_keep_103 rfl (lv_at hl 1 rfl) ?_
  refine lv_iconst (v := 5) hx hb dX12_keep_104 (by decide +kernel) ?_
  refine lv_iload_n hx hb dX12_keep_105 rfl (lv_at hl 0 rfl) ?_
  refine lv_imul hx hb dX12_keep_106 ?_
  refine nv_i (v := 5) (by decide +kernel) ?_
  refine lv_iadd hx hb dX12_keep_107 ?_
  refine nv_i (v := 57) (by decide +kernel) ?_
  refine lv_iconst (v := 3) hx hb dX12_keep_108 (by decide +kernel) ?_
  refine lv_iadd hx hb dX12_keep_109 ?_
  refine nv_i (v := 60) (by decide +kernel) ?_
  refine lv_aload_n hx hb dX12_keep_110 rfl (lv_at hl 2 rfl) ?_
  refine va_get (D := D) (ci := 12) (v := .ref a9) (C := RX12) (T := TX12) (N := 72) hx hb hts iX12_keep_X12 hown hK hP 0 rfl rfl 11 (by decide +kernel) w_8 (fun _ h9 => h9) rfl dX12_keep_111 ?_
  refine lv_iload_n hx hb dX12_keep_114 rfl (lv_at hl 0 rfl) ?_
  refine va_iald hx hb hK hP 7 0 rfl rfl (n_in (by decide +kernel)) dX12_keep_115 ?_
  refine nv_i (v := 0) rfl ?_
  refine nb_iast (ws' := [(a0, .inr (12, [.int 0, .ref a1, .ref a2, .ref a3, .ref a4, .ref a5, .ref a6, .ref a7, .int 0, .ref a8, .int 0, .ref a9, .ref a10, .int 1, .ref a11, .int 0, .ref a12, .int 0, .int 0, .null, .int 0, .int 0, .int 0, .int 0, .ref a13, .ref a14, .ref a15, .int (-1), .int 0, .int 0, .int 0, .int 0, .int 0, .int 0, .int 0, .ref a16, .int 0, .ref a17, .int 0, .ref a18, .ref a19, .int 0, .int 0, .int 0, .int 0, .ref a20, .ref a21, .ref a22, .ref a23, .ref a24, .ref a25, .ref a26, .ref a27, .ref a28, .int 0, .ref a29, .ref a30, .ref a31, .long 0, .int 0, .int 0, .int 0, .long 0, .int 0, .ref a32, .int 0, .int 0, .int 0, .int 0, .ref a33, .ref a34, .ref a35])), (a34, .inl (y 2, 2, .inl (upd nz 1 1))), (a35, .inl (y 0, 2, .inl nz)), (a7, .inl (y 0, 9, .inl nz)), (a33, .inl (y 0, 104, .inl nz)), (a8, .inl (y 0, 9, .inl nz)), (a1, .inl (y 0, 9, .inl nz)), (a9, .inl (y 0, 9, .inl nz)), (a6, .inl (y 0, 9, .inl nz)), (a10, .inl (y 0, 4, .inl (upd nz 2 99)))]) hx hb hK hP hD hS 4 0 rfl rfl (n_in (by decide +kernel)) (by rw [nb_upI (f := nz) (i := Int32.toNatClampNeg 60) (x := 0) rfl]; rfl) dX12_keep_116 (fun H locs hP hD hS => ?_)
  refine lv_aload_n hx hb dX12_keep_117 rfl (lv_at hl 2 rfl) ?_
  refine va_get (D := D) (ci := 12) (v := .ref a33) (C := RX12) (T := TX12) (N := 72) hx hb hts iX12_keep_X12 hown hK hP 0 rfl rfl 69 (by decide +kernel) w_4 (fun _ h9 => h9) rfl dX12_keep_118 ?_
  refine lv_iload_n hx hb dX12_keep_121 rfl (lv_at hl 1 rfl) ?_
  refine lv_iconst (v := 5) hx hb dX12_keep_122 (by decide +kernel) ?_
  refine lv_iload_n hx hb dX12_keep_123 rfl (lv_at hl 0 rfl) ?_
  refine lv_imul hx hb dX12_keep_124 ?_
  refine nv_i (v := 5) (by decide +kernel) ?_
  refine lv_iadd hx hb dX12_keep_125 ?_
  refine nv_i (v := 57) (by decide +kernel) ?_
  refine lv_iconst (v := 4) hx hb dX12_keep_126 (by decide +kernel) ?_
  refine lv_iadd hx hb dX12_keep_127 ?_
  refine nv_i (v := 61) (by decide +kernel) ?_
  refine lv_aload_n hx hb dX12_keep_128 rfl (lv_at hl 2 rfl) ?_
  refine va_get (D := D) (ci := 12) (v := .ref a6) (C := RX12) (T := TX12) (N := 72) hx hb hts iX12_keep_X12 hown hK hP 0 rfl rfl 6 (by decide +kernel) w_9 (fun _ h9 => h9) rfl dX12_keep_129 ?_
  refine lv_iload_n hx hb dX12_keep_132 rfl (lv_at hl 0 rfl) ?_
  refine va_iald hx hb hK hP 8 0 rfl rfl (n_in (by decide +kernel)) dX12_keep_133 ?_
  refine nv_i (v := 0) rfl ?_
  refine nb_iast (ws' := [(a0, .inr (12, [.int 0, .ref a1, .ref a2, .ref a3, .ref a4, .ref a5, .ref a6, .ref a7, .int 0, .ref a8, .int 0, .ref a9, .ref a10, .int 1, .ref a11, .int 0, .ref a12, .int 0, .int 0, .null, .int 0, .int 0, .int 0, .int 0, .ref a13, .ref a14, .ref a15, .int (-1), .int 0, .int 0, .int 0, .int 0, .int 0, .int 0, .int 0, .ref a16, .int 0, .ref a17, .int 0, .ref a18, .ref a19, .int 0, .int 0, .int 0, .int 0, .ref a20, .ref a21, .ref a22, .ref a23, .ref a24, .ref a25, .ref a26, .ref a27, .ref a28, .int 0, .ref a29, .ref a30, .ref a31, .long 0, .int 0, .int 0, .int 0, .long 0, .int 0, .ref a32, .int 0, .int 0, .int 0, .int 0, .ref a33, .ref a34, .ref a35])), (a34, .inl (y 2, 2, .inl (upd nz 1 1))), (a35, .inl (y 0, 2, .inl nz)), (a7, .inl (y 0, 9, .inl nz)), (a33, .inl (y 0, 104, .inl nz)), (a8, .inl (y 0, 9, .inl nz)), (a1, .inl (y 0, 9, .inl nz)), (a9, .inl (y 0, 9, .inl nz)), (a6, .inl (y 0, 9, .inl nz)), (a10, .inl (y 0, 4, .inl (upd nz 2 99)))]) hx hb hK hP hD hS 4 0 rfl rfl (n_in (by decide +kernel)) (by rw [nb_upI (f := nz) (i := Int32.toNatClampNeg 61) (x := 0) rfl]; rfl) dX12_keep_134 (fun H locs hP hD hS => ?_)
  refine lv_iinc (v := 2) (lv' := [(3, .int 2), (2, .int 52), (0, .ref a0), (1, .int 1)]) hx hb dX12_keep_135 hl (k := 0) rfl (by decide +kernel) (by decide +kernel) rfl (fun ls hl => ?_)
  refine lv_goto (tgt := 41) hx hb dX12_keep_138 (by decide +kernel) ?_
  refine lv_iload_n hx hb dX12_keep_41 rfl (lv_at hl 0 rfl) ?_
  refine lv_bipush (v := 9) hx hb dX12_keep_42 (by decide +kernel) ?_
  refine lv_icmp_ge (tgt := 141) hx hb dX12_keep_44 (by decide +kernel) (fun c => absurd c (by decide +kernel)) (fun _ => ?_)
  refine lv_aload_n hx hb dX12_keep_47 rfl (lv_at hl 2 rfl) ?_
  refine va_get (D := D) (ci := 12) (v := .ref a33) (C := RX12) (T := TX12) (N := 72) hx hb hts iX12_keep_X12 hown hK hP 0 rfl rfl 69 (by decide +kernel) w_4 (fun _ h9 => h9) rfl dX12_keep_48 ?_
  refine lv_iload_n hx hb dX12_keep_51 rfl (lv_at hl 1 rfl) ?_
  refine lv_iconst (v := 5) hx hb dX12_keep_52 (by decide +kernel) ?_
  refine lv_iload_n hx hb dX12_keep_53 rfl (lv_at hl 0 rfl) ?_
  refine lv_imul hx hb dX12_keep_54 ?_
  refine nv_i (v := 10) (by decide +kernel) ?_
  refine lv_iadd hx hb dX12_keep_55 ?_
  refine nv_i (v := 62) (by decide +kernel) ?_
  refine lv_aload_n hx hb dX12_keep_56 rfl (lv_at hl 2 rfl) ?_
  refine va_get (D := D) (ci := 12) (v := .ref a7) (C := RX12) (T := TX12) (N := 72) hx hb hts iX12_keep_X12 hown hK hP 0 rfl rfl 7 (by decide +kernel) w_5 (fun _ h9 => h9) rfl dX12_keep_57 ?_
  refine lv_iload_n hx hb dX12_keep_60 rfl (lv_at hl 0 rfl) ?_
  refine va_iald hx hb hK hP 3 0 rfl rfl (n_in (by decide +kernel)) dX12_keep_61 ?_
  refine nv_i (v := 0) rfl ?_
  refine nb_iast (ws' := [(a0, .inr (12, [.int 0, .ref a1, .ref a2, .ref a3, .ref a4, .ref a5, .ref a6, .ref a7, .int 0, .ref a8, .int 0, .ref a9, .ref a10, .int 1, .ref a11, .int 0, .ref a12, .int 0, .int 0, .null, .int 0, .int 0, .int 0, .int 0, .ref a13, .ref a14, .ref a15, .int (-1), .int 0, .int 0, .int 0, .int 0, .int 0, .int 0, .int 0, .ref a16, .int 0, .ref a17, .int 0, .ref a18, .ref a19, .int 0, .int 0, .int 0, .int 0, .ref a20, .ref a21, .ref a22, .ref a23, .ref a24, .ref a25, .ref a26, .ref a27, .ref a28, .int 0, .ref a29, .ref a30, .ref a31, .long 0, .int 0, .int 0, .int 0, .long 0, .int 0, .ref a32, .int 0, .int 0, .int 0, .int 0, .ref a33, .ref a34, .ref a35])), (a34, .inl (y 2, 2, .inl (upd nz 1 1))), (a35, .inl (y 0, 2, .inl nz)), (a7, .inl (y 0, 9, .inl nz)), (a33, .inl (y 0, 104, .inl nz)), (a8, .inl (y 0, 9, .inl nz)), (a1, .inl (y 0, 9, .inl nz)), (a9, .inl (y 0, 9, .inl nz)), (a6, .inl (y 0, 9, .inl nz)), (a10, .inl (y 0, 4, .inl (upd nz 2 99)))]) hx hb hK hP hD hS 4 0 rfl rfl (n_in (by decide +kernel)) (by rw [nb_upI (f := nz) (i := Int32.toNatClampNeg 62) (x := 0) rfl]; rfl) dX12_keep_62 (fun H locs hP hD hS => ?_)
  refine lv_aload_n hx hb dX12_keep_63 rfl (lv_at hl 2 rfl) ?_
  refine va_get (D := D) (ci := 12) (v := .ref a33) (C := RX12) (T := TX12) (N := 72) hx hb hts iX12_keep_X12 hown hK hP 0 rfl rfl 69 (by decide +kernel) w_4 (fun _ h9 => h9) rfl dX12_keep_64 ?_
  refine lv_iload_n hx hb dX12_keep_67 rfl (lv_at hl 1 rfl) ?_
  refine lv_iconst (v := 5) hx hb dX12_keep_68 (by decide +kernel) ?_
  refine lv_iload_n hx hb dX12_keep_69 rfl (lv_at hl 0 rfl) ?_
  refine lv_imul hx hb dX12_keep_70 ?_
  refine nv_i (v := 10) (by decide +kernel) ?_
  refine lv_iadd hx hb dX12_keep_71 ?_
  refine nv_i (v := 62) (by decide +kernel) ?_
  refine lv_iconst (v := 1) hx hb dX12_keep_72 (by decide +kernel) ?_
  refine lv_iadd hx hb dX12_keep_73 ?_
  refine nv_i (v := 63) (by decide +kernel) ?_
  refine lv_aload_n hx hb dX12_keep_74 rfl (lv_at hl 2 rfl) ?_
  refine va_get (D := D) (ci := 12) (v := .ref a8) (C := RX12) (T := TX12) (N := 72) hx hb hts iX12_keep_X12 hown hK hP 0 rfl rfl 9 (by decide +kernel) w_6 (fun _ h9 => h9) rfl dX12_keep_75 ?_
  refine lv_iload_n hx hb dX12_keep_78 rfl (lv_at hl 0 rfl) ?_
  refine va_iald hx hb hK hP 5 0 rfl rfl (n_in (by decide +kernel)) dX12_keep_79 ?_
  refine nv_i (v := 0) rfl ?_
  refine nb_iast (ws' := [(a0, .inr (12, [.int 0, .ref a1, .ref a2, .ref a3, .ref a4, .ref a5, .ref a6, .ref a7, .int 0, .ref a8, .int 0, .ref a9, .ref a10, .int 1, .ref a11, .int 0, .ref a12, .int 0, .int 0, .null, .int 0, .int 0, .int 0, .int 0, .ref a13, .ref a14, .ref a15, .int (-1), .int 0, .int 0, .int 0, .int 0, .int 0, .int 0, .int 0, .ref a16, .int 0, .ref a17, .int 0, .ref a18, .ref a19, .int 0, .int 0, .int 0, .int 0, .ref a20, .ref a21, .ref a22, .ref a23, .ref a24, .ref a25, .ref a26, .ref a27, .ref a28, .int 0, .ref a29, .ref a30, .ref a31, .long 0, .int 0, .int 0, .int 0, .long 0, .int 0, .ref a32, .int 0, .int 0, .int 0, .int 0, .ref a33, .ref a34, .ref a35])), (a34, .inl (y 2, 2, .inl (upd nz 1 1))), (a35, .inl (y 0, 2, .inl nz)), (a7, .inl (y 0, 9, .inl nz)), (a33, .inl (y 0, 104, .inl nz)), (a8, .inl (y 0, 9, .inl nz)), (a1, .inl (y 0, 9, .inl nz)), (a9, .inl (y 0, 9, .inl nz)), (a6, .inl (y 0, 9, .inl nz)), (a10, .inl (y 0, 4, .inl (upd nz 2 99)))]) hx hb hK hP hD hS 4 0 rfl rfl (n_in (by decide +kernel)) (by rw [nb_upI (f := nz) (i := Int32.toNatClampNeg 63) (x := 0) rfl]; rfl) dX12_keep_80 (fun H locs hP hD hS => ?_)
  refine lv_aload_n hx hb dX12_keep_81 rfl (lv_at hl 2 rfl) ?_
  refine va_get (D := D) (ci := 12) (v := .ref a33) (C := RX12) (T := TX12) (N := 72) hx hb hts iX12_keep_X12 hown hK hP 0 rfl rfl 69 (by decide +kernel) w_4 (fun _ h9 => h9) rfl dX12_keep_82 ?_
  refine lv_iload_n hx hb dX12_keep_85 rfl (lv_at hl 1 rfl) ?_
  refine lv_iconst (v := 5) hx hb dX12_keep_86 (by decide +kernel) ?_
  refine lv_iload_n hx hb dX12_keep_87 rfl (lv_at hl 0 rfl) ?_
  refine lv_imul hx hb dX12_keep_88 ?_
  refine nv_i (v := 10) (by decide +kernel) ?_
  refine lv_iadd hx hb dX12_keep_89 ?_
  refine nv_i (v := 62) (by decide +kernel) ?_
  refine lv_iconst (v := 2) hx hb dX12_keep_90 (by decide +kernel) ?_
  refine lv_iadd hx hb dX12_keep_91 ?_
  refine nv_i (v := 64) (by decide +kernel) ?_
  refine lv_aload_n hx hb dX12_keep_92 rfl (lv_at hl 2 rfl) ?_
  refine va_get (D := D) (ci := 12) (v := .ref a1) (C := RX12) (T := TX12) (N := 72) hx hb hts iX12_keep_X12 hown hK hP 0 rfl rfl 1 (by decide +kernel) w_7 (fun _ h9 => h9) rfl dX12_keep_93 ?_
  refine lv_iload_n hx hb dX12_keep_96 rfl (lv_at hl 0 rfl) ?_
  refine va_iald hx hb hK hP 6 0 rfl rfl (n_in (by decide +kernel)) dX12_keep_97 ?_
  refine nv_i (v := 0) rfl ?_
  refine nb_iast (ws' := [(a0, .inr (12, [.int 0, .ref a1, .ref a2, .ref a3, .ref a4, .ref a5, .ref a6, .ref a7, .int 0, .ref a8, .int 0, .ref a9, .ref a10, .int 1, .ref a11, .int 0, .ref a12, .int 0, .int 0, .null, .int 0, .int 0, .int 0, .int 0, .ref a13, .ref a14, .ref a15, .int (-1), .int 0, .int 0, .int 0, .int 0, .int 0, .int 0, .int 0, .ref a16, .int 0, .ref a17, .int 0, .ref a18, .ref a19, .int 0, .int 0, .int 0, .int 0, .ref a20, .ref a21, .ref a22, .ref a23, .ref a24, .ref a25, .ref a26, .ref a27, .ref a28, .int 0, .ref a29, .ref a30, .ref a31, .long 0, .int 0, .int 0, .int 0, .long 0, .int 0, .ref a32, .int 0, .int 0, .int 0, .int 0, .ref a33, .ref a34, .ref a35])), (a34, .inl (y 2, 2, .inl (upd nz 1 1))), (a35, .inl (y 0, 2, .inl nz)), (a7, .inl (y 0, 9, .inl nz)), (a33, .inl (y 0, 104, .inl nz)), (a8, .inl (y 0, 9, .inl nz)), (a1, .inl (y 0, 9, .inl nz)), (a9, .inl (y 0, 9, .inl nz)), (a6, .inl (y 0, 9, .inl nz)), (a10, .inl (y 0, 4, .inl (upd nz 2 99)))]) hx hb hK hP hD hS 4 0 rfl rfl (n_in (by decide +kernel)) (by rw [nb_upI (f := nz) (i := Int32.toNatClampNeg 64) (x := 0) rfl]; rfl) dX12_keep_98 (fun H locs hP hD hS => ?_)
  refine lv_aload_n hx hb dX12_keep_99 rfl (lv_at hl 2 rfl) ?_
  refine va_get (D := D) (ci := 12) (v := .ref a33) (C := RX12) (T := TX12) (N := 72) hx hb hts iX12_keep_X12 hown hK hP 0 rfl rfl 69 (by decide +kernel) w_4 (fun _ h9 => h9) rfl dX12_keep_100 ?_
  refine lv_iload_n hx hb dX12_keep_103 rfl (lv_at hl 1 rfl) ?_
  refine lv_iconst (v := 5) hx hb dX12_keep_104 (by decide +kernel) ?_
  refine lv_iload_n hx hb dX12_keep_105 rfl (lv_at hl 0 rfl) ?_
  refine lv_imul hx hb dX12_keep_106 ?_
  refine nv_i (v := 10) (by decide +kernel) ?_
  refine lv_iadd hx hb dX12_keep_107 ?_
  refine nv_i (v := 62) (by decide +kernel) ?_
  refine lv_iconst (v := 3) hx hb dX12_keep_108 (by decide +kernel) ?_
  refine lv_iadd hx hb dX12_keep_109 ?_
  refine nv_i (v := 65) (by decide +kernel) ?_
  refine lv_aload_n hx hb dX12_keep_110 rfl (lv_at hl 2 rfl) ?_
  refine va_get (D := D) (ci := 12) (v := .ref a9) (C := RX12) (T := TX12) (N := 72) hx hb hts iX12_keep_X12 hown hK hP 0 rfl rfl 11 (by decide +kernel) w_8 (fun _ h9 => h9) rfl dX12_keep_111 ?_
  refine lv_iload_n hx hb dX12_keep_114 rfl (lv_at hl 0 rfl) ?_
  refine va_iald hx hb hK hP 7 0 rfl rfl (n_in (by decide +kernel)) dX12_keep_115 ?_
  refine nv_i (v := 0) rfl ?_
  refine nb_iast (ws' := [(a0, .inr (12, [.int 0, .ref a1, .ref a2, .ref a3, .ref a4, .ref a5, .ref a6, .ref a7, .int 0, .ref a8, .int 0, .ref a9, .ref a10, .int 1, .ref a11, .int 0, .ref a12, .int 0, .int 0, .null, .int 0, .int 0, .int 0, .int 0, .ref a13, .ref a14, .ref a15, .int (-1), .int 0, .int 0, .int 0, .int 0, .int 0, .int 0, .int 0, .ref a16, .int 0, .ref a17, .int 0, .ref a18, .ref a19, .int 0, .int 0, .int 0, .int 0, .ref a20, .ref a21, .ref a22, .ref a23, .ref a24, .ref a25, .ref a26, .ref a27, .ref a28, .int 0, .ref a29, .ref a30, .ref a31, .long 0, .int 0, .int 0, .int 0, .long 0, .int 0, .ref a32, .int 0, .int 0, .int 0, .int 0, .ref a33, .ref a34, .ref a35])), (a34, .inl (y 2, 2, .inl (upd nz 1 1))), (a35, .inl (y 0, 2, .inl nz)), (a7, .inl (y 0, 9, .inl nz)), (a33, .inl (y 0, 104, .inl nz)), (a8, .inl (y 0, 9, .inl nz)), (a1, .inl (y 0, 9, .inl nz)), (a9, .inl (y 0, 9, .inl nz)), (a6, .inl (y 0, 9, .inl nz)), (a10, .inl (y 0, 4, .inl (upd nz 2 99)))]) hx hb hK hP hD hS 4 0 rfl rfl (n_in (by decide +kernel)) (by rw [nb_upI (f := nz) (i := Int32.toNatClampNeg 65) (x := 0) rfl]; rfl) dX12_keep_116 (fun H locs hP hD hS => ?_)
  refine lv_aload_n hx hb dX12_keep_117 rfl (lv_at hl 2 rfl) ?_
  refine va_get (D := D) (ci := 12) (v := .ref a33) (C := RX12) (T := TX12) (N := 72) hx hb hts iX12_keep_X12 hown hK hP 0 rfl rfl 69 (by decide +kernel) w_4 (fun _ h9 => h9) rfl dX12_keep_118 ?_
  refine lv_iload_n hx hb dX12_keep_121 rfl (lv_at hl 1 rfl) ?_
  refine lv_iconst (v := 5) hx hb dX12_keep_122 (by decide +kernel) ?_
  refine lv_iload_n hx hb dX12_keep_123 rfl (lv_at hl 0 rfl) ?_
  refine lv_imul hx hb dX12_keep_124 ?_
  refine nv_i (v := 10) (by decide +kernel) ?_
  refine lv_iadd hx hb dX12_keep_125 ?_
  refine nv_i (v := 62) (by decide +kernel) ?_
  refine lv_iconst (v := 4) hx hb dX12_keep_126 (by decide +kernel) ?_
  refine lv_iadd hx hb dX12_keep_127 ?_
  refine nv_i (v := 66) (by decide +kernel) ?_
  refine lv_aload_n hx hb dX12_keep_128 rfl (lv_at hl 2 rfl) ?_
  refine va_get (D := D) (ci := 12) (v := .ref a6) (C := RX12) (T := TX12) (N := 72) hx hb hts iX12_keep_X12 hown hK hP 0 rfl rfl 6 (by decide +kernel) w_9 (fun _ h9 => h9) rfl dX12_keep_129 ?_
  refine lv_iload_n hx hb dX12_keep_132 rfl (lv_at hl 0 rfl) ?_
  refine va_iald hx hb hK hP 8 0 rfl rfl (n_in (by decide +kernel)) dX12_keep_133 ?_
  refine nv_i (v := 0) rfl ?_
  refine nb_iast (ws' := [(a0, .inr (12, [.int 0, .ref a1, .ref a2, .ref a3, .ref a4, .ref a5, .ref a6, .ref a7, .int 0, .ref a8, .int 0, .ref a9, .ref a10, .int 1, .ref a11, .int 0, .ref a12, .int 0, .int 0, .null, .int 0, .int 0, .int 0, .int 0, .ref a13, .ref a14, .ref a15, .int (-1), .int 0, .int 0, .int 0, .int 0, .int 0, .int 0, .int 0, .ref a16, .int 0, .ref a17, .int 0, .ref a18, .ref a19, .int 0, .int 0, .int 0, .int 0, .ref a20, .ref a21, .ref a22, .ref a23, .ref a24, .ref a25, .ref a26, .ref a27, .ref a28, .int 0, .ref a29, .ref a30, .ref a31, .long 0, .int 0, .int 0, .int 0, .long 0, .int 0, .ref a32, .int 0, .int 0, .int 0, .int 0, .ref a33, .ref a34, .ref a35])), (a34, .inl (y 2, 2, .inl (upd nz 1 1))), (a35, .inl (y 0, 2, .inl nz)), (a7, .inl (y 0, 9, .inl nz)), (a33, .inl (y 0, 104, .inl nz)), (a8, .inl (y 0, 9, .inl nz)), (a1, .inl (y 0, 9, .inl nz)), (a9, .inl (y 0, 9, .inl nz)), (a6, .inl (y 0, 9, .inl nz)), (a10, .inl (y 0, 4, .inl (upd nz 2 99)))]) hx hb hK hP hD hS 4 0 rfl rfl (n_in (by decide +kernel)) (by rw [nb_upI (f := nz) (i := Int32.toNatClampNeg 66) (x := 0) rfl]; rfl) dX12_keep_134 (fun H locs hP hD hS => ?_)
  refine lv_iinc (v := 3) (lv' := [(3, .int 3), (2, .int 52), (0, .ref a0), (1, .int 1)]) hx hb dX12_keep_135 hl (k := 0) rfl (by decide +kernel) (by decide +kernel) rfl (fun ls hl => ?_)
  refine lv_goto (tgt := 41) hx hb dX12_keep_138 (by decide +kernel) ?_
  refine lv_iload_n hx hb dX12_keep_41 rfl (lv_at hl 0 rfl) ?_
  refine lv_bipush (v := 9) hx hb dX12_keep_42 (by decide +kernel) ?_
  refine lv_icmp_ge (tgt := 141) hx hb dX12_keep_44 (by decide +kernel) (fun c => absurd c (by decide +kernel)) (fun _ => ?_)
  refine lv_aload_n hx hb dX12_keep_47 rfl (lv_at hl 2 rfl) ?_
  refine va_get (D := D) (ci := 12) (v := .ref a33) (C := RX12) (T := TX12) (N := 72) hx hb hts iX12_keep_X12 hown hK hP 0 rfl rfl 69 (by decide +kernel) w_4 (fun _ h9 => h9) rfl dX12_keep_48 ?_
  refine lv_iload_n hx hb dX12_keep_51 rfl (lv_at hl 1 rfl) ?_
  refine lv_iconst (v := 5) hx hb dX12_keep_52 (by decide +kernel) ?_
  refine lv_iload_n hx hb dX12_keep_53 rfl (lv_at hl 0 rfl) ?_
  refine lv_imul hx hb dX12_keep_54 ?_
  refine nv_i (v := 15) (by decide +kernel) ?_
  refine lv_iadd hx hb dX12_keep_55 ?_
  refine nv_i (v := 67) (by decide +kernel) ?_
  refine lv_aload_n hx hb dX12_keep_56 rfl (lv_at hl 2 rfl) ?_
  refine va_get (D := D) (ci := 12) (v := .ref a7) (C := RX12) (T := TX12) (N := 72) hx hb hts iX12_keep_X12 hown hK hP 0 rfl rfl 7 (by decide +kernel) w_5 (fun _ h9 => h9) rfl dX12_keep_57 ?_
  refine lv_iload_n hx hb dX12_keep_60 rfl (lv_at hl 0 rfl) ?_
  refine va_iald hx hb hK hP 3 0 rfl rfl (n_in (by decide +kernel)) dX12_keep_61 ?_
  refine nv_i (v := 0) rfl ?_
  refine nb_iast (ws' := [(a0, .inr (12, [.int 0, .ref a1, .ref a2, .ref a3, .ref a4, .ref a5, .ref a6, .ref a7, .int 0, .ref a8, .int 0, .ref a9, .ref a10, .int 1, .ref a11, .int 0, .ref a12, .int 0, .int 0, .null, .int 0, .int 0, .int 0, .int 0, .ref a13, .ref a14, .ref a15, .int (-1), .int 0, .int 0, .int 0, .int 0, .int 0, .int 0, .int 0, .ref a16, .int 0, .ref a17, .int 0, .ref a18, .ref a19, .int 0, .int 0, .int 0, .int 0, .ref a20, .ref a21, .ref a22, .ref a23, .ref a24, .ref a25, .ref a26, .ref a27, .ref a28, .int 0, .ref a29, .ref a30, .ref a31, .long 0, .int 0, .int 0, .int 0, .long 0, .int 0, .ref a32, .int 0, .int 0, .int 0, .int 0, .ref a33, .ref a34, .ref a35])), (a34, .inl (y 2, 2, .inl (upd nz 1 1))), (a35, .inl (y 0, 2, .inl nz)), (a7, .inl (y 0, 9, .inl nz)), (a33, .inl (y 0, 104, .inl nz)), (a8, .inl (y 0, 9, .inl nz)), (a1, .inl (y 0, 9, .inl nz)), (a9, .inl (y 0, 9, .inl nz)), (a6, .inl (y 0, 9, .inl nz)), (a10, .inl (y 0, 4, .inl (upd nz 2 99)))]) hx hb hK hP hD hS 4 0 rfl rfl (n_in (by decide +kernel)) (by rw [nb_upI (f := nz) (i := Int32.toNatClampNeg 67) (x := 0) rfl]; rfl) dX12_keep_62 (fun H locs hP hD hS => ?_)
  refine lv_aload_n hx hb dX12_keep_63 rfl (lv_at hl 2 rfl) ?_
  refine va_get (D := D) (ci := 12) (v := .ref a33) (C := RX12) (T := TX12) (N := 72) hx hb hts iX12_keep_X12 hown hK hP 0 rfl rfl 69 (by decide +kernel) w_4 (fun _ h9 => h9) rfl dX12_keep_64 ?_
  refine lv_iload_n hx hb dX12_keep_67 rfl (lv_at hl 1 rfl) ?_
  refine lv_iconst (v := 5) hx hb dX12_keep_68 (by decide +kernel) ?_
  refine lv_iload_n hx hb dX12_keep_69 rfl (lv_at hl 0 rfl) ?_
  refine lv_imul hx hb dX12_keep_70 ?_
  refine nv_i (v := 15) (by decide +kernel) ?_
  refine lv_iadd hx hb dX12_keep_71 ?_
  refine nv_i (v := 67) (by decide +kernel) ?_
  refine lv_iconst (v := 1) hx hb dX12_keep_72 (by decide +kernel) ?_
  refine lv_iadd hx hb dX12_keep_73 ?_
  refine nv_i (v := 68) (by decide +kernel) ?_
  refine lv_aload_n hx hb dX12_keep_74 rfl (lv_at hl 2 rfl) ?_
  refine va_get (D := D) (ci := 12) (v := .ref a8) (C := RX12) (T := TX12) (N := 72) hx hb hts iX12_keep_X12 hown hK hP 0 rfl rfl 9 (by decide +kernel) w_6 (fun _ h9 => h9) rfl dX12_keep_75 ?_
  refine lv_iload_n hx hb dX12_keep_78 rfl (lv_at hl 0 rfl) ?_
  refine va_iald hx hb hK hP 5 0 rfl rfl (n_in (by decide +kernel)) dX12_keep_79 ?_
  refine nv_i (v := 0) rfl ?_
  refine nb_iast (ws' := [(a0, .inr (12, [.int 0, .ref a1, .ref a2, .ref a3, .ref a4, .ref a5, .ref a6, .ref a7, .int 0, .ref a8, .int 0, .ref a9, .ref a10, .int 1, .ref a11, .int 0, .ref a12, .int 0, .int 0, .null, .int 0, .int 0, .int 0, .int 0, .ref a13, .ref a14, .ref a15, .int (-1), .int 0, .int 0, .int 0, .int 0, .int 0, .int 0, .int 0, .ref a16, .int 0, .ref a17, .int 0, .ref a18, .ref a19, .int 0, .int 0, .int 0, .int 0, .ref a20, .ref a21, .ref a22, .ref a23, .ref a24, .ref a25, .ref a26, .ref a27, .ref a28, .int 0, .ref a29, .ref a30, .ref a31, .long 0, .int 0, .int 0, .int 0, .long 0, .int 0, .ref a32, .int 0, .int 0, .int 0, .int 0, .ref a33, .ref a34, .ref a35])), (a34, .inl (y 2, 2, .inl (upd nz 1 1))), (a35, .inl (y 0, 2, .inl nz)), (a7, .inl (y 0, 9, .inl nz)), (a33, .inl (y 0, 104, .inl nz)), (a8, .inl (y 0, 9, .inl nz)), (a1, .inl (y 0, 9, .inl nz)), (a9, .inl (y 0, 9, .inl nz)), (a6, .inl (y 0, 9, .inl nz)), (a10, .inl (y 0, 4, .inl (upd nz 2 99)))]) hx hb hK hP hD hS 4 0 rfl rfl (n_in (by decide +kernel)) (by rw [nb_upI (f := nz) (i := Int32.toNatClampNeg 68) (x := 0) rfl]; rfl) dX12_keep_80 (fun H locs hP hD hS => ?_)
  refine lv_aload_n hx hb dX12_keep_81 rfl (lv_at hl 2 rfl) ?_
  refine va_get (D := D) (ci := 12) (v := .ref a33) (C := RX12) (T := TX12) (N := 72) hx hb hts iX12_keep_X12 hown hK hP 0 rfl rfl 69 (by decide +kernel) w_4 (fun _ h9 => h9) rfl dX12_keep_82 ?_
  refine lv_iload_n hx hb dX12_keep_85 rfl (lv_at hl 1 rfl) ?_
  refine lv_iconst (v := 5) hx hb dX12_keep_86 (by decide +kernel) ?_
  refine lv_iload_n hx hb dX12_keep_87 rfl (lv_at hl 0 rfl) ?_
  refine lv_imul hx hb dX12_keep_88 ?_
  refine nv_i (v := 15) (by decide +kernel) ?_
  refine lv_iadd hx hb dX12_keep_89 ?_
  refine nv_i (v := 67) (by decide +kernel) ?_
  refine lv_iconst (v := 2) hx hb dX12_keep_90 (by decide +kernel) ?_
  refine lv_iadd hx hb dX12_keep_91 ?_
  refine nv_i (v := 69) (by decide +kernel) ?_
  refine lv_aload_n hx hb dX12_keep_92 rfl (lv_at hl 2 rfl) ?_
  refine va_get (D := D) (ci := 12) (v := .ref a1) (C := RX12) (T := TX12) (N := 72) hx hb hts iX12_keep_X12 hown hK hP 0 rfl rfl 1 (by decide +kernel) w_7 (fun _ h9 => h9) rfl dX12_keep_93 ?_
  refine lv_iload_n hx hb dX12_keep_96 rfl (lv_at hl 0 rfl) ?_
  refine va_iald hx hb hK hP 6 0 rfl rfl (n_in (by decide +kernel)) dX12_keep_97 ?_
  refine nv_i (v := 0) rfl ?_
  refine nb_iast (ws' := [(a0, .inr (12, [.int 0, .ref a1, .ref a2, .ref a3, .ref a4, .ref a5, .ref a6, .ref a7, .int 0, .ref a8, .int 0, .ref a9, .ref a10, .int 1, .ref a11, .int 0, .ref a12, .int 0, .int 0, .null, .int 0, .int 0, .int 0, .int 0, .ref a13, .ref a14, .ref a15, .int (-1), .int 0, .int 0, .int 0, .int 0, .int 0, .int 0, .int 0, .ref a16, .int 0, .ref a17, .int 0, .ref a18, .ref a19, .int 0, .int 0, .int 0, .int 0, .ref a20, .ref a21, .ref a22, .ref a23, .ref a24, .ref a25, .ref a26, .ref a27, .ref a28, .int 0, .ref a29, .ref a30, .ref a31, .long 0, .int 0, .int 0, .int 0, .long 0, .int 0, .ref a32, .int 0, .int 0, .int 0, .int 0, .ref a33, .ref a34, .ref a35])), (a34, .inl (y 2, 2, .inl (upd nz 1 1))), (a35, .inl (y 0, 2, .inl nz)), (a7, .inl (y 0, 9, .inl nz)), (a33, .inl (y 0, 104, .inl nz)), (a8, .inl (y 0, 9, .inl nz)), (a1, .inl (y 0, 9, .inl nz)), (a9, .inl (y 0, 9, .inl nz)), (a6, .inl (y 0, 9, .inl nz)), (a10, .inl (y 0, 4, .inl (upd nz 2 99)))]) hx hb hK hP hD hS 4 0 rfl rfl (n_in (by decide +kernel)) (by rw [nb_upI (f := nz) (i := Int32.toNatClampNeg 69) (x := 0) rfl]; rfl) dX12_keep_98 (fun H locs hP hD hS => ?_)
  refine lv_aload_n hx hb dX12_keep_99 rfl (lv_at hl 2 rfl) ?_
  refine va_get (D := D) (ci := 12) (v := .ref a33) (C := RX12) (T := TX12) (N := 72) hx hb hts iX12_keep_X12 hown hK hP 0 rfl rfl 69 (by decide +kernel) w_4 (fun _ h9 => h9) rfl dX12_keep_100 ?_
  refine lv_iload_n hx hb dX12_keep_103 rfl (lv_at hl 1 rfl) ?_
  refine lv_iconst (v := 5) hx hb dX12_keep_104 (by decide +kernel) ?_
  refine lv_iload_n hx hb dX12_keep_105 rfl (lv_at hl 0 rfl) ?_
  refine lv_imul hx hb dX12_keep_106 ?_
  refine nv_i (v := 15) (by decide +kernel) ?_
  refine lv_iadd hx hb dX12_keep_107 ?_
  refine nv_i (v := 67) (by decide +kernel) ?_
  refine lv_iconst (v := 3) hx hb dX12_keep_108 (by decide +kernel) ?_
  refine lv_iadd hx hb dX12_keep_109 ?_
  refine nv_i (v := 70) (by decide +kernel) ?_
  refine lv_aload_n hx hb dX12_keep_110 rfl (lv_at hl 2 rfl) ?_
  refine va_get (D := D) (ci := 12) (v := .ref a9) (C := RX12) (T := TX12) (N := 72) hx hb hts iX12_keep_X12 hown hK hP 0 rfl rfl 11 (by decide +kernel) w_8 (fun _ h9 => h9) rfl dX12_keep_111 ?_
  refine lv_iload_n hx hb dX12_keep_114 rfl (lv_at hl 0 rfl) ?_
  refine va_iald hx hb hK hP 7 0 rfl rfl (n_in (by decide +kernel)) dX12_keep_115 ?_
  refine nv_i (v := 0) rfl ?_
  refine nb_iast (ws' := [(a0, .inr (12, [.int 0, .ref a1, .ref a2, .ref a3, .ref a4, .ref a5, .ref a6, .ref a7, .int 0, .ref a8, .int 0, .ref a9, .ref a10, .int 1, .ref a11, .int 0, .ref a12, .int 0, .int 0, .null, .int 0, .int 0, .int 0, .int 0, .ref a13, .ref a14, .ref a15, .int (-1), .int 0, .int 0, .int 0, .int 0, .int 0, .int 0, .int 0, .ref a16, .int 0, .ref a17, .int 0, .ref a18, .ref a19, .int 0, .int 0, .int 0, .int 0, .ref a20, .ref a21, .ref a22, .ref a23, .ref a24, .ref a25, .ref a26, .ref a27, .ref a28, .int 0, .ref a29, .ref a30, .ref a31, .long 0, .int 0, .int 0, .int 0, .long 0, .int 0, .ref a32, .int 0, .int 0, .int 0, .int 0, .ref a33, .ref a34, .ref a35])), (a34, .inl (y 2, 2, .inl (upd nz 1 1))), (a35, .inl (y 0, 2, .inl nz)), (a7, .inl (y 0, 9, .inl nz)), (a33, .inl (y 0, 104, .inl nz)), (a8, .inl (y 0, 9, .inl nz)), (a1, .inl (y 0, 9, .inl nz)), (a9, .inl (y 0, 9, .inl nz)), (a6, .inl (y 0, 9, .inl nz)), (a10, .inl (y 0, 4, .inl (upd nz 2 99)))]) hx hb hK hP hD hS 4 0 rfl rfl (n_in (by decide +kernel)) (by rw [nb_upI (f := nz) (i := Int32.toNatClampNeg 70) (x := 0) rfl]; rfl) dX12_keep_116 (fun H locs hP hD hS => ?_)
  refine lv_aload_n hx hb dX12_keep_117 rfl (lv_at hl 2 rfl) ?_
  refine va_get (D := D) (ci := 12) (v := .ref a33) (C := RX12) (T := TX12) (N := 72) hx hb hts iX12_keep_X12 hown hK hP 0 rfl rfl 69 (by decide +kernel) w_4 (fun _ h9 => h9) rfl dX12_keep_118 ?_
  refine lv_iload_n hx hb dX12_keep_121 rfl (lv_at hl 1 rfl) ?_
  refine lv_iconst (v := 5) hx hb dX12_keep_122 (by decide +kernel) ?_
  refine lv_iload_n hx hb dX12_keep_123 rfl (lv_at hl 0 rfl) ?_
  refine lv_imul hx hb dX12_keep_124 ?_
  refine nv_i (v := 15) (by decide +kernel) ?_
  refine lv_iadd hx hb dX12_keep_125 ?_
  refine nv_i (v := 67) (by decide +kernel) ?_
  refine lv_iconst (v := 4) hx hb dX12_keep_126 (by decide +kernel) ?_
  refine lv_iadd hx hb dX12_keep_127 ?_
  refine nv_i (v := 71) (by decide +kernel) ?_
  refine lv_aload_n hx hb dX12_keep_128 rfl (lv_at hl 2 rfl) ?_
  refine va_get (D := D) (ci := 12) (v := .ref a6) (C := RX12) (T := TX12) (N := 72) hx hb hts iX12_keep_X12 hown hK hP 0 rfl rfl 6 (by decide +kernel) w_9 (fun _ h9 => h9) rfl dX12_keep_129 ?_
  refine lv_iload_n hx hb dX12_keep_132 rfl (lv_at hl 0 rfl) ?_
  refine va_iald hx hb hK hP 8 0 rfl rfl (n_in (by decide +kernel)) dX12_keep_133 ?_
  refine nv_i (v := 0) rfl ?_
  refine nb_iast (ws' := [(a0, .inr (12, [.int 0, .ref a1, .ref a2, .ref a3, .ref a4, .ref a5, .ref a6, .ref a7, .int 0, .ref a8, .int 0, .ref a9, .ref a10, .int 1, .ref a11, .int 0, .ref a12, .int 0, .int 0, .null, .int 0, .int 0, .int 0, .int 0, .ref a13, .ref a14, .ref a15, .int (-1), .int 0, .int 0, .int 0, .int 0, .int 0, .int 0, .int 0, .ref a16, .int 0, .ref a17, .int 0, .ref a18, .ref a19, .int 0, .int 0, .int 0, .int 0, .ref a20, .ref a21, .ref a22, .ref a23, .ref a24, .ref a25, .ref a26, .ref a27, .ref a28, .int 0, .ref a29, .ref a30, .ref a31, .long 0, .int 0, .int 0, .int 0, .long 0, .int 0, .ref a32, .int 0, .int 0, .int 0, .int 0, .ref a33, .ref a34, .ref a35])), (a34, .inl (y 2, 2, .inl (upd nz 1 1))), (a35, .inl (y 0, 2, .inl nz)), (a7, .inl (y 0, 9, .inl nz)), (a33, .inl (y 0, 104, .inl nz)), (a8, .inl (y 0, 9, .inl nz)), (a1, .inl (y 0, 9, .inl nz)), (a9, .inl (y 0, 9, .inl nz)), (a6, .inl (y 0, 9, .inl nz)), (a10, .inl (y 0, 4, .inl (upd nz 2 99)))]) hx hb hK hP hD hS 4 0 rfl rfl (n_in (by decide +kernel)) (by rw [nb_upI (f := nz) (i := Int32.toNatClampNeg 71) (x := 0) rfl]; rfl) dX12_keep_134 (fun H locs hP hD hS => ?_)
  refine lv_iinc (v := 4) (lv' := [(3, .int 4), (2, .int 52), (0, .ref a0), (1, .int 1)]) hx hb dX12_keep_135 hl (k := 0) rfl (by decide +kernel) (by decide +kernel) rfl (fun ls hl => ?_)
  refine lv_goto (tgt := 41) hx hb dX12_keep_138 (by decide +kernel) ?_
  refine lv_iload_n hx hb dX12_keep_41 rfl (lv_at hl 0 rfl) ?_
  refine lv_bipush (v := 9) hx hb dX12_keep_42 (by decide +kernel) ?_
  refine lv_icmp_ge (tgt := 141) hx hb dX12_keep_44 (by decide +kernel) (fun c => absurd c (by decide +kernel)) (fun _ => ?_)
  refine lv_aload_n hx hb dX12_keep_47 rfl (lv_at hl 2 rfl) ?_
  refine va_get (D := D) (ci := 12) (v := .ref a33) (C := RX12) (T := TX12) (N := 72) hx hb hts iX12_keep_X12 hown hK hP 0 rfl rfl 69 (by decide +kernel) w_4 (fun _ h9 => h9) rfl dX12_keep_48 ?_
  refine lv_iload_n hx hb dX12_keep_51 rfl (lv_at hl 1 rfl) ?_
  refine lv_iconst (v := 5) hx hb dX12_keep_52 (by decide +kernel) ?_
  refine lv_iload_n hx hb dX12_keep_53 rfl (lv_at hl 0 rfl) ?_
  refine lv_imul hx hb dX12_keep_54 ?_
  refine nv_i (v := 20) (by decide +kernel) ?_
  refine lv_iadd hx hb dX12_keep_55 ?_
  refine nv_i (v := 72) (by decide +kernel) ?_
  refine lv_aload_n hx hb dX12_keep_56 rfl (lv_at hl 2 rfl) ?_
  refine va_get (D := D) (ci := 12) (v := .ref a7) (C := RX12) (T := TX12) (N := 72) hx hb hts iX12_keep_X12 hown hK hP 0 rfl rfl 7 (by decide +kernel) w_5 (fun _ h9 => h9) rfl dX12_keep_57 ?_
  refine lv_iload_n hx hb dX12_keep_60 rfl (lv_at hl 0 rfl) ?_
  refine va_iald hx hb hK hP 3 0 rfl rfl (n_in (by decide +kernel)) dX12_keep_61 ?_
  refine nv_i (v := 0) rfl ?_
  refine nb_iast (ws' := [(a0, .inr (12, [.int 0, .ref a1, .ref a2, .ref a3, .ref a4, .ref a5, .ref a6, .ref a7, .int 0, .ref a8, .int 0, .ref a9, .ref a10, .int 1, .ref a11, .int 0, .ref a12, .int 0, .int 0, .null, .int 0, .int 0, .int 0, .int 0, .ref a13, .ref a14, .ref a15, .int (-1), .int 0, .int 0, .int 0, .int 0, .int 0, .int 0, .int 0, .ref a16, .int 0, .ref a17, .int 0, .ref a18, .ref a19, .int 0, .int 0, .int 0, .int 0, .ref a20, .ref a21, .ref a22, .ref a23, .ref a24, .ref a25, .ref a26, .ref a27, .ref a28, .int 0, .ref a29, .ref a30, .ref a31, .long 0, .int 0, .int 0, .int 0, .long 0, .int 0, .ref a32, .int 0, .int 0, .int 0, .int 0, .ref a33, .ref a34, .ref a35])), (a34, .inl (y 2, 2, .inl (upd nz 1 1))), (a35, .inl (y 0, 2, .inl nz)), (a7, .inl (y 0, 9, .inl nz)), (a33, .inl (y 0, 104, .inl nz)), (a8, .inl (y 0, 9, .inl nz)), (a1, .inl (y 0, 9, .inl nz)), (a9, .inl (y 0, 9, .inl nz)), (a6, .inl (y 0, 9, .inl nz)), (a10, .inl (y 0, 4, .inl (upd nz 2 99)))]) hx hb hK hP hD hS 4 0 rfl rfl (n_in (by decide +kernel)) (by rw [nb_upI (f := nz) (i := Int32.toNatClampNeg 72) (x := 0) rfl]; rfl) dX12_keep_62 (fun H locs hP hD hS => ?_)
  refine lv_aload_n hx hb dX12_keep_63 rfl (lv_at hl 2 rfl) ?_
  refine va_get (D := D) (ci := 12) (v := .ref a33) (C := RX12) (T := TX12) (N := 72) hx hb hts iX12_keep_X12 hown hK hP 0 rfl rfl 69 (by decide +kernel) w_4 (fun _ h9 => h9) rfl dX12_keep_64 ?_
  refine lv_iload_n hx hb dX12_keep_67 rfl (lv_at hl 1 rfl) ?_
  refine lv_iconst (v := 5) hx hb dX12_keep_68 (by decide +kernel) ?_
  refine lv_iload_n hx hb dX12_keep_69 rfl (lv_at hl 0 rfl) ?_
  refine lv_imul hx hb dX12_keep_70 ?_
  refine nv_i (v := 20) (by decide +kernel) ?_
  refine lv_iadd hx hb dX12_keep_71 ?_
  refine nv_i (v := 72) (by decide +kernel) ?_
  refine lv_iconst (v := 1) hx hb dX12_keep_72 (by decide +kernel) ?_
  refine lv_iadd hx hb dX12_keep_73 ?_
  refine nv_i (v := 73) (by decide +kernel) ?_
  refine lv_aload_n hx hb dX12_keep_74 rfl (lv_at hl 2 rfl) ?_
  refine va_get (D := D) (ci := 12) (v := .ref a8) (C := RX12) (T := TX12) (N := 72) hx hb hts iX12_keep_X12 hown hK hP 0 rfl rfl 9 (by decide +kernel) w_6 (fun _ h9 => h9) rfl dX12_keep_75 ?_
  refine lv_iload_n hx hb dX12_keep_78 rfl (lv_at hl 0 rfl) ?_
  refine va_iald hx hb hK hP 5 0 rfl rfl (n_in (by decide +kernel)) dX12_keep_79 ?_
  refine nv_i (v := 0) rfl ?_
  refine nb_iast (ws' := [(a0, .inr (12, [.int 0, .ref a1, .ref a2, .ref a3, .ref a4, .ref a5, .ref a6, .ref a7, .int 0, .ref a8, .int 0, .ref a9, .ref a10, .int 1, .ref a11, .int 0, .ref a12, .int 0, .int 0, .null, .int 0, .int 0, .int 0, .int 0, .ref a13, .ref a14, .ref a15, .int (-1), .int 0, .int 0, .int 0, .int 0, .int 0, .int 0, .int 0, .ref a16, .int 0, .ref a17, .int 0, .ref a18, .ref a19, .int 0, .int 0, .int 0, .int 0, .ref a20, .ref a21, .ref a22, .ref a23, .ref a24, .ref a25, .ref a26, .ref a27, .ref a28, .int 0, .ref a29, .ref a30, .ref a31, .long 0, .int 0, .int 0, .int 0, .long 0, .int 0, .ref a32, .int 0, .int 0, .int 0, .int 0, .ref a33, .ref a34, .ref a35])), (a34, .inl (y 2, 2, .inl (upd nz 1 1))), (a35, .inl (y 0, 2, .inl nz)), (a7, .inl (y 0, 9, .inl nz)), (a33, .inl (y 0, 104, .inl nz)), (a8, .inl (y 0, 9, .inl nz)), (a1, .inl (y 0, 9, .inl nz)), (a9, .inl (y 0, 9, .inl nz)), (a6, .inl (y 0, 9, .inl nz)), (a10, .inl (y 0, 4, .inl (upd nz 2 99)))]) hx hb hK hP hD hS 4 0 rfl rfl (n_in (by decide +kernel)) (by rw [nb_upI (f := nz) (i := Int32.toNatClampNeg 73) (x := 0) rfl]; rfl) dX12_keep_80 (fun H locs hP hD hS => ?_)
  refine lv_aload_n hx hb dX12_keep_81 rfl (lv_at hl 2 rfl) ?_
  refine va_get (D := D) (ci := 12) (v := .ref a33) (C := RX12) (T := TX12) (N := 72) hx hb hts iX12_keep_X12 hown hK hP 0 rfl rfl 69 (by decide +kernel) w_4 (fun _ h9 => h9) rfl dX12_keep_82 ?_
  refine lv_iload_n hx hb dX12_keep_85 rfl (lv_at hl 1 rfl) ?_
  refine lv_iconst (v := 5) hx hb dX12_keep_86 (by decide +kernel) ?_
  refine lv_iload_n hx hb dX12_keep_87 rfl (lv_at hl 0 rfl) ?_
  refine lv_imul hx hb dX12_keep_88 ?_
  refine nv_i (v := 20) (by decide +kernel) ?_
  refine lv_iadd hx hb dX12_keep_89 ?_
  refine nv_i (v := 72) (by decide +kernel) ?_
  refine lv_iconst (v := 2) hx hb dX12_keep_90 (by decide +kernel) ?_
  refine lv_iadd hx hb dX12_keep_91 ?_
  refine nv_i (v := 74) (by decide +kernel) ?_
  refine lv_aload_n hx hb dX12_keep_92 rfl (lv_at hl 2 rfl) ?_
  refine va_get (D := D) (ci := 12) (v := .ref a1) (C := RX12) (T := TX12) (N := 72) hx hb hts iX12_keep_X12 hown hK hP 0 rfl rfl 1 (by decide +kernel) w_7 (fun _ h9 => h9) rfl dX12_keep_93 ?_
  refine lv_iload_n hx hb dX12_keep_96 rfl (lv_at hl 0 rfl) ?_
  refine va_iald hx hb hK hP 6 0 rfl rfl (n_in (by decide +kernel)) dX12_keep_97 ?_
  refine nv_i (v := 0) rfl ?_
  refine nb_iast (ws' := [(a0, .inr (12, [.int 0, .ref a1, .ref a2, .ref a3, .ref a4, .ref a5, .ref a6, .ref a7, .int 0, .ref a8, .int 0, .ref a9, .ref a10, .int 1, .ref a11, .int 0, .ref a12, .int 0, .int 0, .null, .int 0, .int 0, .int 0, .int 0, .ref a13, .ref a14, .ref a15, .int (-1), .int 0, .int 0, .int 0, .int 0, .int 0, .int 0, .int 0, .ref a16, .int 0, .ref a17, .int 0, .ref a18, .ref a19, .int 0, .int 0, .int 0, .int 0, .ref a20, .ref a21, .ref a22, .ref a23, .ref a24, .ref a25, .ref a26, .ref a27, .ref a28, .int 0, .ref a29, .ref a30, .ref a31, .long 0, .int 0, .int 0, .int 0, .long 0, .int 0, .ref a32, .int 0, .int 0, .int 0, .int 0, .ref a33, .ref a34, .ref a35])), (a34, .inl (y 2, 2, .inl (upd nz 1 1))), (a35, .inl (y 0, 2, .inl nz)), (a7, .inl (y 0, 9, .inl nz)), (a33, .inl (y 0, 104, .inl nz)), (a8, .inl (y 0, 9, .inl nz)), (a1, .inl (y 0, 9, .inl nz)), (a9, .inl (y 0, 9, .inl nz)), (a6, .inl (y 0, 9, .inl nz)), (a10, .inl (y 0, 4, .inl (upd nz 2 99)))]) hx hb hK hP hD hS 4 0 rfl rfl (n_in (by decide +kernel)) (by rw [nb_upI (f := nz) (i := Int32.toNatClampNeg 74) (x := 0) rfl]; rfl) dX12_keep_98 (fun H locs hP hD hS => ?_)
  refine lv_aload_n hx hb dX12_keep_99 rfl (lv_at hl 2 rfl) ?_
  refine va_get (D := D) (ci := 12) (v := .ref a33) (C := RX12) (T := TX12) (N := 72) hx hb hts iX12_keep_X12 hown hK hP 0 rfl rfl 69 (by decide +kernel) w_4 (fun _ h9 => h9) rfl dX12_keep_100 ?_
  refine lv_iload_n hx hb dX12_keep_103 rfl (lv_at hl 1 rfl) ?_
  refine lv_iconst (v := 5) hx hb dX12_keep_104 (by decide +kernel) ?_
  refine lv_iload_n hx hb dX12_keep_105 rfl (lv_at hl 0 rfl) ?_
  refine lv_imul hx hb dX12_keep_106 ?_
  refine nv_i (v := 20) (by decide +kernel) ?_
  refine lv_iadd hx hb dX12_keep_107 ?_
  refine nv_i (v := 72) (by decide +kernel) ?_
  refine lv_iconst (v := 3) hx hb dX12_keep_108 (by decide +kernel) ?_
  refine lv_iadd hx hb dX12_keep_109 ?_
  refine nv_i (v := 75) (by decide +kernel) ?_
  refine lv_aload_n hx hb dX12_keep_110 rfl (lv_at hl 2 rfl) ?_
  refine va_get (D := D) (ci := 12) (v := .ref a9) (C := RX12) (T := TX12) (N := 72) hx hb hts iX12_keep_X12 hown hK hP 0 rfl rfl 11 (by decide +kernel) w_8 (fun _ h9 => h9) rfl dX12_keep_111 ?_
  refine lv_iload_n hx hb dX12_keep_114 rfl (lv_at hl 0 rfl) ?_
  refine va_iald hx hb hK hP 7 0 rfl rfl (n_in (by decide +kernel)) dX12_keep_115 ?_
  refine nv_i (v := 0) rfl ?_
  refine nb_iast (ws' := [(a0, .inr (12, [.int 0, .ref a1, .ref a2, .ref a3, .ref a4, .ref a5, .ref a6, .ref a7, .int 0, .ref a8, .int 0, .ref a9, .ref a10, .int 1, .ref a11, .int 0, .ref a12, .int 0, .int 0, .null, .int 0, .int 0, .int 0, .int 0, .ref a13, .ref a14, .ref a15, .int (-1), .int 0, .int 0, .int 0, .int 0, .int 0, .int 0, .int 0, .ref a16, .int 0, .ref a17, .int 0, .ref a18, .ref a19, .int 0, .int 0, .int 0, .int 0, .ref a20, .ref a21, .ref a22, .ref a23, .ref a24, .ref a25, .ref a26, .ref a27, .ref a28, .int 0, .ref a29, .ref a30, .ref a31, .long 0, .int 0, .int 0, .int 0, .long 0, .int 0, .ref a32, .int 0, .int 0, .int 0, .int 0, .ref a33, .ref a34, .ref a35])), (a34, .inl (y 2, 2, .inl (upd nz 1 1))), (a35, .inl (y 0, 2, .inl nz)), (a7, .inl (y 0, 9, .inl nz)), (a33, .inl (y 0, 104, .inl nz)), (a8, .inl (y 0, 9, .inl nz)), (a1, .inl (y 0, 9, .inl nz)), (a9, .inl (y 0, 9, .inl nz)), (a6, .inl (y 0, 9, .inl nz)), (a10, .inl (y 0, 4, .inl (upd nz 2 99)))]) hx hb hK hP hD hS 4 0 rfl rfl (n_in (by decide +kernel)) (by rw [nb_upI (f := nz) (i := Int32.toNatClampNeg 75) (x := 0) rfl]; rfl) dX12_keep_116 (fun H locs hP hD hS => ?_)
  refine lv_aload_n hx hb dX12_keep_117 rfl (lv_at hl 2 rfl) ?_
  refine va_get (D := D) (ci := 12) (v := .ref a33) (C := RX12) (T := TX12) (N := 72) hx hb hts iX12_keep_X12 hown hK hP 0 rfl rfl 69 (by decide +kernel) w_4 (fun _ h9 => h9) rfl dX12_keep_118 ?_
  refine lv_iload_n hx hb dX12_keep_121 rfl (lv_at hl 1 rfl) ?_
  refine lv_iconst (v := 5) hx hb dX12_keep_122 (by decide +kernel) ?_
  refine lv_iload_n hx hb dX12_keep_123 rfl (lv_at hl 0 rfl) ?_
  refine lv_imul hx hb dX12_keep_124 ?_
  refine nv_i (v := 20) (by decide +kernel) ?_
  refine lv_iadd hx hb dX12_keep_125 ?_
  refine nv_i (v := 72) (by decide +kernel) ?_
  refine lv_iconst (v := 4) hx hb dX12_keep_126 (by decide +kernel) ?_
  refine lv_iadd hx hb dX12_keep_127 ?_
  refine nv_i (v := 76) (by decide +kernel) ?_
  refine lv_aload_n hx hb dX12_keep_128 rfl (lv_at hl 2 rfl) ?_
  refine va_get (D := D) (ci := 12) (v := .ref a6) (C := RX12) (T := TX12) (N := 72) hx hb hts iX12_keep_X12 hown hK hP 0 rfl rfl 6 (by decide +kernel) w_9 (fun _ h9 => h9) rfl dX12_keep_129 ?_
  refine lv_iload_n hx hb dX12_keep_132 rfl (lv_at hl 0 rfl) ?_
  refine va_iald hx hb hK hP 8 0 rfl rfl (n_in (by decide +kernel)) dX12_keep_133 ?_
  refine nv_i (v := 0) rfl ?_
  refine nb_iast (ws' := [(a0, .inr (12, [.int 0, .ref a1, .ref a2, .ref a3, .ref a4, .ref a5, .ref a6, .ref a7, .int 0, .ref a8, .int 0, .ref a9, .ref a10, .int 1, .ref a11, .int 0, .ref a12, .int 0, .int 0, .null, .int 0, .int 0, .int 0, .int 0, .ref a13, .ref a14, .ref a15, .int (-1), .int 0, .int 0, .int 0, .int 0, .int 0, .int 0, .int 0, .ref a16, .int 0, .ref a17, .int 0, .ref a18, .ref a19, .int 0, .int 0, .int 0, .int 0, .ref a20, .ref a21, .ref a22, .ref a23, .ref a24, .ref a25, .ref a26, .ref a27, .ref a28, .int 0, .ref a29, .ref a30, .ref a31, .long 0, .int 0, .int 0, .int 0, .long 0, .int 0, .ref a32, .int 0, .int 0, .int 0, .int 0, .ref a33, .ref a34, .ref a35])), (a34, .inl (y 2, 2, .inl (upd nz 1 1))), (a35, .inl (y 0, 2, .inl nz)), (a7, .inl (y 0, 9, .inl nz)), (a33, .inl (y 0, 104, .inl nz)), (a8, .inl (y 0, 9, .inl nz)), (a1, .inl (y 0, 9, .inl nz)), (a9, .inl (y 0, 9, .inl nz)), (a6, .inl (y 0, 9, .inl nz)), (a10, .inl (y 0, 4, .inl (upd nz 2 99)))]) hx hb hK hP hD hS 4 0 rfl rfl (n_in (by decide +kernel)) (by rw [nb_upI (f := nz) (i := Int32.toNatClampNeg 76) (x := 0) rfl]; rfl) dX12_keep_134 (fun H locs hP hD hS => ?_)
  refine lv_iinc (v := 5) (lv' := [(3, .int 5), (2, .int 52), (0, .ref a0), (1, .int 1)]) hx hb dX12_keep_135 hl (k := 0) rfl (by decide +kernel) (by decide +kernel) rfl (fun ls hl => ?_)
  refine lv_goto (tgt := 41) hx hb dX12_keep_138 (by decide +kernel) ?_
  refine lv_iload_n hx hb dX12_keep_41 rfl (lv_at hl 0 rfl) ?_
  refine lv_bipush (v := 9) hx hb dX12_keep_42 (by decide +kernel) ?_
  refine lv_icmp_ge (tgt := 141) hx hb dX12_keep_44 (by decide +kernel) (fun c => absurd c (by decide +kernel)) (fun _ => ?_)
  refine lv_aload_n hx hb dX12_keep_47 rfl (lv_at hl 2 rfl) ?_
  refine va_get (D := D) (ci := 12) (v := .ref a33) (C := RX12) (T := TX12) (N := 72) hx hb hts iX12_keep_X12 hown hK hP 0 rfl rfl 69 (by decide +kernel) w_4 (fun _ h9 => h9) rfl dX12_keep_48 ?_
  refine lv_iload_n hx hb dX12_keep_51 rfl (lv_at hl 1 rfl) ?_
  refine lv_iconst (v := 5) hx hb dX12_keep_52 (by decide +kernel) ?_
  refine lv_iload_n hx hb dX12_keep_53 rfl (lv_at hl 0 rfl) ?_
  refine lv_imul hx hb dX12_keep_54 ?_
  refine nv_i (v := 25) (by decide +kernel) ?_
  refine lv_iadd hx hb dX12_keep_55 ?_
  refine nv_i (v := 77) (by decide +kernel) ?_
  refine lv_aload_n hx hb dX12_keep_56 rfl (lv_at hl 2 rfl) ?_
  refine va_get (D := D) (ci := 12) (v := .ref a7) (C := RX12) (T := TX12) (N := 72) hx hb hts iX12_keep_X12 hown hK hP 0 rfl rfl 7 (by decide +kernel) w_5 (fun _ h9 => h9) rfl dX12_keep_57 ?_
  refine lv_iload_n hx hb dX12_keep_60 rfl (lv_at hl 0 rfl) ?_
  refine va_iald hx hb hK hP 3 0 rfl rfl (n_in (by decide +kernel)) dX12_keep_61 ?_
  refine nv_i (v := 0) rfl ?_
  refine nb_iast (ws' := [(a0, .inr (12, [.int 0, .ref a1, .ref a2, .ref a3, .ref a4, .ref a5, .ref a6, .ref a7, .int 0, .ref a8, .int 0, .ref a9, .ref a10, .int 1, .ref a11, .int 0, .ref a12, .int 0, .int 0, .null, .int 0, .int 0, .int 0, .int 0, .ref a13, .ref a14, .ref a15, .int (-1), .int 0, .int 0, .int 0, .int 0, .int 0, .int 0, .int 0, .ref a16, .int 0, .ref a17, .int 0, .ref a18, .ref a19, .int 0, .int 0, .int 0, .int 0, .ref a20, .ref a21, .ref a22, .ref a23, .ref a24, .ref a25, .ref a26, .ref a27, .ref a28, .int 0, .ref a29, .ref a30, .ref a31, .long 0, .int 0, .int 0, .int 0, .long 0, .int 0, .ref a32, .int 0, .int 0, .int 0, .int 0, .ref a33, .ref a34, .ref a35])), (a34, .inl (y 2, 2, .inl (upd nz 1 1))), (a35, .inl (y 0, 2, .inl nz)), (a7, .inl (y 0, 9, .inl nz)), (a33, .inl (y 0, 104, .inl nz)), (a8, .inl (y 0, 9, .inl nz)), (a1, .inl (y 0, 9, .inl nz)), (a9, .inl (y 0, 9, .inl nz)), (a6, .inl (y 0, 9, .inl nz)), (a10, .inl (y 0, 4, .inl (upd nz 2 99)))]) hx hb hK hP hD hS 4 0 rfl rfl (n_in (by decide +kernel)) (by rw [nb_upI (f := nz) (i := Int32.toNatClampNeg 77) (x := 0) rfl]; rfl) dX12_keep_62 (fun H locs hP hD hS => ?_)
  refine lv_aload_n hx hb dX12_keep_63 rfl (lv_at hl 2 rfl) ?_
  refine va_get (D := D) (ci := 12) (v := .ref a33) (C := RX12) (T := TX12) (N := 72) hx hb hts iX12_keep_X12 hown hK hP 0 rfl rfl 69 (by decide +kernel) w_4 (fun _ h9 => h9) rfl dX12_keep_64 ?_
  refine lv_iload_n hx hb dX12_keep_67 rfl (lv_at hl 1 rfl) ?_
  refine lv_iconst (v := 5) hx hb dX12_keep_68 (by decide +kernel) ?_
  refine lv_iload_n hx hb dX12_keep_69 rfl (lv_at hl 0 rfl) ?_
  refine lv_imul hx hb dX12_keep_70 ?_
  refine nv_i (v := 25) (by decide +kernel) ?_
  refine lv_iadd hx hb dX12_keep_71 ?_
  refine nv_i (v := 77) (by decide +kernel) ?_
  refine lv_iconst (v := 1) hx hb dX12_keep_72 (by decide +kernel) ?_
  refine lv_iadd hx hb dX12_keep_73 ?_
  refine nv_i (v := 78) (by decide +kernel) ?_
  refine lv_aload_n hx hb dX12_keep_74 rfl (lv_at hl 2 rfl) ?_
  refine va_get (D := D) (ci := 12) (v := .ref a8) (C := RX12) (T := TX12) (N := 72) hx hb hts iX12_keep_X12 hown hK hP 0 rfl rfl 9 (by decide +kernel) w_6 (fun _ h9 => h9) rfl dX12_keep_75 ?_
  refine lv_iload_n hx hb dX12_keep_78 rfl (lv_at hl 0 rfl) ?_
  refine va_iald hx hb hK hP 5 0 rfl rfl (n_in (by decide +kernel)) dX12_keep_79 ?_
  refine nv_i (v := 0) rfl ?_
  refine nb_iast (ws' := [(a0, .inr (12, [.int 0, .ref a1, .ref a2, .ref a3, .ref a4, .ref a5, .ref a6, .ref a7, .int 0, .ref a8, .int 0, .ref a9, .ref a10, .int 1, .ref a11, .int 0, .ref a12, .int 0, .int 0, .null, .int 0, .int 0, .int 0, .int 0, .ref a13, .ref a14, .ref a15, .int (-1), .int 0, .int 0, .int 0, .int 0, .int 0, .int 0, .int 0, .ref a16, .int 0, .ref a17, .int 0, .ref a18, .ref a19, .int 0, .int 0, .int 0, .int 0, .ref a20, .ref a21, .ref a22, .ref a23, .ref a24, .ref a25, .ref a26, .ref a27, .ref a28, .int 0, .ref a29, .ref a30, .ref a31, .long 0, .int 0, .int 0, .int 0, .long 0, .int 0, .ref a32, .int 0, .int 0, .int 0, .int 0, .ref a33, .ref a34, .ref a35])), (a34, .inl (y 2, 2, .inl (upd nz 1 1))), (a35, .inl (y 0, 2, .inl nz)), (a7, .inl (y 0, 9, .inl nz)), (a33, .inl (y 0, 104, .inl nz)), (a8, .inl (y 0, 9, .inl nz)), (a1, .inl (y 0, 9, .inl nz)), (a9, .inl (y 0, 9, .inl nz)), (a6, .inl (y 0, 9, .inl nz)), (a10, .inl (y 0, 4, .inl (upd nz 2 99)))]) hx hb hK hP hD hS 4 0 rfl rfl (n_in (by decide +kernel)) (by rw [nb_upI (f := nz) (i := Int32.toNatClampNeg 78) (x := 0) rfl]; rfl) dX12_keep_80 (fun H locs hP hD hS => ?_)
  refine lv_aload_n hx hb dX12_keep_81 rfl (lv_at hl 2 rfl) ?_
  refine va_get (D := D) (ci := 12) (v := .ref a33) (C := RX12) (T := TX12) (N := 72) hx hb hts iX12_keep_X12 hown hK hP 0 rfl rfl 69 (by decide +kernel) w_4 (fun _ h9 => h9) rfl dX12_keep_82 ?_
  refine lv_iload_n hx hb dX12_keep_85 rfl (lv_at hl 1 rfl) ?_
  refine lv_iconst (v := 5) hx hb dX12_keep_86 (by decide +kernel) ?_
  refine lv_iload_n hx hb dX12_keep_87 rfl (lv_at hl 0 rfl) ?_
  refine lv_imul hx hb dX12_keep_88 ?_
  refine nv_i (v := 25) (by decide +kernel) ?_
  refine lv_iadd hx hb dX12_keep_89 ?_
  refine nv_i (v := 77) (by decide +kernel) ?_
  refine lv_iconst (v := 2) hx hb dX12_keep_90 (by decide +kernel) ?_
  refine lv_iadd hx hb dX12_keep_91 ?_
  refine nv_i (v := 79) (by decide +kernel) ?_
  refine lv_aload_n hx hb dX12_keep_92 rfl (lv_at hl 2 rfl) ?_
  refine va_get (D := D) (ci := 12) (v := .ref a1) (C := RX12) (T := TX12) (N := 72) hx hb hts iX12_keep_X12 hown hK hP 0 rfl rfl 1 (by decide +kernel) w_7 (fun _ h9 => h9) rfl dX12_keep_93 ?_
  refine lv_iload_n hx hb dX12_keep_96 rfl (lv_at hl 0 rfl) ?_
  refine va_iald hx hb hK hP 6 0 rfl rfl (n_in (by decide +kernel)) dX12_keep_97 ?_
  refine nv_i (v := 0) rfl ?_
  refine nb_iast (ws' := [(a0, .inr (12, [.int 0, .ref a1, .ref a2, .ref a3, .ref a4, .ref a5, .ref a6, .ref a7, .int 0, .ref a8, .int 0, .ref a9, .ref a10, .int 1, .ref a11, .int 0, .ref a12, .int 0, .int 0, .null, .int 0, .int 0, .int 0, .int 0, .ref a13, .ref a14, .ref a15, .int (-1), .int 0, .int 0, .int 0, .int 0, .int 0, .int 0, .int 0, .ref a16, .int 0, .ref a17, .int 0, .ref a18, .ref a19, .int 0, .int 0, .int 0, .int 0, .ref a20, .ref a21, .ref a22, .ref a23, .ref a24, .ref a25, .ref a26, .ref a27, .ref a28, .int 0, .ref a29, .ref a30, .ref a31, .long 0, .int 0, .int 0, .int 0, .long 0, .int 0, .ref a32, .int 0, .int 0, .int 0, .int 0, .ref a33, .ref a34, .ref a35])), (a34, .inl (y 2, 2, .inl (upd nz 1 1))), (a35, .inl (y 0, 2, .inl nz)), (a7, .inl (y 0, 9, .inl nz)), (a33, .inl (y 0, 104, .inl nz)), (a8, .inl (y 0, 9, .inl nz)), (a1, .inl (y 0, 9, .inl nz)), (a9, .inl (y 0, 9, .inl nz)), (a6, .inl (y 0, 9, .inl nz)), (a10, .inl (y 0, 4, .inl (upd nz 2 99)))]) hx hb hK hP hD hS 4 0 rfl rfl (n_in (by decide +kernel)) (by rw [nb_upI (f := nz) (i := Int32.toNatClampNeg 79) (x := 0) rfl]; rfl) dX12_keep_98 (fun H locs hP hD hS => ?_)
  refine lv_aload_n hx hb dX12_keep_99 rfl (lv_at hl 2 rfl) ?_
  refine va_get (D := D) (ci := 12) (v := .ref a33) (C := RX12) (T := TX12) (N := 72) hx hb hts iX12_keep_X12 hown hK hP 0 rfl rfl 69 (by decide +kernel) w_4 (fun _ h9 => h9) rfl dX12_keep_100 ?_
  refine lv_iload_n hx hb dX12_keep_103 rfl (lv_at hl 1 rfl) ?_
  refine lv_iconst (v := 5) hx hb dX12_keep_104 (by decide +kernel) ?_
  refine lv_iload_n hx hb dX12_keep_105 rfl (lv_at hl 0 rfl) ?_
  refine lv_imul hx hb dX12_keep_106 ?_
  refine nv_i (v := 25) (by decide +kernel) ?_
  refine lv_iadd hx hb dX12_keep_107 ?_
  refine nv_i (v := 77) (by decide +kernel) ?_
  refine lv_iconst (v := 3) hx hb dX12_keep_108 (by decide +kernel) ?_
  refine lv_iadd hx hb dX12_keep_109 ?_
  refine nv_i (v := 80) (by decide +kernel) ?_
  refine lv_aload_n hx hb dX12_keep_110 rfl (lv_at hl 2 rfl) ?_
  refine va_get (D := D) (ci := 12) (v := .ref a9) (C := RX12) (T := TX12) (N := 72) hx hb hts iX12_keep_X12 hown hK hP 0 rfl rfl 11 (by decide +kernel) w_8 (fun _ h9 => h9) rfl dX12_keep_111 ?_
  refine lv_iload_n hx hb dX12_keep_114 rfl (lv_at hl 0 rfl) ?_
  refine va_iald hx hb hK hP 7 0 rfl rfl (n_in (by decide +kernel)) dX12_keep_115 ?_
  refine nv_i (v := 0) rfl ?_
  refine nb_iast (ws' := [(a0, .inr (12, [.int 0, .ref a1, .ref a2, .ref a3, .ref a4, .ref a5, .ref a6, .ref a7, .int 0, .ref a8, .int 0, .ref a9, .ref a10, .int 1, .ref a11, .int 0, .ref a12, .int 0, .int 0, .null, .int 0, .int 0, .int 0, .int 0, .ref a13, .ref a14, .ref a15, .int (-1), .int 0, .int 0, .int 0, .int 0, .int 0, .int 0, .int 0, .ref a16, .int 0, .ref a17, .int 0, .ref a18, .ref a19, .int 0, .int 0, .int 0, .int 0, .ref a20, .ref a21, .ref a22, .ref a23, .ref a24, .ref a25, .ref a26, .ref a27, .ref a28, .int 0, .ref a29, .ref a30, .ref a31, .long 0, .int 0, .int 0, .int 0, .long 0, .int 0, .ref a32, .int 0, .int 0, .int 0, .int 0, .ref a33, .ref a34, .ref a35])), (a34, .inl (y 2, 2, .inl (upd nz 1 1))), (a35, .inl (y 0, 2, .inl nz)), (a7, .inl (y 0, 9, .inl nz)), (a33, .inl (y 0, 104, .inl nz)), (a8, .inl (y 0, 9, .inl nz)), (a1, .inl (y 0, 9, .inl nz)), (a9, .inl (y 0, 9, .inl nz)), (a6, .inl (y 0, 9, .inl nz)), (a10, .inl (y 0, 4, .inl (upd nz 2 99)))]) hx hb hK hP hD hS 4 0 rfl rfl (n_in (by decide +kernel)) (by rw [nb_upI (f := nz) (i := Int32.toNatClampNeg 80) (x := 0) rfl]; rfl) dX12_keep_116 (fun H locs hP hD hS => ?_)
  refine lv_aload_n hx hb dX12_keep_117 rfl (lv_at hl 2 rfl) ?_
  refine va_get (D := D) (ci := 12) (v := .ref a33) (C := RX12) (T := TX12) (N := 72) hx hb hts iX12_keep_X12 hown hK hP 0 rfl rfl 69 (by decide +kernel) w_4 (fun _ h9 => h9) rfl dX12_keep_118 ?_
  refine lv_iload_n hx hb dX12_keep_121 rfl (lv_at hl 1 rfl) ?_
  refine lv_iconst (v := 5) hx hb dX12_keep_122 (by decide +kernel) ?_
  refine lv_iload_n hx hb dX12_keep_123 rfl (lv_at hl 0 rfl) ?_
  refine lv_imul hx hb dX12_keep_124 ?_
  refine nv_i (v := 25) (by decide +kernel) ?_
  refine lv_iadd hx hb dX12_keep_125 ?_
  refine nv_i (v := 77) (by decide +kernel) ?_
  refine lv_iconst (v := 4) hx hb dX12_keep_126 (by decide +kernel) ?_
  refine lv_iadd hx hb dX12_keep_127 ?_
  refine nv_i (v := 81) (by decide +kernel) ?_
  refine lv_aload_n hx hb dX12_keep_128 rfl (lv_at hl 2 rfl) ?_
  refine va_get (D := D) (ci := 12) (v := .ref a6) (C := RX12) (T := TX12) (N := 72) hx hb hts iX12_keep_X12 hown hK hP 0 rfl rfl 6 (by decide +kernel) w_9 (fun _ h9 => h9) rfl dX12_keep_129 ?_
  refine lv_iload_n hx hb dX12_keep_132 rfl (lv_at hl 0 rfl) ?_
  refine va_iald hx hb hK hP 8 0 rfl rfl (n_in (by decide +kernel)) dX12_keep_133 ?_
  refine nv_i (v := 0) rfl ?_
  refine nb_iast (ws' := [(a0, .inr (12, [.int 0, .ref a1, .ref a2, .ref a3, .ref a4, .ref a5, .ref a6, .ref a7, .int 0, .ref a8, .int 0, .ref a9, .ref a10, .int 1, .ref a11, .int 0, .ref a12, .int 0, .int 0, .null, .int 0, .int 0, .int 0, .int 0, .ref a13, .ref a14, .ref a15, .int (-1), .int 0, .int 0, .int 0, .int 0, .int 0, .int 0, .int 0, .ref a16, .int 0, .ref a17, .int 0, .ref a18, .ref a19, .int 0, .int 0, .int 0, .int 0, .ref a20, .ref a21, .ref a22, .ref a23, .ref a24, .ref a25, .ref a26, .ref a27, .ref a28, .int 0, .ref a29, .ref a30, .ref a31, .long 0, .int 0, .int 0, .int 0, .long 0, .int 0, .ref a32, .int 0, .int 0, .int 0, .int 0, .ref a33, .ref a34, .ref a35])), (a34, .inl (y 2, 2, .inl (upd nz 1 1))), (a35, .inl (y 0, 2, .inl nz)), (a7, .inl (y 0, 9, .inl nz)), (a33, .inl (y 0, 104, .inl nz)), (a8, .inl (y 0, 9, .inl nz)), (a1, .inl (y 0, 9, .inl nz)), (a9, .inl (y 0, 9, .inl nz)), (a6, .inl (y 0, 9, .inl nz)), (a10, .inl (y 0, 4, .inl (upd nz 2 99)))]) hx hb hK hP hD hS 4 0 rfl rfl (n_in (by decide +kernel)) (by rw [nb_upI (f := nz) (i := Int32.toNatClampNeg 81) (x := 0) rfl]; rfl) dX12_keep_134 (fun H locs hP hD hS => ?_)
  refine lv_iinc (v := 6) (lv' := [(3, .int 6), (2, .int 52), (0, .ref a0), (1, .int 1)]) hx hb dX12_keep_135 hl (k := 0) rfl (by decide +kernel) (by decide +kernel) rfl (fun ls hl => ?_)
  refine lv_goto (tgt := 41) hx hb dX12_keep_138 (by decide +kernel) ?_
  refine lv_iload_n hx hb dX12_keep_41 rfl (lv_at hl 0 rfl) ?_
  refine lv_bipush (v := 9) hx hb dX12_keep_42 (by decide +kernel) ?_
  refine lv_icmp_ge (tgt := 141) hx hb dX12_keep_44 (by decide +kernel) (fun c => absurd c (by decide +kernel)) (fun _ => ?_)
  refine lv_aload_n hx hb dX12_keep_47 rfl (lv_at hl 2 rfl) ?_
  refine va_get (D := D) (ci := 12) (v := .ref a33) (C := RX12) (T := TX12) (N := 72) hx hb hts iX12_keep_X12 hown hK hP 0 rfl rfl 69 (by decide +kernel) w_4 (fun _ h9 => h9) rfl dX12_keep_48 ?_
  refine lv_iload_n hx hb dX12_keep_51 rfl (lv_at hl 1 rfl) ?_
  refine lv_iconst (v := 5) hx hb dX12_keep_52 (by decide +kernel) ?_
  refine lv_iload_n hx hb dX12_keep_53 rfl (lv_at hl 0 rfl) ?_
  refine lv_imul hx hb dX12_keep_54 ?_
  refine nv_i (v := 30) (by decide +kernel) ?_
  refine lv_iadd hx hb dX12_keep_55 ?_
  refine nv_i (v := 82) (by decide +kernel) ?_
  refine lv_aload_n hx hb dX12_keep_56 rfl (lv_at hl 2 rfl) ?_
  refine va_get (D := D) (ci := 12) (v := .ref a7) (C := RX12) (T := TX12) (N := 72) hx hb hts iX12_keep_X12 hown hK hP 0 rfl rfl 7 (by decide +kernel) w_5 (fun _ h9 => h9) rfl dX12_keep_57 ?_
  refine lv_iload_n hx hb dX12_keep_60 rfl (lv_at hl 0 rfl) ?_
  refine va_iald hx hb hK hP 3 0 rfl rfl (n_in (by decide +kernel)) dX12_keep_61 ?_
  refine nv_i (v := 0) rfl ?_
  refine nb_iast (ws' := [(a0, .inr (12, [.int 0, .ref a1, .ref a2, .ref a3, .ref a4, .ref a5, .ref a6, .ref a7, .int 0, .ref a8, .int 0, .ref a9, .ref a10, .int 1, .ref a11, .int 0, .ref a12, .int 0, .int 0, .null, .int 0, .int 0, .int 0, .int 0, .ref a13, .ref a14, .ref a15, .int (-1), .int 0, .int 0, .int 0, .int 0, .int 0, .int 0, .int 0, .ref a16, .int 0, .ref a17, .int 0, .ref a18, .ref a19, .int 0, .int 0, .int 0, .int 0, .ref a20, .ref a21, .ref a22, .ref a23, .ref a24, .ref a25, .ref a26, .ref a27, .ref a28, .int 0, .ref a29, .ref a30, .ref a31, .long 0, .int 0, .int 0, .int 0, .long 0, .int 0, .ref a32, .int 0, .int 0, .int 0, .int 0, .ref a33, .ref a34, .ref a35])), (a34, .inl (y 2, 2, .inl (upd nz 1 1))), (a35, .inl (y 0, 2, .inl nz)), (a7, .inl (y 0, 9, .inl nz)), (a33, .inl (y 0, 104, .inl nz)), (a8, .inl (y 0, 9, .inl nz)), (a1, .inl (y 0, 9, .inl nz)), (a9, .inl (y 0, 9, .inl nz)), (a6, .inl (y 0, 9, .inl nz)), (a10, .inl (y 0, 4, .inl (upd nz 2 99)))]) hx hb hK hP hD hS 4 0 rfl rfl (n_in (by decide +kernel)) (by rw [nb_upI (f := nz) (i := Int32.toNatClampNeg 82) (x := 0) rfl]; rfl) dX12_keep_62 (fun H locs hP hD hS => ?_)
  refine lv_aload_n hx hb dX12_keep_63 rfl (lv_at hl 2 rfl) ?_
  refine va_get (D := D) (ci := 12) (v := .ref a33) (C := RX12) (T := TX12) (N := 72) hx hb hts iX12_keep_X12 hown hK hP 0 rfl rfl 69 (by decide +kernel) w_4 (fun _ h9 => h9) rfl dX12_keep_64 ?_
  refine lv_iload_n hx hb dX12_keep_67 rfl (lv_at hl 1 rfl) ?_
  refine lv_iconst (v := 5) hx hb dX12_keep_68 (by decide +kernel) ?_
  refine lv_iload_n hx hb dX12_keep_69 rfl (lv_at hl 0 rfl) ?_
  refine lv_imul hx hb dX12_keep_70 ?_
  refine nv_i (v := 30) (by decide +kernel) ?_
  refine lv_iadd hx hb dX12_keep_71 ?_
  refine nv_i (v := 82) (by decide +kernel) ?_
  refine lv_iconst (v := 1) hx hb dX12_keep_72 (by decide +kernel) ?_
  refine lv_iadd hx hb dX12_keep_73 ?_
  refine nv_i (v := 83) (by decide +kernel) ?_
  refine lv_aload_n hx hb dX12_keep_74 rfl (lv_at hl 2 rfl) ?_
  refine va_get (D := D) (ci := 12) (v := .ref a8) (C := RX12) (T := TX12) (N := 72) hx hb hts iX12_keep_X12 hown hK hP 0 rfl rfl 9 (by decide +kernel) w_6 (fun _ h9 => h9) rfl dX12_keep_75 ?_
  refine lv_iload_n hx hb dX12_keep_78 rfl (lv_at hl 0 rfl) ?_
  refine va_iald hx hb hK hP 5 0 rfl rfl (n_in (by decide +kernel)) dX12_keep_79 ?_
  refine nv_i (v := 0) rfl ?_
  refine nb_iast (ws' := [(a0, .inr (12, [.int 0, .ref a1, .ref a2, .ref a3, .ref a4, .ref a5, .ref a6, .ref a7, .int 0, .ref a8, .int 0, .ref a9, .ref a10, .int 1, .ref a11, .int 0, .ref a12, .int 0, .int 0, .null, .int 0, .int 0, .int 0, .int 0, .ref a13, .ref a14, .ref a15, .int (-1), .int 0, .int 0, .int 0, .int 0, .int 0, .int 0, .int 0, .ref a16, .int 0, .ref a17, .int 0, .ref a18, .ref a19, .int 0, .int 0, .int 0, .int 0, .ref a20, .ref a21, .ref a22, .ref a23, .ref a24, .ref a25, .ref a26, .ref a27, .ref a28, .int 0, .ref a29, .ref a30, .ref a31, .long 0, .int 0, .int 0, .int 0, .long 0, .int 0, .ref a32, .int 0, .int 0, .int 0, .int 0, .ref a33, .ref a34, .ref a35])), (a34, .inl (y 2, 2, .inl (upd nz 1 1))), (a35, .inl (y 0, 2, .inl nz)), (a7, .inl (y 0, 9, .inl nz)), (a33, .inl (y 0, 104, .inl nz)), (a8, .inl (y 0, 9, .inl nz)), (a1, .inl (y 0, 9, .inl nz)), (a9, .inl (y 0, 9, .inl nz)), (a6, .inl (y 0, 9, .inl nz)), (a10, .inl (y 0, 4, .inl (upd nz 2 99)))]) hx hb hK hP hD hS 4 0 rfl rfl (n_in (by decide +kernel)) (by rw [nb_upI (f := nz) (i := Int32.toNatClampNeg 83) (x := 0) rfl]; rfl) dX12_keep_80 (fun H locs hP hD hS => ?_)
  refine lv_aload_n hx hb dX12_keep_81 rfl (lv_at hl 2 rfl) ?_
  refine va_get (D := D) (ci := 12) (v := .ref a33) (C := RX12) (T := TX12) (N := 72) hx hb hts iX12_keep_X12 hown hK hP 0 rfl rfl 69 (by decide +kernel) w_4 (fun _ h9 => h9) rfl dX12_keep_82 ?_
  refine lv_iload_n hx hb dX12_keep_85 rfl (lv_at hl 1 rfl) ?_
  refine lv_iconst (v := 5) hx hb dX12_keep_86 (by decide +kernel) ?_
  refine lv_iload_n hx hb dX12_keep_87 rfl (lv_at hl 0 rfl) ?_
  refine lv_imul hx hb dX12_keep_88 ?_
  refine nv_i (v := 30) (by decide +kernel) ?_
  refine lv_iadd hx hb dX12_keep_89 ?_
  refine nv_i (v := 82) (by decide +kernel) ?_
  refine lv_iconst (v := 2) hx hb dX12_keep_90 (by decide +kernel) ?_
  refine lv_iadd hx hb dX12_keep_91 ?_
  refine nv_i (v := 84) (by decide +kernel) ?_
  refine lv_aload_n hx hb dX12_keep_92 rfl (lv_at hl 2 rfl) ?_
  refine va_get (D := D) (ci := 12) (v := .ref a1) (C := RX12) (T := TX12) (N := 72) hx hb hts iX12_keep_X12 hown hK hP 0 rfl rfl 1 (by decide +kernel) w_7 (fun _ h9 => h9) rfl dX12_keep_93 ?_
  refine lv_iload_n hx hb dX12_keep_96 rfl (lv_at hl 0 rfl) ?_
  refine va_iald hx hb hK hP 6 0 rfl rfl (n_in (by decide +kernel)) dX12_keep_97 ?_
  refine nv_i (v := 0) rfl ?_
  refine nb_iast (ws' := [(a0, .inr (12, [.int 0, .ref a1, .ref a2, .ref a3, .ref a4, .ref a5, .ref a6, .ref a7, .int 0, .ref a8, .int 0, .ref a9, .ref a10, .int 1, .ref a11, .int 0, .ref a12, .int 0, .int 0, .null, .int 0, .int 0, .int 0, .int 0, .ref a13, .ref a14, .ref a15, .int (-1), .int 0, .int 0, .int 0, .int 0, .int 0, .int 0, .int 0, .ref a16, .int 0, .ref a17, .int 0, .ref a18, .ref a19, .int 0, .int 0, .int 0, .int 0, .ref a20, .ref a21, .ref a22, .ref a23, .ref a24, .ref a25, .ref a26, .ref a27, .ref a28, .int 0, .ref a29, .ref a30, .ref a31, .long 0, .int 0, .int 0, .int 0, .long 0, .int 0, .ref a32, .int 0, .int 0, .int 0, .int 0, .ref a33, .ref a34, .ref a35])), (a34, .inl (y 2, 2, .inl (upd nz 1 1))), (a35, .inl (y 0, 2, .inl nz)), (a7, .inl (y 0, 9, .inl nz)), (a33, .inl (y 0, 104, .inl nz)), (a8, .inl (y 0, 9, .inl nz)), (a1, .inl (y 0, 9, .inl nz)), (a9, .inl (y 0, 9, .inl nz)), (a6, .inl (y 0, 9, .inl nz)), (a10, .inl (y 0, 4, .inl (upd nz 2 99)))]) hx hb hK hP hD hS 4 0 rfl rfl (n_in (by decide +kernel)) (by rw [nb_upI (f := nz) (i := Int32.toNatClampNeg 84) (x := 0) rfl]; rfl) dX12_keep_98 (fun H locs hP hD hS => ?_)
  refine lv_aload_n hx hb dX12_keep_99 rfl (lv_at hl 2 rfl) ?_
  refine va_get (D := D) (ci := 12) (v := .ref a33) (C := RX12) (T := TX12) (N := 72) hx hb hts iX12_keep_X12 hown hK hP 0 rfl rfl 69 (by decide +kernel) w_4 (fun _ h9 => h9) rfl dX12_keep_100 ?_
  refine lv_iload_n hx hb dX12_keep_103 rfl (lv_at hl 1 rfl) ?_
  refine lv_iconst (v := 5) hx hb dX12_keep_104 (by decide +kernel) ?_
  refine lv_iload_n hx hb dX12_keep_105 rfl (lv_at hl 0 rfl) ?_
  refine lv_imul hx hb dX12_keep_106 ?_
  refine nv_i (v := 30) (by decide +kernel) ?_
  refine lv_iadd hx hb dX12_keep_107 ?_
  refine nv_i (v := 82) (by decide +kernel) ?_
  refine lv_iconst (v := 3) hx hb dX12_keep_108 (by decide +kernel) ?_
  refine lv_iadd hx hb dX12_keep_109 ?_
  refine nv_i (v := 85) (by decide +kernel) ?_
  refine lv_aload_n hx hb dX12_keep_110 rfl (lv_at hl 2 rfl) ?_
  refine va_get (D := D) (ci := 12) (v := .ref a9) (C := RX12) (T := TX12) (N := 72) hx hb hts iX12_keep_X12 hown hK hP 0 rfl rfl 11 (by decide +kernel) w_8 (fun _ h9 => h9) rfl dX12_keep_111 ?_
  refine lv_iload_n hx hb dX12_keep_114 rfl (lv_at hl 0 rfl) ?_
  refine va_iald hx hb hK hP 7 0 rfl rfl (n_in (by decide +kernel)) dX12_keep_115 ?_
  refine nv_i (v := 0) rfl ?_
  refine nb_iast (ws' := [(a0, .inr (12, [.int 0, .ref a1, .ref a2, .ref a3, .ref a4, .ref a5, .ref a6, .ref a7, .int 0, .ref a8, .int 0, .ref a9, .ref a10, .int 1, .ref a11, .int 0, .ref a12, .int 0, .int 0, .null, .int 0, .int 0, .int 0, .int 0, .ref a13, .ref a14, .ref a15, .int (-1), .int 0, .int 0, .int 0, .int 0, .int 0, .int 0, .int 0, .ref a16, .int 0, .ref a17, .int 0, .ref a18, .ref a19, .int 0, .int 0, .int 0, .int 0, .ref a20, .ref a21, .ref a22, .ref a23, .ref a24, .ref a25, .ref a26, .ref a27, .ref a28, .int 0, .ref a29, .ref a30, .ref a31, .long 0, .int 0, .int 0, .int 0, .long 0, .int 0, .ref a32, .int 0, .int 0, .int 0, .int 0, .ref a33, .ref a34, .ref a35])), (a34, .inl (y 2, 2, .inl (upd nz 1 1))), (a35, .inl (y 0, 2, .inl nz)), (a7, .inl (y 0, 9, .inl nz)), (a33, .inl (y 0, 104, .inl nz)), (a8, .inl (y 0, 9, .inl nz)), (a1, .inl (y 0, 9, .inl nz)), (a9, .inl (y 0, 9, .inl nz)), (a6, .inl (y 0, 9, .inl nz)), (a10, .inl (y 0, 4, .inl (upd nz 2 99)))]) hx hb hK hP hD hS 4 0 rfl rfl (n_in (by decide +kernel)) (by rw [nb_upI (f := nz) (i := Int32.toNatClampNeg 85) (x := 0) rfl]; rfl) dX12_keep_116 (fun H locs hP hD hS => ?_)
  refine lv_aload_n hx hb dX12_keep_117 rfl (lv_at hl 2 rfl) ?_
  refine va_get (D := D) (ci := 12) (v := .ref a33) (C := RX12) (T := TX12) (N := 72) hx hb hts iX12_keep_X12 hown hK hP 0 rfl rfl 69 (by decide +kernel) w_4 (fun _ h9 => h9) rfl dX12_keep_118 ?_
  refine lv_iload_n hx hb dX12_keep_121 rfl (lv_at hl 1 rfl) ?_
  refine lv_iconst (v := 5) hx hb dX12_keep_122 (by decide +kernel) ?_
  refine lv_iload_n hx hb dX12_keep_123 rfl (lv_at hl 0 rfl) ?_
  refine lv_imul hx hb dX12_keep_124 ?_
  refine nv_i (v := 30) (by decide +kernel) ?_
  refine lv_iadd hx hb dX12_keep_125 ?_
  refine nv_i (v := 82) (by decide +kernel) ?_
  refine lv_iconst (v := 4) hx hb dX12_keep_126 (by decide +kernel) ?_
  refine lv_iadd hx hb dX12_keep_127 ?_
  refine nv_i (v := 86) (by decide +kernel) ?_
  refine lv_aload_n hx hb dX12_keep_128 rfl (lv_at hl 2 rfl) ?_
  refine va_get (D := D) (ci := 12) (v := .ref a6) (C := RX12) (T := TX12) (N := 72) hx hb hts iX12_keep_X12 hown hK hP 0 rfl rfl 6 (by decide +kernel) w_9 (fun _ h9 => h9) rfl dX12_keep_129 ?_
  refine lv_iload_n hx hb dX12_keep_132 rfl (lv_at hl 0 rfl) ?_
  refine va_iald hx hb hK hP 8 0 rfl rfl (n_in (by decide +kernel)) dX12_keep_133 ?_
  refine nv_i (v := 0) rfl ?_
  refine nb_iast (ws' := [(a0, .inr (12, [.int 0, .ref a1, .ref a2, .ref a3, .ref a4, .ref a5, .ref a6, .ref a7, .int 0, .ref a8, .int 0, .ref a9, .ref a10, .int 1, .ref a11, .int 0, .ref a12, .int 0, .int 0, .null, .int 0, .int 0, .int 0, .int 0, .ref a13, .ref a14, .ref a15, .int (-1), .int 0, .int 0, .int 0, .int 0, .int 0, .int 0, .int 0, .ref a16, .int 0, .ref a17, .int 0, .ref a18, .ref a19, .int 0, .int 0, .int 0, .int 0, .ref a20, .ref a21, .ref a22, .ref a23, .ref a24, .ref a25, .ref a26, .ref a27, .ref a28, .int 0, .ref a29, .ref a30, .ref a31, .long 0, .int 0, .int 0, .int 0, .long 0, .int 0, .ref a32, .int 0, .int 0, .int 0, .int 0, .ref a33, .ref a34, .ref a35])), (a34, .inl (y 2, 2, .inl (upd nz 1 1))), (a35, .inl (y 0, 2, .inl nz)), (a7, .inl (y 0, 9, .inl nz)), (a33, .inl (y 0, 104, .inl nz)), (a8, .inl (y 0, 9, .inl nz)), (a1, .inl (y 0, 9, .inl nz)), (a9, .inl (y 0, 9, .inl nz)), (a6, .inl (y 0, 9, .inl nz)), (a10, .inl (y 0, 4, .inl (upd nz 2 99)))]) hx hb hK hP hD hS 4 0 rfl rfl (n_in (by decide +kernel)) (by rw [nb_upI (f := nz) (i := Int32.toNatClampNeg 86) (x := 0) rfl]; rfl) dX12_keep_134 (fun H locs hP hD hS => ?_)
  refine lv_iinc (v := 7) (lv' := [(3, .int 7), (2, .int 52), (0, .ref a0), (1, .int 1)]) hx hb dX12_keep_135 hl (k := 0) rfl (by decide +kernel) (by decide +kernel) rfl (fun ls hl => ?_)
  refine lv_goto (tgt := 41) hx hb dX12_keep_138 (by decide +kernel) ?_
  refine lv_iload_n hx hb dX12_keep_41 rfl (lv_at hl 0 rfl) ?_
  refine lv_bipush (v := 9) hx hb dX12_keep_42 (by decide +kernel) ?_
  refine lv_icmp_ge (tgt := 141) hx hb dX12_keep_44 (by decide +kernel) (fun c => absurd c (by decide +kernel)) (fun _ => ?_)
  refine lv_aload_n hx hb dX12_keep_47 rfl (lv_at hl 2 rfl) ?_
  refine va_get (D := D) (ci := 12) (v := .ref a33) (C := RX12) (T := TX12) (N := 72) hx hb hts iX12_keep_X12 hown hK hP 0 rfl rfl 69 (by decide +kernel) w_4 (fun _ h9 => h9) rfl dX12_keep_48 ?_
  refine lv_iload_n hx hb dX12_keep_51 rfl (lv_at hl 1 rfl) ?_
  refine lv_iconst (v := 5) hx hb dX12_keep_52 (by decide +kernel) ?_
  refine lv_iload_n hx hb dX12_keep_53 rfl (lv_at hl 0 rfl) ?_
  refine lv_imul hx hb dX12_keep_54 ?_
  refine nv_i (v := 35) (by decide +kernel) ?_
  refine lv_iadd hx hb dX12_keep_55 ?_
  refine nv_i (v := 87) (by decide +kernel) ?_
  refine lv_aload_n hx hb dX12_keep_56 rfl (lv_at hl 2 rfl) ?_
  refine va_get (D := D) (ci := 12) (v := .ref a7) (C := RX12) (T := TX12) (N := 72) hx hb hts iX12_keep_X12 hown hK hP 0 rfl rfl 7 (by decide +kernel) w_5 (fun _ h9 => h9) rfl dX12_keep_57 ?_
  refine lv_iload_n hx hb dX12_keep_60 rfl (lv_at hl 0 rfl) ?_
  refine va_iald hx hb hK hP 3 0 rfl rfl (n_in (by decide +kernel)) dX12_keep_61 ?_
  refine nv_i (v := 0) rfl ?_
  refine nb_iast (ws' := [(a0, .inr (12, [.int 0, .ref a1, .ref a2, .ref a3, .ref a4, .ref a5, .ref a6, .ref a7, .int 0, .ref a8, .int 0, .ref a9, .ref a10, .int 1, .ref a11, .int 0, .ref a12, .int 0, .int 0, .null, .int 0, .int 0, .int 0, .int 0, .ref a13, .ref a14, .ref a15, .int (-1), .int 0, .int 0, .int 0, .int 0, .int 0, .int 0, .int 0, .ref a16, .int 0, .ref a17, .int 0, .ref a18, .ref a19, .int 0, .int 0, .int 0, .int 0, .ref a20, .ref a21, .ref a22, .ref a23, .ref a24, .ref a25, .ref a26, .ref a27, .ref a28, .int 0, .ref a29, .ref a30, .ref a31, .long 0, .int 0, .int 0, .int 0, .long 0, .int 0, .ref a32, .int 0, .int 0, .int 0, .int 0, .ref a33, .ref a34, .ref a35])), (a34, .inl (y 2, 2, .inl (upd nz 1 1))), (a35, .inl (y 0, 2, .inl nz)), (a7, .inl (y 0, 9, .inl nz)), (a33, .inl (y 0, 104, .inl nz)), (a8, .inl (y 0, 9, .inl nz)), (a1, .inl (y 0, 9, .inl nz)), (a9, .inl (y 0, 9, .inl nz)), (a6, .inl (y 0, 9, .inl nz)), (a10, .inl (y 0, 4, .inl (upd nz 2 99)))]) hx hb hK hP hD hS 4 0 rfl rfl (n_in (by decide +kernel)) (by rw [nb_upI (f := nz) (i := Int32.toNatClampNeg 87) (x := 0) rfl]; rfl) dX12_keep_62 (fun H locs hP hD hS => ?_)
  refine lv_aload_n hx hb dX12_keep_63 rfl (lv_at hl 2 rfl) ?_
  refine va_get (D := D) (ci := 12) (v := .ref a33) (C := RX12) (T := TX12) (N := 72) hx hb hts iX12_keep_X12 hown hK hP 0 rfl rfl 69 (by decide +kernel) w_4 (fun _ h9 => h9) rfl dX12_keep_64 ?_
  refine lv_iload_n hx hb dX12_keep_67 rfl (lv_at hl 1 rfl) ?_
  refine lv_iconst (v := 5) hx hb dX12_keep_68 (by decide +kernel) ?_
  refine lv_iload_n hx hb dX12_keep_69 rfl (lv_at hl 0 rfl) ?_
  refine lv_imul hx hb dX12_keep_70 ?_
  refine nv_i (v := 35) (by decide +kernel) ?_
  refine lv_iadd hx hb dX12_keep_71 ?_
  refine nv_i (v := 87) (by decide +kernel) ?_
  refine lv_iconst (v := 1) hx hb dX12_keep_72 (by decide +kernel) ?_
  refine lv_iadd hx hb dX12_keep_73 ?_
  refine nv_i (v := 88) (by decide +kernel) ?_
  refine lv_aload_n hx hb dX12_keep_74 rfl (lv_at hl 2 rfl) ?_
  refine va_get (D := D) (ci := 12) (v := .ref a8) (C := RX12) (T := TX12) (N := 72) hx hb hts iX12_keep_X12 hown hK hP 0 rfl rfl 9 (by decide +kernel) w_6 (fun _ h9 => h9) rfl dX12_keep_75 ?_
  refine lv_iload_n hx hb dX12_keep_78 rfl (lv_at hl 0 rfl) ?_
  refine va_iald hx hb hK hP 5 0 rfl rfl (n_in (by decide +kernel)) dX12_keep_79 ?_
  refine nv_i (v := 0) rfl ?_
  refine nb_iast (ws' := [(a0, .inr (12, [.int 0, .ref a1, .ref a2, .ref a3, .ref a4, .ref a5, .ref a6, .ref a7, .int 0, .ref a8, .int 0, .ref a9, .ref a10, .int 1, .ref a11, .int 0, .ref a12, .int 0, .int 0, .null, .int 0, .int 0, .int 0, .int 0, .ref a13, .ref a14, .ref a15, .int (-1), .int 0, .int 0, .int 0, .int 0, .int 0, .int 0, .int 0, .ref a16, .int 0, .ref a17, .int 0, .ref a18, .ref a19, .int 0, .int 0, .int 0, .int 0, .ref a20, .ref a21, .ref a22, .ref a23, .ref a24, .ref a25, .ref a26, .ref a27, .ref a28, .int 0, .ref a29, .ref a30, .ref a31, .long 0, .int 0, .int 0, .int 0, .long 0, .int 0, .ref a32, .int 0, .int 0, .int 0, .int 0, .ref a33, .ref a34, .ref a35])), (a34, .inl (y 2, 2, .inl (upd nz 1 1))), (a35, .inl (y 0, 2, .inl nz)), (a7, .inl (y 0, 9, .inl nz)), (a33, .inl (y 0, 104, .inl nz)), (a8, .inl (y 0, 9, .inl nz)), (a1, .inl (y 0, 9, .inl nz)), (a9, .inl (y 0, 9, .inl nz)), (a6, .inl (y 0, 9, .inl nz)), (a10, .inl (y 0, 4, .inl (upd nz 2 99)))]) hx hb hK hP hD hS 4 0 rfl rfl (n_in (by decide +kernel)) (by rw [nb_upI (f := nz) (i := Int32.toNatClampNeg 88) (x := 0) rfl]; rfl) dX12_keep_80 (fun H locs hP hD hS => ?_)
  refine lv_aload_n hx hb dX12_keep_81 rfl (lv_at hl 2 rfl) ?_
  refine va_get (D := D) (ci := 12) (v := .ref a33) (C := RX12) (T := TX12) (N := 72) hx hb hts iX12_keep_X12 hown hK hP 0 rfl rfl 69 (by decide +kernel) w_4 (fun _ h9 => h9) rfl dX12_keep_82 ?_
  refine lv_iload_n hx hb dX12_keep_85 rfl (lv_at hl 1 rfl) ?_
  refine lv_iconst (v := 5) hx hb dX12_keep_86 (by decide +kernel) ?_
  refine lv_iload_n hx hb dX12_keep_87 rfl (lv_at hl 0 rfl) ?_
  refine lv_imul hx hb dX12_keep_88 ?_
  refine nv_i (v := 35) (by decide +kernel) ?_
  refine lv_iadd hx hb dX12_keep_89 ?_
  refine nv_i (v := 87) (by decide +kernel) ?_
  refine lv_iconst (v := 2) hx hb dX12_keep_90 (by decide +kernel) ?_
  refine lv_iadd hx hb dX12_keep_91 ?_
  refine nv_i (v := 89) (by decide +kernel) ?_
  refine lv_aload_n hx hb dX12_keep_92 rfl (lv_at hl 2 rfl) ?_
  refine va_get (D := D) (ci := 12) (v := .ref a1) (C := RX12) (T := TX12) (N := 72) hx hb hts iX12_keep_X12 hown hK hP 0 rfl rfl 1 (by decide +kernel) w_7 (fun _ h9 => h9) rfl dX12_keep_93 ?_
  refine lv_iload_n hx hb dX12_keep_96 rfl (lv_at hl 0 rfl) ?_
  refine va_iald hx hb hK hP 6 0 rfl rfl (n_in (by decide +kernel)) dX12_keep_97 ?_
  refine nv_i (v := 0) rfl ?_
  refine nb_iast (ws' := [(a0, .inr (12, [.int 0, .ref a1, .ref a2, .ref a3, .ref a4, .ref a5, .ref a6, .ref a7, .int 0, .ref a8, .int 0, .ref a9, .ref a10, .int 1, .ref a11, .int 0, .ref a12, .int 0, .int 0, .null, .int 0, .int 0, .int 0, .int 0, .ref a13, .ref a14, .ref a15, .int (-1), .int 0, .int 0, .int 0, .int 0, .int 0, .int 0, .int 0, .ref a16, .int 0, .ref a17, .int 0, .ref a18, .ref a19, .int 0, .int 0, .int 0, .int 0, .ref a20, .ref a21, .ref a22, .ref a23, .ref a24, .ref a25, .ref a26, .ref a27, .ref a28, .int 0, .ref a29, .ref a30, .ref a31, .long 0, .int 0, .int 0, .int 0, .long 0, .int 0, .ref a32, .int 0, .int 0, .int 0, .int 0, .ref a33, .ref a34, .ref a35])), (a34, .inl (y 2, 2, .inl (upd nz 1 1))), (a35, .inl (y 0, 2, .inl nz)), (a7, .inl (y 0, 9, .inl nz)), (a33, .inl (y 0, 104, .inl nz)), (a8, .inl (y 0, 9, .inl nz)), (a1, .inl (y 0, 9, .inl nz)), (a9, .inl (y 0, 9, .inl nz)), (a6, .inl (y 0, 9, .inl nz)), (a10, .inl (y 0, 4, .inl (upd nz 2 99)))]) hx hb hK hP hD hS 4 0 rfl rfl (n_in (by decide +kernel)) (by rw [nb_upI (f := nz) (i := Int32.toNatClampNeg 89) (x := 0) rfl]; rfl) dX12_keep_98 (fun H locs hP hD hS => ?_)
  refine lv_aload_n hx hb dX12_keep_99 rfl (lv_at hl 2 rfl) ?_
  refine va_get (D := D) (ci := 12) (v := .ref a33) (C := RX12) (T := TX12) (N := 72) hx hb hts iX12_keep_X12 hown hK hP 0 rfl rfl 69 (by decide +kernel) w_4 (fun _ h9 => h9) rfl dX12_keep_100 ?_
  refine lv_iload_n hx hb dX12_keep_103 rfl (lv_at hl 1 rfl) ?_
  refine lv_iconst (v := 5) hx hb dX12_keep_104 (by decide +kernel) ?_
  refine lv_iload_n hx hb dX12_keep_105 rfl (lv_at hl 0 rfl) ?_
  refine lv_imul hx hb dX12_keep_106 ?_
  refine nv_i (v := 35) (by decide +kernel) ?_
  refine lv_iadd hx hb dX12_keep_107 ?_
  refine nv_i (v := 87) (by decide +kernel) ?_
  refine lv_iconst (v := 3) hx hb dX12_keep_108 (by decide +kernel) ?_
  refine lv_iadd hx hb dX12_keep_109 ?_
  refine nv_i (v := 90) (by decide +kernel) ?_
  refine lv_aload_n hx hb dX12_keep_110 rfl (lv_at hl 2 rfl) ?_
  refine va_get (D := D) (ci := 12) (v := .ref a9) (C := RX12) (T := TX12) (N := 72) hx hb hts iX12_keep_X12 hown hK hP 0 rfl rfl 11 (by decide +kernel) w_8 (fun _ h9 => h9) rfl dX12_keep_111 ?_
  refine lv_iload_n hx hb dX12_keep_114 rfl (lv_at hl 0 rfl) ?_
  refine va_iald hx hb hK hP 7 0 rfl rfl (n_in (by decide +kernel)) dX12_keep_115 ?_
  refine nv_i (v := 0) rfl ?_
  refine nb_iast (ws' := [(a0, .inr (12, [.int 0, .ref a1, .ref a2, .ref a3, .ref a4, .ref a5, .ref a6, .ref a7, .int 0, .ref a8, .int 0, .ref a9, .ref a10, .int 1, .ref a11, .int 0, .ref a12, .int 0, .int 0, .null, .int 0, .int 0, .int 0, .int 0, .ref a13, .ref a14, .ref a15, .int (-1), .int 0, .int 0, .int 0, .int 0, .int 0, .int 0, .int 0, .ref a16, .int 0, .ref a17, .int 0, .ref a18, .ref a19, .int 0, .int 0, .int 0, .int 0, .ref a20, .ref a21, .ref a22, .ref a23, .ref a24, .ref a25, .ref a26, .ref a27, .ref a28, .int 0, .ref a29, .ref a30, .ref a31, .long 0, .int 0, .int 0, .int 0, .long 0, .int 0, .ref a32, .int 0, .int 0, .int 0, .int 0, .ref a33, .ref a34, .ref a35])), (a34, .inl (y 2, 2, .inl (upd nz 1 1))), (a35, .inl (y 0, 2, .inl nz)), (a7, .inl (y 0, 9, .inl nz)), (a33, .inl (y 0, 104, .inl nz)), (a8, .inl (y 0, 9, .inl nz)), (a1, .inl (y 0, 9, .inl nz)), (a9, .inl (y 0, 9, .inl nz)), (a6, .inl (y 0, 9, .inl nz)), (a10, .inl (y 0, 4, .inl (upd nz 2 99)))]) hx hb hK hP hD hS 4 0 rfl rfl (n_in (by decide +kernel)) (by rw [nb_upI (f := nz) (i := Int32.toNatClampNeg 90) (x := 0) rfl]; rfl) dX12_keep_116 (fun H locs hP hD hS => ?_)
  refine lv_aload_n hx hb dX12_keep_117 rfl (lv_at hl 2 rfl) ?_
  refine va_get (D := D) (ci := 12) (v := .ref a33) (C := RX12) (T := TX12) (N := 72) hx hb hts iX12_keep_X12 hown hK hP 0 rfl rfl 69 (by decide +kernel) w_4 (fun _ h9 => h9) rfl dX12_keep_118 ?_
  refine lv_iload_n hx hb dX12_keep_121 rfl (lv_at hl 1 rfl) ?_
  refine lv_iconst (v := 5) hx hb dX12_keep_122 (by decide +kernel) ?_
  refine lv_iload_n hx hb dX12_keep_123 rfl (lv_at hl 0 rfl) ?_
  refine lv_imul hx hb dX12_keep_124 ?_
  refine nv_i (v := 35) (by decide +kernel) ?_
  refine lv_iadd hx hb dX12_keep_125 ?_
  refine nv_i (v := 87) (by decide +kernel) ?_
  refine lv_iconst (v := 4) hx hb dX12_keep_126 (by decide +kernel) ?_
  refine lv_iadd hx hb dX12_keep_127 ?_
  refine nv_i (v := 91) (by decide +kernel) ?_
  refine lv_aload_n hx hb dX12_keep_128 rfl (lv_at hl 2 rfl) ?_
  refine va_get (D := D) (ci := 12) (v := .ref a6) (C := RX12) (T := TX12) (N := 72) hx hb hts iX12_keep_X12 hown hK hP 0 rfl rfl 6 (by decide +kernel) w_9 (fun _ h9 => h9) rfl dX12_keep_129 ?_
  refine lv_iload_n hx hb dX12_keep_132 rfl (lv_at hl 0 rfl) ?_
  refine va_iald hx hb hK hP 8 0 rfl rfl (n_in (by decide +kernel)) dX12_keep_133 ?_
  refine nv_i (v := 0) rfl ?_
  refine nb_iast (ws' := [(a0, .inr (12, [.int 0, .ref a1, .ref a2, .ref a3, .ref a4, .ref a5, .ref a6, .ref a7, .int 0, .ref a8, .int 0, .ref a9, .ref a10, .int 1, .ref a11, .int 0, .ref a12, .int 0, .int 0, .null, .int 0, .int 0, .int 0, .int 0, .ref a13, .ref a14, .ref a15, .int (-1), .int 0, .int 0, .int 0, .int 0, .int 0, .int 0, .int 0, .ref a16, .int 0, .ref a17, .int 0, .ref a18, .ref a19, .int 0, .int 0, .int 0, .int 0, .ref a20, .ref a21, .ref a22, .ref a23, .ref a24, .ref a25, .ref a26, .ref a27, .ref a28, .int 0, .ref a29, .ref a30, .ref a31, .long 0, .int 0, .int 0, .int 0, .long 0, .int 0, .ref a32, .int 0, .int 0, .int 0, .int 0, .ref a33, .ref a34, .ref a35])), (a34, .inl (y 2, 2, .inl (upd nz 1 1))), (a35, .inl (y 0, 2, .inl nz)), (a7, .inl (y 0, 9, .inl nz)), (a33, .inl (y 0, 104, .inl nz)), (a8, .inl (y 0, 9, .inl nz)), (a1, .inl (y 0, 9, .inl nz)), (a9, .inl (y 0, 9, .inl nz)), (a6, .inl (y 0, 9, .inl nz)), (a10, .inl (y 0, 4, .inl (upd nz 2 99)))]) hx hb hK hP hD hS 4 0 rfl rfl (n_in (by decide +kernel)) (by rw [nb_upI (f := nz) (i := Int32.toNatClampNeg 91) (x := 0) rfl]; rfl) dX12_keep_134 (fun H locs hP hD hS => ?_)
  refine lv_iinc (v := 8) (lv' := [(3, .int 8), (2, .int 52), (0, .ref a0), (1, .int 1)]) hx hb dX12_keep_135 hl (k := 0) rfl (by decide +kernel) (by decide +kernel) rfl (fun ls hl => ?_)
  refine lv_goto (tgt := 41) hx hb dX12_keep_138 (by decide +kernel) ?_
  refine lv_iload_n hx hb dX12_keep_41 rfl (lv_at hl 0 rfl) ?_
  refine lv_bipush (v := 9) hx hb dX12_keep_42 (by decide +kernel) ?_
  refine lv_icmp_ge (tgt := 141) hx hb dX12_keep_44 (by decide +kernel) (fun c => absurd c (by decide +kernel)) (fun _ => ?_)
  refine lv_aload_n hx hb dX12_keep_47 rfl (lv_at hl 2 rfl) ?_
  refine va_get (D := D) (ci := 12) (v := .ref a33) (C := RX12) (T := TX12) (N := 72) hx hb hts iX12_keep_X12 hown hK hP 0 rfl rfl 69 (by decide +kernel) w_4 (fun _ h9 => h9) rfl dX12_keep_48 ?_
  refine lv_iload_n hx hb dX12_keep_51 rfl (lv_at hl 1 rfl) ?_
  refine lv_iconst (v := 5) hx hb dX12_keep_52 (by decide +kernel) ?_
  refine lv_iload_n hx hb dX12_keep_53 rfl (lv_at hl 0 rfl) ?_
  refine lv_imul hx hb dX12_keep_54 ?_
  refine nv_i (v := 40) (by decide +kernel) ?_
  refine lv_iadd hx hb dX12_keep_55 ?_
  refine nv_i (v := 92) (by decide +kernel) ?_
  refine lv_aload_n hx hb dX12_keep_56 rfl (lv_at hl 2 rfl) ?_
  refine va_get (D := D) (ci := 12) (v := .ref a7) (C := RX12) (T := TX12) (N := 72) hx hb hts iX12_keep_X12 hown hK hP 0 rfl rfl 7 (by decide +kernel) w_5 (fun _ h9 => h9) rfl dX12_keep_57 ?_
  refine lv_iload_n hx hb dX12_keep_60 rfl (lv_at hl 0 rfl) ?_
  refine va_iald hx hb hK hP 3 0 rfl rfl (n_in (by decide +kernel)) dX12_keep_61 ?_
  refine nv_i (v := 0) rfl ?_
  refine nb_iast (ws' := [(a0, .inr (12, [.int 0, .ref a1, .ref a2, .ref a3, .ref a4, .ref a5, .ref a6, .ref a7, .int 0, .ref a8, .int 0, .ref a9, .ref a10, .int 1, .ref a11, .int 0, .ref a12, .int 0, .int 0, .null, .int 0, .int 0, .int 0, .int 0, .ref a13, .ref a14, .ref a15, .int (-1), .int 0, .int 0, .int 0, .int 0, .int 0, .int 0, .int 0, .ref a16, .int 0, .ref a17, .int 0, .ref a18, .ref a19, .int 0, .int 0, .int 0, .int 0, .ref a20, .ref a21, .ref a22, .ref a23, .ref a24, .ref a25, .ref a26, .ref a27, .ref a28, .int 0, .ref a29, .ref a30, .ref a31, .long 0, .int 0, .int 0, .int 0, .long 0, .int 0, .ref a32, .int 0, .int 0, .int 0, .int 0, .ref a33, .ref a34, .ref a35])), (a34, .inl (y 2, 2, .inl (upd nz 1 1))), (a35, .inl (y 0, 2, .inl nz)), (a7, .inl (y 0, 9, .inl nz)), (a33, .inl (y 0, 104, .inl nz)), (a8, .inl (y 0, 9, .inl nz)), (a1, .inl (y 0, 9, .inl nz)), (a9, .inl (y 0, 9, .inl nz)), (a6, .inl (y 0, 9, .inl nz)), (a10, .inl (y 0, 4, .inl (upd nz 2 99)))]) hx hb hK hP hD hS 4 0 rfl rfl (n_in (by decide +kernel)) (by rw [nb_upI (f := nz) (i := Int32.toNatClampNeg 92) (x := 0) rfl]; rfl) dX12_keep_62 (fun H locs hP hD hS => ?_)
  refine lv_aload_n hx hb dX12_keep_63 rfl (lv_at hl 2 rfl) ?_
  refine va_get (D := D) (ci := 12) (v := .ref a33) (C := RX12) (T := TX12) (N := 72) hx hb hts iX12_keep_X12 hown hK hP 0 rfl rfl 69 (by decide +kernel) w_4 (fun _ h9 => h9) rfl dX12_keep_64 ?_
  refine lv_iload_n hx hb dX12_keep_67 rfl (lv_at hl 1 rfl) ?_
  refine lv_iconst (v := 5) hx hb dX12_keep_68 (by decide +kernel) ?_
  refine lv_iload_n hx hb dX12_keep_69 rfl (lv_at hl 0 rfl) ?_
  refine lv_imul hx hb dX12_keep_70 ?_
  refine nv_i (v := 40) (by decide +kernel) ?_
  refine lv_iadd hx hb dX12_keep_71 ?_
  refine nv_i (v := 92) (by decide +kernel) ?_
  refine lv_iconst (v := 1) hx hb dX12_keep_72 (by decide +kernel) ?_
  refine lv_iadd hx hb dX12_keep_73 ?_
  refine nv_i (v := 93) (by decide +kernel) ?_
  refine lv_aload_n hx hb dX12_keep_74 rfl (lv_at hl 2 rfl) ?_
  refine va_get (D := D) (ci := 12) (v := .ref a8) (C := RX12) (T := TX12) (N := 72) hx hb hts iX12_keep_X12 hown hK hP 0 rfl rfl 9 (by decide +kernel) w_6 (fun _ h9 => h9) rfl dX12_keep_75 ?_
  refine lv_iload_n hx hb dX12_keep_78 rfl (lv_at hl 0 rfl) ?_
  refine va_iald hx hb hK hP 5 0 rfl rfl (n_in (by decide +kernel)) dX12_keep_79 ?_
  refine nv_i (v := 0) rfl ?_
  refine nb_iast (ws' := [(a0, .inr (12, [.int 0, .ref a1, .ref a2, .ref a3, .ref a4, .ref a5, .ref a6, .ref a7, .int 0, .ref a8, .int 0, .ref a9, .ref a10, .int 1, .ref a11, .int 0, .ref a12, .int 0, .int 0, .null, .int 0, .int 0, .int 0, .int 0, .ref a13, .ref a14, .ref a15, .int (-1), .int 0, .int 0, .int 0, .int 0, .int 0, .int 0, .int 0, .ref a16, .int 0, .ref a17, .int 0, .ref a18, .ref a19, .int 0, .int 0, .int 0, .int 0, .ref a20, .ref a21, .ref a22, .ref a23, .ref a24, .ref a25, .ref a26, .ref a27, .ref a28, .int 0, .ref a29, .ref a30, .ref a31, .long 0, .int 0, .int 0, .int 0, .long 0, .int 0, .ref a32, .int 0, .int 0, .int 0, .int 0, .ref a33, .ref a34, .ref a35])), (a34, .inl (y 2, 2, .inl (upd nz 1 1))), (a35, .inl (y 0, 2, .inl nz)), (a7, .inl (y 0, 9, .inl nz)), (a33, .inl (y 0, 104, .inl nz)), (a8, .inl (y 0, 9, .inl nz)), (a1, .inl (y 0, 9, .inl nz)), (a9, .inl (y 0, 9, .inl nz)), (a6, .inl (y 0, 9, .inl nz)), (a10, .inl (y 0, 4, .inl (upd nz 2 99)))]) hx hb hK hP hD hS 4 0 rfl rfl (n_in (by decide +kernel)) (by rw [nb_upI (f := nz) (i := Int32.toNatClampNeg 93) (x := 0) rfl]; rfl) dX12_keep_80 (fun H locs hP hD hS => ?_)
  refine lv_aload_n hx hb dX12_keep_81 rfl (lv_at hl 2 rfl) ?_
  refine va_get (D := D) (ci := 12) (v := .ref a33) (C := RX12) (T := TX12) (N := 72) hx hb hts iX12_keep_X12 hown hK hP 0 rfl rfl 69 (by decide +kernel) w_4 (fun _ h9 => h9) rfl dX12_keep_82 ?_
  refine lv_iload_n hx hb dX12_keep_85 rfl (lv_at hl 1 rfl) ?_
  refine lv_iconst (v := 5) hx hb dX12_keep_86 (by decide +kernel) ?_
  refine lv_iload_n hx hb dX12_keep_87 rfl (lv_at hl 0 rfl) ?_
  refine lv_imul hx hb dX12_keep_88 ?_
  refine nv_i (v := 40) (by decide +kernel) ?_
  refine lv_iadd hx hb dX12_keep_89 ?_
  refine nv_i (v := 92) (by decide +kernel) ?_
  refine lv_iconst (v := 2) hx hb dX12_keep_90 (by decide +kernel) ?_
  refine lv_iadd hx hb dX12_keep_91 ?_
  refine nv_i (v := 94) (by decide +kernel) ?_
  refine lv_aload_n hx hb dX12_keep_92 rfl (lv_at hl 2 rfl) ?_
  refine va_get (D := D) (ci := 12) (v := .ref a1) (C := RX12) (T := TX12) (N := 72) hx hb hts iX12_keep_X12 hown hK hP 0 rfl rfl 1 (by decide +kernel) w_7 (fun _ h9 => h9) rfl dX12_keep_93 ?_
  refine lv_iload_n hx hb dX12_keep_96 rfl (lv_at hl 0 rfl) ?_
  refine va_iald hx hb hK hP 6 0 rfl rfl (n_in (by decide +kernel)) dX12_keep_97 ?_
  refine nv_i (v := 0) rfl ?_
  refine nb_iast (ws' := [(a0, .inr (12, [.int 0, .ref a1, .ref a2, .ref a3, .ref a4, .ref a5, .ref a6, .ref a7, .int 0, .ref a8, .int 0, .ref a9, .ref a10, .int 1, .ref a11, .int 0, .ref a12, .int 0, .int 0, .null, .int 0, .int 0, .int 0, .int 0, .ref a13, .ref a14, .ref a15, .int (-1), .int 0, .int 0, .int 0, .int 0, .int 0, .int 0, .int 0, .ref a16, .int 0, .ref a17, .int 0, .ref a18, .ref a19, .int 0, .int 0, .int 0, .int 0, .ref a20, .ref a21, .ref a22, .ref a23, .ref a24, .ref a25, .ref a26, .ref a27, .ref a28, .int 0, .ref a29, .ref a30, .ref a31, .long 0, .int 0, .int 0, .int 0, .long 0, .int 0, .ref a32, .int 0, .int 0, .int 0, .int 0, .ref a33, .ref a34, .ref a35])), (a34, .inl (y 2, 2, .inl (upd nz 1 1))), (a35, .inl (y 0, 2, .inl nz)), (a7, .inl (y 0, 9, .inl nz)), (a33, .inl (y 0, 104, .inl nz)), (a8, .inl (y 0, 9, .inl nz)), (a1, .inl (y 0, 9, .inl nz)), (a9, .inl (y 0, 9, .inl nz)), (a6, .inl (y 0, 9, .inl nz)), (a10, .inl (y 0, 4, .inl (upd nz 2 99)))]) hx hb hK hP hD hS 4 0 rfl rfl (n_in (by decide +kernel)) (by rw [nb_upI (f := nz) (i := Int32.toNatClampNeg 94) (x := 0) rfl]; rfl) dX12_keep_98 (fun H locs hP hD hS => ?_)
  refine lv_aload_n hx hb dX12_keep_99 rfl (lv_at hl 2 rfl) ?_
  refine va_get (D := D) (ci := 12) (v := .ref a33) (C := RX12) (T := TX12) (N := 72) hx hb hts iX12_keep_X12 hown hK hP 0 rfl rfl 69 (by decide +kernel) w_4 (fun _ h9 => h9) rfl dX12_keep_100 ?_
  refine lv_iload_n hx hb dX12_keep_103 rfl (lv_at hl 1 rfl) ?_
  refine lv_iconst (v := 5) hx hb dX12_keep_104 (by decide +kernel) ?_
  refine lv_iload_n hx hb dX12_keep_105 rfl (lv_at hl 0 rfl) ?_
  refine lv_imul hx hb dX12_keep_106 ?_
  refine nv_i (v := 40) (by decide +kernel) ?_
  refine lv_iadd hx hb dX12_keep_107 ?_
  refine nv_i (v := 92) (by decide +kernel) ?_
  refine lv_iconst (v := 3) hx hb dX12_keep_108 (by decide +kernel) ?_
  refine lv_iadd hx hb dX12_keep_109 ?_
  refine nv_i (v := 95) (by decide +kernel) ?_
  refine lv_aload_n hx hb dX12_keep_110 rfl (lv_at hl 2 rfl) ?_
  refine va_get (D := D) (ci := 12) (v := .ref a9) (C := RX12) (T := TX12) (N := 72) hx hb hts iX12_keep_X12 hown hK hP 0 rfl rfl 11 (by decide +kernel) w_8 (fun _ h9 => h9) rfl dX12_keep_111 ?_
  refine lv_iload_n hx hb dX12_keep_114 rfl (lv_at hl 0 rfl) ?_
  refine va_iald hx hb hK hP 7 0 rfl rfl (n_in (by decide +kernel)) dX12_keep_115 ?_
  refine nv_i (v := 0) rfl ?_
  refine nb_iast (ws' := [(a0, .inr (12, [.int 0, .ref a1, .ref a2, .ref a3, .ref a4, .ref a5, .ref a6, .ref a7, .int 0, .ref a8, .int 0, .ref a9, .ref a10, .int 1, .ref a11, .int 0, .ref a12, .int 0, .int 0, .null, .int 0, .int 0, .int 0, .int 0, .ref a13, .ref a14, .ref a15, .int (-1), .int 0, .int 0, .int 0, .int 0, .int 0, .int 0, .int 0, .ref a16, .int 0, .ref a17, .int 0, .ref a18, .ref a19, .int 0, .int 0, .int 0, .int 0, .ref a20, .ref a21, .ref a22, .ref a23, .ref a24, .ref a25, .ref a26, .ref a27, .ref a28, .int 0, .ref a29, .ref a30, .ref a31, .long 0, .int 0, .int 0, .int 0, .long 0, .int 0, .ref a32, .int 0, .int 0, .int 0, .int 0, .ref a33, .ref a34, .ref a35])), (a34, .inl (y 2, 2, .inl (upd nz 1 1))), (a35, .inl (y 0, 2, .inl nz)), (a7, .inl (y 0, 9, .inl nz)), (a33, .inl (y 0, 104, .inl nz)), (a8, .inl (y 0, 9, .inl nz)), (a1, .inl (y 0, 9, .inl nz)), (a9, .inl (y 0, 9, .inl nz)), (a6, .inl (y 0, 9, .inl nz)), (a10, .inl (y 0, 4, .inl (upd nz 2 99)))]) hx hb hK hP hD hS 4 0 rfl rfl (n_in (by decide +kernel)) (by rw [nb_upI (f := nz) (i := Int32.toNatClampNeg 95) (x := 0) rfl]; rfl) dX12_keep_116 (fun H locs hP hD hS => ?_)
  refine lv_aload_n hx hb dX12_keep_117 rfl (lv_at hl 2 rfl) ?_
  refine va_get (D := D) (ci := 12) (v := .ref a33) (C := RX12) (T := TX12) (N := 72) hx hb hts iX12_keep_X12 hown hK hP 0 rfl rfl 69 (by decide +kernel) w_4 (fun _ h9 => h9) rfl dX12_keep_118 ?_
  refine lv_iload_n hx hb dX12_keep_121 rfl (lv_at hl 1 rfl) ?_
  refine lv_iconst (v := 5) hx hb dX12_keep_122 (by decide +kernel) ?_
  refine lv_iload_n hx hb dX12_keep_123 rfl (lv_at hl 0 rfl) ?_
  refine lv_imul hx hb dX12_keep_124 ?_
  refine nv_i (v := 40) (by decide +kernel) ?_
  refine lv_iadd hx hb dX12_keep_125 ?_
  refine nv_i (v := 92) (by decide +kernel) ?_
  refine lv_iconst (v := 4) hx hb dX12_keep_126 (by decide +kernel) ?_
  refine lv_iadd hx hb dX12_keep_127 ?_
  refine nv_i (v := 96) (by decide +kernel) ?_
  refine lv_aload_n hx hb dX12_keep_128 rfl (lv_at hl 2 rfl) ?_
  refine va_get (D := D) (ci := 12) (v := .ref a6) (C := RX12) (T := TX12) (N := 72) hx hb hts iX12_keep_X12 hown hK hP 0 rfl rfl 6 (by decide +kernel) w_9 (fun _ h9 => h9) rfl dX12_keep_129 ?_
  refine lv_iload_n hx hb dX12_keep_132 rfl (lv_at hl 0 rfl) ?_
  refine va_iald hx hb hK hP 8 0 rfl rfl (n_in (by decide +kernel)) dX12_keep_133 ?_
  refine nv_i (v := 0) rfl ?_
  refine nb_iast (ws' := [(a0, .inr (12, [.int 0, .ref a1, .ref a2, .ref a3, .ref a4, .ref a5, .ref a6, .ref a7, .int 0, .ref a8, .int 0, .ref a9, .ref a10, .int 1, .ref a11, .int 0, .ref a12, .int 0, .int 0, .null, .int 0, .int 0, .int 0, .int 0, .ref a13, .ref a14, .ref a15, .int (-1), .int 0, .int 0, .int 0, .int 0, .int 0, .int 0, .int 0, .ref a16, .int 0, .ref a17, .int 0, .ref a18, .ref a19, .int 0, .int 0, .int 0, .int 0, .ref a20, .ref a21, .ref a22, .ref a23, .ref a24, .ref a25, .ref a26, .ref a27, .ref a28, .int 0, .ref a29, .ref a30, .ref a31, .long 0, .int 0, .int 0, .int 0, .long 0, .int 0, .ref a32, .int 0, .int 0, .int 0, .int 0, .ref a33, .ref a34, .ref a35])), (a34, .inl (y 2, 2, .inl (upd nz 1 1))), (a35, .inl (y 0, 2, .inl nz)), (a7, .inl (y 0, 9, .inl nz)), (a33, .inl (y 0, 104, .inl nz)), (a8, .inl (y 0, 9, .inl nz)), (a1, .inl (y 0, 9, .inl nz)), (a9, .inl (y 0, 9, .inl nz)), (a6, .inl (y 0, 9, .inl nz)), (a10, .inl (y 0, 4, .inl (upd nz 2 99)))]) hx hb hK hP hD hS 4 0 rfl rfl (n_in (by decide +kernel)) (by rw [nb_upI (f := nz) (i := Int32.toNatClampNeg 96) (x := 0) rfl]; rfl) dX12_keep_134 (fun H locs hP hD hS => ?_)
  refine lv_iinc (v := 9) (lv' := [(3, .int 9), (2, .int 52), (0, .ref a0), (1, .int 1)]) hx hb dX12_keep_135 hl (k := 0) rfl (by decide +kernel) (by decide +kernel) rfl (fun ls hl => ?_)
  refine lv_goto (tgt := 41) hx hb dX12_keep_138 (by decide +kernel) ?_
  refine lv_iload_n hx hb dX12_keep_41 rfl (lv_at hl 0 rfl) ?_
  refine lv_bipush (v := 9) hx hb dX12_keep_42 (by decide +kernel) ?_
  refine lv_icmp_ge (tgt := 141) hx hb dX12_keep_44 (by decide +kernel) (fun _ => ?_) (fun c => absurd (by decide +kernel) c)
  refine lv_iinc (v := 97) (lv' := [(2, .int 97), (3, .int 9), (0, .ref a0), (1, .int 1)]) hx hb dX12_keep_141 hl (k := 1) rfl (by decide +kernel) (by decide +kernel) rfl (fun ls hl => ?_)
  refine lv_aload_n hx hb dX12_keep_144 rfl (lv_at hl 2 rfl) ?_
  refine va_get (D := D) (ci := 12) (v := .ref a33) (C := RX12) (T := TX12) (N := 72) hx hb hts iX12_keep_X12 hown hK hP 0 rfl rfl 69 (by decide +kernel) w_4 (fun _ h9 => h9) rfl dX12_keep_145 ?_
  refine lv_iload_n hx hb dX12_keep_148 rfl (lv_at hl 0 rfl) ?_
  refine lv_aload_n hx hb dX12_keep_149 rfl (lv_at hl 2 rfl) ?_
  refine va_get (D := D) (ci := 12) (v := .int 0) (C := RX12) (T := TX12) (N := 72) hx hb hts iX12_keep_X12 hown hK hP 0 rfl rfl 8 (by decide +kernel) w_10 (fun _ h9 => h9) rfl dX12_keep_150 ?_
  refine nb_iast (ws' := [(a0, .inr (12, [.int 0, .ref a1, .ref a2, .ref a3, .ref a4, .ref a5, .ref a6, .ref a7, .int 0, .ref a8, .int 0, .ref a9, .ref a10, .int 1, .ref a11, .int 0, .ref a12, .int 0, .int 0, .null, .int 0, .int 0, .int 0, .int 0, .ref a13, .ref a14, .ref a15, .int (-1), .int 0, .int 0, .int 0, .int 0, .int 0, .int 0, .int 0, .ref a16, .int 0, .ref a17, .int 0, .ref a18, .ref a19, .int 0, .int 0, .int 0, .int 0, .ref a20, .ref a21, .ref a22, .ref a23, .ref a24, .ref a25, .ref a26, .ref a27, .ref a28, .int 0, .ref a29, .ref a30, .ref a31, .long 0, .int 0, .int 0, .int 0, .long 0, .int 0, .ref a32, .int 0, .int 0, .int 0, .int 0, .ref a33, .ref a34, .ref a35])), (a34, .inl (y 2, 2, .inl (upd nz 1 1))), (a35, .inl (y 0, 2, .inl nz)), (a7, .inl (y 0, 9, .inl nz)), (a33, .inl (y 0, 104, .inl nz)), (a8, .inl (y 0, 9, .inl nz)), (a1, .inl (y 0, 9, .inl nz)), (a9, .inl (y 0, 9, .inl nz)), (a6, .inl (y 0, 9, .inl nz)), (a10, .inl (y 0, 4, .inl (upd nz 2 99)))]) hx hb hK hP hD hS 4 0 rfl rfl (n_in (by decide +kernel)) (by rw [nb_upI (f := nz) (i := Int32.toNatClampNeg 97) (x := 0) rfl]; rfl) dX12_keep_153 (fun H locs hP hD hS => ?_)
  refine lv_aload_n hx hb dX12_keep_154 rfl (lv_at hl 2 rfl) ?_
  refine va_get (D := D) (ci := 12) (v := .ref a33) (C := RX12) (T := TX12) (N := 72) hx hb hts iX12_keep_X12 hown hK hP 0 rfl rfl 69 (by decide +kernel) w_4 (fun _ h9 => h9) rfl dX12_keep_155 ?_
  refine lv_iload_n hx hb dX12_keep_158 rfl (lv_at hl 0 rfl) ?_
  refine lv_iconst (v := 1) hx hb dX12_keep_159 (by decide +kernel) ?_
  refine lv_iadd hx hb dX12_keep_160 ?_
  refine nv_i (v := 98) (by decide +kernel) ?_
  refine lv_aload_n hx hb dX12_keep_161 rfl (lv_at hl 2 rfl) ?_
  refine va_get (D := D) (ci := 12) (v := .int 0) (C := RX12) (T := TX12) (N := 72) hx hb hts iX12_keep_X12 hown hK hP 0 rfl rfl 10 (by decide +kernel) w_11 (fun _ h9 => h9) rfl dX12_keep_162 ?_
  refine nb_iast (ws' := [(a0, .inr (12, [.int 0, .ref a1, .ref a2, .ref a3, .ref a4, .ref a5, .ref a6, .ref a7, .int 0, .ref a8, .int 0, .ref a9, .ref a10, .int 1, .ref a11, .int 0, .ref a12, .int 0, .int 0, .null, .int 0, .int 0, .int 0, .int 0, .ref a13, .ref a14, .ref a15, .int (-1), .int 0, .int 0, .int 0, .int 0, .int 0, .int 0, .int 0, .ref a16, .int 0, .ref a17, .int 0, .ref a18, .ref a19, .int 0, .int 0, .int 0, .int 0, .ref a20, .ref a21, .ref a22, .ref a23, .ref a24, .ref a25, .ref a26, .ref a27, .ref a28, .int 0, .ref a29, .ref a30, .ref a31, .long 0, .int 0, .int 0, .int 0, .long 0, .int 0, .ref a32, .int 0, .int 0, .int 0, .int 0, .ref a33, .ref a34, .ref a35])), (a34, .inl (y 2, 2, .inl (upd nz 1 1))), (a35, .inl (y 0, 2, .inl nz)), (a7, .inl (y 0, 9, .inl nz)), (a33, .inl (y 0, 104, .inl nz)), (a8, .inl (y 0, 9, .inl nz)), (a1, .inl (y 0, 9, .inl nz)), (a9, .inl (y 0, 9, .inl nz)), (a6, .inl (y 0, 9, .inl nz)), (a10, .inl (y 0, 4, .inl (upd nz 2 99)))]) hx hb hK hP hD hS 4 0 rfl rfl (n_in (by decide +kernel)) (by rw [nb_upI (f := nz) (i := Int32.toNatClampNeg 98) (x := 0) rfl]; rfl) dX12_keep_165 (fun H locs hP hD hS => ?_)
  refine lv_aload_n hx hb dX12_keep_166 rfl (lv_at hl 2 rfl) ?_
  refine va_get (D := D) (ci := 12) (v := .ref a33) (C := RX12) (T := TX12) (N := 72) hx hb hts iX12_keep_X12 hown hK hP 0 rfl rfl 69 (by decide +kernel) w_4 (fun _ h9 => h9) rfl dX12_keep_167 ?_
  refine lv_iload_n hx hb dX12_keep_170 rfl (lv_at hl 0 rfl) ?_
  refine lv_iconst (v := 2) hx hb dX12_keep_171 (by decide +kernel) ?_
  refine lv_iadd hx hb dX12_keep_172 ?_
  refine nv_i (v := 99) (by decide +kernel) ?_
  refine lv_aload_n hx hb dX12_keep_173 rfl (lv_at hl 2 rfl) ?_
  refine va_get (D := D) (ci := 12) (v := .int 1) (C := RX12) (T := TX12) (N := 72) hx hb hts iX12_keep_X12 hown hK hP 0 rfl rfl 13 (by decide +kernel) w_12 (fun _ h9 => h9) rfl dX12_keep_174 ?_
  refine nb_iast (ws' := [(a0, .inr (12, [.int 0, .ref a1, .ref a2, .ref a3, .ref a4, .ref a5, .ref a6, .ref a7, .int 0, .ref a8, .int 0, .ref a9, .ref a10, .int 1, .ref a11, .int 0, .ref a12, .int 0, .int 0, .null, .int 0, .int 0, .int 0, .int 0, .ref a13, .ref a14, .ref a15, .int (-1), .int 0, .int 0, .int 0, .int 0, .int 0, .int 0, .int 0, .ref a16, .int 0, .ref a17, .int 0, .ref a18, .ref a19, .int 0, .int 0, .int 0, .int 0, .ref a20, .ref a21, .ref a22, .ref a23, .ref a24, .ref a25, .ref a26, .ref a27, .ref a28, .int 0, .ref a29, .ref a30, .ref a31, .long 0, .int 0, .int 0, .int 0, .long 0, .int 0, .ref a32, .int 0, .int 0, .int 0, .int 0, .ref a33, .ref a34, .ref a35])), (a34, .inl (y 2, 2, .inl (upd nz 1 1))), (a35, .inl (y 0, 2, .inl nz)), (a7, .inl (y 0, 9, .inl nz)), (a33, .inl (y 0, 104, .inl (upd nz 99 1))), (a8, .inl (y 0, 9, .inl nz)), (a1, .inl (y 0, 9, .inl nz)), (a9, .inl (y 0, 9, .inl nz)), (a6, .inl (y 0, 9, .inl nz)), (a10, .inl (y 0, 4, .inl (upd nz 2 99)))]) hx hb hK hP hD hS 4 0 rfl rfl (n_in (by decide +kernel)) rfl dX12_keep_177 (fun H locs hP hD hS => ?_)
  refine lv_iconst (v := 0) hx hb dX12_keep_178 (by decide +kernel) ?_
  refine lv_istore_n (lv' := [(3, .int 0), (2, .int 97), (0, .ref a0), (1, .int 1)]) hx hb dX12_keep_179 rfl hl (by decide +kernel) rfl (fun ls hl => ?_)
  refine lv_iload_n hx hb dX12_keep_180 rfl (lv_at hl 0 rfl) ?_
  refine lv_iconst (v := 4) hx hb dX12_keep_181 (by decide +kernel) ?_
  refine lv_icmp_ge (tgt := 207) hx hb dX12_keep_182 (by decide +kernel) (fun c => absurd c (by decide +kernel)) (fun _ => ?_)
  refine lv_aload_n hx hb dX12_keep_185 rfl (lv_at hl 2 rfl) ?_
  refine va_get (D := D) (ci := 12) (v := .ref a33) (C := RX12) (T := TX12) (N := 72) hx hb hts iX12_keep_X12 hown hK hP 0 rfl rfl 69 (by decide +kernel) w_4 (fun _ h9 => h9) rfl dX12_keep_186 ?_
  refine lv_iload_n hx hb dX12_keep_189 rfl (lv_at hl 1 rfl) ?_
  refine lv_iconst (v := 3) hx hb dX12_keep_190 (by decide +kernel) ?_
  refine lv_iadd hx hb dX12_keep_191 ?_
  refine nv_i (v := 100) (by decide +kernel) ?_
  refine lv_iload_n hx hb dX12_keep_192 rfl (lv_at hl 0 rfl) ?_
  refine lv_iadd hx hb dX12_keep_193 ?_
  refine nv_i (v := 100) (by decide +kernel) ?_
  refine lv_aload_n hx hb dX12_keep_194 rfl (lv_at hl 2 rfl) ?_
  refine va_get (D := D) (ci := 12) (v := .ref a10) (C := RX12) (T := TX12) (N := 72) hx hb hts iX12_keep_X12 hown hK hP 0 rfl rfl 12 (by decide +kernel) w_13 (fun _ h9 => h9) rfl dX12_keep_195 ?_
  refine lv_iload_n hx hb dX12_keep_198 rfl (lv_at hl 0 rfl) ?_
  refine va_iald hx hb hK hP 9 0 rfl rfl (n_in (by decide +kernel)) dX12_keep_199 ?_
  refine nv_i (v := 0) rfl ?_
  refine nb_iast (ws' := [(a0, .inr (12, [.int 0, .ref a1, .ref a2, .ref a3, .ref a4, .ref a5, .ref a6, .ref a7, .int 0, .ref a8, .int 0, .ref a9, .ref a10, .int 1, .ref a11, .int 0, .ref a12, .int 0, .int 0, .null, .int 0, .int 0, .int 0, .int 0, .ref a13, .ref a14, .ref a15, .int (-1), .int 0, .int 0, .int 0, .int 0, .int 0, .int 0, .int 0, .ref a16, .int 0, .ref a17, .int 0, .ref a18, .ref a19, .int 0, .int 0, .int 0, .int 0, .ref a20, .ref a21, .ref a22, .ref a23, .ref a24, .ref a25, .ref a26, .ref a27, .ref a28, .int 0, .ref a29, .ref a30, .ref a31, .long 0, .int 0, .int 0, .int 0, .long 0, .int 0, .ref a32, .int 0, .int 0, .int 0, .int 0, .ref a33, .ref a34, .ref a35])), (a34, .inl (y 2, 2, .inl (upd nz 1 1))), (a35, .inl (y 0, 2, .inl nz)), (a7, .inl (y 0, 9, .inl nz)), (a33, .inl (y 0, 104, .inl (upd nz 99 1))), (a8, .inl (y 0, 9, .inl nz)), (a1, .inl (y 0, 9, .inl nz)), (a9, .inl (y 0, 9, .inl nz)), (a6, .inl (y 0, 9, .inl nz)), (a10, .inl (y 0, 4, .inl (upd nz 2 99)))]) hx hb hK hP hD hS 4 0 rfl rfl (n_in (by decide +kernel)) (by rw [nb_upI (f := (upd nz 99 1)) (i := Int32.toNatClampNeg 100) (x := 0) rfl]; rfl) dX12_keep_200 (fun H locs hP hD hS => ?_)
  refine lv_iinc (v := 1) (lv' := [(3, .int 1), (2, .int 97), (0, .ref a0), (1, .int 1)]) hx hb dX12_keep_201 hl (k := 0) rfl (by decide +kernel) (by decide +kernel) rfl (fun ls hl => ?_)
  refine lv_goto (tgt := 180) hx hb dX12_keep_204 (by decide +kernel) ?_
  refine lv_iload_n hx hb dX12_keep_180 rfl (lv_at hl 0 rfl) ?_
  refine lv_iconst (v := 4) hx hb dX12_keep_181 (by decide +kernel) ?_
  refine lv_icmp_ge (tgt := 207) hx hb dX12_keep_182 (by decide +kernel) (fun c => absurd c (by decide +kernel)) (fun _ => ?_)
  refine lv_aload_n hx hb dX12_keep_185 rfl (lv_at hl 2 rfl) ?_
  refine va_get (D := D) (ci := 12) (v := .ref a33) (C := RX12) (T := TX12) (N := 72) hx hb hts iX12_keep_X12 hown hK hP 0 rfl rfl 69 (by decide +kernel) w_4 (fun _ h9 => h9) rfl dX12_keep_186 ?_
  refine lv_iload_n hx hb dX12_keep_189 rfl (lv_at hl 1 rfl) ?_
  refine lv_iconst (v := 3) hx hb dX12_keep_190 (by decide +kernel) ?_
  refine lv_iadd hx hb dX12_keep_191 ?_
  refine nv_i (v := 100) (by decide +kernel) ?_
  refine lv_iload_n hx hb dX12_keep_192 rfl (lv_at hl 0 rfl) ?_
  refine lv_iadd hx hb dX12_keep_193 ?_
  refine nv_i (v := 101) (by decide +kernel) ?_
  refine lv_aload_n hx hb dX12_keep_194 rfl (lv_at hl 2 rfl) ?_
  refine va_get (D := D) (ci := 12) (v := .ref a10) (C := RX12) (T := TX12) (N := 72) hx hb hts iX12_keep_X12 hown hK hP 0 rfl rfl 12 (by decide +kernel) w_13 (fun _ h9 => h9) rfl dX12_keep_195 ?_
  refine lv_iload_n hx hb dX12_keep_198 rfl (lv_at hl 0 rfl) ?_
  refine va_iald hx hb hK hP 9 0 rfl rfl (n_in (by decide +kernel)) dX12_keep_199 ?_
  refine nv_i (v := 0) rfl ?_
  refine nb_iast (ws' := [(a0, .inr (12, [.int 0, .ref a1, .ref a2, .ref a3, .ref a4, .ref a5, .ref a6, .ref a7, .int 0, .ref a8, .int 0, .ref a9, .ref a10, .int 1, .ref a11, .int 0, .ref a12, .int 0, .int 0, .null, .int 0, .int 0, .int 0, .int 0, .ref a13, .ref a14, .ref a15, .int (-1), .int 0, .int 0, .int 0, .int 0, .int 0, .int 0, .int 0, .ref a16, .int 0, .ref a17, .int 0, .ref a18, .ref a19, .int 0, .int 0, .int 0, .int 0, .ref a20, .ref a21, .ref a22, .ref a23, .ref a24, .ref a25, .ref a26, .ref a27, .ref a28, .int 0, .ref a29, .ref a30, .ref a31, .long 0, .int 0, .int 0, .int 0, .long 0, .int 0, .ref a32, .int 0, .int 0, .int 0, .int 0, .ref a33, .ref a34, .ref a35])), (a34, .inl (y 2, 2, .inl (upd nz 1 1))), (a35, .inl (y 0, 2, .inl nz)), (a7, .inl (y 0, 9, .inl nz)), (a33, .inl (y 0, 104, .inl (upd nz 99 1))), (a8, .inl (y 0, 9, .inl nz)), (a1, .inl (y 0, 9, .inl nz)), (a9, .inl (y 0, 9, .inl nz)), (a6, .inl (y 0, 9, .inl nz)), (a10, .inl (y 0, 4, .inl (upd nz 2 99)))]) hx hb hK hP hD hS 4 0 rfl rfl (n_in (by decide +kernel)) (by rw [nb_upI (f := (upd nz 99 1)) (i := Int32.toNatClampNeg 101) (x := 0) rfl]; rfl) dX12_keep_200 (fun H locs hP hD hS => ?_)
  refine lv_iinc (v := 2) (lv' := [(3, .int 2), (2, .int 97), (0, .ref a0), (1, .int 1)]) hx hb dX12_keep_201 hl (k := 0) rfl (by decide +kernel) (by decide +kernel) rfl (fun ls hl => ?_)
  refine lv_goto (tgt := 180) hx hb dX12_keep_204 (by decide +kernel) ?_
  refine lv_iload_n hx hb dX12_keep_180 rfl (lv_at hl 0 rfl) ?_
  refine lv_iconst (v := 4) hx hb dX12_keep_181 (by decide +kernel) ?_
  refine lv_icmp_ge (tgt := 207) hx hb dX12_keep_182 (by decide +kernel) (fun c => absurd c (by decide +kernel)) (fun _ => ?_)
  refine lv_aload_n hx hb dX12_keep_185 rfl (lv_at hl 2 rfl) ?_
  refine va_get (D := D) (ci := 12) (v := .ref a33) (C := RX12) (T := TX12) (N := 72) hx hb hts iX12_keep_X12 hown hK hP 0 rfl rfl 69 (by decide +kernel) w_4 (fun _ h9 => h9) rfl dX12_keep_186 ?_
  refine lv_iload_n hx hb dX12_keep_189 rfl (lv_at hl 1 rfl) ?_
  refine lv_iconst (v := 3) hx hb dX12_keep_190 (by decide +kernel) ?_
  refine lv_iadd hx hb dX12_keep_191 ?_
  refine nv_i (v := 100) (by decide +kernel) ?_
  refine lv_iload_n hx hb dX12_keep_192 rfl (lv_at hl 0 rfl) ?_
  refine lv_iadd hx hb dX12_keep_193 ?_
  refine nv_i (v := 102) (by decide +kernel) ?_
  refine lv_aload_n hx hb dX12_keep_194 rfl (lv_at hl 2 rfl) ?_
  refine va_get (D := D) (ci := 12) (v := .ref a10) (C := RX12) (T := TX12) (N := 72) hx hb hts iX12_keep_X12 hown hK hP 0 rfl rfl 12 (by decide +kernel) w_13 (fun _ h9 => h9) rfl dX12_keep_195 ?_
  refine lv_iload_n hx hb dX12_keep_198 rfl (lv_at hl 0 rfl) ?_
  refine va_iald hx hb hK hP 9 0 rfl rfl (n_in (by decide +kernel)) dX12_keep_199 ?_
  refine nv_i (v := 99) rfl ?_
  refine nb_iast (ws' := [(a0, .inr (12, [.int 0, .ref a1, .ref a2, .ref a3, .ref a4, .ref a5, .ref a6, .ref a7, .int 0, .ref a8, .int 0, .ref a9, .ref a10, .int 1, .ref a11, .int 0, .ref a12, .int 0, .int 0, .null, .int 0, .int 0, .int 0, .int 0, .ref a13, .ref a14, .ref a15, .int (-1), .int 0, .int 0, .int 0, .int 0, .int 0, .int 0, .int 0, .ref a16, .int 0, .ref a17, .int 0, .ref a18, .ref a19, .int 0, .int 0, .int 0, .int 0, .ref a20, .ref a21, .ref a22, .ref a23, .ref a24, .ref a25, .ref a26, .ref a27, .ref a28, .int 0, .ref a29, .ref a30, .ref a31, .long 0, .int 0, .int 0, .int 0, .long 0, .int 0, .ref a32, .int 0, .int 0, .int 0, .int 0, .ref a33, .ref a34, .ref a35])), (a34, .inl (y 2, 2, .inl (upd nz 1 1))), (a35, .inl (y 0, 2, .inl nz)), (a7, .inl (y 0, 9, .inl nz)), (a33, .inl (y 0, 104, .inl (upd (upd nz 99 1) 102 99))), (a8, .inl (y 0, 9, .inl nz)), (a1, .inl (y 0, 9, .inl nz)), (a9, .inl (y 0, 9, .inl nz)), (a6, .inl (y 0, 9, .inl nz)), (a10, .inl (y 0, 4, .inl (upd nz 2 99)))]) hx hb hK hP hD hS 4 0 rfl rfl (n_in (by decide +kernel)) rfl dX12_keep_200 (fun H locs hP hD hS => ?_)
  refine lv_iinc (v := 3) (lv' := [(3, .int 3), (2, .int 97), (0, .ref a0), (1, .int 1)]) hx hb dX12_keep_201 hl (k := 0) rfl (by decide +kernel) (by decide +kernel) rfl (fun ls hl => ?_)
  refine lv_goto (tgt := 180) hx hb dX12_keep_204 (by decide +kernel) ?_
  refine lv_iload_n hx hb dX12_keep_180 rfl (lv_at hl 0 rfl) ?_
  refine lv_iconst (v := 4) hx hb dX12_keep_181 (by decide +kernel) ?_
  refine lv_icmp_ge (tgt := 207) hx hb dX12_keep_182 (by decide +kernel) (fun c => absurd c (by decide +kernel)) (fun _ => ?_)
  refine lv_aload_n hx hb dX12_keep_185 rfl (lv_at hl 2 rfl) ?_
  refine va_get (D := D) (ci := 12) (v := .ref a33) (C := RX12) (T := TX12) (N := 72) hx hb hts iX12_keep_X12 hown hK hP 0 rfl rfl 69 (by decide +kernel) w_4 (fun _ h9 => h9) rfl dX12_keep_186 ?_
  refine lv_iload_n hx hb dX12_keep_189 rfl (lv_at hl 1 rfl) ?_
  refine lv_iconst (v := 3) hx hb dX12_keep_190 (by decide +kernel) ?_
  refine lv_iadd hx hb dX12_keep_191 ?_
  refine nv_i (v := 100) (by decide +kernel) ?_
  refine lv_iload_n hx hb dX12_keep_192 rfl (lv_at hl 0 rfl) ?_
  refine lv_iadd hx hb dX12_keep_193 ?_
  refine nv_i (v := 103) (by decide +kernel) ?_
  refine lv_aload_n hx hb dX12_keep_194 rfl (lv_at hl 2 rfl) ?_
  refine va_get (D := D) (ci := 12) (v := .ref a10) (C := RX12) (T := TX12) (N := 72) hx hb hts iX12_keep_X12 hown hK hP 0 rfl rfl 12 (by decide +kernel) w_13 (fun _ h9 => h9) rfl dX12_keep_195 ?_
  refine lv_iload_n hx hb dX12_keep_198 rfl (lv_at hl 0 rfl) ?_
  refine va_iald hx hb hK hP 9 0 rfl rfl (n_in (by decide +kernel)) dX12_keep_199 ?_
  refine nv_i (v := 0) rfl ?_
  refine nb_iast (ws' := [(a0, .inr (12, [.int 0, .ref a1, .ref a2, .ref a3, .ref a4, .ref a5, .ref a6, .ref a7, .int 0, .ref a8, .int 0, .ref a9, .ref a10, .int 1, .ref a11, .int 0, .ref a12, .int 0, .int 0, .null, .int 0, .int 0, .int 0, .int 0, .ref a13, .ref a14, .ref a15, .int (-1), .int 0, .int 0, .int 0, .int 0, .int 0, .int 0, .int 0, .ref a16, .int 0, .ref a17, .int 0, .ref a18, .ref a19, .int 0, .int 0, .int 0, .int 0, .ref a20, .ref a21, .ref a22, .ref a23, .ref a24, .ref a25, .ref a26, .ref a27, .ref a28, .int 0, .ref a29, .ref a30, .ref a31, .long 0, .int 0, .int 0, .int 0, .long 0, .int 0, .ref a32, .int 0, .int 0, .int 0, .int 0, .ref a33, .ref a34, .ref a35])), (a34, .inl (y 2, 2, .inl (upd nz 1 1))), (a35, .inl (y 0, 2, .inl nz)), (a7, .inl (y 0, 9, .inl nz)), (a33, .inl (y 0, 104, .inl (upd (upd nz 99 1) 102 99))), (a8, .inl (y 0, 9, .inl nz)), (a1, .inl (y 0, 9, .inl nz)), (a9, .inl (y 0, 9, .inl nz)), (a6, .inl (y 0, 9, .inl nz)), (a10, .inl (y 0, 4, .inl (upd nz 2 99)))]) hx hb hK hP hD hS 4 0 rfl rfl (n_in (by decide +kernel)) (by rw [nb_upI (f := (upd (upd nz 99 1) 102 99)) (i := Int32.toNatClampNeg 103) (x := 0) rfl]; rfl) dX12_keep_200 (fun H locs hP hD hS => ?_)
  refine lv_iinc (v := 4) (lv' := [(3, .int 4), (2, .int 97), (0, .ref a0), (1, .int 1)]) hx hb dX12_keep_201 hl (k := 0) rfl (by decide +kernel) (by decide +kernel) rfl (fun ls hl => ?_)
  refine lv_goto (tgt := 180) hx hb dX12_keep_204 (by decide +kernel) ?_
  refine lv_iload_n hx hb dX12_keep_180 rfl (lv_at hl 0 rfl) ?_
  refine lv_iconst (v := 4) hx hb dX12_keep_181 (by decide +kernel) ?_
  refine lv_icmp_ge (tgt := 207) hx hb dX12_keep_182 (by decide +kernel) (fun _ => ?_) (fun c => absurd (by decide +kernel) c)
  refine lv_iconst (v := 1) hx hb dX12_keep_207 (by decide +kernel) ?_
  refine W.widen (k := 0) (n := 0) (Nat.le_of_ble_eq_true rfl) (Nat.le_of_ble_eq_true rfl) ?_
  exact W.zret (v := 1) hx hb hr (by decide +kernel) (fun t ht hW => ⟨⟨1, (fun _ => 0), rfl, rfl, by rw [ht]; exact hP, va_K.moved hW.alike hK, hD⟩, hS.F ht⟩) hS.2.2 dX12_keep_208 hlocks
set_option maxRecDepth 100000 in
set_option maxHeartbeats 4000000 in
theorem cX12_in_43 (l : Launch) (D : va_G) (y : Nat → ClassId) (n0 : Int64) (hn0l : 2 ≤ n0) (sz : Nat) : Met l yX12_in wsX12_in { frames := 2, cells := 0, slots := 0, locals := 200 } (nPc D y nT [.long n0, .long 0, .long 1] [] sz) ((fun A => nQi D y (fun r _ => r = 0) (fun u => []) A) (va_A [] sz)) 0 0 (va_A [] sz) := by
  refine nm_ofW (D := D) (y := y) (E := nT) (yy := yX12_in) (wsy := wsX12_in) (rm := { frames := 2, cells := 0, slots := 0, locals := 200 }) (as := [.long n0, .long 0, .long 1]) (ws := []) (sz := sz) (mc := 0) (ms := 0) (Qc := fun A => nQi D y (fun r _ => r = 0) (fun u => []) A) (cc := cX12_in) (maxL := 6) (ret := (some .boolean)) (by decide +kernel) rfl (Nat.le_of_ble_eq_true rfl) ?_
  intro p e s m below meth c A ls H hx hb hr hml hts hown hlocks hnm hsz hP hK hD hA hS hE hAe hl
  replace hl : lv_has ls 6 [(0, .long n0), (2, .long 0), (4, .long 1)] := hl
  have hown : s.vm.findClass RX12 = some m.cls := hown
  refine lv_lload_n hx hb dX12_in_0 rfl (lv_at hl 0 rfl) ?_
  refine lv_lload_n hx hb dX12_in_1 rfl (lv_at hl 1 rfl) ?_
  refine W.lcmp hx hb dX12_in_2 ?_
  refine nv_i (v := 1) (q_cg (q_gtL hn0l (by decide +kernel))) ?_
  refine lv_if_lt (tgt := 17) hx hb dX12_in_3 (by decide +kernel) (fun c => absurd c (by decide +kernel)) (fun _ => ?_)
  refine lv_lload_n hx hb dX12_in_6 rfl (lv_at hl 0 rfl) ?_
  refine lv_lload hx hb dX12_in_7 (lv_at hl 2 rfl) ?_
  refine W.lcmp hx hb dX12_in_9 ?_
  refine nv_i (v := 1) (q_cg (q_gtL hn0l (by decide +kernel))) ?_
  refine lv_if_gt (tgt := 17) hx hb dX12_in_10 (by decide +kernel) (fun _ => ?_) (fun c => absurd (by decide +kernel) c)
  refine lv_iconst (v := 0) hx hb dX12_in_17 (by decide +kernel) ?_
  refine W.widen (k := 0) (n := 0) (Nat.le_of_ble_eq_true rfl) (Nat.le_of_ble_eq_true rfl) ?_
  exact W.zret (v := 0) hx hb hr (by decide +kernel) (fun t ht hW => ⟨⟨0, (fun _ => 0), rfl, rfl, by rw [ht]; exact hP, va_K.moved hW.alike hK, hD⟩, hS.F ht⟩) hS.2.2 dX12_in_18 hlocks
set_option maxRecDepth 100000 in
set_option maxHeartbeats 4000000 in
theorem cX12_keep_4 (l : Launch) (D : va_G) (y : Nat → ClassId) (a0 : Nat) (n0 : Int32) (hn0l : 2 ≤ n0) (a1 : Nat) (a2 : Nat) (a3 : Nat) (a4 : Nat) (a5 : Nat) (a6 : Nat) (a7 : Nat) (a8 : Nat) (a9 : Nat) (a10 : Nat) (a11 : Nat) (a12 : Nat) (a13 : Nat) (a14 : Nat) (a15 : Nat) (a16 : Nat) (a17 : Nat) (a18 : Nat) (a19 : Nat) (a20 : Nat) (a21 : Nat) (a22 : Nat) (a23 : Nat) (a24 : Nat) (a25 : Nat) (a26 : Nat) (a27 : Nat) (a28 : Nat) (a29 : Nat) (a30 : Nat) (a31 : Nat) (a32 : Nat) (a33 : Nat) (a34 : Nat) (a35 : Nat) (sz : Nat) : Met l yX12_keep wsX12_keep { frames := 3, cells := 0, slots := 0, locals := 225 } (nPc D y nT [.ref a0, .int n0] [(a0, .inr (12, [.int 0, .ref a1, .ref a2, .ref a3, .ref a4, .ref a5, .ref a6, .ref a7, .int 0, .ref a8, .int 0, .ref a9, .ref a10, .int 1, .ref a11, .int 0, .ref a12, .int 0, .int 0, .null, .int 0, .int 0, .int 0, .int 0, .ref a13, .ref a14, .ref a15, .int (-1), .int 0, .int 0, .int 0, .int 0, .int 0, .int 0, .int 0, .ref a16, .int 0, .ref a17, .int 0, .ref a18, .ref a19, .int 0, .int 0, .int 0, .int 0, .ref a20, .ref a21, .ref a22, .ref a23, .ref a24, .ref a25, .ref a26, .ref a27, .ref a28, .int 0, .ref a29, .ref a30, .ref a31, .long 0, .int 0, .int 0, .int 0, .long 0, .int 0, .ref a32, .int 0, .int 0, .int 0, .int 0, .ref a33, .ref a34, .ref a35]))] sz) ((fun A => nQi D y (fun r _ => r = 0) (fun u => [(a0, .inr (12, [.int 0, .ref a1, .ref a2, .ref a3, .ref a4, .ref a5, .ref a6, .ref a7, .int 0, .ref a8, .int 0, .ref a9, .ref a10, .int 1, .ref a11, .int 0, .ref a12, .int 0, .int 0, .null, .int 0, .int 0, .int 0, .int 0, .ref a13, .ref a14, .ref a15, .int (-1), .int 0, .int 0, .int 0, .int 0, .int 0, .int 0, .int 0, .ref a16, .int 0, .ref a17, .int 0, .ref a18, .ref a19, .int 0, .int 0, .int 0, .int 0, .ref a20, .ref a21, .ref a22, .ref a23, .ref a24, .ref a25, .ref a26, .ref a27, .ref a28, .int 0, .ref a29, .ref a30, .ref a31, .long 0, .int 0, .int 0, .int 0, .long 0, .int 0, .ref a32, .int 0, .int 0, .int 0, .int 0, .ref a33, .ref a34, .ref a35]))]) A) (va_A [(a0, .inr (12, [.int 0, .ref a1, .ref a2, .ref a3, .ref a4, .ref a5, .ref a6, .ref a7, .int 0, .ref a8, .int 0, .ref a9, .ref a10, .int 1, .ref a11, .int 0, .ref a12, .int 0, .int 0, .null, .int 0, .int 0, .int 0, .int 0, .ref a13, .ref a14, .ref a15, .int (-1), .int 0, .int 0, .int 0, .int 0, .int 0, .int 0, .int 0, .ref a16, .int 0, .ref a17, .int 0, .ref a18, .ref a19, .int 0, .int 0, .int 0, .int 0, .ref a20, .ref a21, .ref a22, .ref a23, .ref a24, .ref a25, .ref a26, .ref a27, .ref a28, .int 0, .ref a29, .ref a30, .ref a31, .long 0, .int 0, .int 0, .int 0, .long 0, .int 0, .ref a32, .int 0, .int 0, .int 0, .int 0, .ref a33, .ref a34, .ref a35]))] sz)) 0 0 (va_A [(a0, .inr (12, [.int 0, .ref a1, .ref a2, .ref a3, .ref a4, .ref a5, .ref a6, .ref a7, .int 0, .ref a8, .int 0, .ref a9, .ref a10, .int 1, .ref a11, .int 0, .ref a12, .int 0, .int 0, .null, .int 0, .int 0, .int 0, .int 0, .ref a13, .ref a14, .ref a15, .int (-1), .int 0, .int 0, .int 0, .int 0, .int 0, .int 0, .int 0, .ref a16, .int 0, .ref a17, .int 0, .ref a18, .ref a19, .int 0, .int 0, .int 0, .int 0, .ref a20, .ref a21, .ref a22, .ref a23, .ref a24, .ref a25, .ref a26, .ref a27, .ref a28, .int 0, .ref a29, .ref a30, .ref a31, .long 0, .int 0, .int 0, .int 0, .long 0, .int 0, .ref a32, .int 0, .int 0, .int 0, .int 0, .ref a33, .ref a34, .ref a35]))] sz) := by
  refine nm_ofW (D := D) (y := y) (E := nT) (yy := yX12_keep) (wsy := wsX12_keep) (rm := { frames := 3, cells := 0, slots := 0, locals := 225 }) (as := [.ref a0, .int n0]) (ws := [(a0, .inr (12, [.int 0, .ref a1, .ref a2, .ref a3, .ref a4, .ref a5, .ref a6, .ref a7, .int 0, .ref a8, .int 0, .ref a9, .ref a10, .int 1, .ref a11, .int 0, .ref a12, .int 0, .int 0, .null, .int 0, .int 0, .int 0, .int 0, .ref a13, .ref a14, .ref a15, .int (-1), .int 0, .int 0, .int 0, .int 0, .int 0, .int 0, .int 0, .ref a16, .int 0, .ref a17, .int 0, .ref a18, .ref a19, .int 0, .int 0, .int 0, .int 0, .ref a20, .ref a21, .ref a22, .ref a23, .ref a24, .ref a25, .ref a26, .ref a27, .ref a28, .int 0, .ref a29, .ref a30, .ref a31, .long 0, .int 0, .int 0, .int 0, .long 0, .int 0, .ref a32, .int 0, .int 0, .int 0, .int 0, .ref a33, .ref a34, .ref a35]))]) (sz := sz) (mc := 0) (ms := 0) (Qc := fun A => nQi D y (fun r _ => r = 0) (fun u => [(a0, .inr (12, [.int 0, .ref a1, .ref a2, .ref a3, .ref a4, .ref a5, .ref a6, .ref a7, .int 0, .ref a8, .int 0, .ref a9, .ref a10, .int 1, .ref a11, .int 0, .ref a12, .int 0, .int 0, .null, .int 0, .int 0, .int 0, .int 0, .ref a13, .ref a14, .ref a15, .int (-1), .int 0, .int 0, .int 0, .int 0, .int 0, .int 0, .int 0, .ref a16, .int 0, .ref a17, .int 0, .ref a18, .ref a19, .int 0, .int 0, .int 0, .int 0, .ref a20, .ref a21, .ref a22, .ref a23, .ref a24, .ref a25, .ref a26, .ref a27, .ref a28, .int 0, .ref a29, .ref a30, .ref a31, .long 0, .int 0, .int 0, .int 0, .long 0, .int 0, .ref a32, .int 0, .int 0, .int 0, .int 0, .ref a33, .ref a34, .ref a35]))]) A) (cc := cX12_keep) (maxL := 4) (ret := (some .boolean)) (by decide +kernel) rfl (Nat.le_of_ble_eq_true rfl) ?_
  intro p e s m below meth c A ls H hx hb hr hml hts hown hlocks hnm hsz hP hK hD hA hS hE hAe hl
  replace hl : lv_has ls 4 [(0, .ref a0), (1, .int n0)] := hl
  have hown : s.vm.findClass RX12 = some m.cls := hown
  have w_0 := hts (.fieldLink RX12 127 "SoldToBehindModel" "thrown" "I") (by decide +kernel)
  refine lv_aload_n hx hb dX12_keep_0 rfl (lv_at hl 0 rfl) ?_
  refine lv_iconst (v := 0) hx hb dX12_keep_1 (by decide +kernel) ?_
  refine nb_put (D := D) (ci := 12) (v := .int 0) (ty := .int) (C := RX12) (T := TX12) (N := 72) (ws' := [(a0, .inr (12, [.int 0, .ref a1, .ref a2, .ref a3, .ref a4, .ref a5, .ref a6, .ref a7, .int 0, .ref a8, .int 0, .ref a9, .ref a10, .int 1, .ref a11, .int 0, .ref a12, .int 0, .int 0, .null, .int 0, .int 0, .int 0, .int 0, .ref a13, .ref a14, .ref a15, .int (-1), .int 0, .int 0, .int 0, .int 0, .int 0, .int 0, .int 0, .ref a16, .int 0, .ref a17, .int 0, .ref a18, .ref a19, .int 0, .int 0, .int 0, .int 0, .ref a20, .ref a21, .ref a22, .ref a23, .ref a24, .ref a25, .ref a26, .ref a27, .ref a28, .int 0, .ref a29, .ref a30, .ref a31, .long 0, .int 0, .int 0, .int 0, .long 0, .int 0, .ref a32, .int 0, .int 0, .int 0, .int 0, .ref a33, .ref a34, .ref a35]))]) hx hb hts iX12_keep_X12 tyX12 tyX12_ok nmX12 hown hK hP hD hS 0 rfl rfl 18 (by decide +kernel) w_0 (fun _ h9 => h9) rfl (by decide +kernel) rfl rfl (Nat.le_of_ble_eq_true rfl) rfl dX12_keep_2 (fun H locs hP hD hS => ?_)
  refine lv_iload_n hx hb dX12_keep_5 rfl (lv_at hl 1 rfl) ?_
  refine lv_i2l (v := n0.toInt64) hx hb dX12_keep_6 rfl ?_
  refine lv_lconst (v := 0) hx hb dX12_keep_7 (by decide +kernel) ?_
  refine lv_lconst (v := 1) hx hb dX12_keep_8 (by decide +kernel) ?_
  refine nj_i (ws := [(a0, .inr (12, [.int 0, .ref a1, .ref a2, .ref a3, .ref a4, .ref a5, .ref a6, .ref a7, .int 0, .ref a8, .int 0, .ref a9, .ref a10, .int 1, .ref a11, .int 0, .ref a12, .int 0, .int 0, .null, .int 0, .int 0, .int 0, .int 0, .ref a13, .ref a14, .ref a15, .int (-1), .int 0, .int 0, .int 0, .int 0, .int 0, .int 0, .int 0, .ref a16, .int 0, .ref a17, .int 0, .ref a18, .ref a19, .int 0, .int 0, .int 0, .int 0, .ref a20, .ref a21, .ref a22, .ref a23, .ref a24, .ref a25, .ref a26, .ref a27, .ref a28, .int 0, .ref a29, .ref a30, .ref a31, .long 0, .int 0, .int 0, .int 0, .long 0, .int 0, .ref a32, .int 0, .int 0, .int 0, .int 0, .ref a33, .ref a34, .ref a35]))]) (wc := []) (wr := [(a0, .inr (12, [.int 0, .ref a1, .ref a2, .ref a3, .ref a4, .ref a5, .ref a6, .ref a7, .int 0, .ref a8, .int 0, .ref a9, .ref a10, .int 1, .ref a11, .int 0, .ref a12, .int 0, .int 0, .null, .int 0, .int 0, .int 0, .int 0, .ref a13, .ref a14, .ref a15, .int (-1), .int 0, .int 0, .int 0, .int 0, .int 0, .int 0, .int 0, .ref a16, .int 0, .ref a17, .int 0, .ref a18, .ref a19, .int 0, .int 0, .int 0, .int 0, .ref a20, .ref a21, .ref a22, .ref a23, .ref a24, .ref a25, .ref a26, .ref a27, .ref a28, .int 0, .ref a29, .ref a30, .ref a31, .long 0, .int 0, .int 0, .int 0, .long 0, .int 0, .ref a32, .int 0, .int 0, .int 0, .int 0, .ref a33, .ref a34, .ref a35]))]) (nr_S (As := [.long n0.toInt64, .long 0, .long 1]) (rest := []) ⟨hx, hb, hml, hown, hts⟩ (cX12_in_43 l D y n0.toInt64 (q_i2llo hn0l rfl) H.size) (va_cwS 3 hts gX12_keep_X12_in rfl rfl rfl (by decide +kernel) ⟨Nat.le_of_ble_eq_true rfl, Nat.le_of_ble_eq_true rfl⟩) hK hP hD hE [] rfl (by decide +kernel) rfl rfl hl.1 rfl (lv_room (Nat.le_of_ble_eq_true rfl)) dX12_keep_9 ⟨Nat.le_of_ble_eq_true rfl, Nat.le_of_ble_eq_true rfl⟩) hP hD hS hA [] [0] rfl rfl (by decide +kernel) (by decide +kernel) (fun r2 u1 H locs er2 hP hD hS => ?_)
  replace hP : va_P D vwCl [(a0, .inr (12, [.int 0, .ref a1, .ref a2, .ref a3, .ref a4, .ref a5, .ref a6, .ref a7, .int 0, .ref a8, .int 0, .ref a9, .ref a10, .int 1, .ref a11, .int 0, .ref a12, .int 0, .int 0, .null, .int 0, .int 0, .int 0, .int 0, .ref a13, .ref a14, .ref a15, .int (-1), .int 0, .int 0, .int 0, .int 0, .int 0, .int 0, .int 0, .ref a16, .int 0, .ref a17, .int 0, .ref a18, .ref a19, .int 0, .int 0, .int 0, .int 0, .ref a20, .ref a21, .ref a22, .ref a23, .ref a24, .ref a25, .ref a26, .ref a27, .ref a28, .int 0, .ref a29, .ref a30, .ref a31, .long 0, .int 0, .int 0, .int 0, .long 0, .int 0, .ref a32, .int 0, .int 0, .int 0, .int 0, .ref a33, .ref a34, .ref a35]))] H := hP
  replace hD : va_D A [(a0, .inr (12, [.int 0, .ref a1, .ref a2, .ref a3, .ref a4, .ref a5, .ref a6, .ref a7, .int 0, .ref a8, .int 0, .ref a9, .ref a10, .int 1, .ref a11, .int 0, .ref a12, .int 0, .int 0, .null, .int 0, .int 0, .int 0, .int 0, .ref a13, .ref a14, .ref a15, .int (-1), .int 0, .int 0, .int 0, .int 0, .int 0, .int 0, .int 0, .ref a16, .int 0, .ref a17, .int 0, .ref a18, .ref a19, .int 0, .int 0, .int 0, .int 0, .ref a20, .ref a21, .ref a22, .ref a23, .ref a24, .ref a25, .ref a26, .ref a27, .ref a28, .int 0, .ref a29, .ref a30, .ref a31, .long 0, .int 0, .int 0, .int 0, .long 0, .int 0, .ref a32, .int 0, .int 0, .int 0, .int 0, .ref a33, .ref a34, .ref a35]))] := hD
  subst er2
  refine lv_if_ne (tgt := 17) hx hb dX12_keep_12 (by decide +kernel) (fun c => absurd (by decide +kernel) c) (fun _ => ?_)
  refine lv_iconst (v := 0) hx hb dX12_keep_15 (by decide +kernel) ?_
  refine W.widen (k := 0) (n := 0) (Nat.le_of_ble_eq_true rfl) (Nat.le_of_ble_eq_true rfl) ?_
  exact W.zret (v := 0) hx hb hr (by decide +kernel) (fun t ht hW => ⟨⟨0, (fun _ => 0), rfl, rfl, by rw [ht]; exact hP, va_K.moved hW.alike hK, hD⟩, hS.F ht⟩) hS.2.2 dX12_keep_16 hlocks
