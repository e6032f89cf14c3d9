theorem wd_3_50 : (Cond.methodLink RJ0 335 yJ0_coder_7d493) ∈ gT := gt_m3 50 (by decide +kernel) (by decide +kernel)
theorem wd_3_51 : (Cond.instanceMethod yJ0_coder_7d493) ∈ gT := gt_m3 51 (by decide +kernel) (by decide +kernel)
theorem wd_3_52 : (Cond.selects RJ0 yJ0_coder_7d493 yJ0_coder_7d493) ∈ gT := gt_m3 52 (by decide +kernel) (by decide +kernel)
theorem wd_3_53 : (Cond.code yJ0_coder_7d493 cJ0_coder_7d493 1 (some .byte)) ∈ gT := gt_m3 53 (by decide +kernel) (by decide +kernel)
theorem wd_9_103 : (Cond.methodLink RJ0 1059 yJ3_checkIndex_8e157) ∈ gT := gt_m9 103 (by decide +kernel) (by decide +kernel)
theorem wd_9_104 : (Cond.static yJ3_checkIndex_8e157) ∈ gT := gt_m9 104 (by decide +kernel) (by decide +kernel)
theorem wd_1_19 : (Cond.initialized RJ3) ∈ gT := gt_m1 19 (by decide +kernel) (by decide +kernel)
theorem wd_9_105 : (Cond.code yJ3_checkIndex_8e157 cJ3_checkIndex_8e157 3 (some .int)) ∈ gT := gt_m9 105 (by decide +kernel) (by decide +kernel)
theorem wd_9_100 : (Cond.methodLink RJ1 9 yJ0_checkIndex_df160) ∈ gT := gt_m9 100 (by decide +kernel) (by decide +kernel)
theorem wd_9_101 : (Cond.static yJ0_checkIndex_df160) ∈ gT := gt_m9 101 (by decide +kernel) (by decide +kernel)
theorem wd_9_102 : (Cond.code yJ0_checkIndex_df160 cJ0_checkIndex_df160 2 none) ∈ gT := gt_m9 102 (by decide +kernel) (by decide +kernel)
theorem wd_3_40 : (Cond.methodLink RJ0 492 yJ0_isLatin1_aae02) ∈ gT := gt_m3 40 (by decide +kernel) (by decide +kernel)
theorem wd_3_41 : (Cond.instanceMethod yJ0_isLatin1_aae02) ∈ gT := gt_m3 41 (by decide +kernel) (by decide +kernel)
theorem wd_3_42 : (Cond.selects RJ0 yJ0_isLatin1_aae02 yJ0_isLatin1_aae02) ∈ gT := gt_m3 42 (by decide +kernel) (by decide +kernel)
theorem wd_3_43 : (Cond.code yJ0_isLatin1_aae02 cJ0_isLatin1_aae02 1 (some .boolean)) ∈ gT := gt_m3 43 (by decide +kernel) (by decide +kernel)
theorem wd_9_97 : (Cond.methodLink RJ0 495 yJ1_charAt_3b067) ∈ gT := gt_m9 97 (by decide +kernel) (by decide +kernel)
theorem wd_9_98 : (Cond.static yJ1_charAt_3b067) ∈ gT := gt_m9 98 (by decide +kernel) (by decide +kernel)
theorem wd_1_17 : (Cond.initialized RJ1) ∈ gT := gt_m1 17 (by decide +kernel) (by decide +kernel)
theorem wd_9_99 : (Cond.code yJ1_charAt_3b067 cJ1_charAt_3b067 2 (some .char)) ∈ gT := gt_m9 99 (by decide +kernel) (by decide +kernel)
theorem wd_3_44 : (Cond.fieldLink RJ0 38 "java/lang/String" "COMPACT_STRINGS" "Z") ∈ gT := gt_m3 44 (by decide +kernel) (by decide +kernel)
theorem wd_9_171 : (Cond.fieldLink RJ0 15 "java/lang/String" "coder" "B") ∈ gT := gt_m9 171 (by decide +kernel) (by decide +kernel)
theorem wd_9_172 : (Cond.fieldLink RJ0 9 "java/lang/String" "value" "[B") ∈ gT := gt_m9 172 (by decide +kernel) (by decide +kernel)
theorem wd_3_85 : (Cond.fieldLink RJ0 1053 "jdk/internal/util/Preconditions" "SIOOBE_FORMATTER" "Ljava/util/function/BiFunction;") ∈ gT := gt_m3 85 (by decide +kernel) (by decide +kernel)
theorem dJ0_coder_7d493_0 : decode cJ0_coder_7d493 0 = .ok (.getstatic 38, 3) := by decide +kernel
theorem dJ0_coder_7d493_3 : decode cJ0_coder_7d493 3 = .ok (.ifCond .eq 10, 3) := by decide +kernel
theorem dJ0_coder_7d493_6 : decode cJ0_coder_7d493 6 = .ok (.aload_n 0, 1) := by decide +kernel
theorem dJ0_coder_7d493_7 : decode cJ0_coder_7d493 7 = .ok (.getfield 15, 3) := by decide +kernel
theorem dJ0_coder_7d493_10 : decode cJ0_coder_7d493 10 = .ok (.goto 4, 3) := by decide +kernel
theorem dJ0_coder_7d493_14 : decode cJ0_coder_7d493 14 = .ok (.ireturn, 1) := by decide +kernel
theorem dJ0_length_8abf5_0 : decode cJ0_length_8abf5 0 = .ok (.aload_n 0, 1) := by decide +kernel
theorem dJ0_length_8abf5_1 : decode cJ0_length_8abf5 1 = .ok (.getfield 9, 3) := by decide +kernel
theorem dJ0_length_8abf5_4 : decode cJ0_length_8abf5 4 = .ok (.arraylength, 1) := by decide +kernel
theorem dJ0_length_8abf5_5 : decode cJ0_length_8abf5 5 = .ok (.aload_n 0, 1) := by decide +kernel
theorem dJ0_length_8abf5_6 : decode cJ0_length_8abf5 6 = .ok (.invokevirtual 335, 3) := by decide +kernel
theorem dJ0_length_8abf5_9 : decode cJ0_length_8abf5 9 = .ok (.ishr, 1) := by decide +kernel
theorem dJ0_length_8abf5_10 : decode cJ0_length_8abf5 10 = .ok (.ireturn, 1) := by decide +kernel
theorem gJ0_length_8abf5_J0_coder_7d493 : GoodIn wsJ0_length_8abf5 (wsV RJ0 335 RJ0 yJ0_coder_7d493 wsJ0_coder_7d493) := gi_V wd_3_50 wd_3_51 wd_3_52 wd_1_16 wd_3_53
theorem dJ0_isLatin1_aae02_0 : decode cJ0_isLatin1_aae02 0 = .ok (.getstatic 38, 3) := by decide +kernel
theorem dJ0_isLatin1_aae02_3 : decode cJ0_isLatin1_aae02 3 = .ok (.ifCond .eq 14, 3) := by decide +kernel
theorem dJ0_isLatin1_aae02_6 : decode cJ0_isLatin1_aae02 6 = .ok (.aload_n 0, 1) := by decide +kernel
theorem dJ0_isLatin1_aae02_7 : decode cJ0_isLatin1_aae02 7 = .ok (.getfield 15, 3) := by decide +kernel
theorem dJ0_isLatin1_aae02_10 : decode cJ0_isLatin1_aae02 10 = .ok (.ifCond .ne 7, 3) := by decide +kernel
theorem dJ0_isLatin1_aae02_13 : decode cJ0_isLatin1_aae02 13 = .ok (.iconst 1, 1) := by decide +kernel
theorem dJ0_isLatin1_aae02_14 : decode cJ0_isLatin1_aae02 14 = .ok (.goto 4, 3) := by decide +kernel
theorem dJ0_isLatin1_aae02_18 : decode cJ0_isLatin1_aae02 18 = .ok (.ireturn, 1) := by decide +kernel
theorem dJ0_checkIndex_df160_0 : decode cJ0_checkIndex_df160 0 = .ok (.iload_n 0, 1) := by decide +kernel
theorem dJ0_checkIndex_df160_1 : decode cJ0_checkIndex_df160 1 = .ok (.iload_n 1, 1) := by decide +kernel
theorem dJ0_checkIndex_df160_2 : decode cJ0_checkIndex_df160 2 = .ok (.getstatic 1053, 3) := by decide +kernel
theorem dJ0_checkIndex_df160_5 : decode cJ0_checkIndex_df160 5 = .ok (.invokestatic 1059, 3) := by decide +kernel
theorem dJ0_checkIndex_df160_8 : decode cJ0_checkIndex_df160 8 = .ok (.pop, 1) := by decide +kernel
theorem dJ0_checkIndex_df160_9 : decode cJ0_checkIndex_df160 9 = .ok (.return_, 1) := by decide +kernel
theorem gJ0_checkIndex_df160_J3_checkIndex_8e157 : GoodIn wsJ0_checkIndex_df160 (va_wsS RJ0 1059 yJ3_checkIndex_8e157 wsJ3_checkIndex_8e157) := gi_S wd_9_103 wd_9_104 wd_1_19 wd_9_105
theorem dJ1_charAt_3b067_0 : decode cJ1_charAt_3b067 0 = .ok (.iload_n 1, 1) := by decide +kernel
theorem dJ1_charAt_3b067_1 : decode cJ1_charAt_3b067 1 = .ok (.aload_n 0, 1) := by decide +kernel
theorem dJ1_charAt_3b067_2 : decode cJ1_charAt_3b067 2 = .ok (.arraylength, 1) := by decide +kernel
theorem dJ1_charAt_3b067_3 : decode cJ1_charAt_3b067 3 = .ok (.invokestatic 9, 3) := by decide +kernel
theorem dJ1_charAt_3b067_6 : decode cJ1_charAt_3b067 6 = .ok (.aload_n 0, 1) := by decide +kernel
theorem dJ1_charAt_3b067_7 : decode cJ1_charAt_3b067 7 = .ok (.iload_n 1, 1) := by decide +kernel
theorem dJ1_charAt_3b067_8 : decode cJ1_charAt_3b067 8 = .ok (.baload, 1) := by decide +kernel
theorem dJ1_charAt_3b067_9 : decode cJ1_charAt_3b067 9 = .ok (.sipush 255, 3) := by decide +kernel
theorem dJ1_charAt_3b067_12 : decode cJ1_charAt_3b067 12 = .ok (.iand, 1) := by decide +kernel
theorem dJ1_charAt_3b067_13 : decode cJ1_charAt_3b067 13 = .ok (.i2c, 1) := by decide +kernel
theorem dJ1_charAt_3b067_14 : decode cJ1_charAt_3b067 14 = .ok (.ireturn, 1) := by decide +kernel
theorem gJ1_charAt_3b067_J0_checkIndex_df160 : GoodIn wsJ1_charAt_3b067 (va_wsS RJ1 9 yJ0_checkIndex_df160 wsJ0_checkIndex_df160) := gi_S wd_9_100 wd_9_101 wd_1_16 wd_9_102
theorem dJ0_charAt_5068e_0 : decode cJ0_charAt_5068e 0 = .ok (.aload_n 0, 1) := by decide +kernel
theorem dJ0_charAt_5068e_1 : decode cJ0_charAt_5068e 1 = .ok (.invokevirtual 492, 3) := by decide +kernel
theorem dJ0_charAt_5068e_4 : decode cJ0_charAt_5068e 4 = .ok (.ifCond .eq 12, 3) := by decide +kernel
theorem dJ0_charAt_5068e_7 : decode cJ0_charAt_5068e 7 = .ok (.aload_n 0, 1) := by decide +kernel
theorem dJ0_charAt_5068e_8 : decode cJ0_charAt_5068e 8 = .ok (.getfield 9, 3) := by decide +kernel
theorem dJ0_charAt_5068e_11 : decode cJ0_charAt_5068e 11 = .ok (.iload_n 1, 1) := by decide +kernel
theorem dJ0_charAt_5068e_12 : decode cJ0_charAt_5068e 12 = .ok (.invokestatic 495, 3) := by decide +kernel
theorem dJ0_charAt_5068e_15 : decode cJ0_charAt_5068e 15 = .ok (.ireturn, 1) := by decide +kernel
theorem gJ0_charAt_5068e_J0_isLatin1_aae02 : GoodIn wsJ0_charAt_5068e (wsV RJ0 492 RJ0 yJ0_isLatin1_aae02 wsJ0_isLatin1_aae02) := gi_V wd_3_40 wd_3_41 wd_3_42 wd_1_16 wd_3_43
theorem gJ0_charAt_5068e_J1_charAt_3b067 : GoodIn wsJ0_charAt_5068e (va_wsS RJ0 495 yJ1_charAt_3b067 wsJ1_charAt_3b067) := gi_S wd_9_97 wd_9_98 wd_1_17 wd_9_99
-- X12_best
set_option maxRecDepth 100000 in
set_option maxHeartbeats 4000000 in
theorem cJ0_coder_7d493_1 (l : Launch) (D : va_G) (y : Nat → ClassId)  (sz : Nat) (ad : Nat → Nat) (lo : Nat) (hlo : va_D (fun q => lo ≤ q) []) (hlz : lo ≤ sz) : Met l yJ0_coder_7d493 wsJ0_coder_7d493 { frames := 2, cells := 0, slots := 0, locals := 200 } (nPc D y (nE4 ad lo) [.ref (ad 0)] [] sz) ((fun A => nQi D y (fun r _ => r = 0) (fun u => []) A) (va_A [] sz)) 0 0 (va_A [] sz) := by
  refine nm_ofW2 (D := D) (y := y) (E := (nE4 ad lo)) (yy := yJ0_coder_7d493) (wsy := wsJ0_coder_7d493) (rm := { frames := 2, cells := 0, slots := 0, locals := 200 }) (as := [.ref (ad 0)]) (ws := []) (sz := sz) (mc := 0) (ms := 0) (Qc := fun A => nQi D y (fun r _ => r = 0) (fun u => []) A) (cc := cJ0_coder_7d493) (maxL := 1) (ret := (some .byte)) (by decide +kernel) rfl (Nat.le_of_ble_eq_true rfl) ?_
  intro p e s m below meth c A ls H hx hb hr hml hts hown hlocks hnm hsz hP hK hD hA hS hE hAe hl
  replace hl : lv_has ls 1 [(0, .ref (ad 0))] := hl
  have hown : s.vm.findClass RJ0 = some m.cls := hown
  have hAl : ∀ q : Nat, A q → lo ≤ q := by rw [hAe]; exact n_lo hlo hlz
  have hls : lo ≤ s.heap.size := by rw [hsz]; exact hlz
  have hSS := hE.2
  replace hE := hE.1
  have w_0 := hts (.fieldLink RJ0 38 "java/lang/String" "COMPACT_STRINGS" "Z") (gt_k wd_3_44)
  have w_1 := hts (.fieldLink RJ0 15 "java/lang/String" "coder" "B") (gt_k wd_9_171)
  refine va_gets hx hb (hSS.2.1.narrow hAl) hS hown w_0 (fun _ h9 => h9) dJ0_coder_7d493_0 ?_
  refine lv_if_eq (tgt := 13) hx hb dJ0_coder_7d493_3 (by decide +kernel) (fun c => absurd c (by decide +kernel)) (fun _ => ?_)
  refine lv_aload_n hx hb dJ0_coder_7d493_6 rfl (lv_at hl 0 rfl) ?_
  refine vk_getf hx hb (hSS.1.2.1.narrow hAl) hS hown w_1 (fun _ h9 => h9) dJ0_coder_7d493_7 ?_
  refine lv_goto (tgt := 14) hx hb dJ0_coder_7d493_10 (by decide +kernel) ?_
  refine W.widen (k := 0) (n := 0) (Nat.le_of_ble_eq_true rfl) (Nat.le_of_ble_eq_true rfl) ?_
  exact W.zret (v := 0) hx hb hr (by decide +kernel) (fun t ht hW => ⟨⟨0, (fun _ => 0), rfl, rfl, by rw [ht]; exact hP, va_K.moved hW.alike hK, hD⟩, hS.F ht⟩) hS.2.2 dJ0_coder_7d493_14 hlocks
set_option maxRecDepth 100000 in
set_option maxHeartbeats 4000000 in
theorem cJ0_length_8abf5_1 (l : Launch) (D : va_G) (y : Nat → ClassId)  (sz : Nat) (ad : Nat → Nat) (lo : Nat) (hlo : va_D (fun q => lo ≤ q) []) (hlz : lo ≤ sz) : Met l yJ0_length_8abf5 wsJ0_length_8abf5 { frames := 3, cells := 0, slots := 0, locals := 220 } (nPc D y (nE4 ad lo) [.ref (ad 0)] [] sz) ((fun A => nQi D y (fun r _ => r = 4) (fun u => []) A) (va_A [] sz)) 0 0 (va_A [] sz) := by
  refine nm_ofW2 (D := D) (y := y) (E := (nE4 ad lo)) (yy := yJ0_length_8abf5) (wsy := wsJ0_length_8abf5) (rm := { frames := 3, cells := 0, slots := 0, locals := 220 }) (as := [.ref (ad 0)]) (ws := []) (sz := sz) (mc := 0) (ms := 0) (Qc := fun A => nQi D y (fun r _ => r = 4) (fun u => []) A) (cc := cJ0_length_8abf5) (maxL := 1) (ret := (some .int)) (by decide +kernel) rfl (Nat.le_of_ble_eq_true rfl) ?_
  intro p e s m below meth c A ls H hx hb hr hml hts hown hlocks hnm hsz hP hK hD hA hS hE hAe hl
  replace hl : lv_has ls 1 [(0, .ref (ad 0))] := hl
  have hown : s.vm.findClass RJ0 = some m.cls := hown
  have hAl : ∀ q : Nat, A q → lo ≤ q := by rw [hAe]; exact n_lo hlo hlz
  have hls : lo ≤ s.heap.size := by rw [hsz]; exact hlz
  have hSS := hE.2
  replace hE := hE.1
  have w_0 := hts (.fieldLink RJ0 9 "java/lang/String" "value" "[B") (gt_k wd_9_172)
  refine lv_aload_n hx hb dJ0_length_8abf5_0 rfl (lv_at hl 0 rfl) ?_
  refine vk_getf hx hb (hSS.1.2.2.1.narrow hAl) hS hown w_0 (fun _ h9 => h9) dJ0_length_8abf5_1 ?_
  refine va_tlen (v := 4) hx hb (hSS.1.2.2.2.narrow hAl) hS (by decide +kernel) dJ0_length_8abf5_4 ?_
  refine lv_aload_n hx hb dJ0_length_8abf5_5 rfl (lv_at hl 0 rfl) ?_
  refine nj_i (ws := []) (wc := []) (wr := []) (nr_V4 (As := []) (rest := [.int 4]) ⟨hx, hb, hml, hown, hts⟩ (fun h1 h2 => cJ0_coder_7d493_1 l D y  H.size ad lo h1 h2) (cwV 0 hts gJ0_length_8abf5_J0_coder_7d493 rfl rfl rfl (by decide +kernel) ⟨Nat.le_of_ble_eq_true rfl, Nat.le_of_ble_eq_true rfl⟩) (va_Orecv (hSS.1.1.narrow hAl) hS) hK hP hD hS hE hSS hAl hls [] rfl (by decide +kernel) rfl rfl hl.1 rfl (lv_room (Nat.le_of_ble_eq_true rfl)) dJ0_length_8abf5_6 ⟨Nat.le_of_ble_eq_true rfl, Nat.le_of_ble_eq_true rfl⟩) hP hD hS hA [] [] rfl rfl (by decide +kernel) (by decide +kernel) (fun r2 u1 H locs er2 hP hD hS => ?_)
  subst er2
  refine lv_ishr hx hb dJ0_length_8abf5_9 ?_
  refine nv_i (v := 4) (by decide +kernel) ?_
  refine W.widen (k := 0) (n := 0) (Nat.le_of_ble_eq_true rfl) (Nat.le_of_ble_eq_true rfl) ?_
  exact W.iret (v := 4) hx hb hr (fun t ht hW => ⟨⟨4, (fun _ => 0), rfl, rfl, by rw [ht]; exact hP, va_K.moved hW.alike hK, hD⟩, hS.F ht⟩) hS.2.2 dJ0_length_8abf5_10 hlocks
set_option maxRecDepth 100000 in
set_option maxHeartbeats 4000000 in
theorem cJ0_isLatin1_aae02_1 (l : Launch) (D : va_G) (y : Nat → ClassId)  (sz : Nat) (ad : Nat → Nat) (lo : Nat) (hlo : va_D (fun q => lo ≤ q) []) (hlz : lo ≤ sz) : Met l yJ0_isLatin1_aae02 wsJ0_isLatin1_aae02 { frames := 2, cells := 0, slots := 0, locals := 200 } (nPc D y (nE4 ad lo) [.ref (ad 0)] [] sz) ((fun A => nQi D y (fun r _ => r = 1) (fun u => []) A) (va_A [] sz)) 0 0 (va_A [] sz) := by
  refine nm_ofW2 (D := D) (y := y) (E := (nE4 ad lo)) (yy := yJ0_isLatin1_aae02) (wsy := wsJ0_isLatin1_aae02) (rm := { frames := 2, cells := 0, slots := 0, locals := 200 }) (as := [.ref (ad 0)]) (ws := []) (sz := sz) (mc := 0) (ms := 0) (Qc := fun A => nQi D y (fun r _ => r = 1) (fun u => []) A) (cc := cJ0_isLatin1_aae02) (maxL := 1) (ret := (some .boolean)) (by decide +kernel) rfl (Nat.le_of_ble_eq_true rfl) ?_
  intro p e s m below meth c A ls H hx hb hr hml hts hown hlocks hnm hsz hP hK hD hA hS hE hAe hl
  replace hl : lv_has ls 1 [(0, .ref (ad 0))] := hl
  have hown : s.vm.findClass RJ0 = some m.cls := hown
  have hAl : ∀ q : Nat, A q → lo ≤ q := by rw [hAe]; exact n_lo hlo hlz
  have hls : lo ≤ s.heap.size := by rw [hsz]; exact hlz
  have hSS := hE.2
  replace hE := hE.1
  have w_0 := hts (.fieldLink RJ0 38 "java/lang/String" "COMPACT_STRINGS" "Z") (gt_k wd_3_44)
  have w_1 := hts (.fieldLink RJ0 15 "java/lang/String" "coder" "B") (gt_k wd_9_171)
  refine va_gets hx hb (hSS.2.1.narrow hAl) hS hown w_0 (fun _ h9 => h9) dJ0_isLatin1_aae02_0 ?_
  refine lv_if_eq (tgt := 17) hx hb dJ0_isLatin1_aae02_3 (by decide +kernel) (fun c => absurd c (by decide +kernel)) (fun _ => ?_)
  refine lv_aload_n hx hb dJ0_isLatin1_aae02_6 rfl (lv_at hl 0 rfl) ?_
  refine vk_getf hx hb (hSS.1.2.1.narrow hAl) hS hown w_1 (fun _ h9 => h9) dJ0_isLatin1_aae02_7 ?_
  refine lv_if_ne (tgt := 17) hx hb dJ0_isLatin1_aae02_10 (by decide +kernel) (fun c => absurd (by decide +kernel) c) (fun _ => ?_)
  refine lv_iconst (v := 1) hx hb dJ0_isLatin1_aae02_13 (by decide +kernel) ?_
  refine lv_goto (tgt := 18) hx hb dJ0_isLatin1_aae02_14 (by decide +kernel) ?_
  refine W.widen (k := 0) (n := 0) (Nat.le_of_ble_eq_true rfl) (Nat.le_of_ble_eq_true rfl) ?_
  exact W.zret (v := 1) hx hb hr (by decide +kernel) (fun t ht hW => ⟨⟨1, (fun _ => 0), rfl, rfl, by rw [ht]; exact hP, va_K.moved hW.alike hK, hD⟩, hS.F ht⟩) hS.2.2 dJ0_isLatin1_aae02_18 hlocks
set_option maxRecDepth 100000 in
set_option maxHeartbeats 4000000 in
theorem cJ0_checkIndex_df160_1 (l : Launch) (D : va_G) (y : Nat → ClassId)  (sz : Nat) (ad : Nat → Nat) (lo : Nat) (hlo : va_D (fun q => lo ≤ q) []) (hlz : lo ≤ sz) : Met l yJ0_checkIndex_df160 wsJ0_checkIndex_df160 { frames := 3, cells := 0, slots := 0, locals := 222 } (nPc D y (nE4 ad lo) [.int 0, .int 4] [] sz) ((fun A => nQv D y (fun _ => True) (fun u => []) A) (va_A [] sz)) 0 0 (va_A [] sz) := by
  refine nm_ofW2 (D := D) (y := y) (E := (nE4 ad lo)) (yy := yJ0_checkIndex_df160) (wsy := wsJ0_checkIndex_df160) (rm := { frames := 3, cells := 0, slots := 0, locals := 222 }) (as := [.int 0, .int 4]) (ws := []) (sz := sz) (mc := 0) (ms := 0) (Qc := fun A => nQv D y (fun _ => True) (fun u => []) A) (cc := cJ0_checkIndex_df160) (maxL := 2) (ret := none) (by decide +kernel) rfl (Nat.le_of_ble_eq_true rfl) ?_
  intro p e s m below meth c A ls H hx hb hr hml hts hown hlocks hnm hsz hP hK hD hA hS hE hAe hl
  replace hl : lv_has ls 2 [(0, .int 0), (1, .int 4)] := hl
  have hown : s.vm.findClass RJ0 = some m.cls := hown
  have hAl : ∀ q : Nat, A q → lo ≤ q := by rw [hAe]; exact n_lo hlo hlz
  have hls : lo ≤ s.heap.size := by rw [hsz]; exact hlz
  have hSS := hE.2
  replace hE := hE.1
  have w_0 := hts (.fieldLink RJ0 1053 "jdk/internal/util/Preconditions" "SIOOBE_FORMATTER" "Ljava/util/function/BiFunction;") (gt_k wd_3_85)
  refine lv_iload_n hx hb dJ0_checkIndex_df160_0 rfl (lv_at hl 0 rfl) ?_
  refine lv_iload_n hx hb dJ0_checkIndex_df160_1 rfl (lv_at hl 1 rfl) ?_
  rcases hSS.2.2.1 with hz | ⟨t9, hz⟩
  · refine va_gets hx hb (hz.narrow hAl) hS hown w_0 (fun _ h9 => h9) dJ0_checkIndex_df160_2 ?_
    refine nj_i (ws := []) (wc := []) (wr := []) (nr_S (As := [.int 0, .int 4, .null]) (rest := []) ⟨hx, hb, hml, hown, hts⟩ (cJ3_checkIndex_8e157_1 l D y  H.size) (va_cwS 3 hts gJ0_checkIndex_df160_J3_checkIndex_8e157 rfl rfl rfl (by decide +kernel) ⟨Nat.le_of_ble_eq_true rfl, Nat.le_of_ble_eq_true rfl⟩) hK hP hD hE [] rfl (by decide +kernel) rfl rfl hl.1 rfl (lv_room (Nat.le_of_ble_eq_true rfl)) dJ0_checkIndex_df160_5 ⟨Nat.le_of_ble_eq_true rfl, Nat.le_of_ble_eq_true rfl⟩) hP hD hS hA [] [] rfl rfl (by decide +kernel) (by decide +kernel) (fun r2 u1 H locs er2 hP hD hS => ?_)
    subst er2
    refine lv_pop hx hb dJ0_checkIndex_df160_8 rfl ?_
    refine W.widen (k := 0) (n := 0) (Nat.le_of_ble_eq_true rfl) (Nat.le_of_ble_eq_true rfl) ?_
    exact W.vret hx hb hr (fun t ht hW => ⟨⟨(fun _ => 0), rfl, trivial, by rw [ht]; exact hP, va_K.moved hW.alike hK, hD⟩, hS.F ht⟩) hS.2.2 dJ0_checkIndex_df160_9 hlocks
  · refine va_gets hx hb (hz.narrow hAl) hS hown w_0 (fun _ h9 => h9) dJ0_checkIndex_df160_2 ?_
    refine nj_i (ws := []) (wc := []) (wr := []) (nr_S (As := [.int 0, .int 4, .ref t9]) (rest := []) ⟨hx, hb, hml, hown, hts⟩ (cJ3_checkIndex_8e157_2 l D y t9 H.size) (va_cwS 3 hts gJ0_checkIndex_df160_J3_checkIndex_8e157 rfl rfl rfl (by decide +kernel) ⟨Nat.le_of_ble_eq_true rfl, Nat.le_of_ble_eq_true rfl⟩) hK hP hD hE [] rfl (by decide +kernel) rfl rfl hl.1 rfl (lv_room (Nat.le_of_ble_eq_true rfl)) dJ0_checkIndex_df160_5 ⟨Nat.le_of_ble_eq_true rfl, Nat.le_of_ble_eq_true rfl⟩) hP hD hS hA [] [] rfl rfl (by decide +kernel) (by decide +kernel) (fun r4 u3 H locs er4 hP hD hS => ?_)
    subst er4
    refine lv_pop hx hb dJ0_checkIndex_df160_8 rfl ?_
    refine W.widen (k := 0) (n := 0) (Nat.le_of_ble_eq_true rfl) (Nat.le_of_ble_eq_true rfl) ?_
    exact W.vret hx hb hr (fun t ht hW => ⟨⟨(fun _ => 0), rfl, trivial, by rw [ht]; exact hP, va_K.moved hW.alike hK, hD⟩, hS.F ht⟩) hS.2.2 dJ0_checkIndex_df160_9 hlocks
set_option maxRecDepth 100000 in
set_option maxHeartbeats 4000000 in
theorem cJ1_charAt_3b067_1 (l : Launch) (D : va_G) (y : Nat → ClassId)  (sz : Nat) (ad : Nat → Nat) (lo : Nat) (hlo : va_D (fun q => lo ≤ q) []) (hlz : lo ≤ sz) : Met l yJ1_charAt_3b067 wsJ1_charAt_3b067 { frames := 4, cells := 0, slots := 0, locals := 243 } (nPc D y (nE4 ad lo) [.ref (ad 1), .int 0] [] sz) ((fun A => nQi D y (fun r _ => r = 48) (fun u => []) A) (va_A [] sz)) 0 0 (va_A [] sz) := by
  refine nm_ofW2 (D := D) (y := y) (E := (nE4 ad lo)) (yy := yJ1_charAt_3b067) (wsy := wsJ1_charAt_3b067) (rm := { frames := 4, cells := 0, slots := 0, locals := 243 }) (as := [.ref (ad 1), .int 0]) (ws := []) (sz := sz) (mc := 0) (ms := 0) (Qc := fun A => nQi D y (fun r _ => r = 48) (fun u => []) A) (cc := cJ1_charAt_3b067) (maxL := 2) (ret := (some .char)) (by decide +kernel) rfl (Nat.le_of_ble_eq_true rfl) ?_
  intro p e s m below meth c A ls H hx hb hr hml hts hown hlocks hnm hsz hP hK hD hA hS hE hAe hl
  replace hl : lv_has ls 2 [(0, .ref (ad 1)), (1, .int 0)] := hl
  have hown : s.vm.findClass RJ1 = some m.cls := hown
  have hAl : ∀ q : Nat, A q → lo ≤ q := by rw [hAe]; exact n_lo hlo hlz
  have hls : lo ≤ s.heap.size := by rw [hsz]; exact hlz
  have hSS := hE.2
  replace hE := hE.1
  refine lv_iload_n hx hb dJ1_charAt_3b067_0 rfl (lv_at hl 1 rfl) ?_
  refine lv_aload_n hx hb dJ1_charAt_3b067_1 rfl (lv_at hl 0 rfl) ?_
  refine va_tlen (v := 4) hx hb (hSS.1.2.2.2.narrow hAl) hS (by decide +kernel) dJ1_charAt_3b067_2 ?_
  refine nj_v (ws := []) (wc := []) (wr := []) (nr_S4 (As := [.int 0, .int 4]) (rest := []) ⟨hx, hb, hml, hown, hts⟩ (fun h1 h2 => cJ0_checkIndex_df160_1 l D y  H.size ad lo h1 h2) (va_cwS 2 hts gJ1_charAt_3b067_J0_checkIndex_df160 rfl rfl rfl (by decide +kernel) ⟨Nat.le_of_ble_eq_true rfl, Nat.le_of_ble_eq_true rfl⟩) hK hP hD hS hE hSS hAl hls [] rfl (by decide +kernel) rfl rfl hl.1 rfl (lv_room (Nat.le_of_ble_eq_true rfl)) dJ1_charAt_3b067_3 ⟨Nat.le_of_ble_eq_true rfl, Nat.le_of_ble_eq_true rfl⟩) hP hD hS hA [] [] rfl rfl (by decide +kernel) (by decide +kernel) (fun u1 H locs _ hP hD hS => ?_)
  refine lv_aload_n hx hb dJ1_charAt_3b067_6 rfl (lv_at hl 0 rfl) ?_
  refine lv_iload_n hx hb dJ1_charAt_3b067_7 rfl (lv_at hl 1 rfl) ?_
  refine va_tb (v := .int 48) hx hb (hSS.1.2.2.2.narrow hAl) hS (n_in (by decide +kernel)) (by decide +kernel) dJ1_charAt_3b067_8 ?_
  refine lv_sipush (v := 255) hx hb dJ1_charAt_3b067_9 (by decide +kernel) ?_
  refine lv_iand hx hb dJ1_charAt_3b067_12 ?_
  refine nv_i (v := 48) (by decide +kernel) ?_
  refine lv_i2c hx hb dJ1_charAt_3b067_13 rfl ?_
  refine nv_i (v := 48) (by decide +kernel) ?_
  refine W.widen (k := 0) (n := 0) (Nat.le_of_ble_eq_true rfl) (Nat.le_of_ble_eq_true rfl) ?_
  exact W.zret (v := 48) hx hb hr (by decide +kernel) (fun t ht hW => ⟨⟨48, (fun _ => 0), rfl, rfl, by rw [ht]; exact hP, va_K.moved hW.alike hK, hD⟩, hS.F ht⟩) hS.2.2 dJ1_charAt_3b067_14 hlocks
set_option maxRecDepth 100000 in
set_option maxHeartbeats 4000000 in
theorem cJ0_charAt_5068e_1 (l : Launch) (D : va_G) (y : Nat → ClassId)  (sz : Nat) (ad : Nat → Nat) (lo : Nat) (hlo : va_D (fun q => lo ≤ q) []) (hlz : lo ≤ sz) : Met l yJ0_charAt_5068e wsJ0_charAt_5068e { frames := 5, cells := 0, slots := 0, locals := 264 } (nPc D y (nE4 ad lo) [.ref (ad 0), .int 0] [] sz) ((fun A => nQi D y (fun r _ => r = 48) (fun u => []) A) (va_A [] sz)) 0 0 (va_A [] sz) := by
  refine nm_ofW2 (D := D) (y := y) (E := (nE4 ad lo)) (yy := yJ0_charAt_5068e) (wsy := wsJ0_charAt_5068e) (rm := { frames := 5, cells := 0, slots := 0, locals := 264 }) (as := [.ref (ad 0), .int 0]) (ws := []) (sz := sz) (mc := 0) (ms := 0) (Qc := fun A => nQi D y (fun r _ => r = 48) (fun u => []) A) (cc := cJ0_charAt_5068e) (maxL := 2) (ret := (some .char)) (by decide +kernel) rfl (Nat.le_of_ble_eq_true rfl) ?_
  intro p e s m below meth c A ls H hx hb hr hml hts hown hlocks hnm hsz hP hK hD hA hS hE hAe hl
  replace hl : lv_has ls 2 [(0, .ref (ad 0)), (1, .int 0)] := hl
  have hown : s.vm.findClass RJ0 = some m.cls := hown
  have hAl : ∀ q : Nat, A q → lo ≤ q := by rw [hAe]; exact n_lo hlo hlz
  have hls : lo ≤ s.heap.size := by rw [hsz]; exact hlz
  have hSS := hE.2
  replace hE := hE.1
  have w_0 := hts (.fieldLink RJ0 9 "java/lang/String" "value" "[B") (gt_k wd_9_172)
  refine lv_aload_n hx hb dJ0_charAt_5068e_0 rfl (lv_at hl 0 rfl) ?_
  refine nj_i (ws := []) (wc := []) (wr := []) (nr_V4 (As := []) (rest := []) ⟨hx, hb, hml, hown, hts⟩ (fun h1 h2 => cJ0_isLatin1_aae02_1 l D y  H.size ad lo h1 h2) (cwV 0 hts gJ0_charAt_5068e_J0_isLatin1_aae02 rfl rfl rfl (by decide +kernel) ⟨Nat.le_of_ble_eq_true rfl, Nat.le_of_ble_eq_true rfl⟩) (va_Orecv (hSS.1.1.narrow hAl) hS) hK hP hD hS hE hSS hAl hls [] rfl (by decide +kernel) rfl rfl hl.1 rfl (lv_room (Nat.le_of_ble_eq_true rfl)) dJ0_charAt_5068e_1 ⟨Nat.le_of_ble_eq_true rfl, Nat.le_of_ble_eq_true rfl⟩) hP hD hS hA [] [] rfl rfl (by decide +kernel) (by decide +kernel) (fun r2 u1 H locs er2 hP hD hS => ?_)
  subst er2
  refine lv_if_eq (tgt := 16) hx hb dJ0_charAt_5068e_4 (by decide +kernel) (fun c => absurd c (by decide +kernel)) (fun _ => ?_)
  refine lv_aload_n hx hb dJ0_charAt_5068e_7 rfl (lv_at hl 0 rfl) ?_
  refine vk_getf hx hb (hSS.1.2.2.1.narrow hAl) hS hown w_0 (fun _ h9 => h9) dJ0_charAt_5068e_8 ?_
  refine lv_iload_n hx hb dJ0_charAt_5068e_11 rfl (lv_at hl 1 rfl) ?_
  refine nj_i (ws := []) (wc := []) (wr := []) (nr_S4 (As := [.ref (ad 1), .int 0]) (rest := []) ⟨hx, hb, hml, hown, hts⟩ (fun h1 h2 => cJ1_charAt_3b067_1 l D y  H.size ad lo h1 h2) (va_cwS 2 hts gJ0_charAt_5068e_J1_charAt_3b067 rfl rfl rfl (by decide +kernel) ⟨Nat.le_of_ble_eq_true rfl, Nat.le_of_ble_eq_true rfl⟩) hK hP hD hS hE hSS hAl hls [] rfl (by decide +kernel) rfl rfl hl.1 rfl (lv_room (Nat.le_of_ble_eq_true rfl)) dJ0_charAt_5068e_12 ⟨Nat.le_of_ble_eq_true rfl, Nat.le_of_ble_eq_true rfl⟩) hP hD hS hA [] [] rfl rfl (by decide +kernel) (by decide +kernel) (fun r4 u3 H locs er4 hP hD hS => ?_)
  subst er4
  refine W.widen (k := 0) (n := 0) (Nat.le_of_ble_eq_true rfl) (Nat.le_of_ble_eq_true rfl) ?_
  exact W.zret (v := 48) hx hb hr (by decide +kernel) (fun t ht hW => ⟨⟨48, (fun _ => 0), rfl, rfl, by rw [ht]; exact hP, va_K.moved hW.alike hK, hD⟩, hS.F ht⟩) hS.2.2 dJ0_charAt_5068e_15 hlocks
set_option maxRecDepth 100000 in
set_option maxHeartbeats 4000000 in
theorem cJ0_checkIndex_df160_2 (l : Launch) (D : va_G) (y : Nat → ClassId)  (sz : Nat) (ad : Nat → Nat) (lo : Nat) (hlo : va_D (fun q => lo ≤ q) []) (hlz : lo ≤ sz) : Met l yJ0_checkIndex_df160 wsJ0_checkIndex_df160 { frames := 3, cells := 0, slots := 0, locals := 222 } (nPc D y (nE4 ad lo) [.int 1, .int 4] [] sz) ((fun A => nQv D y (fun _ => True) (fun u => []) A) (va_A [] sz)) 0 0 (va_A [] sz) := by
  refine nm_ofW2 (D := D) (y := y) (E := (nE4 ad lo)) (yy := yJ0_checkIndex_df160) (wsy := wsJ0_checkIndex_df160) (rm := { frames := 3, cells := 0, slots := 0, locals := 222 }) (as := [.int 1, .int 4]) (ws := []) (sz := sz) (mc := 0) (ms := 0) (Qc := fun A => nQv D y (fun _ => True) (fun u => []) A) (cc := cJ0_checkIndex_df160) (maxL := 2) (ret := none) (by decide +kernel) rfl (Nat.le_of_ble_eq_true rfl) ?_
  intro p e s m below meth c A ls H hx hb hr hml hts hown hlocks hnm hsz hP hK hD hA hS hE hAe hl
  replace hl : lv_has ls 2 [(0, .int 1), (1, .int 4)] := hl
  have hown : s.vm.findClass RJ0 = some m.cls := hown
  have hAl : ∀ q : Nat, A q → lo ≤ q := by rw [hAe]; exact n_lo hlo hlz
  have hls : lo ≤ s.heap.size := by rw [hsz]; exact hlz
  have hSS := hE.2
  replace hE := hE.1
  have w_0 := hts (.fieldLink RJ0 1053 "jdk/internal/util/Preconditions" "SIOOBE_FORMATTER" "Ljava/util/function/BiFunction;") (gt_k wd_3_85)
  refine lv_iload_n hx hb dJ0_checkIndex_df160_0 rfl (lv_at hl 0 rfl) ?_
  refine lv_iload_n hx hb dJ0_checkIndex_df160_1 rfl (lv_at hl 1 rfl) ?_
  rcases hSS.2.2.1 with hz | ⟨t9, hz⟩
  · refine va_gets hx hb (hz.narrow hAl) hS hown w_0 (fun _ h9 => h9) dJ0_checkIndex_df160_2 ?_
    refine nj_i (ws := []) (wc := []) (wr := []) (nr_S (As := [.int 1, .int 4, .null]) (rest := []) ⟨hx, hb, hml, hown, hts⟩ (cJ3_checkIndex_8e157_3 l D y  H.size) (va_cwS 3 hts gJ0_checkIndex_df160_J3_checkIndex_8e157 rfl rfl rfl (by decide +kernel) ⟨Nat.le_of_ble_eq_true rfl, Nat.le_of_ble_eq_true rfl⟩) hK hP hD hE [] rfl (by decide +kernel) rfl rfl hl.1 rfl (lv_room (Nat.le_of_ble_eq_true rfl)) dJ0_checkIndex_df160_5 ⟨Nat.le_of_ble_eq_true rfl, Nat.le_of_ble_eq_true rfl⟩) hP hD hS hA [] [] rfl rfl (by decide +kernel) (by decide +kernel) (fun r2 u1 H locs er2 hP hD hS => ?_)
    subst er2
    refine lv_pop hx hb dJ0_checkIndex_df160_8 rfl ?_
    refine W.widen (k := 0) (n := 0) (Nat.le_of_ble_eq_true rfl) (Nat.le_of_ble_eq_true rfl) ?_
    exact W.vret hx hb hr (fun t ht hW => ⟨⟨(fun _ => 0), rfl, trivial, by rw [ht]; exact hP, va_K.moved hW.alike hK, hD⟩, hS.F ht⟩) hS.2.2 dJ0_checkIndex_df160_9 hlocks
  · refine va_gets hx hb (hz.narrow hAl) hS hown w_0 (fun _ h9 => h9) dJ0_checkIndex_df160_2 ?_
    refine nj_i (ws := []) (wc := []) (wr := []) (nr_S (As := [.int 1, .int 4, .ref t9]) (rest := []) ⟨hx, hb, hml, hown, hts⟩ (cJ3_checkIndex_8e157_4 l D y t9 H.size) (va_cwS 3 hts gJ0_checkIndex_df160_J3_checkIndex_8e157 rfl rfl rfl (by decide +kernel) ⟨Nat.le_of_ble_eq_true rfl, Nat.le_of_ble_eq_true rfl⟩) hK hP hD hE [] rfl (by decide +kernel) rfl rfl hl.1 rfl (lv_room (Nat.le_of_ble_eq_true rfl)) dJ0_checkIndex_df160_5 ⟨Nat.le_of_ble_eq_true rfl, Nat.le_of_ble_eq_true rfl⟩) hP hD hS hA [] [] rfl rfl (by decide +kernel) (by decide +kernel) (fun r4 u3 H locs er4 hP hD hS => ?_)
    subst er4
    refine lv_pop hx hb dJ0_checkIndex_df160_8 rfl ?_
    refine W.widen (k := 0) (n := 0) (Nat.le_of_ble_eq_true rfl) (Nat.le_of_ble_eq_true rfl) ?_
    exact W.vret hx hb hr (fun t ht hW => ⟨⟨(fun _ => 0), rfl, trivial, by rw [ht]; exact hP, va_K.moved hW.alike hK, hD⟩, hS.F ht⟩) hS.2.2 dJ0_checkIndex_df160_9 hlocks
set_option maxRecDepth 100000 in
set_option maxHeartbeats 4000000 in
theorem cJ1_charAt_3b067_2 (l : Launch) (D : va_G) (y : Nat → ClassId)  (sz : Nat) (ad : Nat → Nat) (lo : Nat) (hlo : va_D (fun q => lo ≤ q) []) (hlz : lo ≤ sz) : Met l yJ1_charAt_3b067 wsJ1_charAt_3b067 { frames := 4, cells := 0, slots := 0, locals := 243 } (nPc D y (nE4 ad lo) [.ref (ad 1), .int 1] [] sz) ((fun A => nQi D y (fun r _ => r = 49) (fun u => []) A) (va_A [] sz)) 0 0 (va_A [] sz) := by
  refine nm_ofW2 (D := D) (y := y) (E := (nE4 ad lo)) (yy := yJ1_charAt_3b067) (wsy := wsJ1_charAt_3b067) (rm := { frames := 4, cells := 0, slots := 0, locals := 243 }) (as := [.ref (ad 1), .int 1]) (ws := []) (sz := sz) (mc := 0) (ms := 0) (Qc := fun A => nQi D y (fun r _ => r = 49) (fun u => []) A) (cc := cJ1_charAt_3b067) (maxL := 2) (ret := (some .char)) (by decide +kernel) rfl (Nat.le_of_ble_eq_true rfl) ?_
  intro p e s m below meth c A ls H hx hb hr hml hts hown hlocks hnm hsz hP hK hD hA hS hE hAe hl
  replace hl : lv_has ls 2 [(0, .ref (ad 1)), (1, .int 1)] := hl
  have hown : s.vm.findClass RJ1 = some m.cls := hown
  have hAl : ∀ q : Nat, A q → lo ≤ q := by rw [hAe]; exact n_lo hlo hlz
  have hls : lo ≤ s.heap.size := by rw [hsz]; exact hlz
  have hSS := hE.2
  replace hE := hE.1
  refine lv_iload_n hx hb dJ1_charAt_3b067_0 rfl (lv_at hl 1 rfl) ?_
  refine lv_aload_n hx hb dJ1_charAt_3b067_1 rfl (lv_at hl 0 rfl) ?_
  refine va_tlen (v := 4) hx hb (hSS.1.2.2.2.narrow hAl) hS (by decide +kernel) dJ1_charAt_3b067_2 ?_
  refine nj_v (ws := []) (wc := []) (wr := []) (nr_S4 (As := [.int 1, .int 4]) (rest := []) ⟨hx, hb, hml, hown, hts⟩ (fun h1 h2 => cJ0_checkIndex_df160_2 l D y  H.size ad lo h1 h2) (va_cwS 2 hts gJ1_charAt_3b067_J0_checkIndex_df160 rfl rfl rfl (by decide +kernel) ⟨Nat.le_of_ble_eq_true rfl, Nat.le_of_ble_eq_true rfl⟩) hK hP hD hS hE hSS hAl hls [] rfl (by decide +kernel) rfl rfl hl.1 rfl (lv_room (Nat.le_of_ble_eq_true rfl)) dJ1_charAt_3b067_3 ⟨Nat.le_of_ble_eq_true rfl, Nat.le_of_ble_eq_true rfl⟩) hP hD hS hA [] [] rfl rfl (by decide +kernel) (by decide +kernel) (fun u1 H locs _ hP hD hS => ?_)
  refine lv_aload_n hx hb dJ1_charAt_3b067_6 rfl (lv_at hl 0 rfl) ?_
  refine lv_iload_n hx hb dJ1_charAt_3b067_7 rfl (lv_at hl 1 rfl) ?_
  refine va_tb (v := .int 49) hx hb (hSS.1.2.2.2.narrow hAl) hS (n_in (by decide +kernel)) (by decide +kernel) dJ1_charAt_3b067_8 ?_
  refine lv_sipush (v := 255) hx hb dJ1_charAt_3b067_9 (by decide +kernel) ?_
  refine lv_iand hx hb dJ1_charAt_3b067_12 ?_
  refine nv_i (v := 49) (by decide +kernel) ?_
  refine lv_i2c hx hb dJ1_charAt_3b067_13 rfl ?_
  refine nv_i (v := 49) (by decide +kernel) ?_
  refine W.widen (k := 0) (n := 0) (Nat.le_of_ble_eq_true rfl) (Nat.le_of_ble_eq_true rfl) ?_
  exact W.zret (v := 49) hx hb hr (by decide +kernel) (fun t ht hW => ⟨⟨49, (fun _ => 0), rfl, rfl, by rw [ht]; exact hP, va_K.moved hW.alike hK, hD⟩, hS.F ht⟩) hS.2.2 dJ1_charAt_3b067_14 hlocks
set_option maxRecDepth 100000 in
set_option maxHeartbeats 4000000 in
theorem cJ0_charAt_5068e_2 (l : Launch) (D : va_G) (y : Nat → ClassId)  (sz : Nat) (ad : Nat → Nat) (lo : Nat) (hlo : va_D (fun q => lo ≤ q) []) (hlz : lo ≤ sz) : Met l yJ0_charAt_5068e wsJ0_charAt_5068e { frames := 5, cells := 0, slots := 0, locals := 264 } (nPc D y (nE4 ad lo) [.ref (ad 0), .int 1] [] sz) ((fun A => nQi D y (fun r _ => r = 49) (fun u => []) A) (va_A [] sz)) 0 0 (va_A [] sz) := by
  refine nm_ofW2 (D := D) (y := y) (E := (nE4 ad lo)) (yy := yJ0_charAt_5068e) (wsy := wsJ0_charAt_5068e) (rm := { frames := 5, cells := 0, slots := 0, locals := 264 }) (as := [.ref (ad 0), .int 1]) (ws := []) (sz := sz) (mc := 0) (ms := 0) (Qc := fun A => nQi D y (fun r _ => r = 49) (fun u => []) A) (cc := cJ0_charAt_5068e) (maxL := 2) (ret := (some .char)) (by decide +kernel) rfl (Nat.le_of_ble_eq_true rfl) ?_
  intro p e s m below meth c A ls H hx hb hr hml hts hown hlocks hnm hsz hP hK hD hA hS hE hAe hl
  replace hl : lv_has ls 2 [(0, .ref (ad 0)), (1, .int 1)] := hl
  have hown : s.vm.findClass RJ0 = some m.cls := hown
  have hAl : ∀ q : Nat, A q → lo ≤ q := by rw [hAe]; exact n_lo hlo hlz
  have hls : lo ≤ s.heap.size := by rw [hsz]; exact hlz
  have hSS := hE.2
  replace hE := hE.1
  have w_0 := hts (.fieldLink RJ0 9 "java/lang/String" "value" "[B") (gt_k wd_9_172)
  refine lv_aload_n hx hb dJ0_charAt_5068e_0 rfl (lv_at hl 0 rfl) ?_
  refine nj_i (ws := []) (wc := []) (wr := []) (nr_V4 (As := []) (rest := []) ⟨hx, hb, hml, hown, hts⟩ (fun h1 h2 => cJ0_isLatin1_aae02_1 l D y  H.size ad lo h1 h2) (cwV 0 hts gJ0_charAt_5068e_J0_isLatin1_aae02 rfl rfl rfl (by decide +kernel) ⟨Nat.le_of_ble_eq_true rfl, Nat.le_of_ble_eq_true rfl⟩) (va_Orecv (hSS.1.1.narrow hAl) hS) hK hP hD hS hE hSS hAl hls [] rfl (by decide +kernel) rfl rfl hl.1 rfl (lv_room (Nat.le_of_ble_eq_true rfl)) dJ0_charAt_5068e_1 ⟨Nat.le_of_ble_eq_true rfl, Nat.le_of_ble_eq_true rfl⟩) hP hD hS hA [] [] rfl rfl (by decide +kernel) (by decide +kernel) (fun r2 u1 H locs er2 hP hD hS => ?_)
  subst er2
  refine lv_if_eq (tgt := 16) hx hb dJ0_charAt_5068e_4 (by decide +kernel) (fun c => absurd c (by decide +kernel)) (fun _ => ?_)
  refine lv_aload_n hx hb dJ0_charAt_5068e_7 rfl (lv_at hl 0 rfl) ?_
  refine vk_getf hx hb (hSS.1.2.2.1.narrow hAl) hS hown w_0 (fun _ h9 => h9) dJ0_charAt_5068e_8 ?_
  refine lv_iload_n hx hb dJ0_charAt_5068e_11 rfl (lv_at hl 1 rfl) ?_
  refine nj_i (ws := []) (wc := []) (wr := []) (nr_S4 (As := [.ref (ad 1), .int 1]) (rest := []) ⟨hx, hb, hml, hown, hts⟩ (fun h1 h2 => cJ1_charAt_3b067_2 l D y  H.size ad lo h1 h2) (va_cwS 2 hts gJ0_charAt_5068e_J1_charAt_3b067 rfl rfl rfl (by decide +kernel) ⟨Nat.le_of_ble_eq_true rfl, Nat.le_of_ble_eq_true rfl⟩) hK hP hD hS hE hSS hAl hls [] rfl (by decide +kernel) rfl rfl hl.1 rfl (lv_room (Nat.le_of_ble_eq_true rfl)) dJ0_charAt_5068e_12 ⟨Nat.le_of_ble_eq_true rfl, Nat.le_of_ble_eq_true rfl⟩) hP hD hS hA [] [] rfl rfl (by decide +kernel) (by decide +kernel) (fun r4 u3 H locs er4 hP hD hS => ?_)
  subst er4
  refine W.widen (k := 0) (n := 0) (Nat.le_of_ble_eq_true rfl) (Nat.le_of_ble_eq_true rfl) ?_
  exact W.zret (v := 49) hx hb hr (by decide +kernel) (fun t ht hW => ⟨⟨49, (fun _ => 0), rfl, rfl, by rw [ht]; exact hP, va_K.moved hW.alike hK, hD⟩, hS.F ht⟩) hS.2.2 dJ0_charAt_5068e_15 hlocks
set_option maxRecDepth 100000 in
set_option maxHeartbeats 4000000 in
theorem cJ0_checkIndex_df160_3 (l : Launch) (D : va_G) (y : Nat → ClassId)  (sz : Nat) (ad : Nat → Nat) (lo : Nat) (hlo : va_D (fun q => lo ≤ q) []) (hlz : lo ≤ sz) : Met l yJ0_checkIndex_df160 wsJ0_checkIndex_df160 { frames := 3, cells := 0, slots := 0, locals := 222 } (nPc D y (nE4 ad lo) [.int 2, .int 4] [] sz) ((fun A => nQv D y (fun _ => True) (fun u => []) A) (va_A [] sz)) 0 0 (va_A [] sz) := by
  refine nm_ofW2 (D := D) (y := y) (E := (nE4 ad lo)) (yy := yJ0_checkIndex_df160) (wsy := wsJ0_checkIndex_df160) (rm := { frames := 3, cells := 0, slots := 0, locals := 222 }) (as := [.int 2, .int 4]) (ws := []) (sz := sz) (mc := 0) (ms := 0) (Qc := fun A => nQv D y (fun _ => True) (fun u => []) A) (cc := cJ0_checkIndex_df160) (maxL := 2) (ret := none) (by decide +kernel) rfl (Nat.le_of_ble_eq_true rfl) ?_
  intro p e s m below meth c A ls H hx hb hr hml hts hown hlocks hnm hsz hP hK hD hA hS hE hAe hl
  replace hl : lv_has ls 2 [(0, .int 2), (1, .int 4)] := hl
  have hown : s.vm.findClass RJ0 = some m.cls := hown
  have hAl : ∀ q : Nat, A q → lo ≤ q := by rw [hAe]; exact n_lo hlo hlz
  have hls : lo ≤ s.heap.size := by rw [hsz]; exact hlz
  have hSS := hE.2
  replace hE := hE.1
  have w_0 := hts (.fieldLink RJ0 1053 "jdk/internal/util/Preconditions" "SIOOBE_FORMATTER" "Ljava/util/function/BiFunction;") (gt_k wd_3_85)
  refine lv_iload_n hx hb dJ0_checkIndex_df160_0 rfl (lv_at hl 0 rfl) ?_
  refine lv_iload_n hx hb dJ0_checkIndex_df160_1 rfl (lv_at hl 1 rfl) ?_
  rcases hSS.2.2.1 with hz | ⟨t9, hz⟩
  · refine va_gets hx hb (hz.narrow hAl) hS hown w_0 (fun _ h9 => h9) dJ0_checkIndex_df160_2 ?_
    refine nj_i (ws := []) (wc := []) (wr := []) (nr_S (As := [.int 2, .int 4, .null]) (rest := []) ⟨hx, hb, hml, hown, hts⟩ (cJ3_checkIndex_8e157_5 l D y  H.size) (va_cwS 3 hts gJ0_checkIndex_df160_J3_checkIndex_8e157 rfl rfl rfl (by decide +kernel) ⟨Nat.le_of_ble_eq_true rfl, Nat.le_of_ble_eq_true rfl⟩) hK hP hD hE [] rfl (by decide +kernel) rfl rfl hl.1 rfl (lv_room (Nat.le_of_ble_eq_true rfl)) dJ0_checkIndex_df160_5 ⟨Nat.le_of_ble_eq_true rfl, Nat.le_of_ble_eq_true rfl⟩) hP hD hS hA [] [] rfl rfl (by decide +kernel) (by decide +kernel) (fun r2 u1 H locs er2 hP hD hS => ?_)
    subst er2
    refine lv_pop hx hb dJ0_checkIndex_df160_8 rfl ?_
    refine W.widen (k := 0) (n := 0) (Nat.le_of_ble_eq_true rfl) (Nat.le_of_ble_eq_true rfl) ?_
    exact W.vret hx hb hr (fun t ht hW => ⟨⟨(fun _ => 0), rfl, trivial, by rw [ht]; exact hP, va_K.moved hW.alike hK, hD⟩, hS.F ht⟩) hS.2.2 dJ0_checkIndex_df160_9 hlocks
  · refine va_gets hx hb (hz.narrow hAl) hS hown w_0 (fun _ h9 => h9) dJ0_checkIndex_df160_2 ?_
    refine nj_i (ws := []) (wc := []) (wr := []) (nr_S (As := [.int 2, .int 4, .ref t9]) (rest := []) ⟨hx, hb, hml, hown, hts⟩ (cJ3_checkIndex_8e157_6 l D y t9 H.size) (va_cwS 3 hts gJ0_checkIndex_df160_J3_checkIndex_8e157 rfl rfl rfl (by decide +kernel) ⟨Nat.le_of_ble_eq_true rfl, Nat.le_of_ble_eq_true rfl⟩) hK hP hD hE [] rfl (by decide +kernel) rfl rfl hl.1 rfl (lv_room (Nat.le_of_ble_eq_true rfl)) dJ0_checkIndex_df160_5 ⟨Nat.le_of_ble_eq_true rfl, Nat.le_of_ble_eq_true rfl⟩) hP hD hS hA [] [] rfl rfl (by decide +kernel) (by decide +kernel) (fun r4 u3 H locs er4 hP hD hS => ?_)
    subst er4
    refine lv_pop hx hb dJ0_checkIndex_df160_8 rfl ?_
    refine W.widen (k := 0) (n := 0) (Nat.le_of_ble_eq_true rfl) (Nat.le_of_ble_eq_true rfl) ?_
    exact W.vret hx hb hr (fun t ht hW => ⟨⟨(fun _ => 0), rfl, trivial, by rw [ht]; exact hP, va_K.moved hW.alike hK, hD⟩, hS.F ht⟩) hS.2.2 dJ0_checkIndex_df160_9 hlocks
set_option maxRecDepth 100000 in
set_option maxHeartbeats 4000000 in
theorem cJ1_charAt_3b067_3 (l : Launch) (D : va_G) (y : Nat → ClassId)  (sz : Nat) (ad : Nat → Nat) (lo : Nat) (hlo : va_D (fun q => lo ≤ q) []) (hlz : lo ≤ sz) : Met l yJ1_charAt_3b067 wsJ1_charAt_3b067 { frames := 4, cells := 0, slots := 0, locals := 243 } (nPc D y (nE4 ad lo) [.ref (ad 1), .int 2] [] sz) ((fun A => nQi D y (fun r _ => r = 50) (fun u => []) A) (va_A [] sz)) 0 0 (va_A [] sz) := by
  refine nm_ofW2 (D := D) (y := y) (E := (nE4 ad lo)) (yy := yJ1_charAt_3b067) (wsy := wsJ1_charAt_3b067) (rm := { frames := 4, cells := 0, slots := 0, locals := 243 }) (as := [.ref (ad 1), .int 2]) (ws := []) (sz := sz) (mc := 0) (ms := 0) (Qc := fun A => nQi D y (fun r _ => r = 50) (fun u => []) A) (cc := cJ1_charAt_3b067) (maxL := 2) (ret := (some .char)) (by decide +kernel) rfl (Nat.le_of_ble_eq_true rfl) ?_
  intro p e s m below meth c A ls H hx hb hr hml hts hown hlocks hnm hsz hP hK hD hA hS hE hAe hl
  replace hl : lv_has ls 2 [(0, .ref (ad 1)), (1, .int 2)] := hl
  have hown : s.vm.findClass RJ1 = some m.cls := hown
  have hAl : ∀ q : Nat, A q → lo ≤ q := by rw [hAe]; exact n_lo hlo hlz
  have hls : lo ≤ s.heap.size := by rw [hsz]; exact hlz
  have hSS := hE.2
  replace hE := hE.1
  refine lv_iload_n hx hb dJ1_charAt_3b067_0 rfl (lv_at hl 1 rfl) ?_
  refine lv_aload_n hx hb dJ1_charAt_3b067_1 rfl (lv_at hl 0 rfl) ?_
  refine va_tlen (v := 4) hx hb (hSS.1.2.2.2.narrow hAl) hS (by decide +kernel) dJ1_charAt_3b067_2 ?_
  refine nj_v (ws := []) (wc := []) (wr := []) (nr_S4 (As := [.int 2, .int 4]) (rest := []) ⟨hx, hb, hml, hown, hts⟩ (fun h1 h2 => cJ0_checkIndex_df160_3 l D y  H.size ad lo h1 h2) (va_cwS 2 hts gJ1_charAt_3b067_J0_checkIndex_df160 rfl rfl rfl (by decide +kernel) ⟨Nat.le_of_ble_eq_true rfl, Nat.le_of_ble_eq_true rfl⟩) hK hP hD hS hE hSS hAl hls [] rfl (by decide +kernel) rfl rfl hl.1 rfl (lv_room (Nat.le_of_ble_eq_true rfl)) dJ1_charAt_3b067_3 ⟨Nat.le_of_ble_eq_true rfl, Nat.le_of_ble_eq_true rfl⟩) hP hD hS hA [] [] rfl rfl (by decide +kernel) (by decide +kernel) (fun u1 H locs _ hP hD hS => ?_)
  refine lv_aload_n hx hb dJ1_charAt_3b067_6 rfl (lv_at hl 0 rfl) ?_
  refine lv_iload_n hx hb dJ1_charAt_3b067_7 rfl (lv_at hl 1 rfl) ?_
  refine va_tb (v := .int 50) hx hb (hSS.1.2.2.2.narrow hAl) hS (n_in (by decide +kernel)) (by decide +kernel) dJ1_charAt_3b067_8 ?_
  refine lv_sipush (v := 255) hx hb dJ1_charAt_3b067_9 (by decide +kernel) ?_
  refine lv_iand hx hb dJ1_charAt_3b067_12 ?_
  refine nv_i (v := 50) (by decide +kernel) ?_
  refine lv_i2c hx hb dJ1_charAt_3b067_13 rfl ?_
  refine nv_i (v := 50) (by decide +kernel) ?_
  refine W.widen (k := 0) (n := 0) (Nat.le_of_ble_eq_true rfl) (Nat.le_of_ble_eq_true rfl) ?_
  exact W.zret (v := 50) hx hb hr (by decide +kernel) (fun t ht hW => ⟨⟨50, (fun _ => 0), rfl, rfl, by rw [ht]; exact hP, va_K.moved hW.alike hK, hD⟩, hS.F ht⟩) hS.2.2 dJ1_charAt_3b067_14 hlocks
set_option maxRecDepth 100000 in
set_option maxHeartbeats 4000000 in
theorem cJ0_charAt_5068e_3 (l : Launch) (D : va_G) (y : Nat → ClassId)  (sz : Nat) (ad : Nat → Nat) (lo : Nat) (hlo : va_D (fun q => lo ≤ q) []) (hlz : lo ≤ sz) : Met l yJ0_charAt_5068e wsJ0_charAt_5068e { frames := 5, cells := 0, slots := 0, locals := 264 } (nPc D y (nE4 ad lo) [.ref (ad 0), .int 2] [] sz) ((fun A => nQi D y (fun r _ => r = 50) (fun u => []) A) (va_A [] sz)) 0 0 (va_A [] sz) := by
  refine nm_ofW2 (D := D) (y := y) (E := (nE4 ad lo)) (yy := yJ0_charAt_5068e) (wsy := wsJ0_charAt_5068e) (rm := { frames := 5, cells := 0, slots := 0, locals := 264 }) (as := [.ref (ad 0), .int 2]) (ws := []) (sz := sz) (mc := 0) (ms := 0) (Qc := fun A => nQi D y (fun r _ => r = 50) (fun u => []) A) (cc := cJ0_charAt_5068e) (maxL := 2) (ret := (some .char)) (by decide +kernel) rfl (Nat.le_of_ble_eq_true rfl) ?_
  intro p e s m below meth c A ls H hx hb hr hml hts hown hlocks hnm hsz hP hK hD hA hS hE hAe hl
  replace hl : lv_has ls 2 [(0, .ref (ad 0)), (1, .int 2)] := hl
  have hown : s.vm.findClass RJ0 = some m.cls := hown
  have hAl : ∀ q : Nat, A q → lo ≤ q := by rw [hAe]; exact n_lo hlo hlz
  have hls : lo ≤ s.heap.size := by rw [hsz]; exact hlz
  have hSS := hE.2
  replace hE := hE.1
  have w_0 := hts (.fieldLink RJ0 9 "java/lang/String" "value" "[B") (gt_k wd_9_172)
  refine lv_aload_n hx hb dJ0_charAt_5068e_0 rfl (lv_at hl 0 rfl) ?_
  refine nj_i (ws := []) (wc := []) (wr := []) (nr_V4 (As := []) (rest := []) ⟨hx, hb, hml, hown, hts⟩ (fun h1 h2 => cJ0_isLatin1_aae02_1 l D y  H.size ad lo h1 h2) (cwV 0 hts gJ0_charAt_5068e_J0_isLatin1_aae02 rfl rfl rfl (by decide +kernel) ⟨Nat.le_of_ble_eq_true rfl, Nat.le_of_ble_eq_true rfl⟩) (va_Orecv (hSS.1.1.narrow hAl) hS) hK hP hD hS hE hSS hAl hls [] rfl (by decide +kernel) rfl rfl hl.1 rfl (lv_room (Nat.le_of_ble_eq_true rfl)) dJ0_charAt_5068e_1 ⟨Nat.le_of_ble_eq_true rfl, Nat.le_of_ble_eq_true rfl⟩) hP hD hS hA [] [] rfl rfl (by decide +kernel) (by decide +kernel) (fun r2 u1 H locs er2 hP hD hS => ?_)
  subst er2
  refine lv_if_eq (tgt := 16) hx hb dJ0_charAt_5068e_4 (by decide +kernel) (fun c => absurd c (by decide +kernel)) (fun _ => ?_)
  refine lv_aload_n hx hb dJ0_charAt_5068e_7 rfl (lv_at hl 0 rfl) ?_
  refine vk_getf hx hb (hSS.1.2.2.1.narrow hAl) hS hown w_0 (fun _ h9 => h9) dJ0_charAt_5068e_8 ?_
  refine lv_iload_n hx hb dJ0_charAt_5068e_11 rfl (lv_at hl 1 rfl) ?_
  refine nj_i (ws := []) (wc := []) (wr := []) (nr_S4 (As := [.ref (ad 1), .int 2]) (rest := []) ⟨hx, hb, hml, hown, hts⟩ (fun h1 h2 => cJ1_charAt_3b067_3 l D y  H.size ad lo h1 h2) (va_cwS 2 hts gJ0_charAt_5068e_J1_charAt_3b067 rfl rfl rfl (by decide +kernel) ⟨Nat.le_of_ble_eq_true rfl, Nat.le_of_ble_eq_true rfl⟩) hK hP hD hS hE hSS hAl hls [] rfl (by decide +kernel) rfl rfl hl.1 rfl (lv_room (Nat.le_of_ble_eq_true rfl)) dJ0_charAt_5068e_12 ⟨Nat.le_of_ble_eq_true rfl, Nat.le_of_ble_eq_true rfl⟩) hP hD hS hA [] [] rfl rfl (by decide +kernel) (by decide +kernel) (fun r4 u3 H locs er4 hP hD hS => ?_)
  subst er4
  refine W.widen (k := 0) (n := 0) (Nat.le_of_ble_eq_true rfl) (Nat.le_of_ble_eq_true rfl) ?_
  exact W.zret (v := 50) hx hb hr (by decide +kernel) (fun t ht hW => ⟨⟨50, (fun _ => 0), rfl, rfl, by rw [ht]; exact hP, va_K.moved hW.alike hK, hD⟩, hS.F ht⟩) hS.2.2 dJ0_charAt_5068e_15 hlocks
set_option maxRecDepth 100000 in
set_option maxHeartbeats 4000000 in
theorem cJ0_checkIndex_df160_4 (l : Launch) (D : va_G) (y : Nat → ClassId)  (sz : Nat) (ad : Nat → Nat) (lo : Nat) (hlo : va_D (fun q => lo ≤ q) []) (hlz : lo ≤ sz) : Met l yJ0_checkIndex_df160 wsJ0_checkIndex_df160 { frames := 3, cells := 0, slots := 0, locals := 222 } (nPc D y (nE4 ad lo) [.int 3, .int 4] [] sz) ((fun A => nQv D y (fun _ => True) (fun u => []) A) (va_A [] sz)) 0 0 (va_A [] sz) := by
  refine nm_ofW2 (D := D) (y := y) (E := (nE4 ad lo)) (yy := yJ0_checkIndex_df160) (wsy := wsJ0_checkIndex_df160) (rm := { frames := 3, cells := 0, slots := 0, locals := 222 }) (as := [.int 3, .int 4]) (ws := []) (sz := sz) (mc := 0) (ms := 0) (Qc := fun A => nQv D y (fun _ => True) (fun u => []) A) (cc := cJ0_checkIndex_df160) (maxL := 2) (ret := none) (by decide +kernel) rfl (Nat.le_of_ble_eq_true rfl) ?_
  intro p e s m below meth c A ls H hx hb hr hml hts hown hlocks hnm hsz hP hK hD hA hS hE hAe hl
  replace hl : lv_has ls 2 [(0, .int 3), (1, .int 4)] := hl
  have hown : s.vm.findClass RJ0 = some m.cls := hown
  have hAl : ∀ q : Nat, A q → lo ≤ q := by rw [hAe]; exact n_lo hlo hlz
  have hls : lo ≤ s.heap.size := by rw [hsz]; exact hlz
  have hSS := hE.2
  replace hE := hE.1
  have w_0 := hts (.fieldLink RJ0 1053 "jdk/internal/util/Preconditions" "SIOOBE_FORMATTER" "Ljava/util/function/BiFunction;") (gt_k wd_3_85)
  refine lv_iload_n hx hb dJ0_checkIndex_df160_0 rfl (lv_at hl 0 rfl) ?_
  refine lv_iload_n hx hb dJ0_checkIndex_df160_1 rfl (lv_at hl 1 rfl) ?_
  rcases hSS.2.2.1 with hz | ⟨t9, hz⟩
  · refine va_gets hx hb (hz.narrow hAl) hS hown w_0 (fun _ h9 => h9) dJ0_checkIndex_df160_2 ?_
    refine nj_i (ws := []) (wc := []) (wr := []) (nr_S (As := [.int 3, .int 4, .null]) (rest := []) ⟨hx, hb, hml, hown, hts⟩ (cJ3_checkIndex_8e157_7 l D y  H.size) (va_cwS 3 hts gJ0_checkIndex_df160_J3_checkIndex_8e157 rfl rfl rfl (by decide +kernel) ⟨Nat.le_of_ble_eq_true rfl, Nat.le_of_ble_eq_true rfl⟩) hK hP hD hE [] rfl (by decide +kernel) rfl rfl hl.1 rfl (lv_room (Nat.le_of_ble_eq_true rfl)) dJ0_checkIndex_df160_5 ⟨Nat.le_of_ble_eq_true rfl, Nat.le_of_ble_eq_true rfl⟩) hP hD hS hA [] [] rfl rfl (by decide +kernel) (by decide +kernel) (fun r2 u1 H locs er2 hP hD hS => ?_)
    subst er2
    refine lv_pop hx hb dJ0_checkIndex_df160_8 rfl ?_
    refine W.widen (k := 0) (n := 0) (Nat.le_of_ble_eq_true rfl) (Nat.le_of_ble_eq_true rfl) ?_
    exact W.vret hx hb hr (fun t ht hW => ⟨⟨(fun _ => 0), rfl, trivial, by rw [ht]; exact hP, va_K.moved hW.alike hK, hD⟩, hS.F ht⟩) hS.2.2 dJ0_checkIndex_df160_9 hlocks
  · refine va_gets hx hb (hz.narrow hAl) hS hown w_0 (fun _ h9 => h9) dJ0_checkIndex_df160_2 ?_
    refine nj_i (ws := []) (wc := []) (wr := []) (nr_S (As := [.int 3, .int 4, .ref t9]) (rest := []) ⟨hx, hb, hml, hown, hts⟩ (cJ3_checkIndex_8e157_8 l D y t9 H.size) (va_cwS 3 hts gJ0_checkIndex_df160_J3_checkIndex_8e157 rfl rfl rfl (by decide +kernel) ⟨Nat.le_of_ble_eq_true rfl, Nat.le_of_ble_eq_true rfl⟩) hK hP hD hE [] rfl (by decide +kernel) rfl rfl hl.1 rfl (lv_room (Nat.le_of_ble_eq_true rfl)) dJ0_checkIndex_df160_5 ⟨Nat.le_of_ble_eq_true rfl, Nat.le_of_ble_eq_true rfl⟩) hP hD hS hA [] [] rfl rfl (by decide +kernel) (by decide +kernel) (fun r4 u3 H locs er4 hP hD hS => ?_)
    subst er4
    refine lv_pop hx hb dJ0_checkIndex_df160_8 rfl ?_
    refine W.widen (k := 0) (n := 0) (Nat.le_of_ble_eq_true rfl) (Nat.le_of_ble_eq_true rfl) ?_
    exact W.vret hx hb hr (fun t ht hW => ⟨⟨(fun _ => 0), rfl, trivial, by rw [ht]; exact hP, va_K.moved hW.alike hK, hD⟩, hS.F ht⟩) hS.2.2 dJ0_checkIndex_df160_9 hlocks
set_option maxRecDepth 100000 in
set_option maxHeartbeats 4000000 in
theorem cJ1_charAt_3b067_4 (l : Launch) (D : va_G) (y : Nat → ClassId)  (sz : Nat) (ad : Nat → Nat) (lo : Nat) (hlo : va_D (fun q => lo ≤ q) []) (hlz : lo ≤ sz) : Met l yJ1_charAt_3b067 wsJ1_charAt_3b067 { frames := 4, cells := 0, slots := 0, locals := 243 } (nPc D y (nE4 ad lo) [.ref (ad 1), .int 3] [] sz) ((fun A => nQi D y (fun r _ => r = 51) (fun u => []) A) (va_A [] sz)) 0 0 (va_A [] sz) := by
  refine nm_ofW2 (D := D) (y := y) (E := (nE4 ad lo)) (yy := yJ1_charAt_3b067) (wsy := wsJ1_charAt_3b067) (rm := { frames := 4, cells := 0, slots := 0, locals := 243 }) (as := [.ref (ad 1), .int 3]) (ws := []) (sz := sz) (mc := 0) (ms := 0) (Qc := fun A => nQi D y (fun r _ => r = 51) (fun u => []) A) (cc := cJ1_charAt_3b067) (maxL := 2) (ret := (some .char)) (by decide +kernel) rfl (Nat.le_of_ble_eq_true rfl) ?_
  intro p e s m below meth c A ls H hx hb hr hml hts hown hlocks hnm hsz hP hK hD hA hS hE hAe hl
  replace hl : lv_has ls 2 [(0, .ref (ad 1)), (1, .int 3)] := hl
  have hown : s.vm.findClass RJ1 = some m.cls := hown
  have hAl : ∀ q : Nat, A q → lo ≤ q := by rw [hAe]; exact n_lo hlo hlz
  have hls : lo ≤ s.heap.size := by rw [hsz]; exact hlz
  have hSS := hE.2
  replace hE := hE.1
  refine lv_iload_n hx hb dJ1_charAt_3b067_0 rfl (lv_at hl 1 rfl) ?_
  refine lv_aload_n hx hb dJ1_charAt_3b067_1 rfl (lv_at hl 0 rfl) ?_
  refine va_tlen (v := 4) hx hb (hSS.1.2.2.2.narrow hAl) hS (by decide +kernel) dJ1_charAt_3b067_2 ?_
  refine nj_v (ws := []) (wc := []) (wr := []) (nr_S4 (As := [.int 3, .int 4]) (rest := []) ⟨hx, hb, hml, hown, hts⟩ (fun h1 h2 => cJ0_checkIndex_df160_4 l D y  H.size ad lo h1 h2) (va_cwS 2 hts gJ1_charAt_3b067_J0_checkIndex_df160 rfl rfl rfl (by decide +kernel) ⟨Nat.le_of_ble_eq_true rfl, Nat.le_of_ble_eq_true rfl⟩) hK hP hD hS hE hSS hAl hls [] rfl (by decide +kernel) rfl rfl hl.1 rfl (lv_room (Nat.le_of_ble_eq_true rfl)) dJ1_charAt_3b067_3 ⟨Nat.le_of_ble_eq_true rfl, Nat.le_of_ble_eq_true rfl⟩) hP hD hS hA [] [] rfl rfl (by decide +kernel) (by decide +kernel) (fun u1 H locs _ hP hD hS => ?_)
  refine lv_aload_n hx hb dJ1_charAt_3b067_6 rfl (lv_at hl 0 rfl) ?_
  refine lv_iload_n hx hb dJ1_charAt_3b067_7 rfl (lv_at hl 1 rfl) ?_
  refine va_tb (v := .int 51) hx hb (hSS.1.2.2.2.narrow hAl) hS (n_in (by decide +kernel)) (by decide +kernel) dJ1_charAt_3b067_8 ?_
  refine lv_sipush (v := 255) hx hb dJ1_charAt_3b067_9 (by decide +kernel) ?_
  refine lv_iand hx hb dJ1_charAt_3b067_12 ?_
  refine nv_i (v := 51) (by decide +kernel) ?_
  refine lv_i2c hx hb dJ1_charAt_3b067_13 rfl ?_
  refine nv_i (v := 51) (by decide +kernel) ?_
  refine W.widen (k := 0) (n := 0) (Nat.le_of_ble_eq_true rfl) (Nat.le_of_ble_eq_true rfl) ?_
  exact W.zret (v := 51) hx hb hr (by decide +kernel) (fun t ht hW => ⟨⟨51, (fun _ => 0), rfl, rfl, by rw [ht]; exact hP, va_K.moved hW.alike hK, hD⟩, hS.F ht⟩) hS.2.2 dJ1_charAt_3b067_14 hlocks
set_option maxRecDepth 100000 in
set_option maxHeartbeats 4000000 in
theorem cJ0_charAt_5068e_4 (l : Launch) (D : va_G) (y : Nat → ClassId)  (sz : Nat) (ad : Nat → Nat) (lo : Nat) (hlo : va_D (fun q => lo ≤ q) []) (hlz : lo ≤ sz) : Met l yJ0_charAt_5068e wsJ0_charAt_5068e { frames := 5, cells := 0, slots := 0, locals := 264 } (nPc D y (nE4 ad lo) [.ref (ad 0), .int 3] [] sz) ((fun A => nQi D y (fun r _ => r = 51) (fun u => []) A) (va_A [] sz)) 0 0 (va_A [] sz) := by
  refine nm_ofW2 (D := D) (y := y) (E := (nE4 ad lo)) (yy := yJ0_charAt_5068e) (wsy := wsJ0_charAt_5068e) (rm := { frames := 5, cells := 0, slots := 0, locals := 264 }) (as := [.ref (ad 0), .int 3]) (ws := []) (sz := sz) (mc := 0) (ms := 0) (Qc := fun A => nQi D y (fun r _ => r = 51) (fun u => []) A) (cc := cJ0_charAt_5068e) (maxL := 2) (ret := (some .char)) (by decide +kernel) rfl (Nat.le_of_ble_eq_true rfl) ?_
  intro p e s m below meth c A ls H hx hb hr hml hts hown hlocks hnm hsz hP hK hD hA hS hE hAe hl
  replace hl : lv_has ls 2 [(0, .ref (ad 0)), (1, .int 3)] := hl
  have hown : s.vm.findClass RJ0 = some m.cls := hown
  have hAl : ∀ q : Nat, A q → lo ≤ q := by rw [hAe]; exact n_lo hlo hlz
  have hls : lo ≤ s.heap.size := by rw [hsz]; exact hlz
  have hSS := hE.2
  replace hE := hE.1
  have w_0 := hts (.fieldLink RJ0 9 "java/lang/String" "value" "[B") (gt_k wd_9_172)
  refine lv_aload_n hx hb dJ0_charAt_5068e_0 rfl (lv_at hl 0 rfl) ?_
  refine nj_i (ws := []) (wc := []) (wr := []) (nr_V4 (As := []) (rest := []) ⟨hx, hb, hml, hown, hts⟩ (fun h1 h2 => cJ0_isLatin1_aae02_1 l D y  H.size ad lo h1 h2) (cwV 0 hts gJ0_charAt_5068e_J0_isLatin1_aae02 rfl rfl rfl (by decide +kernel) ⟨Nat.le_of_ble_eq_true rfl, Nat.le_of_ble_eq_true rfl⟩) (va_Orecv (hSS.1.1.narrow hAl) hS) hK hP hD hS hE hSS hAl hls [] rfl (by decide +kernel) rfl rfl hl.1 rfl (lv_room (Nat.le_of_ble_eq_true rfl)) dJ0_charAt_5068e_1 ⟨Nat.le_of_ble_eq_true rfl, Nat.le_of_ble_eq_true rfl⟩) hP hD hS hA [] [] rfl rfl (by decide +kernel) (by decide +kernel) (fun r2 u1 H locs er2 hP hD hS => ?_)
  subst er2
  refine lv_if_eq (tgt := 16) hx hb dJ0_charAt_5068e_4 (by decide +kernel) (fun c => absurd c (by decide +kernel)) (fun _ => ?_)
  refine lv_aload_n hx hb dJ0_charAt_5068e_7 rfl (lv_at hl 0 rfl) ?_
  refine vk_getf hx hb (hSS.1.2.2.1.narrow hAl) hS hown w_0 (fun _ h9 => h9) dJ0_charAt_5068e_8 ?_
  refine lv_iload_n hx hb dJ0_charAt_5068e_11 rfl (lv_at hl 1 rfl) ?_
  refine nj_i (ws := []) (wc := []) (wr := []) (nr_S4 (As := [.ref (ad 1), .int 3]) (rest := []) ⟨hx, hb, hml, hown, hts⟩ (fun h1 h2 => cJ1_charAt_3b067_4 l D y  H.size ad lo h1 h2) (va_cwS 2 hts gJ0_charAt_5068e_J1_charAt_3b067 rfl rfl rfl (by decide +kernel) ⟨Nat.le_of_ble_eq_true rfl, Nat.le_of_ble_eq_true rfl⟩) hK hP hD hS hE hSS hAl hls [] rfl (by decide +kernel) rfl rfl hl.1 rfl (lv_room (Nat.le_of_ble_eq_true rfl)) dJ0_charAt_5068e_12 ⟨Nat.le_of_ble_eq_true rfl, Nat.le_of_ble_eq_true rfl⟩) hP hD hS hA [] [] rfl rfl (by decide +kernel) (by decide +kernel) (fun r4 u3 H locs er4 hP hD hS => ?_)
  subst er4
  refine W.widen (k := 0) (n := 0) (Nat.le_of_ble_eq_true rfl) (Nat.le_of_ble_eq_true rfl) ?_
  exact W.zret (v := 51) hx hb hr (by decide +kernel) (fun t ht hW => ⟨⟨51, (fun _ => 0), rfl, rfl, by rw [ht]; exact hP, va_K.moved hW.alike hK, hD⟩, hS.F ht⟩) hS.2.2 dJ0_charAt_5068e_15 hlocks
