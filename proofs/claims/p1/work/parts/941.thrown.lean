theorem wd_6_92 : (Cond.methodLink RL 7 yX11_of) ∈ gT := gt_m6 92 (by decide +kernel) (by decide +kernel)
theorem wd_6_93 : (Cond.instanceMethod yX11_of) ∈ gT := gt_m6 93 (by decide +kernel) (by decide +kernel)
theorem wd_6_94 : (Cond.selects RX11 yX11_of yX11_of) ∈ gT := gt_m6 94 (by decide +kernel) (by decide +kernel)
theorem wd_6_95 : (Cond.code yX11_of cX11_of 3 (some .int)) ∈ gT := gt_m6 95 (by decide +kernel) (by decide +kernel)
theorem wd_6_164 : (Cond.methodLink RL 15 yX11_worth) ∈ gT := gt_m6 164 (by decide +kernel) (by decide +kernel)
theorem wd_6_165 : (Cond.instanceMethod yX11_worth) ∈ gT := gt_m6 165 (by decide +kernel) (by decide +kernel)
theorem wd_6_166 : (Cond.selects RX11 yX11_worth yX11_worth) ∈ gT := gt_m6 166 (by decide +kernel) (by decide +kernel)
theorem wd_6_167 : (Cond.code yX11_worth cX11_worth 3 (some .int)) ∈ gT := gt_m6 167 (by decide +kernel) (by decide +kernel)
theorem wd_6_172 : (Cond.methodLink RL 18 yX11_gained) ∈ gT := gt_m6 172 (by decide +kernel) (by decide +kernel)
theorem wd_6_173 : (Cond.instanceMethod yX11_gained) ∈ gT := gt_m6 173 (by decide +kernel) (by decide +kernel)
theorem wd_6_174 : (Cond.selects RX11 yX11_gained yX11_gained) ∈ gT := gt_m6 174 (by decide +kernel) (by decide +kernel)
theorem wd_6_175 : (Cond.code yX11_gained cX11_gained 4 (some .int)) ∈ gT := gt_m6 175 (by decide +kernel) (by decide +kernel)
theorem wd_6_180 : (Cond.methodLink RL 22 yX11_row) ∈ gT := gt_m6 180 (by decide +kernel) (by decide +kernel)
theorem wd_6_181 : (Cond.instanceMethod yX11_row) ∈ gT := gt_m6 181 (by decide +kernel) (by decide +kernel)
theorem wd_6_182 : (Cond.selects RX11 yX11_row yX11_row) ∈ gT := gt_m6 182 (by decide +kernel) (by decide +kernel)
theorem wd_6_183 : (Cond.code yX11_row cX11_row 2 (some .long)) ∈ gT := gt_m6 183 (by decide +kernel) (by decide +kernel)
theorem wd_6_96 : (Cond.classLink RX11 161 "java/util/NoSuchElementException") ∈ gT := gt_m6 96 (by decide +kernel) (by decide +kernel)
theorem wd_1_24 : (Cond.initialized "java/util/NoSuchElementException") ∈ gT := gt_m1 24 (by decide +kernel) (by decide +kernel)
theorem wd_6_91 : (Cond.classLink RL 13 "java/util/NoSuchElementException") ∈ gT := gt_m6 91 (by decide +kernel) (by decide +kernel)
theorem dX11_of_0 : decode cX11_of 0 = .ok (.aload_n 0, 1) := by decide +kernel
theorem dX11_of_1 : decode cX11_of 1 = .ok (.getfield 26, 3) := by decide +kernel
theorem dX11_of_4 : decode cX11_of 4 = .ok (.iload_n 1, 1) := by decide +kernel
theorem dX11_of_5 : decode cX11_of 5 = .ok (.invokevirtual 158, 3) := by decide +kernel
theorem dX11_of_8 : decode cX11_of 8 = .ok (.ifCond .eq 13, 3) := by decide +kernel
theorem dX11_of_21 : decode cX11_of 21 = .ok (.new 161, 3) := by decide +kernel
theorem dX11_of_24 : decode cX11_of 24 = .ok (.dup, 1) := by decide +kernel
theorem dX11_of_25 : decode cX11_of 25 = .ok (.ldc 163, 2) := by decide +kernel
theorem dX11_of_27 : decode cX11_of 27 = .ok (.invokespecial 165, 3) := by decide +kernel
theorem dX11_of_30 : decode cX11_of 30 = .ok (.athrow, 1) := by decide +kernel
theorem gX11_of_X9_has : GoodIn wsX11_of (wsV RX11 158 RX9 yX9_has wsX9_has) := gi_V wd_3_173 wd_3_174 wd_3_175 wd_1_4 wd_3_176
theorem dL_of_0 : decode cL_of 0 = .ok (.aload_n 3, 1) := by decide +kernel
theorem dL_of_1 : decode cL_of 1 = .ok (.iconst 0, 1) := by decide +kernel
theorem dL_of_2 : decode cL_of 2 = .ok (.aload_n 0, 1) := by decide +kernel
theorem dL_of_3 : decode cL_of 3 = .ok (.iload_n 1, 1) := by decide +kernel
theorem dL_of_4 : decode cL_of 4 = .ok (.iload_n 2, 1) := by decide +kernel
theorem dL_of_5 : decode cL_of 5 = .ok (.invokevirtual 7, 3) := by decide +kernel
theorem dL_of_13 : decode cL_of 13 = .ok (.astore 4, 2) := by decide +kernel
theorem dL_of_15 : decode cL_of 15 = .ok (.iconst 1, 1) := by decide +kernel
theorem dL_of_16 : decode cL_of 16 = .ok (.ireturn, 1) := by decide +kernel
theorem gL_of_X11_of : GoodIn wsL_of (wsV RL 7 RX11 yX11_of wsX11_of) := gi_V wd_6_92 wd_6_93 wd_6_94 wd_1_1 wd_6_95
theorem dX11_worth_0 : decode cX11_worth 0 = .ok (.aload_n 0, 1) := by decide +kernel
theorem dX11_worth_1 : decode cX11_worth 1 = .ok (.getfield 49, 3) := by decide +kernel
theorem dX11_worth_4 : decode cX11_worth 4 = .ok (.iload_n 1, 1) := by decide +kernel
theorem dX11_worth_5 : decode cX11_worth 5 = .ok (.invokevirtual 175, 3) := by decide +kernel
theorem dX11_worth_8 : decode cX11_worth 8 = .ok (.iconst (-1), 1) := by decide +kernel
theorem dX11_worth_9 : decode cX11_worth 9 = .ok (.if_icmp .eq 18, 3) := by decide +kernel
theorem dX11_worth_27 : decode cX11_worth 27 = .ok (.new 161, 3) := by decide +kernel
theorem dX11_worth_30 : decode cX11_worth 30 = .ok (.dup, 1) := by decide +kernel
theorem dX11_worth_31 : decode cX11_worth 31 = .ok (.ldc 231, 2) := by decide +kernel
theorem dX11_worth_33 : decode cX11_worth 33 = .ok (.invokespecial 165, 3) := by decide +kernel
theorem dX11_worth_36 : decode cX11_worth 36 = .ok (.athrow, 1) := by decide +kernel
theorem gX11_worth_X7_placeOf : GoodIn wsX11_worth (wsV RX11 175 RX7 yX7_placeOf wsX7_placeOf) := gi_V wd_3_189 wd_3_190 wd_3_191 wd_1_8 wd_3_192
theorem dL_worth_0 : decode cL_worth 0 = .ok (.aload_n 3, 1) := by decide +kernel
theorem dL_worth_1 : decode cL_worth 1 = .ok (.iconst 0, 1) := by decide +kernel
theorem dL_worth_2 : decode cL_worth 2 = .ok (.aload_n 0, 1) := by decide +kernel
theorem dL_worth_3 : decode cL_worth 3 = .ok (.iload_n 1, 1) := by decide +kernel
theorem dL_worth_4 : decode cL_worth 4 = .ok (.iload_n 2, 1) := by decide +kernel
theorem dL_worth_5 : decode cL_worth 5 = .ok (.invokevirtual 15, 3) := by decide +kernel
theorem dL_worth_13 : decode cL_worth 13 = .ok (.astore 4, 2) := by decide +kernel
theorem dL_worth_15 : decode cL_worth 15 = .ok (.iconst 1, 1) := by decide +kernel
theorem dL_worth_16 : decode cL_worth 16 = .ok (.ireturn, 1) := by decide +kernel
theorem gL_worth_X11_worth : GoodIn wsL_worth (wsV RL 15 RX11 yX11_worth wsX11_worth) := gi_V wd_6_164 wd_6_165 wd_6_166 wd_1_1 wd_6_167
theorem dX11_gained_0 : decode cX11_gained 0 = .ok (.aload_n 0, 1) := by decide +kernel
theorem dX11_gained_1 : decode cX11_gained 1 = .ok (.getfield 49, 3) := by decide +kernel
theorem dX11_gained_4 : decode cX11_gained 4 = .ok (.iload_n 1, 1) := by decide +kernel
theorem dX11_gained_5 : decode cX11_gained 5 = .ok (.invokevirtual 175, 3) := by decide +kernel
theorem dX11_gained_8 : decode cX11_gained 8 = .ok (.iconst (-1), 1) := by decide +kernel
theorem dX11_gained_9 : decode cX11_gained 9 = .ok (.if_icmp .ne 14, 3) := by decide +kernel
theorem dX11_gained_12 : decode cX11_gained 12 = .ok (.new 161, 3) := by decide +kernel
theorem dX11_gained_15 : decode cX11_gained 15 = .ok (.dup, 1) := by decide +kernel
theorem dX11_gained_16 : decode cX11_gained 16 = .ok (.ldc_w 303, 3) := by decide +kernel
theorem dX11_gained_19 : decode cX11_gained 19 = .ok (.invokespecial 165, 3) := by decide +kernel
theorem dX11_gained_22 : decode cX11_gained 22 = .ok (.athrow, 1) := by decide +kernel
theorem gX11_gained_X7_placeOf : GoodIn wsX11_gained (wsV RX11 175 RX7 yX7_placeOf wsX7_placeOf) := gi_V wd_3_189 wd_3_190 wd_3_191 wd_1_8 wd_3_192
theorem dL_gained_0 : decode cL_gained 0 = .ok (.aload_n 2, 1) := by decide +kernel
theorem dL_gained_1 : decode cL_gained 1 = .ok (.iconst 0, 1) := by decide +kernel
theorem dL_gained_2 : decode cL_gained 2 = .ok (.aload_n 0, 1) := by decide +kernel
theorem dL_gained_3 : decode cL_gained 3 = .ok (.iload_n 1, 1) := by decide +kernel
theorem dL_gained_4 : decode cL_gained 4 = .ok (.invokevirtual 18, 3) := by decide +kernel
theorem dL_gained_12 : decode cL_gained 12 = .ok (.astore_n 3, 1) := by decide +kernel
theorem dL_gained_13 : decode cL_gained 13 = .ok (.iconst 1, 1) := by decide +kernel
theorem dL_gained_14 : decode cL_gained 14 = .ok (.ireturn, 1) := by decide +kernel
theorem gL_gained_X11_gained : GoodIn wsL_gained (wsV RL 18 RX11 yX11_gained wsX11_gained) := gi_V wd_6_172 wd_6_173 wd_6_174 wd_1_1 wd_6_175
theorem dX11_row_0 : decode cX11_row 0 = .ok (.iload_n 1, 1) := by decide +kernel
theorem dX11_row_1 : decode cX11_row 1 = .ok (.ifCond .lt 14, 3) := by decide +kernel
theorem dX11_row_4 : decode cX11_row 4 = .ok (.iload_n 1, 1) := by decide +kernel
theorem dX11_row_5 : decode cX11_row 5 = .ok (.aload_n 0, 1) := by decide +kernel
theorem dX11_row_6 : decode cX11_row 6 = .ok (.getfield 19, 3) := by decide +kernel
theorem dX11_row_9 : decode cX11_row 9 = .ok (.getfield 455, 3) := by decide +kernel
theorem dX11_row_12 : decode cX11_row 12 = .ok (.if_icmp .lt 14, 3) := by decide +kernel
theorem dX11_row_15 : decode cX11_row 15 = .ok (.new 161, 3) := by decide +kernel
theorem dX11_row_18 : decode cX11_row 18 = .ok (.dup, 1) := by decide +kernel
theorem dX11_row_19 : decode cX11_row 19 = .ok (.ldc_w 456, 3) := by decide +kernel
theorem dX11_row_22 : decode cX11_row 22 = .ok (.invokespecial 165, 3) := by decide +kernel
theorem dX11_row_25 : decode cX11_row 25 = .ok (.athrow, 1) := by decide +kernel
theorem dL_row_0 : decode cL_row 0 = .ok (.aload_n 2, 1) := by decide +kernel
theorem dL_row_1 : decode cL_row 1 = .ok (.iconst 0, 1) := by decide +kernel
theorem dL_row_2 : decode cL_row 2 = .ok (.aload_n 0, 1) := by decide +kernel
theorem dL_row_3 : decode cL_row 3 = .ok (.iload_n 1, 1) := by decide +kernel
theorem dL_row_4 : decode cL_row 4 = .ok (.invokevirtual 22, 3) := by decide +kernel
theorem dL_row_11 : decode cL_row 11 = .ok (.astore_n 3, 1) := by decide +kernel
theorem dL_row_12 : decode cL_row 12 = .ok (.iconst 1, 1) := by decide +kernel
theorem dL_row_13 : decode cL_row 13 = .ok (.ireturn, 1) := by decide +kernel
theorem gL_row_X11_row : GoodIn wsL_row (wsV RL 22 RX11 yX11_row wsX11_row) := gi_V wd_6_180 wd_6_181 wd_6_182 wd_1_1 wd_6_183
set_option maxRecDepth 100000 in
set_option maxHeartbeats 4000000 in
theorem cX11_of_1 (l : Launch) (D : va_G) (y : Nat → ClassId) (a0 : Nat) (n0 : Int32) (hn0h : n0 ≤ (-1)) (n1 : Int32) (a1 : Nat) (a2 : Nat) (a3 : Nat) (a4 : Nat) (a5 : Nat) (a6 : Nat) (a7 : Nat) (a8 : Nat) (a9 : Nat) (a10 : Nat) (a11 : Nat) (a12 : Nat) (a13 : Nat) (a14 : Nat) (a15 : Nat) (a16 : Nat) (a17 : Nat) (a18 : Nat) (a19 : Nat) (a20 : Nat) (sz : Nat) (sa : Nat → Nat) (lo : Nat) (hlo : va_D (fun q => lo ≤ q) [(a0, .inr (11, [.ref a1, .ref a2, .ref a3, .ref a4, .ref a5, .ref a6, .ref a7, .ref a8, .ref a9, .ref a10, .ref a11, .ref a12, .ref a13, .ref a14, .int 1, .null, .int 0])), (a3, .inr (9, [.ref a15, .ref a16, .ref a17, .ref a18, .int 0, .ref a19, .ref a20]))]) (hlz : lo ≤ sz) (hlt : l.stackTraces = false) : vx_Met l yX11_of wsX11_of { frames := 8, cells := 1, slots := 6, locals := 221 } (nPc D y (nE3 sa lo) [.ref a0, .int n0, .int n1] [(a0, .inr (11, [.ref a1, .ref a2, .ref a3, .ref a4, .ref a5, .ref a6, .ref a7, .ref a8, .ref a9, .ref a10, .ref a11, .ref a12, .ref a13, .ref a14, .int 1, .null, .int 0])), (a3, .inr (9, [.ref a15, .ref a16, .ref a17, .ref a18, .int 0, .ref a19, .ref a20]))] sz) ((fun A => va_Qi (S := Unit) (fun _ _ => False) (fun _ _ => True) A) (va_A [(a0, .inr (11, [.ref a1, .ref a2, .ref a3, .ref a4, .ref a5, .ref a6, .ref a7, .ref a8, .ref a9, .ref a10, .ref a11, .ref a12, .ref a13, .ref a14, .int 1, .null, .int 0])), (a3, .inr (9, [.ref a15, .ref a16, .ref a17, .ref a18, .int 0, .ref a19, .ref a20]))] sz)) (nXC (va_A [(a0, .inr (11, [.ref a1, .ref a2, .ref a3, .ref a4, .ref a5, .ref a6, .ref a7, .ref a8, .ref a9, .ref a10, .ref a11, .ref a12, .ref a13, .ref a14, .int 1, .null, .int 0])), (a3, .inr (9, [.ref a15, .ref a16, .ref a17, .ref a18, .int 0, .ref a19, .ref a20]))] sz)) 1 6 (va_A [(a0, .inr (11, [.ref a1, .ref a2, .ref a3, .ref a4, .ref a5, .ref a6, .ref a7, .ref a8, .ref a9, .ref a10, .ref a11, .ref a12, .ref a13, .ref a14, .int 1, .null, .int 0])), (a3, .inr (9, [.ref a15, .ref a16, .ref a17, .ref a18, .int 0, .ref a19, .ref a20]))] sz) := by
  refine nx_ofW (D := D) (y := y) (E := nE3 sa lo) (yy := yX11_of) (wsy := wsX11_of) (rm := { frames := 8, cells := 1, slots := 6, locals := 221 }) (as := [.ref a0, .int n0, .int n1]) (ws := [(a0, .inr (11, [.ref a1, .ref a2, .ref a3, .ref a4, .ref a5, .ref a6, .ref a7, .ref a8, .ref a9, .ref a10, .ref a11, .ref a12, .ref a13, .ref a14, .int 1, .null, .int 0])), (a3, .inr (9, [.ref a15, .ref a16, .ref a17, .ref a18, .int 0, .ref a19, .ref a20]))]) (sz := sz) (mc := 1) (ms := 6) (Qc := fun A => va_Qi (S := Unit) (fun _ _ => False) (fun _ _ => True) A) (cc := cX11_of) (maxL := 3) (ret := (some .int)) (by decide) rfl (Nat.le_of_ble_eq_true rfl) ?_
  intro p e s m below meth c A ls H hx hb hml hts hown hlocks hex hsz hP hK hD hA hS hE hAe hl
  replace hl : lv_has ls 3 [(0, .ref a0), (1, .int n0), (2, .int n1)] := hl
  have hown : s.vm.findClass RX11 = some m.cls := hown
  have hAl : ∀ q : Nat, A q → lo ≤ q := by rw [hAe]; exact n_lo hlo hlz
  have hls : lo ≤ s.heap.size := by rw [hsz]; exact hlz
  have hXX := hE.2
  replace hE := hE.1
  have w_0 := hts (.fieldLink RX11 26 "SoldToBehind" "town" "LSoldToBehind$Town;") (gt_k wd_2_100)
  have w_1 := hts (.classLink RX11 161 "java/util/NoSuchElementException") (gt_k wd_6_96)
  have w_2 := hts (.initialized "java/util/NoSuchElementException") (gt_k wd_1_24)
  refine lv_aload_n hx hb dX11_of_0 rfl (lv_at hl 0 rfl) ?_
  refine va_get (D := D) (ci := 11) (v := .ref a3) (C := RX11) (T := TX11) (N := 17) hx hb hts (gt_c iG_X11) hown hK hP 0 rfl rfl 2 (by decide +kernel) w_0 (fun _ h9 => h9) rfl dX11_of_1 ?_
  refine lv_iload_n hx hb dX11_of_4 rfl (lv_at hl 1 rfl) ?_
  refine nj_i (ws := [(a0, .inr (11, [.ref a1, .ref a2, .ref a3, .ref a4, .ref a5, .ref a6, .ref a7, .ref a8, .ref a9, .ref a10, .ref a11, .ref a12, .ref a13, .ref a14, .int 1, .null, .int 0])), (a3, .inr (9, [.ref a15, .ref a16, .ref a17, .ref a18, .int 0, .ref a19, .ref a20]))]) (wc := [(a3, .inr (9, [.ref a15, .ref a16, .ref a17, .ref a18, .int 0, .ref a19, .ref a20]))]) (wr := [(a0, .inr (11, [.ref a1, .ref a2, .ref a3, .ref a4, .ref a5, .ref a6, .ref a7, .ref a8, .ref a9, .ref a10, .ref a11, .ref a12, .ref a13, .ref a14, .int 1, .null, .int 0]))]) (nr_V (As := [.int n0]) (rest := []) ⟨hx, hb, hml, hown, hts⟩ (cX9_has_1 l D y a3 n0 hn0h a15 a16 a17 a18 a19 a20 H.size) (cwV 1 hts gX11_of_X9_has rfl rfl rfl (by decide +kernel) ⟨Nat.le_of_ble_eq_true rfl, Nat.le_of_ble_eq_true rfl⟩) hK hP hD hE [1] rfl (by decide +kernel) 0 9 rfl rfl rfl rfl rfl hl.1 rfl (lv_room (Nat.le_of_ble_eq_true rfl)) dX11_of_5 ⟨Nat.le_of_ble_eq_true rfl, Nat.le_of_ble_eq_true rfl⟩) hP hD hS hA [1] [0] rfl rfl (by decide +kernel) (by decide +kernel) (fun r2 u1 H locs er2 hP hD hS => ?_)
  subst er2
  refine lv_if_eq (tgt := 21) hx hb dX11_of_8 (by decide +kernel) (fun _ => ?_) (fun c => absurd (by decide +kernel) c)
  exact nse_throw (text := "none such") (is := 163) (mc := 1) (ms := 6) (sa := sa 0) (A := A) (rest := []) hx hb hlt hown w_1 w_2 hXX.2.2.1 (vx_hat (fun w h => hts w (gt_k (nse_in w h))) nse_bad (vx_c (va_Nw.use rfl hXX.2.2.2.2.2.2.1) (vx_c (va_Nw.use rfl hXX.2.2.2.2.2.2.2.1) (vx_c (va_Nw.use rfl hXX.2.2.2.2.2.2.2.2.1) (vx_c (va_Nw.use rfl hXX.2.2.2.2.2.2.2.2.2) vx_n))))) (hXX.1.narrow hAl) (hXX.2.1.narrow hAl) hS (by rw [hml]; exact hl.1) dX11_of_21 dX11_of_24 dX11_of_25 dX11_of_27 dX11_of_30 (fun x h => (hex x h).elim) (Nat.le_of_ble_eq_true rfl) (Nat.le_of_ble_eq_true rfl) (Nat.le_of_ble_eq_true rfl) (Nat.le_of_ble_eq_true rfl) hlocks (fun t h1 h2 h3 => nx_F hS h2 h3) hS.2.2 (Nat.le_of_ble_eq_true rfl) (Nat.le_of_ble_eq_true rfl)
set_option maxRecDepth 100000 in
set_option maxHeartbeats 4000000 in
theorem cL_of_1 (l : Launch) (D : va_G) (y : Nat → ClassId) (a0 : Nat) (n0 : Int32) (hn0h : n0 ≤ (-1)) (n1 : Int32) (a1 : Nat) (a2 : Nat) (a3 : Nat) (a4 : Nat) (a5 : Nat) (a6 : Nat) (a7 : Nat) (a8 : Nat) (a9 : Nat) (a10 : Nat) (a11 : Nat) (a12 : Nat) (a13 : Nat) (a14 : Nat) (a15 : Nat) (a16 : Nat) (a17 : Nat) (a18 : Nat) (a19 : Nat) (a20 : Nat) (a21 : Nat) (sz : Nat) (sa : Nat → Nat) (lo : Nat) (hlo : va_D (fun q => lo ≤ q) [(a0, .inr (11, [.ref a2, .ref a3, .ref a4, .ref a5, .ref a6, .ref a7, .ref a8, .ref a9, .ref a10, .ref a11, .ref a12, .ref a13, .ref a14, .ref a15, .int 1, .null, .int 0])), (a4, .inr (9, [.ref a16, .ref a17, .ref a18, .ref a19, .int 0, .ref a20, .ref a21]))]) (hlz : lo ≤ sz) (hlt : l.stackTraces = false) : Met l yL_of wsL_of { frames := 9, cells := 1, slots := 6, locals := 243 } (nPc D y (nE3 sa lo) [.ref a0, .int n0, .int n1, .ref a1] [(a0, .inr (11, [.ref a2, .ref a3, .ref a4, .ref a5, .ref a6, .ref a7, .ref a8, .ref a9, .ref a10, .ref a11, .ref a12, .ref a13, .ref a14, .ref a15, .int 1, .null, .int 0])), (a4, .inr (9, [.ref a16, .ref a17, .ref a18, .ref a19, .int 0, .ref a20, .ref a21]))] sz) ((fun A => nQi D y (fun r _ => r = 1) (fun u => []) A) (va_A [(a0, .inr (11, [.ref a2, .ref a3, .ref a4, .ref a5, .ref a6, .ref a7, .ref a8, .ref a9, .ref a10, .ref a11, .ref a12, .ref a13, .ref a14, .ref a15, .int 1, .null, .int 0])), (a4, .inr (9, [.ref a16, .ref a17, .ref a18, .ref a19, .int 0, .ref a20, .ref a21]))] sz)) 1 6 (va_A [(a0, .inr (11, [.ref a2, .ref a3, .ref a4, .ref a5, .ref a6, .ref a7, .ref a8, .ref a9, .ref a10, .ref a11, .ref a12, .ref a13, .ref a14, .ref a15, .int 1, .null, .int 0])), (a4, .inr (9, [.ref a16, .ref a17, .ref a18, .ref a19, .int 0, .ref a20, .ref a21]))] sz) := by
  refine ny_ofW (D := D) (y := y) (E := nE3 sa lo) (yy := yL_of) (wsy := wsL_of) (rm := { frames := 9, cells := 1, slots := 6, locals := 243 }) (as := [.ref a0, .int n0, .int n1, .ref a1]) (ws := [(a0, .inr (11, [.ref a2, .ref a3, .ref a4, .ref a5, .ref a6, .ref a7, .ref a8, .ref a9, .ref a10, .ref a11, .ref a12, .ref a13, .ref a14, .ref a15, .int 1, .null, .int 0])), (a4, .inr (9, [.ref a16, .ref a17, .ref a18, .ref a19, .int 0, .ref a20, .ref a21]))]) (sz := sz) (mc := 1) (ms := 6) (Qc := fun A => nQi D y (fun r _ => r = 1) (fun u => []) A) (cc := cL_of) (maxL := 5) (ret := (some .int)) (by decide) rfl (Nat.le_of_ble_eq_true rfl) ?_
  intro p e s m below meth c A ls H hx hb hr hml hts hown hlocks htab hsz hP hK hD hA hS hE hAe hl
  replace hl : lv_has ls 5 [(0, .ref a0), (1, .int n0), (2, .int n1), (3, .ref a1)] := hl
  have hown : s.vm.findClass RL = some m.cls := hown
  have hAl : ∀ q : Nat, A q → lo ≤ q := by rw [hAe]; exact n_lo hlo hlz
  have hls : lo ≤ s.heap.size := by rw [hsz]; exact hlz
  have hXX := hE.2
  replace hE := hE.1
  have w_0 := hts (.classLink RL 13 "java/util/NoSuchElementException") (gt_k wd_6_91)
  refine lv_aload_n hx hb dL_of_0 rfl (lv_at hl 3 rfl) ?_
  refine lv_iconst (v := 0) hx hb dL_of_1 (by decide +kernel) ?_
  refine lv_aload_n hx hb dL_of_2 rfl (lv_at hl 0 rfl) ?_
  refine lv_iload_n hx hb dL_of_3 rfl (lv_at hl 1 rfl) ?_
  refine lv_iload_n hx hb dL_of_4 rfl (lv_at hl 2 rfl) ?_
  refine nx_calli (ws := [(a0, .inr (11, [.ref a2, .ref a3, .ref a4, .ref a5, .ref a6, .ref a7, .ref a8, .ref a9, .ref a10, .ref a11, .ref a12, .ref a13, .ref a14, .ref a15, .int 1, .null, .int 0])), (a4, .inr (9, [.ref a16, .ref a17, .ref a18, .ref a19, .int 0, .ref a20, .ref a21]))]) (wc := [(a0, .inr (11, [.ref a2, .ref a3, .ref a4, .ref a5, .ref a6, .ref a7, .ref a8, .ref a9, .ref a10, .ref a11, .ref a12, .ref a13, .ref a14, .ref a15, .int 1, .null, .int 0])), (a4, .inr (9, [.ref a16, .ref a17, .ref a18, .ref a19, .int 0, .ref a20, .ref a21]))]) (As := [.int n0, .int n1]) (rest := [.int 0, .ref a1]) ⟨hx, hb, hml, hown, hts⟩ (fun h1 h2 => cX11_of_1 l D y a0 n0 hn0h n1 a2 a3 a4 a5 a6 a7 a8 a9 a10 a11 a12 a13 a14 a15 a16 a17 a18 a19 a20 a21 H.size sa lo h1 h2 hlt) (cwV 2 hts gL_of_X11_of rfl rfl rfl (by decide +kernel) ⟨Nat.le_of_ble_eq_true rfl, Nat.le_of_ble_eq_true rfl⟩) hK hP hD hS hA hE hXX hAl hls [0, 1] rfl (by decide +kernel) 0 11 rfl rfl rfl rfl hl.1 rfl (lv_room (Nat.le_of_ble_eq_true rfl)) dL_of_5 ⟨Nat.le_of_ble_eq_true rfl, Nat.le_of_ble_eq_true rfl⟩ (fun ce q9 H locs hS hq9 hcv hcE => ?_)
  refine vx_catch hown [] ⟨0, 10, 13, 13⟩ [] htab (fun z h => nomatch h) (by decide +kernel) (by decide +kernel) w_0 (va_Nw.use rfl hXX.2.2.2.2.2.2.1) hq9 hcv hcE ?_
  have hP : va_P D vwCl [] H := fun k q h => by simp at h
  have hD : va_D A [] := ⟨fun i j p q h => by simp at h, fun k q h => by simp at h⟩
  refine lv_astore (lv' := [(4, .ref q9), (0, .ref a0), (1, .int n0), (2, .int n1), (3, .ref a1)]) hx hb dL_of_13 hl (by decide +kernel) rfl (fun ls hl => ?_)
  refine lv_iconst (v := 1) hx hb dL_of_15 (by decide +kernel) ?_
  refine W.widen (k := 1) (n := 6) (Nat.le_of_ble_eq_true rfl) (Nat.le_of_ble_eq_true rfl) ?_
  exact W.iret (v := 1) hx hb hr (fun t ht hW => ⟨⟨1, (fun _ => 0), rfl, rfl, by rw [ht]; exact hP, va_K.moved hW.alike hK, hD⟩, hS.F ht⟩) hS.2.2 dL_of_16 hlocks
set_option maxRecDepth 100000 in
set_option maxHeartbeats 4000000 in
theorem cX11_of_2 (l : Launch) (D : va_G) (y : Nat → ClassId) (a0 : Nat) (n0 : Int32) (hn0l : 0 ≤ n0) (n1 : Int32) (a1 : Nat) (a2 : Nat) (a3 : Nat) (a4 : Nat) (a5 : Nat) (a6 : Nat) (a7 : Nat) (a8 : Nat) (a9 : Nat) (a10 : Nat) (a11 : Nat) (a12 : Nat) (a13 : Nat) (a14 : Nat) (a15 : Nat) (a16 : Nat) (a17 : Nat) (a18 : Nat) (a19 : Nat) (a20 : Nat) (sz : Nat) (sa : Nat → Nat) (lo : Nat) (hlo : va_D (fun q => lo ≤ q) [(a0, .inr (11, [.ref a1, .ref a2, .ref a3, .ref a4, .ref a5, .ref a6, .ref a7, .ref a8, .ref a9, .ref a10, .ref a11, .ref a12, .ref a13, .ref a14, .int 1, .null, .int 0])), (a3, .inr (9, [.ref a15, .ref a16, .ref a17, .ref a18, .int 0, .ref a19, .ref a20]))]) (hlz : lo ≤ sz) (hlt : l.stackTraces = false) : vx_Met l yX11_of wsX11_of { frames := 8, cells := 1, slots := 6, locals := 221 } (nPc D y (nE3 sa lo) [.ref a0, .int n0, .int n1] [(a0, .inr (11, [.ref a1, .ref a2, .ref a3, .ref a4, .ref a5, .ref a6, .ref a7, .ref a8, .ref a9, .ref a10, .ref a11, .ref a12, .ref a13, .ref a14, .int 1, .null, .int 0])), (a3, .inr (9, [.ref a15, .ref a16, .ref a17, .ref a18, .int 0, .ref a19, .ref a20]))] sz) ((fun A => va_Qi (S := Unit) (fun _ _ => False) (fun _ _ => True) A) (va_A [(a0, .inr (11, [.ref a1, .ref a2, .ref a3, .ref a4, .ref a5, .ref a6, .ref a7, .ref a8, .ref a9, .ref a10, .ref a11, .ref a12, .ref a13, .ref a14, .int 1, .null, .int 0])), (a3, .inr (9, [.ref a15, .ref a16, .ref a17, .ref a18, .int 0, .ref a19, .ref a20]))] sz)) (nXC (va_A [(a0, .inr (11, [.ref a1, .ref a2, .ref a3, .ref a4, .ref a5, .ref a6, .ref a7, .ref a8, .ref a9, .ref a10, .ref a11, .ref a12, .ref a13, .ref a14, .int 1, .null, .int 0])), (a3, .inr (9, [.ref a15, .ref a16, .ref a17, .ref a18, .int 0, .ref a19, .ref a20]))] sz)) 1 6 (va_A [(a0, .inr (11, [.ref a1, .ref a2, .ref a3, .ref a4, .ref a5, .ref a6, .ref a7, .ref a8, .ref a9, .ref a10, .ref a11, .ref a12, .ref a13, .ref a14, .int 1, .null, .int 0])), (a3, .inr (9, [.ref a15, .ref a16, .ref a17, .ref a18, .int 0, .ref a19, .ref a20]))] sz) := by
  refine nx_ofW (D := D) (y := y) (E := nE3 sa lo) (yy := yX11_of) (wsy := wsX11_of) (rm := { frames := 8, cells := 1, slots := 6, locals := 221 }) (as := [.ref a0, .int n0, .int n1]) (ws := [(a0, .inr (11, [.ref a1, .ref a2, .ref a3, .ref a4, .ref a5, .ref a6, .ref a7, .ref a8, .ref a9, .ref a10, .ref a11, .ref a12, .ref a13, .ref a14, .int 1, .null, .int 0])), (a3, .inr (9, [.ref a15, .ref a16, .ref a17, .ref a18, .int 0, .ref a19, .ref a20]))]) (sz := sz) (mc := 1) (ms := 6) (Qc := fun A => va_Qi (S := Unit) (fun _ _ => False) (fun _ _ => True) A) (cc := cX11_of) (maxL := 3) (ret := (some .int)) (by decide) rfl (Nat.le_of_ble_eq_true rfl) ?_
  intro p e s m below meth c A ls H hx hb hml hts hown hlocks hex hsz hP hK hD hA hS hE hAe hl
  replace hl : lv_has ls 3 [(0, .ref a0), (1, .int n0), (2, .int n1)] := hl
  have hown : s.vm.findClass RX11 = some m.cls := hown
  have hAl : ∀ q : Nat, A q → lo ≤ q := by rw [hAe]; exact n_lo hlo hlz
  have hls : lo ≤ s.heap.size := by rw [hsz]; exact hlz
  have hXX := hE.2
  replace hE := hE.1
  have w_0 := hts (.fieldLink RX11 26 "SoldToBehind" "town" "LSoldToBehind$Town;") (gt_k wd_2_100)
  have w_1 := hts (.classLink RX11 161 "java/util/NoSuchElementException") (gt_k wd_6_96)
  have w_2 := hts (.initialized "java/util/NoSuchElementException") (gt_k wd_1_24)
  refine lv_aload_n hx hb dX11_of_0 rfl (lv_at hl 0 rfl) ?_
  refine va_get (D := D) (ci := 11) (v := .ref a3) (C := RX11) (T := TX11) (N := 17) hx hb hts (gt_c iG_X11) hown hK hP 0 rfl rfl 2 (by decide +kernel) w_0 (fun _ h9 => h9) rfl dX11_of_1 ?_
  refine lv_iload_n hx hb dX11_of_4 rfl (lv_at hl 1 rfl) ?_
  refine nj_i (ws := [(a0, .inr (11, [.ref a1, .ref a2, .ref a3, .ref a4, .ref a5, .ref a6, .ref a7, .ref a8, .ref a9, .ref a10, .ref a11, .ref a12, .ref a13, .ref a14, .int 1, .null, .int 0])), (a3, .inr (9, [.ref a15, .ref a16, .ref a17, .ref a18, .int 0, .ref a19, .ref a20]))]) (wc := [(a3, .inr (9, [.ref a15, .ref a16, .ref a17, .ref a18, .int 0, .ref a19, .ref a20]))]) (wr := [(a0, .inr (11, [.ref a1, .ref a2, .ref a3, .ref a4, .ref a5, .ref a6, .ref a7, .ref a8, .ref a9, .ref a10, .ref a11, .ref a12, .ref a13, .ref a14, .int 1, .null, .int 0]))]) (nr_V (As := [.int n0]) (rest := []) ⟨hx, hb, hml, hown, hts⟩ (cX9_has_2 l D y a3 n0 hn0l a15 a16 a17 a18 a19 a20 H.size) (cwV 1 hts gX11_of_X9_has rfl rfl rfl (by decide +kernel) ⟨Nat.le_of_ble_eq_true rfl, Nat.le_of_ble_eq_true rfl⟩) hK hP hD hE [1] rfl (by decide +kernel) 0 9 rfl rfl rfl rfl rfl hl.1 rfl (lv_room (Nat.le_of_ble_eq_true rfl)) dX11_of_5 ⟨Nat.le_of_ble_eq_true rfl, Nat.le_of_ble_eq_true rfl⟩) hP hD hS hA [1] [0] rfl rfl (by decide +kernel) (by decide +kernel) (fun r2 u1 H locs er2 hP hD hS => ?_)
  subst er2
  refine lv_if_eq (tgt := 21) hx hb dX11_of_8 (by decide +kernel) (fun _ => ?_) (fun c => absurd (by decide +kernel) c)
  exact nse_throw (text := "none such") (is := 163) (mc := 1) (ms := 6) (sa := sa 0) (A := A) (rest := []) hx hb hlt hown w_1 w_2 hXX.2.2.1 (vx_hat (fun w h => hts w (gt_k (nse_in w h))) nse_bad (vx_c (va_Nw.use rfl hXX.2.2.2.2.2.2.1) (vx_c (va_Nw.use rfl hXX.2.2.2.2.2.2.2.1) (vx_c (va_Nw.use rfl hXX.2.2.2.2.2.2.2.2.1) (vx_c (va_Nw.use rfl hXX.2.2.2.2.2.2.2.2.2) vx_n))))) (hXX.1.narrow hAl) (hXX.2.1.narrow hAl) hS (by rw [hml]; exact hl.1) dX11_of_21 dX11_of_24 dX11_of_25 dX11_of_27 dX11_of_30 (fun x h => (hex x h).elim) (Nat.le_of_ble_eq_true rfl) (Nat.le_of_ble_eq_true rfl) (Nat.le_of_ble_eq_true rfl) (Nat.le_of_ble_eq_true rfl) hlocks (fun t h1 h2 h3 => nx_F hS h2 h3) hS.2.2 (Nat.le_of_ble_eq_true rfl) (Nat.le_of_ble_eq_true rfl)
set_option maxRecDepth 100000 in
set_option maxHeartbeats 4000000 in
theorem cL_of_2 (l : Launch) (D : va_G) (y : Nat → ClassId) (a0 : Nat) (n0 : Int32) (hn0l : 0 ≤ n0) (n1 : Int32) (a1 : Nat) (a2 : Nat) (a3 : Nat) (a4 : Nat) (a5 : Nat) (a6 : Nat) (a7 : Nat) (a8 : Nat) (a9 : Nat) (a10 : Nat) (a11 : Nat) (a12 : Nat) (a13 : Nat) (a14 : Nat) (a15 : Nat) (a16 : Nat) (a17 : Nat) (a18 : Nat) (a19 : Nat) (a20 : Nat) (a21 : Nat) (sz : Nat) (sa : Nat → Nat) (lo : Nat) (hlo : va_D (fun q => lo ≤ q) [(a0, .inr (11, [.ref a2, .ref a3, .ref a4, .ref a5, .ref a6, .ref a7, .ref a8, .ref a9, .ref a10, .ref a11, .ref a12, .ref a13, .ref a14, .ref a15, .int 1, .null, .int 0])), (a4, .inr (9, [.ref a16, .ref a17, .ref a18, .ref a19, .int 0, .ref a20, .ref a21]))]) (hlz : lo ≤ sz) (hlt : l.stackTraces = false) : Met l yL_of wsL_of { frames := 9, cells := 1, slots := 6, locals := 243 } (nPc D y (nE3 sa lo) [.ref a0, .int n0, .int n1, .ref a1] [(a0, .inr (11, [.ref a2, .ref a3, .ref a4, .ref a5, .ref a6, .ref a7, .ref a8, .ref a9, .ref a10, .ref a11, .ref a12, .ref a13, .ref a14, .ref a15, .int 1, .null, .int 0])), (a4, .inr (9, [.ref a16, .ref a17, .ref a18, .ref a19, .int 0, .ref a20, .ref a21]))] sz) ((fun A => nQi D y (fun r _ => r = 1) (fun u => []) A) (va_A [(a0, .inr (11, [.ref a2, .ref a3, .ref a4, .ref a5, .ref a6, .ref a7, .ref a8, .ref a9, .ref a10, .ref a11, .ref a12, .ref a13, .ref a14, .ref a15, .int 1, .null, .int 0])), (a4, .inr (9, [.ref a16, .ref a17, .ref a18, .ref a19, .int 0, .ref a20, .ref a21]))] sz)) 1 6 (va_A [(a0, .inr (11, [.ref a2, .ref a3, .ref a4, .ref a5, .ref a6, .ref a7, .ref a8, .ref a9, .ref a10, .ref a11, .ref a12, .ref a13, .ref a14, .ref a15, .int 1, .null, .int 0])), (a4, .inr (9, [.ref a16, .ref a17, .ref a18, .ref a19, .int 0, .ref a20, .ref a21]))] sz) := by
  refine ny_ofW (D := D) (y := y) (E := nE3 sa lo) (yy := yL_of) (wsy := wsL_of) (rm := { frames := 9, cells := 1, slots := 6, locals := 243 }) (as := [.ref a0, .int n0, .int n1, .ref a1]) (ws := [(a0, .inr (11, [.ref a2, .ref a3, .ref a4, .ref a5, .ref a6, .ref a7, .ref a8, .ref a9, .ref a10, .ref a11, .ref a12, .ref a13, .ref a14, .ref a15, .int 1, .null, .int 0])), (a4, .inr (9, [.ref a16, .ref a17, .ref a18, .ref a19, .int 0, .ref a20, .ref a21]))]) (sz := sz) (mc := 1) (ms := 6) (Qc := fun A => nQi D y (fun r _ => r = 1) (fun u => []) A) (cc := cL_of) (maxL := 5) (ret := (some .int)) (by decide) rfl (Nat.le_of_ble_eq_true rfl) ?_
  intro p e s m below meth c A ls H hx hb hr hml hts hown hlocks htab hsz hP hK hD hA hS hE hAe hl
  replace hl : lv_has ls 5 [(0, .ref a0), (1, .int n0), (2, .int n1), (3, .ref a1)] := hl
  have hown : s.vm.findClass RL = some m.cls := hown
  have hAl : ∀ q : Nat, A q → lo ≤ q := by rw [hAe]; exact n_lo hlo hlz
  have hls : lo ≤ s.heap.size := by rw [hsz]; exact hlz
  have hXX := hE.2
  replace hE := hE.1
  have w_0 := hts (.classLink RL 13 "java/util/NoSuchElementException") (gt_k wd_6_91)
  refine lv_aload_n hx hb dL_of_0 rfl (lv_at hl 3 rfl) ?_
  refine lv_iconst (v := 0) hx hb dL_of_1 (by decide +kernel) ?_
  refine lv_aload_n hx hb dL_of_2 rfl (lv_at hl 0 rfl) ?_
  refine lv_iload_n hx hb dL_of_3 rfl (lv_at hl 1 rfl) ?_
  refine lv_iload_n hx hb dL_of_4 rfl (lv_at hl 2 rfl) ?_
  refine nx_calli (ws := [(a0, .inr (11, [.ref a2, .ref a3, .ref a4, .ref a5, .ref a6, .ref a7, .ref a8, .ref a9, .ref a10, .ref a11, .ref a12, .ref a13, .ref a14, .ref a15, .int 1, .null, .int 0])), (a4, .inr (9, [.ref a16, .ref a17, .ref a18, .ref a19, .int 0, .ref a20, .ref a21]))]) (wc := [(a0, .inr (11, [.ref a2, .ref a3, .ref a4, .ref a5, .ref a6, .ref a7, .ref a8, .ref a9, .ref a10, .ref a11, .ref a12, .ref a13, .ref a14, .ref a15, .int 1, .null, .int 0])), (a4, .inr (9, [.ref a16, .ref a17, .ref a18, .ref a19, .int 0, .ref a20, .ref a21]))]) (As := [.int n0, .int n1]) (rest := [.int 0, .ref a1]) ⟨hx, hb, hml, hown, hts⟩ (fun h1 h2 => cX11_of_2 l D y a0 n0 hn0l n1 a2 a3 a4 a5 a6 a7 a8 a9 a10 a11 a12 a13 a14 a15 a16 a17 a18 a19 a20 a21 H.size sa lo h1 h2 hlt) (cwV 2 hts gL_of_X11_of rfl rfl rfl (by decide +kernel) ⟨Nat.le_of_ble_eq_true rfl, Nat.le_of_ble_eq_true rfl⟩) hK hP hD hS hA hE hXX hAl hls [0, 1] rfl (by decide +kernel) 0 11 rfl rfl rfl rfl hl.1 rfl (lv_room (Nat.le_of_ble_eq_true rfl)) dL_of_5 ⟨Nat.le_of_ble_eq_true rfl, Nat.le_of_ble_eq_true rfl⟩ (fun ce q9 H locs hS hq9 hcv hcE => ?_)
  refine vx_catch hown [] ⟨0, 10, 13, 13⟩ [] htab (fun z h => nomatch h) (by decide +kernel) (by decide +kernel) w_0 (va_Nw.use rfl hXX.2.2.2.2.2.2.1) hq9 hcv hcE ?_
  have hP : va_P D vwCl [] H := fun k q h => by simp at h
  have hD : va_D A [] := ⟨fun i j p q h => by simp at h, fun k q h => by simp at h⟩
  refine lv_astore (lv' := [(4, .ref q9), (0, .ref a0), (1, .int n0), (2, .int n1), (3, .ref a1)]) hx hb dL_of_13 hl (by decide +kernel) rfl (fun ls hl => ?_)
  refine lv_iconst (v := 1) hx hb dL_of_15 (by decide +kernel) ?_
  refine W.widen (k := 1) (n := 6) (Nat.le_of_ble_eq_true rfl) (Nat.le_of_ble_eq_true rfl) ?_
  exact W.iret (v := 1) hx hb hr (fun t ht hW => ⟨⟨1, (fun _ => 0), rfl, rfl, by rw [ht]; exact hP, va_K.moved hW.alike hK, hD⟩, hS.F ht⟩) hS.2.2 dL_of_16 hlocks
set_option maxRecDepth 100000 in
set_option maxHeartbeats 4000000 in
theorem cX11_worth_1 (l : Launch) (D : va_G) (y : Nat → ClassId) (a0 : Nat) (n0 : Int32) (n1 : Int32) (a1 : Nat) (a2 : Nat) (a3 : Nat) (a4 : Nat) (a5 : Nat) (a6 : Nat) (a7 : Nat) (a8 : Nat) (a9 : Nat) (a10 : Nat) (a11 : Nat) (a12 : Nat) (a13 : Nat) (a14 : Nat) (a15 : Nat) (a16 : Nat) (a17 : Nat) (a18 : Nat) (a19 : Nat) (a20 : Nat) (a21 : Nat) (sz : Nat) (sa : Nat → Nat) (lo : Nat) (hlo : va_D (fun q => lo ≤ q) [(a0, .inr (11, [.ref a1, .ref a2, .ref a3, .ref a4, .ref a5, .ref a6, .ref a7, .ref a8, .ref a9, .ref a10, .ref a11, .ref a12, .ref a13, .ref a14, .int 1, .null, .int 0])), (a6, .inr (7, [.ref a15, .ref a16, .ref a17, .ref a18, .int 0, .int 0, .ref a19, .ref a20, .ref a21, .ref a3]))]) (hlz : lo ≤ sz) (hlt : l.stackTraces = false) : vx_Met l yX11_worth wsX11_worth { frames := 8, cells := 1, slots := 6, locals := 222 } (nPc D y (nE3 sa lo) [.ref a0, .int n0, .int n1] [(a0, .inr (11, [.ref a1, .ref a2, .ref a3, .ref a4, .ref a5, .ref a6, .ref a7, .ref a8, .ref a9, .ref a10, .ref a11, .ref a12, .ref a13, .ref a14, .int 1, .null, .int 0])), (a6, .inr (7, [.ref a15, .ref a16, .ref a17, .ref a18, .int 0, .int 0, .ref a19, .ref a20, .ref a21, .ref a3]))] sz) ((fun A => va_Qi (S := Unit) (fun _ _ => False) (fun _ _ => True) A) (va_A [(a0, .inr (11, [.ref a1, .ref a2, .ref a3, .ref a4, .ref a5, .ref a6, .ref a7, .ref a8, .ref a9, .ref a10, .ref a11, .ref a12, .ref a13, .ref a14, .int 1, .null, .int 0])), (a6, .inr (7, [.ref a15, .ref a16, .ref a17, .ref a18, .int 0, .int 0, .ref a19, .ref a20, .ref a21, .ref a3]))] sz)) (nXC (va_A [(a0, .inr (11, [.ref a1, .ref a2, .ref a3, .ref a4, .ref a5, .ref a6, .ref a7, .ref a8, .ref a9, .ref a10, .ref a11, .ref a12, .ref a13, .ref a14, .int 1, .null, .int 0])), (a6, .inr (7, [.ref a15, .ref a16, .ref a17, .ref a18, .int 0, .int 0, .ref a19, .ref a20, .ref a21, .ref a3]))] sz)) 1 6 (va_A [(a0, .inr (11, [.ref a1, .ref a2, .ref a3, .ref a4, .ref a5, .ref a6, .ref a7, .ref a8, .ref a9, .ref a10, .ref a11, .ref a12, .ref a13, .ref a14, .int 1, .null, .int 0])), (a6, .inr (7, [.ref a15, .ref a16, .ref a17, .ref a18, .int 0, .int 0, .ref a19, .ref a20, .ref a21, .ref a3]))] sz) := by
  refine nx_ofW (D := D) (y := y) (E := nE3 sa lo) (yy := yX11_worth) (wsy := wsX11_worth) (rm := { frames := 8, cells := 1, slots := 6, locals := 222 }) (as := [.ref a0, .int n0, .int n1]) (ws := [(a0, .inr (11, [.ref a1, .ref a2, .ref a3, .ref a4, .ref a5, .ref a6, .ref a7, .ref a8, .ref a9, .ref a10, .ref a11, .ref a12, .ref a13, .ref a14, .int 1, .null, .int 0])), (a6, .inr (7, [.ref a15, .ref a16, .ref a17, .ref a18, .int 0, .int 0, .ref a19, .ref a20, .ref a21, .ref a3]))]) (sz := sz) (mc := 1) (ms := 6) (Qc := fun A => va_Qi (S := Unit) (fun _ _ => False) (fun _ _ => True) A) (cc := cX11_worth) (maxL := 3) (ret := (some .int)) (by decide) rfl (Nat.le_of_ble_eq_true rfl) ?_
  intro p e s m below meth c A ls H hx hb hml hts hown hlocks hex hsz hP hK hD hA hS hE hAe hl
  replace hl : lv_has ls 3 [(0, .ref a0), (1, .int n0), (2, .int n1)] := hl
  have hown : s.vm.findClass RX11 = some m.cls := hown
  have hAl : ∀ q : Nat, A q → lo ≤ q := by rw [hAe]; exact n_lo hlo hlz
  have hls : lo ≤ s.heap.size := by rw [hsz]; exact hlz
  have hXX := hE.2
  replace hE := hE.1
  have w_0 := hts (.fieldLink RX11 49 "SoldToBehind" "now" "LSoldToBehind$Standing;") (gt_k wd_2_103)
  have w_1 := hts (.classLink RX11 161 "java/util/NoSuchElementException") (gt_k wd_6_96)
  have w_2 := hts (.initialized "java/util/NoSuchElementException") (gt_k wd_1_24)
  refine lv_aload_n hx hb dX11_worth_0 rfl (lv_at hl 0 rfl) ?_
  refine va_get (D := D) (ci := 11) (v := .ref a6) (C := RX11) (T := TX11) (N := 17) hx hb hts (gt_c iG_X11) hown hK hP 0 rfl rfl 5 (by decide +kernel) w_0 (fun _ h9 => h9) rfl dX11_worth_1 ?_
  refine lv_iload_n hx hb dX11_worth_4 rfl (lv_at hl 1 rfl) ?_
  refine nj_i (ws := [(a0, .inr (11, [.ref a1, .ref a2, .ref a3, .ref a4, .ref a5, .ref a6, .ref a7, .ref a8, .ref a9, .ref a10, .ref a11, .ref a12, .ref a13, .ref a14, .int 1, .null, .int 0])), (a6, .inr (7, [.ref a15, .ref a16, .ref a17, .ref a18, .int 0, .int 0, .ref a19, .ref a20, .ref a21, .ref a3]))]) (wc := [(a6, .inr (7, [.ref a15, .ref a16, .ref a17, .ref a18, .int 0, .int 0, .ref a19, .ref a20, .ref a21, .ref a3]))]) (wr := [(a0, .inr (11, [.ref a1, .ref a2, .ref a3, .ref a4, .ref a5, .ref a6, .ref a7, .ref a8, .ref a9, .ref a10, .ref a11, .ref a12, .ref a13, .ref a14, .int 1, .null, .int 0]))]) (nr_V (As := [.int n0]) (rest := []) ⟨hx, hb, hml, hown, hts⟩ (cX7_placeOf_1 l D y a6 n0 a15 a16 a17 a18 a19 a20 a21 a3 H.size) (cwV 1 hts gX11_worth_X7_placeOf rfl rfl rfl (by decide +kernel) ⟨Nat.le_of_ble_eq_true rfl, Nat.le_of_ble_eq_true rfl⟩) hK hP hD hE [1] rfl (by decide +kernel) 0 7 rfl rfl rfl rfl rfl hl.1 rfl (lv_room (Nat.le_of_ble_eq_true rfl)) dX11_worth_5 ⟨Nat.le_of_ble_eq_true rfl, Nat.le_of_ble_eq_true rfl⟩) hP hD hS hA [1] [0] rfl rfl (by decide +kernel) (by decide +kernel) (fun r2 u1 H locs er2 hP hD hS => ?_)
  subst er2
  refine lv_iconst (v := (-1)) hx hb dX11_worth_8 (by decide +kernel) ?_
  refine lv_icmp_eq (tgt := 27) hx hb dX11_worth_9 (by decide +kernel) (fun _ => ?_) (fun c => absurd (by decide +kernel) c)
  exact nse_throw (text := "not in the line, or no such place") (is := 231) (mc := 1) (ms := 6) (sa := sa 1) (A := A) (rest := []) hx hb hlt hown w_1 w_2 hXX.2.2.2.1 (vx_hat (fun w h => hts w (gt_k (nse_in w h))) nse_bad (vx_c (va_Nw.use rfl hXX.2.2.2.2.2.2.1) (vx_c (va_Nw.use rfl hXX.2.2.2.2.2.2.2.1) (vx_c (va_Nw.use rfl hXX.2.2.2.2.2.2.2.2.1) (vx_c (va_Nw.use rfl hXX.2.2.2.2.2.2.2.2.2) vx_n))))) (hXX.1.narrow hAl) (hXX.2.1.narrow hAl) hS (by rw [hml]; exact hl.1) dX11_worth_27 dX11_worth_30 dX11_worth_31 dX11_worth_33 dX11_worth_36 (fun x h => (hex x h).elim) (Nat.le_of_ble_eq_true rfl) (Nat.le_of_ble_eq_true rfl) (Nat.le_of_ble_eq_true rfl) (Nat.le_of_ble_eq_true rfl) hlocks (fun t h1 h2 h3 => nx_F hS h2 h3) hS.2.2 (Nat.le_of_ble_eq_true rfl) (Nat.le_of_ble_eq_true rfl)
set_option maxRecDepth 100000 in
set_option maxHeartbeats 4000000 in
theorem cL_worth_1 (l : Launch) (D : va_G) (y : Nat → ClassId) (a0 : Nat) (n0 : Int32) (n1 : Int32) (a1 : Nat) (a2 : Nat) (a3 : Nat) (a4 : Nat) (a5 : Nat) (a6 : Nat) (a7 : Nat) (a8 : Nat) (a9 : Nat) (a10 : Nat) (a11 : Nat) (a12 : Nat) (a13 : Nat) (a14 : Nat) (a15 : Nat) (a16 : Nat) (a17 : Nat) (a18 : Nat) (a19 : Nat) (a20 : Nat) (a21 : Nat) (a22 : Nat) (sz : Nat) (sa : Nat → Nat) (lo : Nat) (hlo : va_D (fun q => lo ≤ q) [(a0, .inr (11, [.ref a2, .ref a3, .ref a4, .ref a5, .ref a6, .ref a7, .ref a8, .ref a9, .ref a10, .ref a11, .ref a12, .ref a13, .ref a14, .ref a15, .int 1, .null, .int 0])), (a7, .inr (7, [.ref a16, .ref a17, .ref a18, .ref a19, .int 0, .int 0, .ref a20, .ref a21, .ref a22, .ref a4]))]) (hlz : lo ≤ sz) (hlt : l.stackTraces = false) : Met l yL_worth wsL_worth { frames := 9, cells := 1, slots := 6, locals := 244 } (nPc D y (nE3 sa lo) [.ref a0, .int n0, .int n1, .ref a1] [(a0, .inr (11, [.ref a2, .ref a3, .ref a4, .ref a5, .ref a6, .ref a7, .ref a8, .ref a9, .ref a10, .ref a11, .ref a12, .ref a13, .ref a14, .ref a15, .int 1, .null, .int 0])), (a7, .inr (7, [.ref a16, .ref a17, .ref a18, .ref a19, .int 0, .int 0, .ref a20, .ref a21, .ref a22, .ref a4]))] sz) ((fun A => nQi D y (fun r _ => r = 1) (fun u => []) A) (va_A [(a0, .inr (11, [.ref a2, .ref a3, .ref a4, .ref a5, .ref a6, .ref a7, .ref a8, .ref a9, .ref a10, .ref a11, .ref a12, .ref a13, .ref a14, .ref a15, .int 1, .null, .int 0])), (a7, .inr (7, [.ref a16, .ref a17, .ref a18, .ref a19, .int 0, .int 0, .ref a20, .ref a21, .ref a22, .ref a4]))] sz)) 1 6 (va_A [(a0, .inr (11, [.ref a2, .ref a3, .ref a4, .ref a5, .ref a6, .ref a7, .ref a8, .ref a9, .ref a10, .ref a11, .ref a12, .ref a13, .ref a14, .ref a15, .int 1, .null, .int 0])), (a7, .inr (7, [.ref a16, .ref a17, .ref a18, .ref a19, .int 0, .int 0, .ref a20, .ref a21, .ref a22, .ref a4]))] sz) := by
  refine ny_ofW (D := D) (y := y) (E := nE3 sa lo) (yy := yL_worth) (wsy := wsL_worth) (rm := { frames := 9, cells := 1, slots := 6, locals := 244 }) (as := [.ref a0, .int n0, .int n1, .ref a1]) (ws := [(a0, .inr (11, [.ref a2, .ref a3, .ref a4, .ref a5, .ref a6, .ref a7, .ref a8, .ref a9, .ref a10, .ref a11, .ref a12, .ref a13, .ref a14, .ref a15, .int 1, .null, .int 0])), (a7, .inr (7, [.ref a16, .ref a17, .ref a18, .ref a19, .int 0, .int 0, .ref a20, .ref a21, .ref a22, .ref a4]))]) (sz := sz) (mc := 1) (ms := 6) (Qc := fun A => nQi D y (fun r _ => r = 1) (fun u => []) A) (cc := cL_worth) (maxL := 5) (ret := (some .int)) (by decide) rfl (Nat.le_of_ble_eq_true rfl) ?_
  intro p e s m below meth c A ls H hx hb hr hml hts hown hlocks htab hsz hP hK hD hA hS hE hAe hl
  replace hl : lv_has ls 5 [(0, .ref a0), (1, .int n0), (2, .int n1), (3, .ref a1)] := hl
  have hown : s.vm.findClass RL = some m.cls := hown
  have hAl : ∀ q : Nat, A q → lo ≤ q := by rw [hAe]; exact n_lo hlo hlz
  have hls : lo ≤ s.heap.size := by rw [hsz]; exact hlz
  have hXX := hE.2
  replace hE := hE.1
  have w_0 := hts (.classLink RL 13 "java/util/NoSuchElementException") (gt_k wd_6_91)
  refine lv_aload_n hx hb dL_worth_0 rfl (lv_at hl 3 rfl) ?_
  refine lv_iconst (v := 0) hx hb dL_worth_1 (by decide +kernel) ?_
  refine lv_aload_n hx hb dL_worth_2 rfl (lv_at hl 0 rfl) ?_
  refine lv_iload_n hx hb dL_worth_3 rfl (lv_at hl 1 rfl) ?_
  refine lv_iload_n hx hb dL_worth_4 rfl (lv_at hl 2 rfl) ?_
  refine nx_calli (ws := [(a0, .inr (11, [.ref a2, .ref a3, .ref a4, .ref a5, .ref a6, .ref a7, .ref a8, .ref a9, .ref a10, .ref a11, .ref a12, .ref a13, .ref a14, .ref a15, .int 1, .null, .int 0])), (a7, .inr (7, [.ref a16, .ref a17, .ref a18, .ref a19, .int 0, .int 0, .ref a20, .ref a21, .ref a22, .ref a4]))]) (wc := [(a0, .inr (11, [.ref a2, .ref a3, .ref a4, .ref a5, .ref a6, .ref a7, .ref a8, .ref a9, .ref a10, .ref a11, .ref a12, .ref a13, .ref a14, .ref a15, .int 1, .null, .int 0])), (a7, .inr (7, [.ref a16, .ref a17, .ref a18, .ref a19, .int 0, .int 0, .ref a20, .ref a21, .ref a22, .ref a4]))]) (As := [.int n0, .int n1]) (rest := [.int 0, .ref a1]) ⟨hx, hb, hml, hown, hts⟩ (fun h1 h2 => cX11_worth_1 l D y a0 n0 n1 a2 a3 a4 a5 a6 a7 a8 a9 a10 a11 a12 a13 a14 a15 a16 a17 a18 a19 a20 a21 a22 H.size sa lo h1 h2 hlt) (cwV 2 hts gL_worth_X11_worth rfl rfl rfl (by decide +kernel) ⟨Nat.le_of_ble_eq_true rfl, Nat.le_of_ble_eq_true rfl⟩) hK hP hD hS hA hE hXX hAl hls [0, 1] rfl (by decide +kernel) 0 11 rfl rfl rfl rfl hl.1 rfl (lv_room (Nat.le_of_ble_eq_true rfl)) dL_worth_5 ⟨Nat.le_of_ble_eq_true rfl, Nat.le_of_ble_eq_true rfl⟩ (fun ce q9 H locs hS hq9 hcv hcE => ?_)
  refine vx_catch hown [] ⟨0, 10, 13, 13⟩ [] htab (fun z h => nomatch h) (by decide +kernel) (by decide +kernel) w_0 (va_Nw.use rfl hXX.2.2.2.2.2.2.1) hq9 hcv hcE ?_
  have hP : va_P D vwCl [] H := fun k q h => by simp at h
  have hD : va_D A [] := ⟨fun i j p q h => by simp at h, fun k q h => by simp at h⟩
  refine lv_astore (lv' := [(4, .ref q9), (0, .ref a0), (1, .int n0), (2, .int n1), (3, .ref a1)]) hx hb dL_worth_13 hl (by decide +kernel) rfl (fun ls hl => ?_)
  refine lv_iconst (v := 1) hx hb dL_worth_15 (by decide +kernel) ?_
  refine W.widen (k := 1) (n := 6) (Nat.le_of_ble_eq_true rfl) (Nat.le_of_ble_eq_true rfl) ?_
  exact W.iret (v := 1) hx hb hr (fun t ht hW => ⟨⟨1, (fun _ => 0), rfl, rfl, by rw [ht]; exact hP, va_K.moved hW.alike hK, hD⟩, hS.F ht⟩) hS.2.2 dL_worth_16 hlocks
set_option maxRecDepth 100000 in
set_option maxHeartbeats 4000000 in
theorem cX11_gained_1 (l : Launch) (D : va_G) (y : Nat → ClassId) (a0 : Nat) (n0 : Int32) (a1 : Nat) (a2 : Nat) (a3 : Nat) (a4 : Nat) (a5 : Nat) (a6 : Nat) (a7 : Nat) (a8 : Nat) (a9 : Nat) (a10 : Nat) (a11 : Nat) (a12 : Nat) (a13 : Nat) (a14 : Nat) (a15 : Nat) (a16 : Nat) (a17 : Nat) (a18 : Nat) (a19 : Nat) (a20 : Nat) (a21 : Nat) (sz : Nat) (sa : Nat → Nat) (lo : Nat) (hlo : va_D (fun q => lo ≤ q) [(a0, .inr (11, [.ref a1, .ref a2, .ref a3, .ref a4, .ref a5, .ref a6, .ref a7, .ref a8, .ref a9, .ref a10, .ref a11, .ref a12, .ref a13, .ref a14, .int 1, .null, .int 0])), (a6, .inr (7, [.ref a15, .ref a16, .ref a17, .ref a18, .int 0, .int 0, .ref a19, .ref a20, .ref a21, .ref a3]))]) (hlz : lo ≤ sz) (hlt : l.stackTraces = false) : vx_Met l yX11_gained wsX11_gained { frames := 8, cells := 1, slots := 6, locals := 222 } (nPc D y (nE3 sa lo) [.ref a0, .int n0] [(a0, .inr (11, [.ref a1, .ref a2, .ref a3, .ref a4, .ref a5, .ref a6, .ref a7, .ref a8, .ref a9, .ref a10, .ref a11, .ref a12, .ref a13, .ref a14, .int 1, .null, .int 0])), (a6, .inr (7, [.ref a15, .ref a16, .ref a17, .ref a18, .int 0, .int 0, .ref a19, .ref a20, .ref a21, .ref a3]))] sz) ((fun A => va_Qi (S := Unit) (fun _ _ => False) (fun _ _ => True) A) (va_A [(a0, .inr (11, [.ref a1, .ref a2, .ref a3, .ref a4, .ref a5, .ref a6, .ref a7, .ref a8, .ref a9, .ref a10, .ref a11, .ref a12, .ref a13, .ref a14, .int 1, .null, .int 0])), (a6, .inr (7, [.ref a15, .ref a16, .ref a17, .ref a18, .int 0, .int 0, .ref a19, .ref a20, .ref a21, .ref a3]))] sz)) (nXC (va_A [(a0, .inr (11, [.ref a1, .ref a2, .ref a3, .ref a4, .ref a5, .ref a6, .ref a7, .ref a8, .ref a9, .ref a10, .ref a11, .ref a12, .ref a13, .ref a14, .int 1, .null, .int 0])), (a6, .inr (7, [.ref a15, .ref a16, .ref a17, .ref a18, .int 0, .int 0, .ref a19, .ref a20, .ref a21, .ref a3]))] sz)) 1 6 (va_A [(a0, .inr (11, [.ref a1, .ref a2, .ref a3, .ref a4, .ref a5, .ref a6, .ref a7, .ref a8, .ref a9, .ref a10, .ref a11, .ref a12, .ref a13, .ref a14, .int 1, .null, .int 0])), (a6, .inr (7, [.ref a15, .ref a16, .ref a17, .ref a18, .int 0, .int 0, .ref a19, .ref a20, .ref a21, .ref a3]))] sz) := by
  refine nx_ofW (D := D) (y := y) (E := nE3 sa lo) (yy := yX11_gained) (wsy := wsX11_gained) (rm := { frames := 8, cells := 1, slots := 6, locals := 222 }) (as := [.ref a0, .int n0]) (ws := [(a0, .inr (11, [.ref a1, .ref a2, .ref a3, .ref a4, .ref a5, .ref a6, .ref a7, .ref a8, .ref a9, .ref a10, .ref a11, .ref a12, .ref a13, .ref a14, .int 1, .null, .int 0])), (a6, .inr (7, [.ref a15, .ref a16, .ref a17, .ref a18, .int 0, .int 0, .ref a19, .ref a20, .ref a21, .ref a3]))]) (sz := sz) (mc := 1) (ms := 6) (Qc := fun A => va_Qi (S := Unit) (fun _ _ => False) (fun _ _ => True) A) (cc := cX11_gained) (maxL := 4) (ret := (some .int)) (by decide) rfl (Nat.le_of_ble_eq_true rfl) ?_
  intro p e s m below meth c A ls H hx hb hml hts hown hlocks hex hsz hP hK hD hA hS hE hAe hl
  replace hl : lv_has ls 4 [(0, .ref a0), (1, .int n0)] := hl
  have hown : s.vm.findClass RX11 = some m.cls := hown
  have hAl : ∀ q : Nat, A q → lo ≤ q := by rw [hAe]; exact n_lo hlo hlz
  have hls : lo ≤ s.heap.size := by rw [hsz]; exact hlz
  have hXX := hE.2
  replace hE := hE.1
  have w_0 := hts (.fieldLink RX11 49 "SoldToBehind" "now" "LSoldToBehind$Standing;") (gt_k wd_2_103)
  have w_1 := hts (.classLink RX11 161 "java/util/NoSuchElementException") (gt_k wd_6_96)
  have w_2 := hts (.initialized "java/util/NoSuchElementException") (gt_k wd_1_24)
  refine lv_aload_n hx hb dX11_gained_0 rfl (lv_at hl 0 rfl) ?_
  refine va_get (D := D) (ci := 11) (v := .ref a6) (C := RX11) (T := TX11) (N := 17) hx hb hts (gt_c iG_X11) hown hK hP 0 rfl rfl 5 (by decide +kernel) w_0 (fun _ h9 => h9) rfl dX11_gained_1 ?_
  refine lv_iload_n hx hb dX11_gained_4 rfl (lv_at hl 1 rfl) ?_
  refine nj_i (ws := [(a0, .inr (11, [.ref a1, .ref a2, .ref a3, .ref a4, .ref a5, .ref a6, .ref a7, .ref a8, .ref a9, .ref a10, .ref a11, .ref a12, .ref a13, .ref a14, .int 1, .null, .int 0])), (a6, .inr (7, [.ref a15, .ref a16, .ref a17, .ref a18, .int 0, .int 0, .ref a19, .ref a20, .ref a21, .ref a3]))]) (wc := [(a6, .inr (7, [.ref a15, .ref a16, .ref a17, .ref a18, .int 0, .int 0, .ref a19, .ref a20, .ref a21, .ref a3]))]) (wr := [(a0, .inr (11, [.ref a1, .ref a2, .ref a3, .ref a4, .ref a5, .ref a6, .ref a7, .ref a8, .ref a9, .ref a10, .ref a11, .ref a12, .ref a13, .ref a14, .int 1, .null, .int 0]))]) (nr_V (As := [.int n0]) (rest := []) ⟨hx, hb, hml, hown, hts⟩ (cX7_placeOf_1 l D y a6 n0 a15 a16 a17 a18 a19 a20 a21 a3 H.size) (cwV 1 hts gX11_gained_X7_placeOf rfl rfl rfl (by decide +kernel) ⟨Nat.le_of_ble_eq_true rfl, Nat.le_of_ble_eq_true rfl⟩) hK hP hD hE [1] rfl (by decide +kernel) 0 7 rfl rfl rfl rfl rfl hl.1 rfl (lv_room (Nat.le_of_ble_eq_true rfl)) dX11_gained_5 ⟨Nat.le_of_ble_eq_true rfl, Nat.le_of_ble_eq_true rfl⟩) hP hD hS hA [1] [0] rfl rfl (by decide +kernel) (by decide +kernel) (fun r2 u1 H locs er2 hP hD hS => ?_)
  subst er2
  refine lv_iconst (v := (-1)) hx hb dX11_gained_8 (by decide +kernel) ?_
  refine lv_icmp_ne (tgt := 23) hx hb dX11_gained_9 (by decide +kernel) (fun c => absurd (by decide +kernel) c) (fun _ => ?_)
  exact nse_throwW (text := "not in the line") (is := 303) (mc := 1) (ms := 6) (sa := sa 2) (A := A) (rest := []) hx hb hlt hown w_1 w_2 hXX.2.2.2.2.1 (vx_hat (fun w h => hts w (gt_k (nse_in w h))) nse_bad (vx_c (va_Nw.use rfl hXX.2.2.2.2.2.2.1) (vx_c (va_Nw.use rfl hXX.2.2.2.2.2.2.2.1) (vx_c (va_Nw.use rfl hXX.2.2.2.2.2.2.2.2.1) (vx_c (va_Nw.use rfl hXX.2.2.2.2.2.2.2.2.2) vx_n))))) (hXX.1.narrow hAl) (hXX.2.1.narrow hAl) hS (by rw [hml]; exact hl.1) dX11_gained_12 dX11_gained_15 dX11_gained_16 dX11_gained_19 dX11_gained_22 (fun x h => (hex x h).elim) (Nat.le_of_ble_eq_true rfl) (Nat.le_of_ble_eq_true rfl) (Nat.le_of_ble_eq_true rfl) (Nat.le_of_ble_eq_true rfl) hlocks (fun t h1 h2 h3 => nx_F hS h2 h3) hS.2.2 (Nat.le_of_ble_eq_true rfl) (Nat.le_of_ble_eq_true rfl)
set_option maxRecDepth 100000 in
set_option maxHeartbeats 4000000 in
theorem cL_gained_1 (l : Launch) (D : va_G) (y : Nat → ClassId) (a0 : Nat) (n0 : Int32) (a1 : Nat) (a2 : Nat) (a3 : Nat) (a4 : Nat) (a5 : Nat) (a6 : Nat) (a7 : Nat) (a8 : Nat) (a9 : Nat) (a10 : Nat) (a11 : Nat) (a12 : Nat) (a13 : Nat) (a14 : Nat) (a15 : Nat) (a16 : Nat) (a17 : Nat) (a18 : Nat) (a19 : Nat) (a20 : Nat) (a21 : Nat) (a22 : Nat) (sz : Nat) (sa : Nat → Nat) (lo : Nat) (hlo : va_D (fun q => lo ≤ q) [(a0, .inr (11, [.ref a2, .ref a3, .ref a4, .ref a5, .ref a6, .ref a7, .ref a8, .ref a9, .ref a10, .ref a11, .ref a12, .ref a13, .ref a14, .ref a15, .int 1, .null, .int 0])), (a7, .inr (7, [.ref a16, .ref a17, .ref a18, .ref a19, .int 0, .int 0, .ref a20, .ref a21, .ref a22, .ref a4]))]) (hlz : lo ≤ sz) (hlt : l.stackTraces = false) : Met l yL_gained wsL_gained { frames := 9, cells := 1, slots := 6, locals := 245 } (nPc D y (nE3 sa lo) [.ref a0, .int n0, .ref a1] [(a0, .inr (11, [.ref a2, .ref a3, .ref a4, .ref a5, .ref a6, .ref a7, .ref a8, .ref a9, .ref a10, .ref a11, .ref a12, .ref a13, .ref a14, .ref a15, .int 1, .null, .int 0])), (a7, .inr (7, [.ref a16, .ref a17, .ref a18, .ref a19, .int 0, .int 0, .ref a20, .ref a21, .ref a22, .ref a4]))] sz) ((fun A => nQi D y (fun r _ => r = 1) (fun u => []) A) (va_A [(a0, .inr (11, [.ref a2, .ref a3, .ref a4, .ref a5, .ref a6, .ref a7, .ref a8, .ref a9, .ref a10, .ref a11, .ref a12, .ref a13, .ref a14, .ref a15, .int 1, .null, .int 0])), (a7, .inr (7, [.ref a16, .ref a17, .ref a18, .ref a19, .int 0, .int 0, .ref a20, .ref a21, .ref a22, .ref a4]))] sz)) 1 6 (va_A [(a0, .inr (11, [.ref a2, .ref a3, .ref a4, .ref a5, .ref a6, .ref a7, .ref a8, .ref a9, .ref a10, .ref a11, .ref a12, .ref a13, .ref a14, .ref a15, .int 1, .null, .int 0])), (a7, .inr (7, [.ref a16, .ref a17, .ref a18, .ref a19, .int 0, .int 0, .ref a20, .ref a21, .ref a22, .ref a4]))] sz) := by
  refine ny_ofW (D := D) (y := y) (E := nE3 sa lo) (yy := yL_gained) (wsy := wsL_gained) (rm := { frames := 9, cells := 1, slots := 6, locals := 245 }) (as := [.ref a0, .int n0, .ref a1]) (ws := [(a0, .inr (11, [.ref a2, .ref a3, .ref a4, .ref a5, .ref a6, .ref a7, .ref a8, .ref a9, .ref a10, .ref a11, .ref a12, .ref a13, .ref a14, .ref a15, .int 1, .null, .int 0])), (a7, .inr (7, [.ref a16, .ref a17, .ref a18, .ref a19, .int 0, .int 0, .ref a20, .ref a21, .ref a22, .ref a4]))]) (sz := sz) (mc := 1) (ms := 6) (Qc := fun A => nQi D y (fun r _ => r = 1) (fun u => []) A) (cc := cL_gained) (maxL := 4) (ret := (some .int)) (by decide) rfl (Nat.le_of_ble_eq_true rfl) ?_
  intro p e s m below meth c A ls H hx hb hr hml hts hown hlocks htab hsz hP hK hD hA hS hE hAe hl
  replace hl : lv_has ls 4 [(0, .ref a0), (1, .int n0), (2, .ref a1)] := hl
  have hown : s.vm.findClass RL = some m.cls := hown
  have hAl : ∀ q : Nat, A q → lo ≤ q := by rw [hAe]; exact n_lo hlo hlz
  have hls : lo ≤ s.heap.size := by rw [hsz]; exact hlz
  have hXX := hE.2
  replace hE := hE.1
  have w_0 := hts (.classLink RL 13 "java/util/NoSuchElementException") (gt_k wd_6_91)
  refine lv_aload_n hx hb dL_gained_0 rfl (lv_at hl 2 rfl) ?_
  refine lv_iconst (v := 0) hx hb dL_gained_1 (by decide +kernel) ?_
  refine lv_aload_n hx hb dL_gained_2 rfl (lv_at hl 0 rfl) ?_
  refine lv_iload_n hx hb dL_gained_3 rfl (lv_at hl 1 rfl) ?_
  refine nx_calli (ws := [(a0, .inr (11, [.ref a2, .ref a3, .ref a4, .ref a5, .ref a6, .ref a7, .ref a8, .ref a9, .ref a10, .ref a11, .ref a12, .ref a13, .ref a14, .ref a15, .int 1, .null, .int 0])), (a7, .inr (7, [.ref a16, .ref a17, .ref a18, .ref a19, .int 0, .int 0, .ref a20, .ref a21, .ref a22, .ref a4]))]) (wc := [(a0, .inr (11, [.ref a2, .ref a3, .ref a4, .ref a5, .ref a6, .ref a7, .ref a8, .ref a9, .ref a10, .ref a11, .ref a12, .ref a13, .ref a14, .ref a15, .int 1, .null, .int 0])), (a7, .inr (7, [.ref a16, .ref a17, .ref a18, .ref a19, .int 0, .int 0, .ref a20, .ref a21, .ref a22, .ref a4]))]) (As := [.int n0]) (rest := [.int 0, .ref a1]) ⟨hx, hb, hml, hown, hts⟩ (fun h1 h2 => cX11_gained_1 l D y a0 n0 a2 a3 a4 a5 a6 a7 a8 a9 a10 a11 a12 a13 a14 a15 a16 a17 a18 a19 a20 a21 a22 H.size sa lo h1 h2 hlt) (cwV 1 hts gL_gained_X11_gained rfl rfl rfl (by decide +kernel) ⟨Nat.le_of_ble_eq_true rfl, Nat.le_of_ble_eq_true rfl⟩) hK hP hD hS hA hE hXX hAl hls [0, 1] rfl (by decide +kernel) 0 11 rfl rfl rfl rfl hl.1 rfl (lv_room (Nat.le_of_ble_eq_true rfl)) dL_gained_4 ⟨Nat.le_of_ble_eq_true rfl, Nat.le_of_ble_eq_true rfl⟩ (fun ce q9 H locs hS hq9 hcv hcE => ?_)
  refine vx_catch hown [] ⟨0, 9, 12, 13⟩ [] htab (fun z h => nomatch h) (by decide +kernel) (by decide +kernel) w_0 (va_Nw.use rfl hXX.2.2.2.2.2.2.1) hq9 hcv hcE ?_
  have hP : va_P D vwCl [] H := fun k q h => by simp at h
  have hD : va_D A [] := ⟨fun i j p q h => by simp at h, fun k q h => by simp at h⟩
  refine lv_astore_n (lv' := [(3, .ref q9), (0, .ref a0), (1, .int n0), (2, .ref a1)]) hx hb dL_gained_12 rfl hl (by decide +kernel) rfl (fun ls hl => ?_)
  refine lv_iconst (v := 1) hx hb dL_gained_13 (by decide +kernel) ?_
  refine W.widen (k := 1) (n := 6) (Nat.le_of_ble_eq_true rfl) (Nat.le_of_ble_eq_true rfl) ?_
  exact W.iret (v := 1) hx hb hr (fun t ht hW => ⟨⟨1, (fun _ => 0), rfl, rfl, by rw [ht]; exact hP, va_K.moved hW.alike hK, hD⟩, hS.F ht⟩) hS.2.2 dL_gained_14 hlocks
set_option maxRecDepth 100000 in
set_option maxHeartbeats 4000000 in
theorem cX11_row_1 (l : Launch) (D : va_G) (y : Nat → ClassId) (a0 : Nat) (n0 : Int32) (hn0h : n0 ≤ (-1)) (a1 : Nat) (a2 : Nat) (a3 : Nat) (a4 : Nat) (a5 : Nat) (a6 : Nat) (a7 : Nat) (a8 : Nat) (a9 : Nat) (a10 : Nat) (a11 : Nat) (a12 : Nat) (a13 : Nat) (a14 : Nat) (sz : Nat) (sa : Nat → Nat) (lo : Nat) (hlo : va_D (fun q => lo ≤ q) [(a0, .inr (11, [.ref a1, .ref a2, .ref a3, .ref a4, .ref a5, .ref a6, .ref a7, .ref a8, .ref a9, .ref a10, .ref a11, .ref a12, .ref a13, .ref a14, .int 1, .null, .int 0]))]) (hlz : lo ≤ sz) (hlt : l.stackTraces = false) : vx_Met l yX11_row wsX11_row { frames := 8, cells := 1, slots := 6, locals := 200 } (nPc D y (nE3 sa lo) [.ref a0, .int n0] [(a0, .inr (11, [.ref a1, .ref a2, .ref a3, .ref a4, .ref a5, .ref a6, .ref a7, .ref a8, .ref a9, .ref a10, .ref a11, .ref a12, .ref a13, .ref a14, .int 1, .null, .int 0]))] sz) ((fun A => va_Ql (S := Unit) (fun _ _ => False) (fun _ _ => True) A) (va_A [(a0, .inr (11, [.ref a1, .ref a2, .ref a3, .ref a4, .ref a5, .ref a6, .ref a7, .ref a8, .ref a9, .ref a10, .ref a11, .ref a12, .ref a13, .ref a14, .int 1, .null, .int 0]))] sz)) (nXC (va_A [(a0, .inr (11, [.ref a1, .ref a2, .ref a3, .ref a4, .ref a5, .ref a6, .ref a7, .ref a8, .ref a9, .ref a10, .ref a11, .ref a12, .ref a13, .ref a14, .int 1, .null, .int 0]))] sz)) 1 6 (va_A [(a0, .inr (11, [.ref a1, .ref a2, .ref a3, .ref a4, .ref a5, .ref a6, .ref a7, .ref a8, .ref a9, .ref a10, .ref a11, .ref a12, .ref a13, .ref a14, .int 1, .null, .int 0]))] sz) := by
  refine nx_ofW (D := D) (y := y) (E := nE3 sa lo) (yy := yX11_row) (wsy := wsX11_row) (rm := { frames := 8, cells := 1, slots := 6, locals := 200 }) (as := [.ref a0, .int n0]) (ws := [(a0, .inr (11, [.ref a1, .ref a2, .ref a3, .ref a4, .ref a5, .ref a6, .ref a7, .ref a8, .ref a9, .ref a10, .ref a11, .ref a12, .ref a13, .ref a14, .int 1, .null, .int 0]))]) (sz := sz) (mc := 1) (ms := 6) (Qc := fun A => va_Ql (S := Unit) (fun _ _ => False) (fun _ _ => True) A) (cc := cX11_row) (maxL := 2) (ret := (some .long)) (by decide) rfl (Nat.le_of_ble_eq_true rfl) ?_
  intro p e s m below meth c A ls H hx hb hml hts hown hlocks hex hsz hP hK hD hA hS hE hAe hl
  replace hl : lv_has ls 2 [(0, .ref a0), (1, .int n0)] := hl
  have hown : s.vm.findClass RX11 = some m.cls := hown
  have hAl : ∀ q : Nat, A q → lo ≤ q := by rw [hAe]; exact n_lo hlo hlz
  have hls : lo ≤ s.heap.size := by rw [hsz]; exact hlz
  have hXX := hE.2
  replace hE := hE.1
  have w_0 := hts (.classLink RX11 161 "java/util/NoSuchElementException") (gt_k wd_6_96)
  have w_1 := hts (.initialized "java/util/NoSuchElementException") (gt_k wd_1_24)
  refine lv_iload_n hx hb dX11_row_0 rfl (lv_at hl 1 rfl) ?_
  refine lv_if_lt (tgt := 15) hx hb dX11_row_1 (by decide +kernel) (fun _ => ?_) (fun c => absurd (q_lt hn0h (by decide +kernel)) c)
  exact nse_throwW (text := "no such number of the row") (is := 456) (mc := 1) (ms := 6) (sa := sa 3) (A := A) (rest := []) hx hb hlt hown w_0 w_1 hXX.2.2.2.2.2.1 (vx_hat (fun w h => hts w (gt_k (nse_in w h))) nse_bad (vx_c (va_Nw.use rfl hXX.2.2.2.2.2.2.1) (vx_c (va_Nw.use rfl hXX.2.2.2.2.2.2.2.1) (vx_c (va_Nw.use rfl hXX.2.2.2.2.2.2.2.2.1) (vx_c (va_Nw.use rfl hXX.2.2.2.2.2.2.2.2.2) vx_n))))) (hXX.1.narrow hAl) (hXX.2.1.narrow hAl) hS (by rw [hml]; exact hl.1) dX11_row_15 dX11_row_18 dX11_row_19 dX11_row_22 dX11_row_25 (fun x h => (hex x h).elim) (Nat.le_of_ble_eq_true rfl) (Nat.le_of_ble_eq_true rfl) (Nat.le_of_ble_eq_true rfl) (Nat.le_of_ble_eq_true rfl) hlocks (fun t h1 h2 h3 => nx_F hS h2 h3) hS.2.2 (Nat.le_of_ble_eq_true rfl) (Nat.le_of_ble_eq_true rfl)
set_option maxRecDepth 100000 in
set_option maxHeartbeats 4000000 in
theorem cL_row_1 (l : Launch) (D : va_G) (y : Nat → ClassId) (a0 : Nat) (n0 : Int32) (hn0h : n0 ≤ (-1)) (a1 : Nat) (a2 : Nat) (a3 : Nat) (a4 : Nat) (a5 : Nat) (a6 : Nat) (a7 : Nat) (a8 : Nat) (a9 : Nat) (a10 : Nat) (a11 : Nat) (a12 : Nat) (a13 : Nat) (a14 : Nat) (a15 : Nat) (sz : Nat) (sa : Nat → Nat) (lo : Nat) (hlo : va_D (fun q => lo ≤ q) [(a0, .inr (11, [.ref a2, .ref a3, .ref a4, .ref a5, .ref a6, .ref a7, .ref a8, .ref a9, .ref a10, .ref a11, .ref a12, .ref a13, .ref a14, .ref a15, .int 1, .null, .int 0]))]) (hlz : lo ≤ sz) (hlt : l.stackTraces = false) : Met l yL_row wsL_row { frames := 9, cells := 1, slots := 6, locals := 221 } (nPc D y (nE3 sa lo) [.ref a0, .int n0, .ref a1] [(a0, .inr (11, [.ref a2, .ref a3, .ref a4, .ref a5, .ref a6, .ref a7, .ref a8, .ref a9, .ref a10, .ref a11, .ref a12, .ref a13, .ref a14, .ref a15, .int 1, .null, .int 0]))] sz) ((fun A => nQi D y (fun r _ => r = 1) (fun u => []) A) (va_A [(a0, .inr (11, [.ref a2, .ref a3, .ref a4, .ref a5, .ref a6, .ref a7, .ref a8, .ref a9, .ref a10, .ref a11, .ref a12, .ref a13, .ref a14, .ref a15, .int 1, .null, .int 0]))] sz)) 1 6 (va_A [(a0, .inr (11, [.ref a2, .ref a3, .ref a4, .ref a5, .ref a6, .ref a7, .ref a8, .ref a9, .ref a10, .ref a11, .ref a12, .ref a13, .ref a14, .ref a15, .int 1, .null, .int 0]))] sz) := by
  refine ny_ofW (D := D) (y := y) (E := nE3 sa lo) (yy := yL_row) (wsy := wsL_row) (rm := { frames := 9, cells := 1, slots := 6, locals := 221 }) (as := [.ref a0, .int n0, .ref a1]) (ws := [(a0, .inr (11, [.ref a2, .ref a3, .ref a4, .ref a5, .ref a6, .ref a7, .ref a8, .ref a9, .ref a10, .ref a11, .ref a12, .ref a13, .ref a14, .ref a15, .int 1, .null, .int 0]))]) (sz := sz) (mc := 1) (ms := 6) (Qc := fun A => nQi D y (fun r _ => r = 1) (fun u => []) A) (cc := cL_row) (maxL := 4) (ret := (some .int)) (by decide) rfl (Nat.le_of_ble_eq_true rfl) ?_
  intro p e s m below meth c A ls H hx hb hr hml hts hown hlocks htab hsz hP hK hD hA hS hE hAe hl
  replace hl : lv_has ls 4 [(0, .ref a0), (1, .int n0), (2, .ref a1)] := hl
  have hown : s.vm.findClass RL = some m.cls := hown
  have hAl : ∀ q : Nat, A q → lo ≤ q := by rw [hAe]; exact n_lo hlo hlz
  have hls : lo ≤ s.heap.size := by rw [hsz]; exact hlz
  have hXX := hE.2
  replace hE := hE.1
  have w_0 := hts (.classLink RL 13 "java/util/NoSuchElementException") (gt_k wd_6_91)
  refine lv_aload_n hx hb dL_row_0 rfl (lv_at hl 2 rfl) ?_
  refine lv_iconst (v := 0) hx hb dL_row_1 (by decide +kernel) ?_
  refine lv_aload_n hx hb dL_row_2 rfl (lv_at hl 0 rfl) ?_
  refine lv_iload_n hx hb dL_row_3 rfl (lv_at hl 1 rfl) ?_
  refine nx_calll (ws := [(a0, .inr (11, [.ref a2, .ref a3, .ref a4, .ref a5, .ref a6, .ref a7, .ref a8, .ref a9, .ref a10, .ref a11, .ref a12, .ref a13, .ref a14, .ref a15, .int 1, .null, .int 0]))]) (wc := [(a0, .inr (11, [.ref a2, .ref a3, .ref a4, .ref a5, .ref a6, .ref a7, .ref a8, .ref a9, .ref a10, .ref a11, .ref a12, .ref a13, .ref a14, .ref a15, .int 1, .null, .int 0]))]) (As := [.int n0]) (rest := [.int 0, .ref a1]) ⟨hx, hb, hml, hown, hts⟩ (fun h1 h2 => cX11_row_1 l D y a0 n0 hn0h a2 a3 a4 a5 a6 a7 a8 a9 a10 a11 a12 a13 a14 a15 H.size sa lo h1 h2 hlt) (cwV 1 hts gL_row_X11_row rfl rfl rfl (by decide +kernel) ⟨Nat.le_of_ble_eq_true rfl, Nat.le_of_ble_eq_true rfl⟩) hK hP hD hS hA hE hXX hAl hls [0] rfl (by decide +kernel) 0 11 rfl rfl rfl rfl hl.1 rfl (lv_room (Nat.le_of_ble_eq_true rfl)) dL_row_4 ⟨Nat.le_of_ble_eq_true rfl, Nat.le_of_ble_eq_true rfl⟩ (fun ce q9 H locs hS hq9 hcv hcE => ?_)
  refine vx_catch hown [] ⟨0, 8, 11, 13⟩ [] htab (fun z h => nomatch h) (by decide +kernel) (by decide +kernel) w_0 (va_Nw.use rfl hXX.2.2.2.2.2.2.1) hq9 hcv hcE ?_
  have hP : va_P D vwCl [] H := fun k q h => by simp at h
  have hD : va_D A [] := ⟨fun i j p q h => by simp at h, fun k q h => by simp at h⟩
  refine lv_astore_n (lv' := [(3, .ref q9), (0, .ref a0), (1, .int n0), (2, .ref a1)]) hx hb dL_row_11 rfl hl (by decide +kernel) rfl (fun ls hl => ?_)
  refine lv_iconst (v := 1) hx hb dL_row_12 (by decide +kernel) ?_
  refine W.widen (k := 1) (n := 6) (Nat.le_of_ble_eq_true rfl) (Nat.le_of_ble_eq_true rfl) ?_
  exact W.iret (v := 1) hx hb hr (fun t ht hW => ⟨⟨1, (fun _ => 0), rfl, rfl, by rw [ht]; exact hP, va_K.moved hW.alike hK, hD⟩, hS.F ht⟩) hS.2.2 dL_row_13 hlocks
set_option maxRecDepth 100000 in
set_option maxHeartbeats 4000000 in
theorem cX11_row_2 (l : Launch) (D : va_G) (y : Nat → ClassId) (a0 : Nat) (n0 : Int32) (hn0l : 0 ≤ n0) (a1 : Nat) (a2 : Nat) (a3 : Nat) (a4 : Nat) (a5 : Nat) (a6 : Nat) (a7 : Nat) (a8 : Nat) (a9 : Nat) (a10 : Nat) (a11 : Nat) (a12 : Nat) (a13 : Nat) (a14 : Nat) (a15 : Nat) (sz : Nat) (sa : Nat → Nat) (lo : Nat) (hlo : va_D (fun q => lo ≤ q) [(a0, .inr (11, [.ref a1, .ref a2, .ref a3, .ref a4, .ref a5, .ref a6, .ref a7, .ref a8, .ref a9, .ref a10, .ref a11, .ref a12, .ref a13, .ref a14, .int 1, .null, .int 0])), (a2, .inr (5, [.ref a15, .int 0]))]) (hlz : lo ≤ sz) (hlt : l.stackTraces = false) : vx_Met l yX11_row wsX11_row { frames := 8, cells := 1, slots := 6, locals := 200 } (nPc D y (nE3 sa lo) [.ref a0, .int n0] [(a0, .inr (11, [.ref a1, .ref a2, .ref a3, .ref a4, .ref a5, .ref a6, .ref a7, .ref a8, .ref a9, .ref a10, .ref a11, .ref a12, .ref a13, .ref a14, .int 1, .null, .int 0])), (a2, .inr (5, [.ref a15, .int 0]))] sz) ((fun A => va_Ql (S := Unit) (fun _ _ => False) (fun _ _ => True) A) (va_A [(a0, .inr (11, [.ref a1, .ref a2, .ref a3, .ref a4, .ref a5, .ref a6, .ref a7, .ref a8, .ref a9, .ref a10, .ref a11, .ref a12, .ref a13, .ref a14, .int 1, .null, .int 0])), (a2, .inr (5, [.ref a15, .int 0]))] sz)) (nXC (va_A [(a0, .inr (11, [.ref a1, .ref a2, .ref a3, .ref a4, .ref a5, .ref a6, .ref a7, .ref a8, .ref a9, .ref a10, .ref a11, .ref a12, .ref a13, .ref a14, .int 1, .null, .int 0])), (a2, .inr (5, [.ref a15, .int 0]))] sz)) 1 6 (va_A [(a0, .inr (11, [.ref a1, .ref a2, .ref a3, .ref a4, .ref a5, .ref a6, .ref a7, .ref a8, .ref a9, .ref a10, .ref a11, .ref a12, .ref a13, .ref a14, .int 1, .null, .int 0])), (a2, .inr (5, [.ref a15, .int 0]))] sz) := by
  refine nx_ofW (D := D) (y := y) (E := nE3 sa lo) (yy := yX11_row) (wsy := wsX11_row) (rm := { frames := 8, cells := 1, slots := 6, locals := 200 }) (as := [.ref a0, .int n0]) (ws := [(a0, .inr (11, [.ref a1, .ref a2, .ref a3, .ref a4, .ref a5, .ref a6, .ref a7, .ref a8, .ref a9, .ref a10, .ref a11, .ref a12, .ref a13, .ref a14, .int 1, .null, .int 0])), (a2, .inr (5, [.ref a15, .int 0]))]) (sz := sz) (mc := 1) (ms := 6) (Qc := fun A => va_Ql (S := Unit) (fun _ _ => False) (fun _ _ => True) A) (cc := cX11_row) (maxL := 2) (ret := (some .long)) (by decide) rfl (Nat.le_of_ble_eq_true rfl) ?_
  intro p e s m below meth c A ls H hx hb hml hts hown hlocks hex hsz hP hK hD hA hS hE hAe hl
  replace hl : lv_has ls 2 [(0, .ref a0), (1, .int n0)] := hl
  have hown : s.vm.findClass RX11 = some m.cls := hown
  have hAl : ∀ q : Nat, A q → lo ≤ q := by rw [hAe]; exact n_lo hlo hlz
  have hls : lo ≤ s.heap.size := by rw [hsz]; exact hlz
  have hXX := hE.2
  replace hE := hE.1
  have w_0 := hts (.fieldLink RX11 19 "SoldToBehind" "told" "LSoldToBehind$Row;") (gt_k wd_2_99)
  have w_1 := hts (.fieldLink RX11 455 "SoldToBehind$Row" "size" "I") (gt_k wd_1_65)
  have w_2 := hts (.classLink RX11 161 "java/util/NoSuchElementException") (gt_k wd_6_96)
  have w_3 := hts (.initialized "java/util/NoSuchElementException") (gt_k wd_1_24)
  refine lv_iload_n hx hb dX11_row_0 rfl (lv_at hl 1 rfl) ?_
  refine lv_if_lt (tgt := 15) hx hb dX11_row_1 (by decide +kernel) (fun c => absurd c (q_nlt hn0l (by decide +kernel))) (fun _ => ?_)
  refine lv_iload_n hx hb dX11_row_4 rfl (lv_at hl 1 rfl) ?_
  refine lv_aload_n hx hb dX11_row_5 rfl (lv_at hl 0 rfl) ?_
  refine va_get (D := D) (ci := 11) (v := .ref a2) (C := RX11) (T := TX11) (N := 17) hx hb hts (gt_c iG_X11) hown hK hP 0 rfl rfl 1 (by decide +kernel) w_0 (fun _ h9 => h9) rfl dX11_row_6 ?_
  refine va_get (D := D) (ci := 5) (v := .int 0) (C := RX5) (T := TX5) (N := 2) hx hb hts (gt_c iG_X5) hown hK hP 1 rfl rfl 1 (by decide +kernel) w_1 (fun _ h9 => h9) rfl dX11_row_9 ?_
  refine lv_icmp_lt (tgt := 26) hx hb dX11_row_12 (by decide +kernel) (fun c => absurd c (q_nlt hn0l (by decide +kernel))) (fun _ => ?_)
  exact nse_throwW (text := "no such number of the row") (is := 456) (mc := 1) (ms := 6) (sa := sa 3) (A := A) (rest := []) hx hb hlt hown w_2 w_3 hXX.2.2.2.2.2.1 (vx_hat (fun w h => hts w (gt_k (nse_in w h))) nse_bad (vx_c (va_Nw.use rfl hXX.2.2.2.2.2.2.1) (vx_c (va_Nw.use rfl hXX.2.2.2.2.2.2.2.1) (vx_c (va_Nw.use rfl hXX.2.2.2.2.2.2.2.2.1) (vx_c (va_Nw.use rfl hXX.2.2.2.2.2.2.2.2.2) vx_n))))) (hXX.1.narrow hAl) (hXX.2.1.narrow hAl) hS (by rw [hml]; exact hl.1) dX11_row_15 dX11_row_18 dX11_row_19 dX11_row_22 dX11_row_25 (fun x h => (hex x h).elim) (Nat.le_of_ble_eq_true rfl) (Nat.le_of_ble_eq_true rfl) (Nat.le_of_ble_eq_true rfl) (Nat.le_of_ble_eq_true rfl) hlocks (fun t h1 h2 h3 => nx_F hS h2 h3) hS.2.2 (Nat.le_of_ble_eq_true rfl) (Nat.le_of_ble_eq_true rfl)
set_option maxRecDepth 100000 in
set_option maxHeartbeats 4000000 in
theorem cL_row_2 (l : Launch) (D : va_G) (y : Nat → ClassId) (a0 : Nat) (n0 : Int32) (hn0l : 0 ≤ n0) (a1 : Nat) (a2 : Nat) (a3 : Nat) (a4 : Nat) (a5 : Nat) (a6 : Nat) (a7 : Nat) (a8 : Nat) (a9 : Nat) (a10 : Nat) (a11 : Nat) (a12 : Nat) (a13 : Nat) (a14 : Nat) (a15 : Nat) (a16 : Nat) (sz : Nat) (sa : Nat → Nat) (lo : Nat) (hlo : va_D (fun q => lo ≤ q) [(a0, .inr (11, [.ref a2, .ref a3, .ref a4, .ref a5, .ref a6, .ref a7, .ref a8, .ref a9, .ref a10, .ref a11, .ref a12, .ref a13, .ref a14, .ref a15, .int 1, .null, .int 0])), (a3, .inr (5, [.ref a16, .int 0]))]) (hlz : lo ≤ sz) (hlt : l.stackTraces = false) : Met l yL_row wsL_row { frames := 9, cells := 1, slots := 6, locals := 221 } (nPc D y (nE3 sa lo) [.ref a0, .int n0, .ref a1] [(a0, .inr (11, [.ref a2, .ref a3, .ref a4, .ref a5, .ref a6, .ref a7, .ref a8, .ref a9, .ref a10, .ref a11, .ref a12, .ref a13, .ref a14, .ref a15, .int 1, .null, .int 0])), (a3, .inr (5, [.ref a16, .int 0]))] sz) ((fun A => nQi D y (fun r _ => r = 1) (fun u => []) A) (va_A [(a0, .inr (11, [.ref a2, .ref a3, .ref a4, .ref a5, .ref a6, .ref a7, .ref a8, .ref a9, .ref a10, .ref a11, .ref a12, .ref a13, .ref a14, .ref a15, .int 1, .null, .int 0])), (a3, .inr (5, [.ref a16, .int 0]))] sz)) 1 6 (va_A [(a0, .inr (11, [.ref a2, .ref a3, .ref a4, .ref a5, .ref a6, .ref a7, .ref a8, .ref a9, .ref a10, .ref a11, .ref a12, .ref a13, .ref a14, .ref a15, .int 1, .null, .int 0])), (a3, .inr (5, [.ref a16, .int 0]))] sz) := by
  refine ny_ofW (D := D) (y := y) (E := nE3 sa lo) (yy := yL_row) (wsy := wsL_row) (rm := { frames := 9, cells := 1, slots := 6, locals := 221 }) (as := [.ref a0, .int n0, .ref a1]) (ws := [(a0, .inr (11, [.ref a2, .ref a3, .ref a4, .ref a5, .ref a6, .ref a7, .ref a8, .ref a9, .ref a10, .ref a11, .ref a12, .ref a13, .ref a14, .ref a15, .int 1, .null, .int 0])), (a3, .inr (5, [.ref a16, .int 0]))]) (sz := sz) (mc := 1) (ms := 6) (Qc := fun A => nQi D y (fun r _ => r = 1) (fun u => []) A) (cc := cL_row) (maxL := 4) (ret := (some .int)) (by decide) rfl (Nat.le_of_ble_eq_true rfl) ?_
  intro p e s m below meth c A ls H hx hb hr hml hts hown hlocks htab hsz hP hK hD hA hS hE hAe hl
  replace hl : lv_has ls 4 [(0, .ref a0), (1, .int n0), (2, .ref a1)] := hl
  have hown : s.vm.findClass RL = some m.cls := hown
  have hAl : ∀ q : Nat, A q → lo ≤ q := by rw [hAe]; exact n_lo hlo hlz
  have hls : lo ≤ s.heap.size := by rw [hsz]; exact hlz
  have hXX := hE.2
  replace hE := hE.1
  have w_0 := hts (.classLink RL 13 "java/util/NoSuchElementException") (gt_k wd_6_91)
  refine lv_aload_n hx hb dL_row_0 rfl (lv_at hl 2 rfl) ?_
  refine lv_iconst (v := 0) hx hb dL_row_1 (by decide +kernel) ?_
  refine lv_aload_n hx hb dL_row_2 rfl (lv_at hl 0 rfl) ?_
  refine lv_iload_n hx hb dL_row_3 rfl (lv_at hl 1 rfl) ?_
  refine nx_calll (ws := [(a0, .inr (11, [.ref a2, .ref a3, .ref a4, .ref a5, .ref a6, .ref a7, .ref a8, .ref a9, .ref a10, .ref a11, .ref a12, .ref a13, .ref a14, .ref a15, .int 1, .null, .int 0])), (a3, .inr (5, [.ref a16, .int 0]))]) (wc := [(a0, .inr (11, [.ref a2, .ref a3, .ref a4, .ref a5, .ref a6, .ref a7, .ref a8, .ref a9, .ref a10, .ref a11, .ref a12, .ref a13, .ref a14, .ref a15, .int 1, .null, .int 0])), (a3, .inr (5, [.ref a16, .int 0]))]) (As := [.int n0]) (rest := [.int 0, .ref a1]) ⟨hx, hb, hml, hown, hts⟩ (fun h1 h2 => cX11_row_2 l D y a0 n0 hn0l a2 a3 a4 a5 a6 a7 a8 a9 a10 a11 a12 a13 a14 a15 a16 H.size sa lo h1 h2 hlt) (cwV 1 hts gL_row_X11_row rfl rfl rfl (by decide +kernel) ⟨Nat.le_of_ble_eq_true rfl, Nat.le_of_ble_eq_true rfl⟩) hK hP hD hS hA hE hXX hAl hls [0, 1] rfl (by decide +kernel) 0 11 rfl rfl rfl rfl hl.1 rfl (lv_room (Nat.le_of_ble_eq_true rfl)) dL_row_4 ⟨Nat.le_of_ble_eq_true rfl, Nat.le_of_ble_eq_true rfl⟩ (fun ce q9 H locs hS hq9 hcv hcE => ?_)
  refine vx_catch hown [] ⟨0, 8, 11, 13⟩ [] htab (fun z h => nomatch h) (by decide +kernel) (by decide +kernel) w_0 (va_Nw.use rfl hXX.2.2.2.2.2.2.1) hq9 hcv hcE ?_
  have hP : va_P D vwCl [] H := fun k q h => by simp at h
  have hD : va_D A [] := ⟨fun i j p q h => by simp at h, fun k q h => by simp at h⟩
  refine lv_astore_n (lv' := [(3, .ref q9), (0, .ref a0), (1, .int n0), (2, .ref a1)]) hx hb dL_row_11 rfl hl (by decide +kernel) rfl (fun ls hl => ?_)
  refine lv_iconst (v := 1) hx hb dL_row_12 (by decide +kernel) ?_
  refine W.widen (k := 1) (n := 6) (Nat.le_of_ble_eq_true rfl) (Nat.le_of_ble_eq_true rfl) ?_
  exact W.iret (v := 1) hx hb hr (fun t ht hW => ⟨⟨1, (fun _ => 0), rfl, rfl, by rw [ht]; exact hP, va_K.moved hW.alike hK, hD⟩, hS.F ht⟩) hS.2.2 dL_row_13 hlocks
