set_option maxRecDepth 100000 in
set_option maxHeartbeats 4000000 in
theorem op_6 {p : Program} {e : Env} {s : State} {m : MethodId} {below : List Frame} {meth : Method} {c : Code} (l : Launch) {b : Nat} {xs : Nat → Int32} {D : va_G} {y : Nat → ClassId} {t sa ad : Nat → Nat} {lo : Nat} (C0 : lw_At p s m meth c b 5 xs) (hK : va_K D vwCl (nTY y) s) (hE : nT s) (hZ : nZ t lo s) (hXX : nX sa lo s) (hSS : nS ad lo s) (hlt : l.stackTraces = false) (hlo : lo = s.heap.size) (x mm o : Nat) (u v : Nat → Nat) (H : Heap) (locs : List Loc) (ls : Array Slot) (hP : va_P D vwCl (nWX y x u ++ (nWM y mm v ++ [(o, .inl (y 1, 1, .inr (.inl nzl)))])) H) (hD : va_D (fun q : Nat => s.heap.size ≤ q) (nWX y x u ++ (nWM y mm v ++ [(o, .inl (y 1, 1, .inr (.inl nzl)))]))) (hS : va_S (fun q : Nat => s.heap.size ≤ q) s.heap H locs) (hl : lv_has ls 8 [(4, .int 0), (3, .ref o), (2, .ref mm), (1, .ref x), (0, .ref b)]) : W p l e room_1 s m #[Value.ref b] below meth c H locs 141 81395 (lw_Z below #[Value.ref b] s) (F0 m 429 ls []) := by
  obtain ⟨hx, hb, hr, hml, hown, hts, hX, hbl, hlocks, hgv⟩ := C0
  have hA : ∀ q : Nat, s.heap.size ≤ q → (fun q : Nat => s.heap.size ≤ q) q := fun _ h => h
  have hbA : ¬ (fun q : Nat => s.heap.size ≤ q) b := Nat.not_le.mpr hbl
  have hAl : ∀ q : Nat, (fun q : Nat => s.heap.size ≤ q) q → lo ≤ q := fun q h => by rw [hlo]; exact h
  have hls : lo ≤ s.heap.size := by rw [hlo]; exact Nat.le_refl _
  replace hP := hP.sub (ws' := [(x, .inr (11, [.ref (u 0), .ref (u 2), .ref (u 4), .ref (u 19), .ref (u 24), .ref (u 28), .ref (u 36), .ref (u 44), .ref (u 52), .ref (u 58), .ref (u 63), .ref (u 64), .ref (u 65), .ref (u 66), .int 1, .null, .int 0])), ((u 4), .inr (9, [.ref (u 5), .ref (u 6), .ref (u 7), .ref (u 8), .int 0, .ref (u 9), .ref (u 10)])), ((u 28), .inr (7, [.ref (u 29), .ref (u 30), .ref (u 31), .ref (u 32), .int 0, .int 0, .ref (u 33), .ref (u 34), .ref (u 35), .ref (u 4)])), ((u 30), .inl (y 0, 9, .inl nz)), (mm, .inr (12, (.int 0 :: .ref (v 0) :: .ref (v 1) :: .ref (v 2) :: .ref (v 3) :: .ref (v 4) :: .ref (v 5) :: .ref (v 6) :: .int 0 :: .ref (v 7) :: .int 0 :: .ref (v 8) :: .ref (v 9) :: .int 1 :: .ref (v 10) :: .int 0 :: .ref (v 11) :: .int 0 :: .int 0 :: .null :: .int 0 :: .int 0 :: .int 0 :: .int 0 :: .ref (v 12) :: .ref (v 13) :: .ref (v 14) :: .int (-1) :: .int 0 :: .int 0 :: .int 0 :: .int 0 :: .int 0 :: .int 0 :: .int 0 :: .ref (v 15) :: .int 0 :: .ref (v 16) :: .int 0 :: .ref (v 17) :: .ref (v 18) :: .int 0 :: .int 0 :: .int 0 :: .int 0 :: .ref (v 19) :: .ref (v 20) :: .ref (v 21) :: .ref (v 22) :: .ref (v 23) :: .ref (v 24) :: .ref (v 25) :: .ref (v 26) :: .ref (v 27) :: .int 0 :: .ref (v 28) :: .ref (v 29) :: .ref (v 30) :: .long 0 :: .int 0 :: .int 0 :: .int 0 :: .long 0 :: .int 0 :: .ref (v 31) :: .int 0 :: .int 0 :: .int 0 :: .int 0 :: .ref (v 32) :: .ref (v 33) :: .ref (v 34) :: [])))]) [0, 5, 29, 31, 100] rfl
  replace hD := hD.sub (ws' := [(x, .inr (11, [.ref (u 0), .ref (u 2), .ref (u 4), .ref (u 19), .ref (u 24), .ref (u 28), .ref (u 36), .ref (u 44), .ref (u 52), .ref (u 58), .ref (u 63), .ref (u 64), .ref (u 65), .ref (u 66), .int 1, .null, .int 0])), ((u 4), .inr (9, [.ref (u 5), .ref (u 6), .ref (u 7), .ref (u 8), .int 0, .ref (u 9), .ref (u 10)])), ((u 28), .inr (7, [.ref (u 29), .ref (u 30), .ref (u 31), .ref (u 32), .int 0, .int 0, .ref (u 33), .ref (u 34), .ref (u 35), .ref (u 4)])), ((u 30), .inl (y 0, 9, .inl nz)), (mm, .inr (12, (.int 0 :: .ref (v 0) :: .ref (v 1) :: .ref (v 2) :: .ref (v 3) :: .ref (v 4) :: .ref (v 5) :: .ref (v 6) :: .int 0 :: .ref (v 7) :: .int 0 :: .ref (v 8) :: .ref (v 9) :: .int 1 :: .ref (v 10) :: .int 0 :: .ref (v 11) :: .int 0 :: .int 0 :: .null :: .int 0 :: .int 0 :: .int 0 :: .int 0 :: .ref (v 12) :: .ref (v 13) :: .ref (v 14) :: .int (-1) :: .int 0 :: .int 0 :: .int 0 :: .int 0 :: .int 0 :: .int 0 :: .int 0 :: .ref (v 15) :: .int 0 :: .ref (v 16) :: .int 0 :: .ref (v 17) :: .ref (v 18) :: .int 0 :: .int 0 :: .int 0 :: .int 0 :: .ref (v 19) :: .ref (v 20) :: .ref (v 21) :: .ref (v 22) :: .ref (v 23) :: .ref (v 24) :: .ref (v 25) :: .ref (v 26) :: .ref (v 27) :: .int 0 :: .ref (v 28) :: .ref (v 29) :: .ref (v 30) :: .long 0 :: .int 0 :: .int 0 :: .int 0 :: .long 0 :: .int 0 :: .ref (v 31) :: .int 0 :: .int 0 :: .int 0 :: .int 0 :: .ref (v 32) :: .ref (v 33) :: .ref (v 34) :: [])))]) [0, 5, 29, 31, 100] (by decide +kernel) rfl
  refine lv_aload_n hx hb dL_law_429 rfl (lv_at hl 3 rfl) ?_
  refine lv_aload_n hx hb dL_law_430 rfl (lv_at hl 4 rfl) ?_
  refine lv_iload hx hb dL_law_431 (lv_at hl 0 rfl) ?_
  refine lv_iconst (v := 1) hx hb dL_law_433 (by decide +kernel) ?_
  refine lv_iadd hx hb dL_law_434 ?_
  refine nv_i (v := 1) (by decide +kernel) ?_
  refine va_sld hx hb hX hbl hbA hS (n_in (by decide +kernel)) dL_law_435 ?_
  refine lv_topi (fun x1 ex1 => ?_)
  rcases n_cut x1 (-1) 0 (by decide +kernel) with hk2 | hk2
  · have hk2x := hk2
    refine lv_aload_n hx hb dL_law_436 rfl (lv_at hl 4 rfl) ?_
    refine lv_iload hx hb dL_law_437 (lv_at hl 0 rfl) ?_
    refine lv_iconst (v := 2) hx hb dL_law_439 (by decide +kernel) ?_
    refine lv_iadd hx hb dL_law_440 ?_
    refine nv_i (v := 2) (by decide +kernel) ?_
    refine va_sld hx hb hX hbl hbA hS (n_in (by decide +kernel)) dL_law_441 ?_
    refine lv_topi (fun x3 ex3 => ?_)
    rcases n_cut x3 (-1) 0 (by decide +kernel) with hk4 | hk4
    · have hk4x := hk4
      refine lv_aload_n hx hb dL_law_442 rfl (lv_at hl 4 rfl) ?_
      refine lv_iload hx hb dL_law_443 (lv_at hl 0 rfl) ?_
      refine lv_iconst (v := 3) hx hb dL_law_445 (by decide +kernel) ?_
      refine lv_iadd hx hb dL_law_446 ?_
      refine nv_i (v := 3) (by decide +kernel) ?_
      refine va_sld hx hb hX hbl hbA hS (n_in (by decide +kernel)) dL_law_447 ?_
      refine lv_topi (fun x5 ex5 => ?_)
      refine lv_aload_n hx hb dL_law_448 rfl (lv_at hl 4 rfl) ?_
      refine lv_iload hx hb dL_law_449 (lv_at hl 0 rfl) ?_
      refine lv_iconst (v := 4) hx hb dL_law_451 (by decide +kernel) ?_
      refine lv_iadd hx hb dL_law_452 ?_
      refine nv_i (v := 4) (by decide +kernel) ?_
      refine va_sld hx hb hX hbl hbA hS (n_in (by decide +kernel)) dL_law_453 ?_
      refine lv_topi (fun x6 ex6 => ?_)
      refine nj_i (ws := [(x, .inr (11, [.ref (u 0), .ref (u 2), .ref (u 4), .ref (u 19), .ref (u 24), .ref (u 28), .ref (u 36), .ref (u 44), .ref (u 52), .ref (u 58), .ref (u 63), .ref (u 64), .ref (u 65), .ref (u 66), .int 1, .null, .int 0])), ((u 4), .inr (9, [.ref (u 5), .ref (u 6), .ref (u 7), .ref (u 8), .int 0, .ref (u 9), .ref (u 10)])), ((u 28), .inr (7, [.ref (u 29), .ref (u 30), .ref (u 31), .ref (u 32), .int 0, .int 0, .ref (u 33), .ref (u 34), .ref (u 35), .ref (u 4)])), ((u 30), .inl (y 0, 9, .inl nz)), (mm, .inr (12, (.int 0 :: .ref (v 0) :: .ref (v 1) :: .ref (v 2) :: .ref (v 3) :: .ref (v 4) :: .ref (v 5) :: .ref (v 6) :: .int 0 :: .ref (v 7) :: .int 0 :: .ref (v 8) :: .ref (v 9) :: .int 1 :: .ref (v 10) :: .int 0 :: .ref (v 11) :: .int 0 :: .int 0 :: .null :: .int 0 :: .int 0 :: .int 0 :: .int 0 :: .ref (v 12) :: .ref (v 13) :: .ref (v 14) :: .int (-1) :: .int 0 :: .int 0 :: .int 0 :: .int 0 :: .int 0 :: .int 0 :: .int 0 :: .ref (v 15) :: .int 0 :: .ref (v 16) :: .int 0 :: .ref (v 17) :: .ref (v 18) :: .int 0 :: .int 0 :: .int 0 :: .int 0 :: .ref (v 19) :: .ref (v 20) :: .ref (v 21) :: .ref (v 22) :: .ref (v 23) :: .ref (v 24) :: .ref (v 25) :: .ref (v 26) :: .ref (v 27) :: .int 0 :: .ref (v 28) :: .ref (v 29) :: .ref (v 30) :: .long 0 :: .int 0 :: .int 0 :: .int 0 :: .long 0 :: .int 0 :: .ref (v 31) :: .int 0 :: .int 0 :: .int 0 :: .int 0 :: .ref (v 32) :: .ref (v 33) :: .ref (v 34) :: [])))]) (wc := [(x, .inr (11, [.ref (u 0), .ref (u 2), .ref (u 4), .ref (u 19), .ref (u 24), .ref (u 28), .ref (u 36), .ref (u 44), .ref (u 52), .ref (u 58), .ref (u 63), .ref (u 64), .ref (u 65), .ref (u 66), .int 1, .null, .int 0]))]) (wr := [((u 4), .inr (9, [.ref (u 5), .ref (u 6), .ref (u 7), .ref (u 8), .int 0, .ref (u 9), .ref (u 10)])), ((u 28), .inr (7, [.ref (u 29), .ref (u 30), .ref (u 31), .ref (u 32), .int 0, .int 0, .ref (u 33), .ref (u 34), .ref (u 35), .ref (u 4)])), ((u 30), .inl (y 0, 9, .inl nz)), (mm, .inr (12, (.int 0 :: .ref (v 0) :: .ref (v 1) :: .ref (v 2) :: .ref (v 3) :: .ref (v 4) :: .ref (v 5) :: .ref (v 6) :: .int 0 :: .ref (v 7) :: .int 0 :: .ref (v 8) :: .ref (v 9) :: .int 1 :: .ref (v 10) :: .int 0 :: .ref (v 11) :: .int 0 :: .int 0 :: .null :: .int 0 :: .int 0 :: .int 0 :: .int 0 :: .ref (v 12) :: .ref (v 13) :: .ref (v 14) :: .int (-1) :: .int 0 :: .int 0 :: .int 0 :: .int 0 :: .int 0 :: .int 0 :: .int 0 :: .ref (v 15) :: .int 0 :: .ref (v 16) :: .int 0 :: .ref (v 17) :: .ref (v 18) :: .int 0 :: .int 0 :: .int 0 :: .int 0 :: .ref (v 19) :: .ref (v 20) :: .ref (v 21) :: .ref (v 22) :: .ref (v 23) :: .ref (v 24) :: .ref (v 25) :: .ref (v 26) :: .ref (v 27) :: .int 0 :: .ref (v 28) :: .ref (v 29) :: .ref (v 30) :: .long 0 :: .int 0 :: .int 0 :: .int 0 :: .long 0 :: .int 0 :: .ref (v 31) :: .int 0 :: .int 0 :: .int 0 :: .int 0 :: .ref (v 32) :: .ref (v 33) :: .ref (v 34) :: [])))]) (nr_V (As := [.int x1, .int x3, .int x5, .int x6]) (rest := []) ⟨hx, hb, hml, hown, hts⟩ (cX11_sheet_1 l D y x x1 hk2 x3 x5 x6 (u 0) (u 2) (u 4) (u 19) (u 24) (u 28) (u 36) (u 44) (u 52) (u 58) (u 63) (u 64) (u 65) (u 66) H.size) (cwV 4 hts gT_X11_sheet rfl rfl rfl (by decide +kernel) ⟨Nat.le_of_ble_eq_true rfl, Nat.le_of_ble_eq_true rfl⟩) hK hP hD hE [0] rfl (by decide +kernel) 0 11 rfl rfl rfl rfl rfl hl.1 rfl (lv_room (Nat.le_of_ble_eq_true rfl)) dL_law_454 ⟨Nat.le_of_ble_eq_true rfl, Nat.le_of_ble_eq_true rfl⟩) hP hD hS hA [0] [1, 2, 3, 4] rfl rfl (by decide +kernel) (by decide +kernel) (fun r8 u7 H locs er8 hP hD hS => ?_)
      subst er8
      refine lv_aload_n hx hb dL_law_457 rfl (lv_at hl 2 rfl) ?_
      refine lv_aload_n hx hb dL_law_458 rfl (lv_at hl 4 rfl) ?_
      refine lv_iload hx hb dL_law_459 (lv_at hl 0 rfl) ?_
      refine lv_iconst (v := 1) hx hb dL_law_461 (by decide +kernel) ?_
      refine lv_iadd hx hb dL_law_462 ?_
      refine nv_i (v := 1) (by decide +kernel) ?_
      refine va_sld hx hb hX hbl hbA hS (n_in (by decide +kernel)) dL_law_463 ?_
      refine nv_i (v := x1) (ex1).symm ?_
      refine lv_aload_n hx hb dL_law_464 rfl (lv_at hl 4 rfl) ?_
      refine lv_iload hx hb dL_law_465 (lv_at hl 0 rfl) ?_
      refine lv_iconst (v := 2) hx hb dL_law_467 (by decide +kernel) ?_
      refine lv_iadd hx hb dL_law_468 ?_
      refine nv_i (v := 2) (by decide +kernel) ?_
      refine va_sld hx hb hX hbl hbA hS (n_in (by decide +kernel)) dL_law_469 ?_
      refine nv_i (v := x3) (ex3).symm ?_
      refine lv_aload_n hx hb dL_law_470 rfl (lv_at hl 4 rfl) ?_
      refine lv_iload hx hb dL_law_471 (lv_at hl 0 rfl) ?_
      refine lv_iconst (v := 3) hx hb dL_law_473 (by decide +kernel) ?_
      refine lv_iadd hx hb dL_law_474 ?_
      refine nv_i (v := 3) (by decide +kernel) ?_
      refine va_sld hx hb hX hbl hbA hS (n_in (by decide +kernel)) dL_law_475 ?_
      refine nv_i (v := x5) (ex5).symm ?_
      refine lv_aload_n hx hb dL_law_476 rfl (lv_at hl 4 rfl) ?_
      refine lv_iload hx hb dL_law_477 (lv_at hl 0 rfl) ?_
      refine lv_iconst (v := 4) hx hb dL_law_479 (by decide +kernel) ?_
      refine lv_iadd hx hb dL_law_480 ?_
      refine nv_i (v := 4) (by decide +kernel) ?_
      refine va_sld hx hb hX hbl hbA hS (n_in (by decide +kernel)) dL_law_481 ?_
      refine nv_i (v := x6) (ex6).symm ?_
      refine nj_i (ws := [((u 4), .inr (9, [.ref (u 5), .ref (u 6), .ref (u 7), .ref (u 8), .int 0, .ref (u 9), .ref (u 10)])), ((u 28), .inr (7, [.ref (u 29), .ref (u 30), .ref (u 31), .ref (u 32), .int 0, .int 0, .ref (u 33), .ref (u 34), .ref (u 35), .ref (u 4)])), ((u 30), .inl (y 0, 9, .inl nz)), (mm, .inr (12, (.int 0 :: .ref (v 0) :: .ref (v 1) :: .ref (v 2) :: .ref (v 3) :: .ref (v 4) :: .ref (v 5) :: .ref (v 6) :: .int 0 :: .ref (v 7) :: .int 0 :: .ref (v 8) :: .ref (v 9) :: .int 1 :: .ref (v 10) :: .int 0 :: .ref (v 11) :: .int 0 :: .int 0 :: .null :: .int 0 :: .int 0 :: .int 0 :: .int 0 :: .ref (v 12) :: .ref (v 13) :: .ref (v 14) :: .int (-1) :: .int 0 :: .int 0 :: .int 0 :: .int 0 :: .int 0 :: .int 0 :: .int 0 :: .ref (v 15) :: .int 0 :: .ref (v 16) :: .int 0 :: .ref (v 17) :: .ref (v 18) :: .int 0 :: .int 0 :: .int 0 :: .int 0 :: .ref (v 19) :: .ref (v 20) :: .ref (v 21) :: .ref (v 22) :: .ref (v 23) :: .ref (v 24) :: .ref (v 25) :: .ref (v 26) :: .ref (v 27) :: .int 0 :: .ref (v 28) :: .ref (v 29) :: .ref (v 30) :: .long 0 :: .int 0 :: .int 0 :: .int 0 :: .long 0 :: .int 0 :: .ref (v 31) :: .int 0 :: .int 0 :: .int 0 :: .int 0 :: .ref (v 32) :: .ref (v 33) :: .ref (v 34) :: []))), (x, .inr (11, [.ref (u 0), .ref (u 2), .ref (u 4), .ref (u 19), .ref (u 24), .ref (u 28), .ref (u 36), .ref (u 44), .ref (u 52), .ref (u 58), .ref (u 63), .ref (u 64), .ref (u 65), .ref (u 66), .int 1, .null, .int 0]))]) (wc := [(mm, .inr (12, (.int 0 :: .ref (v 0) :: .ref (v 1) :: .ref (v 2) :: .ref (v 3) :: .ref (v 4) :: .ref (v 5) :: .ref (v 6) :: .int 0 :: .ref (v 7) :: .int 0 :: .ref (v 8) :: .ref (v 9) :: .int 1 :: .ref (v 10) :: .int 0 :: .ref (v 11) :: .int 0 :: .int 0 :: .null :: .int 0 :: .int 0 :: .int 0 :: .int 0 :: .ref (v 12) :: .ref (v 13) :: .ref (v 14) :: .int (-1) :: .int 0 :: .int 0 :: .int 0 :: .int 0 :: .int 0 :: .int 0 :: .int 0 :: .ref (v 15) :: .int 0 :: .ref (v 16) :: .int 0 :: .ref (v 17) :: .ref (v 18) :: .int 0 :: .int 0 :: .int 0 :: .int 0 :: .ref (v 19) :: .ref (v 20) :: .ref (v 21) :: .ref (v 22) :: .ref (v 23) :: .ref (v 24) :: .ref (v 25) :: .ref (v 26) :: .ref (v 27) :: .int 0 :: .ref (v 28) :: .ref (v 29) :: .ref (v 30) :: .long 0 :: .int 0 :: .int 0 :: .int 0 :: .long 0 :: .int 0 :: .ref (v 31) :: .int 0 :: .int 0 :: .int 0 :: .int 0 :: .ref (v 32) :: .ref (v 33) :: .ref (v 34) :: [])))]) (wr := [((u 4), .inr (9, [.ref (u 5), .ref (u 6), .ref (u 7), .ref (u 8), .int 0, .ref (u 9), .ref (u 10)])), ((u 28), .inr (7, [.ref (u 29), .ref (u 30), .ref (u 31), .ref (u 32), .int 0, .int 0, .ref (u 33), .ref (u 34), .ref (u 35), .ref (u 4)])), ((u 30), .inl (y 0, 9, .inl nz)), (x, .inr (11, [.ref (u 0), .ref (u 2), .ref (u 4), .ref (u 19), .ref (u 24), .ref (u 28), .ref (u 36), .ref (u 44), .ref (u 52), .ref (u 58), .ref (u 63), .ref (u 64), .ref (u 65), .ref (u 66), .int 1, .null, .int 0]))]) (nr_V (As := [.int x1, .int x3, .int x5, .int x6]) (rest := [.int (-1)]) ⟨hx, hb, hml, hown, hts⟩ (cX12_sheet_1 l D y mm x1 hk2 x3 x5 x6 (v 0) (v 1) (v 2) (v 3) (v 4) (v 5) (v 6) (v 7) (v 8) (v 9) (v 10) (v 11) (v 12) (v 13) (v 14) (v 15) (v 16) (v 17) (v 18) (v 19) (v 20) (v 21) (v 22) (v 23) (v 24) (v 25) (v 26) (v 27) (v 28) (v 29) (v 30) (v 31) (v 32) (v 33) (v 34) H.size) (cwV 4 hts gT_X12_sheet rfl rfl rfl (by decide +kernel) ⟨Nat.le_of_ble_eq_true rfl, Nat.le_of_ble_eq_true rfl⟩) hK hP hD hE [3] rfl (by decide +kernel) 0 12 rfl rfl rfl rfl rfl hl.1 rfl (lv_room (Nat.le_of_ble_eq_true rfl)) dL_law_482 ⟨Nat.le_of_ble_eq_true rfl, Nat.le_of_ble_eq_true rfl⟩) hP hD hS hA [3] [0, 1, 2, 4] rfl rfl (by decide +kernel) (by decide +kernel) (fun r10 u9 H locs er10 hP hD hS => ?_)
      subst er10
      refine lv_icmp_eq (tgt := 1592) hx hb dL_law_485 (by decide +kernel) (fun _ => ?_) (fun c => absurd (by decide +kernel) c)
      refine lv_iinc (v := 5) (lv' := [(4, .int 5), (3, .ref o), (2, .ref mm), (1, .ref x), (0, .ref b)]) hx hb dL_law_1592 hl (k := 0) rfl (by decide +kernel) (by decide +kernel) rfl (fun ls hl => ?_)
      refine lv_goto (tgt := 23) hx hb dL_law_1595 (by decide +kernel) ?_
      refine lv_iload hx hb dL_law_23 (lv_at hl 0 rfl) ?_
      refine lv_aload_n hx hb dL_law_25 rfl (lv_at hl 4 rfl) ?_
      refine va_slen hx hb hX hbl hbA hS dL_law_26 ?_
      refine nv_i (v := 5) rfl ?_
      refine lv_iconst (v := 5) hx hb dL_law_27 (by decide +kernel) ?_
      refine lv_isub hx hb dL_law_28 ?_
      refine nv_i (v := 0) (by decide +kernel) ?_
      refine lv_icmp_gt (tgt := 1598) hx hb dL_law_29 (by decide +kernel) (fun _ => ?_) (fun c => absurd (by decide +kernel) c)
      refine lv_iconst (v := 1) hx hb dL_law_1598 (by decide +kernel) ?_
      refine va_forget (fun q hq => hS.2.2 q hq) ?_
      refine W.widen (k := 600002) (n := 7302232) (Nat.le_of_ble_eq_true rfl) (Nat.le_of_ble_eq_true rfl) ?_
      exact lw_ret hx hb hr hlocks dL_law_1599
    · have hk4x := hk4
      rcases n_cut x3 9 10 (by decide +kernel) with hk11 | hk11
      · have hk11x := hk11
        refine lv_aload_n hx hb dL_law_442 rfl (lv_at hl 4 rfl) ?_
        refine lv_iload hx hb dL_law_443 (lv_at hl 0 rfl) ?_
        refine lv_iconst (v := 3) hx hb dL_law_445 (by decide +kernel) ?_
        refine lv_iadd hx hb dL_law_446 ?_
        refine nv_i (v := 3) (by decide +kernel) ?_
        refine va_sld hx hb hX hbl hbA hS (n_in (by decide +kernel)) dL_law_447 ?_
        refine lv_topi (fun x12 ex12 => ?_)
        refine lv_aload_n hx hb dL_law_448 rfl (lv_at hl 4 rfl) ?_
        refine lv_iload hx hb dL_law_449 (lv_at hl 0 rfl) ?_
        refine lv_iconst (v := 4) hx hb dL_law_451 (by decide +kernel) ?_
        refine lv_iadd hx hb dL_law_452 ?_
        refine nv_i (v := 4) (by decide +kernel) ?_
        refine va_sld hx hb hX hbl hbA hS (n_in (by decide +kernel)) dL_law_453 ?_
        refine lv_topi (fun x13 ex13 => ?_)
        refine nj_i (ws := [(x, .inr (11, [.ref (u 0), .ref (u 2), .ref (u 4), .ref (u 19), .ref (u 24), .ref (u 28), .ref (u 36), .ref (u 44), .ref (u 52), .ref (u 58), .ref (u 63), .ref (u 64), .ref (u 65), .ref (u 66), .int 1, .null, .int 0])), ((u 4), .inr (9, [.ref (u 5), .ref (u 6), .ref (u 7), .ref (u 8), .int 0, .ref (u 9), .ref (u 10)])), ((u 28), .inr (7, [.ref (u 29), .ref (u 30), .ref (u 31), .ref (u 32), .int 0, .int 0, .ref (u 33), .ref (u 34), .ref (u 35), .ref (u 4)])), ((u 30), .inl (y 0, 9, .inl nz)), (mm, .inr (12, (.int 0 :: .ref (v 0) :: .ref (v 1) :: .ref (v 2) :: .ref (v 3) :: .ref (v 4) :: .ref (v 5) :: .ref (v 6) :: .int 0 :: .ref (v 7) :: .int 0 :: .ref (v 8) :: .ref (v 9) :: .int 1 :: .ref (v 10) :: .int 0 :: .ref (v 11) :: .int 0 :: .int 0 :: .null :: .int 0 :: .int 0 :: .int 0 :: .int 0 :: .ref (v 12) :: .ref (v 13) :: .ref (v 14) :: .int (-1) :: .int 0 :: .int 0 :: .int 0 :: .int 0 :: .int 0 :: .int 0 :: .int 0 :: .ref (v 15) :: .int 0 :: .ref (v 16) :: .int 0 :: .ref (v 17) :: .ref (v 18) :: .int 0 :: .int 0 :: .int 0 :: .int 0 :: .ref (v 19) :: .ref (v 20) :: .ref (v 21) :: .ref (v 22) :: .ref (v 23) :: .ref (v 24) :: .ref (v 25) :: .ref (v 26) :: .ref (v 27) :: .int 0 :: .ref (v 28) :: .ref (v 29) :: .ref (v 30) :: .long 0 :: .int 0 :: .int 0 :: .int 0 :: .long 0 :: .int 0 :: .ref (v 31) :: .int 0 :: .int 0 :: .int 0 :: .int 0 :: .ref (v 32) :: .ref (v 33) :: .ref (v 34) :: [])))]) (wc := [(x, .inr (11, [.ref (u 0), .ref (u 2), .ref (u 4), .ref (u 19), .ref (u 24), .ref (u 28), .ref (u 36), .ref (u 44), .ref (u 52), .ref (u 58), .ref (u 63), .ref (u 64), .ref (u 65), .ref (u 66), .int 1, .null, .int 0]))]) (wr := [((u 4), .inr (9, [.ref (u 5), .ref (u 6), .ref (u 7), .ref (u 8), .int 0, .ref (u 9), .ref (u 10)])), ((u 28), .inr (7, [.ref (u 29), .ref (u 30), .ref (u 31), .ref (u 32), .int 0, .int 0, .ref (u 33), .ref (u 34), .ref (u 35), .ref (u 4)])), ((u 30), .inl (y 0, 9, .inl nz)), (mm, .inr (12, (.int 0 :: .ref (v 0) :: .ref (v 1) :: .ref (v 2) :: .ref (v 3) :: .ref (v 4) :: .ref (v 5) :: .ref (v 6) :: .int 0 :: .ref (v 7) :: .int 0 :: .ref (v 8) :: .ref (v 9) :: .int 1 :: .ref (v 10) :: .int 0 :: .ref (v 11) :: .int 0 :: .int 0 :: .null :: .int 0 :: .int 0 :: .int 0 :: .int 0 :: .ref (v 12) :: .ref (v 13) :: .ref (v 14) :: .int (-1) :: .int 0 :: .int 0 :: .int 0 :: .int 0 :: .int 0 :: .int 0 :: .int 0 :: .ref (v 15) :: .int 0 :: .ref (v 16) :: .int 0 :: .ref (v 17) :: .ref (v 18) :: .int 0 :: .int 0 :: .int 0 :: .int 0 :: .ref (v 19) :: .ref (v 20) :: .ref (v 21) :: .ref (v 22) :: .ref (v 23) :: .ref (v 24) :: .ref (v 25) :: .ref (v 26) :: .ref (v 27) :: .int 0 :: .ref (v 28) :: .ref (v 29) :: .ref (v 30) :: .long 0 :: .int 0 :: .int 0 :: .int 0 :: .long 0 :: .int 0 :: .ref (v 31) :: .int 0 :: .int 0 :: .int 0 :: .int 0 :: .ref (v 32) :: .ref (v 33) :: .ref (v 34) :: [])))]) (nr_V (As := [.int x1, .int x3, .int x12, .int x13]) (rest := []) ⟨hx, hb, hml, hown, hts⟩ (cX11_sheet_1 l D y x x1 hk2 x3 x12 x13 (u 0) (u 2) (u 4) (u 19) (u 24) (u 28) (u 36) (u 44) (u 52) (u 58) (u 63) (u 64) (u 65) (u 66) H.size) (cwV 4 hts gT_X11_sheet rfl rfl rfl (by decide +kernel) ⟨Nat.le_of_ble_eq_true rfl, Nat.le_of_ble_eq_true rfl⟩) hK hP hD hE [0] rfl (by decide +kernel) 0 11 rfl rfl rfl rfl rfl hl.1 rfl (lv_room (Nat.le_of_ble_eq_true rfl)) dL_law_454 ⟨Nat.le_of_ble_eq_true rfl, Nat.le_of_ble_eq_true rfl⟩) hP hD hS hA [0] [1, 2, 3, 4] rfl rfl (by decide +kernel) (by decide +kernel) (fun r15 u14 H locs er15 hP hD hS => ?_)
        subst er15
        refine lv_aload_n hx hb dL_law_457 rfl (lv_at hl 2 rfl) ?_
        refine lv_aload_n hx hb dL_law_458 rfl (lv_at hl 4 rfl) ?_
        refine lv_iload hx hb dL_law_459 (lv_at hl 0 rfl) ?_
        refine lv_iconst (v := 1) hx hb dL_law_461 (by decide +kernel) ?_
        refine lv_iadd hx hb dL_law_462 ?_
        refine nv_i (v := 1) (by decide +kernel) ?_
        refine va_sld hx hb hX hbl hbA hS (n_in (by decide +kernel)) dL_law_463 ?_
        refine nv_i (v := x1) (ex1).symm ?_
        refine lv_aload_n hx hb dL_law_464 rfl (lv_at hl 4 rfl) ?_
        refine lv_iload hx hb dL_law_465 (lv_at hl 0 rfl) ?_
        refine lv_iconst (v := 2) hx hb dL_law_467 (by decide +kernel) ?_
        refine lv_iadd hx hb dL_law_468 ?_
        refine nv_i (v := 2) (by decide +kernel) ?_
        refine va_sld hx hb hX hbl hbA hS (n_in (by decide +kernel)) dL_law_469 ?_
        refine nv_i (v := x3) (ex3).symm ?_
        refine lv_aload_n hx hb dL_law_470 rfl (lv_at hl 4 rfl) ?_
        refine lv_iload hx hb dL_law_471 (lv_at hl 0 rfl) ?_
        refine lv_iconst (v := 3) hx hb dL_law_473 (by decide +kernel) ?_
        refine lv_iadd hx hb dL_law_474 ?_
        refine nv_i (v := 3) (by decide +kernel) ?_
        refine va_sld hx hb hX hbl hbA hS (n_in (by decide +kernel)) dL_law_475 ?_
        refine nv_i (v := x12) (ex12).symm ?_
        refine lv_aload_n hx hb dL_law_476 rfl (lv_at hl 4 rfl) ?_
        refine lv_iload hx hb dL_law_477 (lv_at hl 0 rfl) ?_
        refine lv_iconst (v := 4) hx hb dL_law_479 (by decide +kernel) ?_
        refine lv_iadd hx hb dL_law_480 ?_
        refine nv_i (v := 4) (by decide +kernel) ?_
        refine va_sld hx hb hX hbl hbA hS (n_in (by decide +kernel)) dL_law_481 ?_
        refine nv_i (v := x13) (ex13).symm ?_
        refine nj_i (ws := [((u 4), .inr (9, [.ref (u 5), .ref (u 6), .ref (u 7), .ref (u 8), .int 0, .ref (u 9), .ref (u 10)])), ((u 28), .inr (7, [.ref (u 29), .ref (u 30), .ref (u 31), .ref (u 32), .int 0, .int 0, .ref (u 33), .ref (u 34), .ref (u 35), .ref (u 4)])), ((u 30), .inl (y 0, 9, .inl nz)), (mm, .inr (12, (.int 0 :: .ref (v 0) :: .ref (v 1) :: .ref (v 2) :: .ref (v 3) :: .ref (v 4) :: .ref (v 5) :: .ref (v 6) :: .int 0 :: .ref (v 7) :: .int 0 :: .ref (v 8) :: .ref (v 9) :: .int 1 :: .ref (v 10) :: .int 0 :: .ref (v 11) :: .int 0 :: .int 0 :: .null :: .int 0 :: .int 0 :: .int 0 :: .int 0 :: .ref (v 12) :: .ref (v 13) :: .ref (v 14) :: .int (-1) :: .int 0 :: .int 0 :: .int 0 :: .int 0 :: .int 0 :: .int 0 :: .int 0 :: .ref (v 15) :: .int 0 :: .ref (v 16) :: .int 0 :: .ref (v 17) :: .ref (v 18) :: .int 0 :: .int 0 :: .int 0 :: .int 0 :: .ref (v 19) :: .ref (v 20) :: .ref (v 21) :: .ref (v 22) :: .ref (v 23) :: .ref (v 24) :: .ref (v 25) :: .ref (v 26) :: .ref (v 27) :: .int 0 :: .ref (v 28) :: .ref (v 29) :: .ref (v 30) :: .long 0 :: .int 0 :: .int 0 :: .int 0 :: .long 0 :: .int 0 :: .ref (v 31) :: .int 0 :: .int 0 :: .int 0 :: .int 0 :: .ref (v 32) :: .ref (v 33) :: .ref (v 34) :: []))), (x, .inr (11, [.ref (u 0), .ref (u 2), .ref (u 4), .ref (u 19), .ref (u 24), .ref (u 28), .ref (u 36), .ref (u 44), .ref (u 52), .ref (u 58), .ref (u 63), .ref (u 64), .ref (u 65), .ref (u 66), .int 1, .null, .int 0]))]) (wc := [(mm, .inr (12, (.int 0 :: .ref (v 0) :: .ref (v 1) :: .ref (v 2) :: .ref (v 3) :: .ref (v 4) :: .ref (v 5) :: .ref (v 6) :: .int 0 :: .ref (v 7) :: .int 0 :: .ref (v 8) :: .ref (v 9) :: .int 1 :: .ref (v 10) :: .int 0 :: .ref (v 11) :: .int 0 :: .int 0 :: .null :: .int 0 :: .int 0 :: .int 0 :: .int 0 :: .ref (v 12) :: .ref (v 13) :: .ref (v 14) :: .int (-1) :: .int 0 :: .int 0 :: .int 0 :: .int 0 :: .int 0 :: .int 0 :: .int 0 :: .ref (v 15) :: .int 0 :: .ref (v 16) :: .int 0 :: .ref (v 17) :: .ref (v 18) :: .int 0 :: .int 0 :: .int 0 :: .int 0 :: .ref (v 19) :: .ref (v 20) :: .ref (v 21) :: .ref (v 22) :: .ref (v 23) :: .ref (v 24) :: .ref (v 25) :: .ref (v 26) :: .ref (v 27) :: .int 0 :: .ref (v 28) :: .ref (v 29) :: .ref (v 30) :: .long 0 :: .int 0 :: .int 0 :: .int 0 :: .long 0 :: .int 0 :: .ref (v 31) :: .int 0 :: .int 0 :: .int 0 :: .int 0 :: .ref (v 32) :: .ref (v 33) :: .ref (v 34) :: [])))]) (wr := [((u 4), .inr (9, [.ref (u 5), .ref (u 6), .ref (u 7), .ref (u 8), .int 0, .ref (u 9), .ref (u 10)])), ((u 28), .inr (7, [.ref (u 29), .ref (u 30), .ref (u 31), .ref (u 32), .int 0, .int 0, .ref (u 33), .ref (u 34), .ref (u 35), .ref (u 4)])), ((u 30), .inl (y 0, 9, .inl nz)), (x, .inr (11, [.ref (u 0), .ref (u 2), .ref (u 4), .ref (u 19), .ref (u 24), .ref (u 28), .ref (u 36), .ref (u 44), .ref (u 52), .ref (u 58), .ref (u 63), .ref (u 64), .ref (u 65), .ref (u 66), .int 1, .null, .int 0]))]) (nr_V (As := [.int x1, .int x3, .int x12, .int x13]) (rest := [.int (-1)]) ⟨hx, hb, hml, hown, hts⟩ (cX12_sheet_1 l D y mm x1 hk2 x3 x12 x13 (v 0) (v 1) (v 2) (v 3) (v 4) (v 5) (v 6) (v 7) (v 8) (v 9) (v 10) (v 11) (v 12) (v 13) (v 14) (v 15) (v 16) (v 17) (v 18) (v 19) (v 20) (v 21) (v 22) (v 23) (v 24) (v 25) (v 26) (v 27) (v 28) (v 29) (v 30) (v 31) (v 32) (v 33) (v 34) H.size) (cwV 4 hts gT_X12_sheet rfl rfl rfl (by decide +kernel) ⟨Nat.le_of_ble_eq_true rfl, Nat.le_of_ble_eq_true rfl⟩) hK hP hD hE [3] rfl (by decide +kernel) 0 12 rfl rfl rfl rfl rfl hl.1 rfl (lv_room (Nat.le_of_ble_eq_true rfl)) dL_law_482 ⟨Nat.le_of_ble_eq_true rfl, Nat.le_of_ble_eq_true rfl⟩) hP hD hS hA [3] [0, 1, 2, 4] rfl rfl (by decide +kernel) (by decide +kernel) (fun r17 u16 H locs er17 hP hD hS => ?_)
        subst er17
        refine lv_icmp_eq (tgt := 1592) hx hb dL_law_485 (by decide +kernel) (fun _ => ?_) (fun c => absurd (by decide +kernel) c)
        refine lv_iinc (v := 5) (lv' := [(4, .int 5), (3, .ref o), (2, .ref mm), (1, .ref x), (0, .ref b)]) hx hb dL_law_1592 hl (k := 0) rfl (by decide +kernel) (by decide +kernel) rfl (fun ls hl => ?_)
        refine lv_goto (tgt := 23) hx hb dL_law_1595 (by decide +kernel) ?_
        refine lv_iload hx hb dL_law_23 (lv_at hl 0 rfl) ?_
        refine lv_aload_n hx hb dL_law_25 rfl (lv_at hl 4 rfl) ?_
        refine va_slen hx hb hX hbl hbA hS dL_law_26 ?_
        refine nv_i (v := 5) rfl ?_
        refine lv_iconst (v := 5) hx hb dL_law_27 (by decide +kernel) ?_
        refine lv_isub hx hb dL_law_28 ?_
        refine nv_i (v := 0) (by decide +kernel) ?_
        refine lv_icmp_gt (tgt := 1598) hx hb dL_law_29 (by decide +kernel) (fun _ => ?_) (fun c => absurd (by decide +kernel) c)
        refine lv_iconst (v := 1) hx hb dL_law_1598 (by decide +kernel) ?_
        refine va_forget (fun q hq => hS.2.2 q hq) ?_
        refine W.widen (k := 600002) (n := 7302232) (Nat.le_of_ble_eq_true rfl) (Nat.le_of_ble_eq_true rfl) ?_
        exact lw_ret hx hb hr hlocks dL_law_1599
      · have hk11x := hk11
        refine lv_aload_n hx hb dL_law_442 rfl (lv_at hl 4 rfl) ?_
        refine lv_iload hx hb dL_law_443 (lv_at hl 0 rfl) ?_
        refine lv_iconst (v := 3) hx hb dL_law_445 (by decide +kernel) ?_
        refine lv_iadd hx hb dL_law_446 ?_
        refine nv_i (v := 3) (by decide +kernel) ?_
        refine va_sld hx hb hX hbl hbA hS (n_in (by decide +kernel)) dL_law_447 ?_
        refine lv_topi (fun x18 ex18 => ?_)
        refine lv_aload_n hx hb dL_law_448 rfl (lv_at hl 4 rfl) ?_
        refine lv_iload hx hb dL_law_449 (lv_at hl 0 rfl) ?_
        refine lv_iconst (v := 4) hx hb dL_law_451 (by decide +kernel) ?_
        refine lv_iadd hx hb dL_law_452 ?_
        refine nv_i (v := 4) (by decide +kernel) ?_
        refine va_sld hx hb hX hbl hbA hS (n_in (by decide +kernel)) dL_law_453 ?_
        refine lv_topi (fun x19 ex19 => ?_)
        refine nj_i (ws := [(x, .inr (11, [.ref (u 0), .ref (u 2), .ref (u 4), .ref (u 19), .ref (u 24), .ref (u 28), .ref (u 36), .ref (u 44), .ref (u 52), .ref (u 58), .ref (u 63), .ref (u 64), .ref (u 65), .ref (u 66), .int 1, .null, .int 0])), ((u 4), .inr (9, [.ref (u 5), .ref (u 6), .ref (u 7), .ref (u 8), .int 0, .ref (u 9), .ref (u 10)])), ((u 28), .inr (7, [.ref (u 29), .ref (u 30), .ref (u 31), .ref (u 32), .int 0, .int 0, .ref (u 33), .ref (u 34), .ref (u 35), .ref (u 4)])), ((u 30), .inl (y 0, 9, .inl nz)), (mm, .inr (12, (.int 0 :: .ref (v 0) :: .ref (v 1) :: .ref (v 2) :: .ref (v 3) :: .ref (v 4) :: .ref (v 5) :: .ref (v 6) :: .int 0 :: .ref (v 7) :: .int 0 :: .ref (v 8) :: .ref (v 9) :: .int 1 :: .ref (v 10) :: .int 0 :: .ref (v 11) :: .int 0 :: .int 0 :: .null :: .int 0 :: .int 0 :: .int 0 :: .int 0 :: .ref (v 12) :: .ref (v 13) :: .ref (v 14) :: .int (-1) :: .int 0 :: .int 0 :: .int 0 :: .int 0 :: .int 0 :: .int 0 :: .int 0 :: .ref (v 15) :: .int 0 :: .ref (v 16) :: .int 0 :: .ref (v 17) :: .ref (v 18) :: .int 0 :: .int 0 :: .int 0 :: .int 0 :: .ref (v 19) :: .ref (v 20) :: .ref (v 21) :: .ref (v 22) :: .ref (v 23) :: .ref (v 24) :: .ref (v 25) :: .ref (v 26) :: .ref (v 27) :: .int 0 :: .ref (v 28) :: .ref (v 29) :: .ref (v 30) :: .long 0 :: .int 0 :: .int 0 :: .int 0 :: .long 0 :: .int 0 :: .ref (v 31) :: .int 0 :: .int 0 :: .int 0 :: .int 0 :: .ref (v 32) :: .ref (v 33) :: .ref (v 34) :: [])))]) (wc := [(x, .inr (11, [.ref (u 0), .ref (u 2), .ref (u 4), .ref (u 19), .ref (u 24), .ref (u 28), .ref (u 36), .ref (u 44), .ref (u 52), .ref (u 58), .ref (u 63), .ref (u 64), .ref (u 65), .ref (u 66), .int 1, .null, .int 0]))]) (wr := [((u 4), .inr (9, [.ref (u 5), .ref (u 6), .ref (u 7), .ref (u 8), .int 0, .ref (u 9), .ref (u 10)])), ((u 28), .inr (7, [.ref (u 29), .ref (u 30), .ref (u 31), .ref (u 32), .int 0, .int 0, .ref (u 33), .ref (u 34), .ref (u 35), .ref (u 4)])), ((u 30), .inl (y 0, 9, .inl nz)), (mm, .inr (12, (.int 0 :: .ref (v 0) :: .ref (v 1) :: .ref (v 2) :: .ref (v 3) :: .ref (v 4) :: .ref (v 5) :: .ref (v 6) :: .int 0 :: .ref (v 7) :: .int 0 :: .ref (v 8) :: .ref (v 9) :: .int 1 :: .ref (v 10) :: .int 0 :: .ref (v 11) :: .int 0 :: .int 0 :: .null :: .int 0 :: .int 0 :: .int 0 :: .int 0 :: .ref (v 12) :: .ref (v 13) :: .ref (v 14) :: .int (-1) :: .int 0 :: .int 0 :: .int 0 :: .int 0 :: .int 0 :: .int 0 :: .int 0 :: .ref (v 15) :: .int 0 :: .ref (v 16) :: .int 0 :: .ref (v 17) :: .ref (v 18) :: .int 0 :: .int 0 :: .int 0 :: .int 0 :: .ref (v 19) :: .ref (v 20) :: .ref (v 21) :: .ref (v 22) :: .ref (v 23) :: .ref (v 24) :: .ref (v 25) :: .ref (v 26) :: .ref (v 27) :: .int 0 :: .ref (v 28) :: .ref (v 29) :: .ref (v 30) :: .long 0 :: .int 0 :: .int 0 :: .int 0 :: .long 0 :: .int 0 :: .ref (v 31) :: .int 0 :: .int 0 :: .int 0 :: .int 0 :: .ref (v 32) :: .ref (v 33) :: .ref (v 34) :: [])))]) (nr_V (As := [.int x1, .int x3, .int x18, .int x19]) (rest := []) ⟨hx, hb, hml, hown, hts⟩ (cX11_sheet_1 l D y x x1 hk2 x3 x18 x19 (u 0) (u 2) (u 4) (u 19) (u 24) (u 28) (u 36) (u 44) (u 52) (u 58) (u 63) (u 64) (u 65) (u 66) H.size) (cwV 4 hts gT_X11_sheet rfl rfl rfl (by decide +kernel) ⟨Nat.le_of_ble_eq_true rfl, Nat.le_of_ble_eq_true rfl⟩) hK hP hD hE [0] rfl (by decide +kernel) 0 11 rfl rfl rfl rfl rfl hl.1 rfl (lv_room (Nat.le_of_ble_eq_true rfl)) dL_law_454 ⟨Nat.le_of_ble_eq_true rfl, Nat.le_of_ble_eq_true rfl⟩) hP hD hS hA [0] [1, 2, 3, 4] rfl rfl (by decide +kernel) (by decide +kernel) (fun r21 u20 H locs er21 hP hD hS => ?_)
        subst er21
        refine lv_aload_n hx hb dL_law_457 rfl (lv_at hl 2 rfl) ?_
        refine lv_aload_n hx hb dL_law_458 rfl (lv_at hl 4 rfl) ?_
        refine lv_iload hx hb dL_law_459 (lv_at hl 0 rfl) ?_
        refine lv_iconst (v := 1) hx hb dL_law_461 (by decide +kernel) ?_
        refine lv_iadd hx hb dL_law_462 ?_
        refine nv_i (v := 1) (by decide +kernel) ?_
        refine va_sld hx hb hX hbl hbA hS (n_in (by decide +kernel)) dL_law_463 ?_
        refine nv_i (v := x1) (ex1).symm ?_
        refine lv_aload_n hx hb dL_law_464 rfl (lv_at hl 4 rfl) ?_
        refine lv_iload hx hb dL_law_465 (lv_at hl 0 rfl) ?_
        refine lv_iconst (v := 2) hx hb dL_law_467 (by decide +kernel) ?_
        refine lv_iadd hx hb dL_law_468 ?_
        refine nv_i (v := 2) (by decide +kernel) ?_
        refine va_sld hx hb hX hbl hbA hS (n_in (by decide +kernel)) dL_law_469 ?_
        refine nv_i (v := x3) (ex3).symm ?_
        refine lv_aload_n hx hb dL_law_470 rfl (lv_at hl 4 rfl) ?_
        refine lv_iload hx hb dL_law_471 (lv_at hl 0 rfl) ?_
        refine lv_iconst (v := 3) hx hb dL_law_473 (by decide +kernel) ?_
        refine lv_iadd hx hb dL_law_474 ?_
        refine nv_i (v := 3) (by decide +kernel) ?_
        refine va_sld hx hb hX hbl hbA hS (n_in (by decide +kernel)) dL_law_475 ?_
        refine nv_i (v := x18) (ex18).symm ?_
        refine lv_aload_n hx hb dL_law_476 rfl (lv_at hl 4 rfl) ?_
        refine lv_iload hx hb dL_law_477 (lv_at hl 0 rfl) ?_
        refine lv_iconst (v := 4) hx hb dL_law_479 (by decide +kernel) ?_
        refine lv_iadd hx hb dL_law_480 ?_
        refine nv_i (v := 4) (by decide +kernel) ?_
        refine va_sld hx hb hX hbl hbA hS (n_in (by decide +kernel)) dL_law_481 ?_
        refine nv_i (v := x19) (ex19).symm ?_
        refine nj_i (ws := [((u 4), .inr (9, [.ref (u 5), .ref (u 6), .ref (u 7), .ref (u 8), .int 0, .ref (u 9), .ref (u 10)])), ((u 28), .inr (7, [.ref (u 29), .ref (u 30), .ref (u 31), .ref (u 32), .int 0, .int 0, .ref (u 33), .ref (u 34), .ref (u 35), .ref (u 4)])), ((u 30), .inl (y 0, 9, .inl nz)), (mm, .inr (12, (.int 0 :: .ref (v 0) :: .ref (v 1) :: .ref (v 2) :: .ref (v 3) :: .ref (v 4) :: .ref (v 5) :: .ref (v 6) :: .int 0 :: .ref (v 7) :: .int 0 :: .ref (v 8) :: .ref (v 9) :: .int 1 :: .ref (v 10) :: .int 0 :: .ref (v 11) :: .int 0 :: .int 0 :: .null :: .int 0 :: .int 0 :: .int 0 :: .int 0 :: .ref (v 12) :: .ref (v 13) :: .ref (v 14) :: .int (-1) :: .int 0 :: .int 0 :: .int 0 :: .int 0 :: .int 0 :: .int 0 :: .int 0 :: .ref (v 15) :: .int 0 :: .ref (v 16) :: .int 0 :: .ref (v 17) :: .ref (v 18) :: .int 0 :: .int 0 :: .int 0 :: .int 0 :: .ref (v 19) :: .ref (v 20) :: .ref (v 21) :: .ref (v 22) :: .ref (v 23) :: .ref (v 24) :: .ref (v 25) :: .ref (v 26) :: .ref (v 27) :: .int 0 :: .ref (v 28) :: .ref (v 29) :: .ref (v 30) :: .long 0 :: .int 0 :: .int 0 :: .int 0 :: .long 0 :: .int 0 :: .ref (v 31) :: .int 0 :: .int 0 :: .int 0 :: .int 0 :: .ref (v 32) :: .ref (v 33) :: .ref (v 34) :: []))), (x, .inr (11, [.ref (u 0), .ref (u 2), .ref (u 4), .ref (u 19), .ref (u 24), .ref (u 28), .ref (u 36), .ref (u 44), .ref (u 52), .ref (u 58), .ref (u 63), .ref (u 64), .ref (u 65), .ref (u 66), .int 1, .null, .int 0]))]) (wc := [(mm, .inr (12, (.int 0 :: .ref (v 0) :: .ref (v 1) :: .ref (v 2) :: .ref (v 3) :: .ref (v 4) :: .ref (v 5) :: .ref (v 6) :: .int 0 :: .ref (v 7) :: .int 0 :: .ref (v 8) :: .ref (v 9) :: .int 1 :: .ref (v 10) :: .int 0 :: .ref (v 11) :: .int 0 :: .int 0 :: .null :: .int 0 :: .int 0 :: .int 0 :: .int 0 :: .ref (v 12) :: .ref (v 13) :: .ref (v 14) :: .int (-1) :: .int 0 :: .int 0 :: .int 0 :: .int 0 :: .int 0 :: .int 0 :: .int 0 :: .ref (v 15) :: .int 0 :: .ref (v 16) :: .int 0 :: .ref (v 17) :: .ref (v 18) :: .int 0 :: .int 0 :: .int 0 :: .int 0 :: .ref (v 19) :: .ref (v 20) :: .ref (v 21) :: .ref (v 22) :: .ref (v 23) :: .ref (v 24) :: .ref (v 25) :: .ref (v 26) :: .ref (v 27) :: .int 0 :: .ref (v 28) :: .ref (v 29) :: .ref (v 30) :: .long 0 :: .int 0 :: .int 0 :: .int 0 :: .long 0 :: .int 0 :: .ref (v 31) :: .int 0 :: .int 0 :: .int 0 :: .int 0 :: .ref (v 32) :: .ref (v 33) :: .ref (v 34) :: [])))]) (wr := [((u 4), .inr (9, [.ref (u 5), .ref (u 6), .ref (u 7), .ref (u 8), .int 0, .ref (u 9), .ref (u 10)])), ((u 28), .inr (7, [.ref (u 29), .ref (u 30), .ref (u 31), .ref (u 32), .int 0, .int 0, .ref (u 33), .ref (u 34), .ref (u 35), .ref (u 4)])), ((u 30), .inl (y 0, 9, .inl nz)), (x, .inr (11, [.ref (u 0), .ref (u 2), .ref (u 4), .ref (u 19), .ref (u 24), .ref (u 28), .ref (u 36), .ref (u 44), .ref (u 52), .ref (u 58), .ref (u 63), .ref (u 64), .ref (u 65), .ref (u 66), .int 1, .null, .int 0]))]) (nr_V (As := [.int x1, .int x3, .int x18, .int x19]) (rest := [.int (-1)]) ⟨hx, hb, hml, hown, hts⟩ (cX12_sheet_1 l D y mm x1 hk2 x3 x18 x19 (v 0) (v 1) (v 2) (v 3) (v 4) (v 5) (v 6) (v 7) (v 8) (v 9) (v 10) (v 11) (v 12) (v 13) (v 14) (v 15) (v 16) (v 17) (v 18) (v 19) (v 20) (v 21) (v 22) (v 23) (v 24) (v 25) (v 26) (v 27) (v 28) (v 29) (v 30) (v 31) (v 32) (v 33) (v 34) H.size) (cwV 4 hts gT_X12_sheet rfl rfl rfl (by decide +kernel) ⟨Nat.le_of_ble_eq_true rfl, Nat.le_of_ble_eq_true rfl⟩) hK hP hD hE [3] rfl (by decide +kernel) 0 12 rfl rfl rfl rfl rfl hl.1 rfl (lv_room (Nat.le_of_ble_eq_true rfl)) dL_law_482 ⟨Nat.le_of_ble_eq_true rfl, Nat.le_of_ble_eq_true rfl⟩) hP hD hS hA [3] [0, 1, 2, 4] rfl rfl (by decide +kernel) (by decide +kernel) (fun r23 u22 H locs er23 hP hD hS => ?_)
        subst er23
        refine lv_icmp_eq (tgt := 1592) hx hb dL_law_485 (by decide +kernel) (fun _ => ?_) (fun c => absurd (by decide +kernel) c)
        refine lv_iinc (v := 5) (lv' := [(4, .int 5), (3, .ref o), (2, .ref mm), (1, .ref x), (0, .ref b)]) hx hb dL_law_1592 hl (k := 0) rfl (by decide +kernel) (by decide +kernel) rfl (fun ls hl => ?_)
        refine lv_goto (tgt := 23) hx hb dL_law_1595 (by decide +kernel) ?_
        refine lv_iload hx hb dL_law_23 (lv_at hl 0 rfl) ?_
        refine lv_aload_n hx hb dL_law_25 rfl (lv_at hl 4 rfl) ?_
        refine va_slen hx hb hX hbl hbA hS dL_law_26 ?_
        refine nv_i (v := 5) rfl ?_
        refine lv_iconst (v := 5) hx hb dL_law_27 (by decide +kernel) ?_
        refine lv_isub hx hb dL_law_28 ?_
        refine nv_i (v := 0) (by decide +kernel) ?_
        refine lv_icmp_gt (tgt := 1598) hx hb dL_law_29 (by decide +kernel) (fun _ => ?_) (fun c => absurd (by decide +kernel) c)
        refine lv_iconst (v := 1) hx hb dL_law_1598 (by decide +kernel) ?_
        refine va_forget (fun q hq => hS.2.2 q hq) ?_
        refine W.widen (k := 600002) (n := 7302232) (Nat.le_of_ble_eq_true rfl) (Nat.le_of_ble_eq_true rfl) ?_
        exact lw_ret hx hb hr hlocks dL_law_1599
  · have hk2x := hk2
    rcases n_cut x1 2 3 (by decide +kernel) with hk24 | hk24
    · have hk24x := hk24
      refine lv_aload_n hx hb dL_law_436 rfl (lv_at hl 4 rfl) ?_
      refine lv_iload hx hb dL_law_437 (lv_at hl 0 rfl) ?_
      refine lv_iconst (v := 2) hx hb dL_law_439 (by decide +kernel) ?_
      refine lv_iadd hx hb dL_law_440 ?_
      refine nv_i (v := 2) (by decide +kernel) ?_
      refine va_sld hx hb hX hbl hbA hS (n_in (by decide +kernel)) dL_law_441 ?_
      refine lv_topi (fun x25 ex25 => ?_)
      rcases n_cut x25 (-1) 0 (by decide +kernel) with hk26 | hk26
      · have hk26x := hk26
        refine lv_aload_n hx hb dL_law_442 rfl (lv_at hl 4 rfl) ?_
        refine lv_iload hx hb dL_law_443 (lv_at hl 0 rfl) ?_
        refine lv_iconst (v := 3) hx hb dL_law_445 (by decide +kernel) ?_
        refine lv_iadd hx hb dL_law_446 ?_
        refine nv_i (v := 3) (by decide +kernel) ?_
        refine va_sld hx hb hX hbl hbA hS (n_in (by decide +kernel)) dL_law_447 ?_
        refine lv_topi (fun x27 ex27 => ?_)
        refine lv_aload_n hx hb dL_law_448 rfl (lv_at hl 4 rfl) ?_
        refine lv_iload hx hb dL_law_449 (lv_at hl 0 rfl) ?_
        refine lv_iconst (v := 4) hx hb dL_law_451 (by decide +kernel) ?_
        refine lv_iadd hx hb dL_law_452 ?_
        refine nv_i (v := 4) (by decide +kernel) ?_
        refine va_sld hx hb hX hbl hbA hS (n_in (by decide +kernel)) dL_law_453 ?_
        refine lv_topi (fun x28 ex28 => ?_)
        refine nj_i (ws := [(x, .inr (11, [.ref (u 0), .ref (u 2), .ref (u 4), .ref (u 19), .ref (u 24), .ref (u 28), .ref (u 36), .ref (u 44), .ref (u 52), .ref (u 58), .ref (u 63), .ref (u 64), .ref (u 65), .ref (u 66), .int 1, .null, .int 0])), ((u 4), .inr (9, [.ref (u 5), .ref (u 6), .ref (u 7), .ref (u 8), .int 0, .ref (u 9), .ref (u 10)])), ((u 28), .inr (7, [.ref (u 29), .ref (u 30), .ref (u 31), .ref (u 32), .int 0, .int 0, .ref (u 33), .ref (u 34), .ref (u 35), .ref (u 4)])), ((u 30), .inl (y 0, 9, .inl nz)), (mm, .inr (12, (.int 0 :: .ref (v 0) :: .ref (v 1) :: .ref (v 2) :: .ref (v 3) :: .ref (v 4) :: .ref (v 5) :: .ref (v 6) :: .int 0 :: .ref (v 7) :: .int 0 :: .ref (v 8) :: .ref (v 9) :: .int 1 :: .ref (v 10) :: .int 0 :: .ref (v 11) :: .int 0 :: .int 0 :: .null :: .int 0 :: .int 0 :: .int 0 :: .int 0 :: .ref (v 12) :: .ref (v 13) :: .ref (v 14) :: .int (-1) :: .int 0 :: .int 0 :: .int 0 :: .int 0 :: .int 0 :: .int 0 :: .int 0 :: .ref (v 15) :: .int 0 :: .ref (v 16) :: .int 0 :: .ref (v 17) :: .ref (v 18) :: .int 0 :: .int 0 :: .int 0 :: .int 0 :: .ref (v 19) :: .ref (v 20) :: .ref (v 21) :: .ref (v 22) :: .ref (v 23) :: .ref (v 24) :: .ref (v 25) :: .ref (v 26) :: .ref (v 27) :: .int 0 :: .ref (v 28) :: .ref (v 29) :: .ref (v 30) :: .long 0 :: .int 0 :: .int 0 :: .int 0 :: .long 0 :: .int 0 :: .ref (v 31) :: .int 0 :: .int 0 :: .int 0 :: .int 0 :: .ref (v 32) :: .ref (v 33) :: .ref (v 34) :: [])))]) (wc := [(x, .inr (11, [.ref (u 0), .ref (u 2), .ref (u 4), .ref (u 19), .ref (u 24), .ref (u 28), .ref (u 36), .ref (u 44), .ref (u 52), .ref (u 58), .ref (u 63), .ref (u 64), .ref (u 65), .ref (u 66), .int 1, .null, .int 0]))]) (wr := [((u 4), .inr (9, [.ref (u 5), .ref (u 6), .ref (u 7), .ref (u 8), .int 0, .ref (u 9), .ref (u 10)])), ((u 28), .inr (7, [.ref (u 29), .ref (u 30), .ref (u 31), .ref (u 32), .int 0, .int 0, .ref (u 33), .ref (u 34), .ref (u 35), .ref (u 4)])), ((u 30), .inl (y 0, 9, .inl nz)), (mm, .inr (12, (.int 0 :: .ref (v 0) :: .ref (v 1) :: .ref (v 2) :: .ref (v 3) :: .ref (v 4) :: .ref (v 5) :: .ref (v 6) :: .int 0 :: .ref (v 7) :: .int 0 :: .ref (v 8) :: .ref (v 9) :: .int 1 :: .ref (v 10) :: .int 0 :: .ref (v 11) :: .int 0 :: .int 0 :: .null :: .int 0 :: .int 0 :: .int 0 :: .int 0 :: .ref (v 12) :: .ref (v 13) :: .ref (v 14) :: .int (-1) :: .int 0 :: .int 0 :: .int 0 :: .int 0 :: .int 0 :: .int 0 :: .int 0 :: .ref (v 15) :: .int 0 :: .ref (v 16) :: .int 0 :: .ref (v 17) :: .ref (v 18) :: .int 0 :: .int 0 :: .int 0 :: .int 0 :: .ref (v 19) :: .ref (v 20) :: .ref (v 21) :: .ref (v 22) :: .ref (v 23) :: .ref (v 24) :: .ref (v 25) :: .ref (v 26) :: .ref (v 27) :: .int 0 :: .ref (v 28) :: .ref (v 29) :: .ref (v 30) :: .long 0 :: .int 0 :: .int 0 :: .int 0 :: .long 0 :: .int 0 :: .ref (v 31) :: .int 0 :: .int 0 :: .int 0 :: .int 0 :: .ref (v 32) :: .ref (v 33) :: .ref (v 34) :: [])))]) (nr_V (As := [.int x1, .int x25, .int x27, .int x28]) (rest := []) ⟨hx, hb, hml, hown, hts⟩ (cX11_sheet_5 l D y x x1 hk2 hk24 x25 hk26 x27 x28 (u 0) (u 2) (u 4) (u 19) (u 24) (u 28) (u 36) (u 44) (u 52) (u 58) (u 63) (u 64) (u 65) (u 66) H.size) (cwV 4 hts gT_X11_sheet rfl rfl rfl (by decide +kernel) ⟨Nat.le_of_ble_eq_true rfl, Nat.le_of_ble_eq_true rfl⟩) hK hP hD hE [0] rfl (by decide +kernel) 0 11 rfl rfl rfl rfl rfl hl.1 rfl (lv_room (Nat.le_of_ble_eq_true rfl)) dL_law_454 ⟨Nat.le_of_ble_eq_true rfl, Nat.le_of_ble_eq_true rfl⟩) hP hD hS hA [0] [1, 2, 3, 4] rfl rfl (by decide +kernel) (by decide +kernel) (fun r30 u29 H locs er30 hP hD hS => ?_)
        subst er30
        refine lv_aload_n hx hb dL_law_457 rfl (lv_at hl 2 rfl) ?_
        refine lv_aload_n hx hb dL_law_458 rfl (lv_at hl 4 rfl) ?_
        refine lv_iload hx hb dL_law_459 (lv_at hl 0 rfl) ?_
        refine lv_iconst (v := 1) hx hb dL_law_461 (by decide +kernel) ?_
        refine lv_iadd hx hb dL_law_462 ?_
        refine nv_i (v := 1) (by decide +kernel) ?_
        refine va_sld hx hb hX hbl hbA hS (n_in (by decide +kernel)) dL_law_463 ?_
        refine nv_i (v := x1) (ex1).symm ?_
        refine lv_aload_n hx hb dL_law_464 rfl (lv_at hl 4 rfl) ?_
        refine lv_iload hx hb dL_law_465 (lv_at hl 0 rfl) ?_
        refine lv_iconst (v := 2) hx hb dL_law_467 (by decide +kernel) ?_
        refine lv_iadd hx hb dL_law_468 ?_
        refine nv_i (v := 2) (by decide +kernel) ?_
        refine va_sld hx hb hX hbl hbA hS (n_in (by decide +kernel)) dL_law_469 ?_
        refine nv_i (v := x25) (ex25).symm ?_
        refine lv_aload_n hx hb dL_law_470 rfl (lv_at hl 4 rfl) ?_
        refine lv_iload hx hb dL_law_471 (lv_at hl 0 rfl) ?_
        refine lv_iconst (v := 3) hx hb dL_law_473 (by decide +kernel) ?_
        refine lv_iadd hx hb dL_law_474 ?_
        refine nv_i (v := 3) (by decide +kernel) ?_
        refine va_sld hx hb hX hbl hbA hS (n_in (by decide +kernel)) dL_law_475 ?_
        refine nv_i (v := x27) (ex27).symm ?_
        refine lv_aload_n hx hb dL_law_476 rfl (lv_at hl 4 rfl) ?_
        refine lv_iload hx hb dL_law_477 (lv_at hl 0 rfl) ?_
        refine lv_iconst (v := 4) hx hb dL_law_479 (by decide +kernel) ?_
        refine lv_iadd hx hb dL_law_480 ?_
        refine nv_i (v := 4) (by decide +kernel) ?_
        refine va_sld hx hb hX hbl hbA hS (n_in (by decide +kernel)) dL_law_481 ?_
        refine nv_i (v := x28) (ex28).symm ?_
        refine nj_i (ws := [((u 4), .inr (9, [.ref (u 5), .ref (u 6), .ref (u 7), .ref (u 8), .int 0, .ref (u 9), .ref (u 10)])), ((u 28), .inr (7, [.ref (u 29), .ref (u 30), .ref (u 31), .ref (u 32), .int 0, .int 0, .ref (u 33), .ref (u 34), .ref (u 35), .ref (u 4)])), ((u 30), .inl (y 0, 9, .inl nz)), (mm, .inr (12, (.int 0 :: .ref (v 0) :: .ref (v 1) :: .ref (v 2) :: .ref (v 3) :: .ref (v 4) :: .ref (v 5) :: .ref (v 6) :: .int 0 :: .ref (v 7) :: .int 0 :: .ref (v 8) :: .ref (v 9) :: .int 1 :: .ref (v 10) :: .int 0 :: .ref (v 11) :: .int 0 :: .int 0 :: .null :: .int 0 :: .int 0 :: .int 0 :: .int 0 :: .ref (v 12) :: .ref (v 13) :: .ref (v 14) :: .int (-1) :: .int 0 :: .int 0 :: .int 0 :: .int 0 :: .int 0 :: .int 0 :: .int 0 :: .ref (v 15) :: .int 0 :: .ref (v 16) :: .int 0 :: .ref (v 17) :: .ref (v 18) :: .int 0 :: .int 0 :: .int 0 :: .int 0 :: .ref (v 19) :: .ref (v 20) :: .ref (v 21) :: .ref (v 22) :: .ref (v 23) :: .ref (v 24) :: .ref (v 25) :: .ref (v 26) :: .ref (v 27) :: .int 0 :: .ref (v 28) :: .ref (v 29) :: .ref (v 30) :: .long 0 :: .int 0 :: .int 0 :: .int 0 :: .long 0 :: .int 0 :: .ref (v 31) :: .int 0 :: .int 0 :: .int 0 :: .int 0 :: .ref (v 32) :: .ref (v 33) :: .ref (v 34) :: []))), (x, .inr (11, [.ref (u 0), .ref (u 2), .ref (u 4), .ref (u 19), .ref (u 24), .ref (u 28), .ref (u 36), .ref (u 44), .ref (u 52), .ref (u 58), .ref (u 63), .ref (u 64), .ref (u 65), .ref (u 66), .int 1, .null, .int 0]))]) (wc := [(mm, .inr (12, (.int 0 :: .ref (v 0) :: .ref (v 1) :: .ref (v 2) :: .ref (v 3) :: .ref (v 4) :: .ref (v 5) :: .ref (v 6) :: .int 0 :: .ref (v 7) :: .int 0 :: .ref (v 8) :: .ref (v 9) :: .int 1 :: .ref (v 10) :: .int 0 :: .ref (v 11) :: .int 0 :: .int 0 :: .null :: .int 0 :: .int 0 :: .int 0 :: .int 0 :: .ref (v 12) :: .ref (v 13) :: .ref (v 14) :: .int (-1) :: .int 0 :: .int 0 :: .int 0 :: .int 0 :: .int 0 :: .int 0 :: .int 0 :: .ref (v 15) :: .int 0 :: .ref (v 16) :: .int 0 :: .ref (v 17) :: .ref (v 18) :: .int 0 :: .int 0 :: .int 0 :: .int 0 :: .ref (v 19) :: .ref (v 20) :: .ref (v 21) :: .ref (v 22) :: .ref (v 23) :: .ref (v 24) :: .ref (v 25) :: .ref (v 26) :: .ref (v 27) :: .int 0 :: .ref (v 28) :: .ref (v 29) :: .ref (v 30) :: .long 0 :: .int 0 :: .int 0 :: .int 0 :: .long 0 :: .int 0 :: .ref (v 31) :: .int 0 :: .int 0 :: .int 0 :: .int 0 :: .ref (v 32) :: .ref (v 33) :: .ref (v 34) :: [])))]) (wr := [((u 4), .inr (9, [.ref (u 5), .ref (u 6), .ref (u 7), .ref (u 8), .int 0, .ref (u 9), .ref (u 10)])), ((u 28), .inr (7, [.ref (u 29), .ref (u 30), .ref (u 31), .ref (u 32), .int 0, .int 0, .ref (u 33), .ref (u 34), .ref (u 35), .ref (u 4)])), ((u 30), .inl (y 0, 9, .inl nz)), (x, .inr (11, [.ref (u 0), .ref (u 2), .ref (u 4), .ref (u 19), .ref (u 24), .ref (u 28), .ref (u 36), .ref (u 44), .ref (u 52), .ref (u 58), .ref (u 63), .ref (u 64), .ref (u 65), .ref (u 66), .int 1, .null, .int 0]))]) (nr_V (As := [.int x1, .int x25, .int x27, .int x28]) (rest := [.int (-2)]) ⟨hx, hb, hml, hown, hts⟩ (cX12_sheet_5 l D y mm x1 hk2 hk24 x25 hk26 x27 x28 (v 0) (v 1) (v 2) (v 3) (v 4) (v 5) (v 6) (v 7) (v 8) (v 9) (v 10) (v 11) (v 12) (v 13) (v 14) (v 15) (v 16) (v 17) (v 18) (v 19) (v 20) (v 21) (v 22) (v 23) (v 24) (v 25) (v 26) (v 27) (v 28) (v 29) (v 30) (v 31) (v 32) (v 33) (v 34) H.size) (cwV 4 hts gT_X12_sheet rfl rfl rfl (by decide +kernel) ⟨Nat.le_of_ble_eq_true rfl, Nat.le_of_ble_eq_true rfl⟩) hK hP hD hE [3] rfl (by decide +kernel) 0 12 rfl rfl rfl rfl rfl hl.1 rfl (lv_room (Nat.le_of_ble_eq_true rfl)) dL_law_482 ⟨Nat.le_of_ble_eq_true rfl, Nat.le_of_ble_eq_true rfl⟩) hP hD hS hA [3] [0, 1, 2, 4] rfl rfl (by decide +kernel) (by decide +kernel) (fun r32 u31 H locs er32 hP hD hS => ?_)
        subst er32
        refine lv_icmp_eq (tgt := 1592) hx hb dL_law_485 (by decide +kernel) (fun _ => ?_) (fun c => absurd (by decide +kernel) c)
        refine lv_iinc (v := 5) (lv' := [(4, .int 5), (3, .ref o), (2, .ref mm), (1, .ref x), (0, .ref b)]) hx hb dL_law_1592 hl (k := 0) rfl (by decide +kernel) (by decide +kernel) rfl (fun ls hl => ?_)
        refine lv_goto (tgt := 23) hx hb dL_law_1595 (by decide +kernel) ?_
        refine lv_iload hx hb dL_law_23 (lv_at hl 0 rfl) ?_
        refine lv_aload_n hx hb dL_law_25 rfl (lv_at hl 4 rfl) ?_
        refine va_slen hx hb hX hbl hbA hS dL_law_26 ?_
        refine nv_i (v := 5) rfl ?_
        refine lv_iconst (v := 5) hx hb dL_law_27 (by decide +kernel) ?_
        refine lv_isub hx hb dL_law_28 ?_
        refine nv_i (v := 0) (by decide +kernel) ?_
        refine lv_icmp_gt (tgt := 1598) hx hb dL_law_29 (by decide +kernel) (fun _ => ?_) (fun c => absurd (by decide +kernel) c)
        refine lv_iconst (v := 1) hx hb dL_law_1598 (by decide +kernel) ?_
        refine va_forget (fun q hq => hS.2.2 q hq) ?_
        refine W.widen (k := 600002) (n := 7302232) (Nat.le_of_ble_eq_true rfl) (Nat.le_of_ble_eq_true rfl) ?_
        exact lw_ret hx hb hr hlocks dL_law_1599
      · have hk26x := hk26
        rcases n_cut x25 9 10 (by decide +kernel) with hk33 | hk33
        · have hk33x := hk33
          refine lv_aload_n hx hb dL_law_442 rfl (lv_at hl 4 rfl) ?_
          refine lv_iload hx hb dL_law_443 (lv_at hl 0 rfl) ?_
          refine lv_iconst (v := 3) hx hb dL_law_445 (by decide +kernel) ?_
          refine lv_iadd hx hb dL_law_446 ?_
          refine nv_i (v := 3) (by decide +kernel) ?_
          refine va_sld hx hb hX hbl hbA hS (n_in (by decide +kernel)) dL_law_447 ?_
          refine lv_topi (fun x34 ex34 => ?_)
          refine lv_aload_n hx hb dL_law_448 rfl (lv_at hl 4 rfl) ?_
          refine lv_iload hx hb dL_law_449 (lv_at hl 0 rfl) ?_
          refine lv_iconst (v := 4) hx hb dL_law_451 (by decide +kernel) ?_
          refine lv_iadd hx hb dL_law_452 ?_
          refine nv_i (v := 4) (by decide +kernel) ?_
          refine va_sld hx hb hX hbl hbA hS (n_in (by decide +kernel)) dL_law_453 ?_
          refine lv_topi (fun x35 ex35 => ?_)
          refine nj_i (ws := [(x, .inr (11, [.ref (u 0), .ref (u 2), .ref (u 4), .ref (u 19), .ref (u 24), .ref (u 28), .ref (u 36), .ref (u 44), .ref (u 52), .ref (u 58), .ref (u 63), .ref (u 64), .ref (u 65), .ref (u 66), .int 1, .null, .int 0])), ((u 4), .inr (9, [.ref (u 5), .ref (u 6), .ref (u 7), .ref (u 8), .int 0, .ref (u 9), .ref (u 10)])), ((u 28), .inr (7, [.ref (u 29), .ref (u 30), .ref (u 31), .ref (u 32), .int 0, .int 0, .ref (u 33), .ref (u 34), .ref (u 35), .ref (u 4)])), ((u 30), .inl (y 0, 9, .inl nz)), (mm, .inr (12, (.int 0 :: .ref (v 0) :: .ref (v 1) :: .ref (v 2) :: .ref (v 3) :: .ref (v 4) :: .ref (v 5) :: .ref (v 6) :: .int 0 :: .ref (v 7) :: .int 0 :: .ref (v 8) :: .ref (v 9) :: .int 1 :: .ref (v 10) :: .int 0 :: .ref (v 11) :: .int 0 :: .int 0 :: .null :: .int 0 :: .int 0 :: .int 0 :: .int 0 :: .ref (v 12) :: .ref (v 13) :: .ref (v 14) :: .int (-1) :: .int 0 :: .int 0 :: .int 0 :: .int 0 :: .int 0 :: .int 0 :: .int 0 :: .ref (v 15) :: .int 0 :: .ref (v 16) :: .int 0 :: .ref (v 17) :: .ref (v 18) :: .int 0 :: .int 0 :: .int 0 :: .int 0 :: .ref (v 19) :: .ref (v 20) :: .ref (v 21) :: .ref (v 22) :: .ref (v 23) :: .ref (v 24) :: .ref (v 25) :: .ref (v 26) :: .ref (v 27) :: .int 0 :: .ref (v 28) :: .ref (v 29) :: .ref (v 30) :: .long 0 :: .int 0 :: .int 0 :: .int 0 :: .long 0 :: .int 0 :: .ref (v 31) :: .int 0 :: .int 0 :: .int 0 :: .int 0 :: .ref (v 32) :: .ref (v 33) :: .ref (v 34) :: [])))]) (wc := [(x, .inr (11, [.ref (u 0), .ref (u 2), .ref (u 4), .ref (u 19), .ref (u 24), .ref (u 28), .ref (u 36), .ref (u 44), .ref (u 52), .ref (u 58), .ref (u 63), .ref (u 64), .ref (u 65), .ref (u 66), .int 1, .null, .int 0])), ((u 4), .inr (9, [.ref (u 5), .ref (u 6), .ref (u 7), .ref (u 8), .int 0, .ref (u 9), .ref (u 10)])), ((u 28), .inr (7, [.ref (u 29), .ref (u 30), .ref (u 31), .ref (u 32), .int 0, .int 0, .ref (u 33), .ref (u 34), .ref (u 35), .ref (u 4)])), ((u 30), .inl (y 0, 9, .inl nz))]) (wr := [(mm, .inr (12, (.int 0 :: .ref (v 0) :: .ref (v 1) :: .ref (v 2) :: .ref (v 3) :: .ref (v 4) :: .ref (v 5) :: .ref (v 6) :: .int 0 :: .ref (v 7) :: .int 0 :: .ref (v 8) :: .ref (v 9) :: .int 1 :: .ref (v 10) :: .int 0 :: .ref (v 11) :: .int 0 :: .int 0 :: .null :: .int 0 :: .int 0 :: .int 0 :: .int 0 :: .ref (v 12) :: .ref (v 13) :: .ref (v 14) :: .int (-1) :: .int 0 :: .int 0 :: .int 0 :: .int 0 :: .int 0 :: .int 0 :: .int 0 :: .ref (v 15) :: .int 0 :: .ref (v 16) :: .int 0 :: .ref (v 17) :: .ref (v 18) :: .int 0 :: .int 0 :: .int 0 :: .int 0 :: .ref (v 19) :: .ref (v 20) :: .ref (v 21) :: .ref (v 22) :: .ref (v 23) :: .ref (v 24) :: .ref (v 25) :: .ref (v 26) :: .ref (v 27) :: .int 0 :: .ref (v 28) :: .ref (v 29) :: .ref (v 30) :: .long 0 :: .int 0 :: .int 0 :: .int 0 :: .long 0 :: .int 0 :: .ref (v 31) :: .int 0 :: .int 0 :: .int 0 :: .int 0 :: .ref (v 32) :: .ref (v 33) :: .ref (v 34) :: [])))]) (nr_V (As := [.int x1, .int x25, .int x34, .int x35]) (rest := []) ⟨hx, hb, hml, hown, hts⟩ (cX11_sheet_6 l D y x x1 hk2 hk24 x25 hk26 hk33 x34 x35 (u 0) (u 2) (u 4) (u 19) (u 24) (u 28) (u 36) (u 44) (u 52) (u 58) (u 63) (u 64) (u 65) (u 66) (u 5) (u 6) (u 7) (u 8) (u 9) (u 10) (u 29) (u 30) (u 31) (u 32) (u 33) (u 34) (u 35) H.size) (cwV 4 hts gT_X11_sheet rfl rfl rfl (by decide +kernel) ⟨Nat.le_of_ble_eq_true rfl, Nat.le_of_ble_eq_true rfl⟩) hK hP hD hE [0, 1, 2, 3] rfl (by decide +kernel) 0 11 rfl rfl rfl rfl rfl hl.1 rfl (lv_room (Nat.le_of_ble_eq_true rfl)) dL_law_454 ⟨Nat.le_of_ble_eq_true rfl, Nat.le_of_ble_eq_true rfl⟩) hP hD hS hA [0, 1, 2, 3] [4] rfl rfl (by decide +kernel) (by decide +kernel) (fun r37 u36 H locs er37 hP hD hS => ?_)
          subst er37
          refine lv_aload_n hx hb dL_law_457 rfl (lv_at hl 2 rfl) ?_
          refine lv_aload_n hx hb dL_law_458 rfl (lv_at hl 4 rfl) ?_
          refine lv_iload hx hb dL_law_459 (lv_at hl 0 rfl) ?_
          refine lv_iconst (v := 1) hx hb dL_law_461 (by decide +kernel) ?_
          refine lv_iadd hx hb dL_law_462 ?_
          refine nv_i (v := 1) (by decide +kernel) ?_
          refine va_sld hx hb hX hbl hbA hS (n_in (by decide +kernel)) dL_law_463 ?_
          refine nv_i (v := x1) (ex1).symm ?_
          refine lv_aload_n hx hb dL_law_464 rfl (lv_at hl 4 rfl) ?_
          refine lv_iload hx hb dL_law_465 (lv_at hl 0 rfl) ?_
          refine lv_iconst (v := 2) hx hb dL_law_467 (by decide +kernel) ?_
          refine lv_iadd hx hb dL_law_468 ?_
          refine nv_i (v := 2) (by decide +kernel) ?_
          refine va_sld hx hb hX hbl hbA hS (n_in (by decide +kernel)) dL_law_469 ?_
          refine nv_i (v := x25) (ex25).symm ?_
          refine lv_aload_n hx hb dL_law_470 rfl (lv_at hl 4 rfl) ?_
          refine lv_iload hx hb dL_law_471 (lv_at hl 0 rfl) ?_
          refine lv_iconst (v := 3) hx hb dL_law_473 (by decide +kernel) ?_
          refine lv_iadd hx hb dL_law_474 ?_
          refine nv_i (v := 3) (by decide +kernel) ?_
          refine va_sld hx hb hX hbl hbA hS (n_in (by decide +kernel)) dL_law_475 ?_
          refine nv_i (v := x34) (ex34).symm ?_
          refine lv_aload_n hx hb dL_law_476 rfl (lv_at hl 4 rfl) ?_
          refine lv_iload hx hb dL_law_477 (lv_at hl 0 rfl) ?_
          refine lv_iconst (v := 4) hx hb dL_law_479 (by decide +kernel) ?_
          refine lv_iadd hx hb dL_law_480 ?_
          refine nv_i (v := 4) (by decide +kernel) ?_
          refine va_sld hx hb hX hbl hbA hS (n_in (by decide +kernel)) dL_law_481 ?_
          refine nv_i (v := x35) (ex35).symm ?_
          refine nj_i (ws := [(mm, .inr (12, (.int 0 :: .ref (v 0) :: .ref (v 1) :: .ref (v 2) :: .ref (v 3) :: .ref (v 4) :: .ref (v 5) :: .ref (v 6) :: .int 0 :: .ref (v 7) :: .int 0 :: .ref (v 8) :: .ref (v 9) :: .int 1 :: .ref (v 10) :: .int 0 :: .ref (v 11) :: .int 0 :: .int 0 :: .null :: .int 0 :: .int 0 :: .int 0 :: .int 0 :: .ref (v 12) :: .ref (v 13) :: .ref (v 14) :: .int (-1) :: .int 0 :: .int 0 :: .int 0 :: .int 0 :: .int 0 :: .int 0 :: .int 0 :: .ref (v 15) :: .int 0 :: .ref (v 16) :: .int 0 :: .ref (v 17) :: .ref (v 18) :: .int 0 :: .int 0 :: .int 0 :: .int 0 :: .ref (v 19) :: .ref (v 20) :: .ref (v 21) :: .ref (v 22) :: .ref (v 23) :: .ref (v 24) :: .ref (v 25) :: .ref (v 26) :: .ref (v 27) :: .int 0 :: .ref (v 28) :: .ref (v 29) :: .ref (v 30) :: .long 0 :: .int 0 :: .int 0 :: .int 0 :: .long 0 :: .int 0 :: .ref (v 31) :: .int 0 :: .int 0 :: .int 0 :: .int 0 :: .ref (v 32) :: .ref (v 33) :: .ref (v 34) :: []))), (x, .inr (11, [.ref (u 0), .ref (u 2), .ref (u 4), .ref (u 19), .ref (u 24), .ref (u 28), .ref (u 36), .ref (u 44), .ref (u 52), .ref (u 58), .ref (u 63), .ref (u 64), .ref (u 65), .ref (u 66), .int 1, .null, .int 0])), ((u 4), .inr (9, [.ref (u 5), .ref (u 6), .ref (u 7), .ref (u 8), .int 0, .ref (u 9), .ref (u 10)])), ((u 28), .inr (7, [.ref (u 29), .ref (u 30), .ref (u 31), .ref (u 32), .int 0, .int 0, .ref (u 33), .ref (u 34), .ref (u 35), .ref (u 4)])), ((u 30), .inl (y 0, 9, .inl nz))]) (wc := [(mm, .inr (12, (.int 0 :: .ref (v 0) :: .ref (v 1) :: .ref (v 2) :: .ref (v 3) :: .ref (v 4) :: .ref (v 5) :: .ref (v 6) :: .int 0 :: .ref (v 7) :: .int 0 :: .ref (v 8) :: .ref (v 9) :: .int 1 :: .ref (v 10) :: .int 0 :: .ref (v 11) :: .int 0 :: .int 0 :: .null :: .int 0 :: .int 0 :: .int 0 :: .int 0 :: .ref (v 12) :: .ref (v 13) :: .ref (v 14) :: .int (-1) :: .int 0 :: .int 0 :: .int 0 :: .int 0 :: .int 0 :: .int 0 :: .int 0 :: .ref (v 15) :: .int 0 :: .ref (v 16) :: .int 0 :: .ref (v 17) :: .ref (v 18) :: .int 0 :: .int 0 :: .int 0 :: .int 0 :: .ref (v 19) :: .ref (v 20) :: .ref (v 21) :: .ref (v 22) :: .ref (v 23) :: .ref (v 24) :: .ref (v 25) :: .ref (v 26) :: .ref (v 27) :: .int 0 :: .ref (v 28) :: .ref (v 29) :: .ref (v 30) :: .long 0 :: .int 0 :: .int 0 :: .int 0 :: .long 0 :: .int 0 :: .ref (v 31) :: .int 0 :: .int 0 :: .int 0 :: .int 0 :: .ref (v 32) :: .ref (v 33) :: .ref (v 34) :: [])))]) (wr := [(x, .inr (11, [.ref (u 0), .ref (u 2), .ref (u 4), .ref (u 19), .ref (u 24), .ref (u 28), .ref (u 36), .ref (u 44), .ref (u 52), .ref (u 58), .ref (u 63), .ref (u 64), .ref (u 65), .ref (u 66), .int 1, .null, .int 0])), ((u 4), .inr (9, [.ref (u 5), .ref (u 6), .ref (u 7), .ref (u 8), .int 0, .ref (u 9), .ref (u 10)])), ((u 28), .inr (7, [.ref (u 29), .ref (u 30), .ref (u 31), .ref (u 32), .int 0, .int 0, .ref (u 33), .ref (u 34), .ref (u 35), .ref (u 4)])), ((u 30), .inl (y 0, 9, .inl nz))]) (nr_V (As := [.int x1, .int x25, .int x34, .int x35]) (rest := [.int 0]) ⟨hx, hb, hml, hown, hts⟩ (cX12_sheet_6 l D y mm x1 hk2 hk24 x25 hk26 hk33 x34 x35 (v 0) (v 1) (v 2) (v 3) (v 4) (v 5) (v 6) (v 7) (v 8) (v 9) (v 10) (v 11) (v 12) (v 13) (v 14) (v 15) (v 16) (v 17) (v 18) (v 19) (v 20) (v 21) (v 22) (v 23) (v 24) (v 25) (v 26) (v 27) (v 28) (v 29) (v 30) (v 31) (v 32) (v 33) (v 34) H.size) (cwV 4 hts gT_X12_sheet rfl rfl rfl (by decide +kernel) ⟨Nat.le_of_ble_eq_true rfl, Nat.le_of_ble_eq_true rfl⟩) hK hP hD hE [0] rfl (by decide +kernel) 0 12 rfl rfl rfl rfl rfl hl.1 rfl (lv_room (Nat.le_of_ble_eq_true rfl)) dL_law_482 ⟨Nat.le_of_ble_eq_true rfl, Nat.le_of_ble_eq_true rfl⟩) hP hD hS hA [0] [1, 2, 3, 4] rfl rfl (by decide +kernel) (by decide +kernel) (fun r39 u38 H locs er39 hP hD hS => ?_)
          subst er39
          refine lv_icmp_eq (tgt := 1592) hx hb dL_law_485 (by decide +kernel) (fun _ => ?_) (fun c => absurd (by decide +kernel) c)
          refine lv_iinc (v := 5) (lv' := [(4, .int 5), (3, .ref o), (2, .ref mm), (1, .ref x), (0, .ref b)]) hx hb dL_law_1592 hl (k := 0) rfl (by decide +kernel) (by decide +kernel) rfl (fun ls hl => ?_)
          refine lv_goto (tgt := 23) hx hb dL_law_1595 (by decide +kernel) ?_
          refine lv_iload hx hb dL_law_23 (lv_at hl 0 rfl) ?_
          refine lv_aload_n hx hb dL_law_25 rfl (lv_at hl 4 rfl) ?_
          refine va_slen hx hb hX hbl hbA hS dL_law_26 ?_
          refine nv_i (v := 5) rfl ?_
          refine lv_iconst (v := 5) hx hb dL_law_27 (by decide +kernel) ?_
          refine lv_isub hx hb dL_law_28 ?_
          refine nv_i (v := 0) (by decide +kernel) ?_
          refine lv_icmp_gt (tgt := 1598) hx hb dL_law_29 (by decide +kernel) (fun _ => ?_) (fun c => absurd (by decide +kernel) c)
          refine lv_iconst (v := 1) hx hb dL_law_1598 (by decide +kernel) ?_
          refine va_forget (fun q hq => hS.2.2 q hq) ?_
          refine W.widen (k := 600002) (n := 7302232) (Nat.le_of_ble_eq_true rfl) (Nat.le_of_ble_eq_true rfl) ?_
          exact lw_ret hx hb hr hlocks dL_law_1599
        · have hk33x := hk33
          refine lv_aload_n hx hb dL_law_442 rfl (lv_at hl 4 rfl) ?_
          refine lv_iload hx hb dL_law_443 (lv_at hl 0 rfl) ?_
          refine lv_iconst (v := 3) hx hb dL_law_445 (by decide +kernel) ?_
          refine lv_iadd hx hb dL_law_446 ?_
          refine nv_i (v := 3) (by decide +kernel) ?_
          refine va_sld hx hb hX hbl hbA hS (n_in (by decide +kernel)) dL_law_447 ?_
          refine lv_topi (fun x40 ex40 => ?_)
          refine lv_aload_n hx hb dL_law_448 rfl (lv_at hl 4 rfl) ?_
          refine lv_iload hx hb dL_law_449 (lv_at hl 0 rfl) ?_
          refine lv_iconst (v := 4) hx hb dL_law_451 (by decide +kernel) ?_
          refine lv_iadd hx hb dL_law_452 ?_
          refine nv_i (v := 4) (by decide +kernel) ?_
          refine va_sld hx hb hX hbl hbA hS (n_in (by decide +kernel)) dL_law_453 ?_
          refine lv_topi (fun x41 ex41 => ?_)
          refine nj_i (ws := [(x, .inr (11, [.ref (u 0), .ref (u 2), .ref (u 4), .ref (u 19), .ref (u 24), .ref (u 28), .ref (u 36), .ref (u 44), .ref (u 52), .ref (u 58), .ref (u 63), .ref (u 64), .ref (u 65), .ref (u 66), .int 1, .null, .int 0])), ((u 4), .inr (9, [.ref (u 5), .ref (u 6), .ref (u 7), .ref (u 8), .int 0, .ref (u 9), .ref (u 10)])), ((u 28), .inr (7, [.ref (u 29), .ref (u 30), .ref (u 31), .ref (u 32), .int 0, .int 0, .ref (u 33), .ref (u 34), .ref (u 35), .ref (u 4)])), ((u 30), .inl (y 0, 9, .inl nz)), (mm, .inr (12, (.int 0 :: .ref (v 0) :: .ref (v 1) :: .ref (v 2) :: .ref (v 3) :: .ref (v 4) :: .ref (v 5) :: .ref (v 6) :: .int 0 :: .ref (v 7) :: .int 0 :: .ref (v 8) :: .ref (v 9) :: .int 1 :: .ref (v 10) :: .int 0 :: .ref (v 11) :: .int 0 :: .int 0 :: .null :: .int 0 :: .int 0 :: .int 0 :: .int 0 :: .ref (v 12) :: .ref (v 13) :: .ref (v 14) :: .int (-1) :: .int 0 :: .int 0 :: .int 0 :: .int 0 :: .int 0 :: .int 0 :: .int 0 :: .ref (v 15) :: .int 0 :: .ref (v 16) :: .int 0 :: .ref (v 17) :: .ref (v 18) :: .int 0 :: .int 0 :: .int 0 :: .int 0 :: .ref (v 19) :: .ref (v 20) :: .ref (v 21) :: .ref (v 22) :: .ref (v 23) :: .ref (v 24) :: .ref (v 25) :: .ref (v 26) :: .ref (v 27) :: .int 0 :: .ref (v 28) :: .ref (v 29) :: .ref (v 30) :: .long 0 :: .int 0 :: .int 0 :: .int 0 :: .long 0 :: .int 0 :: .ref (v 31) :: .int 0 :: .int 0 :: .int 0 :: .int 0 :: .ref (v 32) :: .ref (v 33) :: .ref (v 34) :: [])))]) (wc := [(x, .inr (11, [.ref (u 0), .ref (u 2), .ref (u 4), .ref (u 19), .ref (u 24), .ref (u 28), .ref (u 36), .ref (u 44), .ref (u 52), .ref (u 58), .ref (u 63), .ref (u 64), .ref (u 65), .ref (u 66), .int 1, .null, .int 0]))]) (wr := [((u 4), .inr (9, [.ref (u 5), .ref (u 6), .ref (u 7), .ref (u 8), .int 0, .ref (u 9), .ref (u 10)])), ((u 28), .inr (7, [.ref (u 29), .ref (u 30), .ref (u 31), .ref (u 32), .int 0, .int 0, .ref (u 33), .ref (u 34), .ref (u 35), .ref (u 4)])), ((u 30), .inl (y 0, 9, .inl nz)), (mm, .inr (12, (.int 0 :: .ref (v 0) :: .ref (v 1) :: .ref (v 2) :: .ref (v 3) :: .ref (v 4) :: .ref (v 5) :: .ref (v 6) :: .int 0 :: .ref (v 7) :: .int 0 :: .ref (v 8) :: .ref (v 9) :: .int 1 :: .ref (v 10) :: .int 0 :: .ref (v 11) :: .int 0 :: .int 0 :: .null :: .int 0 :: .int 0 :: .int 0 :: .int 0 :: .ref (v 12) :: .ref (v 13) :: .ref (v 14) :: .int (-1) :: .int 0 :: .int 0 :: .int 0 :: .int 0 :: .int 0 :: .int 0 :: .int 0 :: .ref (v 15) :: .int 0 :: .ref (v 16) :: .int 0 :: .ref (v 17) :: .ref (v 18) :: .int 0 :: .int 0 :: .int 0 :: .int 0 :: .ref (v 19) :: .ref (v 20) :: .ref (v 21) :: .ref (v 22) :: .ref (v 23) :: .ref (v 24) :: .ref (v 25) :: .ref (v 26) :: .ref (v 27) :: .int 0 :: .ref (v 28) :: .ref (v 29) :: .ref (v 30) :: .long 0 :: .int 0 :: .int 0 :: .int 0 :: .long 0 :: .int 0 :: .ref (v 31) :: .int 0 :: .int 0 :: .int 0 :: .int 0 :: .ref (v 32) :: .ref (v 33) :: .ref (v 34) :: [])))]) (nr_V (As := [.int x1, .int x25, .int x40, .int x41]) (rest := []) ⟨hx, hb, hml, hown, hts⟩ (cX11_sheet_3 l D y x x1 hk2 (q_le hk24 (by decide +kernel)) x25 hk33 x40 x41 (u 0) (u 2) (u 4) (u 19) (u 24) (u 28) (u 36) (u 44) (u 52) (u 58) (u 63) (u 64) (u 65) (u 66) H.size) (cwV 4 hts gT_X11_sheet rfl rfl rfl (by decide +kernel) ⟨Nat.le_of_ble_eq_true rfl, Nat.le_of_ble_eq_true rfl⟩) hK hP hD hE [0] rfl (by decide +kernel) 0 11 rfl rfl rfl rfl rfl hl.1 rfl (lv_room (Nat.le_of_ble_eq_true rfl)) dL_law_454 ⟨Nat.le_of_ble_eq_true rfl, Nat.le_of_ble_eq_true rfl⟩) hP hD hS hA [0] [1, 2, 3, 4] rfl rfl (by decide +kernel) (by decide +kernel) (fun r43 u42 H locs er43 hP hD hS => ?_)
          subst er43
          refine lv_aload_n hx hb dL_law_457 rfl (lv_at hl 2 rfl) ?_
          refine lv_aload_n hx hb dL_law_458 rfl (lv_at hl 4 rfl) ?_
          refine lv_iload hx hb dL_law_459 (lv_at hl 0 rfl) ?_
          refine lv_iconst (v := 1) hx hb dL_law_461 (by decide +kernel) ?_
          refine lv_iadd hx hb dL_law_462 ?_
          refine nv_i (v := 1) (by decide +kernel) ?_
          refine va_sld hx hb hX hbl hbA hS (n_in (by decide +kernel)) dL_law_463 ?_
          refine nv_i (v := x1) (ex1).symm ?_
          refine lv_aload_n hx hb dL_law_464 rfl (lv_at hl 4 rfl) ?_
          refine lv_iload hx hb dL_law_465 (lv_at hl 0 rfl) ?_
          refine lv_iconst (v := 2) hx hb dL_law_467 (by decide +kernel) ?_
          refine lv_iadd hx hb dL_law_468 ?_
          refine nv_i (v := 2) (by decide +kernel) ?_
          refine va_sld hx hb hX hbl hbA hS (n_in (by decide +kernel)) dL_law_469 ?_
          refine nv_i (v := x25) (ex25).symm ?_
          refine lv_aload_n hx hb dL_law_470 rfl (lv_at hl 4 rfl) ?_
          refine lv_iload hx hb dL_law_471 (lv_at hl 0 rfl) ?_
          refine lv_iconst (v := 3) hx hb dL_law_473 (by decide +kernel) ?_
          refine lv_iadd hx hb dL_law_474 ?_
          refine nv_i (v := 3) (by decide +kernel) ?_
          refine va_sld hx hb hX hbl hbA hS (n_in (by decide +kernel)) dL_law_475 ?_
          refine nv_i (v := x40) (ex40).symm ?_
          refine lv_aload_n hx hb dL_law_476 rfl (lv_at hl 4 rfl) ?_
          refine lv_iload hx hb dL_law_477 (lv_at hl 0 rfl) ?_
          refine lv_iconst (v := 4) hx hb dL_law_479 (by decide +kernel) ?_
          refine lv_iadd hx hb dL_law_480 ?_
          refine nv_i (v := 4) (by decide +kernel) ?_
          refine va_sld hx hb hX hbl hbA hS (n_in (by decide +kernel)) dL_law_481 ?_
          refine nv_i (v := x41) (ex41).symm ?_
          refine nj_i (ws := [((u 4), .inr (9, [.ref (u 5), .ref (u 6), .ref (u 7), .ref (u 8), .int 0, .ref (u 9), .ref (u 10)])), ((u 28), .inr (7, [.ref (u 29), .ref (u 30), .ref (u 31), .ref (u 32), .int 0, .int 0, .ref (u 33), .ref (u 34), .ref (u 35), .ref (u 4)])), ((u 30), .inl (y 0, 9, .inl nz)), (mm, .inr (12, (.int 0 :: .ref (v 0) :: .ref (v 1) :: .ref (v 2) :: .ref (v 3) :: .ref (v 4) :: .ref (v 5) :: .ref (v 6) :: .int 0 :: .ref (v 7) :: .int 0 :: .ref (v 8) :: .ref (v 9) :: .int 1 :: .ref (v 10) :: .int 0 :: .ref (v 11) :: .int 0 :: .int 0 :: .null :: .int 0 :: .int 0 :: .int 0 :: .int 0 :: .ref (v 12) :: .ref (v 13) :: .ref (v 14) :: .int (-1) :: .int 0 :: .int 0 :: .int 0 :: .int 0 :: .int 0 :: .int 0 :: .int 0 :: .ref (v 15) :: .int 0 :: .ref (v 16) :: .int 0 :: .ref (v 17) :: .ref (v 18) :: .int 0 :: .int 0 :: .int 0 :: .int 0 :: .ref (v 19) :: .ref (v 20) :: .ref (v 21) :: .ref (v 22) :: .ref (v 23) :: .ref (v 24) :: .ref (v 25) :: .ref (v 26) :: .ref (v 27) :: .int 0 :: .ref (v 28) :: .ref (v 29) :: .ref (v 30) :: .long 0 :: .int 0 :: .int 0 :: .int 0 :: .long 0 :: .int 0 :: .ref (v 31) :: .int 0 :: .int 0 :: .int 0 :: .int 0 :: .ref (v 32) :: .ref (v 33) :: .ref (v 34) :: []))), (x, .inr (11, [.ref (u 0), .ref (u 2), .ref (u 4), .ref (u 19), .ref (u 24), .ref (u 28), .ref (u 36), .ref (u 44), .ref (u 52), .ref (u 58), .ref (u 63), .ref (u 64), .ref (u 65), .ref (u 66), .int 1, .null, .int 0]))]) (wc := [(mm, .inr (12, (.int 0 :: .ref (v 0) :: .ref (v 1) :: .ref (v 2) :: .ref (v 3) :: .ref (v 4) :: .ref (v 5) :: .ref (v 6) :: .int 0 :: .ref (v 7) :: .int 0 :: .ref (v 8) :: .ref (v 9) :: .int 1 :: .ref (v 10) :: .int 0 :: .ref (v 11) :: .int 0 :: .int 0 :: .null :: .int 0 :: .int 0 :: .int 0 :: .int 0 :: .ref (v 12) :: .ref (v 13) :: .ref (v 14) :: .int (-1) :: .int 0 :: .int 0 :: .int 0 :: .int 0 :: .int 0 :: .int 0 :: .int 0 :: .ref (v 15) :: .int 0 :: .ref (v 16) :: .int 0 :: .ref (v 17) :: .ref (v 18) :: .int 0 :: .int 0 :: .int 0 :: .int 0 :: .ref (v 19) :: .ref (v 20) :: .ref (v 21) :: .ref (v 22) :: .ref (v 23) :: .ref (v 24) :: .ref (v 25) :: .ref (v 26) :: .ref (v 27) :: .int 0 :: .ref (v 28) :: .ref (v 29) :: .ref (v 30) :: .long 0 :: .int 0 :: .int 0 :: .int 0 :: .long 0 :: .int 0 :: .ref (v 31) :: .int 0 :: .int 0 :: .int 0 :: .int 0 :: .ref (v 32) :: .ref (v 33) :: .ref (v 34) :: [])))]) (wr := [((u 4), .inr (9, [.ref (u 5), .ref (u 6), .ref (u 7), .ref (u 8), .int 0, .ref (u 9), .ref (u 10)])), ((u 28), .inr (7, [.ref (u 29), .ref (u 30), .ref (u 31), .ref (u 32), .int 0, .int 0, .ref (u 33), .ref (u 34), .ref (u 35), .ref (u 4)])), ((u 30), .inl (y 0, 9, .inl nz)), (x, .inr (11, [.ref (u 0), .ref (u 2), .ref (u 4), .ref (u 19), .ref (u 24), .ref (u 28), .ref (u 36), .ref (u 44), .ref (u 52), .ref (u 58), .ref (u 63), .ref (u 64), .ref (u 65), .ref (u 66), .int 1, .null, .int 0]))]) (nr_V (As := [.int x1, .int x25, .int x40, .int x41]) (rest := [.int (-1)]) ⟨hx, hb, hml, hown, hts⟩ (cX12_sheet_3 l D y mm x1 hk2 (q_le hk24 (by decide +kernel)) x25 hk33 x40 x41 (v 0) (v 1) (v 2) (v 3) (v 4) (v 5) (v 6) (v 7) (v 8) (v 9) (v 10) (v 11) (v 12) (v 13) (v 14) (v 15) (v 16) (v 17) (v 18) (v 19) (v 20) (v 21) (v 22) (v 23) (v 24) (v 25) (v 26) (v 27) (v 28) (v 29) (v 30) (v 31) (v 32) (v 33) (v 34) H.size) (cwV 4 hts gT_X12_sheet rfl rfl rfl (by decide +kernel) ⟨Nat.le_of_ble_eq_true rfl, Nat.le_of_ble_eq_true rfl⟩) hK hP hD hE [3] rfl (by decide +kernel) 0 12 rfl rfl rfl rfl rfl hl.1 rfl (lv_room (Nat.le_of_ble_eq_true rfl)) dL_law_482 ⟨Nat.le_of_ble_eq_true rfl, Nat.le_of_ble_eq_true rfl⟩) hP hD hS hA [3] [0, 1, 2, 4] rfl rfl (by decide +kernel) (by decide +kernel) (fun r45 u44 H locs er45 hP hD hS => ?_)
          subst er45
          refine lv_icmp_eq (tgt := 1592) hx hb dL_law_485 (by decide +kernel) (fun _ => ?_) (fun c => absurd (by decide +kernel) c)
          refine lv_iinc (v := 5) (lv' := [(4, .int 5), (3, .ref o), (2, .ref mm), (1, .ref x), (0, .ref b)]) hx hb dL_law_1592 hl (k := 0) rfl (by decide +kernel) (by decide +kernel) rfl (fun ls hl => ?_)
          refine lv_goto (tgt := 23) hx hb dL_law_1595 (by decide +kernel) ?_
          refine lv_iload hx hb dL_law_23 (lv_at hl 0 rfl) ?_
          refine lv_aload_n hx hb dL_law_25 rfl (lv_at hl 4 rfl) ?_
          refine va_slen hx hb hX hbl hbA hS dL_law_26 ?_
          refine nv_i (v := 5) rfl ?_
          refine lv_iconst (v := 5) hx hb dL_law_27 (by decide +kernel) ?_
          refine lv_isub hx hb dL_law_28 ?_
          refine nv_i (v := 0) (by decide +kernel) ?_
          refine lv_icmp_gt (tgt := 1598) hx hb dL_law_29 (by decide +kernel) (fun _ => ?_) (fun c => absurd (by decide +kernel) c)
          refine lv_iconst (v := 1) hx hb dL_law_1598 (by decide +kernel) ?_
          refine va_forget (fun q hq => hS.2.2 q hq) ?_
          refine W.widen (k := 600002) (n := 7302232) (Nat.le_of_ble_eq_true rfl) (Nat.le_of_ble_eq_true rfl) ?_
          exact lw_ret hx hb hr hlocks dL_law_1599
    · have hk24x := hk24
      rcases n_cut x1 3 4 (by decide +kernel) with hk46 | hk46
      · have hk46x := hk46
        obtain rfl := q_sq hk24 hk46
        refine lv_aload_n hx hb dL_law_436 rfl (lv_at hl 4 rfl) ?_
        refine lv_iload hx hb dL_law_437 (lv_at hl 0 rfl) ?_
        refine lv_iconst (v := 2) hx hb dL_law_439 (by decide +kernel) ?_
        refine lv_iadd hx hb dL_law_440 ?_
        refine nv_i (v := 2) (by decide +kernel) ?_
        refine va_sld hx hb hX hbl hbA hS (n_in (by decide +kernel)) dL_law_441 ?_
        refine lv_topi (fun x47 ex47 => ?_)
        rcases n_cut x47 (-1) 0 (by decide +kernel) with hk48 | hk48
        · have hk48x := hk48
          refine lv_aload_n hx hb dL_law_442 rfl (lv_at hl 4 rfl) ?_
          refine lv_iload hx hb dL_law_443 (lv_at hl 0 rfl) ?_
          refine lv_iconst (v := 3) hx hb dL_law_445 (by decide +kernel) ?_
          refine lv_iadd hx hb dL_law_446 ?_
          refine nv_i (v := 3) (by decide +kernel) ?_
          refine va_sld hx hb hX hbl hbA hS (n_in (by decide +kernel)) dL_law_447 ?_
          refine lv_topi (fun x49 ex49 => ?_)
          refine lv_aload_n hx hb dL_law_448 rfl (lv_at hl 4 rfl) ?_
          refine lv_iload hx hb dL_law_449 (lv_at hl 0 rfl) ?_
          refine lv_iconst (v := 4) hx hb dL_law_451 (by decide +kernel) ?_
          refine lv_iadd hx hb dL_law_452 ?_
          refine nv_i (v := 4) (by decide +kernel) ?_
          refine va_sld hx hb hX hbl hbA hS (n_in (by decide +kernel)) dL_law_453 ?_
          refine lv_topi (fun x50 ex50 => ?_)
          refine nj_i (ws := [(x, .inr (11, [.ref (u 0), .ref (u 2), .ref (u 4), .ref (u 19), .ref (u 24), .ref (u 28), .ref (u 36), .ref (u 44), .ref (u 52), .ref (u 58), .ref (u 63), .ref (u 64), .ref (u 65), .ref (u 66), .int 1, .null, .int 0])), ((u 4), .inr (9, [.ref (u 5), .ref (u 6), .ref (u 7), .ref (u 8), .int 0, .ref (u 9), .ref (u 10)])), ((u 28), .inr (7, [.ref (u 29), .ref (u 30), .ref (u 31), .ref (u 32), .int 0, .int 0, .ref (u 33), .ref (u 34), .ref (u 35), .ref (u 4)])), ((u 30), .inl (y 0, 9, .inl nz)), (mm, .inr (12, (.int 0 :: .ref (v 0) :: .ref (v 1) :: .ref (v 2) :: .ref (v 3) :: .ref (v 4) :: .ref (v 5) :: .ref (v 6) :: .int 0 :: .ref (v 7) :: .int 0 :: .ref (v 8) :: .ref (v 9) :: .int 1 :: .ref (v 10) :: .int 0 :: .ref (v 11) :: .int 0 :: .int 0 :: .null :: .int 0 :: .int 0 :: .int 0 :: .int 0 :: .ref (v 12) :: .ref (v 13) :: .ref (v 14) :: .int (-1) :: .int 0 :: .int 0 :: .int 0 :: .int 0 :: .int 0 :: .int 0 :: .int 0 :: .ref (v 15) :: .int 0 :: .ref (v 16) :: .int 0 :: .ref (v 17) :: .ref (v 18) :: .int 0 :: .int 0 :: .int 0 :: .int 0 :: .ref (v 19) :: .ref (v 20) :: .ref (v 21) :: .ref (v 22) :: .ref (v 23) :: .ref (v 24) :: .ref (v 25) :: .ref (v 26) :: .ref (v 27) :: .int 0 :: .ref (v 28) :: .ref (v 29) :: .ref (v 30) :: .long 0 :: .int 0 :: .int 0 :: .int 0 :: .long 0 :: .int 0 :: .ref (v 31) :: .int 0 :: .int 0 :: .int 0 :: .int 0 :: .ref (v 32) :: .ref (v 33) :: .ref (v 34) :: [])))]) (wc := [(x, .inr (11, [.ref (u 0), .ref (u 2), .ref (u 4), .ref (u 19), .ref (u 24), .ref (u 28), .ref (u 36), .ref (u 44), .ref (u 52), .ref (u 58), .ref (u 63), .ref (u 64), .ref (u 65), .ref (u 66), .int 1, .null, .int 0])), ((u 4), .inr (9, [.ref (u 5), .ref (u 6), .ref (u 7), .ref (u 8), .int 0, .ref (u 9), .ref (u 10)]))]) (wr := [((u 28), .inr (7, [.ref (u 29), .ref (u 30), .ref (u 31), .ref (u 32), .int 0, .int 0, .ref (u 33), .ref (u 34), .ref (u 35), .ref (u 4)])), ((u 30), .inl (y 0, 9, .inl nz)), (mm, .inr (12, (.int 0 :: .ref (v 0) :: .ref (v 1) :: .ref (v 2) :: .ref (v 3) :: .ref (v 4) :: .ref (v 5) :: .ref (v 6) :: .int 0 :: .ref (v 7) :: .int 0 :: .ref (v 8) :: .ref (v 9) :: .int 1 :: .ref (v 10) :: .int 0 :: .ref (v 11) :: .int 0 :: .int 0 :: .null :: .int 0 :: .int 0 :: .int 0 :: .int 0 :: .ref (v 12) :: .ref (v 13) :: .ref (v 14) :: .int (-1) :: .int 0 :: .int 0 :: .int 0 :: .int 0 :: .int 0 :: .int 0 :: .int 0 :: .ref (v 15) :: .int 0 :: .ref (v 16) :: .int 0 :: .ref (v 17) :: .ref (v 18) :: .int 0 :: .int 0 :: .int 0 :: .int 0 :: .ref (v 19) :: .ref (v 20) :: .ref (v 21) :: .ref (v 22) :: .ref (v 23) :: .ref (v 24) :: .ref (v 25) :: .ref (v 26) :: .ref (v 27) :: .int 0 :: .ref (v 28) :: .ref (v 29) :: .ref (v 30) :: .long 0 :: .int 0 :: .int 0 :: .int 0 :: .long 0 :: .int 0 :: .ref (v 31) :: .int 0 :: .int 0 :: .int 0 :: .int 0 :: .ref (v 32) :: .ref (v 33) :: .ref (v 34) :: [])))]) (nr_V (As := [.int 3, .int x47, .int x49, .int x50]) (rest := []) ⟨hx, hb, hml, hown, hts⟩ (cX11_sheet_4 l D y x x47 (q_le hk48 (by decide +kernel)) x49 x50 (u 0) (u 2) (u 4) (u 19) (u 24) (u 28) (u 36) (u 44) (u 52) (u 58) (u 63) (u 64) (u 65) (u 66) (u 5) (u 6) (u 7) (u 8) (u 9) (u 10) H.size) (cwV 4 hts gT_X11_sheet rfl rfl rfl (by decide +kernel) ⟨Nat.le_of_ble_eq_true rfl, Nat.le_of_ble_eq_true rfl⟩) hK hP hD hE [0, 1] rfl (by decide +kernel) 0 11 rfl rfl rfl rfl rfl hl.1 rfl (lv_room (Nat.le_of_ble_eq_true rfl)) dL_law_454 ⟨Nat.le_of_ble_eq_true rfl, Nat.le_of_ble_eq_true rfl⟩) hP hD hS hA [0, 1] [2, 3, 4] rfl rfl (by decide +kernel) (by decide +kernel) (fun r52 u51 H locs er52 hP hD hS => ?_)
          subst er52
          refine lv_aload_n hx hb dL_law_457 rfl (lv_at hl 2 rfl) ?_
          refine lv_aload_n hx hb dL_law_458 rfl (lv_at hl 4 rfl) ?_
          refine lv_iload hx hb dL_law_459 (lv_at hl 0 rfl) ?_
          refine lv_iconst (v := 1) hx hb dL_law_461 (by decide +kernel) ?_
          refine lv_iadd hx hb dL_law_462 ?_
          refine nv_i (v := 1) (by decide +kernel) ?_
          refine va_sld hx hb hX hbl hbA hS (n_in (by decide +kernel)) dL_law_463 ?_
          refine nv_i (v := 3) (ex1).symm ?_
          refine lv_aload_n hx hb dL_law_464 rfl (lv_at hl 4 rfl) ?_
          refine lv_iload hx hb dL_law_465 (lv_at hl 0 rfl) ?_
          refine lv_iconst (v := 2) hx hb dL_law_467 (by decide +kernel) ?_
          refine lv_iadd hx hb dL_law_468 ?_
          refine nv_i (v := 2) (by decide +kernel) ?_
          refine va_sld hx hb hX hbl hbA hS (n_in (by decide +kernel)) dL_law_469 ?_
          refine nv_i (v := x47) (ex47).symm ?_
          refine lv_aload_n hx hb dL_law_470 rfl (lv_at hl 4 rfl) ?_
          refine lv_iload hx hb dL_law_471 (lv_at hl 0 rfl) ?_
          refine lv_iconst (v := 3) hx hb dL_law_473 (by decide +kernel) ?_
          refine lv_iadd hx hb dL_law_474 ?_
          refine nv_i (v := 3) (by decide +kernel) ?_
          refine va_sld hx hb hX hbl hbA hS (n_in (by decide +kernel)) dL_law_475 ?_
          refine nv_i (v := x49) (ex49).symm ?_
          refine lv_aload_n hx hb dL_law_476 rfl (lv_at hl 4 rfl) ?_
          refine lv_iload hx hb dL_law_477 (lv_at hl 0 rfl) ?_
          refine lv_iconst (v := 4) hx hb dL_law_479 (by decide +kernel) ?_
          refine lv_iadd hx hb dL_law_480 ?_
          refine nv_i (v := 4) (by decide +kernel) ?_
          refine va_sld hx hb hX hbl hbA hS (n_in (by decide +kernel)) dL_law_481 ?_
          refine nv_i (v := x50) (ex50).symm ?_
          refine nj_i (ws := [((u 28), .inr (7, [.ref (u 29), .ref (u 30), .ref (u 31), .ref (u 32), .int 0, .int 0, .ref (u 33), .ref (u 34), .ref (u 35), .ref (u 4)])), ((u 30), .inl (y 0, 9, .inl nz)), (mm, .inr (12, (.int 0 :: .ref (v 0) :: .ref (v 1) :: .ref (v 2) :: .ref (v 3) :: .ref (v 4) :: .ref (v 5) :: .ref (v 6) :: .int 0 :: .ref (v 7) :: .int 0 :: .ref (v 8) :: .ref (v 9) :: .int 1 :: .ref (v 10) :: .int 0 :: .ref (v 11) :: .int 0 :: .int 0 :: .null :: .int 0 :: .int 0 :: .int 0 :: .int 0 :: .ref (v 12) :: .ref (v 13) :: .ref (v 14) :: .int (-1) :: .int 0 :: .int 0 :: .int 0 :: .int 0 :: .int 0 :: .int 0 :: .int 0 :: .ref (v 15) :: .int 0 :: .ref (v 16) :: .int 0 :: .ref (v 17) :: .ref (v 18) :: .int 0 :: .int 0 :: .int 0 :: .int 0 :: .ref (v 19) :: .ref (v 20) :: .ref (v 21) :: .ref (v 22) :: .ref (v 23) :: .ref (v 24) :: .ref (v 25) :: .ref (v 26) :: .ref (v 27) :: .int 0 :: .ref (v 28) :: .ref (v 29) :: .ref (v 30) :: .long 0 :: .int 0 :: .int 0 :: .int 0 :: .long 0 :: .int 0 :: .ref (v 31) :: .int 0 :: .int 0 :: .int 0 :: .int 0 :: .ref (v 32) :: .ref (v 33) :: .ref (v 34) :: []))), (x, .inr (11, [.ref (u 0), .ref (u 2), .ref (u 4), .ref (u 19), .ref (u 24), .ref (u 28), .ref (u 36), .ref (u 44), .ref (u 52), .ref (u 58), .ref (u 63), .ref (u 64), .ref (u 65), .ref (u 66), .int 1, .null, .int 0])), ((u 4), .inr (9, [.ref (u 5), .ref (u 6), .ref (u 7), .ref (u 8), .int 0, .ref (u 9), .ref (u 10)]))]) (wc := [(mm, .inr (12, (.int 0 :: .ref (v 0) :: .ref (v 1) :: .ref (v 2) :: .ref (v 3) :: .ref (v 4) :: .ref (v 5) :: .ref (v 6) :: .int 0 :: .ref (v 7) :: .int 0 :: .ref (v 8) :: .ref (v 9) :: .int 1 :: .ref (v 10) :: .int 0 :: .ref (v 11) :: .int 0 :: .int 0 :: .null :: .int 0 :: .int 0 :: .int 0 :: .int 0 :: .ref (v 12) :: .ref (v 13) :: .ref (v 14) :: .int (-1) :: .int 0 :: .int 0 :: .int 0 :: .int 0 :: .int 0 :: .int 0 :: .int 0 :: .ref (v 15) :: .int 0 :: .ref (v 16) :: .int 0 :: .ref (v 17) :: .ref (v 18) :: .int 0 :: .int 0 :: .int 0 :: .int 0 :: .ref (v 19) :: .ref (v 20) :: .ref (v 21) :: .ref (v 22) :: .ref (v 23) :: .ref (v 24) :: .ref (v 25) :: .ref (v 26) :: .ref (v 27) :: .int 0 :: .ref (v 28) :: .ref (v 29) :: .ref (v 30) :: .long 0 :: .int 0 :: .int 0 :: .int 0 :: .long 0 :: .int 0 :: .ref (v 31) :: .int 0 :: .int 0 :: .int 0 :: .int 0 :: .ref (v 32) :: .ref (v 33) :: .ref (v 34) :: [])))]) (wr := [((u 28), .inr (7, [.ref (u 29), .ref (u 30), .ref (u 31), .ref (u 32), .int 0, .int 0, .ref (u 33), .ref (u 34), .ref (u 35), .ref (u 4)])), ((u 30), .inl (y 0, 9, .inl nz)), (x, .inr (11, [.ref (u 0), .ref (u 2), .ref (u 4), .ref (u 19), .ref (u 24), .ref (u 28), .ref (u 36), .ref (u 44), .ref (u 52), .ref (u 58), .ref (u 63), .ref (u 64), .ref (u 65), .ref (u 66), .int 1, .null, .int 0])), ((u 4), .inr (9, [.ref (u 5), .ref (u 6), .ref (u 7), .ref (u 8), .int 0, .ref (u 9), .ref (u 10)]))]) (nr_V (As := [.int 3, .int x47, .int x49, .int x50]) (rest := [.int (-3)]) ⟨hx, hb, hml, hown, hts⟩ (cX12_sheet_4 l D y mm x47 (q_le hk48 (by decide +kernel)) x49 x50 (v 0) (v 1) (v 2) (v 3) (v 4) (v 5) (v 6) (v 7) (v 8) (v 9) (v 10) (v 11) (v 12) (v 13) (v 14) (v 15) (v 16) (v 17) (v 18) (v 19) (v 20) (v 21) (v 22) (v 23) (v 24) (v 25) (v 26) (v 27) (v 28) (v 29) (v 30) (v 31) (v 32) (v 33) (v 34) H.size) (cwV 4 hts gT_X12_sheet rfl rfl rfl (by decide +kernel) ⟨Nat.le_of_ble_eq_true rfl, Nat.le_of_ble_eq_true rfl⟩) hK hP hD hE [2] rfl (by decide +kernel) 0 12 rfl rfl rfl rfl rfl hl.1 rfl (lv_room (Nat.le_of_ble_eq_true rfl)) dL_law_482 ⟨Nat.le_of_ble_eq_true rfl, Nat.le_of_ble_eq_true rfl⟩) hP hD hS hA [2] [0, 1, 3, 4] rfl rfl (by decide +kernel) (by decide +kernel) (fun r54 u53 H locs er54 hP hD hS => ?_)
          subst er54
          refine lv_icmp_eq (tgt := 1592) hx hb dL_law_485 (by decide +kernel) (fun _ => ?_) (fun c => absurd (by decide +kernel) c)
          refine lv_iinc (v := 5) (lv' := [(4, .int 5), (3, .ref o), (2, .ref mm), (1, .ref x), (0, .ref b)]) hx hb dL_law_1592 hl (k := 0) rfl (by decide +kernel) (by decide +kernel) rfl (fun ls hl => ?_)
          refine lv_goto (tgt := 23) hx hb dL_law_1595 (by decide +kernel) ?_
          refine lv_iload hx hb dL_law_23 (lv_at hl 0 rfl) ?_
          refine lv_aload_n hx hb dL_law_25 rfl (lv_at hl 4 rfl) ?_
          refine va_slen hx hb hX hbl hbA hS dL_law_26 ?_
          refine nv_i (v := 5) rfl ?_
          refine lv_iconst (v := 5) hx hb dL_law_27 (by decide +kernel) ?_
          refine lv_isub hx hb dL_law_28 ?_
          refine nv_i (v := 0) (by decide +kernel) ?_
          refine lv_icmp_gt (tgt := 1598) hx hb dL_law_29 (by decide +kernel) (fun _ => ?_) (fun c => absurd (by decide +kernel) c)
          refine lv_iconst (v := 1) hx hb dL_law_1598 (by decide +kernel) ?_
          refine va_forget (fun q hq => hS.2.2 q hq) ?_
          refine W.widen (k := 600002) (n := 7302232) (Nat.le_of_ble_eq_true rfl) (Nat.le_of_ble_eq_true rfl) ?_
          exact lw_ret hx hb hr hlocks dL_law_1599
        · have hk48x := hk48
          rcases n_cut x47 9 10 (by decide +kernel) with hk55 | hk55
          · have hk55x := hk55
            refine lv_aload_n hx hb dL_law_442 rfl (lv_at hl 4 rfl) ?_
            refine lv_iload hx hb dL_law_443 (lv_at hl 0 rfl) ?_
            refine lv_iconst (v := 3) hx hb dL_law_445 (by decide +kernel) ?_
            refine lv_iadd hx hb dL_law_446 ?_
            refine nv_i (v := 3) (by decide +kernel) ?_
            refine va_sld hx hb hX hbl hbA hS (n_in (by decide +kernel)) dL_law_447 ?_
            refine lv_topi (fun x56 ex56 => ?_)
            refine lv_aload_n hx hb dL_law_448 rfl (lv_at hl 4 rfl) ?_
            refine lv_iload hx hb dL_law_449 (lv_at hl 0 rfl) ?_
            refine lv_iconst (v := 4) hx hb dL_law_451 (by decide +kernel) ?_
            refine lv_iadd hx hb dL_law_452 ?_
            refine nv_i (v := 4) (by decide +kernel) ?_
            refine va_sld hx hb hX hbl hbA hS (n_in (by decide +kernel)) dL_law_453 ?_
            refine lv_topi (fun x57 ex57 => ?_)
            refine nj_i (ws := [(x, .inr (11, [.ref (u 0), .ref (u 2), .ref (u 4), .ref (u 19), .ref (u 24), .ref (u 28), .ref (u 36), .ref (u 44), .ref (u 52), .ref (u 58), .ref (u 63), .ref (u 64), .ref (u 65), .ref (u 66), .int 1, .null, .int 0])), ((u 4), .inr (9, [.ref (u 5), .ref (u 6), .ref (u 7), .ref (u 8), .int 0, .ref (u 9), .ref (u 10)])), ((u 28), .inr (7, [.ref (u 29), .ref (u 30), .ref (u 31), .ref (u 32), .int 0, .int 0, .ref (u 33), .ref (u 34), .ref (u 35), .ref (u 4)])), ((u 30), .inl (y 0, 9, .inl nz)), (mm, .inr (12, (.int 0 :: .ref (v 0) :: .ref (v 1) :: .ref (v 2) :: .ref (v 3) :: .ref (v 4) :: .ref (v 5) :: .ref (v 6) :: .int 0 :: .ref (v 7) :: .int 0 :: .ref (v 8) :: .ref (v 9) :: .int 1 :: .ref (v 10) :: .int 0 :: .ref (v 11) :: .int 0 :: .int 0 :: .null :: .int 0 :: .int 0 :: .int 0 :: .int 0 :: .ref (v 12) :: .ref (v 13) :: .ref (v 14) :: .int (-1) :: .int 0 :: .int 0 :: .int 0 :: .int 0 :: .int 0 :: .int 0 :: .int 0 :: .ref (v 15) :: .int 0 :: .ref (v 16) :: .int 0 :: .ref (v 17) :: .ref (v 18) :: .int 0 :: .int 0 :: .int 0 :: .int 0 :: .ref (v 19) :: .ref (v 20) :: .ref (v 21) :: .ref (v 22) :: .ref (v 23) :: .ref (v 24) :: .ref (v 25) :: .ref (v 26) :: .ref (v 27) :: .int 0 :: .ref (v 28) :: .ref (v 29) :: .ref (v 30) :: .long 0 :: .int 0 :: .int 0 :: .int 0 :: .long 0 :: .int 0 :: .ref (v 31) :: .int 0 :: .int 0 :: .int 0 :: .int 0 :: .ref (v 32) :: .ref (v 33) :: .ref (v 34) :: [])))]) (wc := [(x, .inr (11, [.ref (u 0), .ref (u 2), .ref (u 4), .ref (u 19), .ref (u 24), .ref (u 28), .ref (u 36), .ref (u 44), .ref (u 52), .ref (u 58), .ref (u 63), .ref (u 64), .ref (u 65), .ref (u 66), .int 1, .null, .int 0])), ((u 4), .inr (9, [.ref (u 5), .ref (u 6), .ref (u 7), .ref (u 8), .int 0, .ref (u 9), .ref (u 10)]))]) (wr := [((u 28), .inr (7, [.ref (u 29), .ref (u 30), .ref (u 31), .ref (u 32), .int 0, .int 0, .ref (u 33), .ref (u 34), .ref (u 35), .ref (u 4)])), ((u 30), .inl (y 0, 9, .inl nz)), (mm, .inr (12, (.int 0 :: .ref (v 0) :: .ref (v 1) :: .ref (v 2) :: .ref (v 3) :: .ref (v 4) :: .ref (v 5) :: .ref (v 6) :: .int 0 :: .ref (v 7) :: .int 0 :: .ref (v 8) :: .ref (v 9) :: .int 1 :: .ref (v 10) :: .int 0 :: .ref (v 11) :: .int 0 :: .int 0 :: .null :: .int 0 :: .int 0 :: .int 0 :: .int 0 :: .ref (v 12) :: .ref (v 13) :: .ref (v 14) :: .int (-1) :: .int 0 :: .int 0 :: .int 0 :: .int 0 :: .int 0 :: .int 0 :: .int 0 :: .ref (v 15) :: .int 0 :: .ref (v 16) :: .int 0 :: .ref (v 17) :: .ref (v 18) :: .int 0 :: .int 0 :: .int 0 :: .int 0 :: .ref (v 19) :: .ref (v 20) :: .ref (v 21) :: .ref (v 22) :: .ref (v 23) :: .ref (v 24) :: .ref (v 25) :: .ref (v 26) :: .ref (v 27) :: .int 0 :: .ref (v 28) :: .ref (v 29) :: .ref (v 30) :: .long 0 :: .int 0 :: .int 0 :: .int 0 :: .long 0 :: .int 0 :: .ref (v 31) :: .int 0 :: .int 0 :: .int 0 :: .int 0 :: .ref (v 32) :: .ref (v 33) :: .ref (v 34) :: [])))]) (nr_V (As := [.int 3, .int x47, .int x56, .int x57]) (rest := []) ⟨hx, hb, hml, hown, hts⟩ (cX11_sheet_4 l D y x x47 hk55 x56 x57 (u 0) (u 2) (u 4) (u 19) (u 24) (u 28) (u 36) (u 44) (u 52) (u 58) (u 63) (u 64) (u 65) (u 66) (u 5) (u 6) (u 7) (u 8) (u 9) (u 10) H.size) (cwV 4 hts gT_X11_sheet rfl rfl rfl (by decide +kernel) ⟨Nat.le_of_ble_eq_true rfl, Nat.le_of_ble_eq_true rfl⟩) hK hP hD hE [0, 1] rfl (by decide +kernel) 0 11 rfl rfl rfl rfl rfl hl.1 rfl (lv_room (Nat.le_of_ble_eq_true rfl)) dL_law_454 ⟨Nat.le_of_ble_eq_true rfl, Nat.le_of_ble_eq_true rfl⟩) hP hD hS hA [0, 1] [2, 3, 4] rfl rfl (by decide +kernel) (by decide +kernel) (fun r59 u58 H locs er59 hP hD hS => ?_)
            subst er59
            refine lv_aload_n hx hb dL_law_457 rfl (lv_at hl 2 rfl) ?_
            refine lv_aload_n hx hb dL_law_458 rfl (lv_at hl 4 rfl) ?_
            refine lv_iload hx hb dL_law_459 (lv_at hl 0 rfl) ?_
            refine lv_iconst (v := 1) hx hb dL_law_461 (by decide +kernel) ?_
            refine lv_iadd hx hb dL_law_462 ?_
            refine nv_i (v := 1) (by decide +kernel) ?_
            refine va_sld hx hb hX hbl hbA hS (n_in (by decide +kernel)) dL_law_463 ?_
            refine nv_i (v := 3) (ex1).symm ?_
            refine lv_aload_n hx hb dL_law_464 rfl (lv_at hl 4 rfl) ?_
            refine lv_iload hx hb dL_law_465 (lv_at hl 0 rfl) ?_
            refine lv_iconst (v := 2) hx hb dL_law_467 (by decide +kernel) ?_
            refine lv_iadd hx hb dL_law_468 ?_
            refine nv_i (v := 2) (by decide +kernel) ?_
            refine va_sld hx hb hX hbl hbA hS (n_in (by decide +kernel)) dL_law_469 ?_
            refine nv_i (v := x47) (ex47).symm ?_
            refine lv_aload_n hx hb dL_law_470 rfl (lv_at hl 4 rfl) ?_
            refine lv_iload hx hb dL_law_471 (lv_at hl 0 rfl) ?_
            refine lv_iconst (v := 3) hx hb dL_law_473 (by decide +kernel) ?_
            refine lv_iadd hx hb dL_law_474 ?_
            refine nv_i (v := 3) (by decide +kernel) ?_
            refine va_sld hx hb hX hbl hbA hS (n_in (by decide +kernel)) dL_law_475 ?_
            refine nv_i (v := x56) (ex56).symm ?_
            refine lv_aload_n hx hb dL_law_476 rfl (lv_at hl 4 rfl) ?_
            refine lv_iload hx hb dL_law_477 (lv_at hl 0 rfl) ?_
            refine lv_iconst (v := 4) hx hb dL_law_479 (by decide +kernel) ?_
            refine lv_iadd hx hb dL_law_480 ?_
            refine nv_i (v := 4) (by decide +kernel) ?_
            refine va_sld hx hb hX hbl hbA hS (n_in (by decide +kernel)) dL_law_481 ?_
            refine nv_i (v := x57) (ex57).symm ?_
            refine nj_i (ws := [((u 28), .inr (7, [.ref (u 29), .ref (u 30), .ref (u 31), .ref (u 32), .int 0, .int 0, .ref (u 33), .ref (u 34), .ref (u 35), .ref (u 4)])), ((u 30), .inl (y 0, 9, .inl nz)), (mm, .inr (12, (.int 0 :: .ref (v 0) :: .ref (v 1) :: .ref (v 2) :: .ref (v 3) :: .ref (v 4) :: .ref (v 5) :: .ref (v 6) :: .int 0 :: .ref (v 7) :: .int 0 :: .ref (v 8) :: .ref (v 9) :: .int 1 :: .ref (v 10) :: .int 0 :: .ref (v 11) :: .int 0 :: .int 0 :: .null :: .int 0 :: .int 0 :: .int 0 :: .int 0 :: .ref (v 12) :: .ref (v 13) :: .ref (v 14) :: .int (-1) :: .int 0 :: .int 0 :: .int 0 :: .int 0 :: .int 0 :: .int 0 :: .int 0 :: .ref (v 15) :: .int 0 :: .ref (v 16) :: .int 0 :: .ref (v 17) :: .ref (v 18) :: .int 0 :: .int 0 :: .int 0 :: .int 0 :: .ref (v 19) :: .ref (v 20) :: .ref (v 21) :: .ref (v 22) :: .ref (v 23) :: .ref (v 24) :: .ref (v 25) :: .ref (v 26) :: .ref (v 27) :: .int 0 :: .ref (v 28) :: .ref (v 29) :: .ref (v 30) :: .long 0 :: .int 0 :: .int 0 :: .int 0 :: .long 0 :: .int 0 :: .ref (v 31) :: .int 0 :: .int 0 :: .int 0 :: .int 0 :: .ref (v 32) :: .ref (v 33) :: .ref (v 34) :: []))), (x, .inr (11, [.ref (u 0), .ref (u 2), .ref (u 4), .ref (u 19), .ref (u 24), .ref (u 28), .ref (u 36), .ref (u 44), .ref (u 52), .ref (u 58), .ref (u 63), .ref (u 64), .ref (u 65), .ref (u 66), .int 1, .null, .int 0])), ((u 4), .inr (9, [.ref (u 5), .ref (u 6), .ref (u 7), .ref (u 8), .int 0, .ref (u 9), .ref (u 10)]))]) (wc := [(mm, .inr (12, (.int 0 :: .ref (v 0) :: .ref (v 1) :: .ref (v 2) :: .ref (v 3) :: .ref (v 4) :: .ref (v 5) :: .ref (v 6) :: .int 0 :: .ref (v 7) :: .int 0 :: .ref (v 8) :: .ref (v 9) :: .int 1 :: .ref (v 10) :: .int 0 :: .ref (v 11) :: .int 0 :: .int 0 :: .null :: .int 0 :: .int 0 :: .int 0 :: .int 0 :: .ref (v 12) :: .ref (v 13) :: .ref (v 14) :: .int (-1) :: .int 0 :: .int 0 :: .int 0 :: .int 0 :: .int 0 :: .int 0 :: .int 0 :: .ref (v 15) :: .int 0 :: .ref (v 16) :: .int 0 :: .ref (v 17) :: .ref (v 18) :: .int 0 :: .int 0 :: .int 0 :: .int 0 :: .ref (v 19) :: .ref (v 20) :: .ref (v 21) :: .ref (v 22) :: .ref (v 23) :: .ref (v 24) :: .ref (v 25) :: .ref (v 26) :: .ref (v 27) :: .int 0 :: .ref (v 28) :: .ref (v 29) :: .ref (v 30) :: .long 0 :: .int 0 :: .int 0 :: .int 0 :: .long 0 :: .int 0 :: .ref (v 31) :: .int 0 :: .int 0 :: .int 0 :: .int 0 :: .ref (v 32) :: .ref (v 33) :: .ref (v 34) :: [])))]) (wr := [((u 28), .inr (7, [.ref (u 29), .ref (u 30), .ref (u 31), .ref (u 32), .int 0, .int 0, .ref (u 33), .ref (u 34), .ref (u 35), .ref (u 4)])), ((u 30), .inl (y 0, 9, .inl nz)), (x, .inr (11, [.ref (u 0), .ref (u 2), .ref (u 4), .ref (u 19), .ref (u 24), .ref (u 28), .ref (u 36), .ref (u 44), .ref (u 52), .ref (u 58), .ref (u 63), .ref (u 64), .ref (u 65), .ref (u 66), .int 1, .null, .int 0])), ((u 4), .inr (9, [.ref (u 5), .ref (u 6), .ref (u 7), .ref (u 8), .int 0, .ref (u 9), .ref (u 10)]))]) (nr_V (As := [.int 3, .int x47, .int x56, .int x57]) (rest := [.int (-3)]) ⟨hx, hb, hml, hown, hts⟩ (cX12_sheet_4 l D y mm x47 hk55 x56 x57 (v 0) (v 1) (v 2) (v 3) (v 4) (v 5) (v 6) (v 7) (v 8) (v 9) (v 10) (v 11) (v 12) (v 13) (v 14) (v 15) (v 16) (v 17) (v 18) (v 19) (v 20) (v 21) (v 22) (v 23) (v 24) (v 25) (v 26) (v 27) (v 28) (v 29) (v 30) (v 31) (v 32) (v 33) (v 34) H.size) (cwV 4 hts gT_X12_sheet rfl rfl rfl (by decide +kernel) ⟨Nat.le_of_ble_eq_true rfl, Nat.le_of_ble_eq_true rfl⟩) hK hP hD hE [2] rfl (by decide +kernel) 0 12 rfl rfl rfl rfl rfl hl.1 rfl (lv_room (Nat.le_of_ble_eq_true rfl)) dL_law_482 ⟨Nat.le_of_ble_eq_true rfl, Nat.le_of_ble_eq_true rfl⟩) hP hD hS hA [2] [0, 1, 3, 4] rfl rfl (by decide +kernel) (by decide +kernel) (fun r61 u60 H locs er61 hP hD hS => ?_)
            subst er61
            refine lv_icmp_eq (tgt := 1592) hx hb dL_law_485 (by decide +kernel) (fun _ => ?_) (fun c => absurd (by decide +kernel) c)
            refine lv_iinc (v := 5) (lv' := [(4, .int 5), (3, .ref o), (2, .ref mm), (1, .ref x), (0, .ref b)]) hx hb dL_law_1592 hl (k := 0) rfl (by decide +kernel) (by decide +kernel) rfl (fun ls hl => ?_)
            refine lv_goto (tgt := 23) hx hb dL_law_1595 (by decide +kernel) ?_
            refine lv_iload hx hb dL_law_23 (lv_at hl 0 rfl) ?_
            refine lv_aload_n hx hb dL_law_25 rfl (lv_at hl 4 rfl) ?_
            refine va_slen hx hb hX hbl hbA hS dL_law_26 ?_
            refine nv_i (v := 5) rfl ?_
            refine lv_iconst (v := 5) hx hb dL_law_27 (by decide +kernel) ?_
            refine lv_isub hx hb dL_law_28 ?_
            refine nv_i (v := 0) (by decide +kernel) ?_
            refine lv_icmp_gt (tgt := 1598) hx hb dL_law_29 (by decide +kernel) (fun _ => ?_) (fun c => absurd (by decide +kernel) c)
            refine lv_iconst (v := 1) hx hb dL_law_1598 (by decide +kernel) ?_
            refine va_forget (fun q hq => hS.2.2 q hq) ?_
            refine W.widen (k := 600002) (n := 7302232) (Nat.le_of_ble_eq_true rfl) (Nat.le_of_ble_eq_true rfl) ?_
            exact lw_ret hx hb hr hlocks dL_law_1599
          · have hk55x := hk55
            refine lv_aload_n hx hb dL_law_442 rfl (lv_at hl 4 rfl) ?_
            refine lv_iload hx hb dL_law_443 (lv_at hl 0 rfl) ?_
            refine lv_iconst (v := 3) hx hb dL_law_445 (by decide +kernel) ?_
            refine lv_iadd hx hb dL_law_446 ?_
            refine nv_i (v := 3) (by decide +kernel) ?_
            refine va_sld hx hb hX hbl hbA hS (n_in (by decide +kernel)) dL_law_447 ?_
            refine lv_topi (fun x62 ex62 => ?_)
            refine lv_aload_n hx hb dL_law_448 rfl (lv_at hl 4 rfl) ?_
            refine lv_iload hx hb dL_law_449 (lv_at hl 0 rfl) ?_
            refine lv_iconst (v := 4) hx hb dL_law_451 (by decide +kernel) ?_
            refine lv_iadd hx hb dL_law_452 ?_
            refine nv_i (v := 4) (by decide +kernel) ?_
            refine va_sld hx hb hX hbl hbA hS (n_in (by decide +kernel)) dL_law_453 ?_
            refine lv_topi (fun x63 ex63 => ?_)
            refine nj_i (ws := [(x, .inr (11, [.ref (u 0), .ref (u 2), .ref (u 4), .ref (u 19), .ref (u 24), .ref (u 28), .ref (u 36), .ref (u 44), .ref (u 52), .ref (u 58), .ref (u 63), .ref (u 64), .ref (u 65), .ref (u 66), .int 1, .null, .int 0])), ((u 4), .inr (9, [.ref (u 5), .ref (u 6), .ref (u 7), .ref (u 8), .int 0, .ref (u 9), .ref (u 10)])), ((u 28), .inr (7, [.ref (u 29), .ref (u 30), .ref (u 31), .ref (u 32), .int 0, .int 0, .ref (u 33), .ref (u 34), .ref (u 35), .ref (u 4)])), ((u 30), .inl (y 0, 9, .inl nz)), (mm, .inr (12, (.int 0 :: .ref (v 0) :: .ref (v 1) :: .ref (v 2) :: .ref (v 3) :: .ref (v 4) :: .ref (v 5) :: .ref (v 6) :: .int 0 :: .ref (v 7) :: .int 0 :: .ref (v 8) :: .ref (v 9) :: .int 1 :: .ref (v 10) :: .int 0 :: .ref (v 11) :: .int 0 :: .int 0 :: .null :: .int 0 :: .int 0 :: .int 0 :: .int 0 :: .ref (v 12) :: .ref (v 13) :: .ref (v 14) :: .int (-1) :: .int 0 :: .int 0 :: .int 0 :: .int 0 :: .int 0 :: .int 0 :: .int 0 :: .ref (v 15) :: .int 0 :: .ref (v 16) :: .int 0 :: .ref (v 17) :: .ref (v 18) :: .int 0 :: .int 0 :: .int 0 :: .int 0 :: .ref (v 19) :: .ref (v 20) :: .ref (v 21) :: .ref (v 22) :: .ref (v 23) :: .ref (v 24) :: .ref (v 25) :: .ref (v 26) :: .ref (v 27) :: .int 0 :: .ref (v 28) :: .ref (v 29) :: .ref (v 30) :: .long 0 :: .int 0 :: .int 0 :: .int 0 :: .long 0 :: .int 0 :: .ref (v 31) :: .int 0 :: .int 0 :: .int 0 :: .int 0 :: .ref (v 32) :: .ref (v 33) :: .ref (v 34) :: [])))]) (wc := [(x, .inr (11, [.ref (u 0), .ref (u 2), .ref (u 4), .ref (u 19), .ref (u 24), .ref (u 28), .ref (u 36), .ref (u 44), .ref (u 52), .ref (u 58), .ref (u 63), .ref (u 64), .ref (u 65), .ref (u 66), .int 1, .null, .int 0]))]) (wr := [((u 4), .inr (9, [.ref (u 5), .ref (u 6), .ref (u 7), .ref (u 8), .int 0, .ref (u 9), .ref (u 10)])), ((u 28), .inr (7, [.ref (u 29), .ref (u 30), .ref (u 31), .ref (u 32), .int 0, .int 0, .ref (u 33), .ref (u 34), .ref (u 35), .ref (u 4)])), ((u 30), .inl (y 0, 9, .inl nz)), (mm, .inr (12, (.int 0 :: .ref (v 0) :: .ref (v 1) :: .ref (v 2) :: .ref (v 3) :: .ref (v 4) :: .ref (v 5) :: .ref (v 6) :: .int 0 :: .ref (v 7) :: .int 0 :: .ref (v 8) :: .ref (v 9) :: .int 1 :: .ref (v 10) :: .int 0 :: .ref (v 11) :: .int 0 :: .int 0 :: .null :: .int 0 :: .int 0 :: .int 0 :: .int 0 :: .ref (v 12) :: .ref (v 13) :: .ref (v 14) :: .int (-1) :: .int 0 :: .int 0 :: .int 0 :: .int 0 :: .int 0 :: .int 0 :: .int 0 :: .ref (v 15) :: .int 0 :: .ref (v 16) :: .int 0 :: .ref (v 17) :: .ref (v 18) :: .int 0 :: .int 0 :: .int 0 :: .int 0 :: .ref (v 19) :: .ref (v 20) :: .ref (v 21) :: .ref (v 22) :: .ref (v 23) :: .ref (v 24) :: .ref (v 25) :: .ref (v 26) :: .ref (v 27) :: .int 0 :: .ref (v 28) :: .ref (v 29) :: .ref (v 30) :: .long 0 :: .int 0 :: .int 0 :: .int 0 :: .long 0 :: .int 0 :: .ref (v 31) :: .int 0 :: .int 0 :: .int 0 :: .int 0 :: .ref (v 32) :: .ref (v 33) :: .ref (v 34) :: [])))]) (nr_V (As := [.int 3, .int x47, .int x62, .int x63]) (rest := []) ⟨hx, hb, hml, hown, hts⟩ (cX11_sheet_3 l D y x 3 (by decide +kernel) (by decide +kernel) x47 hk55 x62 x63 (u 0) (u 2) (u 4) (u 19) (u 24) (u 28) (u 36) (u 44) (u 52) (u 58) (u 63) (u 64) (u 65) (u 66) H.size) (cwV 4 hts gT_X11_sheet rfl rfl rfl (by decide +kernel) ⟨Nat.le_of_ble_eq_true rfl, Nat.le_of_ble_eq_true rfl⟩) hK hP hD hE [0] rfl (by decide +kernel) 0 11 rfl rfl rfl rfl rfl hl.1 rfl (lv_room (Nat.le_of_ble_eq_true rfl)) dL_law_454 ⟨Nat.le_of_ble_eq_true rfl, Nat.le_of_ble_eq_true rfl⟩) hP hD hS hA [0] [1, 2, 3, 4] rfl rfl (by decide +kernel) (by decide +kernel) (fun r65 u64 H locs er65 hP hD hS => ?_)
            subst er65
            refine lv_aload_n hx hb dL_law_457 rfl (lv_at hl 2 rfl) ?_
            refine lv_aload_n hx hb dL_law_458 rfl (lv_at hl 4 rfl) ?_
            refine lv_iload hx hb dL_law_459 (lv_at hl 0 rfl) ?_
            refine lv_iconst (v := 1) hx hb dL_law_461 (by decide +kernel) ?_
            refine lv_iadd hx hb dL_law_462 ?_
            refine nv_i (v := 1) (by decide +kernel) ?_
            refine va_sld hx hb hX hbl hbA hS (n_in (by decide +kernel)) dL_law_463 ?_
            refine nv_i (v := 3) (ex1).symm ?_
            refine lv_aload_n hx hb dL_law_464 rfl (lv_at hl 4 rfl) ?_
            refine lv_iload hx hb dL_law_465 (lv_at hl 0 rfl) ?_
            refine lv_iconst (v := 2) hx hb dL_law_467 (by decide +kernel) ?_
            refine lv_iadd hx hb dL_law_468 ?_
            refine nv_i (v := 2) (by decide +kernel) ?_
            refine va_sld hx hb hX hbl hbA hS (n_in (by decide +kernel)) dL_law_469 ?_
            refine nv_i (v := x47) (ex47).symm ?_
            refine lv_aload_n hx hb dL_law_470 rfl (lv_at hl 4 rfl) ?_
            refine lv_iload hx hb dL_law_471 (lv_at hl 0 rfl) ?_
            refine lv_iconst (v := 3) hx hb dL_law_473 (by decide +kernel) ?_
            refine lv_iadd hx hb dL_law_474 ?_
            refine nv_i (v := 3) (by decide +kernel) ?_
            refine va_sld hx hb hX hbl hbA hS (n_in (by decide +kernel)) dL_law_475 ?_
            refine nv_i (v := x62) (ex62).symm ?_
            refine lv_aload_n hx hb dL_law_476 rfl (lv_at hl 4 rfl) ?_
            refine lv_iload hx hb dL_law_477 (lv_at hl 0 rfl) ?_
            refine lv_iconst (v := 4) hx hb dL_law_479 (by decide +kernel) ?_
            refine lv_iadd hx hb dL_law_480 ?_
            refine nv_i (v := 4) (by decide +kernel) ?_
            refine va_sld hx hb hX hbl hbA hS (n_in (by decide +kernel)) dL_law_481 ?_
            refine nv_i (v := x63) (ex63).symm ?_
            refine nj_i (ws := [((u 4), .inr (9, [.ref (u 5), .ref (u 6), .ref (u 7), .ref (u 8), .int 0, .ref (u 9), .ref (u 10)])), ((u 28), .inr (7, [.ref (u 29), .ref (u 30), .ref (u 31), .ref (u 32), .int 0, .int 0, .ref (u 33), .ref (u 34), .ref (u 35), .ref (u 4)])), ((u 30), .inl (y 0, 9, .inl nz)), (mm, .inr (12, (.int 0 :: .ref (v 0) :: .ref (v 1) :: .ref (v 2) :: .ref (v 3) :: .ref (v 4) :: .ref (v 5) :: .ref (v 6) :: .int 0 :: .ref (v 7) :: .int 0 :: .ref (v 8) :: .ref (v 9) :: .int 1 :: .ref (v 10) :: .int 0 :: .ref (v 11) :: .int 0 :: .int 0 :: .null :: .int 0 :: .int 0 :: .int 0 :: .int 0 :: .ref (v 12) :: .ref (v 13) :: .ref (v 14) :: .int (-1) :: .int 0 :: .int 0 :: .int 0 :: .int 0 :: .int 0 :: .int 0 :: .int 0 :: .ref (v 15) :: .int 0 :: .ref (v 16) :: .int 0 :: .ref (v 17) :: .ref (v 18) :: .int 0 :: .int 0 :: .int 0 :: .int 0 :: .ref (v 19) :: .ref (v 20) :: .ref (v 21) :: .ref (v 22) :: .ref (v 23) :: .ref (v 24) :: .ref (v 25) :: .ref (v 26) :: .ref (v 27) :: .int 0 :: .ref (v 28) :: .ref (v 29) :: .ref (v 30) :: .long 0 :: .int 0 :: .int 0 :: .int 0 :: .long 0 :: .int 0 :: .ref (v 31) :: .int 0 :: .int 0 :: .int 0 :: .int 0 :: .ref (v 32) :: .ref (v 33) :: .ref (v 34) :: []))), (x, .inr (11, [.ref (u 0), .ref (u 2), .ref (u 4), .ref (u 19), .ref (u 24), .ref (u 28), .ref (u 36), .ref (u 44), .ref (u 52), .ref (u 58), .ref (u 63), .ref (u 64), .ref (u 65), .ref (u 66), .int 1, .null, .int 0]))]) (wc := [(mm, .inr (12, (.int 0 :: .ref (v 0) :: .ref (v 1) :: .ref (v 2) :: .ref (v 3) :: .ref (v 4) :: .ref (v 5) :: .ref (v 6) :: .int 0 :: .ref (v 7) :: .int 0 :: .ref (v 8) :: .ref (v 9) :: .int 1 :: .ref (v 10) :: .int 0 :: .ref (v 11) :: .int 0 :: .int 0 :: .null :: .int 0 :: .int 0 :: .int 0 :: .int 0 :: .ref (v 12) :: .ref (v 13) :: .ref (v 14) :: .int (-1) :: .int 0 :: .int 0 :: .int 0 :: .int 0 :: .int 0 :: .int 0 :: .int 0 :: .ref (v 15) :: .int 0 :: .ref (v 16) :: .int 0 :: .ref (v 17) :: .ref (v 18) :: .int 0 :: .int 0 :: .int 0 :: .int 0 :: .ref (v 19) :: .ref (v 20) :: .ref (v 21) :: .ref (v 22) :: .ref (v 23) :: .ref (v 24) :: .ref (v 25) :: .ref (v 26) :: .ref (v 27) :: .int 0 :: .ref (v 28) :: .ref (v 29) :: .ref (v 30) :: .long 0 :: .int 0 :: .int 0 :: .int 0 :: .long 0 :: .int 0 :: .ref (v 31) :: .int 0 :: .int 0 :: .int 0 :: .int 0 :: .ref (v 32) :: .ref (v 33) :: .ref (v 34) :: [])))]) (wr := [((u 4), .inr (9, [.ref (u 5), .ref (u 6), .ref (u 7), .ref (u 8), .int 0, .ref (u 9), .ref (u 10)])), ((u 28), .inr (7, [.ref (u 29), .ref (u 30), .ref (u 31), .ref (u 32), .int 0, .int 0, .ref (u 33), .ref (u 34), .ref (u 35), .ref (u 4)])), ((u 30), .inl (y 0, 9, .inl nz)), (x, .inr (11, [.ref (u 0), .ref (u 2), .ref (u 4), .ref (u 19), .ref (u 24), .ref (u 28), .ref (u 36), .ref (u 44), .ref (u 52), .ref (u 58), .ref (u 63), .ref (u 64), .ref (u 65), .ref (u 66), .int 1, .null, .int 0]))]) (nr_V (As := [.int 3, .int x47, .int x62, .int x63]) (rest := [.int (-1)]) ⟨hx, hb, hml, hown, hts⟩ (cX12_sheet_3 l D y mm 3 (by decide +kernel) (by decide +kernel) x47 hk55 x62 x63 (v 0) (v 1) (v 2) (v 3) (v 4) (v 5) (v 6) (v 7) (v 8) (v 9) (v 10) (v 11) (v 12) (v 13) (v 14) (v 15) (v 16) (v 17) (v 18) (v 19) (v 20) (v 21) (v 22) (v 23) (v 24) (v 25) (v 26) (v 27) (v 28) (v 29) (v 30) (v 31) (v 32) (v 33) (v 34) H.size) (cwV 4 hts gT_X12_sheet rfl rfl rfl (by decide +kernel) ⟨Nat.le_of_ble_eq_true rfl, Nat.le_of_ble_eq_true rfl⟩) hK hP hD hE [3] rfl (by decide +kernel) 0 12 rfl rfl rfl rfl rfl hl.1 rfl (lv_room (Nat.le_of_ble_eq_true rfl)) dL_law_482 ⟨Nat.le_of_ble_eq_true rfl, Nat.le_of_ble_eq_true rfl⟩) hP hD hS hA [3] [0, 1, 2, 4] rfl rfl (by decide +kernel) (by decide +kernel) (fun r67 u66 H locs er67 hP hD hS => ?_)
            subst er67
            refine lv_icmp_eq (tgt := 1592) hx hb dL_law_485 (by decide +kernel) (fun _ => ?_) (fun c => absurd (by decide +kernel) c)
            refine lv_iinc (v := 5) (lv' := [(4, .int 5), (3, .ref o), (2, .ref mm), (1, .ref x), (0, .ref b)]) hx hb dL_law_1592 hl (k := 0) rfl (by decide +kernel) (by decide +kernel) rfl (fun ls hl => ?_)
            refine lv_goto (tgt := 23) hx hb dL_law_1595 (by decide +kernel) ?_
            refine lv_iload hx hb dL_law_23 (lv_at hl 0 rfl) ?_
            refine lv_aload_n hx hb dL_law_25 rfl (lv_at hl 4 rfl) ?_
            refine va_slen hx hb hX hbl hbA hS dL_law_26 ?_
            refine nv_i (v := 5) rfl ?_
            refine lv_iconst (v := 5) hx hb dL_law_27 (by decide +kernel) ?_
            refine lv_isub hx hb dL_law_28 ?_
            refine nv_i (v := 0) (by decide +kernel) ?_
            refine lv_icmp_gt (tgt := 1598) hx hb dL_law_29 (by decide +kernel) (fun _ => ?_) (fun c => absurd (by decide +kernel) c)
            refine lv_iconst (v := 1) hx hb dL_law_1598 (by decide +kernel) ?_
            refine va_forget (fun q hq => hS.2.2 q hq) ?_
            refine W.widen (k := 600002) (n := 7302232) (Nat.le_of_ble_eq_true rfl) (Nat.le_of_ble_eq_true rfl) ?_
            exact lw_ret hx hb hr hlocks dL_law_1599
      · have hk46x := hk46
        refine lv_aload_n hx hb dL_law_436 rfl (lv_at hl 4 rfl) ?_
        refine lv_iload hx hb dL_law_437 (lv_at hl 0 rfl) ?_
        refine lv_iconst (v := 2) hx hb dL_law_439 (by decide +kernel) ?_
        refine lv_iadd hx hb dL_law_440 ?_
        refine nv_i (v := 2) (by decide +kernel) ?_
        refine va_sld hx hb hX hbl hbA hS (n_in (by decide +kernel)) dL_law_441 ?_
        refine lv_topi (fun x68 ex68 => ?_)
        rcases n_cut x68 (-1) 0 (by decide +kernel) with hk69 | hk69
        · have hk69x := hk69
          refine lv_aload_n hx hb dL_law_442 rfl (lv_at hl 4 rfl) ?_
          refine lv_iload hx hb dL_law_443 (lv_at hl 0 rfl) ?_
          refine lv_iconst (v := 3) hx hb dL_law_445 (by decide +kernel) ?_
          refine lv_iadd hx hb dL_law_446 ?_
          refine nv_i (v := 3) (by decide +kernel) ?_
          refine va_sld hx hb hX hbl hbA hS (n_in (by decide +kernel)) dL_law_447 ?_
          refine lv_topi (fun x70 ex70 => ?_)
          refine lv_aload_n hx hb dL_law_448 rfl (lv_at hl 4 rfl) ?_
          refine lv_iload hx hb dL_law_449 (lv_at hl 0 rfl) ?_
          refine lv_iconst (v := 4) hx hb dL_law_451 (by decide +kernel) ?_
          refine lv_iadd hx hb dL_law_452 ?_
          refine nv_i (v := 4) (by decide +kernel) ?_
          refine va_sld hx hb hX hbl hbA hS (n_in (by decide +kernel)) dL_law_453 ?_
          refine lv_topi (fun x71 ex71 => ?_)
          refine nj_i (ws := [(x, .inr (11, [.ref (u 0), .ref (u 2), .ref (u 4), .ref (u 19), .ref (u 24), .ref (u 28), .ref (u 36), .ref (u 44), .ref (u 52), .ref (u 58), .ref (u 63), .ref (u 64), .ref (u 65), .ref (u 66), .int 1, .null, .int 0])), ((u 4), .inr (9, [.ref (u 5), .ref (u 6), .ref (u 7), .ref (u 8), .int 0, .ref (u 9), .ref (u 10)])), ((u 28), .inr (7, [.ref (u 29), .ref (u 30), .ref (u 31), .ref (u 32), .int 0, .int 0, .ref (u 33), .ref (u 34), .ref (u 35), .ref (u 4)])), ((u 30), .inl (y 0, 9, .inl nz)), (mm, .inr (12, (.int 0 :: .ref (v 0) :: .ref (v 1) :: .ref (v 2) :: .ref (v 3) :: .ref (v 4) :: .ref (v 5) :: .ref (v 6) :: .int 0 :: .ref (v 7) :: .int 0 :: .ref (v 8) :: .ref (v 9) :: .int 1 :: .ref (v 10) :: .int 0 :: .ref (v 11) :: .int 0 :: .int 0 :: .null :: .int 0 :: .int 0 :: .int 0 :: .int 0 :: .ref (v 12) :: .ref (v 13) :: .ref (v 14) :: .int (-1) :: .int 0 :: .int 0 :: .int 0 :: .int 0 :: .int 0 :: .int 0 :: .int 0 :: .ref (v 15) :: .int 0 :: .ref (v 16) :: .int 0 :: .ref (v 17) :: .ref (v 18) :: .int 0 :: .int 0 :: .int 0 :: .int 0 :: .ref (v 19) :: .ref (v 20) :: .ref (v 21) :: .ref (v 22) :: .ref (v 23) :: .ref (v 24) :: .ref (v 25) :: .ref (v 26) :: .ref (v 27) :: .int 0 :: .ref (v 28) :: .ref (v 29) :: .ref (v 30) :: .long 0 :: .int 0 :: .int 0 :: .int 0 :: .long 0 :: .int 0 :: .ref (v 31) :: .int 0 :: .int 0 :: .int 0 :: .int 0 :: .ref (v 32) :: .ref (v 33) :: .ref (v 34) :: [])))]) (wc := [(x, .inr (11, [.ref (u 0), .ref (u 2), .ref (u 4), .ref (u 19), .ref (u 24), .ref (u 28), .ref (u 36), .ref (u 44), .ref (u 52), .ref (u 58), .ref (u 63), .ref (u 64), .ref (u 65), .ref (u 66), .int 1, .null, .int 0]))]) (wr := [((u 4), .inr (9, [.ref (u 5), .ref (u 6), .ref (u 7), .ref (u 8), .int 0, .ref (u 9), .ref (u 10)])), ((u 28), .inr (7, [.ref (u 29), .ref (u 30), .ref (u 31), .ref (u 32), .int 0, .int 0, .ref (u 33), .ref (u 34), .ref (u 35), .ref (u 4)])), ((u 30), .inl (y 0, 9, .inl nz)), (mm, .inr (12, (.int 0 :: .ref (v 0) :: .ref (v 1) :: .ref (v 2) :: .ref (v 3) :: .ref (v 4) :: .ref (v 5) :: .ref (v 6) :: .int 0 :: .ref (v 7) :: .int 0 :: .ref (v 8) :: .ref (v 9) :: .int 1 :: .ref (v 10) :: .int 0 :: .ref (v 11) :: .int 0 :: .int 0 :: .null :: .int 0 :: .int 0 :: .int 0 :: .int 0 :: .ref (v 12) :: .ref (v 13) :: .ref (v 14) :: .int (-1) :: .int 0 :: .int 0 :: .int 0 :: .int 0 :: .int 0 :: .int 0 :: .int 0 :: .ref (v 15) :: .int 0 :: .ref (v 16) :: .int 0 :: .ref (v 17) :: .ref (v 18) :: .int 0 :: .int 0 :: .int 0 :: .int 0 :: .ref (v 19) :: .ref (v 20) :: .ref (v 21) :: .ref (v 22) :: .ref (v 23) :: .ref (v 24) :: .ref (v 25) :: .ref (v 26) :: .ref (v 27) :: .int 0 :: .ref (v 28) :: .ref (v 29) :: .ref (v 30) :: .long 0 :: .int 0 :: .int 0 :: .int 0 :: .long 0 :: .int 0 :: .ref (v 31) :: .int 0 :: .int 0 :: .int 0 :: .int 0 :: .ref (v 32) :: .ref (v 33) :: .ref (v 34) :: [])))]) (nr_V (As := [.int x1, .int x68, .int x70, .int x71]) (rest := []) ⟨hx, hb, hml, hown, hts⟩ (cX11_sheet_2 l D y x x1 hk46 x68 x70 x71 (u 0) (u 2) (u 4) (u 19) (u 24) (u 28) (u 36) (u 44) (u 52) (u 58) (u 63) (u 64) (u 65) (u 66) H.size) (cwV 4 hts gT_X11_sheet rfl rfl rfl (by decide +kernel) ⟨Nat.le_of_ble_eq_true rfl, Nat.le_of_ble_eq_true rfl⟩) hK hP hD hE [0] rfl (by decide +kernel) 0 11 rfl rfl rfl rfl rfl hl.1 rfl (lv_room (Nat.le_of_ble_eq_true rfl)) dL_law_454 ⟨Nat.le_of_ble_eq_true rfl, Nat.le_of_ble_eq_true rfl⟩) hP hD hS hA [0] [1, 2, 3, 4] rfl rfl (by decide +kernel) (by decide +kernel) (fun r73 u72 H locs er73 hP hD hS => ?_)
          subst er73
          refine lv_aload_n hx hb dL_law_457 rfl (lv_at hl 2 rfl) ?_
          refine lv_aload_n hx hb dL_law_458 rfl (lv_at hl 4 rfl) ?_
          refine lv_iload hx hb dL_law_459 (lv_at hl 0 rfl) ?_
          refine lv_iconst (v := 1) hx hb dL_law_461 (by decide +kernel) ?_
          refine lv_iadd hx hb dL_law_462 ?_
          refine nv_i (v := 1) (by decide +kernel) ?_
          refine va_sld hx hb hX hbl hbA hS (n_in (by decide +kernel)) dL_law_463 ?_
          refine nv_i (v := x1) (ex1).symm ?_
          refine lv_aload_n hx hb dL_law_464 rfl (lv_at hl 4 rfl) ?_
          refine lv_iload hx hb dL_law_465 (lv_at hl 0 rfl) ?_
          refine lv_iconst (v := 2) hx hb dL_law_467 (by decide +kernel) ?_
          refine lv_iadd hx hb dL_law_468 ?_
          refine nv_i (v := 2) (by decide +kernel) ?_
          refine va_sld hx hb hX hbl hbA hS (n_in (by decide +kernel)) dL_law_469 ?_
          refine nv_i (v := x68) (ex68).symm ?_
          refine lv_aload_n hx hb dL_law_470 rfl (lv_at hl 4 rfl) ?_
          refine lv_iload hx hb dL_law_471 (lv_at hl 0 rfl) ?_
          refine lv_iconst (v := 3) hx hb dL_law_473 (by decide +kernel) ?_
          refine lv_iadd hx hb dL_law_474 ?_
          refine nv_i (v := 3) (by decide +kernel) ?_
          refine va_sld hx hb hX hbl hbA hS (n_in (by decide +kernel)) dL_law_475 ?_
          refine nv_i (v := x70) (ex70).symm ?_
          refine lv_aload_n hx hb dL_law_476 rfl (lv_at hl 4 rfl) ?_
          refine lv_iload hx hb dL_law_477 (lv_at hl 0 rfl) ?_
          refine lv_iconst (v := 4) hx hb dL_law_479 (by decide +kernel) ?_
          refine lv_iadd hx hb dL_law_480 ?_
          refine nv_i (v := 4) (by decide +kernel) ?_
          refine va_sld hx hb hX hbl hbA hS (n_in (by decide +kernel)) dL_law_481 ?_
          refine nv_i (v := x71) (ex71).symm ?_
          refine nj_i (ws := [((u 4), .inr (9, [.ref (u 5), .ref (u 6), .ref (u 7), .ref (u 8), .int 0, .ref (u 9), .ref (u 10)])), ((u 28), .inr (7, [.ref (u 29), .ref (u 30), .ref (u 31), .ref (u 32), .int 0, .int 0, .ref (u 33), .ref (u 34), .ref (u 35), .ref (u 4)])), ((u 30), .inl (y 0, 9, .inl nz)), (mm, .inr (12, (.int 0 :: .ref (v 0) :: .ref (v 1) :: .ref (v 2) :: .ref (v 3) :: .ref (v 4) :: .ref (v 5) :: .ref (v 6) :: .int 0 :: .ref (v 7) :: .int 0 :: .ref (v 8) :: .ref (v 9) :: .int 1 :: .ref (v 10) :: .int 0 :: .ref (v 11) :: .int 0 :: .int 0 :: .null :: .int 0 :: .int 0 :: .int 0 :: .int 0 :: .ref (v 12) :: .ref (v 13) :: .ref (v 14) :: .int (-1) :: .int 0 :: .int 0 :: .int 0 :: .int 0 :: .int 0 :: .int 0 :: .int 0 :: .ref (v 15) :: .int 0 :: .ref (v 16) :: .int 0 :: .ref (v 17) :: .ref (v 18) :: .int 0 :: .int 0 :: .int 0 :: .int 0 :: .ref (v 19) :: .ref (v 20) :: .ref (v 21) :: .ref (v 22) :: .ref (v 23) :: .ref (v 24) :: .ref (v 25) :: .ref (v 26) :: .ref (v 27) :: .int 0 :: .ref (v 28) :: .ref (v 29) :: .ref (v 30) :: .long 0 :: .int 0 :: .int 0 :: .int 0 :: .long 0 :: .int 0 :: .ref (v 31) :: .int 0 :: .int 0 :: .int 0 :: .int 0 :: .ref (v 32) :: .ref (v 33) :: .ref (v 34) :: []))), (x, .inr (11, [.ref (u 0), .ref (u 2), .ref (u 4), .ref (u 19), .ref (u 24), .ref (u 28), .ref (u 36), .ref (u 44), .ref (u 52), .ref (u 58), .ref (u 63), .ref (u 64), .ref (u 65), .ref (u 66), .int 1, .null, .int 0]))]) (wc := [(mm, .inr (12, (.int 0 :: .ref (v 0) :: .ref (v 1) :: .ref (v 2) :: .ref (v 3) :: .ref (v 4) :: .ref (v 5) :: .ref (v 6) :: .int 0 :: .ref (v 7) :: .int 0 :: .ref (v 8) :: .ref (v 9) :: .int 1 :: .ref (v 10) :: .int 0 :: .ref (v 11) :: .int 0 :: .int 0 :: .null :: .int 0 :: .int 0 :: .int 0 :: .int 0 :: .ref (v 12) :: .ref (v 13) :: .ref (v 14) :: .int (-1) :: .int 0 :: .int 0 :: .int 0 :: .int 0 :: .int 0 :: .int 0 :: .int 0 :: .ref (v 15) :: .int 0 :: .ref (v 16) :: .int 0 :: .ref (v 17) :: .ref (v 18) :: .int 0 :: .int 0 :: .int 0 :: .int 0 :: .ref (v 19) :: .ref (v 20) :: .ref (v 21) :: .ref (v 22) :: .ref (v 23) :: .ref (v 24) :: .ref (v 25) :: .ref (v 26) :: .ref (v 27) :: .int 0 :: .ref (v 28) :: .ref (v 29) :: .ref (v 30) :: .long 0 :: .int 0 :: .int 0 :: .int 0 :: .long 0 :: .int 0 :: .ref (v 31) :: .int 0 :: .int 0 :: .int 0 :: .int 0 :: .ref (v 32) :: .ref (v 33) :: .ref (v 34) :: [])))]) (wr := [((u 4), .inr (9, [.ref (u 5), .ref (u 6), .ref (u 7), .ref (u 8), .int 0, .ref (u 9), .ref (u 10)])), ((u 28), .inr (7, [.ref (u 29), .ref (u 30), .ref (u 31), .ref (u 32), .int 0, .int 0, .ref (u 33), .ref (u 34), .ref (u 35), .ref (u 4)])), ((u 30), .inl (y 0, 9, .inl nz)), (x, .inr (11, [.ref (u 0), .ref (u 2), .ref (u 4), .ref (u 19), .ref (u 24), .ref (u 28), .ref (u 36), .ref (u 44), .ref (u 52), .ref (u 58), .ref (u 63), .ref (u 64), .ref (u 65), .ref (u 66), .int 1, .null, .int 0]))]) (nr_V (As := [.int x1, .int x68, .int x70, .int x71]) (rest := [.int (-1)]) ⟨hx, hb, hml, hown, hts⟩ (cX12_sheet_2 l D y mm x1 hk46 x68 x70 x71 (v 0) (v 1) (v 2) (v 3) (v 4) (v 5) (v 6) (v 7) (v 8) (v 9) (v 10) (v 11) (v 12) (v 13) (v 14) (v 15) (v 16) (v 17) (v 18) (v 19) (v 20) (v 21) (v 22) (v 23) (v 24) (v 25) (v 26) (v 27) (v 28) (v 29) (v 30) (v 31) (v 32) (v 33) (v 34) H.size) (cwV 4 hts gT_X12_sheet rfl rfl rfl (by decide +kernel) ⟨Nat.le_of_ble_eq_true rfl, Nat.le_of_ble_eq_true rfl⟩) hK hP hD hE [3] rfl (by decide +kernel) 0 12 rfl rfl rfl rfl rfl hl.1 rfl (lv_room (Nat.le_of_ble_eq_true rfl)) dL_law_482 ⟨Nat.le_of_ble_eq_true rfl, Nat.le_of_ble_eq_true rfl⟩) hP hD hS hA [3] [0, 1, 2, 4] rfl rfl (by decide +kernel) (by decide +kernel) (fun r75 u74 H locs er75 hP hD hS => ?_)
          subst er75
          refine lv_icmp_eq (tgt := 1592) hx hb dL_law_485 (by decide +kernel) (fun _ => ?_) (fun c => absurd (by decide +kernel) c)
          refine lv_iinc (v := 5) (lv' := [(4, .int 5), (3, .ref o), (2, .ref mm), (1, .ref x), (0, .ref b)]) hx hb dL_law_1592 hl (k := 0) rfl (by decide +kernel) (by decide +kernel) rfl (fun ls hl => ?_)
          refine lv_goto (tgt := 23) hx hb dL_law_1595 (by decide +kernel) ?_
          refine lv_iload hx hb dL_law_23 (lv_at hl 0 rfl) ?_
          refine lv_aload_n hx hb dL_law_25 rfl (lv_at hl 4 rfl) ?_
          refine va_slen hx hb hX hbl hbA hS dL_law_26 ?_
          refine nv_i (v := 5) rfl ?_
          refine lv_iconst (v := 5) hx hb dL_law_27 (by decide +kernel) ?_
          refine lv_isub hx hb dL_law_28 ?_
          refine nv_i (v := 0) (by decide +kernel) ?_
          refine lv_icmp_gt (tgt := 1598) hx hb dL_law_29 (by decide +kernel) (fun _ => ?_) (fun c => absurd (by decide +kernel) c)
          refine lv_iconst (v := 1) hx hb dL_law_1598 (by decide +kernel) ?_
          refine va_forget (fun q hq => hS.2.2 q hq) ?_
          refine W.widen (k := 600002) (n := 7302232) (Nat.le_of_ble_eq_true rfl) (Nat.le_of_ble_eq_true rfl) ?_
          exact lw_ret hx hb hr hlocks dL_law_1599
        · have hk69x := hk69
          rcases n_cut x68 9 10 (by decide +kernel) with hk76 | hk76
          · have hk76x := hk76
            refine lv_aload_n hx hb dL_law_442 rfl (lv_at hl 4 rfl) ?_
            refine lv_iload hx hb dL_law_443 (lv_at hl 0 rfl) ?_
            refine lv_iconst (v := 3) hx hb dL_law_445 (by decide +kernel) ?_
            refine lv_iadd hx hb dL_law_446 ?_
            refine nv_i (v := 3) (by decide +kernel) ?_
            refine va_sld hx hb hX hbl hbA hS (n_in (by decide +kernel)) dL_law_447 ?_
            refine lv_topi (fun x77 ex77 => ?_)
            refine lv_aload_n hx hb dL_law_448 rfl (lv_at hl 4 rfl) ?_
            refine lv_iload hx hb dL_law_449 (lv_at hl 0 rfl) ?_
            refine lv_iconst (v := 4) hx hb dL_law_451 (by decide +kernel) ?_
            refine lv_iadd hx hb dL_law_452 ?_
            refine nv_i (v := 4) (by decide +kernel) ?_
            refine va_sld hx hb hX hbl hbA hS (n_in (by decide +kernel)) dL_law_453 ?_
            refine lv_topi (fun x78 ex78 => ?_)
            refine nj_i (ws := [(x, .inr (11, [.ref (u 0), .ref (u 2), .ref (u 4), .ref (u 19), .ref (u 24), .ref (u 28), .ref (u 36), .ref (u 44), .ref (u 52), .ref (u 58), .ref (u 63), .ref (u 64), .ref (u 65), .ref (u 66), .int 1, .null, .int 0])), ((u 4), .inr (9, [.ref (u 5), .ref (u 6), .ref (u 7), .ref (u 8), .int 0, .ref (u 9), .ref (u 10)])), ((u 28), .inr (7, [.ref (u 29), .ref (u 30), .ref (u 31), .ref (u 32), .int 0, .int 0, .ref (u 33), .ref (u 34), .ref (u 35), .ref (u 4)])), ((u 30), .inl (y 0, 9, .inl nz)), (mm, .inr (12, (.int 0 :: .ref (v 0) :: .ref (v 1) :: .ref (v 2) :: .ref (v 3) :: .ref (v 4) :: .ref (v 5) :: .ref (v 6) :: .int 0 :: .ref (v 7) :: .int 0 :: .ref (v 8) :: .ref (v 9) :: .int 1 :: .ref (v 10) :: .int 0 :: .ref (v 11) :: .int 0 :: .int 0 :: .null :: .int 0 :: .int 0 :: .int 0 :: .int 0 :: .ref (v 12) :: .ref (v 13) :: .ref (v 14) :: .int (-1) :: .int 0 :: .int 0 :: .int 0 :: .int 0 :: .int 0 :: .int 0 :: .int 0 :: .ref (v 15) :: .int 0 :: .ref (v 16) :: .int 0 :: .ref (v 17) :: .ref (v 18) :: .int 0 :: .int 0 :: .int 0 :: .int 0 :: .ref (v 19) :: .ref (v 20) :: .ref (v 21) :: .ref (v 22) :: .ref (v 23) :: .ref (v 24) :: .ref (v 25) :: .ref (v 26) :: .ref (v 27) :: .int 0 :: .ref (v 28) :: .ref (v 29) :: .ref (v 30) :: .long 0 :: .int 0 :: .int 0 :: .int 0 :: .long 0 :: .int 0 :: .ref (v 31) :: .int 0 :: .int 0 :: .int 0 :: .int 0 :: .ref (v 32) :: .ref (v 33) :: .ref (v 34) :: [])))]) (wc := [(x, .inr (11, [.ref (u 0), .ref (u 2), .ref (u 4), .ref (u 19), .ref (u 24), .ref (u 28), .ref (u 36), .ref (u 44), .ref (u 52), .ref (u 58), .ref (u 63), .ref (u 64), .ref (u 65), .ref (u 66), .int 1, .null, .int 0]))]) (wr := [((u 4), .inr (9, [.ref (u 5), .ref (u 6), .ref (u 7), .ref (u 8), .int 0, .ref (u 9), .ref (u 10)])), ((u 28), .inr (7, [.ref (u 29), .ref (u 30), .ref (u 31), .ref (u 32), .int 0, .int 0, .ref (u 33), .ref (u 34), .ref (u 35), .ref (u 4)])), ((u 30), .inl (y 0, 9, .inl nz)), (mm, .inr (12, (.int 0 :: .ref (v 0) :: .ref (v 1) :: .ref (v 2) :: .ref (v 3) :: .ref (v 4) :: .ref (v 5) :: .ref (v 6) :: .int 0 :: .ref (v 7) :: .int 0 :: .ref (v 8) :: .ref (v 9) :: .int 1 :: .ref (v 10) :: .int 0 :: .ref (v 11) :: .int 0 :: .int 0 :: .null :: .int 0 :: .int 0 :: .int 0 :: .int 0 :: .ref (v 12) :: .ref (v 13) :: .ref (v 14) :: .int (-1) :: .int 0 :: .int 0 :: .int 0 :: .int 0 :: .int 0 :: .int 0 :: .int 0 :: .ref (v 15) :: .int 0 :: .ref (v 16) :: .int 0 :: .ref (v 17) :: .ref (v 18) :: .int 0 :: .int 0 :: .int 0 :: .int 0 :: .ref (v 19) :: .ref (v 20) :: .ref (v 21) :: .ref (v 22) :: .ref (v 23) :: .ref (v 24) :: .ref (v 25) :: .ref (v 26) :: .ref (v 27) :: .int 0 :: .ref (v 28) :: .ref (v 29) :: .ref (v 30) :: .long 0 :: .int 0 :: .int 0 :: .int 0 :: .long 0 :: .int 0 :: .ref (v 31) :: .int 0 :: .int 0 :: .int 0 :: .int 0 :: .ref (v 32) :: .ref (v 33) :: .ref (v 34) :: [])))]) (nr_V (As := [.int x1, .int x68, .int x77, .int x78]) (rest := []) ⟨hx, hb, hml, hown, hts⟩ (cX11_sheet_2 l D y x x1 hk46 x68 x77 x78 (u 0) (u 2) (u 4) (u 19) (u 24) (u 28) (u 36) (u 44) (u 52) (u 58) (u 63) (u 64) (u 65) (u 66) H.size) (cwV 4 hts gT_X11_sheet rfl rfl rfl (by decide +kernel) ⟨Nat.le_of_ble_eq_true rfl, Nat.le_of_ble_eq_true rfl⟩) hK hP hD hE [0] rfl (by decide +kernel) 0 11 rfl rfl rfl rfl rfl hl.1 rfl (lv_room (Nat.le_of_ble_eq_true rfl)) dL_law_454 ⟨Nat.le_of_ble_eq_true rfl, Nat.le_of_ble_eq_true rfl⟩) hP hD hS hA [0] [1, 2, 3, 4] rfl rfl (by decide +kernel) (by decide +kernel) (fun r80 u79 H locs er80 hP hD hS => ?_)
            subst er80
            refine lv_aload_n hx hb dL_law_457 rfl (lv_at hl 2 rfl) ?_
            refine lv_aload_n hx hb dL_law_458 rfl (lv_at hl 4 rfl) ?_
            refine lv_iload hx hb dL_law_459 (lv_at hl 0 rfl) ?_
            refine lv_iconst (v := 1) hx hb dL_law_461 (by decide +kernel) ?_
            refine lv_iadd hx hb dL_law_462 ?_
            refine nv_i (v := 1) (by decide +kernel) ?_
            refine va_sld hx hb hX hbl hbA hS (n_in (by decide +kernel)) dL_law_463 ?_
            refine nv_i (v := x1) (ex1).symm ?_
            refine lv_aload_n hx hb dL_law_464 rfl (lv_at hl 4 rfl) ?_
            refine lv_iload hx hb dL_law_465 (lv_at hl 0 rfl) ?_
            refine lv_iconst (v := 2) hx hb dL_law_467 (by decide +kernel) ?_
            refine lv_iadd hx hb dL_law_468 ?_
            refine nv_i (v := 2) (by decide +kernel) ?_
            refine va_sld hx hb hX hbl hbA hS (n_in (by decide +kernel)) dL_law_469 ?_
            refine nv_i (v := x68) (ex68).symm ?_
            refine lv_aload_n hx hb dL_law_470 rfl (lv_at hl 4 rfl) ?_
            refine lv_iload hx hb dL_law_471 (lv_at hl 0 rfl) ?_
            refine lv_iconst (v := 3) hx hb dL_law_473 (by decide +kernel) ?_
            refine lv_iadd hx hb dL_law_474 ?_
            refine nv_i (v := 3) (by decide +kernel) ?_
            refine va_sld hx hb hX hbl hbA hS (n_in (by decide +kernel)) dL_law_475 ?_
            refine nv_i (v := x77) (ex77).symm ?_
            refine lv_aload_n hx hb dL_law_476 rfl (lv_at hl 4 rfl) ?_
            refine lv_iload hx hb dL_law_477 (lv_at hl 0 rfl) ?_
            refine lv_iconst (v := 4) hx hb dL_law_479 (by decide +kernel) ?_
            refine lv_iadd hx hb dL_law_480 ?_
            refine nv_i (v := 4) (by decide +kernel) ?_
            refine va_sld hx hb hX hbl hbA hS (n_in (by decide +kernel)) dL_law_481 ?_
            refine nv_i (v := x78) (ex78).symm ?_
            refine nj_i (ws := [((u 4), .inr (9, [.ref (u 5), .ref (u 6), .ref (u 7), .ref (u 8), .int 0, .ref (u 9), .ref (u 10)])), ((u 28), .inr (7, [.ref (u 29), .ref (u 30), .ref (u 31), .ref (u 32), .int 0, .int 0, .ref (u 33), .ref (u 34), .ref (u 35), .ref (u 4)])), ((u 30), .inl (y 0, 9, .inl nz)), (mm, .inr (12, (.int 0 :: .ref (v 0) :: .ref (v 1) :: .ref (v 2) :: .ref (v 3) :: .ref (v 4) :: .ref (v 5) :: .ref (v 6) :: .int 0 :: .ref (v 7) :: .int 0 :: .ref (v 8) :: .ref (v 9) :: .int 1 :: .ref (v 10) :: .int 0 :: .ref (v 11) :: .int 0 :: .int 0 :: .null :: .int 0 :: .int 0 :: .int 0 :: .int 0 :: .ref (v 12) :: .ref (v 13) :: .ref (v 14) :: .int (-1) :: .int 0 :: .int 0 :: .int 0 :: .int 0 :: .int 0 :: .int 0 :: .int 0 :: .ref (v 15) :: .int 0 :: .ref (v 16) :: .int 0 :: .ref (v 17) :: .ref (v 18) :: .int 0 :: .int 0 :: .int 0 :: .int 0 :: .ref (v 19) :: .ref (v 20) :: .ref (v 21) :: .ref (v 22) :: .ref (v 23) :: .ref (v 24) :: .ref (v 25) :: .ref (v 26) :: .ref (v 27) :: .int 0 :: .ref (v 28) :: .ref (v 29) :: .ref (v 30) :: .long 0 :: .int 0 :: .int 0 :: .int 0 :: .long 0 :: .int 0 :: .ref (v 31) :: .int 0 :: .int 0 :: .int 0 :: .int 0 :: .ref (v 32) :: .ref (v 33) :: .ref (v 34) :: []))), (x, .inr (11, [.ref (u 0), .ref (u 2), .ref (u 4), .ref (u 19), .ref (u 24), .ref (u 28), .ref (u 36), .ref (u 44), .ref (u 52), .ref (u 58), .ref (u 63), .ref (u 64), .ref (u 65), .ref (u 66), .int 1, .null, .int 0]))]) (wc := [(mm, .inr (12, (.int 0 :: .ref (v 0) :: .ref (v 1) :: .ref (v 2) :: .ref (v 3) :: .ref (v 4) :: .ref (v 5) :: .ref (v 6) :: .int 0 :: .ref (v 7) :: .int 0 :: .ref (v 8) :: .ref (v 9) :: .int 1 :: .ref (v 10) :: .int 0 :: .ref (v 11) :: .int 0 :: .int 0 :: .null :: .int 0 :: .int 0 :: .int 0 :: .int 0 :: .ref (v 12) :: .ref (v 13) :: .ref (v 14) :: .int (-1) :: .int 0 :: .int 0 :: .int 0 :: .int 0 :: .int 0 :: .int 0 :: .int 0 :: .ref (v 15) :: .int 0 :: .ref (v 16) :: .int 0 :: .ref (v 17) :: .ref (v 18) :: .int 0 :: .int 0 :: .int 0 :: .int 0 :: .ref (v 19) :: .ref (v 20) :: .ref (v 21) :: .ref (v 22) :: .ref (v 23) :: .ref (v 24) :: .ref (v 25) :: .ref (v 26) :: .ref (v 27) :: .int 0 :: .ref (v 28) :: .ref (v 29) :: .ref (v 30) :: .long 0 :: .int 0 :: .int 0 :: .int 0 :: .long 0 :: .int 0 :: .ref (v 31) :: .int 0 :: .int 0 :: .int 0 :: .int 0 :: .ref (v 32) :: .ref (v 33) :: .ref (v 34) :: [])))]) (wr := [((u 4), .inr (9, [.ref (u 5), .ref (u 6), .ref (u 7), .ref (u 8), .int 0, .ref (u 9), .ref (u 10)])), ((u 28), .inr (7, [.ref (u 29), .ref (u 30), .ref (u 31), .ref (u 32), .int 0, .int 0, .ref (u 33), .ref (u 34), .ref (u 35), .ref (u 4)])), ((u 30), .inl (y 0, 9, .inl nz)), (x, .inr (11, [.ref (u 0), .ref (u 2), .ref (u 4), .ref (u 19), .ref (u 24), .ref (u 28), .ref (u 36), .ref (u 44), .ref (u 52), .ref (u 58), .ref (u 63), .ref (u 64), .ref (u 65), .ref (u 66), .int 1, .null, .int 0]))]) (nr_V (As := [.int x1, .int x68, .int x77, .int x78]) (rest := [.int (-1)]) ⟨hx, hb, hml, hown, hts⟩ (cX12_sheet_2 l D y mm x1 hk46 x68 x77 x78 (v 0) (v 1) (v 2) (v 3) (v 4) (v 5) (v 6) (v 7) (v 8) (v 9) (v 10) (v 11) (v 12) (v 13) (v 14) (v 15) (v 16) (v 17) (v 18) (v 19) (v 20) (v 21) (v 22) (v 23) (v 24) (v 25) (v 26) (v 27) (v 28) (v 29) (v 30) (v 31) (v 32) (v 33) (v 34) H.size) (cwV 4 hts gT_X12_sheet rfl rfl rfl (by decide +kernel) ⟨Nat.le_of_ble_eq_true rfl, Nat.le_of_ble_eq_true rfl⟩) hK hP hD hE [3] rfl (by decide +kernel) 0 12 rfl rfl rfl rfl rfl hl.1 rfl (lv_room (Nat.le_of_ble_eq_true rfl)) dL_law_482 ⟨Nat.le_of_ble_eq_true rfl, Nat.le_of_ble_eq_true rfl⟩) hP hD hS hA [3] [0, 1, 2, 4] rfl rfl (by decide +kernel) (by decide +kernel) (fun r82 u81 H locs er82 hP hD hS => ?_)
            subst er82
            refine lv_icmp_eq (tgt := 1592) hx hb dL_law_485 (by decide +kernel) (fun _ => ?_) (fun c => absurd (by decide +kernel) c)
            refine lv_iinc (v := 5) (lv' := [(4, .int 5), (3, .ref o), (2, .ref mm), (1, .ref x), (0, .ref b)]) hx hb dL_law_1592 hl (k := 0) rfl (by decide +kernel) (by decide +kernel) rfl (fun ls hl => ?_)
            refine lv_goto (tgt := 23) hx hb dL_law_1595 (by decide +kernel) ?_
            refine lv_iload hx hb dL_law_23 (lv_at hl 0 rfl) ?_
            refine lv_aload_n hx hb dL_law_25 rfl (lv_at hl 4 rfl) ?_
            refine va_slen hx hb hX hbl hbA hS dL_law_26 ?_
            refine nv_i (v := 5) rfl ?_
            refine lv_iconst (v := 5) hx hb dL_law_27 (by decide +kernel) ?_
            refine lv_isub hx hb dL_law_28 ?_
            refine nv_i (v := 0) (by decide +kernel) ?_
            refine lv_icmp_gt (tgt := 1598) hx hb dL_law_29 (by decide +kernel) (fun _ => ?_) (fun c => absurd (by decide +kernel) c)
            refine lv_iconst (v := 1) hx hb dL_law_1598 (by decide +kernel) ?_
            refine va_forget (fun q hq => hS.2.2 q hq) ?_
            refine W.widen (k := 600002) (n := 7302232) (Nat.le_of_ble_eq_true rfl) (Nat.le_of_ble_eq_true rfl) ?_
            exact lw_ret hx hb hr hlocks dL_law_1599
          · have hk76x := hk76
            refine lv_aload_n hx hb dL_law_442 rfl (lv_at hl 4 rfl) ?_
            refine lv_iload hx hb dL_law_443 (lv_at hl 0 rfl) ?_
            refine lv_iconst (v := 3) hx hb dL_law_445 (by decide +kernel) ?_
            refine lv_iadd hx hb dL_law_446 ?_
            refine nv_i (v := 3) (by decide +kernel) ?_
            refine va_sld hx hb hX hbl hbA hS (n_in (by decide +kernel)) dL_law_447 ?_
            refine lv_topi (fun x83 ex83 => ?_)
            refine lv_aload_n hx hb dL_law_448 rfl (lv_at hl 4 rfl) ?_
            refine lv_iload hx hb dL_law_449 (lv_at hl 0 rfl) ?_
            refine lv_iconst (v := 4) hx hb dL_law_451 (by decide +kernel) ?_
            refine lv_iadd hx hb dL_law_452 ?_
            refine nv_i (v := 4) (by decide +kernel) ?_
            refine va_sld hx hb hX hbl hbA hS (n_in (by decide +kernel)) dL_law_453 ?_
            refine lv_topi (fun x84 ex84 => ?_)
            refine nj_i (ws := [(x, .inr (11, [.ref (u 0), .ref (u 2), .ref (u 4), .ref (u 19), .ref (u 24), .ref (u 28), .ref (u 36), .ref (u 44), .ref (u 52), .ref (u 58), .ref (u 63), .ref (u 64), .ref (u 65), .ref (u 66), .int 1, .null, .int 0])), ((u 4), .inr (9, [.ref (u 5), .ref (u 6), .ref (u 7), .ref (u 8), .int 0, .ref (u 9), .ref (u 10)])), ((u 28), .inr (7, [.ref (u 29), .ref (u 30), .ref (u 31), .ref (u 32), .int 0, .int 0, .ref (u 33), .ref (u 34), .ref (u 35), .ref (u 4)])), ((u 30), .inl (y 0, 9, .inl nz)), (mm, .inr (12, (.int 0 :: .ref (v 0) :: .ref (v 1) :: .ref (v 2) :: .ref (v 3) :: .ref (v 4) :: .ref (v 5) :: .ref (v 6) :: .int 0 :: .ref (v 7) :: .int 0 :: .ref (v 8) :: .ref (v 9) :: .int 1 :: .ref (v 10) :: .int 0 :: .ref (v 11) :: .int 0 :: .int 0 :: .null :: .int 0 :: .int 0 :: .int 0 :: .int 0 :: .ref (v 12) :: .ref (v 13) :: .ref (v 14) :: .int (-1) :: .int 0 :: .int 0 :: .int 0 :: .int 0 :: .int 0 :: .int 0 :: .int 0 :: .ref (v 15) :: .int 0 :: .ref (v 16) :: .int 0 :: .ref (v 17) :: .ref (v 18) :: .int 0 :: .int 0 :: .int 0 :: .int 0 :: .ref (v 19) :: .ref (v 20) :: .ref (v 21) :: .ref (v 22) :: .ref (v 23) :: .ref (v 24) :: .ref (v 25) :: .ref (v 26) :: .ref (v 27) :: .int 0 :: .ref (v 28) :: .ref (v 29) :: .ref (v 30) :: .long 0 :: .int 0 :: .int 0 :: .int 0 :: .long 0 :: .int 0 :: .ref (v 31) :: .int 0 :: .int 0 :: .int 0 :: .int 0 :: .ref (v 32) :: .ref (v 33) :: .ref (v 34) :: [])))]) (wc := [(x, .inr (11, [.ref (u 0), .ref (u 2), .ref (u 4), .ref (u 19), .ref (u 24), .ref (u 28), .ref (u 36), .ref (u 44), .ref (u 52), .ref (u 58), .ref (u 63), .ref (u 64), .ref (u 65), .ref (u 66), .int 1, .null, .int 0]))]) (wr := [((u 4), .inr (9, [.ref (u 5), .ref (u 6), .ref (u 7), .ref (u 8), .int 0, .ref (u 9), .ref (u 10)])), ((u 28), .inr (7, [.ref (u 29), .ref (u 30), .ref (u 31), .ref (u 32), .int 0, .int 0, .ref (u 33), .ref (u 34), .ref (u 35), .ref (u 4)])), ((u 30), .inl (y 0, 9, .inl nz)), (mm, .inr (12, (.int 0 :: .ref (v 0) :: .ref (v 1) :: .ref (v 2) :: .ref (v 3) :: .ref (v 4) :: .ref (v 5) :: .ref (v 6) :: .int 0 :: .ref (v 7) :: .int 0 :: .ref (v 8) :: .ref (v 9) :: .int 1 :: .ref (v 10) :: .int 0 :: .ref (v 11) :: .int 0 :: .int 0 :: .null :: .int 0 :: .int 0 :: .int 0 :: .int 0 :: .ref (v 12) :: .ref (v 13) :: .ref (v 14) :: .int (-1) :: .int 0 :: .int 0 :: .int 0 :: .int 0 :: .int 0 :: .int 0 :: .int 0 :: .ref (v 15) :: .int 0 :: .ref (v 16) :: .int 0 :: .ref (v 17) :: .ref (v 18) :: .int 0 :: .int 0 :: .int 0 :: .int 0 :: .ref (v 19) :: .ref (v 20) :: .ref (v 21) :: .ref (v 22) :: .ref (v 23) :: .ref (v 24) :: .ref (v 25) :: .ref (v 26) :: .ref (v 27) :: .int 0 :: .ref (v 28) :: .ref (v 29) :: .ref (v 30) :: .long 0 :: .int 0 :: .int 0 :: .int 0 :: .long 0 :: .int 0 :: .ref (v 31) :: .int 0 :: .int 0 :: .int 0 :: .int 0 :: .ref (v 32) :: .ref (v 33) :: .ref (v 34) :: [])))]) (nr_V (As := [.int x1, .int x68, .int x83, .int x84]) (rest := []) ⟨hx, hb, hml, hown, hts⟩ (cX11_sheet_2 l D y x x1 hk46 x68 x83 x84 (u 0) (u 2) (u 4) (u 19) (u 24) (u 28) (u 36) (u 44) (u 52) (u 58) (u 63) (u 64) (u 65) (u 66) H.size) (cwV 4 hts gT_X11_sheet rfl rfl rfl (by decide +kernel) ⟨Nat.le_of_ble_eq_true rfl, Nat.le_of_ble_eq_true rfl⟩) hK hP hD hE [0] rfl (by decide +kernel) 0 11 rfl rfl rfl rfl rfl hl.1 rfl (lv_room (Nat.le_of_ble_eq_true rfl)) dL_law_454 ⟨Nat.le_of_ble_eq_true rfl, Nat.le_of_ble_eq_true rfl⟩) hP hD hS hA [0] [1, 2, 3, 4] rfl rfl (by decide +kernel) (by decide +kernel) (fun r86 u85 H locs er86 hP hD hS => ?_)
            subst er86
            refine lv_aload_n hx hb dL_law_457 rfl (lv_at hl 2 rfl) ?_
            refine lv_aload_n hx hb dL_law_458 rfl (lv_at hl 4 rfl) ?_
            refine lv_iload hx hb dL_law_459 (lv_at hl 0 rfl) ?_
            refine lv_iconst (v := 1) hx hb dL_law_461 (by decide +kernel) ?_
            refine lv_iadd hx hb dL_law_462 ?_
            refine nv_i (v := 1) (by decide +kernel) ?_
            refine va_sld hx hb hX hbl hbA hS (n_in (by decide +kernel)) dL_law_463 ?_
            refine nv_i (v := x1) (ex1).symm ?_
            refine lv_aload_n hx hb dL_law_464 rfl (lv_at hl 4 rfl) ?_
            refine lv_iload hx hb dL_law_465 (lv_at hl 0 rfl) ?_
            refine lv_iconst (v := 2) hx hb dL_law_467 (by decide +kernel) ?_
            refine lv_iadd hx hb dL_law_468 ?_
            refine nv_i (v := 2) (by decide +kernel) ?_
            refine va_sld hx hb hX hbl hbA hS (n_in (by decide +kernel)) dL_law_469 ?_
            refine nv_i (v := x68) (ex68).symm ?_
            refine lv_aload_n hx hb dL_law_470 rfl (lv_at hl 4 rfl) ?_
            refine lv_iload hx hb dL_law_471 (lv_at hl 0 rfl) ?_
            refine lv_iconst (v := 3) hx hb dL_law_473 (by decide +kernel) ?_
            refine lv_iadd hx hb dL_law_474 ?_
            refine nv_i (v := 3) (by decide +kernel) ?_
            refine va_sld hx hb hX hbl hbA hS (n_in (by decide +kernel)) dL_law_475 ?_
            refine nv_i (v := x83) (ex83).symm ?_
            refine lv_aload_n hx hb dL_law_476 rfl (lv_at hl 4 rfl) ?_
            refine lv_iload hx hb dL_law_477 (lv_at hl 0 rfl) ?_
            refine lv_iconst (v := 4) hx hb dL_law_479 (by decide +kernel) ?_
            refine lv_iadd hx hb dL_law_480 ?_
            refine nv_i (v := 4) (by decide +kernel) ?_
            refine va_sld hx hb hX hbl hbA hS (n_in (by decide +kernel)) dL_law_481 ?_
            refine nv_i (v := x84) (ex84).symm ?_
            refine nj_i (ws := [((u 4), .inr (9, [.ref (u 5), .ref (u 6), .ref (u 7), .ref (u 8), .int 0, .ref (u 9), .ref (u 10)])), ((u 28), .inr (7, [.ref (u 29), .ref (u 30), .ref (u 31), .ref (u 32), .int 0, .int 0, .ref (u 33), .ref (u 34), .ref (u 35), .ref (u 4)])), ((u 30), .inl (y 0, 9, .inl nz)), (mm, .inr (12, (.int 0 :: .ref (v 0) :: .ref (v 1) :: .ref (v 2) :: .ref (v 3) :: .ref (v 4) :: .ref (v 5) :: .ref (v 6) :: .int 0 :: .ref (v 7) :: .int 0 :: .ref (v 8) :: .ref (v 9) :: .int 1 :: .ref (v 10) :: .int 0 :: .ref (v 11) :: .int 0 :: .int 0 :: .null :: .int 0 :: .int 0 :: .int 0 :: .int 0 :: .ref (v 12) :: .ref (v 13) :: .ref (v 14) :: .int (-1) :: .int 0 :: .int 0 :: .int 0 :: .int 0 :: .int 0 :: .int 0 :: .int 0 :: .ref (v 15) :: .int 0 :: .ref (v 16) :: .int 0 :: .ref (v 17) :: .ref (v 18) :: .int 0 :: .int 0 :: .int 0 :: .int 0 :: .ref (v 19) :: .ref (v 20) :: .ref (v 21) :: .ref (v 22) :: .ref (v 23) :: .ref (v 24) :: .ref (v 25) :: .ref (v 26) :: .ref (v 27) :: .int 0 :: .ref (v 28) :: .ref (v 29) :: .ref (v 30) :: .long 0 :: .int 0 :: .int 0 :: .int 0 :: .long 0 :: .int 0 :: .ref (v 31) :: .int 0 :: .int 0 :: .int 0 :: .int 0 :: .ref (v 32) :: .ref (v 33) :: .ref (v 34) :: []))), (x, .inr (11, [.ref (u 0), .ref (u 2), .ref (u 4), .ref (u 19), .ref (u 24), .ref (u 28), .ref (u 36), .ref (u 44), .ref (u 52), .ref (u 58), .ref (u 63), .ref (u 64), .ref (u 65), .ref (u 66), .int 1, .null, .int 0]))]) (wc := [(mm, .inr (12, (.int 0 :: .ref (v 0) :: .ref (v 1) :: .ref (v 2) :: .ref (v 3) :: .ref (v 4) :: .ref (v 5) :: .ref (v 6) :: .int 0 :: .ref (v 7) :: .int 0 :: .ref (v 8) :: .ref (v 9) :: .int 1 :: .ref (v 10) :: .int 0 :: .ref (v 11) :: .int 0 :: .int 0 :: .null :: .int 0 :: .int 0 :: .int 0 :: .int 0 :: .ref (v 12) :: .ref (v 13) :: .ref (v 14) :: .int (-1) :: .int 0 :: .int 0 :: .int 0 :: .int 0 :: .int 0 :: .int 0 :: .int 0 :: .ref (v 15) :: .int 0 :: .ref (v 16) :: .int 0 :: .ref (v 17) :: .ref (v 18) :: .int 0 :: .int 0 :: .int 0 :: .int 0 :: .ref (v 19) :: .ref (v 20) :: .ref (v 21) :: .ref (v 22) :: .ref (v 23) :: .ref (v 24) :: .ref (v 25) :: .ref (v 26) :: .ref (v 27) :: .int 0 :: .ref (v 28) :: .ref (v 29) :: .ref (v 30) :: .long 0 :: .int 0 :: .int 0 :: .int 0 :: .long 0 :: .int 0 :: .ref (v 31) :: .int 0 :: .int 0 :: .int 0 :: .int 0 :: .ref (v 32) :: .ref (v 33) :: .ref (v 34) :: [])))]) (wr := [((u 4), .inr (9, [.ref (u 5), .ref (u 6), .ref (u 7), .ref (u 8), .int 0, .ref (u 9), .ref (u 10)])), ((u 28), .inr (7, [.ref (u 29), .ref (u 30), .ref (u 31), .ref (u 32), .int 0, .int 0, .ref (u 33), .ref (u 34), .ref (u 35), .ref (u 4)])), ((u 30), .inl (y 0, 9, .inl nz)), (x, .inr (11, [.ref (u 0), .ref (u 2), .ref (u 4), .ref (u 19), .ref (u 24), .ref (u 28), .ref (u 36), .ref (u 44), .ref (u 52), .ref (u 58), .ref (u 63), .ref (u 64), .ref (u 65), .ref (u 66), .int 1, .null, .int 0]))]) (nr_V (As := [.int x1, .int x68, .int x83, .int x84]) (rest := [.int (-1)]) ⟨hx, hb, hml, hown, hts⟩ (cX12_sheet_2 l D y mm x1 hk46 x68 x83 x84 (v 0) (v 1) (v 2) (v 3) (v 4) (v 5) (v 6) (v 7) (v 8) (v 9) (v 10) (v 11) (v 12) (v 13) (v 14) (v 15) (v 16) (v 17) (v 18) (v 19) (v 20) (v 21) (v 22) (v 23) (v 24) (v 25) (v 26) (v 27) (v 28) (v 29) (v 30) (v 31) (v 32) (v 33) (v 34) H.size) (cwV 4 hts gT_X12_sheet rfl rfl rfl (by decide +kernel) ⟨Nat.le_of_ble_eq_true rfl, Nat.le_of_ble_eq_true rfl⟩) hK hP hD hE [3] rfl (by decide +kernel) 0 12 rfl rfl rfl rfl rfl hl.1 rfl (lv_room (Nat.le_of_ble_eq_true rfl)) dL_law_482 ⟨Nat.le_of_ble_eq_true rfl, Nat.le_of_ble_eq_true rfl⟩) hP hD hS hA [3] [0, 1, 2, 4] rfl rfl (by decide +kernel) (by decide +kernel) (fun r88 u87 H locs er88 hP hD hS => ?_)
            subst er88
            refine lv_icmp_eq (tgt := 1592) hx hb dL_law_485 (by decide +kernel) (fun _ => ?_) (fun c => absurd (by decide +kernel) c)
            refine lv_iinc (v := 5) (lv' := [(4, .int 5), (3, .ref o), (2, .ref mm), (1, .ref x), (0, .ref b)]) hx hb dL_law_1592 hl (k := 0) rfl (by decide +kernel) (by decide +kernel) rfl (fun ls hl => ?_)
            refine lv_goto (tgt := 23) hx hb dL_law_1595 (by decide +kernel) ?_
            refine lv_iload hx hb dL_law_23 (lv_at hl 0 rfl) ?_
            refine lv_aload_n hx hb dL_law_25 rfl (lv_at hl 4 rfl) ?_
            refine va_slen hx hb hX hbl hbA hS dL_law_26 ?_
            refine nv_i (v := 5) rfl ?_
            refine lv_iconst (v := 5) hx hb dL_law_27 (by decide +kernel) ?_
            refine lv_isub hx hb dL_law_28 ?_
            refine nv_i (v := 0) (by decide +kernel) ?_
            refine lv_icmp_gt (tgt := 1598) hx hb dL_law_29 (by decide +kernel) (fun _ => ?_) (fun c => absurd (by decide +kernel) c)
            refine lv_iconst (v := 1) hx hb dL_law_1598 (by decide +kernel) ?_
            refine va_forget (fun q hq => hS.2.2 q hq) ?_
            refine W.widen (k := 600002) (n := 7302232) (Nat.le_of_ble_eq_true rfl) (Nat.le_of_ble_eq_true rfl) ?_
            exact lw_ret hx hb hr hlocks dL_law_1599
