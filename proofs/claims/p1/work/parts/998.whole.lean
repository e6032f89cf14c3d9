theorem wd_1_27 : (Cond.classLink RL 8 RX11) ∈ gT := gt_m1 27 (by decide +kernel) (by decide +kernel)
theorem wd_1_28 : (Cond.instantiable RX11 17) ∈ gT := gt_m1 28 (by decide +kernel) (by decide +kernel)
theorem wd_1_29 : (Cond.methodLink RL 26 yX11_init) ∈ gT := gt_m1 29 (by decide +kernel) (by decide +kernel)
theorem wd_1_30 : (Cond.instanceMethod yX11_init) ∈ gT := gt_m1 30 (by decide +kernel) (by decide +kernel)
theorem wd_6_185 : (Cond.classLink RL 27 RX12) ∈ gT := gt_m6 185 (by decide +kernel) (by decide +kernel)
theorem wd_6_186 : (Cond.instantiable RX12 72) ∈ gT := gt_m6 186 (by decide +kernel) (by decide +kernel)
theorem wd_6_187 : (Cond.methodLink RL 29 yX12_init) ∈ gT := gt_m6 187 (by decide +kernel) (by decide +kernel)
theorem wd_6_188 : (Cond.instanceMethod yX12_init) ∈ gT := gt_m6 188 (by decide +kernel) (by decide +kernel)
set_option maxRecDepth 100000 in
set_option maxHeartbeats 8000000 in
/-- THE LAW, from its entry -/
theorem whole_start {p : Program} {e : Env} {s : State} {m : MethodId} {below : List Frame} {meth : Method} {c : Code} (l : Launch) (hlt : l.stackTraces = false) {b L : Nat} {xs : Nat → Int32} (hL : L ≤ 5) (C0 : lw_At p s m meth c b L xs) : W p l e room_1 s m #[Value.ref b] below meth c s.heap [] 0 0 (lw_Z below #[Value.ref b] s) (entryFrame m ([Value.ref b] : List Value).toArray 8) := by
  obtain ⟨D, y, hK⟩ := n_kn C0
  have hE := n_nT C0
  obtain ⟨t, hZ⟩ := n_nZ C0
  obtain ⟨sa, hXX⟩ := n_nX C0
  obtain ⟨ad, hSS⟩ := n_nS C0
  obtain ⟨hx, hb, hr, hml, hown, hts, hX, hbl, hlocks, hgv⟩ := id C0
  have hA : ∀ q : Nat, s.heap.size ≤ q → (fun q : Nat => s.heap.size ≤ q) q := fun _ h => h
  have hbA : ¬ (fun q : Nat => s.heap.size ≤ q) b := Nat.not_le.mpr hbl
  have hS : va_S (fun q : Nat => s.heap.size ≤ q) s.heap s.heap [] := va_S.rf
  have hP : va_P D vwCl [] s.heap := fun k q h => by simp at h
  have hD : va_D (fun q : Nat => s.heap.size ≤ q) [] := ⟨fun i j p q h => by simp at h, fun k q h => by simp at h⟩
  have hl := lv_entry ([.ref b]) (n := 8) (Nat.le_of_ble_eq_true rfl)
  rw [lg_entry_eq]
  generalize (lg_sl ([.ref b]) ++ List.replicate (8 - (lg_sl ([.ref b])).length) Slot.unset).toArray = ls at hl ⊢
  have hl : lv_has ls 8 [(0, .ref b)] := hl
  have w_0 := hts (.classLink RL 8 RX11) (gt_t wd_1_27)
  have w_1 := hts (.instantiable RX11 17) (gt_t wd_1_28)
  have w_2 := hts (.initialized RX11) (gt_t wd_1_1)
  have w_3 := hts (.methodLink RL 26 yX11_init) (gt_t wd_1_29)
  have w_4 := hts (.instanceMethod yX11_init) (gt_t wd_1_30)
  have w_5 := hts (.classLink RL 27 RX12) (gt_t wd_6_185)
  have w_6 := hts (.instantiable RX12 72) (gt_t wd_6_186)
  have w_7 := hts (.initialized RX12) (gt_t wd_1_12)
  have w_8 := hts (.methodLink RL 29 yX12_init) (gt_t wd_6_187)
  have w_9 := hts (.instanceMethod yX12_init) (gt_t wd_6_188)
  have w_10 := hts (.arrayClass .long) (gt_t wd_1_71)
  refine va_new (ci := 11) (fs := [.null, .null, .null, .null, .null, .null, .null, .null, .null, .null, .null, .null, .null, .null, .int 0, .null, .int 0]) (C := RX11) (T := TX11) (N := 17) hx hb hts iT_X11 tyX11 tyX11_ok hown w_0 w_1 w_2 hK hP hD hS hA rfl (by decide +kernel) (Nat.le_of_ble_eq_true rfl) (Nat.le_of_ble_eq_true rfl) dL_law_0 (fun q1 H hP hD hS => ?_)
  refine lv_dup hx hb dL_law_3 rfl ?_
  refine nj_v (ws := [(q1, .inr (11, [.null, .null, .null, .null, .null, .null, .null, .null, .null, .null, .null, .null, .null, .null, .int 0, .null, .int 0]))]) (wc := [(q1, .inr (11, [.null, .null, .null, .null, .null, .null, .null, .null, .null, .null, .null, .null, .null, .null, .int 0, .null, .int 0]))]) (wr := []) (nr_I (As := []) (rest := [.ref q1]) ⟨hx, hb, hml, hown, hts⟩ (cX11_init_1 l D y q1 H.size) (cwI 0 hts gT_X11_init rfl rfl rfl w_2 w_3 w_4 rfl (by decide +kernel) ⟨Nat.le_of_ble_eq_true rfl, Nat.le_of_ble_eq_true rfl⟩) hK hP hD hE [0] rfl (by decide +kernel) rfl rfl hl.1 rfl (lv_room (Nat.le_of_ble_eq_true rfl)) dL_law_4 ⟨Nat.le_of_ble_eq_true rfl, Nat.le_of_ble_eq_true rfl⟩) hP hD hS hA [0] [] rfl rfl (by decide +kernel) (by decide +kernel) (fun u2 H locs _ hP hD hS => ?_)
  refine lv_astore_n (lv' := [(1, .ref q1), (0, .ref b)]) hx hb dL_law_7 rfl hl (by decide +kernel) rfl (fun ls hl => ?_)
  refine va_new (ci := 12) (fs := [.int 0, .null, .null, .null, .null, .null, .null, .null, .int 0, .null, .int 0, .null, .null, .int 0, .null, .int 0, .null, .int 0, .int 0, .null, .int 0, .int 0, .int 0, .int 0, .null, .null, .null, .int 0, .int 0, .int 0, .int 0, .int 0, .int 0, .int 0, .int 0, .null, .int 0, .null, .int 0, .null, .null, .int 0, .int 0, .int 0, .int 0, .null, .null, .null, .null, .null, .null, .null, .null, .null, .int 0, .null, .null, .null, .long 0, .int 0, .int 0, .int 0, .long 0, .int 0, .null, .int 0, .int 0, .int 0, .int 0, .null, .null, .null]) (C := RX12) (T := TX12) (N := 72) hx hb hts iT_X12 tyX12 tyX12_ok hown w_5 w_6 w_7 hK hP hD hS hA rfl (by decide +kernel) (Nat.le_of_ble_eq_true rfl) (Nat.le_of_ble_eq_true rfl) dL_law_8 (fun q4 H hP hD hS => ?_)
  refine lv_dup hx hb dL_law_11 rfl ?_
  refine nj_v (ws := ((q1, .inr (11, [.ref (u2 0), .ref (u2 2), .ref (u2 4), .ref (u2 19), .ref (u2 24), .ref (u2 28), .ref (u2 36), .ref (u2 44), .ref (u2 52), .ref (u2 58), .ref (u2 63), .ref (u2 64), .ref (u2 65), .ref (u2 66), .int 1, .null, .int 0])) :: ((u2 0), .inr (8, [.ref (u2 1), .int 0])) :: ((u2 1), .inl (y 0, 80, .inl nz)) :: ((u2 2), .inr (5, [.ref (u2 3), .int 0])) :: ((u2 3), .inl (y 1, 9, .inr (.inl nzl))) :: ((u2 4), .inr (9, [.ref (u2 5), .ref (u2 6), .ref (u2 7), .ref (u2 8), .int 0, .ref (u2 9), .ref (u2 10)])) :: ((u2 5), .inl (y 0, 9, .inl nz)) :: ((u2 6), .inl (y 0, 9, .inl nz)) :: ((u2 7), .inl (y 0, 9, .inl nz)) :: ((u2 8), .inl (y 4, 4, .inr (.inr (.inr (.inr (va_up (va_up (va_up (va_up nn 0 (some (u2 11))) 1 (some (u2 13))) 2 (some (u2 15))) 3 (some (u2 17)))))))) :: ((u2 9), .inl (y 0, 7, .inl nz)) :: ((u2 10), .inl (y 0, 40, .inl nz)) :: ((u2 11), .inr (0, [.ref (u2 12), .int 0])) :: ((u2 12), .inl (y 0, 40, .inl nz)) :: ((u2 13), .inr (0, [.ref (u2 14), .int 0])) :: ((u2 14), .inl (y 0, 40, .inl nz)) :: ((u2 15), .inr (0, [.ref (u2 16), .int 0])) :: ((u2 16), .inl (y 0, 40, .inl nz)) :: ((u2 17), .inr (0, [.ref (u2 18), .int 0])) :: ((u2 18), .inl (y 0, 40, .inl nz)) :: ((u2 19), .inr (10, [.ref (u2 20), .ref (u2 21), .ref (u2 22), .ref (u2 23), .int 0, .int 0, .int 0, .int 0, .int 0, .int 0])) :: ((u2 20), .inl (y 0, 9, .inl nz)) :: ((u2 21), .inl (y 0, 9, .inl nz)) :: ((u2 22), .inl (y 0, 9, .inl nz)) :: ((u2 23), .inl (y 0, 9, .inl nz)) :: ((u2 24), .inr (6, [.ref (u2 25), .ref (u2 27), .int 0, .int 0, .int 0, .int 0, .int 1])) :: ((u2 25), .inr (0, [.ref (u2 26), .int 0])) :: ((u2 26), .inl (y 0, 40, .inl nz)) :: ((u2 27), .inl (y 0, 40, .inl nz)) :: ((u2 28), .inr (7, [.ref (u2 29), .ref (u2 30), .ref (u2 31), .ref (u2 32), .int 0, .int 0, .ref (u2 33), .ref (u2 34), .ref (u2 35), .ref (u2 4)])) :: ((u2 29), .inl (y 0, 9, .inl nz)) :: ((u2 30), .inl (y 0, 9, .inl nz)) :: ((u2 31), .inl (y 0, 9, .inl nz)) :: ((u2 32), .inl (y 0, 4, .inl (upd nz 2 99))) :: ((u2 33), .inl (y 0, 9, .inl nz)) :: ((u2 34), .inl (y 0, 9, .inl nz)) :: ((u2 35), .inl (y 0, 9, .inl nz)) :: ((u2 36), .inr (7, [.ref (u2 37), .ref (u2 38), .ref (u2 39), .ref (u2 40), .int 0, .int 0, .ref (u2 41), .ref (u2 42), .ref (u2 43), .ref (u2 4)])) :: ((u2 37), .inl (y 0, 9, .inl nz)) :: ((u2 38), .inl (y 0, 9, .inl nz)) :: ((u2 39), .inl (y 0, 9, .inl nz)) :: ((u2 40), .inl (y 0, 4, .inl (upd nz 2 99))) :: ((u2 41), .inl (y 0, 9, .inl nz)) :: ((u2 42), .inl (y 0, 9, .inl nz)) :: ((u2 43), .inl (y 0, 9, .inl nz)) :: ((u2 44), .inr (7, [.ref (u2 45), .ref (u2 46), .ref (u2 47), .ref (u2 48), .int 0, .int 0, .ref (u2 49), .ref (u2 50), .ref (u2 51), .ref (u2 4)])) :: ((u2 45), .inl (y 0, 9, .inl nz)) :: ((u2 46), .inl (y 0, 9, .inl nz)) :: ((u2 47), .inl (y 0, 9, .inl nz)) :: ((u2 48), .inl (y 0, 4, .inl (upd nz 2 99))) :: ((u2 49), .inl (y 0, 9, .inl nz)) :: ((u2 50), .inl (y 0, 9, .inl nz)) :: ((u2 51), .inl (y 0, 9, .inl nz)) :: ((u2 52), .inr (3, [.ref (u2 53), .int 0, .int 0])) :: ((u2 53), .inr (2, [.ref (u2 54), .ref (u2 55), .ref (u2 56), .ref (u2 57)])) :: ((u2 54), .inl (y 0, 40, .inl nz)) :: ((u2 55), .inl (y 1, 40, .inr (.inl nzl))) :: ((u2 56), .inl (y 1, 40, .inr (.inl nzl))) :: ((u2 57), .inl (y 1, 40, .inr (.inl nzl))) :: ((u2 58), .inr (1, [.int 0, .int 0, .long 0, .long 0, .ref (u2 59), .ref (u2 60), .ref (u2 61), .ref (u2 62), .int 0, .int (-1), .int 0])) :: ((u2 59), .inl (y 0, 7, .inl nz)) :: ((u2 60), .inl (y 0, 7, .inl nz)) :: ((u2 61), .inl (y 0, 896, .inl nz)) :: ((u2 62), .inl (y 0, 7, .inl nz)) :: ((u2 63), .inl (y 5, 2, .inr (.inr (.inr (.inr (va_up (va_up nn 0 (some (u2 67))) 1 (some (u2 83)))))))) :: ((u2 64), .inl (y 5, 2, .inr (.inr (.inr (.inr (va_up (va_up nn 0 (some (u2 75))) 1 (some (u2 91)))))))) :: ((u2 65), .inl (y 0, 2, .inl nz)) :: ((u2 66), .inl (y 0, 2, .inl (upd (upd nz 0 (-1)) 1 (-1)))) :: ((u2 67), .inr (7, [.ref (u2 68), .ref (u2 69), .ref (u2 70), .ref (u2 71), .int 0, .int 0, .ref (u2 72), .ref (u2 73), .ref (u2 74), .ref (u2 4)])) :: ((u2 68), .inl (y 0, 9, .inl nz)) :: ((u2 69), .inl (y 0, 9, .inl nz)) :: ((u2 70), .inl (y 0, 9, .inl nz)) :: ((u2 71), .inl (y 0, 4, .inl (upd nz 2 99))) :: ((u2 72), .inl (y 0, 9, .inl nz)) :: ((u2 73), .inl (y 0, 9, .inl nz)) :: ((u2 74), .inl (y 0, 9, .inl nz)) :: ((u2 75), .inr (7, [.ref (u2 76), .ref (u2 77), .ref (u2 78), .ref (u2 79), .int 0, .int 0, .ref (u2 80), .ref (u2 81), .ref (u2 82), .ref (u2 4)])) :: ((u2 76), .inl (y 0, 9, .inl nz)) :: ((u2 77), .inl (y 0, 9, .inl nz)) :: ((u2 78), .inl (y 0, 9, .inl nz)) :: ((u2 79), .inl (y 0, 4, .inl (upd nz 2 99))) :: ((u2 80), .inl (y 0, 9, .inl nz)) :: ((u2 81), .inl (y 0, 9, .inl nz)) :: ((u2 82), .inl (y 0, 9, .inl nz)) :: ((u2 83), .inr (7, [.ref (u2 84), .ref (u2 85), .ref (u2 86), .ref (u2 87), .int 0, .int 0, .ref (u2 88), .ref (u2 89), .ref (u2 90), .ref (u2 4)])) :: ((u2 84), .inl (y 0, 9, .inl nz)) :: ((u2 85), .inl (y 0, 9, .inl nz)) :: ((u2 86), .inl (y 0, 9, .inl nz)) :: ((u2 87), .inl (y 0, 4, .inl (upd nz 2 99))) :: ((u2 88), .inl (y 0, 9, .inl nz)) :: ((u2 89), .inl (y 0, 9, .inl nz)) :: ((u2 90), .inl (y 0, 9, .inl nz)) :: ((u2 91), .inr (7, [.ref (u2 92), .ref (u2 93), .ref (u2 94), .ref (u2 95), .int 0, .int 0, .ref (u2 96), .ref (u2 97), .ref (u2 98), .ref (u2 4)])) :: ((u2 92), .inl (y 0, 9, .inl nz)) :: ((u2 93), .inl (y 0, 9, .inl nz)) :: ((u2 94), .inl (y 0, 9, .inl nz)) :: ((u2 95), .inl (y 0, 4, .inl (upd nz 2 99))) :: ((u2 96), .inl (y 0, 9, .inl nz)) :: ((u2 97), .inl (y 0, 9, .inl nz)) :: ((u2 98), .inl (y 0, 9, .inl nz)) :: (q4, .inr (12, (.int 0 :: .null :: .null :: .null :: .null :: .null :: .null :: .null :: .int 0 :: .null :: .int 0 :: .null :: .null :: .int 0 :: .null :: .int 0 :: .null :: .int 0 :: .int 0 :: .null :: .int 0 :: .int 0 :: .int 0 :: .int 0 :: .null :: .null :: .null :: .int 0 :: .int 0 :: .int 0 :: .int 0 :: .int 0 :: .int 0 :: .int 0 :: .int 0 :: .null :: .int 0 :: .null :: .int 0 :: .null :: .null :: .int 0 :: .int 0 :: .int 0 :: .int 0 :: .null :: .null :: .null :: .null :: .null :: .null :: .null :: .null :: .null :: .int 0 :: .null :: .null :: .null :: .long 0 :: .int 0 :: .int 0 :: .int 0 :: .long 0 :: .int 0 :: .null :: .int 0 :: .int 0 :: .int 0 :: .int 0 :: .null :: .null :: .null :: []))) :: [])) (wc := [(q4, .inr (12, (.int 0 :: .null :: .null :: .null :: .null :: .null :: .null :: .null :: .int 0 :: .null :: .int 0 :: .null :: .null :: .int 0 :: .null :: .int 0 :: .null :: .int 0 :: .int 0 :: .null :: .int 0 :: .int 0 :: .int 0 :: .int 0 :: .null :: .null :: .null :: .int 0 :: .int 0 :: .int 0 :: .int 0 :: .int 0 :: .int 0 :: .int 0 :: .int 0 :: .null :: .int 0 :: .null :: .int 0 :: .null :: .null :: .int 0 :: .int 0 :: .int 0 :: .int 0 :: .null :: .null :: .null :: .null :: .null :: .null :: .null :: .null :: .null :: .int 0 :: .null :: .null :: .null :: .long 0 :: .int 0 :: .int 0 :: .int 0 :: .long 0 :: .int 0 :: .null :: .int 0 :: .int 0 :: .int 0 :: .int 0 :: .null :: .null :: .null :: [])))]) (wr := ((q1, .inr (11, [.ref (u2 0), .ref (u2 2), .ref (u2 4), .ref (u2 19), .ref (u2 24), .ref (u2 28), .ref (u2 36), .ref (u2 44), .ref (u2 52), .ref (u2 58), .ref (u2 63), .ref (u2 64), .ref (u2 65), .ref (u2 66), .int 1, .null, .int 0])) :: ((u2 0), .inr (8, [.ref (u2 1), .int 0])) :: ((u2 1), .inl (y 0, 80, .inl nz)) :: ((u2 2), .inr (5, [.ref (u2 3), .int 0])) :: ((u2 3), .inl (y 1, 9, .inr (.inl nzl))) :: ((u2 4), .inr (9, [.ref (u2 5), .ref (u2 6), .ref (u2 7), .ref (u2 8), .int 0, .ref (u2 9), .ref (u2 10)])) :: ((u2 5), .inl (y 0, 9, .inl nz)) :: ((u2 6), .inl (y 0, 9, .inl nz)) :: ((u2 7), .inl (y 0, 9, .inl nz)) :: ((u2 8), .inl (y 4, 4, .inr (.inr (.inr (.inr (va_up (va_up (va_up (va_up nn 0 (some (u2 11))) 1 (some (u2 13))) 2 (some (u2 15))) 3 (some (u2 17)))))))) :: ((u2 9), .inl (y 0, 7, .inl nz)) :: ((u2 10), .inl (y 0, 40, .inl nz)) :: ((u2 11), .inr (0, [.ref (u2 12), .int 0])) :: ((u2 12), .inl (y 0, 40, .inl nz)) :: ((u2 13), .inr (0, [.ref (u2 14), .int 0])) :: ((u2 14), .inl (y 0, 40, .inl nz)) :: ((u2 15), .inr (0, [.ref (u2 16), .int 0])) :: ((u2 16), .inl (y 0, 40, .inl nz)) :: ((u2 17), .inr (0, [.ref (u2 18), .int 0])) :: ((u2 18), .inl (y 0, 40, .inl nz)) :: ((u2 19), .inr (10, [.ref (u2 20), .ref (u2 21), .ref (u2 22), .ref (u2 23), .int 0, .int 0, .int 0, .int 0, .int 0, .int 0])) :: ((u2 20), .inl (y 0, 9, .inl nz)) :: ((u2 21), .inl (y 0, 9, .inl nz)) :: ((u2 22), .inl (y 0, 9, .inl nz)) :: ((u2 23), .inl (y 0, 9, .inl nz)) :: ((u2 24), .inr (6, [.ref (u2 25), .ref (u2 27), .int 0, .int 0, .int 0, .int 0, .int 1])) :: ((u2 25), .inr (0, [.ref (u2 26), .int 0])) :: ((u2 26), .inl (y 0, 40, .inl nz)) :: ((u2 27), .inl (y 0, 40, .inl nz)) :: ((u2 28), .inr (7, [.ref (u2 29), .ref (u2 30), .ref (u2 31), .ref (u2 32), .int 0, .int 0, .ref (u2 33), .ref (u2 34), .ref (u2 35), .ref (u2 4)])) :: ((u2 29), .inl (y 0, 9, .inl nz)) :: ((u2 30), .inl (y 0, 9, .inl nz)) :: ((u2 31), .inl (y 0, 9, .inl nz)) :: ((u2 32), .inl (y 0, 4, .inl (upd nz 2 99))) :: ((u2 33), .inl (y 0, 9, .inl nz)) :: ((u2 34), .inl (y 0, 9, .inl nz)) :: ((u2 35), .inl (y 0, 9, .inl nz)) :: ((u2 36), .inr (7, [.ref (u2 37), .ref (u2 38), .ref (u2 39), .ref (u2 40), .int 0, .int 0, .ref (u2 41), .ref (u2 42), .ref (u2 43), .ref (u2 4)])) :: ((u2 37), .inl (y 0, 9, .inl nz)) :: ((u2 38), .inl (y 0, 9, .inl nz)) :: ((u2 39), .inl (y 0, 9, .inl nz)) :: ((u2 40), .inl (y 0, 4, .inl (upd nz 2 99))) :: ((u2 41), .inl (y 0, 9, .inl nz)) :: ((u2 42), .inl (y 0, 9, .inl nz)) :: ((u2 43), .inl (y 0, 9, .inl nz)) :: ((u2 44), .inr (7, [.ref (u2 45), .ref (u2 46), .ref (u2 47), .ref (u2 48), .int 0, .int 0, .ref (u2 49), .ref (u2 50), .ref (u2 51), .ref (u2 4)])) :: ((u2 45), .inl (y 0, 9, .inl nz)) :: ((u2 46), .inl (y 0, 9, .inl nz)) :: ((u2 47), .inl (y 0, 9, .inl nz)) :: ((u2 48), .inl (y 0, 4, .inl (upd nz 2 99))) :: ((u2 49), .inl (y 0, 9, .inl nz)) :: ((u2 50), .inl (y 0, 9, .inl nz)) :: ((u2 51), .inl (y 0, 9, .inl nz)) :: ((u2 52), .inr (3, [.ref (u2 53), .int 0, .int 0])) :: ((u2 53), .inr (2, [.ref (u2 54), .ref (u2 55), .ref (u2 56), .ref (u2 57)])) :: ((u2 54), .inl (y 0, 40, .inl nz)) :: ((u2 55), .inl (y 1, 40, .inr (.inl nzl))) :: ((u2 56), .inl (y 1, 40, .inr (.inl nzl))) :: ((u2 57), .inl (y 1, 40, .inr (.inl nzl))) :: ((u2 58), .inr (1, [.int 0, .int 0, .long 0, .long 0, .ref (u2 59), .ref (u2 60), .ref (u2 61), .ref (u2 62), .int 0, .int (-1), .int 0])) :: ((u2 59), .inl (y 0, 7, .inl nz)) :: ((u2 60), .inl (y 0, 7, .inl nz)) :: ((u2 61), .inl (y 0, 896, .inl nz)) :: ((u2 62), .inl (y 0, 7, .inl nz)) :: ((u2 63), .inl (y 5, 2, .inr (.inr (.inr (.inr (va_up (va_up nn 0 (some (u2 67))) 1 (some (u2 83)))))))) :: ((u2 64), .inl (y 5, 2, .inr (.inr (.inr (.inr (va_up (va_up nn 0 (some (u2 75))) 1 (some (u2 91)))))))) :: ((u2 65), .inl (y 0, 2, .inl nz)) :: ((u2 66), .inl (y 0, 2, .inl (upd (upd nz 0 (-1)) 1 (-1)))) :: ((u2 67), .inr (7, [.ref (u2 68), .ref (u2 69), .ref (u2 70), .ref (u2 71), .int 0, .int 0, .ref (u2 72), .ref (u2 73), .ref (u2 74), .ref (u2 4)])) :: ((u2 68), .inl (y 0, 9, .inl nz)) :: ((u2 69), .inl (y 0, 9, .inl nz)) :: ((u2 70), .inl (y 0, 9, .inl nz)) :: ((u2 71), .inl (y 0, 4, .inl (upd nz 2 99))) :: ((u2 72), .inl (y 0, 9, .inl nz)) :: ((u2 73), .inl (y 0, 9, .inl nz)) :: ((u2 74), .inl (y 0, 9, .inl nz)) :: ((u2 75), .inr (7, [.ref (u2 76), .ref (u2 77), .ref (u2 78), .ref (u2 79), .int 0, .int 0, .ref (u2 80), .ref (u2 81), .ref (u2 82), .ref (u2 4)])) :: ((u2 76), .inl (y 0, 9, .inl nz)) :: ((u2 77), .inl (y 0, 9, .inl nz)) :: ((u2 78), .inl (y 0, 9, .inl nz)) :: ((u2 79), .inl (y 0, 4, .inl (upd nz 2 99))) :: ((u2 80), .inl (y 0, 9, .inl nz)) :: ((u2 81), .inl (y 0, 9, .inl nz)) :: ((u2 82), .inl (y 0, 9, .inl nz)) :: ((u2 83), .inr (7, [.ref (u2 84), .ref (u2 85), .ref (u2 86), .ref (u2 87), .int 0, .int 0, .ref (u2 88), .ref (u2 89), .ref (u2 90), .ref (u2 4)])) :: ((u2 84), .inl (y 0, 9, .inl nz)) :: ((u2 85), .inl (y 0, 9, .inl nz)) :: ((u2 86), .inl (y 0, 9, .inl nz)) :: ((u2 87), .inl (y 0, 4, .inl (upd nz 2 99))) :: ((u2 88), .inl (y 0, 9, .inl nz)) :: ((u2 89), .inl (y 0, 9, .inl nz)) :: ((u2 90), .inl (y 0, 9, .inl nz)) :: ((u2 91), .inr (7, [.ref (u2 92), .ref (u2 93), .ref (u2 94), .ref (u2 95), .int 0, .int 0, .ref (u2 96), .ref (u2 97), .ref (u2 98), .ref (u2 4)])) :: ((u2 92), .inl (y 0, 9, .inl nz)) :: ((u2 93), .inl (y 0, 9, .inl nz)) :: ((u2 94), .inl (y 0, 9, .inl nz)) :: ((u2 95), .inl (y 0, 4, .inl (upd nz 2 99))) :: ((u2 96), .inl (y 0, 9, .inl nz)) :: ((u2 97), .inl (y 0, 9, .inl nz)) :: ((u2 98), .inl (y 0, 9, .inl nz)) :: [])) (nr_I (As := []) (rest := [.ref q4]) ⟨hx, hb, hml, hown, hts⟩ (cX12_init_1 l D y q4 H.size) (cwI 0 hts gT_X12_init rfl rfl rfl w_7 w_8 w_9 rfl (by decide +kernel) ⟨Nat.le_of_ble_eq_true rfl, Nat.le_of_ble_eq_true rfl⟩) hK hP hD hE [100] rfl (by decide +kernel) rfl rfl hl.1 rfl (lv_room (Nat.le_of_ble_eq_true rfl)) dL_law_12 ⟨Nat.le_of_ble_eq_true rfl, Nat.le_of_ble_eq_true rfl⟩) hP hD hS hA [100] [0, 1, 2, 3, 4, 5, 6, 7, 8, 9, 10, 11, 12, 13, 14, 15, 16, 17, 18, 19, 20, 21, 22, 23, 24, 25, 26, 27, 28, 29, 30, 31, 32, 33, 34, 35, 36, 37, 38, 39, 40, 41, 42, 43, 44, 45, 46, 47, 48, 49, 50, 51, 52, 53, 54, 55, 56, 57, 58, 59, 60, 61, 62, 63, 64, 65, 66, 67, 68, 69, 70, 71, 72, 73, 74, 75, 76, 77, 78, 79, 80, 81, 82, 83, 84, 85, 86, 87, 88, 89, 90, 91, 92, 93, 94, 95, 96, 97, 98, 99] rfl rfl (by decide +kernel) (by decide +kernel) (fun u5 H locs _ hP hD hS => ?_)
  refine lv_astore_n (lv' := [(2, .ref q4), (1, .ref q1), (0, .ref b)]) hx hb dL_law_15 rfl hl (by decide +kernel) rfl (fun ls hl => ?_)
  refine lv_iconst (v := 1) hx hb dL_law_16 (by decide +kernel) ?_
  refine nb_newa (atype := .long) (ty := .long) (N' := 1) (a0 := (1, .inr (.inl nzl))) hx hb w_10 rfl hK hP hD hS hA 1 rfl (fun _ _ h => h) (fun _ => rfl) (by decide +kernel) (by decide +kernel) (by decide +kernel) (Nat.le_of_ble_eq_true rfl) (Nat.le_of_ble_eq_true rfl) dL_law_17 (fun q7 H hP hD hS => ?_)
  refine lv_astore_n (lv' := [(3, .ref q7), (2, .ref q4), (1, .ref q1), (0, .ref b)]) hx hb dL_law_19 rfl hl (by decide +kernel) rfl (fun ls hl => ?_)
  refine lv_iconst (v := 0) hx hb dL_law_20 (by decide +kernel) ?_
  refine lv_istore (lv' := [(4, .int 0), (3, .ref q7), (2, .ref q4), (1, .ref q1), (0, .ref b)]) hx hb dL_law_21 hl (by decide +kernel) rfl (fun ls hl => ?_)
  replace hP : va_P D vwCl (nWX y q1 u2 ++ (nWM y q4 u5 ++ [(q7, .inl (y 1, 1, .inr (.inl nzl)))])) H := hP
  replace hD : va_D (fun q : Nat => s.heap.size ≤ q) (nWX y q1 u2 ++ (nWM y q4 u5 ++ [(q7, .inl (y 1, 1, .inr (.inl nzl)))])) := hD
  refine W.widen (k := 141) (n := 81395) (Nat.le_of_ble_eq_true rfl) (Nat.le_of_ble_eq_true rfl) ?_
  replace hl := lv_sub hl (l' := [(4, .int 0), (3, .ref q7), (2, .ref q4), (1, .ref q1), (0, .ref b)]) [0, 1, 2, 3, 4] rfl
  refine lv_iload hx hb dL_law_23 (lv_at hl 0 rfl) ?_
  refine lv_aload_n hx hb dL_law_25 rfl (lv_at hl 4 rfl) ?_
  refine va_slen hx hb hX hbl hbA hS dL_law_26 ?_
  refine lv_iconst (v := 5) hx hb dL_law_27 (by decide +kernel) ?_
  refine lv_isub hx hb dL_law_28 ?_
  rcases (show L = 0 ∨ L = 1 ∨ L = 2 ∨ L = 3 ∨ L = 4 ∨ L = 5 by omega) with rfl | rfl | rfl | rfl | rfl | rfl
  · refine nv_i (v := (-5)) (by decide +kernel) ?_
    refine lv_icmp_gt (tgt := 1598) hx hb dL_law_29 (by decide +kernel) (fun _ => ?_) (fun c => absurd (by decide +kernel) c)
    refine lv_iconst (v := 1) hx hb dL_law_1598 (by decide +kernel) ?_
    refine va_forget (fun q hq => hS.2.2 q hq) ?_
    refine W.widen (k := 600002) (n := 7302232) (Nat.le_of_ble_eq_true rfl) (Nat.le_of_ble_eq_true rfl) ?_
    exact lw_ret hx hb hr hlocks dL_law_1599
  · refine nv_i (v := (-4)) (by decide +kernel) ?_
    refine lv_icmp_gt (tgt := 1598) hx hb dL_law_29 (by decide +kernel) (fun _ => ?_) (fun c => absurd (by decide +kernel) c)
    refine lv_iconst (v := 1) hx hb dL_law_1598 (by decide +kernel) ?_
    refine va_forget (fun q hq => hS.2.2 q hq) ?_
    refine W.widen (k := 600002) (n := 7302232) (Nat.le_of_ble_eq_true rfl) (Nat.le_of_ble_eq_true rfl) ?_
    exact lw_ret hx hb hr hlocks dL_law_1599
  · refine nv_i (v := (-3)) (by decide +kernel) ?_
    refine lv_icmp_gt (tgt := 1598) hx hb dL_law_29 (by decide +kernel) (fun _ => ?_) (fun c => absurd (by decide +kernel) c)
    refine lv_iconst (v := 1) hx hb dL_law_1598 (by decide +kernel) ?_
    refine va_forget (fun q hq => hS.2.2 q hq) ?_
    refine W.widen (k := 600002) (n := 7302232) (Nat.le_of_ble_eq_true rfl) (Nat.le_of_ble_eq_true rfl) ?_
    exact lw_ret hx hb hr hlocks dL_law_1599
  · refine nv_i (v := (-2)) (by decide +kernel) ?_
    refine lv_icmp_gt (tgt := 1598) hx hb dL_law_29 (by decide +kernel) (fun _ => ?_) (fun c => absurd (by decide +kernel) c)
    refine lv_iconst (v := 1) hx hb dL_law_1598 (by decide +kernel) ?_
    refine va_forget (fun q hq => hS.2.2 q hq) ?_
    refine W.widen (k := 600002) (n := 7302232) (Nat.le_of_ble_eq_true rfl) (Nat.le_of_ble_eq_true rfl) ?_
    exact lw_ret hx hb hr hlocks dL_law_1599
  · refine nv_i (v := (-1)) (by decide +kernel) ?_
    refine lv_icmp_gt (tgt := 1598) hx hb dL_law_29 (by decide +kernel) (fun _ => ?_) (fun c => absurd (by decide +kernel) c)
    refine lv_iconst (v := 1) hx hb dL_law_1598 (by decide +kernel) ?_
    refine va_forget (fun q hq => hS.2.2 q hq) ?_
    refine W.widen (k := 600002) (n := 7302232) (Nat.le_of_ble_eq_true rfl) (Nat.le_of_ble_eq_true rfl) ?_
    exact lw_ret hx hb hr hlocks dL_law_1599
  · refine nv_i (v := 0) (by decide +kernel) ?_
    refine lv_icmp_gt (tgt := 1598) hx hb dL_law_29 (by decide +kernel) (fun c => absurd c (by decide +kernel)) (fun _ => ?_)
    refine lv_aload_n hx hb dL_law_32 rfl (lv_at hl 4 rfl) ?_
    refine lv_iload hx hb dL_law_33 (lv_at hl 0 rfl) ?_
    refine va_sld hx hb hX hbl hbA hS (n_in (by decide +kernel)) dL_law_35 ?_
    refine lv_bipush (v := 63) hx hb dL_law_36 (by decide +kernel) ?_
    refine lv_iand hx hb dL_law_38 ?_
    obtain ⟨j, hj, ej⟩ := pk_andE (xs (Int32.toNatClampNeg 0)) (m := 63) 6 (by decide +kernel)
    refine nv_i (v := nI j) ej ?_
    rcases (show j = 0 ∨ j = 1 ∨ j = 2 ∨ j = 3 ∨ j = 4 ∨ j = 5 ∨ j = 6 ∨ j = 7 ∨ j = 8 ∨ j = 9 ∨ j = 10 ∨ j = 11 ∨ j = 12 ∨ j = 13 ∨ j = 14 ∨ j = 15 ∨ j = 16 ∨ j = 17 ∨ j = 18 ∨ j = 19 ∨ j = 20 ∨ j = 21 ∨ j = 22 ∨ j = 23 ∨ j = 24 ∨ j = 25 ∨ j = 26 ∨ j = 27 ∨ j = 28 ∨ j = 29 ∨ j = 30 ∨ j = 31 ∨ j = 32 ∨ j = 33 ∨ j = 34 ∨ j = 35 ∨ j = 36 ∨ j = 37 ∨ j = 38 ∨ j = 39 ∨ j = 40 ∨ j = 41 ∨ j = 42 ∨ j = 43 ∨ j = 44 ∨ j = 45 ∨ 46 ≤ j by omega) with rfl | rfl | rfl | rfl | rfl | rfl | rfl | rfl | rfl | rfl | rfl | rfl | rfl | rfl | rfl | rfl | rfl | rfl | rfl | rfl | rfl | rfl | rfl | rfl | rfl | rfl | rfl | rfl | rfl | rfl | rfl | rfl | rfl | rfl | rfl | rfl | rfl | rfl | rfl | rfl | rfl | rfl | rfl | rfl | rfl | rfl | hj2
    · refine lv_tableIn (off := 197) (tgt := 236) hx hb dL_law_39 (by decide +kernel) (by decide +kernel) (by decide +kernel) (by decide +kernel) ?_
      exact op_0 l C0 hK hE hZ hXX hSS hlt rfl q1 q4 q7 u2 u5 H _ ls hP hD hS hl
    · refine lv_tableIn (off := 222) (tgt := 261) hx hb dL_law_39 (by decide +kernel) (by decide +kernel) (by decide +kernel) (by decide +kernel) ?_
      exact op_1 l C0 hK hE hZ hXX hSS hlt rfl q1 q4 q7 u2 u5 H _ ls hP hD hS hl
    · refine lv_tableIn (off := 247) (tgt := 286) hx hb dL_law_39 (by decide +kernel) (by decide +kernel) (by decide +kernel) (by decide +kernel) ?_
      exact op_2 l C0 hK hE hZ hXX hSS hlt rfl q1 q4 q7 u2 u5 H _ ls hP hD hS hl
    · refine lv_tableIn (off := 260) (tgt := 299) hx hb dL_law_39 (by decide +kernel) (by decide +kernel) (by decide +kernel) (by decide +kernel) ?_
      exact op_3 l C0 hK hE hZ hXX hSS hlt rfl q1 q4 q7 u2 u5 H _ ls hP hD hS hl
    · refine lv_tableIn (off := 285) (tgt := 324) hx hb dL_law_39 (by decide +kernel) (by decide +kernel) (by decide +kernel) (by decide +kernel) ?_
      exact op_4 l C0 hK hE hZ hXX hSS hlt rfl q1 q4 q7 u2 u5 H _ ls hP hD hS hl
    · refine lv_tableIn (off := 353) (tgt := 392) hx hb dL_law_39 (by decide +kernel) (by decide +kernel) (by decide +kernel) (by decide +kernel) ?_
      exact op_5 l C0 hK hE hZ hXX hSS hlt rfl q1 q4 q7 u2 u5 H _ ls hP hD hS hl
    · refine lv_tableIn (off := 390) (tgt := 429) hx hb dL_law_39 (by decide +kernel) (by decide +kernel) (by decide +kernel) (by decide +kernel) ?_
      exact op_6 l C0 hK hE hZ hXX hSS hlt rfl q1 q4 q7 u2 u5 H _ ls hP hD hS hl
    · refine lv_tableIn (off := 451) (tgt := 490) hx hb dL_law_39 (by decide +kernel) (by decide +kernel) (by decide +kernel) (by decide +kernel) ?_
      exact op_7 l C0 hK hE hZ hXX hSS hlt rfl q1 q4 q7 u2 u5 H _ ls hP hD hS hl
    · refine lv_tableIn (off := 516) (tgt := 555) hx hb dL_law_39 (by decide +kernel) (by decide +kernel) (by decide +kernel) (by decide +kernel) ?_
      exact op_8 l C0 hK hE hZ hXX hSS hlt rfl q1 q4 q7 u2 u5 H _ ls hP hD hS hl
    · refine lv_tableIn (off := 553) (tgt := 592) hx hb dL_law_39 (by decide +kernel) (by decide +kernel) (by decide +kernel) (by decide +kernel) ?_
      exact op_9 l C0 hK hE hZ hXX hSS hlt rfl q1 q4 q7 u2 u5 H _ ls hP hD hS hl
    · refine lv_tableIn (off := 578) (tgt := 617) hx hb dL_law_39 (by decide +kernel) (by decide +kernel) (by decide +kernel) (by decide +kernel) ?_
      exact op_10 l C0 hK hE hZ hXX hSS hlt rfl q1 q4 q7 u2 u5 H _ ls hP hD hS hl
    · refine lv_tableIn (off := 603) (tgt := 642) hx hb dL_law_39 (by decide +kernel) (by decide +kernel) (by decide +kernel) (by decide +kernel) ?_
      exact op_11 l C0 hK hE hZ hXX hSS hlt rfl q1 q4 q7 u2 u5 H _ ls hP hD hS hl
    · refine lv_tableIn (off := 671) (tgt := 710) hx hb dL_law_39 (by decide +kernel) (by decide +kernel) (by decide +kernel) (by decide +kernel) ?_
      exact op_12 l C0 hK hE hZ hXX hSS hlt rfl q1 q4 q7 u2 u5 H _ ls hP hD hS hl
    · refine lv_tableIn (off := 696) (tgt := 735) hx hb dL_law_39 (by decide +kernel) (by decide +kernel) (by decide +kernel) (by decide +kernel) ?_
      exact op_13 l C0 hK hE hZ hXX hSS hlt rfl q1 q4 q7 u2 u5 H _ ls hP hD hS hl
    · refine lv_tableIn (off := 721) (tgt := 760) hx hb dL_law_39 (by decide +kernel) (by decide +kernel) (by decide +kernel) (by decide +kernel) ?_
      exact op_14 l C0 hK hE hZ hXX hSS hlt rfl q1 q4 q7 u2 u5 H _ ls hP hD hS hl
    · refine lv_tableIn (off := 734) (tgt := 773) hx hb dL_law_39 (by decide +kernel) (by decide +kernel) (by decide +kernel) (by decide +kernel) ?_
      exact op_15 l C0 hK hE hZ hXX hSS hlt rfl q1 q4 q7 u2 u5 H _ ls hP hD hS hl
    · refine lv_tableIn (off := 771) (tgt := 810) hx hb dL_law_39 (by decide +kernel) (by decide +kernel) (by decide +kernel) (by decide +kernel) ?_
      exact op_16 l C0 hK hE hZ hXX hSS hlt rfl q1 q4 q7 u2 u5 H _ ls hP hD hS hl
    · refine lv_tableIn (off := 808) (tgt := 847) hx hb dL_law_39 (by decide +kernel) (by decide +kernel) (by decide +kernel) (by decide +kernel) ?_
      exact op_17 l C0 hK hE hZ hXX hSS hlt rfl q1 q4 q7 u2 u5 H _ ls hP hD hS hl
    · refine lv_tableIn (off := 821) (tgt := 860) hx hb dL_law_39 (by decide +kernel) (by decide +kernel) (by decide +kernel) (by decide +kernel) ?_
      exact op_18 l C0 hK hE hZ hXX hSS hlt rfl q1 q4 q7 u2 u5 H _ ls hP hD hS hl
    · refine lv_tableIn (off := 834) (tgt := 873) hx hb dL_law_39 (by decide +kernel) (by decide +kernel) (by decide +kernel) (by decide +kernel) ?_
      exact op_19 l C0 hK hE hZ hXX hSS hlt rfl q1 q4 q7 u2 u5 H _ ls hP hD hS hl
    · refine lv_tableIn (off := 847) (tgt := 886) hx hb dL_law_39 (by decide +kernel) (by decide +kernel) (by decide +kernel) (by decide +kernel) ?_
      exact op_20 l C0 hK hE hZ hXX hSS hlt rfl q1 q4 q7 u2 u5 H _ ls hP hD hS hl
    · refine lv_tableIn (off := 903) (tgt := 942) hx hb dL_law_39 (by decide +kernel) (by decide +kernel) (by decide +kernel) (by decide +kernel) ?_
      exact op_21 l C0 hK hE hZ hXX hSS hlt rfl q1 q4 q7 u2 u5 H _ ls hP hD hS hl
    · refine lv_tableIn (off := 916) (tgt := 955) hx hb dL_law_39 (by decide +kernel) (by decide +kernel) (by decide +kernel) (by decide +kernel) ?_
      exact op_22 l C0 hK hE hZ hXX hSS hlt rfl q1 q4 q7 u2 u5 H _ ls hP hD hS hl
    · refine lv_tableIn (off := 941) (tgt := 980) hx hb dL_law_39 (by decide +kernel) (by decide +kernel) (by decide +kernel) (by decide +kernel) ?_
      exact op_23 l C0 hK hE hZ hXX hSS hlt rfl q1 q4 q7 u2 u5 H _ ls hP hD hS hl
    · refine lv_tableIn (off := 966) (tgt := 1005) hx hb dL_law_39 (by decide +kernel) (by decide +kernel) (by decide +kernel) (by decide +kernel) ?_
      exact op_24 l C0 hK hE hZ hXX hSS hlt rfl q1 q4 q7 u2 u5 H _ ls hP hD hS hl
    · refine lv_tableIn (off := 991) (tgt := 1030) hx hb dL_law_39 (by decide +kernel) (by decide +kernel) (by decide +kernel) (by decide +kernel) ?_
      exact op_25 l C0 hK hE hZ hXX hSS hlt rfl q1 q4 q7 u2 u5 H _ ls hP hD hS hl
    · refine lv_tableIn (off := 1016) (tgt := 1055) hx hb dL_law_39 (by decide +kernel) (by decide +kernel) (by decide +kernel) (by decide +kernel) ?_
      exact op_26 l C0 hK hE hZ hXX hSS hlt rfl q1 q4 q7 u2 u5 H _ ls hP hD hS hl
    · refine lv_tableIn (off := 1029) (tgt := 1068) hx hb dL_law_39 (by decide +kernel) (by decide +kernel) (by decide +kernel) (by decide +kernel) ?_
      exact op_27 l C0 hK hE hZ hXX hSS hlt rfl q1 q4 q7 u2 u5 H _ ls hP hD hS hl
    · refine lv_tableIn (off := 1086) (tgt := 1125) hx hb dL_law_39 (by decide +kernel) (by decide +kernel) (by decide +kernel) (by decide +kernel) ?_
      exact op_28 l C0 hK hE hZ hXX hSS hlt rfl q1 q4 q7 u2 u5 H _ ls hP hD hS hl
    · refine lv_tableIn (off := 1144) (tgt := 1183) hx hb dL_law_39 (by decide +kernel) (by decide +kernel) (by decide +kernel) (by decide +kernel) ?_
      exact op_29 l C0 hK hE hZ hXX hSS hlt rfl q1 q4 q7 u2 u5 H _ ls hP hD hS hl
    · refine lv_tableIn (off := 1169) (tgt := 1208) hx hb dL_law_39 (by decide +kernel) (by decide +kernel) (by decide +kernel) (by decide +kernel) ?_
      exact op_30 l C0 hK hE hZ hXX hSS hlt rfl q1 q4 q7 u2 u5 H _ ls hP hD hS hl
    · refine lv_tableIn (off := 1194) (tgt := 1233) hx hb dL_law_39 (by decide +kernel) (by decide +kernel) (by decide +kernel) (by decide +kernel) ?_
      exact op_31 l C0 hK hE hZ hXX hSS hlt rfl q1 q4 q7 u2 u5 H _ ls hP hD hS hl
    · refine lv_tableIn (off := 1207) (tgt := 1246) hx hb dL_law_39 (by decide +kernel) (by decide +kernel) (by decide +kernel) (by decide +kernel) ?_
      exact op_32 l C0 hK hE hZ hXX hSS hlt rfl q1 q4 q7 u2 u5 H _ ls hP hD hS hl
    · refine lv_tableIn (off := 1220) (tgt := 1259) hx hb dL_law_39 (by decide +kernel) (by decide +kernel) (by decide +kernel) (by decide +kernel) ?_
      exact op_33 l C0 hK hE hZ hXX hSS hlt rfl q1 q4 q7 u2 u5 H _ ls hP hD hS hl
    · refine lv_tableIn (off := 1234) (tgt := 1273) hx hb dL_law_39 (by decide +kernel) (by decide +kernel) (by decide +kernel) (by decide +kernel) ?_
      exact op_34 l C0 hK hE hZ hXX hSS hlt rfl q1 q4 q7 u2 u5 H _ ls hP hD hS hl
    · refine lv_tableIn (off := 1247) (tgt := 1286) hx hb dL_law_39 (by decide +kernel) (by decide +kernel) (by decide +kernel) (by decide +kernel) ?_
      exact op_35 l C0 hK hE hZ hXX hSS hlt rfl q1 q4 q7 u2 u5 H _ ls hP hD hS hl
    · refine lv_tableIn (off := 1272) (tgt := 1311) hx hb dL_law_39 (by decide +kernel) (by decide +kernel) (by decide +kernel) (by decide +kernel) ?_
      exact op_36 l C0 hK hE hZ hXX hSS hlt rfl q1 q4 q7 u2 u5 H _ ls hP hD hS hl
    · refine lv_tableIn (off := 1297) (tgt := 1336) hx hb dL_law_39 (by decide +kernel) (by decide +kernel) (by decide +kernel) (by decide +kernel) ?_
      exact op_37 l C0 hK hE hZ hXX hSS hlt rfl q1 q4 q7 u2 u5 H _ ls hP hD hS hl
    · refine lv_tableIn (off := 1322) (tgt := 1361) hx hb dL_law_39 (by decide +kernel) (by decide +kernel) (by decide +kernel) (by decide +kernel) ?_
      exact op_38 l C0 hK hE hZ hXX hSS hlt rfl q1 q4 q7 u2 u5 H _ ls hP hD hS hl
    · refine lv_tableIn (off := 1347) (tgt := 1386) hx hb dL_law_39 (by decide +kernel) (by decide +kernel) (by decide +kernel) (by decide +kernel) ?_
      exact op_39 l C0 hK hE hZ hXX hSS hlt rfl q1 q4 q7 u2 u5 H _ ls hP hD hS hl
    · refine lv_tableIn (off := 1384) (tgt := 1423) hx hb dL_law_39 (by decide +kernel) (by decide +kernel) (by decide +kernel) (by decide +kernel) ?_
      exact op_40 l C0 hK hE hZ hXX hSS hlt rfl q1 q4 q7 u2 u5 H _ ls hP hD hS hl
    · refine lv_tableIn (off := 1409) (tgt := 1448) hx hb dL_law_39 (by decide +kernel) (by decide +kernel) (by decide +kernel) (by decide +kernel) ?_
      exact op_41 l C0 hK hE hZ hXX hSS hlt rfl q1 q4 q7 u2 u5 H _ ls hP hD hS hl
    · refine lv_tableIn (off := 1434) (tgt := 1473) hx hb dL_law_39 (by decide +kernel) (by decide +kernel) (by decide +kernel) (by decide +kernel) ?_
      exact op_42 l C0 hK hE hZ hXX hSS hlt rfl q1 q4 q7 u2 u5 H _ ls hP hD hS hl
    · refine lv_tableIn (off := 1459) (tgt := 1498) hx hb dL_law_39 (by decide +kernel) (by decide +kernel) (by decide +kernel) (by decide +kernel) ?_
      exact op_43 l C0 hK hE hZ hXX hSS hlt rfl q1 q4 q7 u2 u5 H _ ls hP hD hS hl
    · refine lv_tableIn (off := 1484) (tgt := 1523) hx hb dL_law_39 (by decide +kernel) (by decide +kernel) (by decide +kernel) (by decide +kernel) ?_
      exact op_44 l C0 hK hE hZ hXX hSS hlt rfl q1 q4 q7 u2 u5 H _ ls hP hD hS hl
    · refine lv_tableIn (off := 1498) (tgt := 1537) hx hb dL_law_39 (by decide +kernel) (by decide +kernel) (by decide +kernel) (by decide +kernel) ?_
      exact op_45 l C0 hK hE hZ hXX hSS hlt rfl q1 q4 q7 u2 u5 H _ ls hP hD hS hl
    · refine lv_tableOut (tgt := 1592) hx hb dL_law_39 (Or.inr (by rw [nI_toInt (by omega)]; omega)) (by decide +kernel) ?_
      exact op_46 l C0 hK hE hZ hXX hSS hlt rfl q1 q4 q7 u2 u5 H _ ls hP hD hS hl
