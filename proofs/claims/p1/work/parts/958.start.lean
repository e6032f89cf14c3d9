theorem iT_X0 : ∀ w ∈ u_ws RX0 TX0 2, w ∈ lw_tbl := fun w h => gt_t (iG_X0 w h)
theorem iT_X1 : ∀ w ∈ u_ws RX1 TX1 11, w ∈ lw_tbl := fun w h => gt_t (iG_X1 w h)
theorem iT_X2 : ∀ w ∈ u_ws RX2 TX2 4, w ∈ lw_tbl := fun w h => gt_t (iG_X2 w h)
theorem iT_X3 : ∀ w ∈ u_ws RX3 TX3 3, w ∈ lw_tbl := fun w h => gt_t (iG_X3 w h)
theorem iT_X4 : ∀ w ∈ u_ws RX4 TX4 13, w ∈ lw_tbl := fun w h => gt_t (iG_X4 w h)
theorem iT_X5 : ∀ w ∈ u_ws RX5 TX5 2, w ∈ lw_tbl := fun w h => gt_t (iG_X5 w h)
theorem iT_X6 : ∀ w ∈ u_ws RX6 TX6 7, w ∈ lw_tbl := fun w h => gt_t (iG_X6 w h)
theorem iT_X7 : ∀ w ∈ u_ws RX7 TX7 10, w ∈ lw_tbl := fun w h => gt_t (iG_X7 w h)
theorem iT_X8 : ∀ w ∈ u_ws RX8 TX8 2, w ∈ lw_tbl := fun w h => gt_t (iG_X8 w h)
theorem iT_X9 : ∀ w ∈ u_ws RX9 TX9 7, w ∈ lw_tbl := fun w h => gt_t (iG_X9 w h)
theorem iT_X10 : ∀ w ∈ u_ws RX10 TX10 10, w ∈ lw_tbl := fun w h => gt_t (iG_X10 w h)
theorem iT_X11 : ∀ w ∈ u_ws RX11 TX11 17, w ∈ lw_tbl := fun w h => gt_t (iG_X11 w h)
theorem iT_X12 : ∀ w ∈ u_ws RX12 TX12 72, w ∈ lw_tbl := fun w h => gt_t (iG_X12 w h)
set_option maxRecDepth 100000 in
set_option maxHeartbeats 4000000 in
theorem n_cls {p : Program} {s : State} {m : MethodId} {meth : Method} {c : Code} {b L : Nat} {xs : Nat → Int32} (C0 : lw_At p s m meth c b L xs) : ∃ D : va_G, ∀ (k : Nat) (q : vw_C), vwCl[k]? = some q → u_Kn s q.1 q.2.1 q.2.2 (D.1 k) (D.2 k) := by
  obtain ⟨hx, hb, hr, hml, hown, hts, hX, hbl, hlocks, hgv⟩ := C0
  have hc : ∀ (k : Nat) (q : vw_C), vwCl[k]? = some q → ∃ (cC : ClassId) (iS : Nat → Nat), u_Kn s q.1 q.2.1 q.2.2 cC iS := by
    intro k q hq
    match k, hq with
    | 0, hq => cases hq; exact u_known (C := RX0) (T := TX0) (N := 2) (n := 2) hts iT_X0 (hts (.instantiable RX0 2) (by decide +kernel))
    | 1, hq => cases hq; exact u_known (C := RX1) (T := TX1) (N := 11) (n := 11) hts iT_X1 (hts (.instantiable RX1 11) (by decide +kernel))
    | 2, hq => cases hq; exact u_known (C := RX2) (T := TX2) (N := 4) (n := 4) hts iT_X2 (hts (.instantiable RX2 4) (by decide +kernel))
    | 3, hq => cases hq; exact u_known (C := RX3) (T := TX3) (N := 3) (n := 3) hts iT_X3 (hts (.instantiable RX3 3) (by decide +kernel))
    | 4, hq => cases hq; exact u_known (C := RX4) (T := TX4) (N := 13) (n := 13) hts iT_X4 (hts (.instantiable RX4 13) (by decide +kernel))
    | 5, hq => cases hq; exact u_known (C := RX5) (T := TX5) (N := 2) (n := 2) hts iT_X5 (hts (.instantiable RX5 2) (by decide +kernel))
    | 6, hq => cases hq; exact u_known (C := RX6) (T := TX6) (N := 7) (n := 7) hts iT_X6 (hts (.instantiable RX6 7) (by decide +kernel))
    | 7, hq => cases hq; exact u_known (C := RX7) (T := TX7) (N := 10) (n := 10) hts iT_X7 (hts (.instantiable RX7 10) (by decide +kernel))
    | 8, hq => cases hq; exact u_known (C := RX8) (T := TX8) (N := 2) (n := 2) hts iT_X8 (hts (.instantiable RX8 2) (by decide +kernel))
    | 9, hq => cases hq; exact u_known (C := RX9) (T := TX9) (N := 7) (n := 7) hts iT_X9 (hts (.instantiable RX9 7) (by decide +kernel))
    | 10, hq => cases hq; exact u_known (C := RX10) (T := TX10) (N := 10) (n := 10) hts iT_X10 (hts (.instantiable RX10 10) (by decide +kernel))
    | 11, hq => cases hq; exact u_known (C := RX11) (T := TX11) (N := 17) (n := 17) hts iT_X11 (hts (.instantiable RX11 17) (by decide +kernel))
    | 12, hq => cases hq; exact u_known (C := RX12) (T := TX12) (N := 72) (n := 72) hts iT_X12 (hts (.instantiable RX12 72) (by decide +kernel))
    | k + 13, hq => simp [vwCl] at hq
  have h2 : ∀ k : Nat, ∃ f : ClassId × (Nat → Nat), ∀ q : vw_C, vwCl[k]? = some q → u_Kn s q.1 q.2.1 q.2.2 f.1 f.2 := fun k => by
    cases h : vwCl[k]? with
    | none => exact ⟨(0, fun _ => 0), fun q e => by cases e⟩
    | some q => obtain ⟨a, b, hh⟩ := hc k q h; exact ⟨(a, b), fun q2 e => by cases e; exact hh⟩
  obtain ⟨f, hf⟩ := Classical.axiomOfChoice h2
  exact ⟨(fun k => (f k).1, fun k => (f k).2), fun k q h => hf k q h⟩
set_option maxRecDepth 100000 in
set_option maxHeartbeats 4000000 in
theorem n_kn {p : Program} {s : State} {m : MethodId} {meth : Method} {c : Code} {b L : Nat} {xs : Nat → Int32} (C0 : lw_At p s m meth c b L xs) : ∃ (D : va_G) (y : Nat → ClassId), va_K D vwCl (nTY y) s := by
  obtain ⟨D, hD⟩ := n_cls C0
  obtain ⟨hx, hb, hr, hml, hown, hts, hX, hbl, hlocks, hgv⟩ := C0
  obtain ⟨c0, a0, f0⟩ := nArr (hts (.arrayClass .int) (by decide +kernel))
  obtain ⟨c1, a1, f1⟩ := nArr (hts (.arrayClass .long) (by decide +kernel))
  obtain ⟨c2, a2, f2⟩ := nArr (hts (.arrayClass .boolean) (by decide +kernel))
  obtain ⟨c3, a3, f3⟩ := nArr (hts (.arrayClass .byte) (by decide +kernel))
  obtain ⟨c4, a4, f4⟩ := nArrO (hts (.arrayOver (.object RX0)) (by decide +kernel))
  obtain ⟨c5, a5, f5⟩ := nArrO (hts (.arrayOver (.object RX7)) (by decide +kernel))
  obtain ⟨c6, a6, f6⟩ := nArrA (hts (.arrayOver (.array .byte)) (by decide +kernel))
  refine ⟨D, fun k => if k = 0 then c0 else if k = 1 then c1 else if k = 2 then c2 else if k = 3 then c3 else if k = 4 then c4 else if k = 5 then c5 else c6, hD, ?_⟩
  intro k q hq
  match k, hq with
  | 0, hq => cases hq; exact ⟨a0, f0⟩
  | 1, hq => cases hq; exact ⟨a1, f1⟩
  | 2, hq => cases hq; exact ⟨a2, f2⟩
  | 3, hq => cases hq; exact ⟨a3, f3⟩
  | 4, hq => cases hq; exact ⟨a4, f4⟩
  | 5, hq => cases hq; exact ⟨a5, f5⟩
  | 6, hq => cases hq; exact ⟨a6, f6⟩
  | k + 7, hq => simp [nTY] at hq
set_option maxRecDepth 100000 in
theorem n_nT {p : Program} {s : State} {m : MethodId} {meth : Method} {c : Code} {b L : Nat} {xs : Nat → Int32} (C0 : lw_At p s m meth c b L xs) : nT s := by
  obtain ⟨hx, hb, hr, hml, hown, hts, hX, hbl, hlocks, hgv⟩ := C0
  refine ⟨fun w hw => va_Nw.of rfl (hts _ ((by decide +kernel : ∀ w ∈ nNest, Cond.methodLinkNest w.1 w.2.1 w.2.2 RX11 ∈ lw_tbl) w hw)), va_AO.of (hts (.arrayOver (.object RX0)) (by decide +kernel)), va_AO.of (hts (.arrayOver (.object RX7)) (by decide +kernel)), va_AOA.of (hts (.arrayOver (.array .byte)) (by decide +kernel))⟩
theorem n_lt {s : State} : ∀ a : Nat, a < s.heap.size → ¬ (fun q : Nat => s.heap.size ≤ q) a := fun _ h => Nat.not_le.mpr h
set_option maxRecDepth 100000 in
set_option maxHeartbeats 4000000 in
theorem n_st_nLim {p : Program} {s : State} {m : MethodId} {meth : Method} {c : Code} {b L : Nat} {xs : Nat → Int32} (C0 : lw_At p s m meth c b L xs) : ∃ t : Nat, va_Z RX11 "LAW_LIMITS" "[I" (.ref t) (fun q => s.heap.size ≤ q) s s.heap ∧ va_T .int t 4 (fun j => .int (nLim j)) (fun q => s.heap.size ≤ q) s s.heap := by
  obtain ⟨hx, hb, hr, hml, hown, hts, hX, hbl, hlocks, hgv⟩ := C0
  have hs := flat_of_before _ hgv
  obtain ⟨t, ht, hT⟩ := va_Tof (tm := (Term.static "SoldToBehind" "LAW_LIMITS" "[I")) (N := 4) (f := fun j => .int (nLim j)) (by decide +kernel) (hs (Cond.arrayOf (Term.static "SoldToBehind" "LAW_LIMITS" "[I") .int) (by decide +kernel)) (va_eqt (z := 4) (hs (Cond.eq (.length (Term.static "SoldToBehind" "LAW_LIMITS" "[I")) (.int 4)) (by decide +kernel))) (fun j hj => by
    match j, hj with
    | 0, _ => exact va_eqt (z := 2) (hs (Cond.eq (.elem (Term.static "SoldToBehind" "LAW_LIMITS" "[I") (.int 0)) (.int 2)) (by decide +kernel))
    | 1, _ => exact va_eqt (z := 99) (hs (Cond.eq (.elem (Term.static "SoldToBehind" "LAW_LIMITS" "[I") (.int 1)) (.int 99)) (by decide +kernel))
    | 2, _ => exact va_eqt (z := 99) (hs (Cond.eq (.elem (Term.static "SoldToBehind" "LAW_LIMITS" "[I") (.int 2)) (.int 99)) (by decide +kernel))
    | 3, _ => exact va_eqt (z := 9) (hs (Cond.eq (.elem (Term.static "SoldToBehind" "LAW_LIMITS" "[I") (.int 3)) (.int 9)) (by decide +kernel))
    | j + 4, h => exact absurd h (by omega)) n_lt
  exact ⟨t, va_Zof (hts (.laysStatic RX11 "LAW_LIMITS" "[I") (by decide +kernel)) (hts (.initialized RX11) (by decide +kernel)) ht n_lt, hT⟩
set_option maxRecDepth 100000 in
set_option maxHeartbeats 4000000 in
theorem n_st_nMos {p : Program} {s : State} {m : MethodId} {meth : Method} {c : Code} {b L : Nat} {xs : Nat → Int32} (C0 : lw_At p s m meth c b L xs) : ∃ t : Nat, va_Z RX11 "MOSTS_TRIED" "[I" (.ref t) (fun q => s.heap.size ≤ q) s s.heap ∧ va_T .int t 5 (fun j => .int (nMos j)) (fun q => s.heap.size ≤ q) s s.heap := by
  obtain ⟨hx, hb, hr, hml, hown, hts, hX, hbl, hlocks, hgv⟩ := C0
  have hs := flat_of_before _ hgv
  obtain ⟨t, ht, hT⟩ := va_Tof (tm := (Term.static "SoldToBehind" "MOSTS_TRIED" "[I")) (N := 5) (f := fun j => .int (nMos j)) (by decide +kernel) (hs (Cond.arrayOf (Term.static "SoldToBehind" "MOSTS_TRIED" "[I") .int) (by decide +kernel)) (va_eqt (z := 5) (hs (Cond.eq (.length (Term.static "SoldToBehind" "MOSTS_TRIED" "[I")) (.int 5)) (by decide +kernel))) (fun j hj => by
    match j, hj with
    | 0, _ => exact va_eqt (z := 0) (hs (Cond.eq (.elem (Term.static "SoldToBehind" "MOSTS_TRIED" "[I") (.int 0)) (.int 0)) (by decide +kernel))
    | 1, _ => exact va_eqt (z := 1) (hs (Cond.eq (.elem (Term.static "SoldToBehind" "MOSTS_TRIED" "[I") (.int 1)) (.int 1)) (by decide +kernel))
    | 2, _ => exact va_eqt (z := 2) (hs (Cond.eq (.elem (Term.static "SoldToBehind" "MOSTS_TRIED" "[I") (.int 2)) (.int 2)) (by decide +kernel))
    | 3, _ => exact va_eqt (z := 3) (hs (Cond.eq (.elem (Term.static "SoldToBehind" "MOSTS_TRIED" "[I") (.int 3)) (.int 3)) (by decide +kernel))
    | 4, _ => exact va_eqt (z := 99) (hs (Cond.eq (.elem (Term.static "SoldToBehind" "MOSTS_TRIED" "[I") (.int 4)) (.int 99)) (by decide +kernel))
    | j + 5, h => exact absurd h (by omega)) n_lt
  exact ⟨t, va_Zof (hts (.laysStatic RX11 "MOSTS_TRIED" "[I") (by decide +kernel)) (hts (.initialized RX11) (by decide +kernel)) ht n_lt, hT⟩
set_option maxRecDepth 100000 in
set_option maxHeartbeats 4000000 in
theorem n_st_nTen {p : Program} {s : State} {m : MethodId} {meth : Method} {c : Code} {b L : Nat} {xs : Nat → Int32} (C0 : lw_At p s m meth c b L xs) : ∃ t : Nat, va_Z RX11 "TENS" "[I" (.ref t) (fun q => s.heap.size ≤ q) s s.heap ∧ va_T .int t 10 (fun j => .int (nTen j)) (fun q => s.heap.size ≤ q) s s.heap := by
  obtain ⟨hx, hb, hr, hml, hown, hts, hX, hbl, hlocks, hgv⟩ := C0
  have hs := flat_of_before _ hgv
  obtain ⟨t, ht, hT⟩ := va_Tof (tm := (Term.static "SoldToBehind" "TENS" "[I")) (N := 10) (f := fun j => .int (nTen j)) (by decide +kernel) (hs (Cond.arrayOf (Term.static "SoldToBehind" "TENS" "[I") .int) (by decide +kernel)) (va_eqt (z := 10) (hs (Cond.eq (.length (Term.static "SoldToBehind" "TENS" "[I")) (.int 10)) (by decide +kernel))) (fun j hj => by
    match j, hj with
    | 0, _ => exact va_eqt (z := 1) (hs (Cond.eq (.elem (Term.static "SoldToBehind" "TENS" "[I") (.int 0)) (.int 1)) (by decide +kernel))
    | 1, _ => exact va_eqt (z := 10) (hs (Cond.eq (.elem (Term.static "SoldToBehind" "TENS" "[I") (.int 1)) (.int 10)) (by decide +kernel))
    | 2, _ => exact va_eqt (z := 100) (hs (Cond.eq (.elem (Term.static "SoldToBehind" "TENS" "[I") (.int 2)) (.int 100)) (by decide +kernel))
    | 3, _ => exact va_eqt (z := 1000) (hs (Cond.eq (.elem (Term.static "SoldToBehind" "TENS" "[I") (.int 3)) (.int 1000)) (by decide +kernel))
    | 4, _ => exact va_eqt (z := 10000) (hs (Cond.eq (.elem (Term.static "SoldToBehind" "TENS" "[I") (.int 4)) (.int 10000)) (by decide +kernel))
    | 5, _ => exact va_eqt (z := 100000) (hs (Cond.eq (.elem (Term.static "SoldToBehind" "TENS" "[I") (.int 5)) (.int 100000)) (by decide +kernel))
    | 6, _ => exact va_eqt (z := 1000000) (hs (Cond.eq (.elem (Term.static "SoldToBehind" "TENS" "[I") (.int 6)) (.int 1000000)) (by decide +kernel))
    | 7, _ => exact va_eqt (z := 10000000) (hs (Cond.eq (.elem (Term.static "SoldToBehind" "TENS" "[I") (.int 7)) (.int 10000000)) (by decide +kernel))
    | 8, _ => exact va_eqt (z := 100000000) (hs (Cond.eq (.elem (Term.static "SoldToBehind" "TENS" "[I") (.int 8)) (.int 100000000)) (by decide +kernel))
    | 9, _ => exact va_eqt (z := 1000000000) (hs (Cond.eq (.elem (Term.static "SoldToBehind" "TENS" "[I") (.int 9)) (.int 1000000000)) (by decide +kernel))
    | j + 10, h => exact absurd h (by omega)) n_lt
  exact ⟨t, va_Zof (hts (.laysStatic RX11 "TENS" "[I") (by decide +kernel)) (hts (.initialized RX11) (by decide +kernel)) ht n_lt, hT⟩
theorem n_nZ {p : Program} {s : State} {m : MethodId} {meth : Method} {c : Code} {b L : Nat} {xs : Nat → Int32} (C0 : lw_At p s m meth c b L xs) : ∃ t : Nat → Nat, nZ t s.heap.size s := by
  obtain ⟨t0, z0, a0⟩ := n_st_nLim C0
  obtain ⟨t1, z1, a1⟩ := n_st_nMos C0
  obtain ⟨t2, z2, a2⟩ := n_st_nTen C0
  obtain ⟨hx, hb, hr, hml, hown, hts, hX, hbl, hlocks, hgv⟩ := C0
  exact ⟨fun k => if k = 0 then t0 else if k = 1 then t1 else t2, ⟨z0, a0⟩, ⟨z1, a1⟩, ⟨z2, a2⟩, va_Nw.of rfl (hts (.fieldLinkNest RX7 56 RX11 "TENS" "[I" RX11) (by decide +kernel))⟩
set_option maxRecDepth 100000 in
set_option maxHeartbeats 4000000 in
theorem n_nX {p : Program} {s : State} {m : MethodId} {meth : Method} {c : Code} {b L : Nat} {xs : Nat → Int32} (C0 : lw_At p s m meth c b L xs) : ∃ sa : Nat → Nat, nX sa s.heap.size s := by
  obtain ⟨hx, hb, hr, hml, hown, hts, hX, hbl, hlocks, hgv⟩ := C0
  have hs := flat_of_before _ hgv
  obtain ⟨s0, e0⟩ := nStr (hs (Cond.exactly (.string RX11 163) "java/lang/String") (by decide +kernel))
  obtain ⟨s1, e1⟩ := nStr (hs (Cond.exactly (.string RX11 231) "java/lang/String") (by decide +kernel))
  obtain ⟨s2, e2⟩ := nStr (hs (Cond.exactly (.string RX11 303) "java/lang/String") (by decide +kernel))
  obtain ⟨s3, e3⟩ := nStr (hs (Cond.exactly (.string RX11 456) "java/lang/String") (by decide +kernel))
  refine ⟨fun k => if k = 0 then s0 else if k = 1 then s1 else if k = 2 then s2 else s3, vx_Zqof (hts (.laysStatic Bundle.tN "UNASSIGNED_STACK" Bundle.steD) (by decide +kernel)) (hts (.initialized Bundle.tN) (by decide +kernel)) (hs (Cond.isRef (.static Bundle.tN "UNASSIGNED_STACK" Bundle.steD)) (by decide +kernel)) n_lt, vx_Zqof (hts (.laysStatic Bundle.tN "SUPPRESSED_SENTINEL" Bundle.listD) (by decide +kernel)) (hts (.initialized Bundle.tN) (by decide +kernel)) (hs (Cond.isRef (.static Bundle.tN "SUPPRESSED_SENTINEL" Bundle.listD)) (by decide +kernel)) n_lt, ?_, ?_, ?_, ?_, va_Nw.of rfl (hts (.castable nNS nNS) (by decide +kernel)), va_Nw.of rfl (hts (.declares (Bundle.initS "java/lang/RuntimeException")) (by decide +kernel)), va_Nw.of rfl (hts (.declares (Bundle.initS "java/lang/Exception")) (by decide +kernel)), va_Nw.of rfl (hts (.declares (Bundle.initS Bundle.tN)) (by decide +kernel))⟩
  · exact vk_R.of (hts (.stringRef RX11 163 "none such") (by decide +kernel)) e0
  · exact vk_R.of (hts (.stringRef RX11 231 "not in the line, or no such place") (by decide +kernel)) e1
  · exact vk_R.of (hts (.stringRef RX11 303 "not in the line") (by decide +kernel)) e2
  · exact vk_R.of (hts (.stringRef RX11 456 "no such number of the row") (by decide +kernel)) e3
set_option maxRecDepth 100000 in
set_option maxHeartbeats 4000000 in
theorem n_nS {p : Program} {s : State} {m : MethodId} {meth : Method} {c : Code} {b L : Nat} {xs : Nat → Int32} (C0 : lw_At p s m meth c b L xs) : ∃ ad : Nat → Nat, nS ad s.heap.size s := by
  obtain ⟨hx, hb, hr, hml, hown, hts, hX, hbl, hlocks, hgv⟩ := C0
  have hs := flat_of_before _ hgv
  obtain ⟨a0, e0⟩ := nStr (own := "SoldToBehindModel") (k := 471) (hs (Cond.exactly (Term.string "SoldToBehindModel" 471) "java/lang/String") (by decide +kernel))
  obtain ⟨a1, e1, hT⟩ := va_Tof (tm := (Term.field (Term.string "SoldToBehindModel" 471) "java/lang/String" "value" "[B")) (N := 4) (f := fun j => .int (nDig j)) (by decide +kernel) (hs (Cond.arrayOf (Term.field (Term.string "SoldToBehindModel" 471) "java/lang/String" "value" "[B") .byte) (by decide +kernel)) (va_eqt (z := 4) (hs (Cond.eq (.length (Term.field (Term.string "SoldToBehindModel" 471) "java/lang/String" "value" "[B")) (.int 4)) (by decide +kernel))) (fun j hj => by
    match j, hj with
    | 0, _ => exact va_eqt (z := 48) (hs (Cond.eq (.elem (Term.field (Term.string "SoldToBehindModel" 471) "java/lang/String" "value" "[B") (.int 0)) (.int 48)) (by decide +kernel))
    | 1, _ => exact va_eqt (z := 49) (hs (Cond.eq (.elem (Term.field (Term.string "SoldToBehindModel" 471) "java/lang/String" "value" "[B") (.int 1)) (.int 49)) (by decide +kernel))
    | 2, _ => exact va_eqt (z := 50) (hs (Cond.eq (.elem (Term.field (Term.string "SoldToBehindModel" 471) "java/lang/String" "value" "[B") (.int 2)) (.int 50)) (by decide +kernel))
    | 3, _ => exact va_eqt (z := 51) (hs (Cond.eq (.elem (Term.field (Term.string "SoldToBehindModel" 471) "java/lang/String" "value" "[B") (.int 3)) (.int 51)) (by decide +kernel))
    | j + 4, h => exact absurd h (by omega)) n_lt
  exact ⟨fun k => if k = 0 then a0 else a1, ⟨va_Oof (hs (Cond.exactly (Term.string "SoldToBehindModel" 471) "java/lang/String") (by decide +kernel)) e0 n_lt, vk_OFof e0 (va_eqt (z := 0) (hs (Cond.eq (.field (Term.string "SoldToBehindModel" 471) "java/lang/String" "coder" "B") (.int 0)) (by decide +kernel))) n_lt, vk_OFof e0 e1 n_lt, hT⟩, va_Zof (hts (.laysStatic RJ0 "COMPACT_STRINGS" "Z") (by decide +kernel)) (hts (.initialized RJ0) (by decide +kernel)) (va_eqi (z := 1) (hs (Cond.eq (.static "java/lang/String" "COMPACT_STRINGS" "Z") (.int 1)) (by decide +kernel))) n_lt, va_Zqof (hts (.laysStatic RJ3 "SIOOBE_FORMATTER" "Ljava/util/function/BiFunction;") (by decide +kernel)) (hts (.initialized RJ3) (by decide +kernel)) (hs (Cond.isRef (.static "jdk/internal/util/Preconditions" "SIOOBE_FORMATTER" "Ljava/util/function/BiFunction;")) (by decide +kernel)) n_lt, vk_R.of (hts (.stringRef RX12 471 "0123") (by decide +kernel)) e0⟩
