/-! a fresh object's of, worth, gained and row throw: contracts of throwing methods, their premises -/
abbrev nNS : String := "java/util/NoSuchElementException"
abbrev nNames : List String := ["java/lang/RuntimeException", "java/lang/Exception"]
def nX (sa : Nat → Nat) (lo : Nat) (U : State) : Prop :=
  vx_Zq Bundle.tN "UNASSIGNED_STACK" Bundle.steD (fun q => lo ≤ q) U U.heap ∧ vx_Zq Bundle.tN "SUPPRESSED_SENTINEL" Bundle.listD (fun q => lo ≤ q) U U.heap ∧
  vk_R RX11 163 "none such" (sa 0) U ∧ vk_R RX11 231 "not in the line, or no such place" (sa 1) U ∧ vk_R RX11 303 "not in the line" (sa 2) U ∧ vk_R RX11 456 "no such number of the row" (sa 3) U ∧
  va_Nw (.castable nNS nNS) U ∧ va_Nw (.declares (Bundle.initS "java/lang/RuntimeException")) U ∧ va_Nw (.declares (Bundle.initS "java/lang/Exception")) U ∧ va_Nw (.declares (Bundle.initS Bundle.tN)) U
def nE3 (sa : Nat → Nat) (lo : Nat) : State → Prop := fun U => nT U ∧ nX sa lo U
theorem nE3_blind {sa : Nat → Nat} {lo : Nat} : ∀ (a : Array Value) (U : State) (g : JFrame) (mk : MethodId), nE3 sa lo U → nE3 sa lo (U.calling g mk a) := fun a U g mk h =>
  ⟨nT_blind a U g mk h.1, vx_Zq.moved (u := U) (U := U.calling g mk a) (Vm.Alike.refl U.vm) h.2.1, vx_Zq.moved (u := U) (U := U.calling g mk a) (Vm.Alike.refl U.vm) h.2.2.1, vk_R.same (u := U) (U := U.calling g mk a) rfl h.2.2.2.1, vk_R.same (u := U) (U := U.calling g mk a) rfl h.2.2.2.2.1, vk_R.same (u := U) (U := U.calling g mk a) rfl h.2.2.2.2.2.1, vk_R.same (u := U) (U := U.calling g mk a) rfl h.2.2.2.2.2.2.1, va_Nw.same rfl (u := U) (U := U.calling g mk a) rfl h.2.2.2.2.2.2.2.1, va_Nw.same rfl (u := U) (U := U.calling g mk a) rfl h.2.2.2.2.2.2.2.2.1, va_Nw.same rfl (u := U) (U := U.calling g mk a) rfl h.2.2.2.2.2.2.2.2.2.1, va_Nw.same rfl (u := U) (U := U.calling g mk a) rfl h.2.2.2.2.2.2.2.2.2.2⟩
theorem nE3_at {sa : Nat → Nat} {lo : Nat} {s : State} {A : Nat → Prop} {H : Heap} {locs : List Loc} (h : nT s) (hX : nX sa lo s) (hS : va_S A s.heap H locs) (hAl : ∀ q : Nat, A q → lo ≤ q) : ∀ U : State, U.heap = H → s.WarmedH U.vm → nE3 sa lo U := fun U hU hW => by
  have hq : ∀ a : Nat, a < s.heap.size → ¬ lo ≤ a → U.heap[a]? = s.heap[a]? := fun a ha hn => by rw [hU]; exact hS.2.1 a ha (fun q => hn (hAl a q))
  exact ⟨nT_at h U hU hW, (hX.1.moved hW.alike).kept hq, (hX.2.1.moved hW.alike).kept hq, vk_R.warm hW hX.2.2.1, vk_R.warm hW hX.2.2.2.1, vk_R.warm hW hX.2.2.2.2.1, vk_R.warm hW hX.2.2.2.2.2.1, va_Nw.warmC hW hX.2.2.2.2.2.2.1, va_Nw.warmD hW hX.2.2.2.2.2.2.2.1, va_Nw.warmD hW hX.2.2.2.2.2.2.2.2.1, va_Nw.warmD hW hX.2.2.2.2.2.2.2.2.2⟩
/-! 'throw new NoSuchElementException("text")': this JDK's <init>(String) of it calls RuntimeException's at pool index 13: words and walk of my own over the library's links -/
def nseOk (w : Cond) : Bool := decide (w ≠ .code (Bundle.initS nNS) Bundle.six 2 none) && decide (w ≠ .methodLink nNS 7 (Bundle.initS "java/lang/RuntimeException"))
abbrev nsePass : List Cond := Bundle.passSAtoms nNS "java/lang/RuntimeException" 13 prog_31_method_4_code
def nseL : List Cond := nsePass ++ (Bundle.ownAtoms RX11 165 nNS nNames).filter nseOk
theorem nse_0 : decode prog_31_method_4_code 0 = .ok (.aload_n 0, 1) := by decide +kernel
theorem nse_1 : decode prog_31_method_4_code 1 = .ok (.aload_n 1, 1) := by decide +kernel
theorem nse_2 : decode prog_31_method_4_code 2 = .ok (.invokespecial 13, 3) := by decide +kernel
theorem nse_5 : decode prog_31_method_4_code 5 = .ok (.return_, 1) := by decide +kernel
theorem nse_T : ∀ w ∈ Bundle.throwableAtoms, w ∈ nseL := by decide +kernel
theorem nse_TS : ∀ w ∈ Bundle.throwableSAtoms, w ∈ nseL := by decide +kernel
theorem nse_C : ∀ w ∈ Bundle.chainSAtoms "java/lang/RuntimeException" ["java/lang/Exception"], w ∈ nseL := by decide +kernel
theorem nse_P : ∀ w ∈ nsePass, w ∈ nseL := fun w h => List.mem_append_left _ h
theorem nse_bad : ∀ w ∈ (nseL.filter vx_no).filter (fun w => !goodWord w), w ∈ [Cond.castable nNS nNS, .declares (Bundle.initS "java/lang/RuntimeException"), .declares (Bundle.initS "java/lang/Exception"), .declares (Bundle.initS Bundle.tN)] := by decide +kernel
theorem nse_ot : ∀ w ∈ nseL.filter vx_no, vx_ot w = true := by decide +kernel
theorem nse_tbl : ∀ w ∈ (nseL.filter vx_no).filter goodWord, w ∈ lw_tbl := by decide +kernel
theorem nse_in : ∀ w ∈ (nseL.filter vx_no).filter goodWord, w ∈ gT := fun w h => gT_mem.mpr ⟨nse_tbl w h, (List.mem_filter.mp h).2⟩
theorem nse_fR : Bundle.fit "java/lang/RuntimeException" = true := by decide +kernel
theorem nse_fE : ∀ n ∈ ["java/lang/Exception"], Bundle.fit n = true := by decide +kernel
theorem nse_fN : Bundle.fit nNS = true := by decide +kernel
theorem nse_w1 : Cond.instantiable nNS 6 ∈ nseL := by decide +kernel
theorem nse_w2 : Cond.selects nNS Bundle.tFill0 Bundle.tFill0 ∈ nseL := by decide +kernel
theorem nse_w3 : Cond.selects nNS Bundle.tFill Bundle.tFill ∈ nseL := by decide +kernel
theorem nse_w4 : Cond.isRef (.static Bundle.tN "UNASSIGNED_STACK" Bundle.steD) ∈ nseL := by decide +kernel
theorem nse_w5 : Cond.isRef (.static Bundle.tN "SUPPRESSED_SENTINEL" Bundle.listD) ∈ nseL := by decide +kernel
theorem nse_w6 : Cond.fieldLink Bundle.tN 198 Bundle.tN "backtrace" "Ljava/lang/Object;" ∈ nseL := by decide +kernel
theorem nse_w7 : Cond.lays Bundle.tN Bundle.tN "backtrace" "Ljava/lang/Object;" ∈ nseL := by decide +kernel
theorem nse_w8 : Cond.lays nNS Bundle.tN "cause" "Ljava/lang/Throwable;" ∈ nseL := by decide +kernel
theorem nse_w9 : Cond.lays nNS Bundle.tN "stackTrace" Bundle.steD ∈ nseL := by decide +kernel
theorem nse_w10 : Cond.lays nNS Bundle.tN "suppressedExceptions" Bundle.listD ∈ nseL := by decide +kernel
theorem nse_w11 : Cond.lays nNS Bundle.tN "detailMessage" "Ljava/lang/String;" ∈ nseL := by decide +kernel
theorem nse_w12 : Cond.lays nNS Bundle.tN "backtrace" "Ljava/lang/Object;" ∈ nseL := by decide +kernel
theorem nse_w13 : Cond.methodLink RX11 165 (Bundle.initS nNS) ∈ nseL := by decide +kernel
theorem nse_w14 : Cond.instanceMethod (Bundle.initS nNS) ∈ nseL := by decide +kernel
theorem nse_w15 : Cond.code (Bundle.initS nNS) prog_31_method_4_code 2 none ∈ nseL := by decide +kernel
set_option maxHeartbeats 4000000 in
theorem nse_ctor {p : Program} {l : Launch} {e : Env} {R : Room} {s : State} {m₀ : MethodId} {args : Array Value} {below : List Frame} {meth : Method} {c : Code} {V : State} {locs : List Loc} {cells slots : Nat} (X : Stand p l e R s m₀ args below meth c V locs cells slots) (hexec : p.tables.exec = Jvm.exec) (htr : e.platform.stackTraces = false)
    (hown : s.vm.findClass RX11 = some m₀.cls) (h : ∀ a ∈ nseL, a.before args s = true) (hlocs : ∀ x ∈ locs, ∀ cell, s.heap[x.base]? = some cell → cell.vm.isStatics = false)
    {a : Addr} {cX : ClassId} {kX : Class} (hfoundX : s.vm.findClass nNS = some cX) (hkX : s.vm.classes[cX]? = some kX) (hcell : V.heap[a]? = some (freshCell cX kX)) (hnew : s.heap.size ≤ a) {msg : Value} (hmsg : msg.isRef = true)
    {g : JFrame} (hg : g.method = m₀) (hsize : g.locals.size = c.maxLocals) (hlocked : g.locked = none) (hentered : g.entered = []) {rest : List Value} (hstack : g.stack = msg :: .ref a :: .ref a :: rest)
    (hd6 : decode c.code g.pc = .ok (.invokespecial 165, 3)) (hd9 : decode c.code (g.pc + 3) = .ok (.athrow, 1)) (hout : ∀ x ∈ c.exceptionTable.toList, covers x (g.pc + 3) = false)
    (hRframes : 5 < R.frames) (hRlocals : 2 * g.monitorRoom + ((Value.ref a :: rest).map fun v => v.category).sum + 81 ≤ R.locals) (hlocks : meth.locks = false) :
    ∃ U : State, Steps p.tables e below (V.setTop g) U ∧ U.status = .running ∧ Ended U below (.threw a) ∧ s.WarmedH U.vm ∧ s.sameButNew ({ U with vm := s.vm } : State) locs cells slots ∧ ∃ ce, U.heap[a]? = some ce ∧ ce.vm = .none ∧ s.vm.findClass nNS = some ce.cls := by
  have howns : e.platform.frameOwnsMonitors = true := by rw [X.admits.platform]
  have hfin : e.platform.finalization = false := by rw [X.admits.platform]
  have hpl : e.platform.magicAccessors = ({} : Platform).magicAccessors := by rw [X.admits.platform]
  have a' : ∀ x, x ∈ nseL → x.holds args s none s [] = true := fun x hx => h x hx
  obtain ⟨T, Z0, L, -, Y⟩ := ThrowableC.of_atoms (args := args) howns hfin hpl (fun x hx => h x (nse_T x hx))
  obtain ⟨Z, M, LZ, LM, hnZ⟩ := Init0T.ofS_atoms (args := args) hpl L Y (fun x hx => h x (nse_TS x hx))
  obtain ⟨P2, Ps, hlen, L2, hL, hP2m, hlink2, hlinkR⟩ := Bundle.chainS (args := args) hpl hnZ ["java/lang/Exception"] "java/lang/RuntimeException" nse_fR nse_fE (fun x hx => h x (nse_C x hx))
  obtain ⟨P1, L1, hP1m, hP1s⟩ := PassC.ofS_atoms (args := args) (s := s) hpl (X := nNS) (Y := "java/lang/RuntimeException") (Bundle.fit_spec nse_fN).1 (Bundle.fit_spec nse_fR).2 nse_0 nse_1 nse_2 nse_5 (fun x hx => h x (nse_P x hx))
  have hlink1 : P1.sup = P2.m := Option.some.inj (hP1s.symm.trans hP2m)
  have hfound : s.vm.findClass nNS = some P1.m.cls := findClass_of_methodNamed hP1m
  cases Option.some.inj (hfoundX.symm.trans hfound)
  obtain ⟨c1, kX', hc1, hk, hord, -, -, hn6⟩ := Cond.instantiable_spec (a' _ nse_w1)
  cases Option.some.inj (hc1.symm.trans hfound)
  cases Option.some.inj (hkX.symm.trans hk)
  have hsel0 : selectMethod e.platform s.vm P1.m.cls T.fill0 = .method T.fill0 := by
    obtain ⟨c2, r2, m2, q1, q2, q3, q4, -⟩ := Cond.selects_spec (a' _ nse_w2)
    cases Option.some.inj (q1.symm.trans hfound)
    cases Option.some.inj (q2.symm.trans (State.methodFound?_of_named Y.fill0 (by decide)))
    cases Option.some.inj (q3.symm.trans Y.fill0)
    rw [Launch.admits_selectMethod X.admits]; exact q4
  have hselF : selectMethod e.platform s.vm P1.m.cls T.fill = .method T.fill := by
    obtain ⟨c2, r2, m2, q1, q2, q3, q4, -⟩ := Cond.selects_spec (a' _ nse_w3)
    cases Option.some.inj (q1.symm.trans hfound)
    cases Option.some.inj (q2.symm.trans (State.methodFound?_of_named Y.fill (by decide)))
    cases Option.some.inj (q3.symm.trans Y.fill)
    rw [Launch.admits_selectMethod X.admits]; exact q4
  obtain ⟨cellS0, hcS0, hiss⟩ := Y.statics
  obtain ⟨u0, hu0⟩ := Cond.staticRefV Y.unassigned L.unassignedStatic L.statics hcS0 hiss (a' _ nse_w4)
  obtain ⟨sen, hsen⟩ := Cond.staticRefV Y.sentinel L.sentinelStatic L.statics hcS0 hiss (a' _ nse_w5)
  obtain ⟨ci198, i198, fB, hk198, hg198, ha198, hsB, -, hnB, htB, hffB⟩ := Cond.ownField (t := .object "java/lang/Object") Y.found L.cls (by decide +kernel) (a' _ nse_w6) (a' _ nse_w7) e.platform hpl
  obtain ⟨cellS, hcS', heS, -, hkeep⟩ := X.same.2.2.2.2.2 T.aS cellS0 hcS0
  have hcellS : V.heap[T.aS]? = some cellS := hcS'
  have hout' : ∀ i, (⟨T.aS, i⟩ : Loc) ∉ locs := fun i hmem => by
    have := hlocs _ hmem cellS0 hcS0
    rw [hiss] at this; cases this
  have hknownS : cellS.vm ≠ .unknown := by
    rw [heS]; intro hu
    rw [show cellS0.vm = .unknown from hu] at hiss
    cases hiss
  have hneS : T.aS ≠ a := Nat.ne_of_lt (Nat.lt_of_lt_of_le (Array.getElem?_eq_some_iff.mp hcS0).1 hnew)
  obtain ⟨iM, hffM⟩ := Y.msg
  obtain ⟨tyC, dC, hdC, hdnC⟩ := Cond.laysAt hfound hk Y.cause (a' _ nse_w8)
  obtain ⟨tyS, dS, hdS, hdnS⟩ := Cond.laysAt hfound hk Y.stack (a' _ nse_w9)
  obtain ⟨tyP, dP, hdP, hdnP⟩ := Cond.laysAt hfound hk Y.supp (a' _ nse_w10)
  obtain ⟨tyM, dM, hdM, hdnM⟩ := Cond.laysAt hfound hk hffM (a' _ nse_w11)
  obtain ⟨tyB, dB, hdB, hdnB⟩ := Cond.laysAt hfound hk hffB (a' _ nse_w12)
  have bC := Cond.laysApart hdB hdC hdnB hdnC (by rw [hnB, Y.causeName]; decide)
  have bS := Cond.laysApart hdB hdS hdnB hdnS (by rw [hnB, Y.stackName]; decide)
  have bP := Cond.laysApart hdB hdP hdnB hdnP (by rw [hnB, Y.suppName]; decide)
  have hskip : SkipFacts T e.platform s (fun u => u) u0 ((preparedCellV T.toThrowableT (freshCell P1.m.cls kX) a u0 sen).withEntry V.cur) :=
    ⟨{ ci198 := ci198, i198 := i198, fBack := fB }, ⟨hk198, hg198, ha198, hsB⟩, by
      have := fresh_default (c := P1.m.cls) tyB
      rw [htB] at this
      simpa [preparedCellV, Cell.setSlot, Cell.withEntry, Array.getElem?_setIfInBounds, bC, bS, bP, bC.symm, bS.symm, bP.symm, defaultValue] using this, fun _ _ => rfl⟩
  obtain ⟨tm, methC, cdC, kC, vm₁, hnC, -, -, -, -, -, -, -, hW₁, st1⟩ := Steps.initColdS (tb := p.tables) (e := e) (below := below) (s := s) (U := V) X.here hexec X.warmed hpl hown (t := Bundle.initS nNS) rfl rfl (Bundle.fit_spec nse_fN).2
    (a' _ nse_w13) (h _ nse_w14) (bytes := prog_31_method_4_code) (maxL := 2) (h _ nse_w15) (f := g) hg (a := a) (msg := msg) (rest := .ref a :: rest) hstack hd6
  cases Option.some.inj (hnC.symm.trans hP1m)
  have X₁ := X.noted hW₁
  obtain ⟨vm₂, X₂, st2⟩ := X₁.ctorMessageOffV hexec (g := { g with stack := .ref a :: rest }) hg hsize T L Z LZ M LM (P1 :: P2 :: Ps)
    (fun P hP => by rcases List.mem_cons.mp hP with rfl | hP; exact L1; rcases List.mem_cons.mp hP with rfl | hP; exact L2; exact hL P hP) ⟨hlink1, hlink2, hlinkR⟩ (u0 := u0) (sen := sen) (self := a) hmsg (cell := freshCell P1.m.cls kX) (cellS := cellS)
    hcell (fun _ => by simp) (by simp) rfl rfl hsel0 hselF hcellS hneS hknownS (by rw [hkeep _ (hout' _)]; exact hu0) (by rw [hkeep _ (hout' _)]; exact hsen)
    (Takes.of_laid hk hord tyC (by rw [Y.causeType]; rfl)) (Takes.of_laid hk hord tyS (by rw [Y.stackType]; exact fits_refV_array _ u0)) (Takes.of_laid hk hord tyP (by rw [Y.suppType]; exact fits_refV_object _ sen))
    (Takes.of_laid hk hord tyM (by rw [Y.msgType]; exact fits_refV_object _ ⟨msg, hmsg⟩)) Y.objLocals hskip htr [] hd6
    (by simp only [List.length_cons, hlen]; simpa using hRframes) (by simp only [List.length_cons, hlen]; simpa using hRlocals)
  obtain ⟨hwalk, hrun, hended, hWU, hsame⟩ := X₂.athrowLeaves hexec (g := { g with stack := .ref a :: rest, pc := g.pc + 3 }) hg hlocked hentered hout (a := a) (rest := rest) rfl hd9
  have hlt : a < ((V.setVm vm₁).setVm vm₂).heap.size := (Array.getElem?_eq_some_iff.mp hcell).1
  have hU := heapAt_setCell_self (s := (V.setVm vm₁).setVm vm₂) (plainBareV T.toThrowableT (freshCell P1.m.cls kX) a u0 sen msg) hlt
  refine ⟨_, st1 _ (fun acts => ?_), hrun, hended, hWU, hsame.weaken (fun y hy hlt' => ?_) (Nat.le_refl _) (Nat.le_refl _), _, hU, rfl, hfound⟩
  · rw [doInvoke_state]
    exact st2 _ hwalk
  · rcases List.mem_append.mp hy with h1 | h1
    · exact h1
    · exfalso
      have hb : y.base = a := by
        simp only [List.mem_cons, List.not_mem_nil, or_false] at h1
        rcases h1 with rfl | rfl | rfl | rfl | rfl <;> rfl
      rw [hb] at hlt'
      exact Nat.not_lt.mpr hnew hlt'
set_option maxHeartbeats 4000000 in
theorem nse_throw {p : Program} {l : Launch} {e : Env} {R : Room} {s : State} {m : MethodId} {args : Array Value} {below : List Frame} {meth : Method} {c : Code} {H : Heap} {locs : List Loc} {cells slots : Nat} {ls : Array Slot} {rest : List Value} {Qc : Array Value → State → Outcome → State → Prop} {XC : String → State → State → Prop} {free : Nat → Prop} {cc : ByteArray} {pc : Nat} (hexec : p.tables.exec = Jvm.exec) (hb : c.code = cc) (hl : l.stackTraces = false) {text : String} {is mc ms sa : Nat} {A : Nat → Prop}
    (hown : s.vm.findClass RX11 = some m.cls) (hk : (Cond.classLink RX11 161 nNS).before args s = true) (hini : (Cond.initialized nNS).before args s = true) (hstr : vk_R RX11 is text sa s) (hat : ∀ w ∈ nseL.filter vx_no, w.before args s = true)
    (hU : vx_Zq Bundle.tN "UNASSIGNED_STACK" Bundle.steD A s s.heap) (hN : vx_Zq Bundle.tN "SUPPRESSED_SENTINEL" Bundle.listD A s s.heap) (hS : va_S A s.heap H locs) (hsize : ls.size = c.maxLocals)
    (d0 : decode cc pc = .ok (.new 161, 3)) (d3 : decode cc (pc + 3) = .ok (.dup, 1)) (d4 : decode cc (pc + 4) = .ok (.ldc is, 2)) (d6 : decode cc (pc + 6) = .ok (.invokespecial 165, 3)) (d9 : decode cc (pc + 9) = .ok (.athrow, 1))
    (hout : ∀ x ∈ c.exceptionTable.toList, covers x (pc + 9) = false)
    (hRframes : 5 < R.frames) (hRlocals : (rest.map fun v => v.category).sum + 82 ≤ R.locals) (hRcells : cells + 1 ≤ R.cells) (hRslots : slots + 6 ≤ R.slots) (hlocks : meth.locks = false)
    (hx : ∀ t : State, s.vm.Alike t.vm → H.size ≤ t.heap.size → (∀ q : Nat, q < H.size → t.heap[q]? = H[q]?) → XC nNS s t)
    (hf : ∀ z ∈ locs, free z.base) (hc : cells + 1 ≤ mc) (hs : slots + 6 ≤ ms) :
    W p l e R s m args below meth c H locs cells slots (vx_MQ below Qc XC args s mc ms free) (F0 m pc ls rest) := by
  intro T hT X
  have htr : e.platform.stackTraces = false := (show e.platform.stackTraces = l.stackTraces by rw [X.admits.platform]).trans hl
  have Y := vx_rebase X (R' := { frames := R.frames, locals := R.locals, cells := 1, slots := 6 }) (Nat.le_refl _) (Nat.le_refl _) hRcells hRslots
  obtain ⟨s', hA⟩ : ∃ z, z = (T.setVm s.vm).setFrames (.invoking m args :: below) := ⟨_, rfl⟩
  rw [← hA] at Y
  have hvm : s'.vm = s.vm := by rw [hA]; rfl
  have hhp : s'.heap = H := by rw [hA]; exact hT
  have hW0 : s.WarmedH s'.vm := by rw [hvm]; exact State.WarmedH.refl s
  have hat' : ∀ w ∈ nseL.filter vx_no, w.before args s' = true := fun w hw => vx_ot_at hW0 hvm.symm (nse_ot w hw) (hat w hw)
  have hk' : (Cond.classLink RX11 161 nNS).before args s' = true := vx_ot_at hW0 hvm.symm (by decide +kernel) hk
  have hini' : (Cond.initialized nNS).before args s' = true := vx_ot_at hW0 hvm.symm (by decide +kernel) hini
  have hU' : vx_Zq Bundle.tN "UNASSIGNED_STACK" Bundle.steD A s' s'.heap := by rw [hhp]; exact vx_Zq.moved hW0.alike (hU.kept hS.2.1)
  have hN' : vx_Zq Bundle.tN "SUPPRESSED_SENTINEL" Bundle.listD A s' s'.heap := by rw [hhp]; exact vx_Zq.moved hW0.alike (hN.kept hS.2.1)
  have h : ∀ w ∈ nseL, w.before args s' = true := vx_own hat' (vx_isRefq hU'.1) (vx_isRefq hN'.1) hU'.2.word hN'.2.word
  have hown' : s'.vm.findClass RX11 = some m.cls := by rw [hvm]; exact hown
  have hins : (Cond.instantiable nNS 6).before args s' = true := h _ nse_w1
  obtain ⟨vm₁, cX, kX, hfX, hkX, -, -, X₁, st1⟩ := Y.newCold hexec (own := RX11) (C := nNS) (index := 161) (n := 6) hown' hk' hins hini'
    (g := F0 m pc ls rest) rfl (by rw [hb]; exact d0) (Nat.le_refl _) (Nat.le_refl _)
  generalize hT1 : (T.setVm vm₁).pushCell { cls := cX, slots := kX.instanceTypes.map defaultValue, vm := .none } = T1 at X₁ st1
  have hcat : (Value.ref T.heap.size).category = 1 := rfl
  have hcellA : T1.heap[T.heap.size]? = some (freshCell cX kX) := by rw [← hT1]; exact State.heap_pushCell_size _ _
  have d3' : decode c.code (pc + 3) = .ok (.dup, 1) := by rw [hb]; exact d3
  have d4' : decode c.code (pc + 4) = .ok (.ldc is, 2) := by rw [hb]; exact d4
  have hstr' : vk_R RX11 is text sa s' := vk_R.warm hW0 hstr
  obtain ⟨U, hsteps, hrun, hend, hW, hsame, ce, hce, hcv, hcE⟩ := nse_ctor X₁ hexec htr hown' h (fun x hx => nomatch hx) hfX hkX hcellA (by rw [hhp, hT]; exact Nat.le_refl _) (msg := .ref sa) rfl
    (g := { method := m, pc := pc + 6, locals := ls, stack := .ref sa :: .ref T.heap.size :: .ref T.heap.size :: rest, locked := none }) rfl hsize rfl rfl (rest := rest) rfl
    (by rw [hb]; exact d6) (by rw [hb]; exact d9) hout hRframes (by simp only [List.map_cons, List.sum_cons, hcat]; omega) hlocks
  obtain ⟨f1, f2⟩ := vx_frame hsame
  rw [hhp] at f1 f2
  have hWs : s.WarmedH U.vm := State.WarmedH.trans hW0 hW
  have hcl : s.vm.findClass nNS = some ce.cls := by
    have h9 := hcE
    rw [hvm] at h9
    exact h9
  have hall : s.sameButNew ({ U with vm := s.vm } : State) locs mc ms := by
    subst hA
    obtain ⟨e1, e2⟩ := hsame
    rw [State.setFrames_setFrames] at e1
    have h2 : (T.setVm s.vm).sameButNew ({ U with vm := s.vm } : State) [] (0 + 1) (0 + 6) := ⟨e1, e2⟩
    have h3 := X.same.trans h2
    rw [List.append_nil] at h3
    exact h3.mono hc hs
  refine ⟨U, ?_, .threw T.heap.size, hrun, hend, Or.inr ⟨T.heap.size, rfl, nNS, ce, locs, hx U hWs.alike f1 (fun q hq => f2 q hq (fun z hz => nomatch hz)), hce, hcv, hcl, hWs, hall, hf⟩⟩
  refine st1 _ ?_
  show Steps p.tables e below (T1.setTop { method := m, pc := pc + 3, locals := ls, stack := .ref T.heap.size :: rest, locked := none }) _
  jvm_step X₁.here [X₁.here.top, hexec, d3', Value.category]
  exact X₁.ldcString hexec (own := RX11) (text := text) (index := is) (a := sa) hown' hstr'.1 hstr'.2
    (g := { method := m, pc := pc + 4, locals := ls, stack := .ref T.heap.size :: .ref T.heap.size :: rest, locked := none }) rfl d4' _ hsteps
set_option maxHeartbeats 4000000 in
theorem nse_throwW {p : Program} {l : Launch} {e : Env} {R : Room} {s : State} {m : MethodId} {args : Array Value} {below : List Frame} {meth : Method} {c : Code} {H : Heap} {locs : List Loc} {cells slots : Nat} {ls : Array Slot} {rest : List Value} {Qc : Array Value → State → Outcome → State → Prop} {XC : String → State → State → Prop} {free : Nat → Prop} {cc : ByteArray} {pc : Nat} (hexec : p.tables.exec = Jvm.exec) (hb : c.code = cc) (hl : l.stackTraces = false) {text : String} {is mc ms sa : Nat} {A : Nat → Prop}
    (hown : s.vm.findClass RX11 = some m.cls) (hk : (Cond.classLink RX11 161 nNS).before args s = true) (hini : (Cond.initialized nNS).before args s = true) (hstr : vk_R RX11 is text sa s) (hat : ∀ w ∈ nseL.filter vx_no, w.before args s = true)
    (hU : vx_Zq Bundle.tN "UNASSIGNED_STACK" Bundle.steD A s s.heap) (hN : vx_Zq Bundle.tN "SUPPRESSED_SENTINEL" Bundle.listD A s s.heap) (hS : va_S A s.heap H locs) (hsize : ls.size = c.maxLocals)
    (d0 : decode cc pc = .ok (.new 161, 3)) (d3 : decode cc (pc + 3) = .ok (.dup, 1)) (d4 : decode cc (pc + 4) = .ok (.ldc_w is, 3)) (d6 : decode cc (pc + 7) = .ok (.invokespecial 165, 3)) (d9 : decode cc (pc + 10) = .ok (.athrow, 1))
    (hout : ∀ x ∈ c.exceptionTable.toList, covers x (pc + 10) = false)
    (hRframes : 5 < R.frames) (hRlocals : (rest.map fun v => v.category).sum + 82 ≤ R.locals) (hRcells : cells + 1 ≤ R.cells) (hRslots : slots + 6 ≤ R.slots) (hlocks : meth.locks = false)
    (hx : ∀ t : State, s.vm.Alike t.vm → H.size ≤ t.heap.size → (∀ q : Nat, q < H.size → t.heap[q]? = H[q]?) → XC nNS s t)
    (hf : ∀ z ∈ locs, free z.base) (hc : cells + 1 ≤ mc) (hs : slots + 6 ≤ ms) :
    W p l e R s m args below meth c H locs cells slots (vx_MQ below Qc XC args s mc ms free) (F0 m pc ls rest) := by
  intro T hT X
  have htr : e.platform.stackTraces = false := (show e.platform.stackTraces = l.stackTraces by rw [X.admits.platform]).trans hl
  have Y := vx_rebase X (R' := { frames := R.frames, locals := R.locals, cells := 1, slots := 6 }) (Nat.le_refl _) (Nat.le_refl _) hRcells hRslots
  obtain ⟨s', hA⟩ : ∃ z, z = (T.setVm s.vm).setFrames (.invoking m args :: below) := ⟨_, rfl⟩
  rw [← hA] at Y
  have hvm : s'.vm = s.vm := by rw [hA]; rfl
  have hhp : s'.heap = H := by rw [hA]; exact hT
  have hW0 : s.WarmedH s'.vm := by rw [hvm]; exact State.WarmedH.refl s
  have hat' : ∀ w ∈ nseL.filter vx_no, w.before args s' = true := fun w hw => vx_ot_at hW0 hvm.symm (nse_ot w hw) (hat w hw)
  have hk' : (Cond.classLink RX11 161 nNS).before args s' = true := vx_ot_at hW0 hvm.symm (by decide +kernel) hk
  have hini' : (Cond.initialized nNS).before args s' = true := vx_ot_at hW0 hvm.symm (by decide +kernel) hini
  have hU' : vx_Zq Bundle.tN "UNASSIGNED_STACK" Bundle.steD A s' s'.heap := by rw [hhp]; exact vx_Zq.moved hW0.alike (hU.kept hS.2.1)
  have hN' : vx_Zq Bundle.tN "SUPPRESSED_SENTINEL" Bundle.listD A s' s'.heap := by rw [hhp]; exact vx_Zq.moved hW0.alike (hN.kept hS.2.1)
  have h : ∀ w ∈ nseL, w.before args s' = true := vx_own hat' (vx_isRefq hU'.1) (vx_isRefq hN'.1) hU'.2.word hN'.2.word
  have hown' : s'.vm.findClass RX11 = some m.cls := by rw [hvm]; exact hown
  have hins : (Cond.instantiable nNS 6).before args s' = true := h _ nse_w1
  obtain ⟨vm₁, cX, kX, hfX, hkX, -, -, X₁, st1⟩ := Y.newCold hexec (own := RX11) (C := nNS) (index := 161) (n := 6) hown' hk' hins hini'
    (g := F0 m pc ls rest) rfl (by rw [hb]; exact d0) (Nat.le_refl _) (Nat.le_refl _)
  generalize hT1 : (T.setVm vm₁).pushCell { cls := cX, slots := kX.instanceTypes.map defaultValue, vm := .none } = T1 at X₁ st1
  have hcat : (Value.ref T.heap.size).category = 1 := rfl
  have hcellA : T1.heap[T.heap.size]? = some (freshCell cX kX) := by rw [← hT1]; exact State.heap_pushCell_size _ _
  have d3' : decode c.code (pc + 3) = .ok (.dup, 1) := by rw [hb]; exact d3
  have d4' : decode c.code (pc + 4) = .ok (.ldc_w is, 3) := by rw [hb]; exact d4
  have hstr' : vk_R RX11 is text sa s' := vk_R.warm hW0 hstr
  obtain ⟨U, hsteps, hrun, hend, hW, hsame, ce, hce, hcv, hcE⟩ := nse_ctor X₁ hexec htr hown' h (fun x hx => nomatch hx) hfX hkX hcellA (by rw [hhp, hT]; exact Nat.le_refl _) (msg := .ref sa) rfl
    (g := { method := m, pc := pc + 7, locals := ls, stack := .ref sa :: .ref T.heap.size :: .ref T.heap.size :: rest, locked := none }) rfl hsize rfl rfl (rest := rest) rfl
    (by rw [hb]; exact d6) (by rw [hb]; exact d9) hout hRframes (by simp only [List.map_cons, List.sum_cons, hcat]; omega) hlocks
  obtain ⟨f1, f2⟩ := vx_frame hsame
  rw [hhp] at f1 f2
  have hWs : s.WarmedH U.vm := State.WarmedH.trans hW0 hW
  have hcl : s.vm.findClass nNS = some ce.cls := by
    have h9 := hcE
    rw [hvm] at h9
    exact h9
  have hall : s.sameButNew ({ U with vm := s.vm } : State) locs mc ms := by
    subst hA
    obtain ⟨e1, e2⟩ := hsame
    rw [State.setFrames_setFrames] at e1
    have h2 : (T.setVm s.vm).sameButNew ({ U with vm := s.vm } : State) [] (0 + 1) (0 + 6) := ⟨e1, e2⟩
    have h3 := X.same.trans h2
    rw [List.append_nil] at h3
    exact h3.mono hc hs
  refine ⟨U, ?_, .threw T.heap.size, hrun, hend, Or.inr ⟨T.heap.size, rfl, nNS, ce, locs, hx U hWs.alike f1 (fun q hq => f2 q hq (fun z hz => nomatch hz)), hce, hcv, hcl, hWs, hall, hf⟩⟩
  refine st1 _ ?_
  show Steps p.tables e below (T1.setTop { method := m, pc := pc + 3, locals := ls, stack := .ref T.heap.size :: rest, locked := none }) _
  jvm_step X₁.here [X₁.here.top, hexec, d3', Value.category]
  exact X₁.ldcStringW hexec (own := RX11) (text := text) (index := is) (a := sa) hown' hstr'.1 hstr'.2
    (g := { method := m, pc := pc + 4, locals := ls, stack := .ref T.heap.size :: .ref T.heap.size :: rest, locked := none }) rfl d4' _ hsteps
abbrev nXC (A : Nat → Prop) : String → State → State → Prop := vx_X (S := Unit) (fun _ => True) (fun E _ _ => E = nNS) A
theorem nx_ofW {l : Launch} {D : va_G} {y : Nat → ClassId} {E : State → Prop} {yy : MethodName} {wsy ws' : List Cond} {rm : Room} {as : List Value} {ws : va_W} {sz : Nat} {Qc : (Nat → Prop) → Array Value → State → Outcome → State → Prop} {mc ms : Nat} {cc : ByteArray} {maxL : Nat} {ret : Option FieldType}
    (hy : plainName yy.cls = true) (hw : wsy = Cond.code yy cc maxL ret :: ws') (hn : (lg_sl as).length ≤ maxL)
    (body : ∀ (p : Program) (e : Env) (s : State) (m : MethodId) (below : List Frame) (meth : Method) (c : Code) (A : Nat → Prop) (ls : Array Slot) (H : Heap), p.tables.exec = Jvm.exec → c.code = cc → c.maxLocals = maxL → (∀ w ∈ wsy, w.before as.toArray s = true) → s.vm.findClass yy.cls = some m.cls → meth.locks = false → (∀ x ∈ c.exceptionTable.toList, False) → s.heap.size = sz → va_P D vwCl ws H → va_K D vwCl (nTY y) s → va_D A ws → (∀ q : Nat, s.heap.size ≤ q → A q) → va_S A s.heap H [] → E s → A = va_A ws sz → lv_has ls maxL (lv_args 0 as) →
      W p l e rm s m as.toArray below meth c H [] 0 0 (vx_MQ below (Qc A) (nXC A) as.toArray s mc ms A) (F0 m 0 ls [])) :
    vx_Met l yy wsy rm (nPc D y E as ws sz) (Qc (va_A ws sz)) (nXC (va_A ws sz)) mc ms (va_A ws sz) := by
  refine vx_ofW (cc := cc) (maxL := maxL) (ret := ret) hy hw ?_
  intro p e s m args below meth c s₁ B hml hex hv
  obtain ⟨rfl, hsz, hP, hK, hD0, hE⟩ := hv
  have hD := hD0.self (sz := s.heap.size)
  subst hsz
  rw [lg_entry_eq]
  exact body p e s m below meth c (va_A ws s.heap.size) _ s.heap B.exec B.bytes hml (atoms_spec (ws := wsy) B.pre) (findClass_of_methodNamed B.named) B.notSynchronized hex rfl hP hK hD (fun q h => Or.inr h) va_S.rf hE rfl (lv_entry as hn)
theorem nx_F {A : Nat → Prop} {s t : State} {H : Heap} {locs : List Loc} (hS : va_S A s.heap H locs) (h2 : H.size ≤ t.heap.size) (h3 : ∀ q : Nat, q < H.size → t.heap[q]? = H[q]?) : nXC A nNS s t :=
  ⟨(), trivial, rfl, Nat.le_trans hS.1 h2, fun q hq hn => (h3 q (Nat.lt_of_lt_of_le hq hS.1)).trans (hS.2.1 q hq hn)⟩
theorem ny_ofW {l : Launch} {D : va_G} {y : Nat → ClassId} {E : State → Prop} {yy : MethodName} {wsy ws' : List Cond} {rm : Room} {as : List Value} {ws : va_W} {sz : Nat} {Qc : (Nat → Prop) → Array Value → State → Outcome → State → Prop} {mc ms : Nat} {cc : ByteArray} {maxL : Nat} {ret : Option FieldType} {hh : List (Nat × Nat × Nat × Nat)}
    (hy : plainName yy.cls = true) (hw : wsy = Cond.codeWith yy cc maxL ret hh :: ws') (hn : (lg_sl as).length ≤ maxL)
    (body : ∀ (p : Program) (e : Env) (s : State) (m : MethodId) (below : List Frame) (meth : Method) (c : Code) (A : Nat → Prop) (ls : Array Slot) (H : Heap), p.tables.exec = Jvm.exec → c.code = cc → meth.sig.returnType = ret → c.maxLocals = maxL → (∀ w ∈ wsy, w.before as.toArray s = true) → s.vm.findClass yy.cls = some m.cls → meth.locks = false → c.exceptionTable.toList = tableOf hh → s.heap.size = sz → va_P D vwCl ws H → va_K D vwCl (nTY y) s → va_D A ws → (∀ q : Nat, s.heap.size ≤ q → A q) → va_S A s.heap H [] → E s → A = va_A ws sz → lv_has ls maxL (lv_args 0 as) →
      W p l e rm s m as.toArray below meth c H [] 0 0 (MQ below (Qc A) as.toArray s mc ms A) (F0 m 0 ls [])) :
    Met l yy wsy rm (nPc D y E as ws sz) (Qc (va_A ws sz)) mc ms (va_A ws sz) := by
  refine va_MetW (cc := cc) (maxL := maxL) (ret := ret) (hh := hh) hy hw ?_
  intro p e s m args below meth c s₁ B hml hv
  obtain ⟨rfl, hsz, hP, hK, hD0, hE⟩ := hv
  have hD := hD0.self (sz := s.heap.size)
  have hts := atoms_spec (ws := wsy) B.pre
  have htab := vx_table (x := yy) B (hts (Cond.codeWith yy cc maxL ret hh) (by rw [hw]; exact List.mem_cons_self))
  subst hsz
  rw [lg_entry_eq]
  exact body p e s m below meth c (va_A ws s.heap.size) _ s.heap B.exec B.bytes B.returns hml hts (findClass_of_methodNamed B.named) B.notSynchronized htab rfl hP hK hD (fun q h => Or.inr h) va_S.rf hE rfl (lv_entry as hn)
section NXC
variable {p : Program} {l : Launch} {e : Env} {R : Room} {s : State} {m : MethodId} {args : Array Value} {below : List Frame} {meth : Method} {c : Code} {H : Heap} {locs : List Loc} {cells slots : Nat} {Q : State → Prop} {cc : ByteArray} {pc : Nat} {ls : Array Slot} {rest st0 : List Value} {D : va_G} {y : Nat → ClassId} {A : Nat → Prop} {ws wc : va_W} {yy : MethodName} {bytes : ByteArray} {maxL nL mc ms n index : Nat} {ret : Option FieldType} {wsy : List Cond} {rm : Room} {Ts : List Cond} {own C : String} {b : Addr} {As : List Value} {sa : Nat → Nat} {lo : Nat}
theorem nx_calli (S : CallFix p m c cc nL s args Ts own) (hM : va_D (fun q => lo ≤ q) wc → lo ≤ H.size → vx_Met l yy wsy rm (nPc D y (nE3 sa lo) (.ref b :: As) wc H.size) (va_Qi (S := Unit) (fun _ _ => False) (fun _ _ => True) (va_A wc H.size)) (nXC (va_A wc H.size)) mc ms (va_A wc H.size)) (cw : CallW R s args own C index yy bytes maxL ret wsy rm mc ms n) (hK : va_K D vwCl (nTY y) s) (hP : va_P D vwCl ws H) (hD : va_D A ws) (hS : va_S A s.heap H locs) (hA : ∀ q : Nat, s.heap.size ≤ q → A q) (hE : nT s) (hX : nX sa lo s) (hAl : ∀ q : Nat, A q → lo ≤ q) (hls : lo ≤ s.heap.size) (isC : List Nat) (hC : isC.map (fun i => ws[i]?) = wc.map some) (hnd : va_nd isC = true) (q0 ci : Nat) {fs : List Value} {q : vw_C} (he : wc[q0]? = some (b, .inr (ci, fs))) (hcl : vwCl[ci]? = some q) (hq : q.1 = C) (hn : As.length = n) (hsize : ls.size = nL) (hstack : st0 = As.reverse ++ .ref b :: rest) (hW : 2 * (F0 m pc ls st0).monitorRoom + (rest.map fun v => v.category).sum ≤ 8) (hdg : decode cc pc = .ok (.invokevirtual index, 3)) (hf : cells + mc ≤ R.cells ∧ slots + ms ≤ R.slots)
    (kx : ∀ (ce : Cell) (q9 : Addr) (H1 : Heap) (locs1 : List Loc), va_S A s.heap H1 locs1 → H1[q9]? = some ce → ce.vm = .none → s.vm.findClass nNS = some ce.cls → vx_W p l e R s m args below meth c H1 locs1 (cells + mc) (slots + ms) Q (F0 m pc ls rest) q9) : W p l e R s m args below meth c H locs cells slots Q (F0 m pc ls st0) := by
  subst hq
  have hPc := hP.sub isC (n_fm hC)
  have hDc := hD.sub isC hnd hC
  have hFc := va_free (wc := wc) hD hS hA isC hC
  refine vx_calli (vx_runV S (hM (hDc.weaken (fun _ _ _ h => hAl _ h)) (Nat.le_trans hls hS.1)) cw ⟨nPc_blind nE3_blind, va_recv hK hPc hcl he, nPc_at hK hPc hDc (nE3_at hE hX hS hAl)⟩ rfl hn hsize hstack hW hdg hf) hS (fun q _ h => hFc q h) hFc (fun q _ h => hFc q h) (fun E ce q9 u t H1 locs1 ht hvm hpx hBX hz hk hS1 hq9 hcv hcE => ?_) (fun r u t H1 locs1 ht hvm hw => hw.elim)
  subst hBX
  exact kx ce q9 H1 locs1 hS1 hq9 hcv hcE
theorem nx_calll (S : CallFix p m c cc nL s args Ts own) (hM : va_D (fun q => lo ≤ q) wc → lo ≤ H.size → vx_Met l yy wsy rm (nPc D y (nE3 sa lo) (.ref b :: As) wc H.size) (va_Ql (S := Unit) (fun _ _ => False) (fun _ _ => True) (va_A wc H.size)) (nXC (va_A wc H.size)) mc ms (va_A wc H.size)) (cw : CallW R s args own C index yy bytes maxL ret wsy rm mc ms n) (hK : va_K D vwCl (nTY y) s) (hP : va_P D vwCl ws H) (hD : va_D A ws) (hS : va_S A s.heap H locs) (hA : ∀ q : Nat, s.heap.size ≤ q → A q) (hE : nT s) (hX : nX sa lo s) (hAl : ∀ q : Nat, A q → lo ≤ q) (hls : lo ≤ s.heap.size) (isC : List Nat) (hC : isC.map (fun i => ws[i]?) = wc.map some) (hnd : va_nd isC = true) (q0 ci : Nat) {fs : List Value} {q : vw_C} (he : wc[q0]? = some (b, .inr (ci, fs))) (hcl : vwCl[ci]? = some q) (hq : q.1 = C) (hn : As.length = n) (hsize : ls.size = nL) (hstack : st0 = As.reverse ++ .ref b :: rest) (hW : 2 * (F0 m pc ls st0).monitorRoom + (rest.map fun v => v.category).sum ≤ 8) (hdg : decode cc pc = .ok (.invokevirtual index, 3)) (hf : cells + mc ≤ R.cells ∧ slots + ms ≤ R.slots)
    (kx : ∀ (ce : Cell) (q9 : Addr) (H1 : Heap) (locs1 : List Loc), va_S A s.heap H1 locs1 → H1[q9]? = some ce → ce.vm = .none → s.vm.findClass nNS = some ce.cls → vx_W p l e R s m args below meth c H1 locs1 (cells + mc) (slots + ms) Q (F0 m pc ls rest) q9) : W p l e R s m args below meth c H locs cells slots Q (F0 m pc ls st0) := by
  subst hq
  have hPc := hP.sub isC (n_fm hC)
  have hDc := hD.sub isC hnd hC
  have hFc := va_free (wc := wc) hD hS hA isC hC
  refine vx_calll (vx_runV S (hM (hDc.weaken (fun _ _ _ h => hAl _ h)) (Nat.le_trans hls hS.1)) cw ⟨nPc_blind nE3_blind, va_recv hK hPc hcl he, nPc_at hK hPc hDc (nE3_at hE hX hS hAl)⟩ rfl hn hsize hstack hW hdg hf) hS (fun q _ h => hFc q h) hFc (fun q _ h => hFc q h) (fun E ce q9 u t H1 locs1 ht hvm hpx hBX hz hk hS1 hq9 hcv hcE => ?_) (fun r u t H1 locs1 ht hvm hw => hw.elim)
  subst hBX
  exact kx ce q9 H1 locs1 hS1 hq9 hcv hcE
end NXC
theorem nr_SW {p : Program} {l : Launch} {e : Env} {R : Room} {s : State} {m : MethodId} {args : Array Value} {below : List Frame} {meth : Method} {c : Code} {H : Heap} {locs : List Loc} {cells slots : Nat} {cc : ByteArray} {rest : List Value} {D : va_G} {y : Nat → ClassId} {A : Nat → Prop} {ws wc : va_W} {yy : MethodName} {bytes : ByteArray} {maxL nL mc ms n index : Nat} {ret : Option FieldType} {hh : List (Nat × Nat × Nat × Nat)} {wsy : List Cond} {rm : Room} {Qc : Array Value → State → Outcome → State → Prop} {Ts : List Cond} {own : String} {As : List Value} {g : JFrame} {sa : Nat → Nat} {lo : Nat}
    (S : CallFix p m c cc nL s args Ts own) (hM : va_D (fun q => lo ≤ q) wc → lo ≤ H.size → Met l yy wsy rm (nPc D y (nE3 sa lo) As wc H.size) Qc mc ms (va_A wc H.size)) (cw : vx_CSW R s args own index yy bytes maxL ret hh wsy rm mc ms n) (hK : va_K D vwCl (nTY y) s) (hP : va_P D vwCl ws H) (hD : va_D A ws) (hS : va_S A s.heap H locs) (hE : nT s) (hX : nX sa lo s) (hAl : ∀ q : Nat, A q → lo ≤ q) (hls : lo ≤ s.heap.size) (isC : List Nat) (hC : isC.map (fun i => ws[i]?) = wc.map some) (hnd : va_nd isC = true) (hg : g.method = m) (hn : As.length = n) (hsize : g.locals.size = nL) (hstack : g.stack = As.reverse ++ rest) (hW : 2 * g.monitorRoom + (rest.map fun v => v.category).sum ≤ 8) (hdg : decode cc g.pc = .ok (.invokestatic index, 3)) (hf : cells + mc ≤ R.cells ∧ slots + ms ≤ R.slots) : va_Run p l e R s m args below meth c H locs cells slots mc ms g rest (Qc As.toArray) (va_A wc H.size) := by
  have hPc := hP.sub isC (n_fm hC)
  have hDc := hD.sub isC hnd hC
  exact vx_runSW S (hM (hDc.weaken (fun _ _ _ h => hAl _ h)) (Nat.le_trans hls hS.1)) cw ⟨nPc_blind nE3_blind, nPc_at hK hPc hDc (nE3_at hE hX hS hAl)⟩ hg hn hsize hstack hW hdg hf
