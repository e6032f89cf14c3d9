/-! the reference's text "0123": its cells, String.COMPACT_STRINGS, the formatter of Preconditions -/
section NSW
variable {p : Program} {l : Launch} {e : Env} {R : Room} {s : State} {m : MethodId} {args : Array Value} {below : List Frame} {meth : Method} {c : Code} {H : Heap} {locs : List Loc} {cells slots : Nat} {Q : State → Prop} {cc : ByteArray} {pc : Nat} {ls : Array Slot} {rest : List Value}
theorem va_ldcwS (hexec : p.tables.exec = Jvm.exec) (hb : c.code = cc) {own tx : String} {index q : Nat} (hown : s.vm.findClass own = some m.cls) (hZ : vk_R own index tx q s) (hdg : decode cc pc = .ok (.ldc_w index, 3))
    (k : W p l e R s m args below meth c H locs cells slots Q (F0 m (pc + 3) ls (.ref q :: rest))) : W p l e R s m args below meth c H locs cells slots Q (F0 m pc ls rest) := by
  intro T hT X
  obtain ⟨t, a1, b1⟩ := k T hT X
  exact ⟨t, X.ldcStringW hexec hown (text := tx) (a := q) hZ.1 hZ.2 (g := F0 m pc ls rest) rfl (by rw [hb]; exact hdg) t a1, b1⟩
end NSW
def nDig : Nat → Int32 := fun j => Int32.ofNat (48 + j)
def nS (ad : Nat → Nat) (lo : Nat) (U : State) : Prop :=
  (va_O RJ0 (ad 0) (fun q => lo ≤ q) U U.heap ∧ va_OF RJ0 "coder" "B" (.int 0) (ad 0) (fun q => lo ≤ q) U U.heap ∧ va_OF RJ0 "value" "[B" (.ref (ad 1)) (ad 0) (fun q => lo ≤ q) U U.heap ∧ va_T .byte (ad 1) 4 (fun j => .int (nDig j)) (fun q => lo ≤ q) U U.heap) ∧
  va_Z RJ0 "COMPACT_STRINGS" "Z" (.int 1) (fun q => lo ≤ q) U U.heap ∧ va_Zq RJ3 "SIOOBE_FORMATTER" "Ljava/util/function/BiFunction;" (fun q => lo ≤ q) U U.heap ∧ vk_R RX12 471 "0123" (ad 0) U
def nE4 (ad : Nat → Nat) (lo : Nat) : State → Prop := fun U => nT U ∧ nS ad lo U
theorem nS_step {ad : Nat → Nat} {lo : Nat} {s U : State} (hvm : s.vm.Alike U.vm) (hr : vk_R RX12 471 "0123" (ad 0) s → vk_R RX12 471 "0123" (ad 0) U) (hq : ∀ a : Nat, a < s.heap.size → ¬ lo ≤ a → U.heap[a]? = s.heap[a]?) (h : nS ad lo s) : nS ad lo U :=
  ⟨⟨(h.1.1.moved hvm).kept hq, (h.1.2.1.moved hvm).kept hq, (h.1.2.2.1.moved hvm).kept hq, (h.1.2.2.2.moved hvm).kept hq⟩, (h.2.1.moved hvm).kept hq, (h.2.2.1.moved hvm).kept hq, hr h.2.2.2⟩
theorem nE4_blind {ad : Nat → Nat} {lo : Nat} : ∀ (a : Array Value) (U : State) (g : JFrame) (mk : MethodId), nE4 ad lo U → nE4 ad lo (U.calling g mk a) := fun a U g mk h =>
  ⟨nT_blind a U g mk h.1, nS_step (s := U) (U := U.calling g mk a) (Vm.Alike.refl U.vm) (fun h => vk_R.same (u := U) (U := U.calling g mk a) rfl h) (fun _ _ _ => rfl) h.2⟩
theorem nE4_at {ad : Nat → Nat} {lo : Nat} {s : State} {A : Nat → Prop} {H : Heap} {locs : List Loc} (h : nT s) (hZ : nS ad lo s) (hS : va_S A s.heap H locs) (hAl : ∀ q : Nat, A q → lo ≤ q) : ∀ U : State, U.heap = H → s.WarmedH U.vm → nE4 ad lo U := fun U hU hW =>
  ⟨nT_at h U hU hW, nS_step hW.alike (fun h => vk_R.warm hW h) (fun a ha hn => by rw [hU]; exact hS.2.1 a ha (fun q => hn (hAl a q))) hZ⟩
section NR4
variable {p : Program} {l : Launch} {e : Env} {R : Room} {s : State} {m : MethodId} {args : Array Value} {below : List Frame} {meth : Method} {c : Code} {H : Heap} {locs : List Loc} {cells slots : Nat} {cc : ByteArray} {rest : List Value} {D : va_G} {y : Nat → ClassId} {A : Nat → Prop} {ws wc : va_W} {yy : MethodName} {bytes : ByteArray} {maxL nL mc ms n index : Nat} {ret : Option FieldType} {wsy : List Cond} {rm : Room} {Qc : Array Value → State → Outcome → State → Prop} {Ts : List Cond} {own C : String} {b : Addr} {As : List Value} {g : JFrame} {ad : Nat → Nat} {lo : Nat}
theorem nr_V4 (S : CallFix p m c cc nL s args Ts own) (hM : va_D (fun q => lo ≤ q) wc → lo ≤ H.size → Met l yy wsy rm (nPc D y (nE4 ad lo) (.ref b :: As) wc H.size) Qc mc ms (va_A wc H.size)) (cw : CallW R s args own C index yy bytes maxL ret wsy rm mc ms n) (hrecv : ∃ cell : Cell, H[b]? = some cell ∧ cell.vm.isStatics = false ∧ s.vm.findClass C = some cell.cls) (hK : va_K D vwCl (nTY y) s) (hP : va_P D vwCl ws H) (hD : va_D A ws) (hS : va_S A s.heap H locs) (hE : nT s) (hZ : nS ad lo s) (hAl : ∀ q : Nat, A q → lo ≤ q) (hls : lo ≤ s.heap.size) (isC : List Nat) (hC : isC.map (fun i => ws[i]?) = wc.map some) (hnd : va_nd isC = true) (hg : g.method = m) (hn : As.length = n) (hsize : g.locals.size = nL) (hstack : g.stack = As.reverse ++ .ref b :: rest) (hW : 2 * g.monitorRoom + (rest.map fun v => v.category).sum ≤ 8) (hdg : decode cc g.pc = .ok (.invokevirtual index, 3)) (hf : cells + mc ≤ R.cells ∧ slots + ms ≤ R.slots) : va_Run p l e R s m args below meth c H locs cells slots mc ms g rest (Qc (Value.ref b :: As).toArray) (va_A wc H.size) := by
  have hPc := hP.sub isC (n_fm hC)
  have hDc := hD.sub isC hnd hC
  exact va_runV S (hM (hDc.weaken (fun _ _ _ h => hAl _ h)) (Nat.le_trans hls hS.1)) cw ⟨nPc_blind nE4_blind, hrecv, nPc_at hK hPc hDc (nE4_at hE hZ hS hAl)⟩ hg hn hsize hstack hW hdg hf
theorem nr_S4 (S : CallFix p m c cc nL s args Ts own) (hM : va_D (fun q => lo ≤ q) wc → lo ≤ H.size → Met l yy wsy rm (nPc D y (nE4 ad lo) As wc H.size) Qc mc ms (va_A wc H.size)) (cw : CallB R s args own index yy bytes maxL ret wsy rm mc ms n ∧ (Cond.static yy).before args s = true) (hK : va_K D vwCl (nTY y) s) (hP : va_P D vwCl ws H) (hD : va_D A ws) (hS : va_S A s.heap H locs) (hE : nT s) (hZ : nS ad lo s) (hAl : ∀ q : Nat, A q → lo ≤ q) (hls : lo ≤ s.heap.size) (isC : List Nat) (hC : isC.map (fun i => ws[i]?) = wc.map some) (hnd : va_nd isC = true) (hg : g.method = m) (hn : As.length = n) (hsize : g.locals.size = nL) (hstack : g.stack = As.reverse ++ rest) (hW : 2 * g.monitorRoom + (rest.map fun v => v.category).sum ≤ 8) (hdg : decode cc g.pc = .ok (.invokestatic index, 3)) (hf : cells + mc ≤ R.cells ∧ slots + ms ≤ R.slots) : va_Run p l e R s m args below meth c H locs cells slots mc ms g rest (Qc As.toArray) (va_A wc H.size) := by
  have hPc := hP.sub isC (n_fm hC)
  have hDc := hD.sub isC hnd hC
  exact va_runS S (hM (hDc.weaken (fun _ _ _ h => hAl _ h)) (Nat.le_trans hls hS.1)) cw ⟨nPc_blind nE4_blind, nPc_at hK hPc hDc (nE4_at hE hZ hS hAl)⟩ hg hn hsize hstack hW hdg hf
end NR4
