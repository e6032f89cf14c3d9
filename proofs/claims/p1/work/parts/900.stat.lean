/-! the class's own static rows: read at a start whose worlds lie at lo and above -/
def nLim : Nat → Int32 := fun j => if j = 0 then 2 else if j = 1 then 99 else if j = 2 then 99 else 9
def nMos : Nat → Int32 := fun j => if j = 4 then 99 else Int32.ofNat j
def nTen : Nat → Int32 := fun j => Int32.ofNat (10 ^ j)
def nZ (t : Nat → Nat) (lo : Nat) (U : State) : Prop :=
  (va_Z RX11 "LAW_LIMITS" "[I" (.ref (t 0)) (fun q => lo ≤ q) U U.heap ∧ va_T .int (t 0) 4 (fun j => .int (nLim j)) (fun q => lo ≤ q) U U.heap) ∧
  (va_Z RX11 "MOSTS_TRIED" "[I" (.ref (t 1)) (fun q => lo ≤ q) U U.heap ∧ va_T .int (t 1) 5 (fun j => .int (nMos j)) (fun q => lo ≤ q) U U.heap) ∧
  (va_Z RX11 "TENS" "[I" (.ref (t 2)) (fun q => lo ≤ q) U U.heap ∧ va_T .int (t 2) 10 (fun j => .int (nTen j)) (fun q => lo ≤ q) U U.heap) ∧
  va_Nw (.fieldLinkNest RX7 56 RX11 "TENS" "[I" RX11) U
def nE2 (t : Nat → Nat) (lo : Nat) : State → Prop := fun U => nT U ∧ nZ t lo U
theorem n_lo {lo sz : Nat} {ws : va_W} (h : va_D (fun q => lo ≤ q) ws) (hs : lo ≤ sz) : ∀ q : Nat, va_A ws sz q → lo ≤ q := fun q hq => by
  rcases hq with ⟨k, e, hk⟩ | hq
  · exact h.2 k (q, e) hk
  · exact Nat.le_trans hs hq
theorem nZ_step {t : Nat → Nat} {lo : Nat} {s U : State} (hvm : s.vm.Alike U.vm) (hnw : va_Nw (.fieldLinkNest RX7 56 RX11 "TENS" "[I" RX11) s → va_Nw (.fieldLinkNest RX7 56 RX11 "TENS" "[I" RX11) U) (hq : ∀ a : Nat, a < s.heap.size → ¬ lo ≤ a → U.heap[a]? = s.heap[a]?) (h : nZ t lo s) : nZ t lo U :=
  ⟨⟨(h.1.1.moved hvm).kept hq, (h.1.2.moved hvm).kept hq⟩, ⟨(h.2.1.1.moved hvm).kept hq, (h.2.1.2.moved hvm).kept hq⟩, ⟨(h.2.2.1.1.moved hvm).kept hq, (h.2.2.1.2.moved hvm).kept hq⟩, hnw h.2.2.2⟩
theorem nE2_blind {t : Nat → Nat} {lo : Nat} : ∀ (a : Array Value) (U : State) (g : JFrame) (mk : MethodId), nE2 t lo U → nE2 t lo (U.calling g mk a) := fun a U g mk h =>
  ⟨nT_blind a U g mk h.1, nZ_step (s := U) (U := U.calling g mk a) (Vm.Alike.refl U.vm) (fun h => va_Nw.same rfl (u := U) (U := U.calling g mk a) rfl h) (fun _ _ _ => rfl) h.2⟩
theorem nE2_at {t : Nat → Nat} {lo : Nat} {s : State} {A : Nat → Prop} {H : Heap} {locs : List Loc} (h : nT s) (hZ : nZ t lo s) (hS : va_S A s.heap H locs) (hAl : ∀ q : Nat, A q → lo ≤ q) : ∀ U : State, U.heap = H → s.WarmedH U.vm → nE2 t lo U := fun U hU hW =>
  ⟨nT_at h U hU hW, nZ_step hW.alike (fun h => va_Nw.warmF hW h) (fun a ha hn => by rw [hU]; exact hS.2.1 a ha (fun q => hn (hAl a q))) hZ⟩
theorem nm_ofW2 {l : Launch} {D : va_G} {y : Nat → ClassId} {E : State → Prop} {yy : MethodName} {wsy ws' : List Cond} {rm : Room} {as : List Value} {ws : va_W} {sz : Nat} {Qc : (Nat → Prop) → Array Value → State → Outcome → State → Prop} {mc ms : Nat} {cc : ByteArray} {maxL : Nat} {ret : Option FieldType}
    (hy : plainName yy.cls = true) (hw : wsy = Cond.code yy cc maxL ret :: ws') (hn : (lg_sl as).length ≤ maxL)
    (body : ∀ (p : Program) (e : Env) (s : State) (m : MethodId) (below : List Frame) (meth : Method) (c : Code) (A : Nat → Prop) (ls : Array Slot) (H : Heap), p.tables.exec = Jvm.exec → c.code = cc → meth.sig.returnType = ret → c.maxLocals = maxL → (∀ w ∈ wsy, w.before as.toArray s = true) → s.vm.findClass yy.cls = some m.cls → meth.locks = false → meth.name = yy.name → s.heap.size = sz → va_P D vwCl ws H → va_K D vwCl (nTY y) s → va_D A ws → (∀ q : Nat, s.heap.size ≤ q → A q) → va_S A s.heap H [] → E s → A = va_A ws sz → lv_has ls maxL (lv_args 0 as) →
      W p l e rm s m as.toArray below meth c H [] 0 0 (MQ below (Qc A) as.toArray s mc ms A) (F0 m 0 ls [])) :
    Met l yy wsy rm (nPc D y E as ws sz) (Qc (va_A ws sz)) mc ms (va_A ws sz) := by
  refine Met.ofW (cc := cc) (maxL := maxL) (ret := ret) hy hw ?_
  intro p e s m args below meth c s₁ B hml hv
  obtain ⟨rfl, hsz, hP, hK, hD0, hE⟩ := hv
  have hD := hD0.self (sz := s.heap.size)
  subst hsz
  rw [lg_entry_eq]
  exact body p e s m below meth c (va_A ws s.heap.size) _ s.heap B.exec B.bytes B.returns hml (atoms_spec (ws := wsy) B.pre) (findClass_of_methodNamed B.named) B.notSynchronized (name_of_methodNamed B.named B.method).1 rfl hP hK hD (fun q h => Or.inr h) va_S.rf hE rfl (lv_entry as hn)
theorem nr_V2 {p : Program} {l : Launch} {e : Env} {R : Room} {s : State} {m : MethodId} {args : Array Value} {below : List Frame} {meth : Method} {c : Code} {H : Heap} {locs : List Loc} {cells slots : Nat} {cc : ByteArray} {rest : List Value} {D : va_G} {y : Nat → ClassId} {A : Nat → Prop} {ws wc : va_W} {yy : MethodName} {bytes : ByteArray} {maxL nL mc ms n index : Nat} {ret : Option FieldType} {wsy : List Cond} {rm : Room} {Qc : Array Value → State → Outcome → State → Prop} {Ts : List Cond} {own C : String} {b : Addr} {As : List Value} {g : JFrame} {t : Nat → Nat} {lo : Nat}
    (S : CallFix p m c cc nL s args Ts own) (hM : va_D (fun q => lo ≤ q) wc → lo ≤ H.size → Met l yy wsy rm (nPc D y (nE2 t lo) (.ref b :: As) wc H.size) Qc mc ms (va_A wc H.size)) (cw : CallW R s args own C index yy bytes maxL ret wsy rm mc ms n) (hK : va_K D vwCl (nTY y) s) (hP : va_P D vwCl ws H) (hD : va_D A ws) (hS : va_S A s.heap H locs) (hE : nT s) (hZ : nZ t lo s) (hAl : ∀ q : Nat, A q → lo ≤ q) (hls : lo ≤ s.heap.size) (isC : List Nat) (hC : isC.map (fun i => ws[i]?) = wc.map some) (hnd : va_nd isC = true) (q0 ci : Nat) {fs : List Value} {q : vw_C} (he : wc[q0]? = some (b, .inr (ci, fs))) (hcl : vwCl[ci]? = some q) (hq : q.1 = C) (hg : g.method = m) (hn : As.length = n) (hsize : g.locals.size = nL) (hstack : g.stack = As.reverse ++ .ref b :: rest) (hW : 2 * g.monitorRoom + (rest.map fun v => v.category).sum ≤ 8) (hdg : decode cc g.pc = .ok (.invokevirtual index, 3)) (hf : cells + mc ≤ R.cells ∧ slots + ms ≤ R.slots) : va_Run p l e R s m args below meth c H locs cells slots mc ms g rest (Qc (Value.ref b :: As).toArray) (va_A wc H.size) := by
  subst hq
  have hPc := hP.sub isC (n_fm hC)
  have hDc := hD.sub isC hnd hC
  exact va_runV S (hM (hDc.weaken (fun _ _ _ h => hAl _ h)) (Nat.le_trans hls hS.1)) cw ⟨nPc_blind nE2_blind, va_recv hK hPc hcl he, nPc_at hK hPc hDc (nE2_at hE hZ hS hAl)⟩ hg hn hsize hstack hW hdg hf
theorem n_rem (d : Nat) (h0 : 0 < d) (hd : d < 2 ^ 31) {x : Int32} (h : 0 ≤ x) : (0 : Int32) ≤ x - x / nI d * nI d ∧ x - x / nI d * nI d ≤ nI (d - 1) := by
  obtain ⟨j, hj, rfl⟩ := nI_of (q_nlt h (Int32.le_refl 0))
  rw [pk_rem hj h0 hd]
  have hm := Nat.mod_lt j h0
  exact ⟨nI_pos' (by omega), nI_le (by omega) (by omega)⟩
theorem q_in {x b : Int32} {n : Nat} (h0 : 0 ≤ x) (h1 : x ≤ b) (hb : b.toInt < n) : vp_in x n := by
  rw [vp_in_iff]
  rw [Int32.le_iff_toInt_le] at h0 h1
  exact ⟨h0, by omega⟩
def nDec (u : Nat → Nat) (b : Nat) : Nat → Int32 := fun k => nI (u (b + k))
theorem n_enc (F : Nat → Int32) (w : Nat → Nat) (b : Nat) : nDec (fun k => if k < b then w k else (F (k - b)).toBitVec.toNat) b = F := by
  funext k
  show nI (if b + k < b then w (b + k) else (F (b + k - b)).toBitVec.toNat) = F k
  rw [if_neg (by omega), Nat.add_sub_cancel_left]
  exact Int32.toBitVec_inj.mp (by simp [nI])
