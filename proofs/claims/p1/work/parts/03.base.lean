abbrev vwCl : List vw_C := [(RX0, TX0, 2), (RX1, TX1, 11), (RX2, TX2, 4), (RX3, TX3, 3), (RX4, TX4, 13), (RX5, TX5, 2), (RX6, TX6, 7), (RX7, TX7, 10), (RX8, TX8, 2), (RX9, TX9, 7), (RX10, TX10, 10), (RX11, TX11, 17), (RX12, TX12, 72)]
/-! the worlds, the contracts' heads and ends, calls in one row -/
abbrev nTY (y : Nat → ClassId) : List (ClassId × FieldType) := [(y 0, .int), (y 1, .long), (y 2, .boolean), (y 3, .byte), (y 4, .object RX0), (y 5, .object RX7), (y 6, .array .byte)]
def nPc (D : va_G) (y : Nat → ClassId) (E : State → Prop) (as : List Value) (ws : va_W) (sz : Nat) : Array Value → State → Prop := va_Pc as (fun U => U.heap.size = sz ∧ va_P D vwCl ws U.heap ∧ va_K D vwCl (nTY y) U ∧ va_D (fun _ => True) ws ∧ E U)
abbrev nB (D : va_G) (y : Nat → ClassId) (A : Nat → Prop) (w1 : (Nat → Nat) → va_W) (u : Nat → Nat) (t : State) : Prop := va_P D vwCl (w1 u) t.heap ∧ va_K D vwCl (nTY y) t ∧ va_D A (w1 u)
abbrev nQi (D : va_G) (y : Nat → ClassId) (post : Int32 → (Nat → Nat) → Prop) (w1 : (Nat → Nat) → va_W) (A : Nat → Prop) : Array Value → State → Outcome → State → Prop := va_Qi post (nB D y A w1) A
abbrev nQl (D : va_G) (y : Nat → ClassId) (post : Int64 → (Nat → Nat) → Prop) (w1 : (Nat → Nat) → va_W) (A : Nat → Prop) : Array Value → State → Outcome → State → Prop := va_Ql post (nB D y A w1) A
abbrev nQv (D : va_G) (y : Nat → ClassId) (post : (Nat → Nat) → Prop) (w1 : (Nat → Nat) → va_W) (A : Nat → Prop) : Array Value → State → Outcome → State → Prop := va_Qv post (nB D y A w1) A
def nNest : List (String × Nat × MethodName) := [(RX11, 9, yX8_init), (RX11, 18, yX5_init), (RX9, 37, yX0_init), (RX11, 32, yX10_init), (RX11, 39, yX6_init), (RX6, 11, yX0_init), (RX11, 61, yX3_init), (RX11, 68, yX1_init)]
theorem va_AOA.moved {ty : FieldType} {u U : State} (hvm : u.vm.Alike U.vm) (h : va_AOA ty u) : va_AOA ty U := arrayOver_alikeB hvm h
def nT : State → Prop := fun U => (∀ w ∈ nNest, va_Nw (.methodLinkNest w.1 w.2.1 w.2.2 RX11) U) ∧ va_AO RX0 U ∧ va_AO RX7 U ∧ va_AOA .byte U
theorem nm_ofW {l : Launch} {D : va_G} {y : Nat → ClassId} {E : State → Prop} {yy : MethodName} {wsy ws' : List Cond} {rm : Room} {as : List Value} {ws : va_W} {sz : Nat} {Qc : (Nat → Prop) → Array Value → State → Outcome → State → Prop} {mc ms : Nat} {cc : ByteArray} {maxL : Nat} {ret : Option FieldType}
    (hy : plainName yy.cls = true) (hw : wsy = Cond.code yy cc maxL ret :: ws') (hn : (lg_sl as).length ≤ maxL)
    (body : ∀ (p : Program) (e : Env) (s : State) (m : MethodId) (below : List Frame) (meth : Method) (c : Code) (A : Nat → Prop) (ls : Array Slot) (H : Heap), p.tables.exec = Jvm.exec → c.code = cc → meth.sig.returnType = ret → c.maxLocals = maxL → (∀ w ∈ wsy, w.before as.toArray s = true) → s.vm.findClass yy.cls = some m.cls → meth.locks = false → meth.name = yy.name → H.size = sz → va_P D vwCl ws H → va_K D vwCl (nTY y) s → va_D A ws → (∀ q : Nat, s.heap.size ≤ q → A q) → va_S A s.heap H [] → E s → A = va_A ws sz → lv_has ls maxL (lv_args 0 as) →
      W p l e rm s m as.toArray below meth c H [] 0 0 (MQ below (Qc A) as.toArray s mc ms A) (F0 m 0 ls [])) :
    Met l yy wsy rm (nPc D y E as ws sz) (Qc (va_A ws sz)) mc ms (va_A ws sz) := by
  refine Met.ofW (cc := cc) (maxL := maxL) (ret := ret) hy hw ?_
  intro p e s m args below meth c s₁ B hml hv
  obtain ⟨rfl, hsz, hP, hK, hD0, hE⟩ := hv
  have hD := hD0.self (sz := s.heap.size)
  subst hsz
  rw [lg_entry_eq]
  exact body p e s m below meth c (va_A ws s.heap.size) _ s.heap B.exec B.bytes B.returns hml (atoms_spec (ws := wsy) B.pre) (findClass_of_methodNamed B.named) B.notSynchronized (name_of_methodNamed B.named B.method).1 rfl hP hK hD (fun q h => Or.inr h) va_S.rf hE rfl (lv_entry as hn)
section NJ
variable {p : Program} {l : Launch} {e : Env} {R : Room} {s : State} {m : MethodId} {args : Array Value} {below : List Frame} {meth : Method} {c : Code} {H : Heap} {locs : List Loc} {cells slots : Nat} {Q : State → Prop}
variable {cc : ByteArray} {pc : Nat} {ls : Array Slot} {rest st0 : List Value} {D : va_G} {y : Nat → ClassId} {E : State → Prop} {A : Nat → Prop} {H0 : Heap} {ws wc wr : va_W} {w1 : (Nat → Nat) → va_W} {mc ms : Nat} {a : Array Value}
theorem nv {x v : Value} (h : x = v) (k : W p l e R s m args below meth c H locs cells slots Q (F0 m pc ls (v :: rest))) : W p l e R s m args below meth c H locs cells slots Q (F0 m pc ls (x :: rest)) := h ▸ k
theorem nv_i {x v : Int32} (h : x = v) (k : W p l e R s m args below meth c H locs cells slots Q (F0 m pc ls (.int v :: rest))) : W p l e R s m args below meth c H locs cells slots Q (F0 m pc ls (.int x :: rest)) := h ▸ k
theorem nv_l {x v : Int64} (h : x = v) (k : W p l e R s m args below meth c H locs cells slots Q (F0 m pc ls (.long v :: rest))) : W p l e R s m args below meth c H locs cells slots Q (F0 m pc ls (.long x :: rest)) := h ▸ k
theorem nj_i {post : Int32 → (Nat → Nat) → Prop} (hr : va_Run p l e R s m args below meth c H locs cells slots mc ms (F0 m pc ls st0) rest (nQi D y post w1 (va_A wc H.size) a) (va_A wc H.size)) (hP : va_P D vwCl ws H) (hD : va_D A ws) (hS : va_S A H0 H locs) (hA : ∀ q : Nat, H0.size ≤ q → A q) (isC isR : List Nat) (hC : isC.map (fun i => ws[i]?) = wc.map some) (hR : isR.map (fun i => ws[i]?) = wr.map some) (hn : va_nd isR = true) (hdis : ∀ i ∈ isR, i ∉ isC)
    (kk : ∀ (r : Int32) (u : Nat → Nat) (H1 : Heap) (locs1 : List Loc), post r u → va_P D vwCl (wr ++ w1 u) H1 → va_D A (wr ++ w1 u) → va_S A H0 H1 locs1 → W p l e R s m args below meth c H1 locs1 (cells + mc) (slots + ms) Q (F0 m (pc + 3) ls (.int r :: rest))) : W p l e R s m args below meth c H locs cells slots Q (F0 m pc ls st0) := by
  have hFc := va_free (wc := wc) hD hS hA isC hC
  refine va_calli hr hS (fun q _ h => hFc q h) hFc (fun r u t H1 locs1 ht hvm hw hB hz1 hk1 hS1 => ?_)
  obtain ⟨hP1, hK1, hD1⟩ := hB
  rw [ht] at hP1
  obtain ⟨hP2, hD2⟩ := va_join (wr := wr) (w1 := w1 u) hP hD isC isR hC hR hn hdis hk1 hFc hP1 hD1
  exact kk r u H1 locs1 hw hP2 hD2 hS1
theorem nj_l {post : Int64 → (Nat → Nat) → Prop} (hr : va_Run p l e R s m args below meth c H locs cells slots mc ms (F0 m pc ls st0) rest (nQl D y post w1 (va_A wc H.size) a) (va_A wc H.size)) (hP : va_P D vwCl ws H) (hD : va_D A ws) (hS : va_S A H0 H locs) (hA : ∀ q : Nat, H0.size ≤ q → A q) (isC isR : List Nat) (hC : isC.map (fun i => ws[i]?) = wc.map some) (hR : isR.map (fun i => ws[i]?) = wr.map some) (hn : va_nd isR = true) (hdis : ∀ i ∈ isR, i ∉ isC)
    (kk : ∀ (r : Int64) (u : Nat → Nat) (H1 : Heap) (locs1 : List Loc), post r u → va_P D vwCl (wr ++ w1 u) H1 → va_D A (wr ++ w1 u) → va_S A H0 H1 locs1 → W p l e R s m args below meth c H1 locs1 (cells + mc) (slots + ms) Q (F0 m (pc + 3) ls (.long r :: rest))) : W p l e R s m args below meth c H locs cells slots Q (F0 m pc ls st0) := by
  have hFc := va_free (wc := wc) hD hS hA isC hC
  refine va_calll hr hS (fun q _ h => hFc q h) hFc (fun r u t H1 locs1 ht hvm hw hB hz1 hk1 hS1 => ?_)
  obtain ⟨hP1, hK1, hD1⟩ := hB
  rw [ht] at hP1
  obtain ⟨hP2, hD2⟩ := va_join (wr := wr) (w1 := w1 u) hP hD isC isR hC hR hn hdis hk1 hFc hP1 hD1
  exact kk r u H1 locs1 hw hP2 hD2 hS1
theorem nj_v {post : (Nat → Nat) → Prop} (hr : va_Run p l e R s m args below meth c H locs cells slots mc ms (F0 m pc ls st0) rest (nQv D y post w1 (va_A wc H.size) a) (va_A wc H.size)) (hP : va_P D vwCl ws H) (hD : va_D A ws) (hS : va_S A H0 H locs) (hA : ∀ q : Nat, H0.size ≤ q → A q) (isC isR : List Nat) (hC : isC.map (fun i => ws[i]?) = wc.map some) (hR : isR.map (fun i => ws[i]?) = wr.map some) (hn : va_nd isR = true) (hdis : ∀ i ∈ isR, i ∉ isC)
    (kk : ∀ (u : Nat → Nat) (H1 : Heap) (locs1 : List Loc), post u → va_P D vwCl (wr ++ w1 u) H1 → va_D A (wr ++ w1 u) → va_S A H0 H1 locs1 → W p l e R s m args below meth c H1 locs1 (cells + mc) (slots + ms) Q (F0 m (pc + 3) ls rest)) : W p l e R s m args below meth c H locs cells slots Q (F0 m pc ls st0) := by
  have hFc := va_free (wc := wc) hD hS hA isC hC
  refine va_callv hr hS (fun q _ h => hFc q h) hFc (fun u t H1 locs1 ht hvm hw hB hz1 hk1 hS1 => ?_)
  obtain ⟨hP1, hK1, hD1⟩ := hB
  rw [ht] at hP1
  obtain ⟨hP2, hD2⟩ := va_join (wr := wr) (w1 := w1 u) hP hD isC isR hC hR hn hdis hk1 hFc hP1 hD1
  exact kk u H1 locs1 hw hP2 hD2 hS1
theorem nPc_blind {as : List Value} {sz : Nat} (hE : ∀ (a : Array Value) (U : State) (g : JFrame) (mk : MethodId), E U → E (U.calling g mk a)) : FrameBlind (nPc D y E as wc sz) := fun a U g mk q => by
  obtain ⟨q0, q1, qP, qK, qD, qE⟩ := q
  exact ⟨q0, q1, qP, va_K.moved (u := U) (U := U.calling g mk a) (Vm.Alike.refl U.vm) qK, qD, hE a U g mk qE⟩
theorem nPc_at {as : List Value} (hK : va_K D vwCl (nTY y) s) (hP : va_P D vwCl wc H) (hD : va_D A wc) (hE : ∀ U : State, U.heap = H → s.WarmedH U.vm → E U) : ∀ U : State, U.heap = H → s.WarmedH U.vm → nPc D y E as wc H.size as.toArray U := fun U hU hW =>
  ⟨rfl, by rw [hU], by rw [hU]; exact hP, va_K.moved hW.alike hK, hD.weaken (fun _ _ _ _ => trivial), hE U hU hW⟩
theorem nT_blind : ∀ (a : Array Value) (U : State) (g : JFrame) (mk : MethodId), nT U → nT (U.calling g mk a) := fun a U g mk h =>
  ⟨fun w hw => va_Nw.same (w := .methodLinkNest w.1 w.2.1 w.2.2 RX11) rfl (u := U) (U := U.calling g mk a) rfl (h.1 w hw), va_AO.moved (u := U) (U := U.calling g mk a) (Vm.Alike.refl U.vm) h.2.1, va_AO.moved (u := U) (U := U.calling g mk a) (Vm.Alike.refl U.vm) h.2.2.1, va_AOA.moved (u := U) (U := U.calling g mk a) (Vm.Alike.refl U.vm) h.2.2.2⟩
theorem nT_at (h : nT s) : ∀ U : State, U.heap = H → s.WarmedH U.vm → nT U := fun U _ hW =>
  ⟨fun w hw => va_Nw.warmM hW (h.1 w hw), va_AO.moved hW.alike h.2.1, va_AO.moved hW.alike h.2.2.1, va_AOA.moved hW.alike h.2.2.2⟩
theorem ncy_prim {cl : List vw_C} {tys : List (ClassId × FieldType)} {cA cy : ClassId} {ty : FieldType} (hK : va_K D cl (tys ++ [(cA, ty)]) s) (t0 : Nat) (ht : tys[t0]? = some (cy, ty)) (hp : ∀ (U : State) (c : ClassId), va_RA U c ty → U.vm.findClass ("[" ++ ty.toString) = some c) : cA = cy := by
  have h1 := (hK.2 tys.length (cA, ty) (by simp)).2
  have h2 := (hK.2 t0 (cy, ty) (by rw [List.getElem?_append_left (List.getElem?_eq_some_iff.mp ht).1]; exact ht)).2
  have e1 := hp s cA h1
  have e2 := hp s cy h2
  rw [e1] at e2
  exact Option.some.inj e2
theorem nb_newa (hexec : p.tables.exec = Jvm.exec) (hb : c.code = cc) {atype : ArrayType} (harr : (Cond.arrayClass (newarray.typeOf atype)).before args s = true) {ty : FieldType} (hty : newarray.typeOf atype = ty) (hK : va_K D vwCl (nTY y) s) (hP : va_P D vwCl ws H) (hD : va_D A ws) (hS : va_S A H0 H locs) (hA : ∀ q : Nat, H0.size ≤ q → A q) (t0 : Nat) {cy : ClassId} (ht : (nTY y)[t0]? = some (cy, ty)) (hp : ∀ (U : State) (c : ClassId), va_RA U c ty → U.vm.findClass ("[" ++ ty.toString) = some c) {n : Int32} {N' : Nat} {a0 : vp_A} (ha : ∀ cA : ClassId, vp_cell cA a0 = arrV cA N' (fun _ => defaultValue ty)) (hn : ¬ n < 0) (hN : n.toNatClampNeg = N') (hbytes : N' * componentBytes ty ≤ 536870912) (hcells : cells + 1 ≤ R.cells) (hslots : slots + N' ≤ R.slots) (hdg : decode cc pc = .ok (.newarray atype, 2))
    (kk : ∀ (q : Nat) (H1 : Heap), va_P D vwCl (ws ++ [(q, .inl (cy, a0))]) H1 → va_D A (ws ++ [(q, .inl (cy, a0))]) → va_S A H0 H1 locs → W p l e R s m args below meth c H1 locs (cells + 1) (slots + N') Q (F0 m (pc + 2) ls (.ref q :: rest))) : W p l e R s m args below meth c H locs cells slots Q (F0 m pc ls (.int n :: rest)) := by
  refine va_newa hexec hb harr hty hK hP hD hS hA ha hn hN hbytes hcells hslots hdg (fun q cA H1 hK' hP' hD' hS' => ?_)
  have e := ncy_prim hK' t0 ht hp
  subst e
  exact kk q H1 hP' hD' hS'
theorem nb_newq (hexec : p.tables.exec = Jvm.exec) (hb : c.code = cc) {own C : String} {index : Nat} (hown : s.vm.findClass own = some m.cls) (hclink : (Cond.classLink own index C).before args s = true) (hover : va_AO C s) (hK : va_K D vwCl (nTY y) s) (hP : va_P D vwCl ws H) (hD : va_D A ws) (hS : va_S A H0 H locs) (hA : ∀ q : Nat, H0.size ≤ q → A q) (t0 : Nat) {cy : ClassId} (ht : (nTY y)[t0]? = some (cy, .object C)) {n : Int32} {N' : Nat} (hn : ¬ n < 0) (hN : n.toNatClampNeg = N') (hbytes : N' * 4 ≤ 536870912) (hcells : cells + 1 ≤ R.cells) (hslots : slots + N' ≤ R.slots) (hdg : decode cc pc = .ok (.anewarray index, 3))
    (kk : ∀ (q : Nat) (H1 : Heap), va_P D vwCl (ws ++ [(q, .inl (cy, N', .inr (.inr (.inr (.inr (fun _ => none))))))]) H1 → va_D A (ws ++ [(q, .inl (cy, N', .inr (.inr (.inr (.inr (fun _ => none))))))]) → va_S A H0 H1 locs → W p l e R s m args below meth c H1 locs (cells + 1) (slots + N') Q (F0 m (pc + 3) ls (.ref q :: rest))) : W p l e R s m args below meth c H locs cells slots Q (F0 m pc ls (.int n :: rest)) := by
  refine va_newq hexec hb hown hclink hover hK hP hD hS hA hn hN hbytes hcells hslots hdg (fun q cA H1 hK' hP' hD' hS' => ?_)
  have e := ncy_prim hK' t0 ht (fun U c h => by obtain ⟨_, _, _, _, _, h⟩ := h; exact h)
  subst e
  exact kk q H1 hP' hD' hS'
theorem nb_upI {f : Nat → Int32} {i : Nat} {x : Int32} (h : f i = x) : upd f i x = f := by
  funext k
  by_cases e : k = i
  · subst e; simp [upd, h]
  · simp [upd, e]
theorem nb_upL {f : Nat → Int64} {i : Nat} {x : Int64} (h : f i = x) : vp_updL f i x = f := by
  funext k
  by_cases e : k = i
  · subst e; simp [vp_updL, h]
  · simp [vp_updL, e]
theorem nb_cpy {α : Type} {f g : Nat → α} (sp dp n : Nat) (h : f = g) (hd : sp = dp) : va_cpy f g sp dp n = g := by
  subst h; subst hd
  funext k
  unfold va_cpy
  split
  · next h => rw [show sp + (k - sp) = k by omega]
  · rfl
end NJ

abbrev nz : Nat → Int32 := fun _ => 0
abbrev nzl : Nat → Int64 := fun _ => 0
abbrev nn : Nat → Option Nat := fun _ => none
theorem n_in {i : Int32} {n : Nat} (h : ¬ (i < 0 ∨ n ≤ i.toNatClampNeg)) : vp_in i n := h
theorem nI_inc (i : Nat) : nI i + Int32.ofInt 1 = nI (i + 1) := nI_1 i
section QC
variable {x a b : Int32}
theorem q_lt (h : x ≤ a) (k : a < b) : x < b := by rw [Int32.lt_iff_toInt_lt] at *; rw [Int32.le_iff_toInt_le] at h; omega
theorem q_nlt (h : a ≤ x) (k : b ≤ a) : ¬ x < b := by rw [Int32.lt_iff_toInt_lt]; rw [Int32.le_iff_toInt_le] at *; omega
theorem q_le (h : x ≤ a) (k : a ≤ b) : x ≤ b := by rw [Int32.le_iff_toInt_le] at *; omega
theorem q_nle (h : a ≤ x) (k : b < a) : ¬ x ≤ b := by rw [Int32.lt_iff_toInt_lt] at k; rw [Int32.le_iff_toInt_le] at *; omega
theorem q_gt (h : a ≤ x) (k : b < a) : b < x := by rw [Int32.lt_iff_toInt_lt] at *; rw [Int32.le_iff_toInt_le] at h; omega
theorem q_ngt (h : x ≤ a) (k : a ≤ b) : ¬ b < x := by rw [Int32.lt_iff_toInt_lt]; rw [Int32.le_iff_toInt_le] at *; omega
theorem q_ge (h : a ≤ x) (k : b ≤ a) : b ≤ x := by rw [Int32.le_iff_toInt_le] at *; omega
theorem q_nge (h : x ≤ a) (k : a < b) : ¬ b ≤ x := by rw [Int32.lt_iff_toInt_lt] at k; rw [Int32.le_iff_toInt_le] at *; omega
theorem q_neH (h : x ≤ a) (k : a < b) : ¬ x = b := by intro e; subst e; exact absurd h (q_nge (Int32.le_refl a) k)
theorem q_neL (h : a ≤ x) (k : b < a) : ¬ x = b := by intro e; subst e; exact absurd h (q_nle (Int32.le_refl a) k)
end QC
section QL
variable {x a b : Int64}
theorem q_ltL (h : x ≤ a) (k : a < b) : x < b := by rw [Int64.lt_iff_toInt_lt] at *; rw [Int64.le_iff_toInt_le] at h; omega
theorem q_nltL (h : a ≤ x) (k : b ≤ a) : ¬ x < b := by rw [Int64.lt_iff_toInt_lt]; rw [Int64.le_iff_toInt_le] at *; omega
theorem q_leL (h : x ≤ a) (k : a ≤ b) : x ≤ b := by rw [Int64.le_iff_toInt_le] at *; omega
theorem q_nleL (h : a ≤ x) (k : b < a) : ¬ x ≤ b := by rw [Int64.lt_iff_toInt_lt] at k; rw [Int64.le_iff_toInt_le] at *; omega
theorem q_gtL (h : a ≤ x) (k : b < a) : b < x := by rw [Int64.lt_iff_toInt_lt] at *; rw [Int64.le_iff_toInt_le] at h; omega
theorem q_ngtL (h : x ≤ a) (k : a ≤ b) : ¬ b < x := by rw [Int64.lt_iff_toInt_lt]; rw [Int64.le_iff_toInt_le] at *; omega
theorem q_geL (h : a ≤ x) (k : b ≤ a) : b ≤ x := by rw [Int64.le_iff_toInt_le] at *; omega
theorem q_ngeL (h : x ≤ a) (k : a < b) : ¬ b ≤ x := by rw [Int64.lt_iff_toInt_lt] at k; rw [Int64.le_iff_toInt_le] at *; omega
theorem q_neHL (h : x ≤ a) (k : a < b) : ¬ x = b := by intro e; subst e; exact absurd h (q_ngeL (Int64.le_refl a) k)
theorem q_neLL (h : a ≤ x) (k : b < a) : ¬ x = b := by intro e; subst e; exact absurd h (q_nleL (Int64.le_refl a) k)
theorem q_cl (h : x < b) : lg_cmp x b = -1 := by
  have h1 := (lg_cmp_lt x b).mpr h
  unfold lg_cmp at h1 ⊢
  split at h1
  · exact absurd h1 (by decide)
  · split at h1
    · exact absurd h1 (by decide)
    · next h2 h3 => rw [if_neg h2, if_neg h3]
theorem q_cg (h : b < x) : lg_cmp x b = 1 := if_pos h
theorem q_i2llo {z c : Int32} (h : c ≤ z) (e : c.toInt64 = a) : a ≤ z.toInt64 := by
  subst e
  rw [Int64.le_iff_toInt_le, Int32.toInt_toInt64, Int32.toInt_toInt64]
  exact Int32.le_iff_toInt_le.mp h
theorem q_i2lhi {z c : Int32} (h : z ≤ c) (e : c.toInt64 = a) : z.toInt64 ≤ a := by
  subst e
  rw [Int64.le_iff_toInt_le, Int32.toInt_toInt64, Int32.toInt_toInt64]
  exact Int32.le_iff_toInt_le.mp h
theorem q_div1 (x : Int64) : x / 1 = x := by simp
end QL
theorem q_ti {x a : Int32} {n : Int} (h : x < a) (e : a.toInt = n) : x.toInt < n := by rw [← e]; exact Int32.lt_iff_toInt_lt.mp h
theorem q_ti2 {x a : Int32} {n : Int} (h : a < x) (e : a.toInt = n) : n < x.toInt := by rw [← e]; exact Int32.lt_iff_toInt_lt.mp h
theorem n_fm {α : Type} {f : Nat → Option α} : ∀ {l : List Nat} {w : List α}, l.map f = w.map some → l.filterMap f = w
  | [], [], _ => rfl
  | [], _ :: _, h => by simp at h
  | _ :: _, [], h => by simp at h
  | a :: l, x :: w, h => by
    simp only [List.map_cons, List.cons.injEq] at h
    simp [List.filterMap_cons, h.1, n_fm h.2]
section NR
variable {p : Program} {l : Launch} {e : Env} {R : Room} {s : State} {m : MethodId} {args : Array Value} {below : List Frame} {meth : Method} {c : Code} {H : Heap} {locs : List Loc} {cells slots : Nat} {Q : State → Prop}
variable {cc : ByteArray} {pc : Nat} {ls : Array Slot} {rest : List Value} {D : va_G} {y : Nat → ClassId} {A : Nat → Prop} {H0 : Heap} {ws wc : va_W}
variable {yy : MethodName} {bytes : ByteArray} {maxL nL mc ms n index : Nat} {ret : Option FieldType} {wsy : List Cond} {rm : Room} {Qc : Array Value → State → Outcome → State → Prop} {Ts : List Cond} {own C : String} {b : Addr} {As : List Value} {g : JFrame}
theorem nr_V (S : CallFix p m c cc nL s args Ts own) (hM : Met l yy wsy rm (nPc D y nT (.ref b :: As) wc H.size) Qc mc ms (va_A wc H.size)) (cw : CallW R s args own C index yy bytes maxL ret wsy rm mc ms n) (hK : va_K D vwCl (nTY y) s) (hP : va_P D vwCl ws H) (hD : va_D A ws) (hE : nT s) (isC : List Nat) (hC : isC.map (fun i => ws[i]?) = wc.map some) (hnd : va_nd isC = true) (q0 ci : Nat) {fs : List Value} {q : vw_C} (he : wc[q0]? = some (b, .inr (ci, fs))) (hcl : vwCl[ci]? = some q) (hq : q.1 = C) (hg : g.method = m) (hn : As.length = n) (hsize : g.locals.size = nL) (hstack : g.stack = As.reverse ++ .ref b :: rest) (hW : 2 * g.monitorRoom + (rest.map fun v => v.category).sum ≤ 8) (hdg : decode cc g.pc = .ok (.invokevirtual index, 3)) (hf : cells + mc ≤ R.cells ∧ slots + ms ≤ R.slots) : va_Run p l e R s m args below meth c H locs cells slots mc ms g rest (Qc (Value.ref b :: As).toArray) (va_A wc H.size) := by
  subst hq
  have hPc := hP.sub isC (n_fm hC)
  have hDc := hD.sub isC hnd hC
  exact va_runV S hM cw ⟨nPc_blind nT_blind, va_recv hK hPc hcl he, nPc_at hK hPc hDc (nT_at hE)⟩ hg hn hsize hstack hW hdg hf
theorem nr_S (S : CallFix p m c cc nL s args Ts own) (hM : Met l yy wsy rm (nPc D y nT As wc H.size) Qc mc ms (va_A wc H.size)) (cw : CallB R s args own index yy bytes maxL ret wsy rm mc ms n ∧ (Cond.static yy).before args s = true) (hK : va_K D vwCl (nTY y) s) (hP : va_P D vwCl ws H) (hD : va_D A ws) (hE : nT s) (isC : List Nat) (hC : isC.map (fun i => ws[i]?) = wc.map some) (hnd : va_nd isC = true) (hg : g.method = m) (hn : As.length = n) (hsize : g.locals.size = nL) (hstack : g.stack = As.reverse ++ rest) (hW : 2 * g.monitorRoom + (rest.map fun v => v.category).sum ≤ 8) (hdg : decode cc g.pc = .ok (.invokestatic index, 3)) (hf : cells + mc ≤ R.cells ∧ slots + ms ≤ R.slots) : va_Run p l e R s m args below meth c H locs cells slots mc ms g rest (Qc As.toArray) (va_A wc H.size) := by
  have hPc := hP.sub isC (n_fm hC)
  have hDc := hD.sub isC hnd hC
  exact va_runS S hM cw ⟨nPc_blind nT_blind, nPc_at hK hPc hDc (nT_at hE)⟩ hg hn hsize hstack hW hdg hf
theorem nr_I (S : CallFix p m c cc nL s args Ts own) (hM : Met l yy wsy rm (nPc D y nT (.ref b :: As) wc H.size) Qc mc ms (va_A wc H.size)) (cw : CallB R s args own index yy bytes maxL none wsy rm mc ms n ∧ yy.name = "<init>" ∧ (Cond.instanceMethod yy).before args s = true) (hK : va_K D vwCl (nTY y) s) (hP : va_P D vwCl ws H) (hD : va_D A ws) (hE : nT s) (isC : List Nat) (hC : isC.map (fun i => ws[i]?) = wc.map some) (hnd : va_nd isC = true) (hg : g.method = m) (hn : As.length = n) (hsize : g.locals.size = nL) (hstack : g.stack = As.reverse ++ .ref b :: rest) (hW : 2 * g.monitorRoom + (rest.map fun v => v.category).sum ≤ 8) (hdg : decode cc g.pc = .ok (.invokespecial index, 3)) (hf : cells + mc ≤ R.cells ∧ slots + ms ≤ R.slots) : va_Run p l e R s m args below meth c H locs cells slots mc ms g rest (Qc (Value.ref b :: As).toArray) (va_A wc H.size) := by
  have hPc := hP.sub isC (n_fm hC)
  have hDc := hD.sub isC hnd hC
  exact va_runI S hM cw ⟨nPc_blind nT_blind, nPc_at hK hPc hDc (nT_at hE)⟩ hg hn hsize hstack hW hdg hf
theorem nr_IN {host : String} (S : CallFix p m c cc nL s args Ts own) (hM : Met l yy wsy rm (nPc D y nT (.ref b :: As) wc H.size) Qc mc ms (va_A wc H.size)) (cw : va_CN R s args own index yy host bytes maxL none wsy rm mc ms n ∧ yy.name = "<init>" ∧ (Cond.instanceMethod yy).before args s = true) (hK : va_K D vwCl (nTY y) s) (hP : va_P D vwCl ws H) (hD : va_D A ws) (hE : nT s) (isC : List Nat) (hC : isC.map (fun i => ws[i]?) = wc.map some) (hnd : va_nd isC = true) (hg : g.method = m) (hn : As.length = n) (hsize : g.locals.size = nL) (hstack : g.stack = As.reverse ++ .ref b :: rest) (hW : 2 * g.monitorRoom + (rest.map fun v => v.category).sum ≤ 8) (hdg : decode cc g.pc = .ok (.invokespecial index, 3)) (hf : cells + mc ≤ R.cells ∧ slots + ms ≤ R.slots) : va_Run p l e R s m args below meth c H locs cells slots mc ms g rest (Qc (Value.ref b :: As).toArray) (va_A wc H.size) := by
  have hPc := hP.sub isC (n_fm hC)
  have hDc := hD.sub isC hnd hC
  exact va_runIN S hM cw ⟨nPc_blind nT_blind, nPc_at hK hPc hDc (nT_at hE)⟩ hg hn hsize hstack hW hdg hf
end NR
section NS
variable {p : Program} {l : Launch} {e : Env} {R : Room} {s : State} {m : MethodId} {args : Array Value} {below : List Frame} {meth : Method} {c : Code} {H : Heap} {locs : List Loc} {cells slots : Nat} {Q : State → Prop}
variable {cc : ByteArray} {pc : Nat} {ls : Array Slot} {rest : List Value} {D : va_G} {y : Nat → ClassId} {A : Nat → Prop} {H0 : Heap} {ws ws' : va_W} {a : Nat}
theorem nb_put (hexec : p.tables.exec = Jvm.exec) (hb : c.code = cc) {own ref C : String} {T : u_T} {N ci index : Nat} {Ts : List Cond} (hts : ∀ w ∈ Ts, w.before args s = true) (hin : ∀ w ∈ u_ws C T N, w ∈ Ts) (ty0 : Nat → FieldType) (hty : ∀ k, k < N → parseFieldDescriptor (T k).2.2.1 = some (ty0 k)) (hnm : ∀ a, a < N → ∀ b, b < N → a ≠ b → (T a).2.1 ≠ (T b).2.1) (hown : s.vm.findClass own = some m.cls) (hK : va_K D vwCl (nTY y) s) (hP : va_P D vwCl ws H) (hD : va_D A ws) (hS0 : va_S A H0 H locs) (q0 : Nat) {fs : List Value} (he : ws[q0]? = some (a, .inr (ci, fs))) (hc : vwCl[ci]? = some (C, T, N)) (k : Nat) (hk : k < N) (hlink : (Cond.fieldLink own index ref (T k).2.1 (T k).2.2.1).before args s = true) (hsame : ∀ x, s.fieldFound? (T k).1 (T k).2.1 (T k).2.2.1 = some x → s.fieldFound? ref (T k).2.1 (T k).2.2.1 = some x) (hfin : (T k).2.2.2 = false) {ty : FieldType} {v : Value} (hd : parseFieldDescriptor (T k).2.2.1 = some ty) (hn : narrow ty v = v) (hfit : fits ty v = true) (hl : k < fs.length) (hw : ws.set q0 (a, .inr (ci, fs.set k v)) = ws') (hdg : decode cc pc = .ok (.putfield index, 3)) (kk : ∀ (H1 : Heap) (locs1 : List Loc), va_P D vwCl ws' H1 → va_D A ws' → va_S A H0 H1 locs1 → W p l e R s m args below meth c H1 locs1 cells slots Q (F0 m (pc + 3) ls rest)) : W p l e R s m args below meth c H locs cells slots Q (F0 m pc ls (v :: .ref a :: rest)) := by
  subst hw
  exact va_put hexec hb hts hin ty0 hty hnm hown hK hP hD hS0 q0 he hc k hk hlink hsame hfin hd hn hfit hl hdg kk
theorem nb_putF (hexec : p.tables.exec = Jvm.exec) (hb : c.code = cc) {own ref C : String} {T : u_T} {N ci index : Nat} {Ts : List Cond} (hts : ∀ w ∈ Ts, w.before args s = true) (hin : ∀ w ∈ u_ws C T N, w ∈ Ts) (ty0 : Nat → FieldType) (hty : ∀ k, k < N → parseFieldDescriptor (T k).2.2.1 = some (ty0 k)) (hnm : ∀ a, a < N → ∀ b, b < N → a ≠ b → (T a).2.1 ≠ (T b).2.1) (hown : s.vm.findClass own = some m.cls) (hK : va_K D vwCl (nTY y) s) (hP : va_P D vwCl ws H) (hD : va_D A ws) (hS0 : va_S A H0 H locs) (q0 : Nat) {fs : List Value} (he : ws[q0]? = some (a, .inr (ci, fs))) (hc : vwCl[ci]? = some (C, T, N)) (k : Nat) (hk : k < N) (hlink : (Cond.fieldLink own index ref (T k).2.1 (T k).2.2.1).before args s = true) (hsame : ∀ x, s.fieldFound? (T k).1 (T k).2.1 (T k).2.2.1 = some x → s.fieldFound? ref (T k).2.1 (T k).2.2.1 = some x) (hfin : (T k).2.2.2 = true) (hin2 : meth.name = "<init>") (hdecl : (T k).1 = own) {ty : FieldType} {v : Value} (hd : parseFieldDescriptor (T k).2.2.1 = some ty) (hn : narrow ty v = v) (hfit : fits ty v = true) (hl : k < fs.length) (hw : ws.set q0 (a, .inr (ci, fs.set k v)) = ws') (hdg : decode cc pc = .ok (.putfield index, 3)) (kk : ∀ (H1 : Heap) (locs1 : List Loc), va_P D vwCl ws' H1 → va_D A ws' → va_S A H0 H1 locs1 → W p l e R s m args below meth c H1 locs1 cells slots Q (F0 m (pc + 3) ls rest)) : W p l e R s m args below meth c H locs cells slots Q (F0 m pc ls (v :: .ref a :: rest)) := by
  subst hw
  exact va_putF hexec hb hts hin ty0 hty hnm hown hK hP hD hS0 q0 he hc k hk hlink hsame hfin hin2 hdecl hd hn hfit hl hdg kk
theorem nb_iast (hexec : p.tables.exec = Jvm.exec) (hb : c.code = cc) (hK : va_K D vwCl (nTY y) s) (hP : va_P D vwCl ws H) (hD : va_D A ws) (hS : va_S A H0 H locs) (q0 t0 : Nat) {cA : ClassId} {n : Nat} {f : Nat → Int32} (ha : ws[q0]? = some (a, .inl (cA, n, .inl f))) (ht : (nTY y)[t0]? = some (cA, .int)) {i : Int32} {x : Int32} (hin : vp_in i n) (hw : ws.set q0 (a, .inl (cA, n, .inl (upd f i.toNatClampNeg x))) = ws') (hdg : decode cc pc = .ok (.iastore, 1)) (kk : ∀ (H1 : Heap) (locs1 : List Loc), va_P D vwCl ws' H1 → va_D A ws' → va_S A H0 H1 locs1 → W p l e R s m args below meth c H1 locs1 cells slots Q (F0 m (pc + 1) ls rest)) : W p l e R s m args below meth c H locs cells slots Q (F0 m pc ls (.int x :: .int i :: .ref a :: rest)) := by
  subst hw
  exact va_iast hexec hb hK hP hD hS q0 t0 ha ht hin hdg kk
theorem nb_zast (hexec : p.tables.exec = Jvm.exec) (hb : c.code = cc) (hK : va_K D vwCl (nTY y) s) (hP : va_P D vwCl ws H) (hD : va_D A ws) (hS : va_S A H0 H locs) (q0 t0 : Nat) {cA : ClassId} {n : Nat} {f : Nat → Int32} (ha : ws[q0]? = some (a, .inl (cA, n, .inl f))) (ht : (nTY y)[t0]? = some (cA, .boolean)) {i : Int32} {x : Int32} (hin : vp_in i n) (hw : ws.set q0 (a, .inl (cA, n, .inl (upd f i.toNatClampNeg (vp_nar .boolean x)))) = ws') (hdg : decode cc pc = .ok (.bastore, 1)) (kk : ∀ (H1 : Heap) (locs1 : List Loc), va_P D vwCl ws' H1 → va_D A ws' → va_S A H0 H1 locs1 → W p l e R s m args below meth c H1 locs1 cells slots Q (F0 m (pc + 1) ls rest)) : W p l e R s m args below meth c H locs cells slots Q (F0 m pc ls (.int x :: .int i :: .ref a :: rest)) := by
  subst hw
  exact va_zast hexec hb hK hP hD hS q0 t0 ha ht hin hdg kk
theorem nb_bast (hexec : p.tables.exec = Jvm.exec) (hb : c.code = cc) (hK : va_K D vwCl (nTY y) s) (hP : va_P D vwCl ws H) (hD : va_D A ws) (hS : va_S A H0 H locs) (q0 t0 : Nat) {cA : ClassId} {n : Nat} {f : Nat → Int32} (ha : ws[q0]? = some (a, .inl (cA, n, .inl f))) (ht : (nTY y)[t0]? = some (cA, .byte)) {i : Int32} {x : Int32} (hin : vp_in i n) (hw : ws.set q0 (a, .inl (cA, n, .inl (upd f i.toNatClampNeg (vp_nar .byte x)))) = ws') (hdg : decode cc pc = .ok (.bastore, 1)) (kk : ∀ (H1 : Heap) (locs1 : List Loc), va_P D vwCl ws' H1 → va_D A ws' → va_S A H0 H1 locs1 → W p l e R s m args below meth c H1 locs1 cells slots Q (F0 m (pc + 1) ls rest)) : W p l e R s m args below meth c H locs cells slots Q (F0 m pc ls (.int x :: .int i :: .ref a :: rest)) := by
  subst hw
  exact va_bast hexec hb hK hP hD hS q0 t0 ha ht hin hdg kk
theorem nb_last (hexec : p.tables.exec = Jvm.exec) (hb : c.code = cc) (hK : va_K D vwCl (nTY y) s) (hP : va_P D vwCl ws H) (hD : va_D A ws) (hS : va_S A H0 H locs) (q0 t0 : Nat) {cA : ClassId} {n : Nat} {f : Nat → Int64} (ha : ws[q0]? = some (a, .inl (cA, n, .inr (.inl f)))) (ht : (nTY y)[t0]? = some (cA, .long)) {i : Int32} {x : Int64} (hin : vp_in i n) (hw : ws.set q0 (a, .inl (cA, n, .inr (.inl (vp_updL f i.toNatClampNeg x)))) = ws') (hdg : decode cc pc = .ok (.lastore, 1)) (kk : ∀ (H1 : Heap) (locs1 : List Loc), va_P D vwCl ws' H1 → va_D A ws' → va_S A H0 H1 locs1 → W p l e R s m args below meth c H1 locs1 cells slots Q (F0 m (pc + 1) ls rest)) : W p l e R s m args below meth c H locs cells slots Q (F0 m pc ls (.long x :: .int i :: .ref a :: rest)) := by
  subst hw
  exact va_last hexec hb hK hP hD hS q0 t0 ha ht hin hdg kk
theorem nb_astq (hexec : p.tables.exec = Jvm.exec) (hb : c.code = cc) (hK : va_K D vwCl (nTY y) s) (hP : va_P D vwCl ws H) (hD : va_D A ws) (hS : va_S A H0 H locs) (q0 t0 qk ci : Nat) {cA : ClassId} {r : vw_C} {n v : Nat} {vs : List Value} {f : Nat → Option Nat} (ha : ws[q0]? = some (a, .inl (cA, n, .inr (.inr (.inr (.inr f)))))) (hc : vwCl[ci]? = some r) (ht : (nTY y)[t0]? = some (cA, .object r.1)) (hv : ws[qk]? = some (v, .inr (ci, vs))) {i : Int32} (hin : vp_in i n) (hw : ws.set q0 (a, .inl (cA, n, .inr (.inr (.inr (.inr (va_up f i.toNatClampNeg (some v))))))) = ws') (hdg : decode cc pc = .ok (.aastore, 1)) (kk : ∀ (H1 : Heap) (locs1 : List Loc), va_P D vwCl ws' H1 → va_D A ws' → va_S A H0 H1 locs1 → W p l e R s m args below meth c H1 locs1 cells slots Q (F0 m (pc + 1) ls rest)) : W p l e R s m args below meth c H locs cells slots Q (F0 m pc ls (.ref v :: .int i :: .ref a :: rest)) := by
  subst hw
  exact va_astq hexec hb hK hP hD hS q0 t0 qk ci ha ht hv hc hin hdg kk
theorem nb_copyi (hexec : p.tables.exec = Jvm.exec) (hb : c.code = cc) (hml : c.maxLocals = ls.size) {own : String} {index : Nat} (hown : s.vm.findClass own = some m.cls) (hlink : (Cond.methodLink own index arraycopyName).before args s = true) (hnat : (Cond.native arraycopyName).before args s = true) (hstat : (Cond.static arraycopyName).before args s = true) (hini : (Cond.initialized "java/lang/System").before args s = true) (hK : va_K D vwCl (nTY y) s) (hP : va_P D vwCl ws H) (hD : va_D A ws) (hS : va_S A H0 H locs) (q0 q1 t0 t1 : Nat) {a0 : Nat} {c0 c1 : ClassId} {n0 n1 : Nat} {f g : Nat → Int32} {ty : FieldType} (ha0 : ws[q0]? = some (a0, .inl (c0, n0, .inl f))) (ha1 : ws[q1]? = some (a, .inl (c1, n1, .inl g))) (ht0 : (nTY y)[t0]? = some (c0, ty)) (ht1 : (nTY y)[t1]? = some (c1, ty)) (hprim : refKind ty = false) {sp dp n : Int32} (h1 : ¬ sp < 0) (h2 : ¬ dp < 0) (h3 : ¬ n < 0) (h4 : sp.toNatClampNeg + n.toNatClampNeg ≤ n0) (h5 : dp.toNatClampNeg + n.toNatClampNeg ≤ n1) (hfit : ∀ i, i < n.toNatClampNeg → fits ty (.int (f (sp.toNatClampNeg + i))) = true) (hframes : 1 ≤ R.frames) (hlocals : (rest.map fun v => v.category).sum + (nativeFrameWords "java/lang/System" "arraycopy" 5 + 11) ≤ R.locals) (hw : ws.set q1 (a, .inl (c1, n1, .inl (va_cpy f g sp.toNatClampNeg dp.toNatClampNeg n.toNatClampNeg))) = ws') (hdg : decode cc pc = .ok (.invokestatic index, 3)) (kk : ∀ (H1 : Heap) (locs1 : List Loc), va_P D vwCl ws' H1 → va_D A ws' → va_S A H0 H1 locs1 → W p l e R s m args below meth c H1 locs1 cells slots Q (F0 m (pc + 3) ls rest)) : W p l e R s m args below meth c H locs cells slots Q (F0 m pc ls (.int n :: .int dp :: .ref a :: .int sp :: .ref a0 :: rest)) := by
  subst hw
  exact va_copyi hexec hb hml hown hlink hnat hstat hini hK hP hD hS q0 q1 t0 t1 ha0 ha1 ht0 ht1 hprim h1 h2 h3 h4 h5 hfit hframes hlocals hdg kk
theorem n_app {α : Type} {a b : List α} {k : Nat} {x : α} (h : a[k]? = some x) : (a ++ b)[k]? = some x := by
  rw [List.getElem?_append_left (List.getElem?_eq_some_iff.mp h).1]
  exact h
theorem nb_mna (hexec : p.tables.exec = Jvm.exec) (hb : c.code = cc) {own : String} {index : Nat} (hown : s.vm.findClass own = some m.cls) (hclink : (Cond.classLink own index "[[B").before args s = true) (hover : va_AOA .byte s) (harr : (Cond.arrayClass .byte).before args s = true) (hK : va_K D vwCl (nTY y) s) (hP : va_P D vwCl ws H) (hD : va_D A ws) (hS : va_S A H0 H locs) (hA : ∀ q : Nat, H0.size ≤ q → A q) {n k : Int32} {N' K' : Nat} (hn : ¬ n < 0) (hk : ¬ k < 0) (hN : n.toNatClampNeg = N') (hM : k.toNatClampNeg = K') (hb1 : N' * 4 ≤ 536870912) (hb2 : K' * componentBytes .byte ≤ 536870912) (hb3 : K' ≤ 536870912) (hcells : cells + (1 + N') ≤ R.cells) (hslots : slots + (N' + N' * K') ≤ R.slots) (hdg : decode cc pc = .ok (.multianewarray index 2, 4))
    (kk : ∀ (q : Nat) (H1 : Heap), va_P D vwCl ws H1 → va_D A ws → va_S A H0 H1 locs → W p l e R s m args below meth c H1 locs (cells + 1 + N') (slots + N' + N' * K') Q (F0 m (pc + 4) ls (.ref q :: rest))) : W p l e R s m args below meth c H locs cells slots Q (F0 m pc ls (.int k :: .int n :: rest)) := by
  have hcy : s.vm.findClass (FieldType.array .byte).toString = some (y 3) := (hK.2 3 (y 3, .byte) rfl).2
  have e0 : ws ++ va_pl [] (fun _ => (.inr (0, []) : va_E)) = ws := List.append_nil ws
  refine va_mna (X := ws) (L := []) (f := fun _ => .inr (0, [])) (z := (K', .inl nz)) hexec hb hown hclink hover harr hcy hK (by rw [e0]; exact hP) (by rw [e0]; exact hD) hS hA hn hk hN hM hb1 hb2 hb3 rfl rfl hcells hslots (fun c => by show ({ cls := c, slots := Array.replicate K' (.int 0), vm := .none } : Cell) = _; rw [arrV_new]; rfl) hdg (fun q r cA H1 _ _ _ hP' hD' hS' => ?_)
  refine kk q H1 (fun k' q' h => hP' k' q' (n_app (n_app h))) ⟨fun i j p' q' h1 h2 => hD'.1 i j p' q' (n_app (n_app h1)) (n_app (n_app h2)), fun k' q' h => hD'.2 k' q' (n_app (n_app h))⟩ hS'
end NS
