theorem n_loop {σ : Type} {p : Program} {l : Launch} {e : Env} {R : Room} {s : State} {m : MethodId} {args : Array Value} {below : List Frame} {meth : Method} {c : Code} {cells slots : Nat} {Q : State → Prop} {D : va_G} {A : Nat → Prop} {H0 : Heap} {nL head : Nat} {st : List Value} (ws : Nat → σ → va_W) (lv : Nat → σ → List (Nat × Value)) (N : Nat)
    (hx : ∀ (g : σ) (H : Heap) (locs : List Loc) (ls : Array Slot), va_P D vwCl (ws N g) H → va_D A (ws N g) → va_S A H0 H locs → lv_has ls nL (lv N g) → W p l e R s m args below meth c H locs cells slots Q (F0 m head ls st))
    (hs : ∀ i : Nat, i < N → (∀ (g : σ) (H : Heap) (locs : List Loc) (ls : Array Slot), va_P D vwCl (ws (i + 1) g) H → va_D A (ws (i + 1) g) → va_S A H0 H locs → lv_has ls nL (lv (i + 1) g) → W p l e R s m args below meth c H locs cells slots Q (F0 m head ls st)) → ∀ (g : σ) (H : Heap) (locs : List Loc) (ls : Array Slot), va_P D vwCl (ws i g) H → va_D A (ws i g) → va_S A H0 H locs → lv_has ls nL (lv i g) → W p l e R s m args below meth c H locs cells slots Q (F0 m head ls st))
    (k : Nat) (hk : k ≤ N) (g : σ) (H : Heap) (locs : List Loc) (ls : Array Slot) (hP : va_P D vwCl (ws k g) H) (hD : va_D A (ws k g)) (hS : va_S A H0 H locs) (hl : lv_has ls nL (lv k g)) : W p l e R s m args below meth c H locs cells slots Q (F0 m head ls st) := by
  have K : ∀ (n k : Nat), k + n = N → ∀ (g : σ) (H : Heap) (locs : List Loc) (ls : Array Slot), va_P D vwCl (ws k g) H → va_D A (ws k g) → va_S A H0 H locs → lv_has ls nL (lv k g) → W p l e R s m args below meth c H locs cells slots Q (F0 m head ls st) := by
    intro n
    induction n with
    | zero => intro k h; obtain rfl : k = N := by omega
              exact hx
    | succ n ih => intro k h; exact hs k (by omega) (ih (k + 1) (by omega))
  exact K (N - k) k (by omega) g H locs ls hP hD hS hl
def nfil (n : Nat) (v : Int32) (f : Nat → Int32) : Nat → Int32 := fun j => if j < n then v else f j
theorem nfil_0 (v : Int32) (f : Nat → Int32) : nfil 0 v f = f := by funext j; simp [nfil]
theorem nfil_s {n : Nat} (h : n < 2 ^ 31) (v : Int32) (f : Nat → Int32) : upd (nfil n v f) (nI n).toNatClampNeg v = nfil (n + 1) v f := by
  rw [nI_clamp h]
  funext j
  by_cases e : j = n
  · subst e; simp [upd, nfil]
  · by_cases q : j < n
    · simp [upd, nfil, e, q, Nat.lt_succ_of_lt q]
    · simp [upd, nfil, e, q, show ¬ j < n + 1 by omega]
theorem n_cut (x a b : Int32) (h : a.toInt + 1 = b.toInt) : x ≤ a ∨ b ≤ x := by
  rw [Int32.le_iff_toInt_le, Int32.le_iff_toInt_le]; omega
theorem n_m0 (x : Int32) : x * 0 = 0 := Int32.mul_zero
theorem n_0m (x : Int32) : 0 * x = 0 := Int32.zero_mul
abbrev nQr (D : va_G) (y : Nat → ClassId) (k : Nat) (w1 : (Nat → Nat) → va_W) (A : Nat → Prop) : Array Value → State → Outcome → State → Prop := va_Qr (S := Nat → Nat) (fun _ => True) (fun u a t => a = u k ∧ nB D y A w1 u t) A
section NJR
variable {p : Program} {l : Launch} {e : Env} {R : Room} {s : State} {m : MethodId} {args : Array Value} {below : List Frame} {meth : Method} {c : Code} {H : Heap} {locs : List Loc} {cells slots : Nat} {Q : State → Prop}
variable {cc : ByteArray} {pc : Nat} {ls : Array Slot} {rest st0 : List Value} {D : va_G} {y : Nat → ClassId} {A : Nat → Prop} {H0 : Heap} {ws wc wr : va_W} {w1 : (Nat → Nat) → va_W} {mc ms : Nat} {a : Array Value}
theorem nj_r {k0 : Nat} (hr : va_Run p l e R s m args below meth c H locs cells slots mc ms (F0 m pc ls st0) rest (nQr D y k0 w1 (va_A wc H.size) a) (va_A wc H.size)) (hP : va_P D vwCl ws H) (hD : va_D A ws) (hS : va_S A H0 H locs) (hA : ∀ q : Nat, H0.size ≤ q → A q) (isC isR : List Nat) (hC : isC.map (fun i => ws[i]?) = wc.map some) (hR : isR.map (fun i => ws[i]?) = wr.map some) (hn : va_nd isR = true) (hdis : ∀ i ∈ isR, i ∉ isC)
    (kk : ∀ (u : Nat → Nat) (H1 : Heap) (locs1 : List Loc), va_P D vwCl (wr ++ w1 u) H1 → va_D A (wr ++ w1 u) → va_S A H0 H1 locs1 → W p l e R s m args below meth c H1 locs1 (cells + mc) (slots + ms) Q (F0 m (pc + 3) ls (.ref (u k0) :: rest))) : W p l e R s m args below meth c H locs cells slots Q (F0 m pc ls st0) := by
  have hFc := va_free (wc := wc) hD hS hA isC hC
  refine va_callr hr hS (fun q _ h => hFc q h) hFc (fun u ra t H1 locs1 ht hvm hw hB hz1 hk1 hS1 => ?_)
  obtain ⟨e0, hP1, hK1, hD1⟩ := hB
  rw [ht] at hP1
  obtain ⟨hP2, hD2⟩ := va_join (wr := wr) (w1 := w1 u) hP hD isC isR hC hR hn hdis hk1 hFc hP1 hD1
  rw [e0]
  exact kk u H1 locs1 hP2 hD2 hS1
end NJR
theorem q_sq {x a : Int32} (h1 : a ≤ x) (h2 : x ≤ a) : x = a := by
  rw [← Int32.toInt_inj]
  rw [Int32.le_iff_toInt_le] at h1 h2
  omega
