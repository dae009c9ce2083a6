/-! THE LAW'S ROWS: the script of ints; the end with 1 -/
section MKL
variable {p : Program} {l : Launch} {e : Env} {R : Room} {s : State} {m : MethodId} {args : Array Value} {below : List Frame} {meth : Method} {c : Code} {Q : State → Prop} {g : mG} {μ : mM} {z k n pc : Nat} {lv : List (Nat × Value)} {st : List Value} {cc : ByteArray} {nL : Nat} {own : String}
theorem v_slen {b L : Nat} {xs : Nat → Int32} (o : Ok p l s m args meth c g cc nL own) (hX : va_X b L xs s s.heap) (hbl : b < s.heap.size) (hg : g.2.2 = s.heap.size) (d : decode cc pc = .ok (.arraylength, 1)) (kk : V p l e R s m args below meth c Q g μ z k n (pc + 1) lv (.int (nI L) :: st)) : V p l e R s m args below meth c Q g μ z k n pc lv (.ref b :: st) := fun H locs ls a1 a2 a3 =>
  va_slen o.1 o.2.1 hX hbl (fun q => by have : g.2.2 ≤ b := q; omega) a2 d (kk H locs ls a1 a2 a3)
theorem v_sld {b L : Nat} {xs : Nat → Int32} {j : Nat} (o : Ok p l s m args meth c g cc nL own) (hX : va_X b L xs s s.heap) (hbl : b < s.heap.size) (hg : g.2.2 = s.heap.size) (d : decode cc pc = .ok (.iaload, 1)) (hj : j < L) (hL : L < 2 ^ 31) (kk : V p l e R s m args below meth c Q g μ z k n (pc + 1) lv (.int (xs j) :: st)) : V p l e R s m args below meth c Q g μ z k n pc lv (.int (nI j) :: .ref b :: st) := fun H locs ls a1 a2 a3 => by
  have hc : (nI j).toNatClampNeg = j := nI_clamp (Nat.lt_trans hj hL)
  refine va_sld o.1 o.2.1 hX hbl (fun q => by have : g.2.2 ≤ b := q; omega) a2 (vp_in_nI hj hL) d ?_
  rw [hc]
  exact kk H locs ls a1 a2 a3
/-- nothing that was there before has been written: the written places may be left out -/
theorem v_forget {Q' : State → Prop} (hg : g.2.2 = s.heap.size) (k' n' : Nat) (hk : k ≤ k') (hn : n ≤ n') (kk : ∀ (H : Heap) (ls : Array Slot), lv_has ls c.maxLocals lv → W p l e R s m args below meth c H [] k' n' Q' (F0 m pc ls st)) : V p l e R s m args below meth c Q' g μ z k n pc lv st := fun H locs ls a1 a2 a3 =>
  va_forget (fun q hq => by have h : g.2.2 ≤ q.base := a2.2.2 q hq; omega) (W.widen hk hn (kk H ls a3))
end MKL
