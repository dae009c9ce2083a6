/-! rows of an array of arrays; ends; throws; calls -/
def upm (μ : mM) (z n : Nat) (e r : va_E) : mM := fun q => if q = z then some e else if z < q ∧ q ≤ z + n then some r else μ q
section MKB
variable {p : Program} {l : Launch} {e : Env} {R : Room} {s : State} {m : MethodId} {args : Array Value} {below : List Frame} {meth : Method} {c : Code} {Q : State → Prop} {g : mG} {μ : mM} {z k n pc : Nat} {lv : List (Nat × Value)} {st : List Value} {cc : ByteArray} {nL : Nat} {own : String}
theorem v_newII {ix : Nat} (N K : Nat) (o : Ok p l s m args meth c g cc nL own) (d : decode cc pc = .ok (.multianewarray ix 2, 4)) (hl : Cond.classLink own ix "[[I" ∈ mT) (ha : Cond.arrayClass .int ∈ mT) (hN : N ≤ 4096) (hK : K ≤ 4096) (hk : k + (1 + N) ≤ R.cells) (hs : n + (N + N * K) ≤ R.slots) (kk : V p l e R s m args below meth c Q g (upm μ z N (.inl (g.2.1 5, aQ N (fun i => if i < N then some (z + 1 + i) else none))) (.inl (g.2.1 0, aI K (fun _ => 0)))) (z + 1 + N) (k + 1 + N) (n + N + N * K) (pc + 4) lv (.ref z :: st)) : V p l e R s m args below meth c Q g μ z k n pc lv (.int (nI K) :: .int (nI N) :: st) := fun H locs ls h1 h2 h3 T hT X => by
  have hts := o.2.2.2.2.2.2.2.2
  have cN : (nI N).toNatClampNeg = N := nI_clamp (by omega)
  have cK : (nI K).toNatClampNeg = K := nI_clamp (by omega)
  obtain ⟨vm₁, cA, comp, -, fA, fC, hO, -, X', step⟩ := X.multianewarray2F o.1 (ty := .int) o.2.2.2.1 (hts _ hl) (va_AOA.use o.2.2.2.2.1.2.2.2.2.2.1) (hts _ ha) (g := F0 m pc ls (.int (nI K) :: .int (nI N) :: st)) rfl (by rw [o.2.1]; exact d) rfl (nI_pos (by omega)) (nI_pos (by omega)) (by rw [cN]; omega) (by rw [cK]; show K * 4 ≤ _; omega) (by rw [cK]; omega) rfl rfl (by rw [cN]; exact hk) (by rw [cN, cK]; exact hs)
  rw [cN, cK] at X' step
  have hcA : cA = g.2.1 5 := Option.some.inj (fA.symm.trans (o.2.2.2.2.1.1.2 5 _ rfl).2)
  have hcI : comp = g.2.1 0 := Option.some.inj (fC.symm.trans (o.2.2.2.2.1.1.2 0 _ rfl).2)
  subst hcA
  subst hcI
  have hTh : (T.setVm vm₁).heap = H := hT
  obtain ⟨f1, f2, -, -⟩ := Jvm.Free.Multi.fill_facts (T.setVm vm₁) (g.2.1 5) (g.2.1 0) N K (defaultValue .int) N
  have hold : ∀ x : Nat, x < H.size → (Jvm.Free.Multi.fill (T.setVm vm₁) (g.2.1 5) (g.2.1 0) N K (defaultValue .int) N).heap[x]? = H[x]? := fun x hx => by
    have := Jvm.Free.Multi.fill_old (T.setVm vm₁) (g.2.1 5) (g.2.1 0) N K (defaultValue .int) (a := x) (by rw [hTh]; exact hx) N
    rw [hTh] at this
    exact this
  have hrow : ∀ j : Nat, j < N → (Jvm.Free.Multi.fill (T.setVm vm₁) (g.2.1 5) (g.2.1 0) N K (defaultValue .int) N).heap[H.size + 1 + j]? = some (vp_cell (g.2.1 0) (aI K (fun _ => 0))) := fun j hj => by
    have := Jvm.Free.Multi.fill_inner (T.setVm vm₁) (g.2.1 5) (g.2.1 0) N K (defaultValue .int) N j hj
    rw [hTh] at this
    rw [this]
    rw [vp_cell_i, show Jvm.Free.Multi.innerC (g.2.1 0) K (defaultValue .int) = { cls := g.2.1 0, slots := Array.replicate K (.int 0), vm := .none } from rfl, arrV_new]
  rw [hTh] at f1 f2
  generalize Jvm.Free.Multi.fill (T.setVm vm₁) (g.2.1 5) (g.2.1 0) N K (defaultValue .int) N = F at X' step f1 f2 hold hrow
  rw [vr_outer] at f2
  have hm : Hm g (upm μ z N (.inl (g.2.1 5, aQ N (fun i => if i < N then some (z + 1 + i) else none))) (.inl (g.2.1 0, aI K (fun _ => 0)))) (z + 1 + N) F.heap := by
    have hz : H.size = z := h1.2.1
    refine ⟨fun b x hb => ?_, by rw [f1]; omega, by have := h1.2.2; omega⟩
    unfold upm at hb
    by_cases e1 : b = z
    · rw [if_pos e1] at hb
      cases hb
      subst e1
      refine ⟨?_, h1.2.2⟩
      show F.heap[b]? = some (vp_cell _ _)
      rw [vp_cell_q, ← hz]
      exact f2
    · rw [if_neg e1] at hb
      by_cases e2 : z < b ∧ b ≤ z + N
      · rw [if_pos e2] at hb
        cases hb
        have := h1.2.2
        refine ⟨?_, by omega⟩
        show F.heap[b]? = some (vp_cell _ _)
        have h9 := hrow (b - (z + 1)) (by omega)
        rw [show H.size + 1 + (b - (z + 1)) = b by omega] at h9
        exact h9
      · rw [if_neg e2] at hb
        exact ⟨((h1.1 b x hb).1).kept (hold b (by rw [hz]; exact h1.lt hb)), (h1.1 b x hb).2⟩
  have kk2 := kk F.heap locs ls hm ⟨by rw [f1]; have := h2.1; omega, fun x a1 a2 => (hold x (Nat.lt_of_lt_of_le a1 h2.1)).trans (h2.2.1 x a1 a2), h2.2.2⟩ h3 F rfl X'
  obtain ⟨t, a1, b1⟩ := kk2
  refine ⟨t, step t ?_, b1⟩
  have e9 : T.heap.size = z := by rw [hT]; exact h1.2.1
  rw [e9]
  exact a1
theorem v_objInit {a ix : Nat} (o : Ok p l s m args meth c g cc nL own) (d : decode cc pc = .ok (.invokespecial ix, 3)) (hl : Cond.methodLink own ix objectInit ∈ mT) (h1 : Cond.instanceMethod objectInit ∈ mT) (h2 : Cond.code objectInit ⟨#[0xb1]⟩ 1 none ∈ mT) (hf : 1 ≤ R.frames) (hlo : (st.map fun v => v.category).sum + 12 ≤ R.locals) (kk : V p l e R s m args below meth c Q g μ z k n (pc + 3) lv st) : V p l e R s m args below meth c Q g μ z k n pc lv (.ref a :: st) := fun H locs ls a1 a2 a3 => by
  have hts := o.2.2.2.2.2.2.2.2
  exact W.objInit o.1 o.2.1 o.2.2.2.1 (hts _ hl) (hts _ h1) (hts _ h2) rfl a3.1 rfl d hf (by show 2 * 0 + _ + 12 ≤ _; omega) (kk H locs ls a1 a2 a3)
theorem v_mmax {x y : Int32} {ix : Nat} (o : Ok p l s m args meth c g cc nL own) (d : decode cc pc = .ok (.invokestatic ix, 3)) (hl : Cond.methodLink own ix Lib.Math.max.name ∈ mT) (h1 : Cond.static Lib.Math.max.name ∈ mT) (h2 : Cond.initialized "java/lang/Math" ∈ mT) (h3 : Cond.code Lib.Math.max.name Lib.Math.max.code 2 (some .int) ∈ mT) (hf : 1 ≤ R.frames) (hlo : (st.map fun v => v.category).sum + 13 ≤ R.locals) (hk : k ≤ R.cells) (hn : n ≤ R.slots) (kk : V p l e R s m args below meth c Q g μ z k n (pc + 3) lv (.int (if x < y then y else x) :: st)) : V p l e R s m args below meth c Q g μ z k n pc lv (.int y :: .int x :: st) := fun H locs ls a1 a2 a3 => by
  have hts := o.2.2.2.2.2.2.2.2
  exact va_mmax o.1 o.2.1 a3.1.symm o.2.2.2.1 (hts _ hl) (hts _ h1) (hts _ h2) (hts _ h3) hf hlo hk hn d (kk H locs ls a1 a2 a3)
theorem v_widen (k' n' : Nat) (hk : k ≤ k') (hn : n ≤ n') (kk : V p l e R s m args below meth c Q g μ z k' n' pc lv st) : V p l e R s m args below meth c Q g μ z k n pc lv st := fun H locs ls a1 a2 a3 => W.widen hk hn (kk H locs ls a1 a2 a3)
theorem vx_widenV (E : String) (k' n' : Nat) (hk : k ≤ k') (hn : n ≤ n') (kk : VX p l e R s m args below meth c Q g μ z k' n' pc lv E) : VX p l e R s m args below meth c Q g μ z k n pc lv E := fun H locs ls q ce rest a1 a2 a3 a4 a5 a6 => vx_widen hk hn (kk H locs ls q ce rest a1 a2 a3 a4 a5 a6)
/-- other words for the same locals -/
theorem v_sub (lv' : List (Nat × Value)) (ks : List Nat) (h : lv_pick lv ks = lv') (kk : V p l e R s m args below meth c Q g μ z k n pc lv' st) : V p l e R s m args below meth c Q g μ z k n pc lv st := fun H locs ls a1 a2 a3 => kk H locs ls a1 a2 (lv_sub a3 ks h)
/-- more is known of the heap -/
theorem v_mono {μ' : mM} (h : ∀ a e0, μ' a = some e0 → μ a = some e0) (kk : V p l e R s m args below meth c Q g μ' z k n pc lv st) : V p l e R s m args below meth c Q g μ z k n pc lv st := fun H locs ls a1 a2 a3 => kk H locs ls ⟨fun a e0 ha => a1.1 a e0 (h a e0 ha), a1.2⟩ a2 a3
variable {post : Option Value → mM → Nat → Prop} {ex : String → mM → Nat → Prop} {mc ms : Nat}
theorem v_iret {v : Int32} (o : Ok p l s m args meth c g cc nL own) (d : decode cc pc = .ok (.ireturn, 1)) (hr : meth.sig.returnType = some .int) (hk : k ≤ mc) (hn : n ≤ ms) (hp : post (some (.int v)) μ z) : V p l e R s m args below meth c (vx_MQ below (cQc g post) (cXC g ex) args s mc ms (gA g)) g μ z k n pc lv [.int v] := fun H locs ls h1 h2 h3 =>
  W.widen hk hn (vx_ret (W.iret (hlocks := o.2.2.2.2.2.2.2.1) o.1 o.2.1 hr (fun t ht hW => ⟨⟨_, _, _, rfl, hp, by rw [ht]; exact h1⟩, h2.F ht⟩) (fun q hq => h2.2.2 q hq) d))
theorem v_zret {v : Int32} (o : Ok p l s m args meth c g cc nL own) (d : decode cc pc = .ok (.ireturn, 1)) (hr : meth.sig.returnType = some .boolean) (hv : narrow .boolean (.int v) = .int v) (hk : k ≤ mc) (hn : n ≤ ms) (hp : post (some (.int v)) μ z) : V p l e R s m args below meth c (vx_MQ below (cQc g post) (cXC g ex) args s mc ms (gA g)) g μ z k n pc lv [.int v] := fun H locs ls h1 h2 h3 =>
  W.widen hk hn (vx_ret (W.zret (hlocks := o.2.2.2.2.2.2.2.1) o.1 o.2.1 hr hv (fun t ht hW => ⟨⟨_, _, _, rfl, hp, by rw [ht]; exact h1⟩, h2.F ht⟩) (fun q hq => h2.2.2 q hq) d))
theorem v_lret {v : Int64} (o : Ok p l s m args meth c g cc nL own) (d : decode cc pc = .ok (.lreturn, 1)) (hr : meth.sig.returnType = some .long) (hk : k ≤ mc) (hn : n ≤ ms) (hp : post (some (.long v)) μ z) : V p l e R s m args below meth c (vx_MQ below (cQc g post) (cXC g ex) args s mc ms (gA g)) g μ z k n pc lv [.long v] := fun H locs ls h1 h2 h3 =>
  W.widen hk hn (vx_ret (W.lret (hlocks := o.2.2.2.2.2.2.2.1) o.1 o.2.1 hr (fun t ht hW => ⟨⟨_, _, _, rfl, hp, by rw [ht]; exact h1⟩, h2.F ht⟩) (fun q hq => h2.2.2 q hq) d))
theorem v_aret {a : Nat} {C : String} (o : Ok p l s m args meth c g cc nL own) (d : decode cc pc = .ok (.areturn, 1)) (hr : meth.sig.returnType = some (.object C)) (hk : k ≤ mc) (hn : n ≤ ms) (hp : post (some (.ref a)) μ z) : V p l e R s m args below meth c (vx_MQ below (cQc g post) (cXC g ex) args s mc ms (gA g)) g μ z k n pc lv [.ref a] := fun H locs ls h1 h2 h3 =>
  W.widen hk hn (vx_ret (W.aret (hlocks := o.2.2.2.2.2.2.2.1) o.1 o.2.1 hr (Or.inl ⟨_, rfl⟩) (Or.inr ⟨_, rfl⟩) (fun t ht hW => ⟨⟨_, _, _, rfl, hp, by rw [ht]; exact h1⟩, h2.F ht⟩) (fun q hq => h2.2.2 q hq) d))
theorem v_vret (o : Ok p l s m args meth c g cc nL own) (d : decode cc pc = .ok (.return_, 1)) (hr : meth.sig.returnType = none) (hk : k ≤ mc) (hn : n ≤ ms) (hp : post none μ z) : V p l e R s m args below meth c (vx_MQ below (cQc g post) (cXC g ex) args s mc ms (gA g)) g μ z k n pc lv [] := fun H locs ls h1 h2 h3 =>
  W.widen hk hn (vx_ret (W.vret (hlocks := o.2.2.2.2.2.2.2.1) o.1 o.2.1 hr (fun t ht hW => ⟨⟨_, _, _, rfl, hp, by rw [ht]; exact h1⟩, h2.F ht⟩) (fun q hq => h2.2.2 q hq) d))
theorem v_out {E : String} (o : Ok p l s m args meth c g cc nL own) (hx : ∀ x ∈ c.exceptionTable.toList, False) (hk : k ≤ mc) (hn : n ≤ ms) (hp : ex E μ z) : VX p l e R s m args below meth c (vx_MQ below (cQc g post) (cXC g ex) args s mc ms (gA g)) g μ z k n pc lv E := fun H locs ls q ce rest h1 h2 h3 h4 h5 h6 =>
  vx_out (fun x h => (hx x h).elim) o.2.2.2.2.2.2.2.1 h4 h5 h6 (fun t ht hW => ⟨⟨μ, z, hp, by rw [ht]; exact h1⟩, h2.F ht⟩) (fun q hq => h2.2.2 q hq) hk hn
theorem v_throw {E text : String} {ik is ic : Nat} (o : Ok p l s m args meth c g cc nL own) (hx : ∀ x ∈ c.exceptionTable.toList, False) (d0 : decode cc pc = .ok (.new ik, 3)) (d3 : decode cc (pc + 3) = .ok (.dup, 1)) (d4 : decode cc (pc + 4) = .ok (.ldc is, 2)) (d6 : decode cc (pc + 6) = .ok (.invokespecial ic, 3)) (d9 : decode cc (pc + 9) = .ok (.athrow, 1)) (hE : Bundle.fit E = true) (hstr : (own, is, text) ∈ mSt) (hw : ∀ w ∈ Cond.classLink own ik E :: Cond.initialized E :: vx_atS own ic E ["java/lang/RuntimeException", "java/lang/Exception"], w ∈ mT) (hf : 5 < R.frames) (hlo : (st.map fun v => v.category).sum + 82 ≤ R.locals) (hc1 : k + 1 ≤ R.cells) (hs1 : n + 6 ≤ R.slots) (hk : k + 1 ≤ mc) (hn : n + 6 ≤ ms) (hp : ∀ z', z ≤ z' → ex E μ z') : V p l e R s m args below meth c (vx_MQ below (cQc g post) (cXC g ex) args s mc ms (gA g)) g μ z k n pc lv st := fun H locs ls h1 h2 h3 => by
  have hts := o.2.2.2.2.2.2.2.2
  obtain ⟨sa, hsa⟩ := o.2.2.2.2.1.2.2.1 _ hstr
  refine vx_throwS (text := text) (names := ["java/lang/RuntimeException", "java/lang/Exception"]) (sa := sa) (A := gA g) o.1 o.2.1 o.2.2.2.2.2.2.1 o.2.2.2.1 hE (by decide +kernel) (hts _ (hw _ List.mem_cons_self)) (hts _ (hw _ (List.mem_cons_of_mem _ List.mem_cons_self))) hsa (fun w h => hts w (hw w (List.mem_cons_of_mem _ (List.mem_cons_of_mem _ h)))) (fun w h => ?_) o.2.2.2.2.2.1.1 o.2.2.2.2.2.1.2 h2 h3.1 d0 d3 d4 d6 d9 (fun x h => (hx x h).elim) hf hlo hc1 hs1 o.2.2.2.2.2.2.2.1 (fun t hW h4 h5 => ?_) (fun q hq => h2.2.2 q hq) hk hn
  · unfold vx_ot
    rcases gw2_c w (List.mem_filter.mp (hw w h)).2 with h7 | ⟨x, rfl⟩ | ⟨C, T, rfl⟩
    · rw [h7, Bool.or_true]
    · rfl
    · rfl
  · refine ⟨⟨μ, t.heap.size, hp _ (by rw [← h1.2.1]; exact h4), h1.ext h4 h5⟩, Nat.le_trans h2.1 h4, fun q a1 a2 => ?_⟩
    rw [h5 q (Nat.lt_of_lt_of_le a1 h2.1)]
    exact h2.2.1 q a1 a2
/-! calls -/
theorem v_core {mc' ms' : Nat} {post' : Option Value → mM → Nat → Prop} {ex' : String → mM → Nat → Prop} {a' : Array Value} {st0 : List Value} (hr : ∀ (H : Heap) (locs : List Loc) (ls : Array Slot), Hm g μ z H → va_S (gA g) s.heap H locs → lv_has ls c.maxLocals lv → vx_Run p l e R s m args below meth c H locs k n mc' ms' (F0 m pc ls st0) st (cQc g post' a') (cXC g ex') (gA g))
    (kk : ∀ r μ' z', z ≤ z' → post' r μ' z' → V p l e R s m args below meth c Q g μ' z' (k + mc') (n + ms') (pc + 3) lv (r.toList ++ st))
    (kx : ∀ E μ' z', z ≤ z' → ex' E μ' z' → VX p l e R s m args below meth c Q g μ' z' (k + mc') (n + ms') pc lv E) : V p l e R s m args below meth c Q g μ z k n pc lv st0 := fun H locs ls h1 h2 h3 T hT X => by
  rcases hr H locs ls h1 h2 h3 T hT X with ⟨v, st₀, t, T', L, h0, X', hL, e1, e2, ⟨⟨r, μ', z', hv, hp, hm'⟩, hF⟩, stp⟩ | ⟨q, st₀, t, T', L, E, ce, h0, X', hL, e1, e2, ⟨⟨μ', z', hp, hm'⟩, hF⟩, hce, hcv, hcl, stp⟩
  · cases hv
    obtain ⟨k1, k2, k3⟩ := vx_keep h0 e1 h2 (fun q _ h => h) (fun q h => h) hL hF
    have hz : z ≤ z' := by rw [← h1.2.1, ← hm'.2.1, ← e1]; exact k1
    obtain ⟨t2, a1, b1⟩ := kk v μ' z' hz hp T'.heap (locs ++ L) ls (by rw [e1]; exact hm') k3 h3 T' rfl X'
    exact ⟨t2, stp t2 a1, b1⟩
  · obtain ⟨k1, k2, k3⟩ := vx_keep h0 e1 h2 (fun q _ h => h) (fun q h => h) hL hF
    have hz : z ≤ z' := by rw [← h1.2.1, ← hm'.2.1, ← e1]; exact k1
    obtain ⟨t2, a1, b1⟩ := kx E μ' z' hz hp T'.heap (locs ++ L) ls q ce st (by rw [e1]; exact hm') k3 h3 (by rw [e1]; exact hce) hcv hcl T' rfl X'
    exact ⟨t2, stp.trans a1, b1⟩
/-- what a call's words say -/
def CW (own : String) (index : Nat) (y : MethodName) (bytes : ByteArray) (maxL : Nat) (ret : Option FieldType) (nn : Nat) : Prop :=
  Cond.methodLink own index y ∈ mT ∧ Cond.code y bytes maxL ret ∈ mT ∧ Cond.initialized y.cls ∈ mT ∧ (y.cls ≠ "java/lang/invoke/MethodHandle" ∧ y.cls ≠ "java/lang/invoke/VarHandle") ∧ (parseMethodDescriptor y.desc).map (fun d => d.parameters.length) = some nn
theorem CW.B {index nn maxL : Nat} {y : MethodName} {bytes : ByteArray} {ret : Option FieldType} {rm : Room} (h : CW own index y bytes maxL ret nn) (ht : ∀ w ∈ mT, w.before args s = true) (hR : rm.frames + 1 ≤ R.frames ∧ 8 + (maxL + 11) + rm.locals ≤ R.locals) : CallB R s args own index y bytes maxL ret [Cond.code y bytes maxL ret] rm rm.cells rm.slots nn := by
  obtain ⟨h1, h2, h3, h4, h5⟩ := h
  refine callB_of nn ht (fun w hw => ?_) rfl rfl rfl (ht _ h3) (ht _ h1) ⟨h4.1, h4.2, h5⟩ hR
  rw [List.mem_singleton.mp hw]
  exact ⟨h2, good_of_word rfl⟩
theorem cPre {As : List Value} (o : Ok p l s m args meth c g cc nL own) {H : Heap} {locs : List Loc} (h1 : Hm g μ z H) (h2 : va_S (gA g) s.heap H locs) : FrameBlind (cPc g As μ z) ∧ ∀ U : State, U.heap = H → s.WarmedH U.vm → cPc g As μ z As.toArray U :=
  ⟨cPc.blind, fun U hU hW => ⟨rfl, by rw [hU]; exact h1, o.2.2.2.2.1.moved hW, by rw [hU]; exact Zs.go hW.alike h2 o.2.2.2.2.2.1⟩⟩
theorem v_callS {index nn maxL : Nat} {y : MethodName} {bytes : ByteArray} {ret : Option FieldType} {rm : Room} {post' : Option Value → mM → Nat → Prop} {ex' : String → mM → Nat → Prop} {st0 : List Value} (As : List Value) (st : List Value) (o : Ok p l s m args meth c g cc nL own) (d : decode cc pc = .ok (.invokestatic index, 3)) (cw : CW own index y bytes maxL ret nn) (hs : Cond.static y ∈ mT) (hc : Ct l g y [Cond.code y bytes maxL ret] rm As μ z post' ex') (hst : st0 = As.reverse ++ st) (hnn : As.length = nn) (hR : rm.frames + 1 ≤ R.frames ∧ 8 + (maxL + 11) + rm.locals ≤ R.locals) (hk : k + rm.cells ≤ R.cells ∧ n + rm.slots ≤ R.slots) (h8 : (st.map fun v => v.category).sum ≤ 8)
    (kk : ∀ r μ' z', z ≤ z' → post' r μ' z' → V p l e R s m args below meth c Q g μ' z' (k + rm.cells) (n + rm.slots) (pc + 3) lv (r.toList ++ st))
    (kx : ∀ E μ' z', z ≤ z' → ex' E μ' z' → VX p l e R s m args below meth c Q g μ' z' (k + rm.cells) (n + rm.slots) pc lv E) : V p l e R s m args below meth c Q g μ z k n pc lv st0 := by
  have hts := o.2.2.2.2.2.2.2.2
  exact v_core (fun H locs ls h1 h2 h3 => vx_runS (As := As) (rest := st) (Ts := mT) ⟨o.1, o.2.1, rfl, o.2.2.2.1, hts⟩ hc ⟨cw.B hts hR, hts _ hs⟩ (cPre o h1 h2) rfl hnn h3.1 hst (lv_room h8) d hk) kk kx
theorem v_callV {index nn maxL b ci N : Nat} {C : String} {T : u_T} {ty : Nat → FieldType} {fs : List Value} {y : MethodName} {bytes : ByteArray} {ret : Option FieldType} {rm : Room} {post' : Option Value → mM → Nat → Prop} {ex' : String → mM → Nat → Prop} {st0 : List Value} (As : List Value) (st : List Value) (o : Ok p l s m args meth c g cc nL own) (d : decode cc pc = .ok (.invokevirtual index, 3)) (cw : CW own index y bytes maxL ret nn) (hi : Cond.instanceMethod y ∈ mT) (hs : Cond.selects C y y ∈ mT) (cf : CF ci C T N ty) (he : μ b = some (.inr (ci, fs))) (hc : Ct l g y [Cond.code y bytes maxL ret] rm (.ref b :: As) μ z post' ex') (hst : st0 = As.reverse ++ .ref b :: st) (hnn : As.length = nn) (hR : rm.frames + 1 ≤ R.frames ∧ 8 + (maxL + 11) + rm.locals ≤ R.locals) (hk : k + rm.cells ≤ R.cells ∧ n + rm.slots ≤ R.slots) (h8 : (st.map fun v => v.category).sum ≤ 8)
    (kk : ∀ r μ' z', z ≤ z' → post' r μ' z' → V p l e R s m args below meth c Q g μ' z' (k + rm.cells) (n + rm.slots) (pc + 3) lv (r.toList ++ st))
    (kx : ∀ E μ' z', z ≤ z' → ex' E μ' z' → VX p l e R s m args below meth c Q g μ' z' (k + rm.cells) (n + rm.slots) pc lv E) : V p l e R s m args below meth c Q g μ z k n pc lv st0 := by
  have hts := o.2.2.2.2.2.2.2.2
  exact v_core (fun H locs ls h1 h2 h3 => vx_runV (C := C) (As := As) (rest := st) (Ts := mT) ⟨o.1, o.2.1, rfl, o.2.2.2.1, hts⟩ hc ⟨cw.B hts hR, hts _ hi, hts _ hs⟩ ⟨(cPre o h1 h2).1, va_recv o.2.2.2.2.1.1 (h1.one he) cf.1 (q0 := 0) rfl, (cPre o h1 h2).2⟩ rfl hnn h3.1 hst (lv_room h8) d hk) kk kx
theorem v_callI {index nn maxL b : Nat} {y : MethodName} {bytes : ByteArray} {rm : Room} {post' : Option Value → mM → Nat → Prop} {ex' : String → mM → Nat → Prop} {st0 : List Value} (As : List Value) (st : List Value) (o : Ok p l s m args meth c g cc nL own) (d : decode cc pc = .ok (.invokespecial index, 3)) (cw : CW own index y bytes maxL none nn) (hy : y.name = "<init>") (hi : Cond.instanceMethod y ∈ mT) (hc : Ct l g y [Cond.code y bytes maxL none] rm (.ref b :: As) μ z post' ex') (hst : st0 = As.reverse ++ .ref b :: st) (hnn : As.length = nn) (hR : rm.frames + 1 ≤ R.frames ∧ 8 + (maxL + 11) + rm.locals ≤ R.locals) (hk : k + rm.cells ≤ R.cells ∧ n + rm.slots ≤ R.slots) (h8 : (st.map fun v => v.category).sum ≤ 8)
    (kk : ∀ r μ' z', z ≤ z' → post' r μ' z' → V p l e R s m args below meth c Q g μ' z' (k + rm.cells) (n + rm.slots) (pc + 3) lv (r.toList ++ st))
    (kx : ∀ E μ' z', z ≤ z' → ex' E μ' z' → VX p l e R s m args below meth c Q g μ' z' (k + rm.cells) (n + rm.slots) pc lv E) : V p l e R s m args below meth c Q g μ z k n pc lv st0 := by
  have hts := o.2.2.2.2.2.2.2.2
  exact v_core (fun H locs ls h1 h2 h3 => vx_runI (As := As) (rest := st) (Ts := mT) ⟨o.1, o.2.1, rfl, o.2.2.2.1, hts⟩ hc ⟨cw.B hts hR, hy, hts _ hi⟩ (cPre o h1 h2) rfl hnn h3.1 hst (lv_room h8) d hk) kk kx
end MKB
