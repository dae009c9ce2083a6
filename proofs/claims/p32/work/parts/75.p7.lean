/-! a method that reads the script -/
def cPx (g : mG) (As : List Value) (μ : mM) (z bb L : Nat) (xs : Nat → Int32) : Array Value → State → Prop := fun v U => cPc g As μ z v U ∧ va_X bb L xs U U.heap
theorem cPx.blind {g : mG} {As : List Value} {μ : mM} {z bb L : Nat} {xs : Nat → Int32} : FrameBlind (cPx g As μ z bb L xs) := fun a U fr mk h =>
  ⟨cPc.blind a U fr mk h.1, va_X.moved (u := U) (U := U.calling fr mk a) (Vm.Alike.refl U.vm) h.2⟩
section MKX
variable {p : Program} {l : Launch} {e : Env} {R : Room} {s : State} {m : MethodId} {args : Array Value} {below : List Frame} {meth : Method} {c : Code} {Q : State → Prop} {g : mG} {μ : mM} {z k n pc : Nat} {lv : List (Nat × Value)} {st : List Value} {cc : ByteArray} {nL : Nat} {own : String}
theorem v_slen {b L : Nat} {xs : Nat → Int32} (o : Ok p l s m args meth c g cc nL own) (hX : va_X b L xs s s.heap) (hbl : b < s.heap.size) (hg : b < g.2.2) (d : decode cc pc = .ok (.arraylength, 1)) (kk : V p l e R s m args below meth c Q g μ z k n (pc + 1) lv (.int (nI L) :: st)) : V p l e R s m args below meth c Q g μ z k n pc lv (.ref b :: st) := fun H locs ls a1 a2 a3 =>
  va_slen o.1 o.2.1 hX hbl (fun q => by have : g.2.2 ≤ b := q; omega) a2 d (kk H locs ls a1 a2 a3)
theorem v_sld {b L : Nat} {xs : Nat → Int32} {j : Nat} (o : Ok p l s m args meth c g cc nL own) (hX : va_X b L xs s s.heap) (hbl : b < s.heap.size) (hg : b < g.2.2) (d : decode cc pc = .ok (.iaload, 1)) (hj : j < L) (hL : L < 2 ^ 31) (kk : V p l e R s m args below meth c Q g μ z k n (pc + 1) lv (.int (xs j) :: st)) : V p l e R s m args below meth c Q g μ z k n pc lv (.int (nI j) :: .ref b :: st) := fun H locs ls a1 a2 a3 => by
  have hc : (nI j).toNatClampNeg = j := nI_clamp (Nat.lt_trans hj hL)
  refine va_sld o.1 o.2.1 hX hbl (fun q => by have : g.2.2 ≤ b := q; omega) a2 (vp_in_nI hj hL) d ?_
  rw [hc]
  exact kk H locs ls a1 a2 a3
/-- nothing that was there before has been written: the written places may be left out -/
theorem v_forget {Q' : State → Prop} (hg : g.2.2 = s.heap.size) (k' n' : Nat) (hk : k ≤ k') (hn : n ≤ n') (kk : ∀ (H : Heap) (ls : Array Slot), lv_has ls c.maxLocals lv → W p l e R s m args below meth c H [] k' n' Q' (F0 m pc ls st)) : V p l e R s m args below meth c Q' g μ z k n pc lv st := fun H locs ls a1 a2 a3 =>
  va_forget (fun q hq => by have h : g.2.2 ≤ q.base := a2.2.2 q hq; omega) (W.widen hk hn (kk H ls a3))
theorem v_if_ge_c {x y : Int64} {off : Int} (tgt : Nat) (o : Ok p l s m args meth c g cc nL own) (d : decode cc pc = .ok (.ifCond .ge off, 3)) (ht : (pc : Int) + off = (tgt : Int)) (kt : ¬ x < y → V p l e R s m args below meth c Q g μ z k n tgt lv st) (kf : x < y → V p l e R s m args below meth c Q g μ z k n (pc + 3) lv st) : V p l e R s m args below meth c Q g μ z k n pc lv (.int (lg_cmp x y) :: st) := by
  by_cases h : x < y
  · have h' := Int64.lt_iff_toInt_lt.mp h
    have e : lg_cmp x y = -1 := by
      unfold lg_cmp
      rw [if_neg (fun q => by have := Int64.lt_iff_toInt_lt.mp q; omega), if_neg (fun q => by rw [q] at h'; omega)]
    exact v_if_ge tgt o d ht (fun q => absurd q (by rw [e]; decide)) (fun _ => kf h)
  · have e : 0 ≤ lg_cmp x y := by
      unfold lg_cmp
      split
      · decide
      · rename_i h1
        split
        · decide
        · rename_i h2
          exfalso
          rw [Int64.lt_iff_toInt_lt] at h
          have h3 : ¬ y.toInt < x.toInt := fun q => h1 (Int64.lt_iff_toInt_lt.mpr q)
          exact h2 (Int64.toInt_inj.mp (by omega))
    exact v_if_ge tgt o d ht (fun _ => kt h) (fun q => absurd e q)
theorem cPreX {As : List Value} {b L : Nat} {xs : Nat → Int32} (o : Ok p l s m args meth c g cc nL own) (hX : va_X b L xs s s.heap) (hbl : b < s.heap.size) (hg : b < g.2.2) {H : Heap} {locs : List Loc} (h1 : Hm g μ z H) (h2 : va_S (gA g) s.heap H locs) : FrameBlind (cPx g As μ z b L xs) ∧ ∀ U : State, U.heap = H → s.WarmedH U.vm → cPx g As μ z b L xs As.toArray U :=
  ⟨cPx.blind, fun U hU hW => ⟨(cPre o h1 h2).2 U hU hW, by
    rw [hU]
    exact va_X.moved hW.alike (hX.kept (h2.2.1 b hbl (fun q => by have h : g.2.2 ≤ b := q; omega)))⟩⟩
theorem v_callSX {index nn maxL b L : Nat} {xs : Nat → Int32} {y : MethodName} {bytes : ByteArray} {ret : Option FieldType} {rm : Room} {post' : Option Value → mM → Nat → Prop} {ex' : String → mM → Nat → Prop} {st0 : List Value} (As : List Value) (st : List Value) (o : Ok p l s m args meth c g cc nL own) (hX : va_X b L xs s s.heap) (hbl : b < s.heap.size) (hg : b < g.2.2) (d : decode cc pc = .ok (.invokestatic index, 3)) (cw : CW own index y bytes maxL ret nn) (hs : Cond.static y ∈ mT) (hc : vx_Met l y [Cond.code y bytes maxL ret] rm (cPx g As μ z b L xs) (cQc g post') (cXC g ex') rm.cells rm.slots (gA g)) (hst : st0 = As.reverse ++ st) (hnn : As.length = nn) (hR : rm.frames + 1 ≤ R.frames ∧ 8 + (maxL + 11) + rm.locals ≤ R.locals) (hk : k + rm.cells ≤ R.cells ∧ n + rm.slots ≤ R.slots) (h8 : (st.map fun v => v.category).sum ≤ 8)
    (kk : ∀ r μ' z', z ≤ z' → post' r μ' z' → V p l e R s m args below meth c Q g μ' z' (k + rm.cells) (n + rm.slots) (pc + 3) lv (r.toList ++ st))
    (kx : ∀ E μ' z', z ≤ z' → ex' E μ' z' → VX p l e R s m args below meth c Q g μ' z' (k + rm.cells) (n + rm.slots) pc lv E) : V p l e R s m args below meth c Q g μ z k n pc lv st0 := by
  have hts := o.2.2.2.2.2.2.2.2
  exact v_core (fun H locs ls h1 h2 h3 => vx_runS (As := As) (rest := st) (Ts := mT) ⟨o.1, o.2.1, rfl, o.2.2.2.1, hts⟩ hc ⟨cw.B hts hR, hts _ hs⟩ (cPreX o hX hbl hg h1 h2) rfl hnn h3.1 hst (lv_room h8) d hk) kk kx
end MKX
/-- an int, nothing changed -/
def ceP (μ : mM) (z : Nat) : Option Value → mM → Nat → Prop := fun r μ' z' => ∃ v : Int32, r = some (.int v) ∧ μ' = μ ∧ z' = z
set_option maxRecDepth 100000 in
set_option maxHeartbeats 4000000 in
theorem l_cell {l : Launch} (hl : l.stackTraces = false) {g : mG} {z bb L : Nat} {μ : mM} {xs : Nat → Int32} (k : Nat) (hk : k < 2 ^ 31) (hL : L < 2 ^ 31) (hg : bb < g.2.2) : vx_Met l yL_cell [Cond.code yL_cell cL_cell 2 (some .int)] { frames := 0, cells := 0, slots := 0, locals := 0 } (cPx g [.ref bb, .int (nI k)] μ z bb L xs) (cQc g (ceP μ z)) (cXC g noX) 0 0 (gA g) := by
  refine vx_ofW (cc := cL_cell) (maxL := 2) (ret := (some .int)) (by decide +kernel) rfl ?_
  intro p e s mi args below meth c s₁ B hml hx hv
  obtain ⟨⟨rfl, hm, hE, hZ⟩, hX⟩ := hv
  rw [lg_entry_eq]
  have hr := B.returns
  have hbl : bb < s.heap.size := by
    have h1 := hm.2.1
    have h2 := hm.2.2
    omega
  have o : Ok p l s mi ([.ref bb, .int (nI k)] : List Value).toArray meth c g cL_cell 2 RL := ⟨B.exec, B.bytes, hml, findClass_of_methodNamed B.named, hE, hZ, hl, B.notSynchronized, hE.2.1.args _⟩
  suffices hV : V p l e { frames := 0, cells := 0, slots := 0, locals := 0 } s mi ([.ref bb, .int (nI k)] : List Value).toArray below meth c (vx_MQ below (cQc g (ceP μ z)) (cXC g noX) ([.ref bb, .int (nI k)] : List Value).toArray s 0 0 (gA g)) g μ z 0 0 0 [(0, .ref bb), (1, .int (nI k))] [] from
    hV s.heap [] _ hm va_S.rf (by rw [hml]; exact lv_entry ([.ref bb, .int (nI k)]) (Nat.le_of_ble_eq_true rfl))
  refine v_iload_n 1 o dL_cell_0 rfl rfl ?_
  refine v_aload_n 0 o dL_cell_1 rfl rfl ?_
  refine v_slen o hX hbl hg dL_cell_2 ?_
  refine v_icmp_ge_n 12 o dL_cell_3 (by decide) (by omega) (by omega) (fun c3 => ?_) (fun c3 => ?_)
  · refine v_sipush 7919 o dL_cell_12 (by decide) ?_
    refine v_iload_n 1 o dL_cell_15 rfl rfl ?_
    refine v_sipush 2953 o dL_cell_16 (by decide) ?_
    refine v_iadd (nI (k + 2953)) o dL_cell_19 (nI_add k 2953) ?_
    refine v_imul (nI (7919 * (k + 2953))) o dL_cell_20 (pk_mul 7919 (k + 2953)) ?_
    refine v_iload_n 1 o dL_cell_21 rfl rfl ?_
    refine v_sipush 647 o dL_cell_22 (by decide) ?_
    refine v_iadd (nI (k + 647)) o dL_cell_25 (nI_add k 647) ?_
    refine v_imul (nI ((7919 * (k + 2953)) * (k + 647))) o dL_cell_26 (pk_mul (7919 * (k + 2953)) (k + 647)) ?_
    exact v_iret o dL_cell_27 hr (Nat.le_of_ble_eq_true rfl) (Nat.le_of_ble_eq_true rfl) ⟨_, rfl, rfl, rfl⟩
  · refine v_aload_n 0 o dL_cell_6 rfl rfl ?_
    refine v_iload_n 1 o dL_cell_7 rfl rfl ?_
    refine v_sld (j := k) o hX hbl hg dL_cell_8 (by omega) hL ?_
    refine v_goto 27 o dL_cell_9 (by decide) ?_
    exact v_iret o dL_cell_27 hr (Nat.le_of_ble_eq_true rfl) (Nat.le_of_ble_eq_true rfl) ⟨_, rfl, rfl, rfl⟩
theorem TW.start {g : mG} {z : Nat} {μ μ1 μ2 : mM} {B1 B2 : Nat → Nat} {τ1 τ2 : Sg} (h1 : RC g z B1 (z + 12) μ σ0 τ1 μ1) (h2 : RC g (z + 12) B2 (z + 24) μ1 σ0 τ2 μ2) : TW g z (z + 12) (z + 24) μ2 σ0 σ0 := by
  refine ⟨B1, τ1, B2, τ2, Or.inl (Nat.le_refl _), ?_, ?_⟩
  · obtain ⟨a1, a2, ⟨s1, s2, s3, s4, s5⟩, a5, a6⟩ := h1
    exact ⟨fun k hk => h2.2.2.2.2 (z + k) _ (by omega) (by omega) (a1 k hk), fun i hi => absurd hi (Nat.not_lt_zero i), ⟨by omega, s2, s3, fun i hi => absurd hi (Nat.not_lt_zero i), fun i k _ hk => absurd hk (Nat.not_lt_zero k)⟩, fun i hi => absurd hi (Nat.not_lt_zero i), fun a e _ _ he => msk_e he⟩
  · obtain ⟨a1, a2, ⟨s1, s2, s3, s4, s5⟩, a5, a6⟩ := h2
    exact ⟨a1, fun i hi => absurd hi (Nat.not_lt_zero i), ⟨by omega, s2, s3, fun i hi => absurd hi (Nat.not_lt_zero i), fun i k _ hk => absurd hk (Nat.not_lt_zero k)⟩, fun i hi => absurd hi (Nat.not_lt_zero i), fun a e _ _ he => msk_e he⟩
theorem JV_0 : JV 0 σ0 := by
  refine ⟨Inv_0, rfl, fun b hb => absurd hb (Nat.not_lt_zero b), fun a ha => (by cases ha), fun v a _ _ ha => (by cases ha), ⟨0, Nat.le_refl _, rfl⟩, ⟨2000, by decide, rfl⟩, fun i hi => ⟨70, by decide, ?_⟩⟩
  show (if (7 : Nat) = 8 ∧ i = 1 then nI 2000 else if (7 : Nat) = 7 ∧ i < 4 then nI 70 else (0 : Int32)) = nI 70
  rw [if_neg (by omega), if_pos ⟨rfl, hi⟩]
theorem bad_cases (r : Int64) : (r = -99999999 ∧ Bad r) ∨ (¬ r = -99999999 ∧ r = -9000000000000000 ∧ Bad r) ∨ (¬ r = -99999999 ∧ ¬ r = -9000000000000000 ∧ r < -9000000000 ∧ Bad r) ∨ (¬ r = -99999999 ∧ ¬ r = -9000000000000000 ∧ ¬ r < -9000000000) := by
  by_cases h1 : r = -99999999
  · exact Or.inl ⟨h1, Or.inl h1⟩
  · by_cases h2 : r = -9000000000000000
    · exact Or.inr (Or.inl ⟨h1, h2, Or.inr (Or.inl h2)⟩)
    · by_cases h3 : r < -9000000000
      · exact Or.inr (Or.inr (Or.inl ⟨h1, h2, h3, Or.inr (Or.inr h3)⟩))
      · exact Or.inr (Or.inr (Or.inr ⟨h1, h2, h3⟩))
set_option maxRecDepth 100000 in
set_option maxHeartbeats 4000000 in
theorem law_loop {p : Program} {l : Launch} {e : Env} {s : State} {mi : MethodId} {args : Array Value} {below : List Frame} {meth : Method} {c : Code} {Q : State → Prop} {g : mG} {bb L : Nat} {xs : Nat → Int32} (hl : l.stackTraces = false) (o : Ok p l s mi args meth c g cL_law 8 RL) (hX : va_X bb L xs s s.heap) (hbl : bb < s.heap.size) (hbg : bb < g.2.2) (hL : L < 2 ^ 31) (kend : ∀ (xo xp : Nat) (μ' : mM) (z' k' n' : Nat), k' ≤ 727627 → n' ≤ 6918818 → V p l e room_1 s mi args below meth c Q g μ' z' k' n' 129 [(0, .ref bb), (1, .ref xo), (2, .ref xp), (3, .int (nI 110))] [.int (nI 1)]) (xo xp : Nat) : ∀ (d i : Nat) (μ : mM) (z : Nat) (σ : Sg), i + d = 110 → TW g xo xp z μ σ σ → JV i σ → (∀ a e, μ a = some e → a < z) → V p l e room_1 s mi args below meth c Q g μ z (100 + 1000 * i) (1000 + 5000 * i) 18 [(0, .ref bb), (1, .ref xo), (2, .ref xp), (3, .int (nI i))] [] := by
  intro d
  induction d with
  | zero =>
    intro i μ z σ hi hT hJ hlt
    obtain rfl : i = 110 := by omega
    refine v_iload_n 3 o dL_law_18 rfl rfl ?_
    refine v_bipush 110 o dL_law_19 (by decide) ?_
    refine v_icmp_ge_n 119 o dL_law_21 (by decide) (by decide) (by decide) (fun c21 => ?_) (fun c21 => absurd c21 (by omega))
    refine v_aload_n 1 o dL_law_119 rfl rfl ?_
    refine v_aload_n 0 o dL_law_120 rfl rfl ?_
    refine v_bipush 110 o dL_law_121 (by decide) ?_
    refine v_callSX [.ref bb, .int (nI 110)] [.ref xo] o hX hbl hbg dL_law_123 cw_L_195 st_L_cell (l_cell hl (110) (by omega) (by omega) hbg) rfl rfl ⟨Nat.le_of_ble_eq_true rfl, Nat.le_of_ble_eq_true rfl⟩ ⟨by show (100 + 1000 * 110) + 0 ≤ 727627; omega, by show (1000 + 5000 * 110) + 0 ≤ 6918818; omega⟩ (Nat.le_of_ble_eq_true rfl) ?_ (fun _ _ _ _ h => h.elim)
    rintro _ _ _ _ ⟨v, rfl, rfl, rfl⟩
    refine v_st [.int v, .ref xo] rfl ?_
    obtain ⟨B1, τ1, m1, hR1, hF1⟩ := (hT).o hlt
    refine v_callS [.ref xo, .int v] [] o dL_law_126 cw_L_211 st_L_isSo (l_isSo hl hR1 ⟨_, hJ⟩ v) rfl rfl ⟨Nat.le_of_ble_eq_true rfl, Nat.le_of_ble_eq_true rfl⟩ ⟨by show (100 + 1000 * 110) + 0 + 4000 ≤ 727627; omega, by show (1000 + 5000 * 110) + 0 + 24000 ≤ 6918818; omega⟩ (Nat.le_of_ble_eq_true rfl) ?_ (fun _ _ _ _ h => h.elim)
    rintro _ μ8 z8 hz8 rfl
    refine v_st [.int (nI 1)] rfl ?_
    exact kend xo xp _ _ _ _ (Nat.le_of_ble_eq_true rfl) (Nat.le_of_ble_eq_true rfl)
  | succ d ih =>
    intro i μ z σ hi hT hJ hlt
    have K90 : ∀ (v : Int32) (μ' : mM) (z' : Nat) (σ' : Sg), TW g xo xp z' μ' σ' σ' → JV (i + 1) σ' → (∀ a e, μ' a = some e → a < z') → V p l e room_1 s mi args below meth c Q g μ' z' (100 + 1000 * i + 300) (1000 + 5000 * i + 1500) 90 [(0, .ref bb), (1, .ref xo), (2, .ref xp), (3, .int (nI i)), (4, .int v)] [] := by
      intro v μ' z' σ' hTs hJs hlts
      refine v_iload_n 3 o dL_law_90 rfl rfl ?_
      refine v_bipush 36 o dL_law_91 (by decide) ?_
      refine v_irem ((nI i) - (nI i) / (nI 36) * (nI 36)) o dL_law_93 (by decide) rfl ?_
      refine v_bipush 35 o dL_law_94 (by decide) ?_
      refine v_icmp_ne 113 o dL_law_96 (by decide) (fun c96 => ?_) (fun c96 => ?_)
      · refine v_iinc (nI (i + 1)) [(3, .int (nI (i + 1))), (0, .ref bb), (1, .ref xo), (2, .ref xp), (4, .int v)] o dL_law_113 3 rfl (iinc_n i 1) (by decide) rfl ?_
        refine v_goto 18 o dL_law_116 (by decide) ?_
        refine v_sub [(0, .ref bb), (1, .ref xo), (2, .ref xp), (3, .int (nI (i + 1)))] [1, 2, 3, 0] rfl ?_
        exact v_widen (100 + 1000 * (i + 1)) (1000 + 5000 * (i + 1)) (by show (100 + 1000 * i + 300) ≤ 100 + 1000 * (i + 1); omega) (by show (1000 + 5000 * i + 1500) ≤ 1000 + 5000 * (i + 1); omega) (ih (i + 1) _ _ σ' (by omega) hTs hJs hlts)
      · refine v_aload_n 1 o dL_law_99 rfl rfl ?_
        refine v_aload_n 2 o dL_law_100 rfl rfl ?_
        refine v_iload 4 o dL_law_101 rfl ?_
        refine v_iconst 3 o dL_law_103 rfl ?_
        refine v_ishr (v >>> ((nI 3) &&& 31)) o dL_law_104 rfl ?_
        refine v_callS [.ref xo, .ref xp, .int (v >>> ((nI 3) &&& 31))] [] o dL_law_105 cw_L_207 st_L_areAlike (l_areAlike hl hTs hJs.1 hJs.2.1 (v >>> ((nI 3) &&& 31))) rfl rfl ⟨Nat.le_of_ble_eq_true rfl, Nat.le_of_ble_eq_true rfl⟩ ⟨by show (100 + 1000 * i + 300) + 200 ≤ 727627; omega, by show (1000 + 5000 * i + 1500) + 1200 ≤ 6918818; omega⟩ (Nat.le_of_ble_eq_true rfl) ?_ (fun _ _ _ _ h => h.elim)
        rintro _ μ8 z8 hz8 ⟨rfl, hT8⟩
        refine v_lt (fun hlt8 => ?_)
        refine v_st [.int (nI 1)] rfl ?_
        refine v_if_ne_n 113 o dL_law_108 (by decide) (by decide) (fun c108 => ?_) (fun c108 => absurd c108 (by omega))
        refine v_iinc (nI (i + 1)) [(3, .int (nI (i + 1))), (0, .ref bb), (1, .ref xo), (2, .ref xp), (4, .int v)] o dL_law_113 3 rfl (iinc_n i 1) (by decide) rfl ?_
        refine v_goto 18 o dL_law_116 (by decide) ?_
        refine v_sub [(0, .ref bb), (1, .ref xo), (2, .ref xp), (3, .int (nI (i + 1)))] [1, 2, 3, 0] rfl ?_
        exact v_widen (100 + 1000 * (i + 1)) (1000 + 5000 * (i + 1)) (by show (100 + 1000 * i + 300) + 200 ≤ 100 + 1000 * (i + 1); omega) (by show (1000 + 5000 * i + 1500) + 1200 ≤ 1000 + 5000 * (i + 1); omega) (ih (i + 1) _ _ σ' (by omega) hT8 hJs hlt8)
    refine v_iload_n 3 o dL_law_18 rfl rfl ?_
    refine v_bipush 110 o dL_law_19 (by decide) ?_
    refine v_icmp_ge_n 119 o dL_law_21 (by decide) (by omega) (by decide) (fun c21 => absurd c21 (by omega)) (fun c21 => ?_)
    refine v_aload_n 0 o dL_law_24 rfl rfl ?_
    refine v_iload_n 3 o dL_law_25 rfl rfl ?_
    refine v_callSX [.ref bb, .int (nI i)] [] o hX hbl hbg dL_law_26 cw_L_195 st_L_cell (l_cell hl (i) (by omega) (by omega) hbg) rfl rfl ⟨Nat.le_of_ble_eq_true rfl, Nat.le_of_ble_eq_true rfl⟩ ⟨by show (100 + 1000 * i) + 0 ≤ 727627; omega, by show (1000 + 5000 * i) + 0 ≤ 6918818; omega⟩ (Nat.le_of_ble_eq_true rfl) ?_ (fun _ _ _ _ h => h.elim)
    rintro _ _ _ _ ⟨v, rfl, rfl, rfl⟩
    refine v_st [.int v] rfl ?_
    obtain ⟨f, hf, hA⟩ := l_act v
    obtain ⟨hJ1, hB⟩ := hf i σ (by omega) hJ
    refine v_istore [(4, .int v), (0, .ref bb), (1, .ref xo), (2, .ref xp), (3, .int (nI i))] o dL_law_29 (by decide) rfl ?_
    refine v_aload_n 2 o dL_law_31 rfl rfl ?_
    refine v_iload 0 o dL_law_32 rfl ?_
    obtain ⟨B1, τ1, m1, hR1, hF1⟩ := (hT).o hlt
    refine v_callS [.ref xo, .int v] [] o dL_law_34 cw_L_199 st_L_act (hA hl hR1 hJ.1 (Nat.le_refl _)) rfl rfl ⟨Nat.le_of_ble_eq_true rfl, Nat.le_of_ble_eq_true rfl⟩ ⟨by show (100 + 1000 * i) + 0 + 122 ≤ 727627; omega, by show (1000 + 5000 * i) + 0 + 584 ≤ 6918818; omega⟩ (Nat.le_of_ble_eq_true rfl) ?_ (fun _ _ _ _ h => h.elim)
    rintro _ μ1 z1 hz1 ⟨rfl, C1, κ1, hQ1⟩
    refine v_lt (fun hlt1 => ?_)
    have hT1 := hF1 _ _ _ _ _ hlt1 hQ1
    refine v_st [.long ((f σ).1)] rfl ?_
    refine v_lstore [(5, .long ((f σ).1)), (4, .int v), (0, .ref bb), (1, .ref xo), (2, .ref xp), (3, .int (nI i))] o dL_law_37 (by decide) rfl ?_
    rcases bad_cases (f σ).1 with ⟨h1, hb⟩ | ⟨h1, h2, hb⟩ | ⟨h1, h2, h3, hb⟩ | ⟨h1, h2, h3⟩
    · refine v_lload 0 o dL_law_39 rfl ?_
      refine v_ldc2 (-99999999) o dL_law_41 ct_L_203 ?_
      refine v_lcmp o dL_law_44 ?_
      refine v_if_eq_c 66 o dL_law_45 (by decide) (fun c45 => ?_) (fun c45 => absurd c45 (not_not_intro h1))
      refine v_iconst 1 o dL_law_66 rfl ?_
      refine v_goto 71 o dL_law_67 (by decide) ?_
      refine v_istore [(7, .int (nI 1)), (5, .long ((f σ).1)), (4, .int v), (0, .ref bb), (1, .ref xo), (2, .ref xp), (3, .int (nI i))] o dL_law_71 (by decide) rfl ?_
      refine v_iload 0 o dL_law_73 rfl ?_
      refine v_if_ne_n 90 o dL_law_75 (by decide) (by decide) (fun c75 => ?_) (fun c75 => absurd c75 (by omega))
      refine v_sub [(0, .ref bb), (1, .ref xo), (2, .ref xp), (3, .int (nI i)), (4, .int v)] [3, 4, 5, 6, 2] rfl ?_
      exact v_widen (100 + 1000 * i + 300) (1000 + 5000 * i + 1500) (by show (100 + 1000 * i) + 0 + 122 ≤ 100 + 1000 * i + 300; omega) (by show (1000 + 5000 * i) + 0 + 584 ≤ 1000 + 5000 * i + 1500; omega) (K90 v _ _ σ (by rw [hB hb] at hT1; exact hT1) hJ.mono hlt1)
    · refine v_lload 0 o dL_law_39 rfl ?_
      refine v_ldc2 (-99999999) o dL_law_41 ct_L_203 ?_
      refine v_lcmp o dL_law_44 ?_
      refine v_if_eq_c 66 o dL_law_45 (by decide) (fun c45 => absurd c45 h1) (fun c45 => ?_)
      refine v_lload 0 o dL_law_48 rfl ?_
      refine v_ldc2 (-9000000000000000) o dL_law_50 ct_L_52 ?_
      refine v_lcmp o dL_law_53 ?_
      refine v_if_eq_c 66 o dL_law_54 (by decide) (fun c54 => ?_) (fun c54 => absurd c54 (not_not_intro h2))
      refine v_iconst 1 o dL_law_66 rfl ?_
      refine v_goto 71 o dL_law_67 (by decide) ?_
      refine v_istore [(7, .int (nI 1)), (5, .long ((f σ).1)), (4, .int v), (0, .ref bb), (1, .ref xo), (2, .ref xp), (3, .int (nI i))] o dL_law_71 (by decide) rfl ?_
      refine v_iload 0 o dL_law_73 rfl ?_
      refine v_if_ne_n 90 o dL_law_75 (by decide) (by decide) (fun c75 => ?_) (fun c75 => absurd c75 (by omega))
      refine v_sub [(0, .ref bb), (1, .ref xo), (2, .ref xp), (3, .int (nI i)), (4, .int v)] [3, 4, 5, 6, 2] rfl ?_
      exact v_widen (100 + 1000 * i + 300) (1000 + 5000 * i + 1500) (by show (100 + 1000 * i) + 0 + 122 ≤ 100 + 1000 * i + 300; omega) (by show (1000 + 5000 * i) + 0 + 584 ≤ 1000 + 5000 * i + 1500; omega) (K90 v _ _ σ (by rw [hB hb] at hT1; exact hT1) hJ.mono hlt1)
    · refine v_lload 0 o dL_law_39 rfl ?_
      refine v_ldc2 (-99999999) o dL_law_41 ct_L_203 ?_
      refine v_lcmp o dL_law_44 ?_
      refine v_if_eq_c 66 o dL_law_45 (by decide) (fun c45 => absurd c45 h1) (fun c45 => ?_)
      refine v_lload 0 o dL_law_48 rfl ?_
      refine v_ldc2 (-9000000000000000) o dL_law_50 ct_L_52 ?_
      refine v_lcmp o dL_law_53 ?_
      refine v_if_eq_c 66 o dL_law_54 (by decide) (fun c54 => absurd c54 h2) (fun c54 => ?_)
      refine v_lload 0 o dL_law_57 rfl ?_
      refine v_ldc2 (-9000000000) o dL_law_59 ct_L_205 ?_
      refine v_lcmp o dL_law_62 ?_
      refine v_if_ge_c 70 o dL_law_63 (by decide) (fun c63 => absurd c63 (not_not_intro h3)) (fun c63 => ?_)
      refine v_iconst 1 o dL_law_66 rfl ?_
      refine v_goto 71 o dL_law_67 (by decide) ?_
      refine v_istore [(7, .int (nI 1)), (5, .long ((f σ).1)), (4, .int v), (0, .ref bb), (1, .ref xo), (2, .ref xp), (3, .int (nI i))] o dL_law_71 (by decide) rfl ?_
      refine v_iload 0 o dL_law_73 rfl ?_
      refine v_if_ne_n 90 o dL_law_75 (by decide) (by decide) (fun c75 => ?_) (fun c75 => absurd c75 (by omega))
      refine v_sub [(0, .ref bb), (1, .ref xo), (2, .ref xp), (3, .int (nI i)), (4, .int v)] [3, 4, 5, 6, 2] rfl ?_
      exact v_widen (100 + 1000 * i + 300) (1000 + 5000 * i + 1500) (by show (100 + 1000 * i) + 0 + 122 ≤ 100 + 1000 * i + 300; omega) (by show (1000 + 5000 * i) + 0 + 584 ≤ 1000 + 5000 * i + 1500; omega) (K90 v _ _ σ (by rw [hB hb] at hT1; exact hT1) hJ.mono hlt1)
    · refine v_lload 0 o dL_law_39 rfl ?_
      refine v_ldc2 (-99999999) o dL_law_41 ct_L_203 ?_
      refine v_lcmp o dL_law_44 ?_
      refine v_if_eq_c 66 o dL_law_45 (by decide) (fun c45 => absurd c45 h1) (fun c45 => ?_)
      refine v_lload 0 o dL_law_48 rfl ?_
      refine v_ldc2 (-9000000000000000) o dL_law_50 ct_L_52 ?_
      refine v_lcmp o dL_law_53 ?_
      refine v_if_eq_c 66 o dL_law_54 (by decide) (fun c54 => absurd c54 h2) (fun c54 => ?_)
      refine v_lload 0 o dL_law_57 rfl ?_
      refine v_ldc2 (-9000000000) o dL_law_59 ct_L_205 ?_
      refine v_lcmp o dL_law_62 ?_
      refine v_if_ge_c 70 o dL_law_63 (by decide) (fun c63 => ?_) (fun c63 => absurd c63 h3)
      refine v_iconst 0 o dL_law_70 rfl ?_
      refine v_istore [(7, .int (nI 0)), (5, .long ((f σ).1)), (4, .int v), (0, .ref bb), (1, .ref xo), (2, .ref xp), (3, .int (nI i))] o dL_law_71 (by decide) rfl ?_
      refine v_iload 0 o dL_law_73 rfl ?_
      refine v_if_ne_n 90 o dL_law_75 (by decide) (by decide) (fun c75 => absurd c75 (by omega)) (fun c75 => ?_)
      refine v_aload_n 5 o dL_law_78 rfl rfl ?_
      refine v_iload 2 o dL_law_79 rfl ?_
      obtain ⟨B2, τ2, m2, hR2, hF2⟩ := (hT1.sym).o hlt1
      refine v_callS [.ref xp, .int v] [] o dL_law_81 cw_L_199 st_L_act (hA hl hR2 hJ.1 (Nat.le_refl _)) rfl rfl ⟨Nat.le_of_ble_eq_true rfl, Nat.le_of_ble_eq_true rfl⟩ ⟨by show (100 + 1000 * i) + 0 + 122 + 122 ≤ 727627; omega, by show (1000 + 5000 * i) + 0 + 584 + 584 ≤ 6918818; omega⟩ (Nat.le_of_ble_eq_true rfl) ?_ (fun _ _ _ _ h => h.elim)
      rintro _ μ2 z2 hz2 ⟨rfl, C2, κ2, hQ2⟩
      refine v_lt (fun hlt2 => ?_)
      have hT2 := (hF2 _ _ _ _ _ hlt2 hQ2).sym
      refine v_st [.long ((f σ).1)] rfl ?_
      refine v_lload 1 o dL_law_84 rfl ?_
      refine v_lcmp o dL_law_86 ?_
      refine v_if_ne_c 111 o dL_law_87 (by decide) (fun c87 => absurd c87 (not_not_intro rfl)) (fun c87 => ?_)
      refine v_sub [(0, .ref bb), (1, .ref xo), (2, .ref xp), (3, .int (nI i)), (4, .int v)] [3, 4, 5, 6, 2] rfl ?_
      exact v_widen (100 + 1000 * i + 300) (1000 + 5000 * i + 1500) (by show (100 + 1000 * i) + 0 + 122 + 122 ≤ 100 + 1000 * i + 300; omega) (by show (1000 + 5000 * i) + 0 + 584 + 584 ≤ 1000 + 5000 * i + 1500; omega) (K90 v _ _ (f σ).2 hT2 hJ1 hlt2)
set_option maxRecDepth 100000 in
set_option maxHeartbeats 4000000 in
theorem law_start {p : Program} {l : Launch} {e : Env} {s : State} {mi : MethodId} {args : Array Value} {below : List Frame} {meth : Method} {c : Code} {Q : State → Prop} {g : mG} {bb L : Nat} {xs : Nat → Int32} (hl : l.stackTraces = false) (o : Ok p l s mi args meth c g cL_law 8 RL) (hX : va_X bb L xs s s.heap) (hbl : bb < s.heap.size) (hbg : bb < g.2.2) (hL : L < 2 ^ 31) (kend : ∀ (xo xp : Nat) (μ' : mM) (z' k' n' : Nat), k' ≤ 727627 → n' ≤ 6918818 → V p l e room_1 s mi args below meth c Q g μ' z' k' n' 129 [(0, .ref bb), (1, .ref xo), (2, .ref xp), (3, .int (nI 110))] [.int (nI 1)]) {μ : mM} {z : Nat} : V p l e room_1 s mi args below meth c Q g μ z 0 0 0 [(0, .ref bb)] [] := by
  refine v_new [.null, .int 0, .int 0, .null, .null, .null, .null, .int 0, .null] o dL_law_0 cf5 cl_L_9 ins_X5 ini_X5 (fun j hj => by rcases (show j = 0 ∨ j = 1 ∨ j = 2 ∨ j = 3 ∨ j = 4 ∨ j = 5 ∨ j = 6 ∨ j = 7 ∨ j = 8 by omega) with rfl | rfl | rfl | rfl | rfl | rfl | rfl | rfl | rfl <;> rfl) (Nat.le_of_ble_eq_true rfl) (Nat.le_of_ble_eq_true rfl) ?_
  refine v_dup o dL_law_3 rfl ?_
  refine v_callI (b := z) [] [.ref z] o dL_law_4 cw_L_194 rfl im_X5_init (k_init hl CP.start) rfl rfl ⟨Nat.le_of_ble_eq_true rfl, Nat.le_of_ble_eq_true rfl⟩ ⟨Nat.le_of_ble_eq_true rfl, Nat.le_of_ble_eq_true rfl⟩ (Nat.le_of_ble_eq_true rfl) ?_ (fun _ _ _ _ h => h.elim)
  rintro _ μ1 z1 hz1 ⟨rfl, hR, rfl⟩
  refine v_st [.ref z] rfl ?_
  refine v_astore_n [(1, .ref z), (0, .ref bb)] o dL_law_7 rfl (by decide) rfl ?_
  refine v_new [.null, .int 0, .int 0, .null, .null, .null, .null, .int 0, .null] o dL_law_8 cf5 cl_L_9 ins_X5 ini_X5 (fun j hj => by rcases (show j = 0 ∨ j = 1 ∨ j = 2 ∨ j = 3 ∨ j = 4 ∨ j = 5 ∨ j = 6 ∨ j = 7 ∨ j = 8 by omega) with rfl | rfl | rfl | rfl | rfl | rfl | rfl | rfl | rfl <;> rfl) (Nat.le_of_ble_eq_true rfl) (Nat.le_of_ble_eq_true rfl) ?_
  refine v_dup o dL_law_11 rfl ?_
  refine v_callI (b := z + 12) [] [.ref (z + 12)] o dL_law_12 cw_L_194 rfl im_X5_init (k_init hl CP.start) rfl rfl ⟨Nat.le_of_ble_eq_true rfl, Nat.le_of_ble_eq_true rfl⟩ ⟨Nat.le_of_ble_eq_true rfl, Nat.le_of_ble_eq_true rfl⟩ (Nat.le_of_ble_eq_true rfl) ?_ (fun _ _ _ _ h => h.elim)
  rintro _ μ2 z2 hz2 ⟨rfl, hR2, rfl⟩
  refine v_st [.ref (z + 12)] rfl ?_
  refine v_astore_n [(2, .ref (z + 12)), (1, .ref z), (0, .ref bb)] o dL_law_15 rfl (by decide) rfl ?_
  refine v_iconst 0 o dL_law_16 rfl ?_
  refine v_istore_n [(3, .int (nI 0)), (2, .ref (z + 12)), (1, .ref z), (0, .ref bb)] o dL_law_17 rfl (by decide) rfl ?_
  refine v_sub [(0, .ref bb), (1, .ref z), (2, .ref (z + 12)), (3, .int (nI 0))] [3, 2, 1, 0] rfl ?_
  refine v_lt (fun hlt => ?_)
  exact v_widen 100 1000 (Nat.le_of_ble_eq_true rfl) (Nat.le_of_ble_eq_true rfl) (law_loop hl o hX hbl hbg hL kend z (z + 12) 110 0 _ _ σ0 (by omega) (TW.start hR hR2) JV_0 hlt)
