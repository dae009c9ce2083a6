def imgP (σ : Sg) (a : Nat) : Int64 := if σ.2.1 2 a = true then prf (σ.2.2.2 0 a) else 0
def cpyP (σ : Sg) (v a : Nat) : Int64 := if σ.2.1 5 (72 * v + a) = true then prf (σ.2.2.2 1 (72 * v + a)) else 0
set_option maxRecDepth 100000 in
set_option maxHeartbeats 4000000 in
theorem c_proofOf {l : Launch} (hl : l.stackTraces = false) {g : mG} {z : Nat} {μ : mM} (v : Int64) : Ct l g yX2_proofOf [Cond.code yX2_proofOf cX2_proofOf 2 (some .long)] { frames := 0, cells := 0, slots := 0, locals := 0 } [.long v] μ z (rdP (some (.long (prf v))) μ z) (noX) := by
  refine Ct.of hl (by decide +kernel) (Nat.le_of_ble_eq_true rfl) ?_
  intro p e s mi args below meth c o hnm hr hx
  have o : Ok p l s mi args meth c g cX2_proofOf 2 RX2 := o
  refine v_lv [(0, .long v)] rfl ?_
  refine v_lload_n 0 o dX2_proofOf_0 rfl rfl ?_
  refine v_ldc2 (6364136223846793005) o dX2_proofOf_1 ct_X2_72 ?_
  refine v_lmul (v * 6364136223846793005) o dX2_proofOf_4 rfl ?_
  refine v_ldc2 (1442695040888963407) o dX2_proofOf_5 ct_X2_74 ?_
  refine v_ladd ((v * 6364136223846793005) + 1442695040888963407) o dX2_proofOf_8 rfl ?_
  exact v_lret o dX2_proofOf_9 hr (Nat.le_of_ble_eq_true rfl) (Nat.le_of_ble_eq_true rfl) ⟨rfl, rfl, rfl⟩

set_option maxRecDepth 100000 in
set_option maxHeartbeats 4000000 in
theorem c_imageProof {l : Launch} (hl : l.stackTraces = false) {g : mG} {x z z0 : Nat} {B : Nat → Nat} {μ0 μ : mM} {σ τ : Sg} (hR : RC g x B z0 μ0 σ τ μ) (i j : Nat) (hi : i < σ.1 3 0) (hj : j < σ.1 0 i) : Ct l g yX2_imageProof [Cond.code yX2_imageProof cX2_imageProof 1 (some .long)] { frames := 1, cells := 0, slots := 0, locals := 21 } [.ref (pA B i j)] μ z (rdP (some (.long (imgP σ (12 * i + j)))) μ z) (noX) := by
  refine Ct.of hl (by decide +kernel) (Nat.le_of_ble_eq_true rfl) ?_
  intro p e s mi args below meth c o hnm hr hx
  have o : Ok p l s mi args meth c g cX2_imageProof 1 RX2 := o
  refine v_lv [(0, .ref (pA B i j))] rfl ?_
  refine v_aload_n 0 o dX2_imageProof_0 rfl rfl ?_
  refine v_get (v := .int (bI (σ.2.1 2 (12 * i + j)))) o dX2_imageProof_1 cf2 0 (by decide) fl_X2_34 (hR.p0 hi hj) rfl ?_
  refine v_if_eq_b 17 o dX2_imageProof_4 (by decide) (fun c4 => ?_) (fun c4 => ?_)
  · refine v_lconst 0 o dX2_imageProof_17 (by decide) ?_
    exact v_lret o dX2_imageProof_18 hr (Nat.le_of_ble_eq_true rfl) (Nat.le_of_ble_eq_true rfl) ⟨by rw [show imgP σ (12 * i + j) = 0 from if_neg (by rw [c4]; decide)], rfl, rfl⟩
  · refine v_aload_n 0 o dX2_imageProof_7 rfl rfl ?_
    refine v_get (v := .long (σ.2.2.2 0 (12 * i + j))) o dX2_imageProof_8 cf2 3 (by decide) fl_X2_44 (hR.p0 hi hj) rfl ?_
    refine v_callSr (v := .long (prf (σ.2.2.2 0 (12 * i + j)))) [.long (σ.2.2.2 0 (12 * i + j))] [] o dX2_imageProof_11 cw_X2_48 st_X2_proofOf (c_proofOf hl (σ.2.2.2 0 (12 * i + j))) rfl rfl (by decide) ⟨rfl, rfl⟩ (by decide) (Nat.le_of_ble_eq_true rfl) ?_
    refine v_goto 18 o dX2_imageProof_14 (by decide) ?_
    exact v_lret o dX2_imageProof_18 hr (Nat.le_of_ble_eq_true rfl) (Nat.le_of_ble_eq_true rfl) ⟨by rw [show imgP σ (12 * i + j) = prf (σ.2.2.2 0 (12 * i + j)) from if_pos c4], rfl, rfl⟩

set_option maxRecDepth 100000 in
set_option maxHeartbeats 4000000 in
theorem c_copyProof {l : Launch} (hl : l.stackTraces = false) {g : mG} {x z z0 : Nat} {B : Nat → Nat} {μ0 μ : mM} {σ τ : Sg} (hR : RC g x B z0 μ0 σ τ μ) (i j : Nat) (hi : i < σ.1 3 0) (hj : j < σ.1 0 i) (v : Nat) (hv : v < 4) : Ct l g yX2_copyProof [Cond.code yX2_copyProof cX2_copyProof 2 (some .long)] { frames := 1, cells := 0, slots := 0, locals := 21 } [.ref (pA B i j), .int (nI v)] μ z (rdP (some (.long (cpyP σ v (12 * i + j)))) μ z) (noX) := by
  refine Ct.of hl (by decide +kernel) (Nat.le_of_ble_eq_true rfl) ?_
  intro p e s mi args below meth c o hnm hr hx
  have o : Ok p l s mi args meth c g cX2_copyProof 2 RX2 := o
  refine v_lv [(0, .ref (pA B i j)), (1, .int (nI v))] rfl ?_
  refine v_aload_n 0 o dX2_copyProof_0 rfl rfl ?_
  refine v_get (v := .ref (pA B i j + 1)) o dX2_copyProof_1 cf2 4 (by decide) fl_X2_9 (hR.p0 hi hj) rfl ?_
  refine v_iload_n 1 o dX2_copyProof_4 rfl rfl ?_
  refine v_zald (bI (σ.2.1 5 (72 * v + (12 * i + j)))) o dX2_copyProof_5 (by omega) (by decide) (hR.p1 hi hj) ((rs_lt (by omega)).trans rfl) ?_
  refine v_if_eq_b 21 o dX2_copyProof_6 (by decide) (fun c6 => ?_) (fun c6 => ?_)
  · refine v_lconst 0 o dX2_copyProof_21 (by decide) ?_
    exact v_lret o dX2_copyProof_22 hr (Nat.le_of_ble_eq_true rfl) (Nat.le_of_ble_eq_true rfl) ⟨by rw [show cpyP σ v (12 * i + j) = 0 from if_neg (by rw [c6]; decide)], rfl, rfl⟩
  · refine v_aload_n 0 o dX2_copyProof_9 rfl rfl ?_
    refine v_get (v := .ref (pA B i j + 2)) o dX2_copyProof_10 cf2 5 (by decide) fl_X2_15 (hR.p0 hi hj) rfl ?_
    refine v_iload_n 1 o dX2_copyProof_13 rfl rfl ?_
    refine v_lald (σ.2.2.2 1 (72 * v + (12 * i + j))) o dX2_copyProof_14 (by omega) (by decide) (hR.p2 hi hj) ((rs_lt (by omega)).trans rfl) ?_
    refine v_callSr (v := .long (prf (σ.2.2.2 1 (72 * v + (12 * i + j))))) [.long (σ.2.2.2 1 (72 * v + (12 * i + j)))] [] o dX2_copyProof_15 cw_X2_48 st_X2_proofOf (c_proofOf hl (σ.2.2.2 1 (72 * v + (12 * i + j)))) rfl rfl (by decide) ⟨rfl, rfl⟩ (by decide) (Nat.le_of_ble_eq_true rfl) ?_
    refine v_goto 22 o dX2_copyProof_18 (by decide) ?_
    exact v_lret o dX2_copyProof_22 hr (Nat.le_of_ble_eq_true rfl) (Nat.le_of_ble_eq_true rfl) ⟨by rw [show cpyP σ v (12 * i + j) = prf (σ.2.2.2 1 (72 * v + (12 * i + j))) from if_pos c6], rfl, rfl⟩

set_option maxRecDepth 100000 in
set_option maxHeartbeats 4000000 in
theorem c_holdsIn {l : Launch} (hl : l.stackTraces = false) {g : mG} {x z z0 : Nat} {B : Nat → Nat} {μ0 μ : mM} {σ τ : Sg} (hR : RC g x B z0 μ0 σ τ μ) (i j : Nat) (hi : i < σ.1 3 0) (hj : j < σ.1 0 i) (v : Nat) (hv : v < 4) : Ct l g yX2_holdsIn [Cond.code yX2_holdsIn cX2_holdsIn 2 (some .boolean)] { frames := 2, cells := 0, slots := 0, locals := 42 } [.ref (pA B i j), .int (nI v)] μ z (rdP (some (.int (bI (hb σ v (12 * i + j))))) μ z) (noX) := by
  refine Ct.of hl (by decide +kernel) (Nat.le_of_ble_eq_true rfl) ?_
  intro p e s mi args below meth c o hnm hr hx
  have o : Ok p l s mi args meth c g cX2_holdsIn 2 RX2 := o
  refine v_lv [(0, .ref (pA B i j)), (1, .int (nI v))] rfl ?_
  refine v_aload_n 0 o dX2_holdsIn_0 rfl rfl ?_
  refine v_get (v := .int (bI (σ.2.1 2 (12 * i + j)))) o dX2_holdsIn_1 cf2 0 (by decide) fl_X2_34 (hR.p0 hi hj) rfl ?_
  refine v_if_eq_b 33 o dX2_holdsIn_4 (by decide) (fun c4 => ?_) (fun c4 => ?_)
  · refine v_iconst 0 o dX2_holdsIn_33 rfl ?_
    exact v_zret o dX2_holdsIn_34 hr (by decide) (Nat.le_of_ble_eq_true rfl) (Nat.le_of_ble_eq_true rfl) ⟨by rw [show hb σ v (12 * i + j) = false by simp [hb, c4]]; rfl, rfl, rfl⟩
  · refine v_aload_n 0 o dX2_holdsIn_7 rfl rfl ?_
    refine v_get (v := .ref (pA B i j + 1)) o dX2_holdsIn_8 cf2 4 (by decide) fl_X2_9 (hR.p0 hi hj) rfl ?_
    refine v_iload_n 1 o dX2_holdsIn_11 rfl rfl ?_
    refine v_zald (bI (σ.2.1 5 (72 * v + (12 * i + j)))) o dX2_holdsIn_12 (by omega) (by decide) (hR.p1 hi hj) ((rs_lt (by omega)).trans rfl) ?_
    refine v_if_eq_b 33 o dX2_holdsIn_13 (by decide) (fun c13 => ?_) (fun c13 => ?_)
    · refine v_iconst 0 o dX2_holdsIn_33 rfl ?_
      exact v_zret o dX2_holdsIn_34 hr (by decide) (Nat.le_of_ble_eq_true rfl) (Nat.le_of_ble_eq_true rfl) ⟨by rw [show hb σ v (12 * i + j) = false by simp [hb, c4, c13]]; rfl, rfl, rfl⟩
    · refine v_aload_n 0 o dX2_holdsIn_16 rfl rfl ?_
      refine v_iload_n 1 o dX2_holdsIn_17 rfl rfl ?_
      refine v_callVr (v := .long (cpyP σ v (12 * i + j))) [.int (nI v)] [] o dX2_holdsIn_18 cw_X2_52 im_X2_copyProof se_X2_copyProof cf2 (hR.p0 hi hj) (c_copyProof hl hR i j hi hj v (by omega)) rfl rfl (by decide) ⟨rfl, rfl⟩ (by decide) (Nat.le_of_ble_eq_true rfl) ?_
      refine v_aload_n 0 o dX2_holdsIn_21 rfl rfl ?_
      refine v_callVr (v := .long (imgP σ (12 * i + j))) [] [.long (cpyP σ v (12 * i + j))] o dX2_holdsIn_22 cw_X2_56 im_X2_imageProof se_X2_imageProof cf2 (hR.p0 hi hj) (c_imageProof hl hR i j hi hj) rfl rfl (by decide) ⟨rfl, rfl⟩ (by decide) (Nat.le_of_ble_eq_true rfl) ?_
      refine v_lcmp o dX2_holdsIn_25 ?_
      refine v_if_ne_c 33 o dX2_holdsIn_26 (by decide) (fun c26 => ?_) (fun c26 => ?_)
      · refine v_iconst 0 o dX2_holdsIn_33 rfl ?_
        exact v_zret o dX2_holdsIn_34 hr (by decide) (Nat.le_of_ble_eq_true rfl) (Nat.le_of_ble_eq_true rfl) ⟨by have c26x := c26; rw [show cpyP σ v (12 * i + j) = prf (σ.2.2.2 1 (72 * v + (12 * i + j))) from if_pos c13, show imgP σ (12 * i + j) = prf (σ.2.2.2 0 (12 * i + j)) from if_pos c4] at c26x; rw [show hb σ v (12 * i + j) = false by simp [hb, c4, c13, c26x]]; rfl, rfl, rfl⟩
      · refine v_iconst 1 o dX2_holdsIn_29 rfl ?_
        refine v_goto 34 o dX2_holdsIn_30 (by decide) ?_
        exact v_zret o dX2_holdsIn_34 hr (by decide) (Nat.le_of_ble_eq_true rfl) (Nat.le_of_ble_eq_true rfl) ⟨by have c26x := c26; rw [show cpyP σ v (12 * i + j) = prf (σ.2.2.2 1 (72 * v + (12 * i + j))) from if_pos c13, show imgP σ (12 * i + j) = prf (σ.2.2.2 0 (12 * i + j)) from if_pos c4] at c26x; rw [show hb σ v (12 * i + j) = true by simp [hb, c4, c13, c26x]]; rfl, rfl, rfl⟩

set_option maxRecDepth 100000 in
set_option maxHeartbeats 4000000 in
theorem c_lowest {l : Launch} (hl : l.stackTraces = false) {g : mG} {x z z0 : Nat} {B : Nat → Nat} {μ0 μ : mM} {σ τ : Sg} (hR : RC g x B z0 μ0 σ τ μ) (i j : Nat) (hi : i < σ.1 3 0) (hj : j < σ.1 0 i) : Ct l g yX2_lowestVaultThatHolds [Cond.code yX2_lowestVaultThatHolds cX2_lowestVaultThatHolds 2 (some .int)] { frames := 3, cells := 0, slots := 0, locals := 63 } [.ref (pA B i j)] μ z (rdP (some (.int (mI (lowest σ (12 * i + j))))) μ z) (noX) := by
  refine Ct.of hl (by decide +kernel) (Nat.le_of_ble_eq_true rfl) ?_
  intro p e s mi args below meth c o hnm hr hx
  have o : Ok p l s mi args meth c g cX2_lowestVaultThatHolds 2 RX2 := o
  refine v_lv [(0, .ref (pA B i j))] rfl ?_
  have L4 : lowest σ (12 * i + j) = low (fun v => hb σ v (12 * i + j)) 0 4 → V p l e { frames := 3, cells := 0, slots := 0, locals := 63 } s mi args below meth c (vx_MQ below (cQc g (rdP (some (.int (mI (lowest σ (12 * i + j))))) μ z)) (cXC g (noX)) args s ({ frames := 3, cells := 0, slots := 0, locals := 63 } : Room).cells ({ frames := 3, cells := 0, slots := 0, locals := 63 } : Room).slots (gA g)) g μ z 0 0 2 [(0, .ref (pA B i j)), (1, .int (nI 4))] [] := by
    intro hL
    refine v_iload_n 1 o dX2_lowestVaultThatHolds_2 rfl rfl ?_
    refine v_iconst 4 o dX2_lowestVaultThatHolds_3 rfl ?_
    refine v_icmp_ge_n 23 o dX2_lowestVaultThatHolds_4 (by decide) (by decide) (by decide) (fun c4 => ?_) (fun c4 => absurd c4 (by omega))
    refine v_iconst_i (-1) o dX2_lowestVaultThatHolds_23 (by decide) ?_
    exact v_iret o dX2_lowestVaultThatHolds_24 hr (Nat.le_of_ble_eq_true rfl) (Nat.le_of_ble_eq_true rfl) ⟨by rw [hL]; exact congrArg (fun q => some (Value.int q)) mI_0.symm, rfl, rfl⟩
  have L3 : lowest σ (12 * i + j) = low (fun v => hb σ v (12 * i + j)) 1 3 → V p l e { frames := 3, cells := 0, slots := 0, locals := 63 } s mi args below meth c (vx_MQ below (cQc g (rdP (some (.int (mI (lowest σ (12 * i + j))))) μ z)) (cXC g (noX)) args s ({ frames := 3, cells := 0, slots := 0, locals := 63 } : Room).cells ({ frames := 3, cells := 0, slots := 0, locals := 63 } : Room).slots (gA g)) g μ z 0 0 2 [(0, .ref (pA B i j)), (1, .int (nI 3))] [] := by
    intro hL
    refine v_iload_n 1 o dX2_lowestVaultThatHolds_2 rfl rfl ?_
    refine v_iconst 4 o dX2_lowestVaultThatHolds_3 rfl ?_
    refine v_icmp_ge_n 23 o dX2_lowestVaultThatHolds_4 (by decide) (by decide) (by decide) (fun c4 => absurd c4 (by omega)) (fun c4 => ?_)
    refine v_aload_n 0 o dX2_lowestVaultThatHolds_7 rfl rfl ?_
    refine v_iload_n 1 o dX2_lowestVaultThatHolds_8 rfl rfl ?_
    refine v_callVr (v := .int (bI (hb σ 3 (12 * i + j)))) [.int (nI 3)] [] o dX2_lowestVaultThatHolds_9 cw_X2_64 im_X2_holdsIn se_X2_holdsIn cf2 (hR.p0 hi hj) (c_holdsIn hl hR i j hi hj 3 (by omega)) rfl rfl (by decide) ⟨rfl, rfl⟩ (by decide) (Nat.le_of_ble_eq_true rfl) ?_
    refine v_if_eq_b 17 o dX2_lowestVaultThatHolds_12 (by decide) (fun c12 => ?_) (fun c12 => ?_)
    · refine v_iinc (nI 4) [(1, .int (nI 4)), (0, .ref (pA B i j))] o dX2_lowestVaultThatHolds_17 1 rfl (by decide) (by decide) rfl ?_
      refine v_goto 2 o dX2_lowestVaultThatHolds_20 (by decide) ?_
      refine v_sub [(0, .ref (pA B i j)), (1, .int (nI 4))] [1, 0] rfl ?_
      exact L4 (hL.trans (low_f (f := (fun v => hb σ v (12 * i + j))) (r := 0) (d := 3) c12))
    · refine v_iload_n 1 o dX2_lowestVaultThatHolds_15 rfl rfl ?_
      exact v_iret o dX2_lowestVaultThatHolds_16 hr (Nat.le_of_ble_eq_true rfl) (Nat.le_of_ble_eq_true rfl) ⟨by rw [hL, low_t (f := (fun v => hb σ v (12 * i + j))) (r := 0) (d := 3) c12], rfl, rfl⟩
  have L2 : lowest σ (12 * i + j) = low (fun v => hb σ v (12 * i + j)) 2 2 → V p l e { frames := 3, cells := 0, slots := 0, locals := 63 } s mi args below meth c (vx_MQ below (cQc g (rdP (some (.int (mI (lowest σ (12 * i + j))))) μ z)) (cXC g (noX)) args s ({ frames := 3, cells := 0, slots := 0, locals := 63 } : Room).cells ({ frames := 3, cells := 0, slots := 0, locals := 63 } : Room).slots (gA g)) g μ z 0 0 2 [(0, .ref (pA B i j)), (1, .int (nI 2))] [] := by
    intro hL
    refine v_iload_n 1 o dX2_lowestVaultThatHolds_2 rfl rfl ?_
    refine v_iconst 4 o dX2_lowestVaultThatHolds_3 rfl ?_
    refine v_icmp_ge_n 23 o dX2_lowestVaultThatHolds_4 (by decide) (by decide) (by decide) (fun c4 => absurd c4 (by omega)) (fun c4 => ?_)
    refine v_aload_n 0 o dX2_lowestVaultThatHolds_7 rfl rfl ?_
    refine v_iload_n 1 o dX2_lowestVaultThatHolds_8 rfl rfl ?_
    refine v_callVr (v := .int (bI (hb σ 2 (12 * i + j)))) [.int (nI 2)] [] o dX2_lowestVaultThatHolds_9 cw_X2_64 im_X2_holdsIn se_X2_holdsIn cf2 (hR.p0 hi hj) (c_holdsIn hl hR i j hi hj 2 (by omega)) rfl rfl (by decide) ⟨rfl, rfl⟩ (by decide) (Nat.le_of_ble_eq_true rfl) ?_
    refine v_if_eq_b 17 o dX2_lowestVaultThatHolds_12 (by decide) (fun c12 => ?_) (fun c12 => ?_)
    · refine v_iinc (nI 3) [(1, .int (nI 3)), (0, .ref (pA B i j))] o dX2_lowestVaultThatHolds_17 1 rfl (by decide) (by decide) rfl ?_
      refine v_goto 2 o dX2_lowestVaultThatHolds_20 (by decide) ?_
      refine v_sub [(0, .ref (pA B i j)), (1, .int (nI 3))] [1, 0] rfl ?_
      exact L3 (hL.trans (low_f (f := (fun v => hb σ v (12 * i + j))) (r := 1) (d := 2) c12))
    · refine v_iload_n 1 o dX2_lowestVaultThatHolds_15 rfl rfl ?_
      exact v_iret o dX2_lowestVaultThatHolds_16 hr (Nat.le_of_ble_eq_true rfl) (Nat.le_of_ble_eq_true rfl) ⟨by rw [hL, low_t (f := (fun v => hb σ v (12 * i + j))) (r := 1) (d := 2) c12], rfl, rfl⟩
  have L1 : lowest σ (12 * i + j) = low (fun v => hb σ v (12 * i + j)) 3 1 → V p l e { frames := 3, cells := 0, slots := 0, locals := 63 } s mi args below meth c (vx_MQ below (cQc g (rdP (some (.int (mI (lowest σ (12 * i + j))))) μ z)) (cXC g (noX)) args s ({ frames := 3, cells := 0, slots := 0, locals := 63 } : Room).cells ({ frames := 3, cells := 0, slots := 0, locals := 63 } : Room).slots (gA g)) g μ z 0 0 2 [(0, .ref (pA B i j)), (1, .int (nI 1))] [] := by
    intro hL
    refine v_iload_n 1 o dX2_lowestVaultThatHolds_2 rfl rfl ?_
    refine v_iconst 4 o dX2_lowestVaultThatHolds_3 rfl ?_
    refine v_icmp_ge_n 23 o dX2_lowestVaultThatHolds_4 (by decide) (by decide) (by decide) (fun c4 => absurd c4 (by omega)) (fun c4 => ?_)
    refine v_aload_n 0 o dX2_lowestVaultThatHolds_7 rfl rfl ?_
    refine v_iload_n 1 o dX2_lowestVaultThatHolds_8 rfl rfl ?_
    refine v_callVr (v := .int (bI (hb σ 1 (12 * i + j)))) [.int (nI 1)] [] o dX2_lowestVaultThatHolds_9 cw_X2_64 im_X2_holdsIn se_X2_holdsIn cf2 (hR.p0 hi hj) (c_holdsIn hl hR i j hi hj 1 (by omega)) rfl rfl (by decide) ⟨rfl, rfl⟩ (by decide) (Nat.le_of_ble_eq_true rfl) ?_
    refine v_if_eq_b 17 o dX2_lowestVaultThatHolds_12 (by decide) (fun c12 => ?_) (fun c12 => ?_)
    · refine v_iinc (nI 2) [(1, .int (nI 2)), (0, .ref (pA B i j))] o dX2_lowestVaultThatHolds_17 1 rfl (by decide) (by decide) rfl ?_
      refine v_goto 2 o dX2_lowestVaultThatHolds_20 (by decide) ?_
      refine v_sub [(0, .ref (pA B i j)), (1, .int (nI 2))] [1, 0] rfl ?_
      exact L2 (hL.trans (low_f (f := (fun v => hb σ v (12 * i + j))) (r := 2) (d := 1) c12))
    · refine v_iload_n 1 o dX2_lowestVaultThatHolds_15 rfl rfl ?_
      exact v_iret o dX2_lowestVaultThatHolds_16 hr (Nat.le_of_ble_eq_true rfl) (Nat.le_of_ble_eq_true rfl) ⟨by rw [hL, low_t (f := (fun v => hb σ v (12 * i + j))) (r := 2) (d := 1) c12], rfl, rfl⟩
  have L0 : lowest σ (12 * i + j) = low (fun v => hb σ v (12 * i + j)) 4 0 → V p l e { frames := 3, cells := 0, slots := 0, locals := 63 } s mi args below meth c (vx_MQ below (cQc g (rdP (some (.int (mI (lowest σ (12 * i + j))))) μ z)) (cXC g (noX)) args s ({ frames := 3, cells := 0, slots := 0, locals := 63 } : Room).cells ({ frames := 3, cells := 0, slots := 0, locals := 63 } : Room).slots (gA g)) g μ z 0 0 2 [(0, .ref (pA B i j)), (1, .int (nI 0))] [] := by
    intro hL
    refine v_iload_n 1 o dX2_lowestVaultThatHolds_2 rfl rfl ?_
    refine v_iconst 4 o dX2_lowestVaultThatHolds_3 rfl ?_
    refine v_icmp_ge_n 23 o dX2_lowestVaultThatHolds_4 (by decide) (by decide) (by decide) (fun c4 => absurd c4 (by omega)) (fun c4 => ?_)
    refine v_aload_n 0 o dX2_lowestVaultThatHolds_7 rfl rfl ?_
    refine v_iload_n 1 o dX2_lowestVaultThatHolds_8 rfl rfl ?_
    refine v_callVr (v := .int (bI (hb σ 0 (12 * i + j)))) [.int (nI 0)] [] o dX2_lowestVaultThatHolds_9 cw_X2_64 im_X2_holdsIn se_X2_holdsIn cf2 (hR.p0 hi hj) (c_holdsIn hl hR i j hi hj 0 (by omega)) rfl rfl (by decide) ⟨rfl, rfl⟩ (by decide) (Nat.le_of_ble_eq_true rfl) ?_
    refine v_if_eq_b 17 o dX2_lowestVaultThatHolds_12 (by decide) (fun c12 => ?_) (fun c12 => ?_)
    · refine v_iinc (nI 1) [(1, .int (nI 1)), (0, .ref (pA B i j))] o dX2_lowestVaultThatHolds_17 1 rfl (by decide) (by decide) rfl ?_
      refine v_goto 2 o dX2_lowestVaultThatHolds_20 (by decide) ?_
      refine v_sub [(0, .ref (pA B i j)), (1, .int (nI 1))] [1, 0] rfl ?_
      exact L1 (hL.trans (low_f (f := (fun v => hb σ v (12 * i + j))) (r := 3) (d := 0) c12))
    · refine v_iload_n 1 o dX2_lowestVaultThatHolds_15 rfl rfl ?_
      exact v_iret o dX2_lowestVaultThatHolds_16 hr (Nat.le_of_ble_eq_true rfl) (Nat.le_of_ble_eq_true rfl) ⟨by rw [hL, low_t (f := (fun v => hb σ v (12 * i + j))) (r := 3) (d := 0) c12], rfl, rfl⟩
  refine v_iconst 0 o dX2_lowestVaultThatHolds_0 rfl ?_
  refine v_istore_n [(1, .int (nI 0)), (0, .ref (pA B i j))] o dX2_lowestVaultThatHolds_1 rfl (by decide) rfl ?_
  refine v_sub [(0, .ref (pA B i j)), (1, .int (nI 0))] [1, 0] rfl ?_
  exact L0 rfl

set_option maxRecDepth 100000 in
set_option maxHeartbeats 4000000 in
theorem c_lost {l : Launch} (hl : l.stackTraces = false) {g : mG} {x z z0 : Nat} {B : Nat → Nat} {μ0 μ : mM} {σ τ : Sg} (hR : RC g x B z0 μ0 σ τ μ) (i j : Nat) (hi : i < σ.1 3 0) (hj : j < σ.1 0 i) : Ct l g yX2_hasNoCopyLeft [Cond.code yX2_hasNoCopyLeft cX2_hasNoCopyLeft 1 (some .boolean)] { frames := 4, cells := 0, slots := 0, locals := 84 } [.ref (pA B i j)] μ z (rdP (some (.int (bI (lostB σ (12 * i + j))))) μ z) (noX) := by
  refine Ct.of hl (by decide +kernel) (Nat.le_of_ble_eq_true rfl) ?_
  intro p e s mi args below meth c o hnm hr hx
  have o : Ok p l s mi args meth c g cX2_hasNoCopyLeft 1 RX2 := o
  refine v_lv [(0, .ref (pA B i j))] rfl ?_
  refine v_aload_n 0 o dX2_hasNoCopyLeft_0 rfl rfl ?_
  refine v_get (v := .int (bI (σ.2.1 2 (12 * i + j)))) o dX2_hasNoCopyLeft_1 cf2 0 (by decide) fl_X2_34 (hR.p0 hi hj) rfl ?_
  refine v_if_eq_b 19 o dX2_hasNoCopyLeft_4 (by decide) (fun c4 => ?_) (fun c4 => ?_)
  · refine v_iconst 0 o dX2_hasNoCopyLeft_19 rfl ?_
    exact v_zret o dX2_hasNoCopyLeft_20 hr (by decide) (Nat.le_of_ble_eq_true rfl) (Nat.le_of_ble_eq_true rfl) ⟨by rw [show lostB σ (12 * i + j) = false by simp [lostB, c4]]; rfl, rfl, rfl⟩
  · refine v_aload_n 0 o dX2_hasNoCopyLeft_7 rfl rfl ?_
    refine v_callVr (v := .int (mI (lowest σ (12 * i + j)))) [] [] o dX2_hasNoCopyLeft_8 cw_X2_60 im_X2_lowestVaultThatHolds se_X2_lowestVaultThatHolds cf2 (hR.p0 hi hj) (c_lowest hl hR i j hi hj) rfl rfl (by decide) ⟨rfl, rfl⟩ (by decide) (Nat.le_of_ble_eq_true rfl) ?_
    refine v_iconst_i (-1) o dX2_hasNoCopyLeft_11 (by decide) ?_
    refine v_icmp_ne 19 o dX2_hasNoCopyLeft_12 (by decide) (fun c12 => ?_) (fun c12 => ?_)
    · refine v_iconst 0 o dX2_hasNoCopyLeft_19 rfl ?_
      exact v_zret o dX2_hasNoCopyLeft_20 hr (by decide) (Nat.le_of_ble_eq_true rfl) (Nat.le_of_ble_eq_true rfl) ⟨by rw [show lostB σ (12 * i + j) = false by unfold lostB; rw [c4, decide_eq_false (fun q => c12 ((mI_ne (Nat.lt_of_le_of_lt (lowest_le σ (12 * i + j)) (by decide))).mpr q))]; rfl]; rfl, rfl, rfl⟩
    · refine v_iconst 1 o dX2_hasNoCopyLeft_15 rfl ?_
      refine v_goto 20 o dX2_hasNoCopyLeft_16 (by decide) ?_
      exact v_zret o dX2_hasNoCopyLeft_20 hr (by decide) (Nat.le_of_ble_eq_true rfl) (Nat.le_of_ble_eq_true rfl) ⟨by rw [show lostB σ (12 * i + j) = true by unfold lostB; rw [c4, decide_eq_true ((mI_ne (Nat.lt_of_le_of_lt (lowest_le σ (12 * i + j)) (by decide))).mp c12)]; rfl]; rfl, rfl, rfl⟩

set_option maxRecDepth 100000 in
set_option maxHeartbeats 4000000 in
theorem c_putCopy {l : Launch} (hl : l.stackTraces = false) {g : mG} {x z z0 : Nat} {B : Nat → Nat} {μ0 μ : mM} {σ τ : Sg} (hR : RC g x B z0 μ0 σ τ μ) (i j : Nat) (hi : i < σ.1 3 0) (hj : j < σ.1 0 i) (v : Nat) (hv : v < 4) (y : Int64) : Ct l g yX2_putCopy [Cond.code yX2_putCopy cX2_putCopy 4 none] { frames := 0, cells := 0, slots := 0, locals := 0 } [.ref (pA B i j), .int (nI v), .long y] μ z (wrC g x B z0 μ0 (none) (uL (uB σ 5 (72 * v + (12 * i + j)) true) 1 (72 * v + (12 * i + j)) y) (τ) z) (noX) := by
  refine Ct.of hl (by decide +kernel) (Nat.le_of_ble_eq_true rfl) ?_
  intro p e s mi args below meth c o hnm hr hx
  have o : Ok p l s mi args meth c g cX2_putCopy 4 RX2 := o
  refine v_lv [(0, .ref (pA B i j)), (1, .int (nI v)), (2, .long y)] rfl ?_
  refine v_aload_n 0 o dX2_putCopy_0 rfl rfl ?_
  refine v_get (v := .ref (pA B i j + 1)) o dX2_putCopy_1 cf2 4 (by decide) fl_X2_9 (hR.p0 hi hj) rfl ?_
  refine v_iload_n 1 o dX2_putCopy_4 rfl rfl ?_
  refine v_iconst 1 o dX2_putCopy_5 rfl ?_
  refine v_top (bI true) rfl ?_
  refine v_zast o dX2_putCopy_6 (by omega) (by decide) (nar_bI _) (hR.p1 hi hj) (fun μ1 e1 => ?_)
  have hR1 := hR.u_hc (k0 := v) hi hj (by omega) (v := true) e1
  refine v_aload_n 0 o dX2_putCopy_7 rfl rfl ?_
  refine v_get (v := .ref (pA B i j + 2)) o dX2_putCopy_8 cf2 5 (by decide) fl_X2_15 (hR1.p0 hi hj) rfl ?_
  refine v_iload_n 1 o dX2_putCopy_11 rfl rfl ?_
  refine v_lload_n 2 o dX2_putCopy_12 rfl rfl ?_
  refine v_last o dX2_putCopy_13 (by omega) (by decide) (hR1.p2 hi hj) (fun μ2 e2 => ?_)
  have hR2 := hR1.u_cp (k0 := v) hi hj (by omega) (v := y) e2
  exact v_vret o dX2_putCopy_14 hr (Nat.le_of_ble_eq_true rfl) (Nat.le_of_ble_eq_true rfl) ⟨rfl, hR2, rfl⟩

set_option maxRecDepth 100000 in
set_option maxHeartbeats 4000000 in
theorem c_takeShot {l : Launch} (hl : l.stackTraces = false) {g : mG} {x z z0 : Nat} {B : Nat → Nat} {μ0 μ : mM} {σ τ : Sg} (hR : RC g x B z0 μ0 σ τ μ) (i j : Nat) (hi : i < σ.1 3 0) (hj : j < σ.1 0 i) (y : Int64) (u : Bool) : Ct l g yX2_takeShot [Cond.code yX2_takeShot cX2_takeShot 4 none] { frames := 0, cells := 0, slots := 0, locals := 0 } [.ref (pA B i j), .long y, .int (bI u)] μ z (wrC g x B z0 μ0 (none) (uL (uB (uB (uB σ 2 (12 * i + j) true) 3 (12 * i + j) u) 4 (12 * i + j) false) 0 (12 * i + j) y) (τ) z) (noX) := by
  refine Ct.of hl (by decide +kernel) (Nat.le_of_ble_eq_true rfl) ?_
  intro p e s mi args below meth c o hnm hr hx
  have o : Ok p l s mi args meth c g cX2_takeShot 4 RX2 := o
  refine v_lv [(0, .ref (pA B i j)), (1, .long y), (3, .int (bI u))] rfl ?_
  refine v_aload_n 0 o dX2_takeShot_0 rfl rfl ?_
  refine v_iconst 1 o dX2_takeShot_1 rfl ?_
  refine v_top (bI true) rfl ?_
  refine v_put _ o dX2_takeShot_2 cf2 0 (by decide) (by decide) fl_X2_34 (hR.p0 hi hj) (narrow_bI _) (fits_bI _) (Nat.le_of_ble_eq_true rfl) rfl (fun μ1 e1 => ?_)
  have hR1 := hR.u_hasShot hi hj (v := true) e1
  refine v_aload_n 0 o dX2_takeShot_5 rfl rfl ?_
  refine v_iload_n 2 o dX2_takeShot_6 rfl rfl ?_
  refine v_put _ o dX2_takeShot_7 cf2 1 (by decide) (by decide) fl_X2_38 (hR1.p0 hi hj) (narrow_bI _) (fits_bI _) (Nat.le_of_ble_eq_true rfl) rfl (fun μ2 e2 => ?_)
  have hR2 := hR1.u_blurred hi hj (v := u) e2
  refine v_aload_n 0 o dX2_takeShot_10 rfl rfl ?_
  refine v_iconst 0 o dX2_takeShot_11 rfl ?_
  refine v_top (bI false) rfl ?_
  refine v_put _ o dX2_takeShot_12 cf2 2 (by decide) (by decide) fl_X2_41 (hR2.p0 hi hj) (narrow_bI _) (fits_bI _) (Nat.le_of_ble_eq_true rfl) rfl (fun μ3 e3 => ?_)
  have hR3 := hR2.u_faulty hi hj (v := false) e3
  refine v_aload_n 0 o dX2_takeShot_15 rfl rfl ?_
  refine v_lload_n 1 o dX2_takeShot_16 rfl rfl ?_
  refine v_put _ o dX2_takeShot_17 cf2 3 (by decide) (by decide) fl_X2_44 (hR3.p0 hi hj) rfl rfl (Nat.le_of_ble_eq_true rfl) rfl (fun μ4 e4 => ?_)
  have hR4 := hR3.u_image hi hj (v := y) e4
  exact v_vret o dX2_takeShot_20 hr (Nat.le_of_ble_eq_true rfl) (Nat.le_of_ble_eq_true rfl) ⟨rfl, hR4, rfl⟩

set_option maxRecDepth 100000 in
set_option maxHeartbeats 4000000 in
theorem c_flipBit {l : Launch} (hl : l.stackTraces = false) {g : mG} {x z z0 : Nat} {B : Nat → Nat} {μ0 μ : mM} {σ τ : Sg} (hR : RC g x B z0 μ0 σ τ μ) (i j : Nat) (hi : i < σ.1 3 0) (hj : j < σ.1 0 i) (v : Nat) (hv : v < 4) (y : Int32) : Ct l g yX2_flipBit [Cond.code yX2_flipBit cX2_flipBit 3 none] { frames := 0, cells := 0, slots := 0, locals := 0 } [.ref (pA B i j), .int (nI v), .int y] μ z (wrC g x B z0 μ0 (none) (uL σ 1 (72 * v + (12 * i + j)) (rotL (σ.2.2.2 1 (72 * v + (12 * i + j))) y)) (τ) z) (noX) := by
  refine Ct.of hl (by decide +kernel) (Nat.le_of_ble_eq_true rfl) ?_
  intro p e s mi args below meth c o hnm hr hx
  have o : Ok p l s mi args meth c g cX2_flipBit 3 RX2 := o
  refine v_lv [(0, .ref (pA B i j)), (1, .int (nI v)), (2, .int y)] rfl ?_
  refine v_aload_n 0 o dX2_flipBit_0 rfl rfl ?_
  refine v_get (v := .ref (pA B i j + 2)) o dX2_flipBit_1 cf2 5 (by decide) fl_X2_15 (hR.p0 hi hj) rfl ?_
  refine v_iload_n 1 o dX2_flipBit_4 rfl rfl ?_
  refine v_dup2 o dX2_flipBit_5 rfl rfl ?_
  refine v_lald (σ.2.2.2 1 (72 * v + (12 * i + j))) o dX2_flipBit_6 (by omega) (by decide) (hR.p2 hi hj) ((rs_lt (by omega)).trans rfl) ?_
  refine v_lconst 1 o dX2_flipBit_7 (by decide) ?_
  refine v_iload_n 2 o dX2_flipBit_8 rfl rfl ?_
  refine v_lshl (1 <<< (y.toInt64 &&& 63)) o dX2_flipBit_9 rfl ?_
  refine v_lxor ((σ.2.2.2 1 (72 * v + (12 * i + j))) ^^^ (1 <<< (y.toInt64 &&& 63))) o dX2_flipBit_10 rfl ?_
  refine v_last o dX2_flipBit_11 (by omega) (by decide) (hR.p2 hi hj) (fun μ1 e1 => ?_)
  have hR1 := hR.u_cp (k0 := v) hi hj (by omega) (v := (σ.2.2.2 1 (72 * v + (12 * i + j))) ^^^ (1 <<< (y.toInt64 &&& 63))) e1
  exact v_vret o dX2_flipBit_12 hr (Nat.le_of_ble_eq_true rfl) (Nat.le_of_ble_eq_true rfl) ⟨rfl, hR1, rfl⟩

def mn1 (σ : Sg) (v a : Nat) : Sg := if (!decide (lowest σ a = 0) && !hb σ v a) = true then uL (uB σ 5 (72 * v + a) true) 1 (72 * v + a) (σ.2.2.2 1 (72 * (lowest σ a - 1) + a)) else σ
theorem lowest_0 {σ : Sg} {a : Nat} (h : σ.2.1 2 a = false) : lowest σ a = 0 := by
  have h1 : ∀ v, hb σ v a = false := fun v => by simp [hb, h]
  unfold lowest
  rw [low_f (f := fun v => hb σ v a) (r := 3) (d := 0) (h1 0), low_f (f := fun v => hb σ v a) (r := 2) (d := 1) (h1 1), low_f (f := fun v => hb σ v a) (r := 1) (d := 2) (h1 2), low_f (f := fun v => hb σ v a) (r := 0) (d := 3) (h1 3)]
  rfl
set_option maxRecDepth 100000 in
set_option maxHeartbeats 4000000 in
theorem c_mendIn {l : Launch} (hl : l.stackTraces = false) {g : mG} {x z z0 : Nat} {B : Nat → Nat} {μ0 μ : mM} {σ τ : Sg} (hR : RC g x B z0 μ0 σ τ μ) (i j : Nat) (hi : i < σ.1 3 0) (hj : j < σ.1 0 i) (v : Nat) (hv : v < 4) : Ct l g yX2_mendIn [Cond.code yX2_mendIn cX2_mendIn 3 (some .boolean)] { frames := 4, cells := 0, slots := 0, locals := 84 } [.ref (pA B i j), .int (nI v)] μ z (wrC g x B z0 μ0 (some (.int (bI (!decide (lowest σ (12 * i + j) = 0) && !hb σ v (12 * i + j))))) (mn1 σ v (12 * i + j)) (τ) z) (noX) := by
  refine Ct.of hl (by decide +kernel) (Nat.le_of_ble_eq_true rfl) ?_
  intro p e s mi args below meth c o hnm hr hx
  have o : Ok p l s mi args meth c g cX2_mendIn 3 RX2 := o
  refine v_lv [(0, .ref (pA B i j)), (1, .int (nI v))] rfl ?_
  refine v_aload_n 0 o dX2_mendIn_0 rfl rfl ?_
  refine v_get (v := .int (bI (σ.2.1 2 (12 * i + j)))) o dX2_mendIn_1 cf2 0 (by decide) fl_X2_34 (hR.p0 hi hj) rfl ?_
  refine v_if_eq_b 15 o dX2_mendIn_4 (by decide) (fun c4 => ?_) (fun c4 => ?_)
  · refine v_iconst 0 o dX2_mendIn_15 rfl ?_
    have e8 : (!decide (lowest σ (12 * i + j) = 0) && !hb σ v (12 * i + j)) = false := by simp [lowest_0 c4]
    have e7 : mn1 σ v (12 * i + j) = σ := if_neg (by rw [e8]; decide)
    exact v_zret o dX2_mendIn_16 hr (by decide) (Nat.le_of_ble_eq_true rfl) (Nat.le_of_ble_eq_true rfl) (by rw [e8, e7]; exact ⟨rfl, hR, rfl⟩)
  · refine v_aload_n 0 o dX2_mendIn_7 rfl rfl ?_
    refine v_iload_n 1 o dX2_mendIn_8 rfl rfl ?_
    refine v_callVr (v := .int (bI (hb σ v (12 * i + j)))) [.int (nI v)] [] o dX2_mendIn_9 cw_X2_64 im_X2_holdsIn se_X2_holdsIn cf2 (hR.p0 hi hj) (c_holdsIn hl hR i j hi hj v (by omega)) rfl rfl (by decide) ⟨rfl, rfl⟩ (by decide) (Nat.le_of_ble_eq_true rfl) ?_
    refine v_if_eq_b 17 o dX2_mendIn_12 (by decide) (fun c12 => ?_) (fun c12 => ?_)
    · refine v_aload_n 0 o dX2_mendIn_17 rfl rfl ?_
      refine v_callVr (v := .int (mI (lowest σ (12 * i + j)))) [] [] o dX2_mendIn_18 cw_X2_60 im_X2_lowestVaultThatHolds se_X2_lowestVaultThatHolds cf2 (hR.p0 hi hj) (c_lowest hl hR i j hi hj) rfl rfl (by decide) ⟨rfl, rfl⟩ (by decide) (Nat.le_of_ble_eq_true rfl) ?_
      refine v_istore_n [(2, .int (mI (lowest σ (12 * i + j)))), (0, .ref (pA B i j)), (1, .int (nI v))] o dX2_mendIn_21 rfl (by decide) rfl ?_
      refine v_iload_n 0 o dX2_mendIn_22 rfl rfl ?_
      refine v_iconst_i (-1) o dX2_mendIn_23 (by decide) ?_
      refine v_icmp_ne 29 o dX2_mendIn_24 (by decide) (fun c24 => ?_) (fun c24 => ?_)
      · have hne : ¬ lowest σ (12 * i + j) = 0 := fun q => c24 ((mI_ne (Nat.lt_of_le_of_lt (lowest_le σ (12 * i + j)) (by decide))).mpr q)
        have hle := lowest_le σ (12 * i + j)
        refine v_lv [(2, .int (nI (lowest σ (12 * i + j) - 1))), (0, .ref (pA B i j)), (1, .int (nI v))] (by rw [mI_pos hne]) ?_
        refine v_aload_n 1 o dX2_mendIn_29 rfl rfl ?_
        refine v_iload_n 2 o dX2_mendIn_30 rfl rfl ?_
        refine v_aload_n 1 o dX2_mendIn_31 rfl rfl ?_
        refine v_get (v := .ref (pA B i j + 2)) o dX2_mendIn_32 cf2 5 (by decide) fl_X2_15 (hR.p0 hi hj) rfl ?_
        refine v_iload_n 0 o dX2_mendIn_35 rfl rfl ?_
        refine v_lald (σ.2.2.2 1 (72 * (lowest σ (12 * i + j) - 1) + (12 * i + j))) o dX2_mendIn_36 (by omega) (by decide) (hR.p2 hi hj) ((rs_lt (by omega)).trans rfl) ?_
        refine v_callV [.int (nI v), .long (σ.2.2.2 1 (72 * (lowest σ (12 * i + j) - 1) + (12 * i + j)))] [] o dX2_mendIn_37 cw_X2_68 im_X2_putCopy se_X2_putCopy cf2 (hR.p0 hi hj) (c_putCopy hl hR i j hi hj v (by omega) (σ.2.2.2 1 (72 * (lowest σ (12 * i + j) - 1) + (12 * i + j)))) rfl rfl (by decide) (by decide) (Nat.le_of_ble_eq_true rfl) ?_ (fun _ _ _ _ h => h.elim)
        rintro _ μ1 _ _ ⟨rfl, hR1, rfl⟩
        refine v_st [] rfl ?_
        refine v_iconst 1 o dX2_mendIn_40 rfl ?_
        have e8 : (!decide (lowest σ (12 * i + j) = 0) && !hb σ v (12 * i + j)) = true := by simp [hne, c12]
        have e7 : mn1 σ v (12 * i + j) = uL (uB σ 5 (72 * v + (12 * i + j)) true) 1 (72 * v + (12 * i + j)) (σ.2.2.2 1 (72 * (lowest σ (12 * i + j) - 1) + (12 * i + j))) := if_pos e8
        exact v_zret o dX2_mendIn_41 hr (by decide) (Nat.le_of_ble_eq_true rfl) (Nat.le_of_ble_eq_true rfl) (by rw [e8, e7]; exact ⟨rfl, hR1, rfl⟩)
      · refine v_iconst 0 o dX2_mendIn_27 rfl ?_
        have e8 : (!decide (lowest σ (12 * i + j) = 0) && !hb σ v (12 * i + j)) = false := by simp [(mI_ne (Nat.lt_of_le_of_lt (lowest_le σ (12 * i + j)) (by decide))).mp c24]
        have e7 : mn1 σ v (12 * i + j) = σ := if_neg (by rw [e8]; decide)
        exact v_zret o dX2_mendIn_28 hr (by decide) (Nat.le_of_ble_eq_true rfl) (Nat.le_of_ble_eq_true rfl) (by rw [e8, e7]; exact ⟨rfl, hR, rfl⟩)
    · refine v_iconst 0 o dX2_mendIn_15 rfl ?_
      have e8 : (!decide (lowest σ (12 * i + j) = 0) && !hb σ v (12 * i + j)) = false := by simp [c12]
      have e7 : mn1 σ v (12 * i + j) = σ := if_neg (by rw [e8]; decide)
      exact v_zret o dX2_mendIn_16 hr (by decide) (Nat.le_of_ble_eq_true rfl) (Nat.le_of_ble_eq_true rfl) (by rw [e8, e7]; exact ⟨rfl, hR, rfl⟩)

set_option maxRecDepth 100000 in
set_option maxHeartbeats 4000000 in
theorem c_shotPages {l : Launch} (hl : l.stackTraces = false) {g : mG} {x z z0 : Nat} {B : Nat → Nat} {μ0 μ : mM} {σ τ : Sg} (hR : RC g x B z0 μ0 σ τ μ) (i : Nat) (hi : i < σ.1 3 0) : Ct l g yX0_countShotPages [Cond.code yX0_countShotPages cX0_countShotPages 6 (some .int)] { frames := 0, cells := 0, slots := 0, locals := 0 } [.ref (B i)] μ z (rdP (some (.int (nI (cnt (fun q => σ.2.1 2 (12 * i + q)) (σ.1 0 i))))) μ z) (noX) := by
  refine Ct.of hl (by decide +kernel) (Nat.le_of_ble_eq_true rfl) ?_
  intro p e s mi args below meth c o hnm hr hx
  have o : Ok p l s mi args meth c g cX0_countShotPages 6 RX0 := o
  refine v_lv [(0, .ref (B i))] rfl ?_
  have h12 := hR.np i
  have L : ∀ d j, j + d = σ.1 0 i → V p l e { frames := 0, cells := 0, slots := 0, locals := 0 } s mi args below meth c (vx_MQ below (cQc g (rdP (some (.int (nI (cnt (fun q => σ.2.1 2 (12 * i + q)) (σ.1 0 i))))) μ z)) (cXC g (noX)) args s ({ frames := 0, cells := 0, slots := 0, locals := 0 } : Room).cells ({ frames := 0, cells := 0, slots := 0, locals := 0 } : Room).slots (gA g)) g μ z 0 0 13 [(0, .ref (B i)), (1, .int (nI (cnt (fun q => σ.2.1 2 (12 * i + q)) j))), (2, .ref (B i + 1)), (3, .int (nI (σ.1 0 i))), (4, .int (nI j))] [] := by
    intro d
    induction d with
    | zero =>
      intro j hj
      refine v_iload 4 o dX0_countShotPages_13 rfl ?_
      refine v_iload_n 3 o dX0_countShotPages_15 rfl rfl ?_
      refine v_icmp_ge_n 47 o dX0_countShotPages_16 (by decide) (by omega) (by omega) (fun c16 => ?_) (fun c16 => absurd c16 (by omega))
      refine v_iload_n 1 o dX0_countShotPages_47 rfl rfl ?_
      exact v_iret o dX0_countShotPages_48 hr (Nat.le_of_ble_eq_true rfl) (Nat.le_of_ble_eq_true rfl) ⟨by rw [show j = σ.1 0 i by omega], rfl, rfl⟩
    | succ d ih =>
      intro j hjd
      have hj : j < σ.1 0 i := by omega
      refine v_iload 4 o dX0_countShotPages_13 rfl ?_
      refine v_iload_n 3 o dX0_countShotPages_15 rfl rfl ?_
      refine v_icmp_ge_n 47 o dX0_countShotPages_16 (by decide) (by omega) (by omega) (fun c16 => absurd c16 (by omega)) (fun c16 => ?_)
      refine v_aload_n 2 o dX0_countShotPages_19 rfl rfl ?_
      refine v_iload 4 o dX0_countShotPages_20 rfl ?_
      refine v_aald (t0 := 3) (.ref (pA B i j)) o dX0_countShotPages_22 rfl hj (by omega) (hR.ps hi) (by simp only [if_pos (show j < σ.1 0 i from hj)]; rfl) ?_
      refine v_astore [(5, .ref (pA B i j)), (0, .ref (B i)), (1, .int (nI (cnt (fun q => σ.2.1 2 (12 * i + q)) j))), (2, .ref (B i + 1)), (3, .int (nI (σ.1 0 i))), (4, .int (nI j))] o dX0_countShotPages_23 (by decide) rfl ?_
      refine v_iload_n 2 o dX0_countShotPages_25 rfl rfl ?_
      refine v_aload 0 o dX0_countShotPages_26 rfl ?_
      refine v_get (v := .int (bI (σ.2.1 2 (12 * i + j)))) o dX0_countShotPages_28 cf2 0 (by decide) fl_X0_35 (hR.p0 hi hj) rfl ?_
      refine v_if_eq_b 38 o dX0_countShotPages_31 (by decide) (fun c31 => ?_) (fun c31 => ?_)
      · refine v_iconst 0 o dX0_countShotPages_38 rfl ?_
        refine v_iadd (nI (cnt (fun q => σ.2.1 2 (12 * i + q)) j)) o dX0_countShotPages_39 (nI_add (cnt (fun q => σ.2.1 2 (12 * i + q)) j) 0) ?_
        refine v_istore_n [(1, .int (nI (cnt (fun q => σ.2.1 2 (12 * i + q)) j))), (5, .ref (pA B i j)), (0, .ref (B i)), (2, .ref (B i + 1)), (3, .int (nI (σ.1 0 i))), (4, .int (nI j))] o dX0_countShotPages_40 rfl (by decide) rfl ?_
        refine v_iinc (nI (j + 1)) [(4, .int (nI (j + 1))), (1, .int (nI (cnt (fun q => σ.2.1 2 (12 * i + q)) j))), (5, .ref (pA B i j)), (0, .ref (B i)), (2, .ref (B i + 1)), (3, .int (nI (σ.1 0 i)))] o dX0_countShotPages_41 5 rfl (iinc_n j 1) (by decide) rfl ?_
        refine v_goto 13 o dX0_countShotPages_44 (by decide) ?_
        refine v_sub [(0, .ref (B i)), (1, .int (nI (cnt (fun q => σ.2.1 2 (12 * i + q)) j))), (2, .ref (B i + 1)), (3, .int (nI (σ.1 0 i))), (4, .int (nI (j + 1)))] [3, 1, 4, 5, 0] rfl ?_
        refine v_lv [(0, .ref (B i)), (1, .int (nI (cnt (fun q => σ.2.1 2 (12 * i + q)) (j + 1)))), (2, .ref (B i + 1)), (3, .int (nI (σ.1 0 i))), (4, .int (nI (j + 1)))] (by rw [cnt_f (f := (fun q => σ.2.1 2 (12 * i + q))) c31]) ?_
        exact ih (j + 1) (by omega)
      · refine v_iconst 1 o dX0_countShotPages_34 rfl ?_
        refine v_goto 39 o dX0_countShotPages_35 (by decide) ?_
        refine v_iadd (nI ((cnt (fun q => σ.2.1 2 (12 * i + q)) j) + 1)) o dX0_countShotPages_39 (nI_add (cnt (fun q => σ.2.1 2 (12 * i + q)) j) 1) ?_
        refine v_istore_n [(1, .int (nI ((cnt (fun q => σ.2.1 2 (12 * i + q)) j) + 1))), (5, .ref (pA B i j)), (0, .ref (B i)), (2, .ref (B i + 1)), (3, .int (nI (σ.1 0 i))), (4, .int (nI j))] o dX0_countShotPages_40 rfl (by decide) rfl ?_
        refine v_iinc (nI (j + 1)) [(4, .int (nI (j + 1))), (1, .int (nI ((cnt (fun q => σ.2.1 2 (12 * i + q)) j) + 1))), (5, .ref (pA B i j)), (0, .ref (B i)), (2, .ref (B i + 1)), (3, .int (nI (σ.1 0 i)))] o dX0_countShotPages_41 5 rfl (iinc_n j 1) (by decide) rfl ?_
        refine v_goto 13 o dX0_countShotPages_44 (by decide) ?_
        refine v_sub [(0, .ref (B i)), (1, .int (nI ((cnt (fun q => σ.2.1 2 (12 * i + q)) j) + 1))), (2, .ref (B i + 1)), (3, .int (nI (σ.1 0 i))), (4, .int (nI (j + 1)))] [3, 1, 4, 5, 0] rfl ?_
        refine v_lv [(0, .ref (B i)), (1, .int (nI (cnt (fun q => σ.2.1 2 (12 * i + q)) (j + 1)))), (2, .ref (B i + 1)), (3, .int (nI (σ.1 0 i))), (4, .int (nI (j + 1)))] (by rw [cnt_t (f := (fun q => σ.2.1 2 (12 * i + q))) c31]) ?_
        exact ih (j + 1) (by omega)
  refine v_iconst 0 o dX0_countShotPages_0 rfl ?_
  refine v_istore_n [(1, .int (nI 0)), (0, .ref (B i))] o dX0_countShotPages_1 rfl (by decide) rfl ?_
  refine v_aload_n 1 o dX0_countShotPages_2 rfl rfl ?_
  refine v_get (v := .ref (B i + 1)) o dX0_countShotPages_3 cf0 0 (by decide) fl_X0_11 (hR.bk hi) rfl ?_
  refine v_astore_n [(2, .ref (B i + 1)), (1, .int (nI 0)), (0, .ref (B i))] o dX0_countShotPages_6 rfl (by decide) rfl ?_
  refine v_aload_n 0 o dX0_countShotPages_7 rfl rfl ?_
  refine v_alen (t0 := 3) o dX0_countShotPages_8 rfl (hR.ps hi) ?_
  refine v_top (nI (σ.1 0 i)) rfl ?_
  refine v_istore_n [(3, .int (nI (σ.1 0 i))), (2, .ref (B i + 1)), (1, .int (nI 0)), (0, .ref (B i))] o dX0_countShotPages_9 rfl (by decide) rfl ?_
  refine v_iconst 0 o dX0_countShotPages_10 rfl ?_
  refine v_istore [(4, .int (nI 0)), (3, .int (nI (σ.1 0 i))), (2, .ref (B i + 1)), (1, .int (nI 0)), (0, .ref (B i))] o dX0_countShotPages_11 (by decide) rfl ?_
  refine v_sub [(0, .ref (B i)), (1, .int (nI 0)), (2, .ref (B i + 1)), (3, .int (nI (σ.1 0 i))), (4, .int (nI 0))] [4, 3, 2, 1, 0] rfl ?_
  refine v_lv [(0, .ref (B i)), (1, .int (nI (cnt (fun q => σ.2.1 2 (12 * i + q)) 0))), (2, .ref (B i + 1)), (3, .int (nI (σ.1 0 i))), (4, .int (nI 0))] rfl ?_
  exact L (σ.1 0 i) 0 (by omega)

set_option maxRecDepth 100000 in
set_option maxHeartbeats 4000000 in
theorem c_faultyShots {l : Launch} (hl : l.stackTraces = false) {g : mG} {x z z0 : Nat} {B : Nat → Nat} {μ0 μ : mM} {σ τ : Sg} (hR : RC g x B z0 μ0 σ τ μ) (i : Nat) (hi : i < σ.1 3 0) : Ct l g yX0_countFaultyShots [Cond.code yX0_countFaultyShots cX0_countFaultyShots 6 (some .int)] { frames := 0, cells := 0, slots := 0, locals := 0 } [.ref (B i)] μ z (rdP (some (.int (nI (cnt (fun q => σ.2.1 4 (12 * i + q)) (σ.1 0 i))))) μ z) (noX) := by
  refine Ct.of hl (by decide +kernel) (Nat.le_of_ble_eq_true rfl) ?_
  intro p e s mi args below meth c o hnm hr hx
  have o : Ok p l s mi args meth c g cX0_countFaultyShots 6 RX0 := o
  refine v_lv [(0, .ref (B i))] rfl ?_
  have h12 := hR.np i
  have L : ∀ d j, j + d = σ.1 0 i → V p l e { frames := 0, cells := 0, slots := 0, locals := 0 } s mi args below meth c (vx_MQ below (cQc g (rdP (some (.int (nI (cnt (fun q => σ.2.1 4 (12 * i + q)) (σ.1 0 i))))) μ z)) (cXC g (noX)) args s ({ frames := 0, cells := 0, slots := 0, locals := 0 } : Room).cells ({ frames := 0, cells := 0, slots := 0, locals := 0 } : Room).slots (gA g)) g μ z 0 0 13 [(0, .ref (B i)), (1, .int (nI (cnt (fun q => σ.2.1 4 (12 * i + q)) j))), (2, .ref (B i + 1)), (3, .int (nI (σ.1 0 i))), (4, .int (nI j))] [] := by
    intro d
    induction d with
    | zero =>
      intro j hj
      refine v_iload 4 o dX0_countFaultyShots_13 rfl ?_
      refine v_iload_n 3 o dX0_countFaultyShots_15 rfl rfl ?_
      refine v_icmp_ge_n 47 o dX0_countFaultyShots_16 (by decide) (by omega) (by omega) (fun c16 => ?_) (fun c16 => absurd c16 (by omega))
      refine v_iload_n 1 o dX0_countFaultyShots_47 rfl rfl ?_
      exact v_iret o dX0_countFaultyShots_48 hr (Nat.le_of_ble_eq_true rfl) (Nat.le_of_ble_eq_true rfl) ⟨by rw [show j = σ.1 0 i by omega], rfl, rfl⟩
    | succ d ih =>
      intro j hjd
      have hj : j < σ.1 0 i := by omega
      refine v_iload 4 o dX0_countFaultyShots_13 rfl ?_
      refine v_iload_n 3 o dX0_countFaultyShots_15 rfl rfl ?_
      refine v_icmp_ge_n 47 o dX0_countFaultyShots_16 (by decide) (by omega) (by omega) (fun c16 => absurd c16 (by omega)) (fun c16 => ?_)
      refine v_aload_n 2 o dX0_countFaultyShots_19 rfl rfl ?_
      refine v_iload 4 o dX0_countFaultyShots_20 rfl ?_
      refine v_aald (t0 := 3) (.ref (pA B i j)) o dX0_countFaultyShots_22 rfl hj (by omega) (hR.ps hi) (by simp only [if_pos (show j < σ.1 0 i from hj)]; rfl) ?_
      refine v_astore [(5, .ref (pA B i j)), (0, .ref (B i)), (1, .int (nI (cnt (fun q => σ.2.1 4 (12 * i + q)) j))), (2, .ref (B i + 1)), (3, .int (nI (σ.1 0 i))), (4, .int (nI j))] o dX0_countFaultyShots_23 (by decide) rfl ?_
      refine v_iload_n 2 o dX0_countFaultyShots_25 rfl rfl ?_
      refine v_aload 0 o dX0_countFaultyShots_26 rfl ?_
      refine v_get (v := .int (bI (σ.2.1 4 (12 * i + j)))) o dX0_countFaultyShots_28 cf2 2 (by decide) fl_X0_39 (hR.p0 hi hj) rfl ?_
      refine v_if_eq_b 38 o dX0_countFaultyShots_31 (by decide) (fun c31 => ?_) (fun c31 => ?_)
      · refine v_iconst 0 o dX0_countFaultyShots_38 rfl ?_
        refine v_iadd (nI (cnt (fun q => σ.2.1 4 (12 * i + q)) j)) o dX0_countFaultyShots_39 (nI_add (cnt (fun q => σ.2.1 4 (12 * i + q)) j) 0) ?_
        refine v_istore_n [(1, .int (nI (cnt (fun q => σ.2.1 4 (12 * i + q)) j))), (5, .ref (pA B i j)), (0, .ref (B i)), (2, .ref (B i + 1)), (3, .int (nI (σ.1 0 i))), (4, .int (nI j))] o dX0_countFaultyShots_40 rfl (by decide) rfl ?_
        refine v_iinc (nI (j + 1)) [(4, .int (nI (j + 1))), (1, .int (nI (cnt (fun q => σ.2.1 4 (12 * i + q)) j))), (5, .ref (pA B i j)), (0, .ref (B i)), (2, .ref (B i + 1)), (3, .int (nI (σ.1 0 i)))] o dX0_countFaultyShots_41 5 rfl (iinc_n j 1) (by decide) rfl ?_
        refine v_goto 13 o dX0_countFaultyShots_44 (by decide) ?_
        refine v_sub [(0, .ref (B i)), (1, .int (nI (cnt (fun q => σ.2.1 4 (12 * i + q)) j))), (2, .ref (B i + 1)), (3, .int (nI (σ.1 0 i))), (4, .int (nI (j + 1)))] [3, 1, 4, 5, 0] rfl ?_
        refine v_lv [(0, .ref (B i)), (1, .int (nI (cnt (fun q => σ.2.1 4 (12 * i + q)) (j + 1)))), (2, .ref (B i + 1)), (3, .int (nI (σ.1 0 i))), (4, .int (nI (j + 1)))] (by rw [cnt_f (f := (fun q => σ.2.1 4 (12 * i + q))) c31]) ?_
        exact ih (j + 1) (by omega)
      · refine v_iconst 1 o dX0_countFaultyShots_34 rfl ?_
        refine v_goto 39 o dX0_countFaultyShots_35 (by decide) ?_
        refine v_iadd (nI ((cnt (fun q => σ.2.1 4 (12 * i + q)) j) + 1)) o dX0_countFaultyShots_39 (nI_add (cnt (fun q => σ.2.1 4 (12 * i + q)) j) 1) ?_
        refine v_istore_n [(1, .int (nI ((cnt (fun q => σ.2.1 4 (12 * i + q)) j) + 1))), (5, .ref (pA B i j)), (0, .ref (B i)), (2, .ref (B i + 1)), (3, .int (nI (σ.1 0 i))), (4, .int (nI j))] o dX0_countFaultyShots_40 rfl (by decide) rfl ?_
        refine v_iinc (nI (j + 1)) [(4, .int (nI (j + 1))), (1, .int (nI ((cnt (fun q => σ.2.1 4 (12 * i + q)) j) + 1))), (5, .ref (pA B i j)), (0, .ref (B i)), (2, .ref (B i + 1)), (3, .int (nI (σ.1 0 i)))] o dX0_countFaultyShots_41 5 rfl (iinc_n j 1) (by decide) rfl ?_
        refine v_goto 13 o dX0_countFaultyShots_44 (by decide) ?_
        refine v_sub [(0, .ref (B i)), (1, .int (nI ((cnt (fun q => σ.2.1 4 (12 * i + q)) j) + 1))), (2, .ref (B i + 1)), (3, .int (nI (σ.1 0 i))), (4, .int (nI (j + 1)))] [3, 1, 4, 5, 0] rfl ?_
        refine v_lv [(0, .ref (B i)), (1, .int (nI (cnt (fun q => σ.2.1 4 (12 * i + q)) (j + 1)))), (2, .ref (B i + 1)), (3, .int (nI (σ.1 0 i))), (4, .int (nI (j + 1)))] (by rw [cnt_t (f := (fun q => σ.2.1 4 (12 * i + q))) c31]) ?_
        exact ih (j + 1) (by omega)
  refine v_iconst 0 o dX0_countFaultyShots_0 rfl ?_
  refine v_istore_n [(1, .int (nI 0)), (0, .ref (B i))] o dX0_countFaultyShots_1 rfl (by decide) rfl ?_
  refine v_aload_n 1 o dX0_countFaultyShots_2 rfl rfl ?_
  refine v_get (v := .ref (B i + 1)) o dX0_countFaultyShots_3 cf0 0 (by decide) fl_X0_11 (hR.bk hi) rfl ?_
  refine v_astore_n [(2, .ref (B i + 1)), (1, .int (nI 0)), (0, .ref (B i))] o dX0_countFaultyShots_6 rfl (by decide) rfl ?_
  refine v_aload_n 0 o dX0_countFaultyShots_7 rfl rfl ?_
  refine v_alen (t0 := 3) o dX0_countFaultyShots_8 rfl (hR.ps hi) ?_
  refine v_top (nI (σ.1 0 i)) rfl ?_
  refine v_istore_n [(3, .int (nI (σ.1 0 i))), (2, .ref (B i + 1)), (1, .int (nI 0)), (0, .ref (B i))] o dX0_countFaultyShots_9 rfl (by decide) rfl ?_
  refine v_iconst 0 o dX0_countFaultyShots_10 rfl ?_
  refine v_istore [(4, .int (nI 0)), (3, .int (nI (σ.1 0 i))), (2, .ref (B i + 1)), (1, .int (nI 0)), (0, .ref (B i))] o dX0_countFaultyShots_11 (by decide) rfl ?_
  refine v_sub [(0, .ref (B i)), (1, .int (nI 0)), (2, .ref (B i + 1)), (3, .int (nI (σ.1 0 i))), (4, .int (nI 0))] [4, 3, 2, 1, 0] rfl ?_
  refine v_lv [(0, .ref (B i)), (1, .int (nI (cnt (fun q => σ.2.1 4 (12 * i + q)) 0))), (2, .ref (B i + 1)), (3, .int (nI (σ.1 0 i))), (4, .int (nI 0))] rfl ?_
  exact L (σ.1 0 i) 0 (by omega)

set_option maxRecDepth 100000 in
set_option maxHeartbeats 4000000 in
theorem c_lostPages {l : Launch} (hl : l.stackTraces = false) {g : mG} {x z z0 : Nat} {B : Nat → Nat} {μ0 μ : mM} {σ τ : Sg} (hR : RC g x B z0 μ0 σ τ μ) (i : Nat) (hi : i < σ.1 3 0) : Ct l g yX0_countLostPages [Cond.code yX0_countLostPages cX0_countLostPages 6 (some .int)] { frames := 5, cells := 0, slots := 0, locals := 104 } [.ref (B i)] μ z (rdP (some (.int (nI (cnt (fun q => lostB σ (12 * i + q)) (σ.1 0 i))))) μ z) (noX) := by
  refine Ct.of hl (by decide +kernel) (Nat.le_of_ble_eq_true rfl) ?_
  intro p e s mi args below meth c o hnm hr hx
  have o : Ok p l s mi args meth c g cX0_countLostPages 6 RX0 := o
  refine v_lv [(0, .ref (B i))] rfl ?_
  have h12 := hR.np i
  have L : ∀ d j, j + d = σ.1 0 i → V p l e { frames := 5, cells := 0, slots := 0, locals := 104 } s mi args below meth c (vx_MQ below (cQc g (rdP (some (.int (nI (cnt (fun q => lostB σ (12 * i + q)) (σ.1 0 i))))) μ z)) (cXC g (noX)) args s ({ frames := 5, cells := 0, slots := 0, locals := 104 } : Room).cells ({ frames := 5, cells := 0, slots := 0, locals := 104 } : Room).slots (gA g)) g μ z 0 0 13 [(0, .ref (B i)), (1, .int (nI (cnt (fun q => lostB σ (12 * i + q)) j))), (2, .ref (B i + 1)), (3, .int (nI (σ.1 0 i))), (4, .int (nI j))] [] := by
    intro d
    induction d with
    | zero =>
      intro j hj
      refine v_iload 4 o dX0_countLostPages_13 rfl ?_
      refine v_iload_n 3 o dX0_countLostPages_15 rfl rfl ?_
      refine v_icmp_ge_n 47 o dX0_countLostPages_16 (by decide) (by omega) (by omega) (fun c16 => ?_) (fun c16 => absurd c16 (by omega))
      refine v_iload_n 1 o dX0_countLostPages_47 rfl rfl ?_
      exact v_iret o dX0_countLostPages_48 hr (Nat.le_of_ble_eq_true rfl) (Nat.le_of_ble_eq_true rfl) ⟨by rw [show j = σ.1 0 i by omega], rfl, rfl⟩
    | succ d ih =>
      intro j hjd
      have hj : j < σ.1 0 i := by omega
      refine v_iload 4 o dX0_countLostPages_13 rfl ?_
      refine v_iload_n 3 o dX0_countLostPages_15 rfl rfl ?_
      refine v_icmp_ge_n 47 o dX0_countLostPages_16 (by decide) (by omega) (by omega) (fun c16 => absurd c16 (by omega)) (fun c16 => ?_)
      refine v_aload_n 2 o dX0_countLostPages_19 rfl rfl ?_
      refine v_iload 4 o dX0_countLostPages_20 rfl ?_
      refine v_aald (t0 := 3) (.ref (pA B i j)) o dX0_countLostPages_22 rfl hj (by omega) (hR.ps hi) (by simp only [if_pos (show j < σ.1 0 i from hj)]; rfl) ?_
      refine v_astore [(5, .ref (pA B i j)), (0, .ref (B i)), (1, .int (nI (cnt (fun q => lostB σ (12 * i + q)) j))), (2, .ref (B i + 1)), (3, .int (nI (σ.1 0 i))), (4, .int (nI j))] o dX0_countLostPages_23 (by decide) rfl ?_
      refine v_iload_n 2 o dX0_countLostPages_25 rfl rfl ?_
      refine v_aload 0 o dX0_countLostPages_26 rfl ?_
      refine v_callVr (v := .int (bI (lostB σ (12 * i + j)))) [] [.int (nI (cnt (fun q => lostB σ (12 * i + q)) j))] o dX0_countLostPages_28 cw_X0_42 im_X2_hasNoCopyLeft se_X2_hasNoCopyLeft cf2 (hR.p0 hi hj) (c_lost hl hR i j hi hj) rfl rfl (by decide) ⟨rfl, rfl⟩ (by decide) (Nat.le_of_ble_eq_true rfl) ?_
      refine v_if_eq_b 38 o dX0_countLostPages_31 (by decide) (fun c31 => ?_) (fun c31 => ?_)
      · refine v_iconst 0 o dX0_countLostPages_38 rfl ?_
        refine v_iadd (nI (cnt (fun q => lostB σ (12 * i + q)) j)) o dX0_countLostPages_39 (nI_add (cnt (fun q => lostB σ (12 * i + q)) j) 0) ?_
        refine v_istore_n [(1, .int (nI (cnt (fun q => lostB σ (12 * i + q)) j))), (5, .ref (pA B i j)), (0, .ref (B i)), (2, .ref (B i + 1)), (3, .int (nI (σ.1 0 i))), (4, .int (nI j))] o dX0_countLostPages_40 rfl (by decide) rfl ?_
        refine v_iinc (nI (j + 1)) [(4, .int (nI (j + 1))), (1, .int (nI (cnt (fun q => lostB σ (12 * i + q)) j))), (5, .ref (pA B i j)), (0, .ref (B i)), (2, .ref (B i + 1)), (3, .int (nI (σ.1 0 i)))] o dX0_countLostPages_41 5 rfl (iinc_n j 1) (by decide) rfl ?_
        refine v_goto 13 o dX0_countLostPages_44 (by decide) ?_
        refine v_sub [(0, .ref (B i)), (1, .int (nI (cnt (fun q => lostB σ (12 * i + q)) j))), (2, .ref (B i + 1)), (3, .int (nI (σ.1 0 i))), (4, .int (nI (j + 1)))] [3, 1, 4, 5, 0] rfl ?_
        refine v_lv [(0, .ref (B i)), (1, .int (nI (cnt (fun q => lostB σ (12 * i + q)) (j + 1)))), (2, .ref (B i + 1)), (3, .int (nI (σ.1 0 i))), (4, .int (nI (j + 1)))] (by rw [cnt_f (f := (fun q => lostB σ (12 * i + q))) c31]) ?_
        exact ih (j + 1) (by omega)
      · refine v_iconst 1 o dX0_countLostPages_34 rfl ?_
        refine v_goto 39 o dX0_countLostPages_35 (by decide) ?_
        refine v_iadd (nI ((cnt (fun q => lostB σ (12 * i + q)) j) + 1)) o dX0_countLostPages_39 (nI_add (cnt (fun q => lostB σ (12 * i + q)) j) 1) ?_
        refine v_istore_n [(1, .int (nI ((cnt (fun q => lostB σ (12 * i + q)) j) + 1))), (5, .ref (pA B i j)), (0, .ref (B i)), (2, .ref (B i + 1)), (3, .int (nI (σ.1 0 i))), (4, .int (nI j))] o dX0_countLostPages_40 rfl (by decide) rfl ?_
        refine v_iinc (nI (j + 1)) [(4, .int (nI (j + 1))), (1, .int (nI ((cnt (fun q => lostB σ (12 * i + q)) j) + 1))), (5, .ref (pA B i j)), (0, .ref (B i)), (2, .ref (B i + 1)), (3, .int (nI (σ.1 0 i)))] o dX0_countLostPages_41 5 rfl (iinc_n j 1) (by decide) rfl ?_
        refine v_goto 13 o dX0_countLostPages_44 (by decide) ?_
        refine v_sub [(0, .ref (B i)), (1, .int (nI ((cnt (fun q => lostB σ (12 * i + q)) j) + 1))), (2, .ref (B i + 1)), (3, .int (nI (σ.1 0 i))), (4, .int (nI (j + 1)))] [3, 1, 4, 5, 0] rfl ?_
        refine v_lv [(0, .ref (B i)), (1, .int (nI (cnt (fun q => lostB σ (12 * i + q)) (j + 1)))), (2, .ref (B i + 1)), (3, .int (nI (σ.1 0 i))), (4, .int (nI (j + 1)))] (by rw [cnt_t (f := (fun q => lostB σ (12 * i + q))) c31]) ?_
        exact ih (j + 1) (by omega)
  refine v_iconst 0 o dX0_countLostPages_0 rfl ?_
  refine v_istore_n [(1, .int (nI 0)), (0, .ref (B i))] o dX0_countLostPages_1 rfl (by decide) rfl ?_
  refine v_aload_n 1 o dX0_countLostPages_2 rfl rfl ?_
  refine v_get (v := .ref (B i + 1)) o dX0_countLostPages_3 cf0 0 (by decide) fl_X0_11 (hR.bk hi) rfl ?_
  refine v_astore_n [(2, .ref (B i + 1)), (1, .int (nI 0)), (0, .ref (B i))] o dX0_countLostPages_6 rfl (by decide) rfl ?_
  refine v_aload_n 0 o dX0_countLostPages_7 rfl rfl ?_
  refine v_alen (t0 := 3) o dX0_countLostPages_8 rfl (hR.ps hi) ?_
  refine v_top (nI (σ.1 0 i)) rfl ?_
  refine v_istore_n [(3, .int (nI (σ.1 0 i))), (2, .ref (B i + 1)), (1, .int (nI 0)), (0, .ref (B i))] o dX0_countLostPages_9 rfl (by decide) rfl ?_
  refine v_iconst 0 o dX0_countLostPages_10 rfl ?_
  refine v_istore [(4, .int (nI 0)), (3, .int (nI (σ.1 0 i))), (2, .ref (B i + 1)), (1, .int (nI 0)), (0, .ref (B i))] o dX0_countLostPages_11 (by decide) rfl ?_
  refine v_sub [(0, .ref (B i)), (1, .int (nI 0)), (2, .ref (B i + 1)), (3, .int (nI (σ.1 0 i))), (4, .int (nI 0))] [4, 3, 2, 1, 0] rfl ?_
  refine v_lv [(0, .ref (B i)), (1, .int (nI (cnt (fun q => lostB σ (12 * i + q)) 0))), (2, .ref (B i + 1)), (3, .int (nI (σ.1 0 i))), (4, .int (nI 0))] rfl ?_
  exact L (σ.1 0 i) 0 (by omega)

set_option maxRecDepth 100000 in
set_option maxHeartbeats 4000000 in
theorem c_waits {l : Launch} (hl : l.stackTraces = false) {g : mG} {x z z0 : Nat} {B : Nat → Nat} {μ0 μ : mM} {σ τ : Sg} (hR : RC g x B z0 μ0 σ τ μ) (i : Nat) (hi : i < σ.1 3 0) : Ct l g yX0_waitsForWork [Cond.code yX0_waitsForWork cX0_waitsForWork 1 (some .boolean)] { frames := 1, cells := 0, slots := 0, locals := 25 } [.ref (B i)] μ z (rdP (some (.int (bI (canB σ i)))) μ z) (noX) := by
  refine Ct.of hl (by decide +kernel) (Nat.le_of_ble_eq_true rfl) ?_
  intro p e s mi args below meth c o hnm hr hx
  have o : Ok p l s mi args meth c g cX0_waitsForWork 1 RX0 := o
  refine v_lv [(0, .ref (B i))] rfl ?_
  have h12 := hR.np i
  have hcl := cnt_le (fun q => σ.2.1 2 (12 * i + q)) (σ.1 0 i)
  refine v_aload_n 0 o dX0_waitsForWork_0 rfl rfl ?_
  refine v_get (v := .int (σ.2.2.1 1 i)) o dX0_waitsForWork_1 cf0 3 (by decide) fl_X0_22 (hR.bk hi) rfl ?_
  refine v_if_le 23 o dX0_waitsForWork_4 (by decide) (fun c4 => ?_) (fun c4 => ?_)
  · refine v_iconst 0 o dX0_waitsForWork_23 rfl ?_
    exact v_zret o dX0_waitsForWork_24 hr (by decide) (Nat.le_of_ble_eq_true rfl) (Nat.le_of_ble_eq_true rfl) ⟨by rw [show canB σ i = false by simp [canB, Int32.not_lt.mpr c4]]; rfl, rfl, rfl⟩
  · refine v_aload_n 0 o dX0_waitsForWork_7 rfl rfl ?_
    refine v_callVr (v := .int (nI (cnt (fun q => σ.2.1 2 (12 * i + q)) (σ.1 0 i)))) [] [] o dX0_waitsForWork_8 cw_X0_31 im_X0_countShotPages se_X0_countShotPages cf0 (hR.bk hi) (c_shotPages hl hR i hi) rfl rfl (by decide) ⟨rfl, rfl⟩ (by decide) (Nat.le_of_ble_eq_true rfl) ?_
    refine v_aload_n 0 o dX0_waitsForWork_11 rfl rfl ?_
    refine v_get (v := .ref (B i + 1)) o dX0_waitsForWork_12 cf0 0 (by decide) fl_X0_11 (hR.bk hi) rfl ?_
    refine v_alen (t0 := 3) o dX0_waitsForWork_15 rfl (hR.ps hi) ?_
    refine v_top (nI (σ.1 0 i)) rfl ?_
    refine v_icmp_ge_n 23 o dX0_waitsForWork_16 (by decide) (by omega) (by omega) (fun c16 => ?_) (fun c16 => ?_)
    · refine v_iconst 0 o dX0_waitsForWork_23 rfl ?_
      exact v_zret o dX0_waitsForWork_24 hr (by decide) (Nat.le_of_ble_eq_true rfl) (Nat.le_of_ble_eq_true rfl) ⟨by rw [show canB σ i = false by simp [canB, Int32.not_le.mp c4, Nat.not_lt.mpr c16]]; rfl, rfl, rfl⟩
    · refine v_iconst 1 o dX0_waitsForWork_19 rfl ?_
      refine v_goto 24 o dX0_waitsForWork_20 (by decide) ?_
      exact v_zret o dX0_waitsForWork_24 hr (by decide) (Nat.le_of_ble_eq_true rfl) (Nat.le_of_ble_eq_true rfl) ⟨by rw [show canB σ i = true by simp [canB, Int32.not_le.mp c4, Nat.not_le.mp c16]]; rfl, rfl, rfl⟩

def befB (σ : Sg) (i k : Nat) : Bool := decide (σ.2.2.1 2 k < σ.2.2.1 2 i) || (decide (σ.2.2.1 2 i = σ.2.2.1 2 k) && decide (σ.2.2.1 1 i < σ.2.2.1 1 k))
set_option maxRecDepth 100000 in
set_option maxHeartbeats 4000000 in
theorem c_before {l : Launch} (hl : l.stackTraces = false) {g : mG} {x z z0 : Nat} {B : Nat → Nat} {μ0 μ : mM} {σ τ : Sg} (hR : RC g x B z0 μ0 σ τ μ) (i k : Nat) (hi : i < σ.1 3 0) (hk : k < σ.1 3 0) : Ct l g yX0_goesBefore [Cond.code yX0_goesBefore cX0_goesBefore 2 (some .boolean)] { frames := 0, cells := 0, slots := 0, locals := 0 } [.ref (B i), .ref (B k)] μ z (rdP (some (.int (bI (befB σ i k)))) μ z) (noX) := by
  refine Ct.of hl (by decide +kernel) (Nat.le_of_ble_eq_true rfl) ?_
  intro p e s mi args below meth c o hnm hr hx
  have o : Ok p l s mi args meth c g cX0_goesBefore 2 RX0 := o
  refine v_lv [(0, .ref (B i)), (1, .ref (B k))] rfl ?_
  refine v_aload_n 0 o dX0_goesBefore_0 rfl rfl ?_
  refine v_get (v := .int (σ.2.2.1 2 i)) o dX0_goesBefore_1 cf0 2 (by decide) fl_X0_25 (hR.bk hi) rfl ?_
  refine v_aload_n 1 o dX0_goesBefore_4 rfl rfl ?_
  refine v_get (v := .int (σ.2.2.1 2 k)) o dX0_goesBefore_5 cf0 2 (by decide) fl_X0_25 (hR.bk hk) rfl ?_
  refine v_icmp_gt 33 o dX0_goesBefore_8 (by decide) (fun c8 => ?_) (fun c8 => ?_)
  · refine v_iconst 1 o dX0_goesBefore_33 rfl ?_
    refine v_goto 38 o dX0_goesBefore_34 (by decide) ?_
    exact v_zret o dX0_goesBefore_38 hr (by decide) (Nat.le_of_ble_eq_true rfl) (Nat.le_of_ble_eq_true rfl) ⟨by rw [show befB σ i k = true by simp [befB, c8]]; rfl, rfl, rfl⟩
  · refine v_aload_n 0 o dX0_goesBefore_11 rfl rfl ?_
    refine v_get (v := .int (σ.2.2.1 2 i)) o dX0_goesBefore_12 cf0 2 (by decide) fl_X0_25 (hR.bk hi) rfl ?_
    refine v_aload_n 1 o dX0_goesBefore_15 rfl rfl ?_
    refine v_get (v := .int (σ.2.2.1 2 k)) o dX0_goesBefore_16 cf0 2 (by decide) fl_X0_25 (hR.bk hk) rfl ?_
    refine v_icmp_ne 37 o dX0_goesBefore_19 (by decide) (fun c19 => ?_) (fun c19 => ?_)
    · refine v_iconst 0 o dX0_goesBefore_37 rfl ?_
      exact v_zret o dX0_goesBefore_38 hr (by decide) (Nat.le_of_ble_eq_true rfl) (Nat.le_of_ble_eq_true rfl) ⟨by rw [show befB σ i k = false by simp [befB, c8, c19]]; rfl, rfl, rfl⟩
    · refine v_aload_n 0 o dX0_goesBefore_22 rfl rfl ?_
      refine v_get (v := .int (σ.2.2.1 1 i)) o dX0_goesBefore_23 cf0 3 (by decide) fl_X0_22 (hR.bk hi) rfl ?_
      refine v_aload_n 1 o dX0_goesBefore_26 rfl rfl ?_
      refine v_get (v := .int (σ.2.2.1 1 k)) o dX0_goesBefore_27 cf0 3 (by decide) fl_X0_22 (hR.bk hk) rfl ?_
      refine v_icmp_ge 37 o dX0_goesBefore_30 (by decide) (fun c30 => ?_) (fun c30 => ?_)
      · refine v_iconst 0 o dX0_goesBefore_37 rfl ?_
        exact v_zret o dX0_goesBefore_38 hr (by decide) (Nat.le_of_ble_eq_true rfl) (Nat.le_of_ble_eq_true rfl) ⟨by rw [show befB σ i k = false by simp [befB, c8, c19, Int32.not_lt.mpr c30]]; rfl, rfl, rfl⟩
      · refine v_iconst 1 o dX0_goesBefore_33 rfl ?_
        refine v_goto 38 o dX0_goesBefore_34 (by decide) ?_
        exact v_zret o dX0_goesBefore_38 hr (by decide) (Nat.le_of_ble_eq_true rfl) (Nat.le_of_ble_eq_true rfl) ⟨by rw [show befB σ i k = true by simp [befB, c8, c19, Int32.not_le.mp c30]]; rfl, rfl, rfl⟩

