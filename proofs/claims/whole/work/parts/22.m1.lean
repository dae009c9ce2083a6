set_option maxRecDepth 100000 in
set_option maxHeartbeats 4000000 in
theorem m_thrown {l : Launch} (hl : l.stackTraces = false) {g : mG} {m z : Nat} {μ0 μ : mM} {σ : Sg} (hR : RM g m μ0 σ μ)  : Ct l g yX6_thrown [Cond.code yX6_thrown cX6_thrown 1 (some .int)] { frames := 0, cells := 0, slots := 0, locals := 0 } [.ref m] μ z (rdP (some (.int (nI (σ.1 3 1)))) μ z) noX := by
  refine Ct.of hl (by decide +kernel) (Nat.le_of_ble_eq_true rfl) ?_
  intro p e s mi args below meth c o hnm hr hx
  have o : Ok p l s mi args meth c g cX6_thrown 1 RX6 := o
  refine v_lv [(0, .ref m)] rfl ?_
  refine v_aload_n 0 o dX6_thrown_0 rfl rfl ?_
  refine v_get (v := .int (nI (σ.1 3 1))) o dX6_thrown_1 cf6 0 (by decide) fl_X6_91 hR.o rfl ?_
  exact v_iret o dX6_thrown_4 hr (Nat.le_of_ble_eq_true rfl) (Nat.le_of_ble_eq_true rfl) ⟨rfl, rfl, rfl⟩

set_option maxRecDepth 100000 in
set_option maxHeartbeats 4000000 in
theorem m_goesWell {l : Launch} (hl : l.stackTraces = false) {g : mG} {m z : Nat} {μ0 μ : mM} {σ : Sg} (hR : RM g m μ0 σ μ) (a : Nat) (ha : a < 2 ^ 31) : Ct l g yX6_goesWell [Cond.code yX6_goesWell cX6_goesWell 2 (some .boolean)] { frames := 0, cells := 0, slots := 0, locals := 0 } [.ref m, .int (nI a)] μ z (wrM g m μ0 (some (.int (bI (decide (a = 0))))) (uN σ 3 1 a) z) noX := by
  refine Ct.of hl (by decide +kernel) (Nat.le_of_ble_eq_true rfl) ?_
  intro p e s mi args below meth c o hnm hr hx
  have o : Ok p l s mi args meth c g cX6_goesWell 2 RX6 := o
  refine v_lv [(0, .ref m), (1, .int (nI a))] rfl ?_
  refine v_aload_n 0 o dX6_goesWell_0 rfl rfl ?_
  refine v_iload_n 1 o dX6_goesWell_1 rfl rfl ?_
  refine v_put _ o dX6_goesWell_2 cf6 0 (by decide) (by decide) fl_X6_91 hR.o rfl rfl (Nat.le_of_ble_eq_true rfl) rfl (fun μ1 e1 => ?_)
  have hR1 := hR.s_thrown (v := a) e1
  refine v_iload_n 1 o dX6_goesWell_5 rfl rfl ?_
  refine v_if_ne_n 13 o dX6_goesWell_6 (by decide) (by omega) (fun c6 => ?_) (fun c6 => ?_)
  · refine v_iconst 0 o dX6_goesWell_13 rfl ?_
    exact v_zret o dX6_goesWell_14 hr (by decide) (Nat.le_of_ble_eq_true rfl) (Nat.le_of_ble_eq_true rfl) ⟨by rw [decide_eq_false c6]; rfl, hR1, rfl⟩
  · refine v_iconst 1 o dX6_goesWell_9 rfl ?_
    refine v_goto 14 o dX6_goesWell_10 (by decide) ?_
    exact v_zret o dX6_goesWell_14 hr (by decide) (Nat.le_of_ble_eq_true rfl) (Nat.le_of_ble_eq_true rfl) ⟨by rw [decide_eq_true c6]; rfl, hR1, rfl⟩

set_option maxRecDepth 100000 in
set_option maxHeartbeats 4000000 in
theorem m_in {l : Launch} (hl : l.stackTraces = false) {g : mG} {m z : Nat} {μ0 μ : mM} {σ : Sg} (hR : RM g m μ0 σ μ) (x a b : Int32) : Ct l g yX6_in [Cond.code yX6_in cX6_in 3 (some .boolean)] { frames := 0, cells := 0, slots := 0, locals := 0 } [.int x, .int a, .int b] μ z (rdP (some (.int (bI (inR x a b)))) μ z) noX := by
  refine Ct.of hl (by decide +kernel) (Nat.le_of_ble_eq_true rfl) ?_
  intro p e s mi args below meth c o hnm hr hx
  have o : Ok p l s mi args meth c g cX6_in 3 RX6 := o
  refine v_lv [(0, .int x), (1, .int a), (2, .int b)] rfl ?_
  refine v_iload_n 0 o dX6_in_0 rfl rfl ?_
  refine v_iload_n 1 o dX6_in_1 rfl rfl ?_
  refine v_icmp_lt 14 o dX6_in_2 (by decide) (fun c2 => ?_) (fun c2 => ?_)
  · refine v_iconst 0 o dX6_in_14 rfl ?_
    exact v_zret o dX6_in_15 hr (by decide) (Nat.le_of_ble_eq_true rfl) (Nat.le_of_ble_eq_true rfl) ⟨by rw [inR_lo c2]; rfl, rfl, rfl⟩
  · refine v_iload_n 0 o dX6_in_5 rfl rfl ?_
    refine v_iload_n 2 o dX6_in_6 rfl rfl ?_
    refine v_icmp_gt 14 o dX6_in_7 (by decide) (fun c7 => ?_) (fun c7 => ?_)
    · refine v_iconst 0 o dX6_in_14 rfl ?_
      exact v_zret o dX6_in_15 hr (by decide) (Nat.le_of_ble_eq_true rfl) (Nat.le_of_ble_eq_true rfl) ⟨by rw [inR_hi c7]; rfl, rfl, rfl⟩
    · refine v_iconst 1 o dX6_in_10 rfl ?_
      refine v_goto 15 o dX6_in_11 (by decide) ?_
      exact v_zret o dX6_in_15 hr (by decide) (Nat.le_of_ble_eq_true rfl) (Nat.le_of_ble_eq_true rfl) ⟨by rw [inR_ok c2 c7]; rfl, rfl, rfl⟩

set_option maxRecDepth 100000 in
set_option maxHeartbeats 4000000 in
theorem m_isBook {l : Launch} (hl : l.stackTraces = false) {g : mG} {m z : Nat} {μ0 μ : mM} {σ : Sg} (hR : RM g m μ0 σ μ) (b : Int32) : Ct l g yX6_isBook [Cond.code yX6_isBook cX6_isBook 2 (some .boolean)] { frames := 1, cells := 0, slots := 0, locals := 22 } [.ref m, .int b] μ z (rdP (some (.int (bI (isB σ b)))) μ z) noX := by
  refine Ct.of hl (by decide +kernel) (Nat.le_of_ble_eq_true rfl) ?_
  intro p e s mi args below meth c o hnm hr hx
  have o : Ok p l s mi args meth c g cX6_isBook 2 RX6 := o
  refine v_lv [(0, .ref m), (1, .int b)] rfl ?_
  refine v_iload_n 1 o dX6_isBook_0 rfl rfl ?_
  refine v_iconst 0 o dX6_isBook_1 rfl ?_
  refine v_aload_n 0 o dX6_isBook_2 rfl rfl ?_
  refine v_get (v := .int (nI (σ.1 3 0))) o dX6_isBook_3 cf6 1 (by decide) fl_X6_94 hR.o rfl ?_
  refine v_iconst 1 o dX6_isBook_6 rfl ?_
  refine v_isub (mI (σ.1 3 0)) o dX6_isBook_7 rfl ?_
  refine v_callSr (v := .int (bI (inR b (nI 0) (mI (σ.1 3 0))))) [.int b, .int (nI 0), .int (mI (σ.1 3 0))] [] o dX6_isBook_8 cw_X6_97 st_X6_in (m_in hl hR b (nI 0) (mI (σ.1 3 0))) rfl rfl (by decide) ⟨rfl, rfl⟩ (by decide) (Nat.le_of_ble_eq_true rfl) ?_
  exact v_zret o dX6_isBook_11 hr (narrow_bI _) (Nat.le_of_ble_eq_true rfl) (Nat.le_of_ble_eq_true rfl) ⟨rfl, rfl, rfl⟩

set_option maxRecDepth 100000 in
set_option maxHeartbeats 4000000 in
theorem m_isPage {l : Launch} (hl : l.stackTraces = false) {g : mG} {m z : Nat} {μ0 μ : mM} {σ : Sg} (hR : RM g m μ0 σ μ) (hI : Inv σ) (b q : Int32) : Ct l g yX6_isPage [Cond.code yX6_isPage cX6_isPage 3 (some .boolean)] { frames := 2, cells := 0, slots := 0, locals := 43 } [.ref m, .int b, .int q] μ z (rdP (some (.int (bI (isP σ b q)))) μ z) noX := by
  refine Ct.of hl (by decide +kernel) (Nat.le_of_ble_eq_true rfl) ?_
  intro p e s mi args below meth c o hnm hr hx
  have o : Ok p l s mi args meth c g cX6_isPage 3 RX6 := o
  refine v_lv [(0, .ref m), (1, .int b), (2, .int q)] rfl ?_
  refine v_aload_n 0 o dX6_isPage_0 rfl rfl ?_
  refine v_iload_n 1 o dX6_isPage_1 rfl rfl ?_
  refine v_callVr (v := .int (bI (isB σ b))) [.int b] [] o dX6_isPage_2 cw_X6_101 im_X6_isBook se_X6_isBook cf6 hR.o (m_isBook hl hR b) rfl rfl (by decide) ⟨rfl, rfl⟩ (by decide) (Nat.le_of_ble_eq_true rfl) ?_
  refine v_if_eq_b 28 o dX6_isPage_5 (by decide) (fun c5 => ?_) (fun c5 => ?_)
  · refine v_iconst 0 o dX6_isPage_28 rfl ?_
    exact v_zret o dX6_isPage_29 hr (by decide) (Nat.le_of_ble_eq_true rfl) (Nat.le_of_ble_eq_true rfl) ⟨by rw [isP_f c5]; rfl, rfl, rfl⟩
  · obtain ⟨i, hi, rfl⟩ := isB_t hI c5
    have h6 := hI.1
    have e9 : isP σ (nI i) q = inR q (nI 0) (mI (σ.1 0 i)) := by unfold isP; rw [c5, tn_nI (by omega)]; rfl
    refine v_iload_n 2 o dX6_isPage_8 rfl rfl ?_
    refine v_iconst 0 o dX6_isPage_9 rfl ?_
    refine v_aload_n 0 o dX6_isPage_10 rfl rfl ?_
    refine v_get (v := .ref (m + 1)) o dX6_isPage_11 cf6 2 (by decide) fl_X6_7 hR.o rfl ?_
    refine v_iload_n 1 o dX6_isPage_14 rfl rfl ?_
    refine v_iald (nI (σ.1 0 i)) o dX6_isPage_15 (by omega) (by decide) hR.a1 rfl ?_
    refine v_iconst 1 o dX6_isPage_16 rfl ?_
    refine v_isub (mI (σ.1 0 i)) o dX6_isPage_17 rfl ?_
    refine v_callSr (v := .int (bI (inR q (nI 0) (mI (σ.1 0 i))))) [.int q, .int (nI 0), .int (mI (σ.1 0 i))] [] o dX6_isPage_18 cw_X6_97 st_X6_in (m_in hl hR q (nI 0) (mI (σ.1 0 i))) rfl rfl (by decide) ⟨rfl, rfl⟩ (by decide) (Nat.le_of_ble_eq_true rfl) ?_
    refine v_if_eq_b 28 o dX6_isPage_21 (by decide) (fun c21 => ?_) (fun c21 => ?_)
    · refine v_iconst 0 o dX6_isPage_28 rfl ?_
      exact v_zret o dX6_isPage_29 hr (by decide) (Nat.le_of_ble_eq_true rfl) (Nat.le_of_ble_eq_true rfl) ⟨by rw [e9, c21]; rfl, rfl, rfl⟩
    · refine v_iconst 1 o dX6_isPage_24 rfl ?_
      refine v_goto 29 o dX6_isPage_25 (by decide) ?_
      exact v_zret o dX6_isPage_29 hr (by decide) (Nat.le_of_ble_eq_true rfl) (Nat.le_of_ble_eq_true rfl) ⟨by rw [e9, c21]; rfl, rfl, rfl⟩

set_option maxRecDepth 100000 in
set_option maxHeartbeats 4000000 in
theorem m_isVault {l : Launch} (hl : l.stackTraces = false) {g : mG} {m z : Nat} {μ0 μ : mM} {σ : Sg} (hR : RM g m μ0 σ μ) (v : Int32) : Ct l g yX6_isVault [Cond.code yX6_isVault cX6_isVault 1 (some .boolean)] { frames := 1, cells := 0, slots := 0, locals := 22 } [.int v] μ z (rdP (some (.int (bI (isV v)))) μ z) noX := by
  refine Ct.of hl (by decide +kernel) (Nat.le_of_ble_eq_true rfl) ?_
  intro p e s mi args below meth c o hnm hr hx
  have o : Ok p l s mi args meth c g cX6_isVault 1 RX6 := o
  refine v_lv [(0, .int v)] rfl ?_
  refine v_iload_n 0 o dX6_isVault_0 rfl rfl ?_
  refine v_iconst 0 o dX6_isVault_1 rfl ?_
  refine v_iconst 3 o dX6_isVault_2 rfl ?_
  refine v_callSr (v := .int (bI (inR v (nI 0) (nI 3)))) [.int v, .int (nI 0), .int (nI 3)] [] o dX6_isVault_3 cw_X6_97 st_X6_in (m_in hl hR v (nI 0) (nI 3)) rfl rfl (by decide) ⟨rfl, rfl⟩ (by decide) (Nat.le_of_ble_eq_true rfl) ?_
  exact v_zret o dX6_isVault_6 hr (narrow_bI _) (Nat.le_of_ble_eq_true rfl) (Nat.le_of_ble_eq_true rfl) ⟨rfl, rfl, rfl⟩

set_option maxRecDepth 100000 in
set_option maxHeartbeats 4000000 in
theorem m_isPlace {l : Launch} (hl : l.stackTraces = false) {g : mG} {m z : Nat} {μ0 μ : mM} {σ : Sg} (hR : RM g m μ0 σ μ) (hI : Inv σ) (b q a : Int32) : Ct l g yX6_isPlace [Cond.code yX6_isPlace cX6_isPlace 4 (some .boolean)] { frames := 3, cells := 0, slots := 0, locals := 65 } [.ref m, .int b, .int q, .int a] μ z (rdP (some (.int (bI (isL σ b q a)))) μ z) noX := by
  refine Ct.of hl (by decide +kernel) (Nat.le_of_ble_eq_true rfl) ?_
  intro p e s mi args below meth c o hnm hr hx
  have o : Ok p l s mi args meth c g cX6_isPlace 4 RX6 := o
  refine v_lv [(0, .ref m), (1, .int b), (2, .int q), (3, .int a)] rfl ?_
  refine v_aload_n 0 o dX6_isPlace_0 rfl rfl ?_
  refine v_iload_n 1 o dX6_isPlace_1 rfl rfl ?_
  refine v_iload_n 2 o dX6_isPlace_2 rfl rfl ?_
  refine v_callVr (v := .int (bI (isP σ b q))) [.int b, .int q] [] o dX6_isPlace_3 cw_X6_105 im_X6_isPage se_X6_isPage cf6 hR.o (m_isPage hl hR hI b q) rfl rfl (by decide) ⟨rfl, rfl⟩ (by decide) (Nat.le_of_ble_eq_true rfl) ?_
  refine v_if_eq_b 22 o dX6_isPlace_6 (by decide) (fun c6 => ?_) (fun c6 => ?_)
  · refine v_iconst 0 o dX6_isPlace_22 rfl ?_
    exact v_zret o dX6_isPlace_23 hr (by decide) (Nat.le_of_ble_eq_true rfl) (Nat.le_of_ble_eq_true rfl) ⟨by rw [(show isL σ b q a = false by unfold isL; rw [c6]; rfl)]; rfl, rfl, rfl⟩
  · refine v_iload_n 3 o dX6_isPlace_9 rfl rfl ?_
    refine v_iconst 0 o dX6_isPlace_10 rfl ?_
    refine v_iconst 3 o dX6_isPlace_11 rfl ?_
    refine v_callSr (v := .int (bI (inR a (nI 0) (nI 3)))) [.int a, .int (nI 0), .int (nI 3)] [] o dX6_isPlace_12 cw_X6_97 st_X6_in (m_in hl hR a (nI 0) (nI 3)) rfl rfl (by decide) ⟨rfl, rfl⟩ (by decide) (Nat.le_of_ble_eq_true rfl) ?_
    refine v_if_eq_b 22 o dX6_isPlace_15 (by decide) (fun c15 => ?_) (fun c15 => ?_)
    · refine v_iconst 0 o dX6_isPlace_22 rfl ?_
      exact v_zret o dX6_isPlace_23 hr (by decide) (Nat.le_of_ble_eq_true rfl) (Nat.le_of_ble_eq_true rfl) ⟨by rw [(show isL σ b q a = false by unfold isL; rw [c6, c15]; rfl)]; rfl, rfl, rfl⟩
    · refine v_iconst 1 o dX6_isPlace_18 rfl ?_
      refine v_goto 23 o dX6_isPlace_19 (by decide) ?_
      exact v_zret o dX6_isPlace_23 hr (by decide) (Nat.le_of_ble_eq_true rfl) (Nat.le_of_ble_eq_true rfl) ⟨by rw [(show isL σ b q a = true by unfold isL; rw [c6, c15]; rfl)]; rfl, rfl, rfl⟩

def prf (x : Int64) : Int64 := x * 6364136223846793005 + 1442695040888963407
set_option maxRecDepth 100000 in
set_option maxHeartbeats 4000000 in
theorem m_proof {l : Launch} (hl : l.stackTraces = false) {g : mG} {m z : Nat} {μ0 μ : mM} {σ : Sg} (hR : RM g m μ0 σ μ) (x : Int64) : Ct l g yX6_proof [Cond.code yX6_proof cX6_proof 2 (some .long)] { frames := 0, cells := 0, slots := 0, locals := 0 } [.long x] μ z (rdP (some (.long (prf x))) μ z) noX := by
  refine Ct.of hl (by decide +kernel) (Nat.le_of_ble_eq_true rfl) ?_
  intro p e s mi args below meth c o hnm hr hx
  have o : Ok p l s mi args meth c g cX6_proof 2 RX6 := o
  refine v_lv [(0, .long x)] rfl ?_
  refine v_lload_n 0 o dX6_proof_0 rfl rfl ?_
  refine v_ldc2 (6364136223846793005) o dX6_proof_1 ct_X6_119 ?_
  refine v_lmul (x * 6364136223846793005) o dX6_proof_4 rfl ?_
  refine v_ldc2 (1442695040888963407) o dX6_proof_5 ct_X6_121 ?_
  refine v_ladd ((x * 6364136223846793005) + 1442695040888963407) o dX6_proof_8 rfl ?_
  exact v_lret o dX6_proof_9 hr (Nat.le_of_ble_eq_true rfl) (Nat.le_of_ble_eq_true rfl) ⟨rfl, rfl, rfl⟩

set_option maxRecDepth 100000 in
set_option maxHeartbeats 4000000 in
theorem m_spot {l : Launch} (hl : l.stackTraces = false) {g : mG} {m z : Nat} {μ0 μ : mM} {σ : Sg} (hR : RM g m μ0 σ μ) (b q a : Nat) : Ct l g yX6_spot [Cond.code yX6_spot cX6_spot 3 (some .int)] { frames := 0, cells := 0, slots := 0, locals := 0 } [.int (nI b), .int (nI q), .int (nI a)] μ z (rdP (some (.int (nI (4 * (12 * b + q) + a)))) μ z) noX := by
  refine Ct.of hl (by decide +kernel) (Nat.le_of_ble_eq_true rfl) ?_
  intro p e s mi args below meth c o hnm hr hx
  have o : Ok p l s mi args meth c g cX6_spot 3 RX6 := o
  refine v_lv [(0, .int (nI b)), (1, .int (nI q)), (2, .int (nI a))] rfl ?_
  refine v_iconst 4 o dX6_spot_0 rfl ?_
  refine v_bipush 12 o dX6_spot_1 (by decide) ?_
  refine v_iload_n 0 o dX6_spot_3 rfl rfl ?_
  refine v_imul (nI (12 * b)) o dX6_spot_4 (pk_mul 12 b) ?_
  refine v_iload_n 1 o dX6_spot_5 rfl rfl ?_
  refine v_iadd (nI (12 * b + q)) o dX6_spot_6 (nI_add (12 * b) q) ?_
  refine v_imul (nI (4 * (12 * b + q))) o dX6_spot_7 (pk_mul 4 (12 * b + q)) ?_
  refine v_iload_n 2 o dX6_spot_8 rfl rfl ?_
  refine v_iadd (nI (4 * (12 * b + q) + a)) o dX6_spot_9 (nI_add (4 * (12 * b + q)) a) ?_
  exact v_iret o dX6_spot_10 hr (Nat.le_of_ble_eq_true rfl) (Nat.le_of_ble_eq_true rfl) ⟨rfl, rfl, rfl⟩

