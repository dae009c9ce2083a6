set_option maxRecDepth 100000 in
set_option maxHeartbeats 4000000 in
theorem k_order {l : Launch} (hl : l.stackTraces = false) {g : mG} {x z z0 : Nat} {B : Nat → Nat} {μ0 μ : mM} {σ τ : Sg} (hR : RC g x B z0 μ0 σ τ μ) (hI : Inv σ) (b q : Int32) : Ct l g yX5_order [Cond.code yX5_order cX5_order 4 (some .int)] { frames := 9, cells := 1, slots := 6, locals := 221 } [.ref x, .int b, .int q] μ z (clP g x z0 μ0 (some (.int (sp_order σ b q).1)) (sp_order σ b q).2) (clX ["java/lang/IndexOutOfBoundsException", "java/lang/IllegalStateException"] σ (sp_order σ b q).2 μ) := by
  cases hB : isB σ b with
  | false =>
    have hP : isP σ b q = false := isP_f hB
    refine Ct.of hl (by decide +kernel) (Nat.le_of_ble_eq_true rfl) ?_
    intro p e s mi args below meth c o hnm hr hx
    have o : Ok p l s mi args meth c g cX5_order 4 RX5 := o
    refine v_lv [(0, .ref x), (1, .int b), (2, .int q)] rfl ?_
    refine v_aload_n 0 o dX5_order_0 rfl rfl ?_
    refine v_iload_n 1 o dX5_order_1 rfl rfl ?_
    refine v_iload_n 2 o dX5_order_2 rfl rfl ?_
    refine v_callV [.int b, .int q] [] o dX5_order_3 cw_X5_183 im_X5_bookToOrder se_X5_bookToOrder cf5 hR.h0 (c_toOrder_b hl hR b q hB) rfl rfl (by decide) (by decide) (Nat.le_of_ble_eq_true rfl) (fun _ _ _ _ h => h.elim) ?_
    rintro _ _ z9 hz ⟨rfl, rfl, -⟩
    exact v_out o hx (by decide) (by decide) ⟨⟨0, (by simp [sp_order, hP] : (sp_order σ b q).2 = th σ 1), rfl⟩, rfl⟩
  | true =>
    obtain ⟨i, hi, rfl⟩ := isB_t hI hB
    have h6 := hI.1
    have h12 := hI.2.1 i
    have ti : tn (nI i) = i := tn_nI (by omega)
    cases hQ : okI q (σ.1 0 i) with
    | false =>
      have hP : isP σ (nI i) q = false := by unfold isP; rw [hB, ti, hQ]; rfl
      refine Ct.of hl (by decide +kernel) (Nat.le_of_ble_eq_true rfl) ?_
      intro p e s mi args below meth c o hnm hr hx
      have o : Ok p l s mi args meth c g cX5_order 4 RX5 := o
      refine v_lv [(0, .ref x), (1, .int (nI i)), (2, .int q)] rfl ?_
      refine v_aload_n 0 o dX5_order_0 rfl rfl ?_
      refine v_iload_n 1 o dX5_order_1 rfl rfl ?_
      refine v_iload_n 2 o dX5_order_2 rfl rfl ?_
      refine v_callV [.int (nI i), .int q] [] o dX5_order_3 cw_X5_183 im_X5_bookToOrder se_X5_bookToOrder cf5 hR.h0 (c_toOrder_q hl hR i q hi hQ) rfl rfl (by decide) (by decide) (Nat.le_of_ble_eq_true rfl) (fun _ _ _ _ h => h.elim) ?_
      rintro _ _ z9 hz ⟨rfl, rfl, -⟩
      exact v_out o hx (by decide) (by decide) ⟨⟨0, (by simp [sp_order, hP] : (sp_order σ (nI i) q).2 = th σ 1), rfl⟩, rfl⟩
    | true =>
      obtain ⟨j, hj, rfl⟩ := okI_t hQ (by omega)
      have hP := isP_nI hI hi hj
      have tj : tn (nI j) = j := tn_nI (by omega)
      by_cases h7 : σ.1 0 i ≤ 7
      · refine Ct.of hl (by decide +kernel) (Nat.le_of_ble_eq_true rfl) ?_
        intro p e s mi args below meth c o hnm hr hx
        have o : Ok p l s mi args meth c g cX5_order 4 RX5 := o
        refine v_lv [(0, .ref x), (1, .int (nI i)), (2, .int (nI j))] rfl ?_
        refine v_aload_n 0 o dX5_order_0 rfl rfl ?_
        refine v_iload_n 1 o dX5_order_1 rfl rfl ?_
        refine v_iload_n 2 o dX5_order_2 rfl rfl ?_
        refine v_callVr (v := .ref (B i)) [.int (nI i), .int (nI j)] [] o dX5_order_3 cw_X5_183 im_X5_bookToOrder se_X5_bookToOrder cf5 hR.h0 (c_toOrder_t hl hR i j hi hj h7) rfl rfl (by decide) ⟨rfl, rfl⟩ (by decide) (Nat.le_of_ble_eq_true rfl) ?_
        refine v_astore_n [(3, .ref (B i)), (0, .ref x), (1, .int (nI i)), (2, .int (nI j))] o dX5_order_6 rfl (by decide) rfl ?_
        refine v_aload_n 1 o dX5_order_7 rfl rfl ?_
        refine v_get (v := .ref (x + 7)) o dX5_order_8 cf5 5 (by decide) fl_X5_29 hR.h0 rfl ?_
        refine v_aload_n 0 o dX5_order_11 rfl rfl ?_
        refine v_get (v := .ref (B i + 1)) o dX5_order_12 cf0 0 (by decide) fl_X5_152 (hR.bk hi) rfl ?_
        refine v_callV [.ref (B i + 1)] [] o dX5_order_15 cw_X5_187 im_X3_findStepByStep se_X3_findStepByStep cf3 hR.h7 (c_step hl hR i hi h7) rfl rfl (by decide) (by decide) (Nat.le_of_ble_eq_true rfl) ?_ (fun _ _ _ _ h => h.elim)
        rintro _ μ9 _ _ ⟨⟨τ9, hR9, (⟨L, hL, rfl, hmL⟩ | ⟨hN, rfl⟩)⟩, rfl⟩
        · refine v_st [.int (bI true)] rfl ?_
          refine v_if_eq_b 32 o dX5_order_18 (by decide) (fun c18 => absurd c18 (by simp_all)) (fun c18 => ?_)
          refine v_aload_n 1 o dX5_order_21 rfl rfl ?_
          refine v_get (v := .ref (x + 7)) o dX5_order_22 cf5 5 (by decide) fl_X5_29 hR9.h0 rfl ?_
          refine v_iload_n 3 o dX5_order_25 rfl rfl ?_
          refine v_callVr (v := .int (nI (τ9.1 0 j))) [.int (nI j)] [] o dX5_order_26 cw_X5_191 im_X3_pageAtPlace se_X3_pageAtPlace cf3 hR9.h7 (c_pageAtPlace hl hR9 j (by omega)) rfl rfl (by decide) ⟨rfl, rfl⟩ (by decide) (Nat.le_of_ble_eq_true rfl) ?_
          refine v_goto 33 o dX5_order_29 (by decide) ?_
          have e9 : sp_order σ (nI i) (nI j) = (mI (ordN σ i j), th σ 0) := by simp [sp_order, hP, ti, tj, Nat.not_lt.mpr h7]
          have eL : L.length = σ.1 0 i := by have := dfs_len _ _ _ hL; simpa using this
          exact v_iret o dX5_order_33 hr (Nat.le_of_ble_eq_true rfl) (Nat.le_of_ble_eq_true rfl) (by rw [e9]; exact ⟨by unfold ordN; rw [hL]; show some (Value.int (nI (τ9.1 0 j))) = some (Value.int (mI (rowAt L j + 1))); rw [mI_s, mr_at L j hmL (by omega)], rfl, _, _, hR9.thk 0⟩)
        · refine v_st [.int (bI false)] rfl ?_
          refine v_if_eq_b 32 o dX5_order_18 (by decide) (fun c18 => ?_) (fun c18 => absurd c18 (by simp_all))
          refine v_iconst_i (-1) o dX5_order_32 (by decide) ?_
          have e9 : sp_order σ (nI i) (nI j) = (mI (ordN σ i j), th σ 0) := by simp [sp_order, hP, ti, tj, Nat.not_lt.mpr h7]
          exact v_iret o dX5_order_33 hr (Nat.le_of_ble_eq_true rfl) (Nat.le_of_ble_eq_true rfl) (by rw [e9]; exact ⟨by unfold ordN; rw [hN]; exact congrArg (fun q => some (Value.int q)) mI_0.symm, rfl, _, _, hR9.thk 0⟩)
      · have h7l : 7 < σ.1 0 i := by omega
        refine Ct.of hl (by decide +kernel) (Nat.le_of_ble_eq_true rfl) ?_
        intro p e s mi args below meth c o hnm hr hx
        have o : Ok p l s mi args meth c g cX5_order 4 RX5 := o
        refine v_lv [(0, .ref x), (1, .int (nI i)), (2, .int (nI j))] rfl ?_
        refine v_aload_n 0 o dX5_order_0 rfl rfl ?_
        refine v_iload_n 1 o dX5_order_1 rfl rfl ?_
        refine v_iload_n 2 o dX5_order_2 rfl rfl ?_
        refine v_callV [.int (nI i), .int (nI j)] [] o dX5_order_3 cw_X5_183 im_X5_bookToOrder se_X5_bookToOrder cf5 hR.h0 (c_toOrder_7 hl hR i j hi hj h7) rfl rfl (by decide) (by decide) (Nat.le_of_ble_eq_true rfl) (fun _ _ _ _ h => h.elim) ?_
        rintro _ _ z9 hz ⟨rfl, rfl, -⟩
        exact v_out o hx (by decide) (by decide) ⟨⟨1, (by simp [sp_order, hP, ti, h7l] : (sp_order σ (nI i) (nI j)).2 = th σ 2), rfl⟩, rfl⟩

set_option maxRecDepth 100000 in
set_option maxHeartbeats 4000000 in
theorem k_orderAnew {l : Launch} (hl : l.stackTraces = false) {g : mG} {x z z0 : Nat} {B : Nat → Nat} {μ0 μ : mM} {σ τ : Sg} (hR : RC g x B z0 μ0 σ τ μ) (hI : Inv σ) (b q : Int32) : Ct l g yX5_orderAnew [Cond.code yX5_orderAnew cX5_orderAnew 4 (some .int)] { frames := 8, cells := 1, slots := 6, locals := 127 } [.ref x, .int b, .int q] μ z (clP g x z0 μ0 (some (.int (sp_order σ b q).1)) (sp_order σ b q).2) (clX ["java/lang/IndexOutOfBoundsException", "java/lang/IllegalStateException"] σ (sp_order σ b q).2 μ) := by
  cases hB : isB σ b with
  | false =>
    have hP : isP σ b q = false := isP_f hB
    refine Ct.of hl (by decide +kernel) (Nat.le_of_ble_eq_true rfl) ?_
    intro p e s mi args below meth c o hnm hr hx
    have o : Ok p l s mi args meth c g cX5_orderAnew 4 RX5 := o
    refine v_lv [(0, .ref x), (1, .int b), (2, .int q)] rfl ?_
    refine v_aload_n 0 o dX5_orderAnew_0 rfl rfl ?_
    refine v_iload_n 1 o dX5_orderAnew_1 rfl rfl ?_
    refine v_iload_n 2 o dX5_orderAnew_2 rfl rfl ?_
    refine v_callV [.int b, .int q] [] o dX5_orderAnew_3 cw_X5_183 im_X5_bookToOrder se_X5_bookToOrder cf5 hR.h0 (c_toOrder_b hl hR b q hB) rfl rfl (by decide) (by decide) (Nat.le_of_ble_eq_true rfl) (fun _ _ _ _ h => h.elim) ?_
    rintro _ _ z9 hz ⟨rfl, rfl, -⟩
    exact v_out o hx (by decide) (by decide) ⟨⟨0, (by simp [sp_order, hP] : (sp_order σ b q).2 = th σ 1), rfl⟩, rfl⟩
  | true =>
    obtain ⟨i, hi, rfl⟩ := isB_t hI hB
    have h6 := hI.1
    have h12 := hI.2.1 i
    have ti : tn (nI i) = i := tn_nI (by omega)
    cases hQ : okI q (σ.1 0 i) with
    | false =>
      have hP : isP σ (nI i) q = false := by unfold isP; rw [hB, ti, hQ]; rfl
      refine Ct.of hl (by decide +kernel) (Nat.le_of_ble_eq_true rfl) ?_
      intro p e s mi args below meth c o hnm hr hx
      have o : Ok p l s mi args meth c g cX5_orderAnew 4 RX5 := o
      refine v_lv [(0, .ref x), (1, .int (nI i)), (2, .int q)] rfl ?_
      refine v_aload_n 0 o dX5_orderAnew_0 rfl rfl ?_
      refine v_iload_n 1 o dX5_orderAnew_1 rfl rfl ?_
      refine v_iload_n 2 o dX5_orderAnew_2 rfl rfl ?_
      refine v_callV [.int (nI i), .int q] [] o dX5_orderAnew_3 cw_X5_183 im_X5_bookToOrder se_X5_bookToOrder cf5 hR.h0 (c_toOrder_q hl hR i q hi hQ) rfl rfl (by decide) (by decide) (Nat.le_of_ble_eq_true rfl) (fun _ _ _ _ h => h.elim) ?_
      rintro _ _ z9 hz ⟨rfl, rfl, -⟩
      exact v_out o hx (by decide) (by decide) ⟨⟨0, (by simp [sp_order, hP] : (sp_order σ (nI i) q).2 = th σ 1), rfl⟩, rfl⟩
    | true =>
      obtain ⟨j, hj, rfl⟩ := okI_t hQ (by omega)
      have hP := isP_nI hI hi hj
      have tj : tn (nI j) = j := tn_nI (by omega)
      by_cases h7 : σ.1 0 i ≤ 7
      · refine Ct.of hl (by decide +kernel) (Nat.le_of_ble_eq_true rfl) ?_
        intro p e s mi args below meth c o hnm hr hx
        have o : Ok p l s mi args meth c g cX5_orderAnew 4 RX5 := o
        refine v_lv [(0, .ref x), (1, .int (nI i)), (2, .int (nI j))] rfl ?_
        refine v_aload_n 0 o dX5_orderAnew_0 rfl rfl ?_
        refine v_iload_n 1 o dX5_orderAnew_1 rfl rfl ?_
        refine v_iload_n 2 o dX5_orderAnew_2 rfl rfl ?_
        refine v_callVr (v := .ref (B i)) [.int (nI i), .int (nI j)] [] o dX5_orderAnew_3 cw_X5_183 im_X5_bookToOrder se_X5_bookToOrder cf5 hR.h0 (c_toOrder_t hl hR i j hi hj h7) rfl rfl (by decide) ⟨rfl, rfl⟩ (by decide) (Nat.le_of_ble_eq_true rfl) ?_
        refine v_astore_n [(3, .ref (B i)), (0, .ref x), (1, .int (nI i)), (2, .int (nI j))] o dX5_orderAnew_6 rfl (by decide) rfl ?_
        refine v_aload_n 1 o dX5_orderAnew_7 rfl rfl ?_
        refine v_get (v := .ref (x + 7)) o dX5_orderAnew_8 cf5 5 (by decide) fl_X5_29 hR.h0 rfl ?_
        refine v_aload_n 0 o dX5_orderAnew_11 rfl rfl ?_
        refine v_get (v := .ref (B i + 1)) o dX5_orderAnew_12 cf0 0 (by decide) fl_X5_152 (hR.bk hi) rfl ?_
        refine v_callV [.ref (B i + 1)] [] o dX5_orderAnew_15 cw_X5_194 im_X3_findByAllRows se_X3_findByAllRows cf3 hR.h7 (c_allRows hl hR i hi (hI.2.2.2.2.1 i hi) h7) rfl rfl (by decide) (by decide) (Nat.le_of_ble_eq_true rfl) ?_ (fun _ _ _ _ h => h.elim)
        rintro _ μ9 _ _ ⟨⟨τ9, hR9, (⟨L, hL, rfl, hmL⟩ | ⟨hN, rfl⟩)⟩, rfl⟩
        · refine v_st [.int (bI true)] rfl ?_
          refine v_if_eq_b 32 o dX5_orderAnew_18 (by decide) (fun c18 => absurd c18 (by simp_all)) (fun c18 => ?_)
          refine v_aload_n 1 o dX5_orderAnew_21 rfl rfl ?_
          refine v_get (v := .ref (x + 7)) o dX5_orderAnew_22 cf5 5 (by decide) fl_X5_29 hR9.h0 rfl ?_
          refine v_iload_n 3 o dX5_orderAnew_25 rfl rfl ?_
          refine v_callVr (v := .int (nI (τ9.1 0 j))) [.int (nI j)] [] o dX5_orderAnew_26 cw_X5_191 im_X3_pageAtPlace se_X3_pageAtPlace cf3 hR9.h7 (c_pageAtPlace hl hR9 j (by omega)) rfl rfl (by decide) ⟨rfl, rfl⟩ (by decide) (Nat.le_of_ble_eq_true rfl) ?_
          refine v_goto 33 o dX5_orderAnew_29 (by decide) ?_
          have e9 : sp_order σ (nI i) (nI j) = (mI (ordN σ i j), th σ 0) := by simp [sp_order, hP, ti, tj, Nat.not_lt.mpr h7]
          have eL : L.length = σ.1 0 i := by have := dfs_len _ _ _ hL; simpa using this
          exact v_iret o dX5_orderAnew_33 hr (Nat.le_of_ble_eq_true rfl) (Nat.le_of_ble_eq_true rfl) (by rw [e9]; exact ⟨by unfold ordN; rw [hL]; show some (Value.int (nI (τ9.1 0 j))) = some (Value.int (mI (rowAt L j + 1))); rw [mI_s, mr_at L j hmL (by omega)], rfl, _, _, hR9.thk 0⟩)
        · refine v_st [.int (bI false)] rfl ?_
          refine v_if_eq_b 32 o dX5_orderAnew_18 (by decide) (fun c18 => ?_) (fun c18 => absurd c18 (by simp_all))
          refine v_iconst_i (-1) o dX5_orderAnew_32 (by decide) ?_
          have e9 : sp_order σ (nI i) (nI j) = (mI (ordN σ i j), th σ 0) := by simp [sp_order, hP, ti, tj, Nat.not_lt.mpr h7]
          exact v_iret o dX5_orderAnew_33 hr (Nat.le_of_ble_eq_true rfl) (Nat.le_of_ble_eq_true rfl) (by rw [e9]; exact ⟨by unfold ordN; rw [hN]; exact congrArg (fun q => some (Value.int q)) mI_0.symm, rfl, _, _, hR9.thk 0⟩)
      · have h7l : 7 < σ.1 0 i := by omega
        refine Ct.of hl (by decide +kernel) (Nat.le_of_ble_eq_true rfl) ?_
        intro p e s mi args below meth c o hnm hr hx
        have o : Ok p l s mi args meth c g cX5_orderAnew 4 RX5 := o
        refine v_lv [(0, .ref x), (1, .int (nI i)), (2, .int (nI j))] rfl ?_
        refine v_aload_n 0 o dX5_orderAnew_0 rfl rfl ?_
        refine v_iload_n 1 o dX5_orderAnew_1 rfl rfl ?_
        refine v_iload_n 2 o dX5_orderAnew_2 rfl rfl ?_
        refine v_callV [.int (nI i), .int (nI j)] [] o dX5_orderAnew_3 cw_X5_183 im_X5_bookToOrder se_X5_bookToOrder cf5 hR.h0 (c_toOrder_7 hl hR i j hi hj h7) rfl rfl (by decide) (by decide) (Nat.le_of_ble_eq_true rfl) (fun _ _ _ _ h => h.elim) ?_
        rintro _ _ z9 hz ⟨rfl, rfl, -⟩
        exact v_out o hx (by decide) (by decide) ⟨⟨1, (by simp [sp_order, hP, ti, h7l] : (sp_order σ (nI i) (nI j)).2 = th σ 2), rfl⟩, rfl⟩

set_option maxRecDepth 100000 in
set_option maxHeartbeats 4000000 in
theorem k_check {l : Launch} (hl : l.stackTraces = false) {g : mG} {x z z0 : Nat} {B : Nat → Nat} {μ0 μ : mM} {σ τ : Sg} (hR : RC g x B z0 μ0 σ τ μ) (hI : Inv σ) (v b : Int32) : Ct l g yX5_check [Cond.code yX5_check cX5_check 4 (some .int)] { frames := 7, cells := 1, slots := 6, locals := 104 } [.ref x, .int v, .int b] μ z (clP g x z0 μ0 (some (.int (sp_check σ v b).1)) (sp_check σ v b).2) (clX ["java/lang/IndexOutOfBoundsException"] σ (sp_check σ v b).2 μ) := by
  cases hV : isV v with
  | false =>
    have hO : okI v 4 = false := by rw [← isV_ok]; exact hV
    refine Ct.of hl (by decide +kernel) (Nat.le_of_ble_eq_true rfl) ?_
    intro p e s mi args below meth c o hnm hr hx
    have o : Ok p l s mi args meth c g cX5_check 4 RX5 := o
    refine v_lv [(0, .ref x), (1, .int v), (2, .int b)] rfl ?_
    refine v_iload_n 1 o dX5_check_0 rfl rfl ?_
    refine v_callS [.int v] [] o dX5_check_1 cw_X5_127 st_X5_needVault (c_needVault_f hl v hO) rfl rfl (by decide) (by decide) (Nat.le_of_ble_eq_true rfl) (fun _ _ _ _ h => h.elim) ?_
    rintro _ _ z9 hz ⟨rfl, rfl, -⟩
    exact v_out o hx (by decide) (by decide) ⟨⟨0, (by simp [sp_check, hV] : (sp_check σ v b).2 = th σ 1), rfl⟩, rfl⟩
  | true =>
    obtain ⟨vn, hv, rfl⟩ := isV_t hV
    have tv : tn (nI vn) = vn := tn_nI (by omega)
    cases hB : isB σ b with
    | false =>
      refine Ct.of hl (by decide +kernel) (Nat.le_of_ble_eq_true rfl) ?_
      intro p e s mi args below meth c o hnm hr hx
      have o : Ok p l s mi args meth c g cX5_check 4 RX5 := o
      refine v_lv [(0, .ref x), (1, .int (nI vn)), (2, .int b)] rfl ?_
      refine v_iload_n 1 o dX5_check_0 rfl rfl ?_
      refine v_callS [.int (nI vn)] [] o dX5_check_1 cw_X5_127 st_X5_needVault (c_needVault_t hl vn (by omega)) rfl rfl (by decide) (by decide) (Nat.le_of_ble_eq_true rfl) ?_ (fun _ _ _ _ h => h.elim)
      rintro _ _ _ _ ⟨rfl, rfl, hz9⟩
      subst hz9
      refine v_st [] rfl ?_
      refine v_aload_n 0 o dX5_check_4 rfl rfl ?_
      refine v_iload_n 2 o dX5_check_5 rfl rfl ?_
      refine v_callV [.int b] [] o dX5_check_6 cw_X5_79 im_X5_bookAt se_X5_bookAt cf5 hR.h0 (c_bookAt_f hl hR b hB) rfl rfl (by decide) (by decide) (Nat.le_of_ble_eq_true rfl) (fun _ _ _ _ h => h.elim) ?_
      rintro _ _ z9 hz ⟨rfl, rfl, -⟩
      exact v_out o hx (by decide) (by decide) ⟨⟨0, (by simp [sp_check, hV, hB] : (sp_check σ (nI vn) b).2 = th σ 1), rfl⟩, rfl⟩
    | true =>
      obtain ⟨i, hi, rfl⟩ := isB_t hI hB
      have h6 := hI.1
      have h12 := hI.2.1 i
      have ti : tn (nI i) = i := tn_nI (by omega)
      refine Ct.of hl (by decide +kernel) (Nat.le_of_ble_eq_true rfl) ?_
      intro p e s mi args below meth c o hnm hr hx
      have o : Ok p l s mi args meth c g cX5_check 4 RX5 := o
      refine v_lv [(0, .ref x), (1, .int (nI vn)), (2, .int (nI i))] rfl ?_
      refine v_iload_n 1 o dX5_check_0 rfl rfl ?_
      refine v_callS [.int (nI vn)] [] o dX5_check_1 cw_X5_127 st_X5_needVault (c_needVault_t hl vn (by omega)) rfl rfl (by decide) (by decide) (Nat.le_of_ble_eq_true rfl) ?_ (fun _ _ _ _ h => h.elim)
      rintro _ _ _ _ ⟨rfl, rfl, hz9⟩
      subst hz9
      refine v_st [] rfl ?_
      refine v_aload_n 0 o dX5_check_4 rfl rfl ?_
      refine v_iload_n 2 o dX5_check_5 rfl rfl ?_
      refine v_callVr (v := .ref (B i)) [.int (nI i)] [] o dX5_check_6 cw_X5_79 im_X5_bookAt se_X5_bookAt cf5 hR.h0 (c_bookAt_t hl hR i hi) rfl rfl (by decide) ⟨rfl, rfl⟩ (by decide) (Nat.le_of_ble_eq_true rfl) ?_
      refine v_astore_n [(3, .ref (B i)), (0, .ref x), (1, .int (nI vn)), (2, .int (nI i))] o dX5_check_9 rfl (by decide) rfl ?_
      refine v_aload_n 1 o dX5_check_10 rfl rfl ?_
      refine v_get (v := .ref (x + 3)) o dX5_check_11 cf5 4 (by decide) fl_X5_22 hR.h0 rfl ?_
      refine v_aload_n 0 o dX5_check_14 rfl rfl ?_
      refine v_get (v := .ref (B i + 1)) o dX5_check_15 cf0 0 (by decide) fl_X5_152 (hR.bk hi) rfl ?_
      refine v_iload_n 2 o dX5_check_18 rfl rfl ?_
      refine v_callV [.ref (B i + 1), .int (nI vn)] [] o dX5_check_19 cw_X5_156 im_X4_plant se_X4_plant cf4 hR.h3 (c_plant hl hR i hi vn (by omega)) rfl rfl (by decide) (by decide) (Nat.le_of_ble_eq_true rfl) ?_ (fun _ _ _ _ h => h.elim)
      rintro _ μ1 _ _ ⟨rfl, ⟨τ1, hR1, hJ⟩, rfl⟩
      refine v_st [] rfl ?_
      refine v_aload_n 1 o dX5_check_22 rfl rfl ?_
      refine v_get (v := .ref (x + 3)) o dX5_check_23 cf5 4 (by decide) fl_X5_22 hR1.h0 rfl ?_
      refine v_callV [] [] o dX5_check_26 cw_X5_160 im_X4_findUnlikeLeaves se_X4_findUnlikeLeaves cf4 hR1.h3 (c_unlike hl hR1 i vn hJ) rfl rfl (by decide) (by decide) (Nat.le_of_ble_eq_true rfl) ?_ (fun _ _ _ _ h => h.elim)
      rintro _ μ2 _ _ ⟨rfl, ⟨τ2, hR2⟩, rfl⟩
      refine v_st [.int (toldF (fun k => seenB σ vn i k && neB σ vn i k) 31)] rfl ?_
      have e9 : sp_check σ (nI vn) (nI i) = (toldF (fun k => seenB σ vn i k && neB σ vn i k) 31, uN (th σ 0) 3 2 (cnt (seenB σ vn i) 31)) := by simp [sp_check, th, hV, hB, ti, tv]
      exact v_iret o dX5_check_29 hr (Nat.le_of_ble_eq_true rfl) (Nat.le_of_ble_eq_true rfl) (by rw [e9]; exact ⟨rfl, rfl, _, _, hR2.th3 0⟩)

set_option maxRecDepth 100000 in
set_option maxHeartbeats 4000000 in
theorem k_pay_t {l : Launch} (hl : l.stackTraces = false) {g : mG} {x z z0 : Nat} {B : Nat → Nat} {μ0 μ : mM} {σ τ : Sg} (hR : RC g x B z0 μ0 σ τ μ) (hI : Inv σ) (u : Nat) (hu : u < 5) : Ct l g yX5_pay [Cond.code yX5_pay cX5_pay 7 (some .int)] { frames := 7, cells := 1, slots := 6, locals := 102 } [.ref x, .int (nI u)] μ z (clP g x z0 μ0 (some (.int (nI (cnt (fun k => decide (0 < σ.1 2 (5 * k + u))) 288 * trustN σ u / 10)))) (th σ 0)) (clX ["java/lang/IndexOutOfBoundsException"] σ (th σ 0) μ) := by
  refine Ct.of hl (by decide +kernel) (Nat.le_of_ble_eq_true rfl) ?_
  intro p e s mi args below meth c o hnm hr hx
  have o : Ok p l s mi args meth c g cX5_pay 7 RX5 := o
  refine v_lv [(0, .ref x), (1, .int (nI u))] rfl ?_
  have h6 := hR.nb
  have T : ∀ d i, i + d = 6 → σ.1 3 0 ≤ i → V p l e { frames := 7, cells := 1, slots := 6, locals := 102 } s mi args below meth c (vx_MQ below (cQc g (clP g x z0 μ0 (some (.int (nI (cnt (fun k => decide (0 < σ.1 2 (5 * k + u))) 288 * trustN σ u / 10)))) (th σ 0))) (cXC g (clX ["java/lang/IndexOutOfBoundsException"] σ (th σ 0) μ)) args s ({ frames := 7, cells := 1, slots := 6, locals := 102 } : Room).cells ({ frames := 7, cells := 1, slots := 6, locals := 102 } : Room).slots (gA g)) g μ z 0 0 18 [(0, .ref x), (1, .int (nI u)), (2, .int (nI (cnt (fun k => decide (0 < σ.1 2 (5 * k + u))) 288))), (3, .ref (x + 1)), (4, .int (nI 6)), (5, .int (nI i))] [] := by
    intro d
    induction d with
    | zero =>
      intro i hi6 hn
      have hcj := cnt_le (fun k => decide (0 < σ.1 2 (5 * k + u))) 288
      refine v_iload 5 o dX5_pay_18 rfl ?_
      refine v_iload 4 o dX5_pay_20 rfl ?_
      refine v_icmp_ge_n 51 o dX5_pay_22 (by decide) (by omega) (by decide) (fun c22 => ?_) (fun c22 => absurd c22 (by omega))
      refine v_iload_n 2 o dX5_pay_51 rfl rfl ?_
      refine v_aload_n 0 o dX5_pay_52 rfl rfl ?_
      refine v_iload_n 1 o dX5_pay_53 rfl rfl ?_
      refine v_callVr (v := .int (nI (trustN σ u))) [.int (nI u)] [.int (nI (cnt (fun k => decide (0 < σ.1 2 (5 * k + u))) 288))] o dX5_pay_54 cw_X5_210 im_X5_trustIn se_X5_trustIn cf5 hR.h0 (c_trustIn hl hR hI u (by omega)) rfl rfl (by decide) ⟨rfl, rfl⟩ (by decide) (Nat.le_of_ble_eq_true rfl) ?_
      refine v_imul (nI ((cnt (fun k => decide (0 < σ.1 2 (5 * k + u))) 288) * (trustN σ u))) o dX5_pay_57 (pk_mul (cnt (fun k => decide (0 < σ.1 2 (5 * k + u))) 288) (trustN σ u)) ?_
      refine v_bipush 10 o dX5_pay_58 (by decide) ?_
      refine v_idiv (nI (((cnt (fun k => decide (0 < σ.1 2 (5 * k + u))) 288) * (trustN σ u)) / 10)) o dX5_pay_60 (by decide) (pk_div (by have := Nat.mul_le_mul hcj (trustN_le σ u); omega) (by decide) (by decide)) ?_
      exact v_iret o dX5_pay_61 hr (Nat.le_of_ble_eq_true rfl) (Nat.le_of_ble_eq_true rfl) ⟨rfl, rfl, _, _, hR.thk 0⟩
    | succ d ih =>
      intro i hid hge
      have hi6 : i < 6 := by omega
      have hn : ¬ i < σ.1 3 0 := by omega
      refine v_iload 5 o dX5_pay_18 rfl ?_
      refine v_iload 4 o dX5_pay_20 rfl ?_
      refine v_icmp_ge_n 51 o dX5_pay_22 (by decide) (by omega) (by decide) (fun c22 => absurd c22 (by omega)) (fun c22 => ?_)
      refine v_aload_n 3 o dX5_pay_25 rfl rfl ?_
      refine v_iload 5 o dX5_pay_26 rfl ?_
      refine v_aald (t0 := 4) .null o dX5_pay_28 rfl hi6 (by decide) hR.h1 (by simp only [if_neg (show ¬ i < σ.1 3 0 from hn)]; rfl) ?_
      refine v_anstore [(6, .null), (0, .ref x), (1, .int (nI u)), (2, .int (nI (cnt (fun k => decide (0 < σ.1 2 (5 * k + u))) 288))), (3, .ref (x + 1)), (4, .int (nI 6)), (5, .int (nI i))] o dX5_pay_29 (by decide) rfl ?_
      refine v_anload 0 o dX5_pay_31 rfl ?_
      refine v_ifnullN 45 o dX5_pay_33 (by decide) ?_
      refine v_iinc (nI (i + 1)) [(5, .int (nI (i + 1))), (6, .null), (0, .ref x), (1, .int (nI u)), (2, .int (nI (cnt (fun k => decide (0 < σ.1 2 (5 * k + u))) 288))), (3, .ref (x + 1)), (4, .int (nI 6))] o dX5_pay_45 6 rfl (iinc_n i 1) (by decide) rfl ?_
      refine v_goto 18 o dX5_pay_48 (by decide) ?_
      refine v_sub [(0, .ref x), (1, .int (nI u)), (2, .int (nI (cnt (fun k => decide (0 < σ.1 2 (5 * k + u))) 288))), (3, .ref (x + 1)), (4, .int (nI 6)), (5, .int (nI (i + 1)))] [2, 3, 4, 5, 6, 0] rfl ?_
      exact ih (i + 1) (by omega) (by omega)
  have L : ∀ d i, i + d = σ.1 3 0 → V p l e { frames := 7, cells := 1, slots := 6, locals := 102 } s mi args below meth c (vx_MQ below (cQc g (clP g x z0 μ0 (some (.int (nI (cnt (fun k => decide (0 < σ.1 2 (5 * k + u))) 288 * trustN σ u / 10)))) (th σ 0))) (cXC g (clX ["java/lang/IndexOutOfBoundsException"] σ (th σ 0) μ)) args s ({ frames := 7, cells := 1, slots := 6, locals := 102 } : Room).cells ({ frames := 7, cells := 1, slots := 6, locals := 102 } : Room).slots (gA g)) g μ z 0 0 18 [(0, .ref x), (1, .int (nI u)), (2, .int (nI (cnt (fun k => decide (0 < σ.1 2 (5 * k + u))) (48 * i)))), (3, .ref (x + 1)), (4, .int (nI 6)), (5, .int (nI i))] [] := by
    intro d
    induction d with
    | zero =>
      intro i hie
      refine v_lv [(0, .ref x), (1, .int (nI u)), (2, .int (nI (cnt (fun k => decide (0 < σ.1 2 (5 * k + u))) 288))), (3, .ref (x + 1)), (4, .int (nI 6)), (5, .int (nI i))] (by rw [(Off.key hI hu).tl (by omega) (by omega)]) ?_
      exact T (6 - i) i (by omega) (by omega)
    | succ d ih =>
      intro i hid
      have hi : i < σ.1 3 0 := by omega
      refine v_iload 5 o dX5_pay_18 rfl ?_
      refine v_iload 4 o dX5_pay_20 rfl ?_
      refine v_icmp_ge_n 51 o dX5_pay_22 (by decide) (by omega) (by decide) (fun c22 => absurd c22 (by omega)) (fun c22 => ?_)
      refine v_aload_n 3 o dX5_pay_25 rfl rfl ?_
      refine v_iload 5 o dX5_pay_26 rfl ?_
      refine v_aald (t0 := 4) (.ref (B i)) o dX5_pay_28 rfl (by omega) (by decide) hR.h1 (by simp only [if_pos (show i < σ.1 3 0 from hi)]; rfl) ?_
      refine v_astore [(6, .ref (B i)), (0, .ref x), (1, .int (nI u)), (2, .int (nI (cnt (fun k => decide (0 < σ.1 2 (5 * k + u))) (48 * i)))), (3, .ref (x + 1)), (4, .int (nI 6)), (5, .int (nI i))] o dX5_pay_29 (by decide) rfl ?_
      refine v_aload 0 o dX5_pay_31 rfl ?_
      refine v_ifnull o dX5_pay_33 ?_
      refine v_iload_n 3 o dX5_pay_36 rfl rfl ?_
      refine v_aload 0 o dX5_pay_37 rfl ?_
      refine v_iload_n 2 o dX5_pay_39 rfl rfl ?_
      refine v_callVr (v := .int (nI (cnt (fun k => decide (0 < σ.1 2 (5 * (48 * i + k) + u))) (4 * σ.1 0 i)))) [.int (nI u)] [.int (nI (cnt (fun k => decide (0 < σ.1 2 (5 * k + u))) (48 * i)))] o dX5_pay_40 cw_X5_213 im_X0_placesKeyedBy se_X0_placesKeyedBy cf0 (hR.bk hi) (c_placesKeyed hl hR i hi u (by omega) ⟨hI.2.2.1, hI.2.2.2.1⟩) rfl rfl (by decide) ⟨rfl, rfl⟩ (by decide) (Nat.le_of_ble_eq_true rfl) ?_
      refine v_iadd (nI ((cnt (fun k => decide (0 < σ.1 2 (5 * k + u))) (48 * i)) + (cnt (fun k => decide (0 < σ.1 2 (5 * (48 * i + k) + u))) (4 * σ.1 0 i)))) o dX5_pay_43 (nI_add (cnt (fun k => decide (0 < σ.1 2 (5 * k + u))) (48 * i)) (cnt (fun k => decide (0 < σ.1 2 (5 * (48 * i + k) + u))) (4 * σ.1 0 i))) ?_
      refine v_istore_n [(2, .int (nI ((cnt (fun k => decide (0 < σ.1 2 (5 * k + u))) (48 * i)) + (cnt (fun k => decide (0 < σ.1 2 (5 * (48 * i + k) + u))) (4 * σ.1 0 i))))), (6, .ref (B i)), (0, .ref x), (1, .int (nI u)), (3, .ref (x + 1)), (4, .int (nI 6)), (5, .int (nI i))] o dX5_pay_44 rfl (by decide) rfl ?_
      refine v_iinc (nI (i + 1)) [(5, .int (nI (i + 1))), (2, .int (nI ((cnt (fun k => decide (0 < σ.1 2 (5 * k + u))) (48 * i)) + (cnt (fun k => decide (0 < σ.1 2 (5 * (48 * i + k) + u))) (4 * σ.1 0 i))))), (6, .ref (B i)), (0, .ref x), (1, .int (nI u)), (3, .ref (x + 1)), (4, .int (nI 6))] o dX5_pay_45 6 rfl (iinc_n i 1) (by decide) rfl ?_
      refine v_goto 18 o dX5_pay_48 (by decide) ?_
      refine v_sub [(0, .ref x), (1, .int (nI u)), (2, .int (nI ((cnt (fun k => decide (0 < σ.1 2 (5 * k + u))) (48 * i)) + (cnt (fun k => decide (0 < σ.1 2 (5 * (48 * i + k) + u))) (4 * σ.1 0 i))))), (3, .ref (x + 1)), (4, .int (nI 6)), (5, .int (nI (i + 1)))] [3, 4, 1, 5, 6, 0] rfl ?_
      refine v_lv [(0, .ref x), (1, .int (nI u)), (2, .int (nI (cnt (fun k => decide (0 < σ.1 2 (5 * k + u))) (48 * (i + 1))))), (3, .ref (x + 1)), (4, .int (nI 6)), (5, .int (nI (i + 1)))] (by rw [(Off.key hI hu).bk (by omega) (hR.np i)]) ?_
      exact ih (i + 1) (by omega)
  refine v_iload_n 1 o dX5_pay_0 rfl rfl ?_
  refine v_callS [.int (nI u)] [] o dX5_pay_1 cw_X5_203 st_X5_needKeyer (c_needKeyer_t hl u (by omega)) rfl rfl (by decide) (by decide) (Nat.le_of_ble_eq_true rfl) ?_ (fun _ _ _ _ h => h.elim)
  rintro _ _ _ _ ⟨rfl, rfl, hz9⟩
  subst hz9
  refine v_st [] rfl ?_
  refine v_iconst 0 o dX5_pay_4 rfl ?_
  refine v_istore_n [(2, .int (nI 0)), (0, .ref x), (1, .int (nI u))] o dX5_pay_5 rfl (by decide) rfl ?_
  refine v_aload_n 1 o dX5_pay_6 rfl rfl ?_
  refine v_get (v := .ref (x + 1)) o dX5_pay_7 cf5 0 (by decide) fl_X5_11 hR.h0 rfl ?_
  refine v_astore_n [(3, .ref (x + 1)), (2, .int (nI 0)), (0, .ref x), (1, .int (nI u))] o dX5_pay_10 rfl (by decide) rfl ?_
  refine v_aload_n 0 o dX5_pay_11 rfl rfl ?_
  refine v_alen (t0 := 4) o dX5_pay_12 rfl hR.h1 ?_
  refine v_top (nI 6) rfl ?_
  refine v_istore [(4, .int (nI 6)), (3, .ref (x + 1)), (2, .int (nI 0)), (0, .ref x), (1, .int (nI u))] o dX5_pay_13 (by decide) rfl ?_
  refine v_iconst 0 o dX5_pay_15 rfl ?_
  refine v_istore [(5, .int (nI 0)), (4, .int (nI 6)), (3, .ref (x + 1)), (2, .int (nI 0)), (0, .ref x), (1, .int (nI u))] o dX5_pay_16 (by decide) rfl ?_
  refine v_sub [(0, .ref x), (1, .int (nI u)), (2, .int (nI 0)), (3, .ref (x + 1)), (4, .int (nI 6)), (5, .int (nI 0))] [4, 5, 3, 2, 1, 0] rfl ?_
  refine v_lv [(0, .ref x), (1, .int (nI u)), (2, .int (nI (cnt (fun k => decide (0 < σ.1 2 (5 * k + u))) (48 * 0)))), (3, .ref (x + 1)), (4, .int (nI 6)), (5, .int (nI 0))] rfl ?_
  exact L (σ.1 3 0) 0 (by omega)

set_option maxRecDepth 100000 in
set_option maxHeartbeats 4000000 in
theorem k_pay {l : Launch} (hl : l.stackTraces = false) {g : mG} {x z z0 : Nat} {B : Nat → Nat} {μ0 μ : mM} {σ τ : Sg} (hR : RC g x B z0 μ0 σ τ μ) (hI : Inv σ) (w : Int32) : Ct l g yX5_pay [Cond.code yX5_pay cX5_pay 7 (some .int)] { frames := 7, cells := 1, slots := 6, locals := 102 } [.ref x, .int w] μ z (clP g x z0 μ0 (some (.int (sp_pay σ w).1)) (sp_pay σ w).2) (clX ["java/lang/IndexOutOfBoundsException"] σ (sp_pay σ w).2 μ) := by
  cases hK : inR w (nI 0) (nI 4) with
  | false =>
    have hO : okI w 5 = false := by unfold okI; rw [mI_s]; exact hK
    refine Ct.of hl (by decide +kernel) (Nat.le_of_ble_eq_true rfl) ?_
    intro p e s mi args below meth c o hnm hr hx
    have o : Ok p l s mi args meth c g cX5_pay 7 RX5 := o
    refine v_lv [(0, .ref x), (1, .int w)] rfl ?_
    refine v_iload_n 1 o dX5_pay_0 rfl rfl ?_
    refine v_callS [.int w] [] o dX5_pay_1 cw_X5_203 st_X5_needKeyer (c_needKeyer_f hl w hO) rfl rfl (by decide) (by decide) (Nat.le_of_ble_eq_true rfl) (fun _ _ _ _ h => h.elim) ?_
    rintro _ _ z9 hz ⟨rfl, rfl, -⟩
    exact v_out o hx (by decide) (by decide) ⟨⟨0, (by simp [sp_pay, hK] : (sp_pay σ w).2 = th σ 1), rfl⟩, rfl⟩
  | true =>
    obtain ⟨u, -, hu, rfl⟩ := inR_nat hK (by decide) (by decide)
    have tu : tn (nI u) = u := tn_nI (by omega)
    have e9 : sp_pay σ (nI u) = (nI (cnt (fun k => decide (0 < σ.1 2 (5 * k + u))) 288 * trustN σ u / 10), th σ 0) := by simp [sp_pay, hK, tu]
    rw [e9]
    exact k_pay_t hl hR hI u (by omega)

theorem moreB_s (σ : Sg) (k i : Nat) : moreB σ (k + 1) i = befB σ i k := by
  unfold moreB befB
  rw [decide_eq_false (Nat.succ_ne_zero k), Bool.false_or]
  rfl
theorem moreB_0 (σ : Sg) (i : Nat) : moreB σ 0 i = true := by
  unfold moreB
  rw [decide_eq_true rfl]
  rfl
set_option maxRecDepth 100000 in
set_option maxHeartbeats 4000000 in
theorem k_next {l : Launch} (hl : l.stackTraces = false) {g : mG} {x z z0 : Nat} {B : Nat → Nat} {μ0 μ : mM} {σ τ : Sg} (hR : RC g x B z0 μ0 σ τ μ)  : Ct l g yX5_next [Cond.code yX5_next cX5_next 5 (some .int)] { frames := 2, cells := 0, slots := 0, locals := 45 } [.ref x] μ z (clP g x z0 μ0 (some (.int (sp_next σ).1)) (sp_next σ).2) (noX) := by
  refine Ct.of hl (by decide +kernel) (Nat.le_of_ble_eq_true rfl) ?_
  intro p e s mi args below meth c o hnm hr hx
  have o : Ok p l s mi args meth c g cX5_next 5 RX5 := o
  refine v_lv [(0, .ref x)] rfl ?_
  have h6 := hR.nb
  have T0 : ∀ d i, i + d = 6 → σ.1 3 0 ≤ i → nxt σ (σ.1 3 0) = 0 → V p l e { frames := 2, cells := 0, slots := 0, locals := 45 } s mi args below meth c (vx_MQ below (cQc g (clP g x z0 μ0 (some (.int (sp_next σ).1)) (sp_next σ).2)) (cXC g (noX)) args s ({ frames := 2, cells := 0, slots := 0, locals := 45 } : Room).cells ({ frames := 2, cells := 0, slots := 0, locals := 45 } : Room).slots (gA g)) g μ z 0 0 6 [(0, .ref x), (1, .int (-1)), (2, .null), (3, .int (nI i))] [] := by
    intro d
    induction d with
    | zero =>
      intro i hi6 hge hx
      refine v_iload_n 3 o dX5_next_6 rfl rfl ?_
      refine v_bipush 6 o dX5_next_7 (by decide) ?_
      refine v_icmp_ge_n 57 o dX5_next_9 (by decide) (by omega) (by decide) (fun c9 => ?_) (fun c9 => absurd c9 (by omega))
      refine v_iload_n 1 o dX5_next_57 rfl rfl ?_
      exact v_iret o dX5_next_58 hr (Nat.le_of_ble_eq_true rfl) (Nat.le_of_ble_eq_true rfl) ⟨by show _ = some (Value.int (mI (nxt σ (σ.1 3 0)))); rw [hx]; exact congrArg (fun q => some (Value.int q)) mI_0.symm, rfl, _, _, hR.thk 0⟩
    | succ d ih =>
      intro i hid hge hx
      have hi6 : i < 6 := by omega
      have hn : ¬ i < σ.1 3 0 := by omega
      refine v_iload_n 3 o dX5_next_6 rfl rfl ?_
      refine v_bipush 6 o dX5_next_7 (by decide) ?_
      refine v_icmp_ge_n 57 o dX5_next_9 (by decide) (by omega) (by decide) (fun c9 => absurd c9 (by omega)) (fun c9 => ?_)
      refine v_aload_n 0 o dX5_next_12 rfl rfl ?_
      refine v_get (v := .ref (x + 1)) o dX5_next_13 cf5 0 (by decide) fl_X5_11 hR.h0 rfl ?_
      refine v_iload_n 3 o dX5_next_16 rfl rfl ?_
      refine v_aald (t0 := 4) .null o dX5_next_17 rfl hi6 (by decide) hR.h1 (by simp only [if_neg (show ¬ i < σ.1 3 0 from hn)]; rfl) ?_
      refine v_anstore [(4, .null), (0, .ref x), (1, .int (-1)), (2, .null), (3, .int (nI i))] o dX5_next_18 (by decide) rfl ?_
      refine v_anload 0 o dX5_next_20 rfl ?_
      refine v_ifnullN 51 o dX5_next_22 (by decide) ?_
      refine v_iinc (nI (i + 1)) [(3, .int (nI (i + 1))), (4, .null), (0, .ref x), (1, .int (-1)), (2, .null)] o dX5_next_51 4 rfl (iinc_n i 1) (by decide) rfl ?_
      refine v_goto 6 o dX5_next_54 (by decide) ?_
      refine v_sub [(0, .ref x), (1, .int (-1)), (2, .null), (3, .int (nI (i + 1)))] [2, 3, 4, 0] rfl ?_
      exact ih (i + 1) (by omega) (by omega) hx
  have T1 : ∀ k d i, i + d = 6 → σ.1 3 0 ≤ i → nxt σ (σ.1 3 0) = k + 1 → V p l e { frames := 2, cells := 0, slots := 0, locals := 45 } s mi args below meth c (vx_MQ below (cQc g (clP g x z0 μ0 (some (.int (sp_next σ).1)) (sp_next σ).2)) (cXC g (noX)) args s ({ frames := 2, cells := 0, slots := 0, locals := 45 } : Room).cells ({ frames := 2, cells := 0, slots := 0, locals := 45 } : Room).slots (gA g)) g μ z 0 0 6 [(0, .ref x), (1, .int (nI k)), (2, .ref (B k)), (3, .int (nI i))] [] := by
    intro k d
    induction d with
    | zero =>
      intro i hi6 hge hx
      refine v_iload_n 3 o dX5_next_6 rfl rfl ?_
      refine v_bipush 6 o dX5_next_7 (by decide) ?_
      refine v_icmp_ge_n 57 o dX5_next_9 (by decide) (by omega) (by decide) (fun c9 => ?_) (fun c9 => absurd c9 (by omega))
      refine v_iload_n 1 o dX5_next_57 rfl rfl ?_
      exact v_iret o dX5_next_58 hr (Nat.le_of_ble_eq_true rfl) (Nat.le_of_ble_eq_true rfl) ⟨by show _ = some (Value.int (mI (nxt σ (σ.1 3 0)))); rw [hx]; exact congrArg (fun q => some (Value.int q)) (mI_s k).symm, rfl, _, _, hR.thk 0⟩
    | succ d ih =>
      intro i hid hge hx
      have hi6 : i < 6 := by omega
      have hn : ¬ i < σ.1 3 0 := by omega
      refine v_iload_n 3 o dX5_next_6 rfl rfl ?_
      refine v_bipush 6 o dX5_next_7 (by decide) ?_
      refine v_icmp_ge_n 57 o dX5_next_9 (by decide) (by omega) (by decide) (fun c9 => absurd c9 (by omega)) (fun c9 => ?_)
      refine v_aload_n 0 o dX5_next_12 rfl rfl ?_
      refine v_get (v := .ref (x + 1)) o dX5_next_13 cf5 0 (by decide) fl_X5_11 hR.h0 rfl ?_
      refine v_iload_n 3 o dX5_next_16 rfl rfl ?_
      refine v_aald (t0 := 4) .null o dX5_next_17 rfl hi6 (by decide) hR.h1 (by simp only [if_neg (show ¬ i < σ.1 3 0 from hn)]; rfl) ?_
      refine v_anstore [(4, .null), (0, .ref x), (1, .int (nI k)), (2, .ref (B k)), (3, .int (nI i))] o dX5_next_18 (by decide) rfl ?_
      refine v_anload 0 o dX5_next_20 rfl ?_
      refine v_ifnullN 51 o dX5_next_22 (by decide) ?_
      refine v_iinc (nI (i + 1)) [(3, .int (nI (i + 1))), (4, .null), (0, .ref x), (1, .int (nI k)), (2, .ref (B k))] o dX5_next_51 4 rfl (iinc_n i 1) (by decide) rfl ?_
      refine v_goto 6 o dX5_next_54 (by decide) ?_
      refine v_sub [(0, .ref x), (1, .int (nI k)), (2, .ref (B k)), (3, .int (nI (i + 1)))] [2, 3, 4, 0] rfl ?_
      exact ih (i + 1) (by omega) (by omega) hx
  have L : ∀ d i, i + d = σ.1 3 0 → (nxt σ i = 0 → V p l e { frames := 2, cells := 0, slots := 0, locals := 45 } s mi args below meth c (vx_MQ below (cQc g (clP g x z0 μ0 (some (.int (sp_next σ).1)) (sp_next σ).2)) (cXC g (noX)) args s ({ frames := 2, cells := 0, slots := 0, locals := 45 } : Room).cells ({ frames := 2, cells := 0, slots := 0, locals := 45 } : Room).slots (gA g)) g μ z 0 0 6 [(0, .ref x), (1, .int (-1)), (2, .null), (3, .int (nI i))] []) ∧ ∀ k, k < σ.1 3 0 → nxt σ i = k + 1 → V p l e { frames := 2, cells := 0, slots := 0, locals := 45 } s mi args below meth c (vx_MQ below (cQc g (clP g x z0 μ0 (some (.int (sp_next σ).1)) (sp_next σ).2)) (cXC g (noX)) args s ({ frames := 2, cells := 0, slots := 0, locals := 45 } : Room).cells ({ frames := 2, cells := 0, slots := 0, locals := 45 } : Room).slots (gA g)) g μ z 0 0 6 [(0, .ref x), (1, .int (nI k)), (2, .ref (B k)), (3, .int (nI i))] [] := by
    intro d
    induction d with
    | zero =>
      intro i hie
      exact ⟨fun hx => T0 (6 - i) i (by omega) (by omega) (by rw [← show i = σ.1 3 0 by omega]; exact hx), fun k hk hx => T1 k (6 - i) i (by omega) (by omega) (by rw [← show i = σ.1 3 0 by omega]; exact hx)⟩
    | succ d ih =>
      intro i hid
      have hi : i < σ.1 3 0 := by omega
      obtain ⟨ih0, ih1⟩ := ih (i + 1) (by omega)
      refine ⟨fun hx => ?_, fun k hk hx => ?_⟩
      · refine v_iload_n 3 o dX5_next_6 rfl rfl ?_
        refine v_bipush 6 o dX5_next_7 (by decide) ?_
        refine v_icmp_ge_n 57 o dX5_next_9 (by decide) (by omega) (by decide) (fun c9 => absurd c9 (by omega)) (fun c9 => ?_)
        refine v_aload_n 0 o dX5_next_12 rfl rfl ?_
        refine v_get (v := .ref (x + 1)) o dX5_next_13 cf5 0 (by decide) fl_X5_11 hR.h0 rfl ?_
        refine v_iload_n 3 o dX5_next_16 rfl rfl ?_
        refine v_aald (t0 := 4) (.ref (B i)) o dX5_next_17 rfl (by omega) (by decide) hR.h1 (by simp only [if_pos (show i < σ.1 3 0 from hi)]; rfl) ?_
        refine v_astore [(4, .ref (B i)), (0, .ref x), (1, .int (-1)), (2, .null), (3, .int (nI i))] o dX5_next_18 (by decide) rfl ?_
        refine v_aload 0 o dX5_next_20 rfl ?_
        refine v_ifnull o dX5_next_22 ?_
        refine v_aload 0 o dX5_next_25 rfl ?_
        refine v_callVr (v := .int (bI (canB σ i))) [] [] o dX5_next_27 cw_X5_71 im_X0_waitsForWork se_X0_waitsForWork cf0 (hR.bk hi) (c_waits hl hR i hi) rfl rfl (by decide) ⟨rfl, rfl⟩ (by decide) (Nat.le_of_ble_eq_true rfl) ?_
        refine v_if_eq_b 51 o dX5_next_30 (by decide) (fun c30 => ?_) (fun c30 => ?_)
        · refine v_iinc (nI (i + 1)) [(3, .int (nI (i + 1))), (4, .ref (B i)), (0, .ref x), (1, .int (-1)), (2, .null)] o dX5_next_51 4 rfl (iinc_n i 1) (by decide) rfl ?_
          refine v_goto 6 o dX5_next_54 (by decide) ?_
          have e1 : nxt σ (i + 1) = 0 := by show (if canB σ i && moreB σ (nxt σ i) i then i + 1 else nxt σ i) = _; rw [c30]; exact hx
          refine v_sub [(0, .ref x), (1, .int (-1)), (2, .null), (3, .int (nI (i + 1)))] [2, 3, 4, 0] rfl ?_
          exact ih0 e1
        · refine v_anload_n 3 o dX5_next_33 rfl rfl ?_
          refine v_ifnullN 46 o dX5_next_34 (by decide) ?_
          refine v_iload_n 4 o dX5_next_46 rfl rfl ?_
          refine v_istore_n [(1, .int (nI i)), (4, .ref (B i)), (0, .ref x), (2, .null), (3, .int (nI i))] o dX5_next_47 rfl (by decide) rfl ?_
          refine v_aload 1 o dX5_next_48 rfl ?_
          refine v_astore_n [(2, .ref (B i)), (1, .int (nI i)), (4, .ref (B i)), (0, .ref x), (3, .int (nI i))] o dX5_next_50 rfl (by decide) rfl ?_
          refine v_iinc (nI (i + 1)) [(3, .int (nI (i + 1))), (2, .ref (B i)), (1, .int (nI i)), (4, .ref (B i)), (0, .ref x)] o dX5_next_51 4 rfl (iinc_n i 1) (by decide) rfl ?_
          refine v_goto 6 o dX5_next_54 (by decide) ?_
          have e1 : nxt σ (i + 1) = i + 1 := by show (if canB σ i && moreB σ (nxt σ i) i then i + 1 else nxt σ i) = _; rw [c30, hx, moreB_0 σ i]; exact rfl
          refine v_sub [(0, .ref x), (1, .int (nI i)), (2, .ref (B i)), (3, .int (nI (i + 1)))] [4, 2, 1, 0] rfl ?_
          exact ih1 i hi e1
      · refine v_iload_n 3 o dX5_next_6 rfl rfl ?_
        refine v_bipush 6 o dX5_next_7 (by decide) ?_
        refine v_icmp_ge_n 57 o dX5_next_9 (by decide) (by omega) (by decide) (fun c9 => absurd c9 (by omega)) (fun c9 => ?_)
        refine v_aload_n 0 o dX5_next_12 rfl rfl ?_
        refine v_get (v := .ref (x + 1)) o dX5_next_13 cf5 0 (by decide) fl_X5_11 hR.h0 rfl ?_
        refine v_iload_n 3 o dX5_next_16 rfl rfl ?_
        refine v_aald (t0 := 4) (.ref (B i)) o dX5_next_17 rfl (by omega) (by decide) hR.h1 (by simp only [if_pos (show i < σ.1 3 0 from hi)]; rfl) ?_
        refine v_astore [(4, .ref (B i)), (0, .ref x), (1, .int (nI k)), (2, .ref (B k)), (3, .int (nI i))] o dX5_next_18 (by decide) rfl ?_
        refine v_aload 0 o dX5_next_20 rfl ?_
        refine v_ifnull o dX5_next_22 ?_
        refine v_aload 0 o dX5_next_25 rfl ?_
        refine v_callVr (v := .int (bI (canB σ i))) [] [] o dX5_next_27 cw_X5_71 im_X0_waitsForWork se_X0_waitsForWork cf0 (hR.bk hi) (c_waits hl hR i hi) rfl rfl (by decide) ⟨rfl, rfl⟩ (by decide) (Nat.le_of_ble_eq_true rfl) ?_
        refine v_if_eq_b 51 o dX5_next_30 (by decide) (fun c30 => ?_) (fun c30 => ?_)
        · refine v_iinc (nI (i + 1)) [(3, .int (nI (i + 1))), (4, .ref (B i)), (0, .ref x), (1, .int (nI k)), (2, .ref (B k))] o dX5_next_51 4 rfl (iinc_n i 1) (by decide) rfl ?_
          refine v_goto 6 o dX5_next_54 (by decide) ?_
          have e1 : nxt σ (i + 1) = k + 1 := by show (if canB σ i && moreB σ (nxt σ i) i then i + 1 else nxt σ i) = _; rw [c30]; exact hx
          refine v_sub [(0, .ref x), (1, .int (nI k)), (2, .ref (B k)), (3, .int (nI (i + 1)))] [2, 3, 4, 0] rfl ?_
          exact ih1 k hk e1
        · refine v_aload_n 3 o dX5_next_33 rfl rfl ?_
          refine v_ifnull o dX5_next_34 ?_
          refine v_aload 0 o dX5_next_37 rfl ?_
          refine v_aload_n 3 o dX5_next_39 rfl rfl ?_
          refine v_callVr (v := .int (bI (befB σ i k))) [.ref (B k)] [] o dX5_next_40 cw_X5_75 im_X0_goesBefore se_X0_goesBefore cf0 (hR.bk hi) (c_before hl hR i k hi hk) rfl rfl (by decide) ⟨rfl, rfl⟩ (by decide) (Nat.le_of_ble_eq_true rfl) ?_
          refine v_if_eq_b 51 o dX5_next_43 (by decide) (fun c43 => ?_) (fun c43 => ?_)
          · refine v_iinc (nI (i + 1)) [(3, .int (nI (i + 1))), (4, .ref (B i)), (0, .ref x), (1, .int (nI k)), (2, .ref (B k))] o dX5_next_51 4 rfl (iinc_n i 1) (by decide) rfl ?_
            refine v_goto 6 o dX5_next_54 (by decide) ?_
            have e1 : nxt σ (i + 1) = k + 1 := by show (if canB σ i && moreB σ (nxt σ i) i then i + 1 else nxt σ i) = _; rw [c30, hx, (moreB_s σ k i).trans c43]; exact rfl
            refine v_sub [(0, .ref x), (1, .int (nI k)), (2, .ref (B k)), (3, .int (nI (i + 1)))] [2, 3, 4, 0] rfl ?_
            exact ih1 k hk e1
          · refine v_iload_n 4 o dX5_next_46 rfl rfl ?_
            refine v_istore_n [(1, .int (nI i)), (4, .ref (B i)), (0, .ref x), (2, .ref (B k)), (3, .int (nI i))] o dX5_next_47 rfl (by decide) rfl ?_
            refine v_aload 1 o dX5_next_48 rfl ?_
            refine v_astore_n [(2, .ref (B i)), (1, .int (nI i)), (4, .ref (B i)), (0, .ref x), (3, .int (nI i))] o dX5_next_50 rfl (by decide) rfl ?_
            refine v_iinc (nI (i + 1)) [(3, .int (nI (i + 1))), (2, .ref (B i)), (1, .int (nI i)), (4, .ref (B i)), (0, .ref x)] o dX5_next_51 4 rfl (iinc_n i 1) (by decide) rfl ?_
            refine v_goto 6 o dX5_next_54 (by decide) ?_
            have e1 : nxt σ (i + 1) = i + 1 := by show (if canB σ i && moreB σ (nxt σ i) i then i + 1 else nxt σ i) = _; rw [c30, hx, (moreB_s σ k i).trans c43]; exact rfl
            refine v_sub [(0, .ref x), (1, .int (nI i)), (2, .ref (B i)), (3, .int (nI (i + 1)))] [4, 2, 1, 0] rfl ?_
            exact ih1 i hi e1
  refine v_iconst_i (-1) o dX5_next_0 (by decide) ?_
  refine v_istore_n [(1, .int (-1)), (0, .ref x)] o dX5_next_1 rfl (by decide) rfl ?_
  refine v_null o dX5_next_2 ?_
  refine v_anstore_n [(2, .null), (1, .int (-1)), (0, .ref x)] o dX5_next_3 rfl (by decide) rfl ?_
  refine v_iconst 0 o dX5_next_4 rfl ?_
  refine v_istore_n [(3, .int (nI 0)), (2, .null), (1, .int (-1)), (0, .ref x)] o dX5_next_5 rfl (by decide) rfl ?_
  refine v_sub [(0, .ref x), (1, .int (-1)), (2, .null), (3, .int (nI 0))] [3, 2, 1, 0] rfl ?_
  exact (L (σ.1 3 0) 0 (by omega)).1 rfl

