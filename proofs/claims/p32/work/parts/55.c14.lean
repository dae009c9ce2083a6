theorem hb_th (σ : Sg) (k i c a b v p : Nat) (y : Int64) : hb (uL (uN σ k i c) a b y) v p = hb (uL σ a b y) v p := rfl
theorem abt_0 (σ : Sg) (b : Nat) : abtI σ b (nI 0) = σ.2.2.1 1 b := by
  unfold abtI
  rw [if_pos rfl]
theorem abt_1 (σ : Sg) (b : Nat) : abtI σ b (nI 1) = nI (cnt (fun q => σ.2.1 2 (12 * b + q)) (σ.1 0 b)) := by
  unfold abtI
  rw [if_neg (by decide), if_pos rfl]
theorem abt_2 (σ : Sg) (b : Nat) : abtI σ b (nI 2) = nI (cnt (fun q => σ.2.1 4 (12 * b + q)) (σ.1 0 b)) := by
  unfold abtI
  rw [if_neg (by decide), if_neg (by decide), if_pos rfl]
theorem abt_3 (σ : Sg) (b : Nat) : abtI σ b (nI 3) = nI (cnt (fun q => lostB σ (12 * b + q)) (σ.1 0 b)) := by
  unfold abtI
  rw [if_neg (by decide), if_neg (by decide), if_neg (by decide), if_pos rfl]
theorem abt_4 (σ : Sg) (b : Nat) : abtI σ b (nI 4) = σ.2.2.1 3 b := by
  unfold abtI
  rw [if_neg (by decide), if_neg (by decide), if_neg (by decide), if_neg (by decide), if_pos rfl]
theorem abt_5 (σ : Sg) (b : Nat) : abtI σ b (nI 5) = σ.2.2.1 4 b := by
  unfold abtI
  rw [if_neg (by decide), if_neg (by decide), if_neg (by decide), if_neg (by decide), if_neg (by decide)]
set_option maxRecDepth 100000 in
set_option maxHeartbeats 4000000 in
theorem k_copy {l : Launch} (hl : l.stackTraces = false) {g : mG} {x z z0 : Nat} {B : Nat → Nat} {μ0 μ : mM} {σ τ : Sg} (hR : RC g x B z0 μ0 σ τ μ) (hI : Inv σ) (v b q : Int32) : Ct l g yX5_copy [Cond.code yX5_copy cX5_copy 5 (some .long)] { frames := 7, cells := 1, slots := 6, locals := 104 } [.ref x, .int v, .int b, .int q] μ z (clP g x z0 μ0 (some (.long (sp_copy σ v b q).1)) (sp_copy σ v b q).2) (clX ["java/lang/IndexOutOfBoundsException", "java/lang/IllegalStateException"] σ (sp_copy σ v b q).2 μ) := by
  cases hV : isV v with
  | false =>
    have hO : okI v 4 = false := by rw [← isV_ok]; exact hV
    refine Ct.of hl (by decide +kernel) (Nat.le_of_ble_eq_true rfl) ?_
    intro p e s mi args below meth c o hnm hr hx
    have o : Ok p l s mi args meth c g cX5_copy 5 RX5 := o
    refine v_lv [(0, .ref x), (1, .int v), (2, .int b), (3, .int q)] rfl ?_
    refine v_iload_n 1 o dX5_copy_0 rfl rfl ?_
    refine v_callS [.int v] [] o dX5_copy_1 cw_X5_127 st_X5_needVault (c_needVault_f hl v hO) rfl rfl (by decide) (by decide) (Nat.le_of_ble_eq_true rfl) (fun _ _ _ _ h => h.elim) ?_
    rintro _ _ z9 hz ⟨rfl, rfl, -⟩
    exact v_out o hx (by decide) (by decide) ⟨⟨0, (by simp [sp_copy, hV] : (sp_copy σ v b q).2 = th σ 1), rfl⟩, rfl⟩
  | true =>
    obtain ⟨vn, hv, rfl⟩ := isV_t hV
    have tv : tn (nI vn) = vn := tn_nI (by omega)
    cases hB : isB σ b with
    | false =>
      have hP : isP σ b q = false := isP_f hB
      refine Ct.of hl (by decide +kernel) (Nat.le_of_ble_eq_true rfl) ?_
      intro p e s mi args below meth c o hnm hr hx
      have o : Ok p l s mi args meth c g cX5_copy 5 RX5 := o
      refine v_lv [(0, .ref x), (1, .int (nI vn)), (2, .int b), (3, .int q)] rfl ?_
      refine v_iload_n 1 o dX5_copy_0 rfl rfl ?_
      refine v_callS [.int (nI vn)] [] o dX5_copy_1 cw_X5_127 st_X5_needVault (c_needVault_t hl vn (by omega)) rfl rfl (by decide) (by decide) (Nat.le_of_ble_eq_true rfl) ?_ (fun _ _ _ _ h => h.elim)
      rintro _ _ _ _ ⟨rfl, rfl, hz9⟩
      subst hz9
      refine v_st [] rfl ?_
      refine v_aload_n 0 o dX5_copy_4 rfl rfl ?_
      refine v_iload_n 2 o dX5_copy_5 rfl rfl ?_
      refine v_callV [.int b] [] o dX5_copy_6 cw_X5_79 im_X5_bookAt se_X5_bookAt cf5 hR.h0 (c_bookAt_f hl hR b hB) rfl rfl (by decide) (by decide) (Nat.le_of_ble_eq_true rfl) (fun _ _ _ _ h => h.elim) ?_
      rintro _ _ z9 hz ⟨rfl, rfl, -⟩
      exact v_out o hx (by decide) (by decide) ⟨⟨0, (by simp [sp_copy, hV, hP] : (sp_copy σ (nI vn) b q).2 = th σ 1), rfl⟩, rfl⟩
    | true =>
      obtain ⟨i, hi, rfl⟩ := isB_t hI hB
      have h6 := hI.1
      have h12 := hI.2.1 i
      have ti : tn (nI i) = i := tn_nI (by omega)
      cases hQ : okI q (σ.1 0 i) with
      | false =>
        have hP : isP σ (nI i) q = false := by unfold isP; rw [hB, ti, hQ]; rfl
        refine Ct.of hl (by decide +kernel) (Nat.le_of_ble_eq_true rfl) ?_
        intro p e s mi args below meth c o hnm hr hx
        have o : Ok p l s mi args meth c g cX5_copy 5 RX5 := o
        refine v_lv [(0, .ref x), (1, .int (nI vn)), (2, .int (nI i)), (3, .int q)] rfl ?_
        refine v_iload_n 1 o dX5_copy_0 rfl rfl ?_
        refine v_callS [.int (nI vn)] [] o dX5_copy_1 cw_X5_127 st_X5_needVault (c_needVault_t hl vn (by omega)) rfl rfl (by decide) (by decide) (Nat.le_of_ble_eq_true rfl) ?_ (fun _ _ _ _ h => h.elim)
        rintro _ _ _ _ ⟨rfl, rfl, hz9⟩
        subst hz9
        refine v_st [] rfl ?_
        refine v_aload_n 0 o dX5_copy_4 rfl rfl ?_
        refine v_iload_n 2 o dX5_copy_5 rfl rfl ?_
        refine v_callVr (v := .ref (B i)) [.int (nI i)] [] o dX5_copy_6 cw_X5_79 im_X5_bookAt se_X5_bookAt cf5 hR.h0 (c_bookAt_t hl hR i hi) rfl rfl (by decide) ⟨rfl, rfl⟩ (by decide) (Nat.le_of_ble_eq_true rfl) ?_
        refine v_iload_n 3 o dX5_copy_9 rfl rfl ?_
        refine v_callS [.ref (B i), .int q] [] o dX5_copy_10 cw_X5_83 st_X5_pageAt (c_pageAt_f hl hR i q hi hQ) rfl rfl (by decide) (by decide) (Nat.le_of_ble_eq_true rfl) (fun _ _ _ _ h => h.elim) ?_
        rintro _ _ z9 hz ⟨rfl, rfl, -⟩
        exact v_out o hx (by decide) (by decide) ⟨⟨0, (by simp [sp_copy, hV, hP] : (sp_copy σ (nI vn) (nI i) q).2 = th σ 1), rfl⟩, rfl⟩
      | true =>
        obtain ⟨j, hj, rfl⟩ := okI_t hQ (by omega)
        have hP := isP_nI hI hi hj
        have tj : tn (nI j) = j := tn_nI (by omega)
        cases hC : σ.2.1 5 (72 * vn + (12 * i + j)) with
        | false =>
          refine Ct.of hl (by decide +kernel) (Nat.le_of_ble_eq_true rfl) ?_
          intro p e s mi args below meth c o hnm hr hx
          have o : Ok p l s mi args meth c g cX5_copy 5 RX5 := o
          refine v_lv [(0, .ref x), (1, .int (nI vn)), (2, .int (nI i)), (3, .int (nI j))] rfl ?_
          refine v_iload_n 1 o dX5_copy_0 rfl rfl ?_
          refine v_callS [.int (nI vn)] [] o dX5_copy_1 cw_X5_127 st_X5_needVault (c_needVault_t hl vn (by omega)) rfl rfl (by decide) (by decide) (Nat.le_of_ble_eq_true rfl) ?_ (fun _ _ _ _ h => h.elim)
          rintro _ _ _ _ ⟨rfl, rfl, hz9⟩
          subst hz9
          refine v_st [] rfl ?_
          refine v_aload_n 0 o dX5_copy_4 rfl rfl ?_
          refine v_iload_n 2 o dX5_copy_5 rfl rfl ?_
          refine v_callVr (v := .ref (B i)) [.int (nI i)] [] o dX5_copy_6 cw_X5_79 im_X5_bookAt se_X5_bookAt cf5 hR.h0 (c_bookAt_t hl hR i hi) rfl rfl (by decide) ⟨rfl, rfl⟩ (by decide) (Nat.le_of_ble_eq_true rfl) ?_
          refine v_iload_n 3 o dX5_copy_9 rfl rfl ?_
          refine v_callSr (v := .ref (pA B i j)) [.ref (B i), .int (nI j)] [] o dX5_copy_10 cw_X5_83 st_X5_pageAt (c_pageAt_t hl hR i j hi hj) rfl rfl (by decide) ⟨rfl, rfl⟩ (by decide) (Nat.le_of_ble_eq_true rfl) ?_
          refine v_astore [(4, .ref (pA B i j)), (0, .ref x), (1, .int (nI vn)), (2, .int (nI i)), (3, .int (nI j))] o dX5_copy_13 (by decide) rfl ?_
          refine v_aload 0 o dX5_copy_15 rfl ?_
          refine v_iload_n 2 o dX5_copy_17 rfl rfl ?_
          refine v_callS [.ref (pA B i j), .int (nI vn)] [] o dX5_copy_18 cw_X5_131 st_X5_needCopy (c_needCopy_f hl hR i j hi hj vn (by omega) hC) rfl rfl (by decide) (by decide) (Nat.le_of_ble_eq_true rfl) (fun _ _ _ _ h => h.elim) ?_
          rintro _ _ z9 hz ⟨rfl, rfl, -⟩
          exact v_out o hx (by decide) (by decide) ⟨⟨1, (by simp [sp_copy, hV, hP, ti, tj, tv, hC] : (sp_copy σ (nI vn) (nI i) (nI j)).2 = th σ 2), rfl⟩, rfl⟩
        | true =>
          refine Ct.of hl (by decide +kernel) (Nat.le_of_ble_eq_true rfl) ?_
          intro p e s mi args below meth c o hnm hr hx
          have o : Ok p l s mi args meth c g cX5_copy 5 RX5 := o
          refine v_lv [(0, .ref x), (1, .int (nI vn)), (2, .int (nI i)), (3, .int (nI j))] rfl ?_
          refine v_iload_n 1 o dX5_copy_0 rfl rfl ?_
          refine v_callS [.int (nI vn)] [] o dX5_copy_1 cw_X5_127 st_X5_needVault (c_needVault_t hl vn (by omega)) rfl rfl (by decide) (by decide) (Nat.le_of_ble_eq_true rfl) ?_ (fun _ _ _ _ h => h.elim)
          rintro _ _ _ _ ⟨rfl, rfl, hz9⟩
          subst hz9
          refine v_st [] rfl ?_
          refine v_aload_n 0 o dX5_copy_4 rfl rfl ?_
          refine v_iload_n 2 o dX5_copy_5 rfl rfl ?_
          refine v_callVr (v := .ref (B i)) [.int (nI i)] [] o dX5_copy_6 cw_X5_79 im_X5_bookAt se_X5_bookAt cf5 hR.h0 (c_bookAt_t hl hR i hi) rfl rfl (by decide) ⟨rfl, rfl⟩ (by decide) (Nat.le_of_ble_eq_true rfl) ?_
          refine v_iload_n 3 o dX5_copy_9 rfl rfl ?_
          refine v_callSr (v := .ref (pA B i j)) [.ref (B i), .int (nI j)] [] o dX5_copy_10 cw_X5_83 st_X5_pageAt (c_pageAt_t hl hR i j hi hj) rfl rfl (by decide) ⟨rfl, rfl⟩ (by decide) (Nat.le_of_ble_eq_true rfl) ?_
          refine v_astore [(4, .ref (pA B i j)), (0, .ref x), (1, .int (nI vn)), (2, .int (nI i)), (3, .int (nI j))] o dX5_copy_13 (by decide) rfl ?_
          refine v_aload 0 o dX5_copy_15 rfl ?_
          refine v_iload_n 2 o dX5_copy_17 rfl rfl ?_
          refine v_callS [.ref (pA B i j), .int (nI vn)] [] o dX5_copy_18 cw_X5_131 st_X5_needCopy (c_needCopy_t hl hR i j hi hj vn (by omega) hC) rfl rfl (by decide) (by decide) (Nat.le_of_ble_eq_true rfl) ?_ (fun _ _ _ _ h => h.elim)
          rintro _ _ _ _ ⟨rfl, rfl, hz9⟩
          subst hz9
          refine v_st [] rfl ?_
          refine v_aload 0 o dX5_copy_21 rfl ?_
          refine v_get (v := .ref (pA B i j + 2)) o dX5_copy_23 cf2 5 (by decide) fl_X5_170 (hR.p0 hi hj) rfl ?_
          refine v_iload_n 2 o dX5_copy_26 rfl rfl ?_
          refine v_lald (σ.2.2.2 1 (72 * vn + (12 * i + j))) o dX5_copy_27 (by omega) (by decide) (hR.p2 hi hj) ((rs_lt (by omega)).trans rfl) ?_
          have e9 : sp_copy σ (nI vn) (nI i) (nI j) = (σ.2.2.2 1 (72 * vn + (12 * i + j)), th σ 0) := by simp [sp_copy, th, hV, hP, ti, tj, tv, hC]
          exact v_lret o dX5_copy_28 hr (Nat.le_of_ble_eq_true rfl) (Nat.le_of_ble_eq_true rfl) (by rw [e9]; exact ⟨rfl, rfl, _, _, hR.thk 0⟩)

set_option maxRecDepth 100000 in
set_option maxHeartbeats 4000000 in
theorem k_rot {l : Launch} (hl : l.stackTraces = false) {g : mG} {x z z0 : Nat} {B : Nat → Nat} {μ0 μ : mM} {σ τ : Sg} (hR : RC g x B z0 μ0 σ τ μ) (hI : Inv σ) (v b q bit : Int32) : Ct l g yX5_rot [Cond.code yX5_rot cX5_rot 6 (some .boolean)] { frames := 7, cells := 1, slots := 6, locals := 104 } [.ref x, .int v, .int b, .int q, .int bit] μ z (clP g x z0 μ0 (some (.int (sp_rot σ v b q bit).1)) (sp_rot σ v b q bit).2) (clX ["java/lang/IndexOutOfBoundsException", "java/lang/IllegalArgumentException", "java/lang/IllegalStateException"] σ (sp_rot σ v b q bit).2 μ) := by
  cases hV : isV v with
  | false =>
    have hO : okI v 4 = false := by rw [← isV_ok]; exact hV
    refine Ct.of hl (by decide +kernel) (Nat.le_of_ble_eq_true rfl) ?_
    intro p e s mi args below meth c o hnm hr hx
    have o : Ok p l s mi args meth c g cX5_rot 6 RX5 := o
    refine v_lv [(0, .ref x), (1, .int v), (2, .int b), (3, .int q), (4, .int bit)] rfl ?_
    refine v_iload_n 1 o dX5_rot_0 rfl rfl ?_
    refine v_callS [.int v] [] o dX5_rot_1 cw_X5_127 st_X5_needVault (c_needVault_f hl v hO) rfl rfl (by decide) (by decide) (Nat.le_of_ble_eq_true rfl) (fun _ _ _ _ h => h.elim) ?_
    rintro _ _ z9 hz ⟨rfl, rfl, -⟩
    exact v_out o hx (by decide) (by decide) ⟨⟨0, (by simp [sp_rot, hV] : (sp_rot σ v b q bit).2 = th σ 1), rfl⟩, rfl⟩
  | true =>
    obtain ⟨vn, hv, rfl⟩ := isV_t hV
    have tv : tn (nI vn) = vn := tn_nI (by omega)
    cases hB : isB σ b with
    | false =>
      have hP : isP σ b q = false := isP_f hB
      refine Ct.of hl (by decide +kernel) (Nat.le_of_ble_eq_true rfl) ?_
      intro p e s mi args below meth c o hnm hr hx
      have o : Ok p l s mi args meth c g cX5_rot 6 RX5 := o
      refine v_lv [(0, .ref x), (1, .int (nI vn)), (2, .int b), (3, .int q), (4, .int bit)] rfl ?_
      refine v_iload_n 1 o dX5_rot_0 rfl rfl ?_
      refine v_callS [.int (nI vn)] [] o dX5_rot_1 cw_X5_127 st_X5_needVault (c_needVault_t hl vn (by omega)) rfl rfl (by decide) (by decide) (Nat.le_of_ble_eq_true rfl) ?_ (fun _ _ _ _ h => h.elim)
      rintro _ _ _ _ ⟨rfl, rfl, hz9⟩
      subst hz9
      refine v_st [] rfl ?_
      refine v_aload_n 0 o dX5_rot_4 rfl rfl ?_
      refine v_iload_n 2 o dX5_rot_5 rfl rfl ?_
      refine v_callV [.int b] [] o dX5_rot_6 cw_X5_79 im_X5_bookAt se_X5_bookAt cf5 hR.h0 (c_bookAt_f hl hR b hB) rfl rfl (by decide) (by decide) (Nat.le_of_ble_eq_true rfl) (fun _ _ _ _ h => h.elim) ?_
      rintro _ _ z9 hz ⟨rfl, rfl, -⟩
      exact v_out o hx (by decide) (by decide) ⟨⟨0, (by simp [sp_rot, hV, hP] : (sp_rot σ (nI vn) b q bit).2 = th σ 1), rfl⟩, rfl⟩
    | true =>
      obtain ⟨i, hi, rfl⟩ := isB_t hI hB
      have h6 := hI.1
      have h12 := hI.2.1 i
      have ti : tn (nI i) = i := tn_nI (by omega)
      cases hQ : okI q (σ.1 0 i) with
      | false =>
        have hP : isP σ (nI i) q = false := by unfold isP; rw [hB, ti, hQ]; rfl
        refine Ct.of hl (by decide +kernel) (Nat.le_of_ble_eq_true rfl) ?_
        intro p e s mi args below meth c o hnm hr hx
        have o : Ok p l s mi args meth c g cX5_rot 6 RX5 := o
        refine v_lv [(0, .ref x), (1, .int (nI vn)), (2, .int (nI i)), (3, .int q), (4, .int bit)] rfl ?_
        refine v_iload_n 1 o dX5_rot_0 rfl rfl ?_
        refine v_callS [.int (nI vn)] [] o dX5_rot_1 cw_X5_127 st_X5_needVault (c_needVault_t hl vn (by omega)) rfl rfl (by decide) (by decide) (Nat.le_of_ble_eq_true rfl) ?_ (fun _ _ _ _ h => h.elim)
        rintro _ _ _ _ ⟨rfl, rfl, hz9⟩
        subst hz9
        refine v_st [] rfl ?_
        refine v_aload_n 0 o dX5_rot_4 rfl rfl ?_
        refine v_iload_n 2 o dX5_rot_5 rfl rfl ?_
        refine v_callVr (v := .ref (B i)) [.int (nI i)] [] o dX5_rot_6 cw_X5_79 im_X5_bookAt se_X5_bookAt cf5 hR.h0 (c_bookAt_t hl hR i hi) rfl rfl (by decide) ⟨rfl, rfl⟩ (by decide) (Nat.le_of_ble_eq_true rfl) ?_
        refine v_iload_n 3 o dX5_rot_9 rfl rfl ?_
        refine v_callS [.ref (B i), .int q] [] o dX5_rot_10 cw_X5_83 st_X5_pageAt (c_pageAt_f hl hR i q hi hQ) rfl rfl (by decide) (by decide) (Nat.le_of_ble_eq_true rfl) (fun _ _ _ _ h => h.elim) ?_
        rintro _ _ z9 hz ⟨rfl, rfl, -⟩
        exact v_out o hx (by decide) (by decide) ⟨⟨0, (by simp [sp_rot, hV, hP] : (sp_rot σ (nI vn) (nI i) q bit).2 = th σ 1), rfl⟩, rfl⟩
      | true =>
        obtain ⟨j, hj, rfl⟩ := okI_t hQ (by omega)
        have hP := isP_nI hI hi hj
        have tj : tn (nI j) = j := tn_nI (by omega)
        cases hT : inR bit (nI 0) (nI 63) with
        | false =>
          refine Ct.of hl (by decide +kernel) (Nat.le_of_ble_eq_true rfl) ?_
          intro p e s mi args below meth c o hnm hr hx
          have o : Ok p l s mi args meth c g cX5_rot 6 RX5 := o
          refine v_lv [(0, .ref x), (1, .int (nI vn)), (2, .int (nI i)), (3, .int (nI j)), (4, .int bit)] rfl ?_
          refine v_iload_n 1 o dX5_rot_0 rfl rfl ?_
          refine v_callS [.int (nI vn)] [] o dX5_rot_1 cw_X5_127 st_X5_needVault (c_needVault_t hl vn (by omega)) rfl rfl (by decide) (by decide) (Nat.le_of_ble_eq_true rfl) ?_ (fun _ _ _ _ h => h.elim)
          rintro _ _ _ _ ⟨rfl, rfl, hz9⟩
          subst hz9
          refine v_st [] rfl ?_
          refine v_aload_n 0 o dX5_rot_4 rfl rfl ?_
          refine v_iload_n 2 o dX5_rot_5 rfl rfl ?_
          refine v_callVr (v := .ref (B i)) [.int (nI i)] [] o dX5_rot_6 cw_X5_79 im_X5_bookAt se_X5_bookAt cf5 hR.h0 (c_bookAt_t hl hR i hi) rfl rfl (by decide) ⟨rfl, rfl⟩ (by decide) (Nat.le_of_ble_eq_true rfl) ?_
          refine v_iload_n 3 o dX5_rot_9 rfl rfl ?_
          refine v_callSr (v := .ref (pA B i j)) [.ref (B i), .int (nI j)] [] o dX5_rot_10 cw_X5_83 st_X5_pageAt (c_pageAt_t hl hR i j hi hj) rfl rfl (by decide) ⟨rfl, rfl⟩ (by decide) (Nat.le_of_ble_eq_true rfl) ?_
          refine v_astore [(5, .ref (pA B i j)), (0, .ref x), (1, .int (nI vn)), (2, .int (nI i)), (3, .int (nI j)), (4, .int bit)] o dX5_rot_13 (by decide) rfl ?_
          refine v_iload 5 o dX5_rot_15 rfl ?_
          refine v_iconst 0 o dX5_rot_17 rfl ?_
          refine v_bipush 63 o dX5_rot_18 (by decide) ?_
          refine v_callS [.int bit, .int (nI 0), .int (nI 63)] [] o dX5_rot_20 cw_X5_54 st_X5_needArgument (c_needArg_f hl bit (nI 0) (nI 63) hT) rfl rfl (by decide) (by decide) (Nat.le_of_ble_eq_true rfl) (fun _ _ _ _ h => h.elim) ?_
          rintro _ _ z9 hz ⟨rfl, rfl, -⟩
          exact v_out o hx (by decide) (by decide) ⟨⟨1, (by simp [sp_rot, hV, hP, ti, tj, tv, hT] : (sp_rot σ (nI vn) (nI i) (nI j) bit).2 = th σ 2), rfl⟩, rfl⟩
        | true =>
          cases hC : σ.2.1 5 (72 * vn + (12 * i + j)) with
          | false =>
            refine Ct.of hl (by decide +kernel) (Nat.le_of_ble_eq_true rfl) ?_
            intro p e s mi args below meth c o hnm hr hx
            have o : Ok p l s mi args meth c g cX5_rot 6 RX5 := o
            refine v_lv [(0, .ref x), (1, .int (nI vn)), (2, .int (nI i)), (3, .int (nI j)), (4, .int bit)] rfl ?_
            refine v_iload_n 1 o dX5_rot_0 rfl rfl ?_
            refine v_callS [.int (nI vn)] [] o dX5_rot_1 cw_X5_127 st_X5_needVault (c_needVault_t hl vn (by omega)) rfl rfl (by decide) (by decide) (Nat.le_of_ble_eq_true rfl) ?_ (fun _ _ _ _ h => h.elim)
            rintro _ _ _ _ ⟨rfl, rfl, hz9⟩
            subst hz9
            refine v_st [] rfl ?_
            refine v_aload_n 0 o dX5_rot_4 rfl rfl ?_
            refine v_iload_n 2 o dX5_rot_5 rfl rfl ?_
            refine v_callVr (v := .ref (B i)) [.int (nI i)] [] o dX5_rot_6 cw_X5_79 im_X5_bookAt se_X5_bookAt cf5 hR.h0 (c_bookAt_t hl hR i hi) rfl rfl (by decide) ⟨rfl, rfl⟩ (by decide) (Nat.le_of_ble_eq_true rfl) ?_
            refine v_iload_n 3 o dX5_rot_9 rfl rfl ?_
            refine v_callSr (v := .ref (pA B i j)) [.ref (B i), .int (nI j)] [] o dX5_rot_10 cw_X5_83 st_X5_pageAt (c_pageAt_t hl hR i j hi hj) rfl rfl (by decide) ⟨rfl, rfl⟩ (by decide) (Nat.le_of_ble_eq_true rfl) ?_
            refine v_astore [(5, .ref (pA B i j)), (0, .ref x), (1, .int (nI vn)), (2, .int (nI i)), (3, .int (nI j)), (4, .int bit)] o dX5_rot_13 (by decide) rfl ?_
            refine v_iload 5 o dX5_rot_15 rfl ?_
            refine v_iconst 0 o dX5_rot_17 rfl ?_
            refine v_bipush 63 o dX5_rot_18 (by decide) ?_
            refine v_callS [.int bit, .int (nI 0), .int (nI 63)] [] o dX5_rot_20 cw_X5_54 st_X5_needArgument (c_needArg_t hl bit (nI 0) (nI 63) hT) rfl rfl (by decide) (by decide) (Nat.le_of_ble_eq_true rfl) ?_ (fun _ _ _ _ h => h.elim)
            rintro _ _ _ _ ⟨rfl, rfl, hz9⟩
            subst hz9
            refine v_st [] rfl ?_
            refine v_aload 0 o dX5_rot_23 rfl ?_
            refine v_iload_n 2 o dX5_rot_25 rfl rfl ?_
            refine v_callS [.ref (pA B i j), .int (nI vn)] [] o dX5_rot_26 cw_X5_131 st_X5_needCopy (c_needCopy_f hl hR i j hi hj vn (by omega) hC) rfl rfl (by decide) (by decide) (Nat.le_of_ble_eq_true rfl) (fun _ _ _ _ h => h.elim) ?_
            rintro _ _ z9 hz ⟨rfl, rfl, -⟩
            exact v_out o hx (by decide) (by decide) ⟨⟨2, (by simp [sp_rot, hV, hP, ti, tj, tv, hT, hC] : (sp_rot σ (nI vn) (nI i) (nI j) bit).2 = th σ 3), rfl⟩, rfl⟩
          | true =>
            refine Ct.of hl (by decide +kernel) (Nat.le_of_ble_eq_true rfl) ?_
            intro p e s mi args below meth c o hnm hr hx
            have o : Ok p l s mi args meth c g cX5_rot 6 RX5 := o
            refine v_lv [(0, .ref x), (1, .int (nI vn)), (2, .int (nI i)), (3, .int (nI j)), (4, .int bit)] rfl ?_
            refine v_iload_n 1 o dX5_rot_0 rfl rfl ?_
            refine v_callS [.int (nI vn)] [] o dX5_rot_1 cw_X5_127 st_X5_needVault (c_needVault_t hl vn (by omega)) rfl rfl (by decide) (by decide) (Nat.le_of_ble_eq_true rfl) ?_ (fun _ _ _ _ h => h.elim)
            rintro _ _ _ _ ⟨rfl, rfl, hz9⟩
            subst hz9
            refine v_st [] rfl ?_
            refine v_aload_n 0 o dX5_rot_4 rfl rfl ?_
            refine v_iload_n 2 o dX5_rot_5 rfl rfl ?_
            refine v_callVr (v := .ref (B i)) [.int (nI i)] [] o dX5_rot_6 cw_X5_79 im_X5_bookAt se_X5_bookAt cf5 hR.h0 (c_bookAt_t hl hR i hi) rfl rfl (by decide) ⟨rfl, rfl⟩ (by decide) (Nat.le_of_ble_eq_true rfl) ?_
            refine v_iload_n 3 o dX5_rot_9 rfl rfl ?_
            refine v_callSr (v := .ref (pA B i j)) [.ref (B i), .int (nI j)] [] o dX5_rot_10 cw_X5_83 st_X5_pageAt (c_pageAt_t hl hR i j hi hj) rfl rfl (by decide) ⟨rfl, rfl⟩ (by decide) (Nat.le_of_ble_eq_true rfl) ?_
            refine v_astore [(5, .ref (pA B i j)), (0, .ref x), (1, .int (nI vn)), (2, .int (nI i)), (3, .int (nI j)), (4, .int bit)] o dX5_rot_13 (by decide) rfl ?_
            refine v_iload 5 o dX5_rot_15 rfl ?_
            refine v_iconst 0 o dX5_rot_17 rfl ?_
            refine v_bipush 63 o dX5_rot_18 (by decide) ?_
            refine v_callS [.int bit, .int (nI 0), .int (nI 63)] [] o dX5_rot_20 cw_X5_54 st_X5_needArgument (c_needArg_t hl bit (nI 0) (nI 63) hT) rfl rfl (by decide) (by decide) (Nat.le_of_ble_eq_true rfl) ?_ (fun _ _ _ _ h => h.elim)
            rintro _ _ _ _ ⟨rfl, rfl, hz9⟩
            subst hz9
            refine v_st [] rfl ?_
            refine v_aload 0 o dX5_rot_23 rfl ?_
            refine v_iload_n 2 o dX5_rot_25 rfl rfl ?_
            refine v_callS [.ref (pA B i j), .int (nI vn)] [] o dX5_rot_26 cw_X5_131 st_X5_needCopy (c_needCopy_t hl hR i j hi hj vn (by omega) hC) rfl rfl (by decide) (by decide) (Nat.le_of_ble_eq_true rfl) ?_ (fun _ _ _ _ h => h.elim)
            rintro _ _ _ _ ⟨rfl, rfl, hz9⟩
            subst hz9
            refine v_st [] rfl ?_
            refine v_aload 0 o dX5_rot_29 rfl ?_
            refine v_iload_n 2 o dX5_rot_31 rfl rfl ?_
            refine v_iload 5 o dX5_rot_32 rfl ?_
            refine v_callV [.int (nI vn), .int bit] [] o dX5_rot_34 cw_X5_135 im_X2_flipBit se_X2_flipBit cf2 (hR.p0 hi hj) (c_flipBit hl hR i j hi hj vn (by omega) bit) rfl rfl (by decide) (by decide) (Nat.le_of_ble_eq_true rfl) ?_ (fun _ _ _ _ h => h.elim)
            rintro _ μ1 _ _ ⟨rfl, hR1, rfl⟩
            refine v_st [] rfl ?_
            refine v_aload 0 o dX5_rot_37 rfl ?_
            refine v_iload_n 2 o dX5_rot_39 rfl rfl ?_
            refine v_callVr (v := .int (bI (hb (uL σ 1 (72 * vn + (12 * i + j)) (rotL (σ.2.2.2 1 (72 * vn + (12 * i + j))) bit)) vn (12 * i + j)))) [.int (nI vn)] [] o dX5_rot_40 cw_X5_139 im_X2_holdsIn se_X2_holdsIn cf2 (hR1.p0 hi hj) (c_holdsIn hl hR1 i j hi hj vn (by omega)) rfl rfl (by decide) ⟨rfl, rfl⟩ (by decide) (Nat.le_of_ble_eq_true rfl) ?_
            have e9 : sp_rot σ (nI vn) (nI i) (nI j) bit = (bI (hb (uL σ 1 (72 * vn + (12 * i + j)) (rotL (σ.2.2.2 1 (72 * vn + (12 * i + j))) bit)) vn (12 * i + j)), uL (th σ 0) 1 (72 * vn + (12 * i + j)) (rotL (σ.2.2.2 1 (72 * vn + (12 * i + j))) bit)) := by simp [sp_rot, th, hV, hP, ti, tj, tv, hT, hC, hb_th]
            exact v_zret o dX5_rot_43 hr (narrow_bI _) (Nat.le_of_ble_eq_true rfl) (Nat.le_of_ble_eq_true rfl) (by rw [e9]; exact ⟨rfl, rfl, _, _, hR1.thk 0⟩)

set_option maxRecDepth 100000 in
set_option maxHeartbeats 4000000 in
theorem k_gold {l : Launch} (hl : l.stackTraces = false) {g : mG} {x z z0 : Nat} {B : Nat → Nat} {μ0 μ : mM} {σ τ : Sg} (hR : RC g x B z0 μ0 σ τ μ) (hI : Inv σ) (b q a letter : Int32) : Ct l g yX5_gold [Cond.code yX5_gold cX5_gold 7 (some .int)] { frames := 7, cells := 1, slots := 6, locals := 104 } [.ref x, .int b, .int q, .int a, .int letter] μ z (clP g x z0 μ0 (some (.int (sp_gold σ b q a letter).1)) (sp_gold σ b q a letter).2) (clX ["java/lang/IndexOutOfBoundsException", "java/lang/IllegalArgumentException"] σ (sp_gold σ b q a letter).2 μ) := by
  cases hB : isB σ b with
  | false =>
    have hP : isP σ b q = false := isP_f hB
    have hL : isL σ b q a = false := by unfold isL; rw [hP]; rfl
    refine Ct.of hl (by decide +kernel) (Nat.le_of_ble_eq_true rfl) ?_
    intro p e s mi args below meth c o hnm hr hx
    have o : Ok p l s mi args meth c g cX5_gold 7 RX5 := o
    refine v_lv [(0, .ref x), (1, .int b), (2, .int q), (3, .int a), (4, .int letter)] rfl ?_
    refine v_aload_n 0 o dX5_gold_0 rfl rfl ?_
    refine v_iload_n 1 o dX5_gold_1 rfl rfl ?_
    refine v_callV [.int b] [] o dX5_gold_2 cw_X5_79 im_X5_bookAt se_X5_bookAt cf5 hR.h0 (c_bookAt_f hl hR b hB) rfl rfl (by decide) (by decide) (Nat.le_of_ble_eq_true rfl) (fun _ _ _ _ h => h.elim) ?_
    rintro _ _ z9 hz ⟨rfl, rfl, -⟩
    exact v_out o hx (by decide) (by decide) ⟨⟨0, (by simp [sp_gold, hL] : (sp_gold σ b q a letter).2 = th σ 1), rfl⟩, rfl⟩
  | true =>
    obtain ⟨i, hi, rfl⟩ := isB_t hI hB
    have h6 := hI.1
    have h12 := hI.2.1 i
    have ti : tn (nI i) = i := tn_nI (by omega)
    cases hQ : okI q (σ.1 0 i) with
    | false =>
      have hP : isP σ (nI i) q = false := by unfold isP; rw [hB, ti, hQ]; rfl
      have hL : isL σ (nI i) q a = false := by unfold isL; rw [hP]; rfl
      refine Ct.of hl (by decide +kernel) (Nat.le_of_ble_eq_true rfl) ?_
      intro p e s mi args below meth c o hnm hr hx
      have o : Ok p l s mi args meth c g cX5_gold 7 RX5 := o
      refine v_lv [(0, .ref x), (1, .int (nI i)), (2, .int q), (3, .int a), (4, .int letter)] rfl ?_
      refine v_aload_n 0 o dX5_gold_0 rfl rfl ?_
      refine v_iload_n 1 o dX5_gold_1 rfl rfl ?_
      refine v_callVr (v := .ref (B i)) [.int (nI i)] [] o dX5_gold_2 cw_X5_79 im_X5_bookAt se_X5_bookAt cf5 hR.h0 (c_bookAt_t hl hR i hi) rfl rfl (by decide) ⟨rfl, rfl⟩ (by decide) (Nat.le_of_ble_eq_true rfl) ?_
      refine v_iload_n 2 o dX5_gold_5 rfl rfl ?_
      refine v_callS [.ref (B i), .int q] [] o dX5_gold_6 cw_X5_83 st_X5_pageAt (c_pageAt_f hl hR i q hi hQ) rfl rfl (by decide) (by decide) (Nat.le_of_ble_eq_true rfl) (fun _ _ _ _ h => h.elim) ?_
      rintro _ _ z9 hz ⟨rfl, rfl, -⟩
      exact v_out o hx (by decide) (by decide) ⟨⟨0, (by simp [sp_gold, hL] : (sp_gold σ (nI i) q a letter).2 = th σ 1), rfl⟩, rfl⟩
    | true =>
      obtain ⟨j, hj, rfl⟩ := okI_t hQ (by omega)
      have hP := isP_nI hI hi hj
      have tj : tn (nI j) = j := tn_nI (by omega)
      cases hA : isV a with
      | false =>
        have hO : okI a 4 = false := by rw [← isV_ok]; exact hA
        have hL : isL σ (nI i) (nI j) a = false := by unfold isL; rw [hP, show inR a (nI 0) (nI 3) = false from hA]; rfl
        refine Ct.of hl (by decide +kernel) (Nat.le_of_ble_eq_true rfl) ?_
        intro p e s mi args below meth c o hnm hr hx
        have o : Ok p l s mi args meth c g cX5_gold 7 RX5 := o
        refine v_lv [(0, .ref x), (1, .int (nI i)), (2, .int (nI j)), (3, .int a), (4, .int letter)] rfl ?_
        refine v_aload_n 0 o dX5_gold_0 rfl rfl ?_
        refine v_iload_n 1 o dX5_gold_1 rfl rfl ?_
        refine v_callVr (v := .ref (B i)) [.int (nI i)] [] o dX5_gold_2 cw_X5_79 im_X5_bookAt se_X5_bookAt cf5 hR.h0 (c_bookAt_t hl hR i hi) rfl rfl (by decide) ⟨rfl, rfl⟩ (by decide) (Nat.le_of_ble_eq_true rfl) ?_
        refine v_iload_n 2 o dX5_gold_5 rfl rfl ?_
        refine v_callSr (v := .ref (pA B i j)) [.ref (B i), .int (nI j)] [] o dX5_gold_6 cw_X5_83 st_X5_pageAt (c_pageAt_t hl hR i j hi hj) rfl rfl (by decide) ⟨rfl, rfl⟩ (by decide) (Nat.le_of_ble_eq_true rfl) ?_
        refine v_astore [(5, .ref (pA B i j)), (0, .ref x), (1, .int (nI i)), (2, .int (nI j)), (3, .int a), (4, .int letter)] o dX5_gold_9 (by decide) rfl ?_
        refine v_iload_n 4 o dX5_gold_11 rfl rfl ?_
        refine v_callS [.int a] [] o dX5_gold_12 cw_X5_197 st_X5_needPlace (c_needPlace_f hl a hO) rfl rfl (by decide) (by decide) (Nat.le_of_ble_eq_true rfl) (fun _ _ _ _ h => h.elim) ?_
        rintro _ _ z9 hz ⟨rfl, rfl, -⟩
        exact v_out o hx (by decide) (by decide) ⟨⟨0, (by simp [sp_gold, hL] : (sp_gold σ (nI i) (nI j) a letter).2 = th σ 1), rfl⟩, rfl⟩
      | true =>
        obtain ⟨an, hv, rfl⟩ := isV_t hA
        have tv : tn (nI an) = an := tn_nI (by omega)
        have hL : isL σ (nI i) (nI j) (nI an) = true := by unfold isL; rw [hP, show inR (nI an) (nI 0) (nI 3) = true from hA]; rfl
        cases hY : inR letter (nI 0) (nI 25) with
        | false =>
          refine Ct.of hl (by decide +kernel) (Nat.le_of_ble_eq_true rfl) ?_
          intro p e s mi args below meth c o hnm hr hx
          have o : Ok p l s mi args meth c g cX5_gold 7 RX5 := o
          refine v_lv [(0, .ref x), (1, .int (nI i)), (2, .int (nI j)), (3, .int (nI an)), (4, .int letter)] rfl ?_
          refine v_aload_n 0 o dX5_gold_0 rfl rfl ?_
          refine v_iload_n 1 o dX5_gold_1 rfl rfl ?_
          refine v_callVr (v := .ref (B i)) [.int (nI i)] [] o dX5_gold_2 cw_X5_79 im_X5_bookAt se_X5_bookAt cf5 hR.h0 (c_bookAt_t hl hR i hi) rfl rfl (by decide) ⟨rfl, rfl⟩ (by decide) (Nat.le_of_ble_eq_true rfl) ?_
          refine v_iload_n 2 o dX5_gold_5 rfl rfl ?_
          refine v_callSr (v := .ref (pA B i j)) [.ref (B i), .int (nI j)] [] o dX5_gold_6 cw_X5_83 st_X5_pageAt (c_pageAt_t hl hR i j hi hj) rfl rfl (by decide) ⟨rfl, rfl⟩ (by decide) (Nat.le_of_ble_eq_true rfl) ?_
          refine v_astore [(5, .ref (pA B i j)), (0, .ref x), (1, .int (nI i)), (2, .int (nI j)), (3, .int (nI an)), (4, .int letter)] o dX5_gold_9 (by decide) rfl ?_
          refine v_iload_n 4 o dX5_gold_11 rfl rfl ?_
          refine v_callS [.int (nI an)] [] o dX5_gold_12 cw_X5_197 st_X5_needPlace (c_needPlace_t hl an (by omega)) rfl rfl (by decide) (by decide) (Nat.le_of_ble_eq_true rfl) ?_ (fun _ _ _ _ h => h.elim)
          rintro _ _ _ _ ⟨rfl, rfl, hz9⟩
          subst hz9
          refine v_st [] rfl ?_
          refine v_iload 5 o dX5_gold_15 rfl ?_
          refine v_iconst 0 o dX5_gold_17 rfl ?_
          refine v_bipush 25 o dX5_gold_18 (by decide) ?_
          refine v_callS [.int letter, .int (nI 0), .int (nI 25)] [] o dX5_gold_20 cw_X5_54 st_X5_needArgument (c_needArg_f hl letter (nI 0) (nI 25) hY) rfl rfl (by decide) (by decide) (Nat.le_of_ble_eq_true rfl) (fun _ _ _ _ h => h.elim) ?_
          rintro _ _ z9 hz ⟨rfl, rfl, -⟩
          exact v_out o hx (by decide) (by decide) ⟨⟨1, (by simp [sp_gold, hL, ti, tj, tv, spot, hY] : (sp_gold σ (nI i) (nI j) (nI an) letter).2 = th σ 2), rfl⟩, rfl⟩
        | true =>
          obtain ⟨lt, -, hlt, rfl⟩ := inR_nat hY (by decide) (by decide)
          have tl : tn (nI lt) = lt := tn_nI (by omega)
          refine Ct.of hl (by decide +kernel) (Nat.le_of_ble_eq_true rfl) ?_
          intro p e s mi args below meth c o hnm hr hx
          have o : Ok p l s mi args meth c g cX5_gold 7 RX5 := o
          refine v_lv [(0, .ref x), (1, .int (nI i)), (2, .int (nI j)), (3, .int (nI an)), (4, .int (nI lt))] rfl ?_
          refine v_aload_n 0 o dX5_gold_0 rfl rfl ?_
          refine v_iload_n 1 o dX5_gold_1 rfl rfl ?_
          refine v_callVr (v := .ref (B i)) [.int (nI i)] [] o dX5_gold_2 cw_X5_79 im_X5_bookAt se_X5_bookAt cf5 hR.h0 (c_bookAt_t hl hR i hi) rfl rfl (by decide) ⟨rfl, rfl⟩ (by decide) (Nat.le_of_ble_eq_true rfl) ?_
          refine v_iload_n 2 o dX5_gold_5 rfl rfl ?_
          refine v_callSr (v := .ref (pA B i j)) [.ref (B i), .int (nI j)] [] o dX5_gold_6 cw_X5_83 st_X5_pageAt (c_pageAt_t hl hR i j hi hj) rfl rfl (by decide) ⟨rfl, rfl⟩ (by decide) (Nat.le_of_ble_eq_true rfl) ?_
          refine v_astore [(5, .ref (pA B i j)), (0, .ref x), (1, .int (nI i)), (2, .int (nI j)), (3, .int (nI an)), (4, .int (nI lt))] o dX5_gold_9 (by decide) rfl ?_
          refine v_iload_n 4 o dX5_gold_11 rfl rfl ?_
          refine v_callS [.int (nI an)] [] o dX5_gold_12 cw_X5_197 st_X5_needPlace (c_needPlace_t hl an (by omega)) rfl rfl (by decide) (by decide) (Nat.le_of_ble_eq_true rfl) ?_ (fun _ _ _ _ h => h.elim)
          rintro _ _ _ _ ⟨rfl, rfl, hz9⟩
          subst hz9
          refine v_st [] rfl ?_
          refine v_iload 5 o dX5_gold_15 rfl ?_
          refine v_iconst 0 o dX5_gold_17 rfl ?_
          refine v_bipush 25 o dX5_gold_18 (by decide) ?_
          refine v_callS [.int (nI lt), .int (nI 0), .int (nI 25)] [] o dX5_gold_20 cw_X5_54 st_X5_needArgument (c_needArg_t hl (nI lt) (nI 0) (nI 25) hY) rfl rfl (by decide) (by decide) (Nat.le_of_ble_eq_true rfl) ?_ (fun _ _ _ _ h => h.elim)
          rintro _ _ _ _ ⟨rfl, rfl, hz9⟩
          subst hz9
          refine v_st [] rfl ?_
          refine v_aload 0 o dX5_gold_23 rfl ?_
          refine v_get (v := .ref (pA B i j + 3)) o dX5_gold_25 cf2 8 (by decide) fl_X5_200 (hR.p0 hi hj) rfl ?_
          refine v_iload_n 4 o dX5_gold_28 rfl rfl ?_
          refine v_iald (mI (σ.1 1 (4 * (12 * i + j) + an))) o dX5_gold_29 (by omega) (by decide) (hR.p3 hi hj) ((rs_lt (by omega)).trans rfl) ?_
          refine v_istore [(6, .int (mI (σ.1 1 (4 * (12 * i + j) + an)))), (5, .ref (pA B i j)), (0, .ref x), (1, .int (nI i)), (2, .int (nI j)), (3, .int (nI an)), (4, .int (nI lt))] o dX5_gold_30 (by decide) rfl ?_
          refine v_aload 1 o dX5_gold_32 rfl ?_
          refine v_get (v := .ref (pA B i j + 3)) o dX5_gold_34 cf2 8 (by decide) fl_X5_200 (hR.p0 hi hj) rfl ?_
          refine v_iload_n 5 o dX5_gold_37 rfl rfl ?_
          refine v_iload 6 o dX5_gold_38 rfl ?_
          refine v_top (mI (lt + 1)) (mI_s lt).symm ?_
          refine v_iast o dX5_gold_40 (by omega) (by decide) (hR.p3 hi hj) (fun μ1 e1 => ?_)
          have hR1 := hR.u_gd (k0 := an) hi hj (by omega) (v := lt + 1) e1
          refine v_iload 0 o dX5_gold_41 rfl ?_
          have e9 : sp_gold σ (nI i) (nI j) (nI an) (nI lt) = (mI (σ.1 1 (4 * (12 * i + j) + an)), uN (th σ 0) 1 (4 * (12 * i + j) + an) (lt + 1)) := by simp [sp_gold, th, hL, ti, tj, tv, spot, hY, tl]
          exact v_iret o dX5_gold_43 hr (Nat.le_of_ble_eq_true rfl) (Nat.le_of_ble_eq_true rfl) (by rw [e9]; exact ⟨rfl, rfl, _, _, hR1.th1 0⟩)

set_option maxRecDepth 100000 in
set_option maxHeartbeats 4000000 in
theorem k_key {l : Launch} (hl : l.stackTraces = false) {g : mG} {x z z0 : Nat} {B : Nat → Nat} {μ0 μ : mM} {σ τ : Sg} (hR : RC g x B z0 μ0 σ τ μ) (hI : Inv σ) (w b q a letter : Int32) : Ct l g yX5_key [Cond.code yX5_key cX5_key 8 (some .int)] { frames := 7, cells := 1, slots := 6, locals := 104 } [.ref x, .int w, .int b, .int q, .int a, .int letter] μ z (clP g x z0 μ0 (some (.int (sp_key σ w b q a letter).1)) (sp_key σ w b q a letter).2) (clX ["java/lang/IndexOutOfBoundsException", "java/lang/IllegalArgumentException"] σ (sp_key σ w b q a letter).2 μ) := by
  cases hK : inR w (nI 0) (nI 4) with
  | false =>
    have hO : okI w 5 = false := by unfold okI; rw [mI_s]; exact hK
    refine Ct.of hl (by decide +kernel) (Nat.le_of_ble_eq_true rfl) ?_
    intro p e s mi args below meth c o hnm hr hx
    have o : Ok p l s mi args meth c g cX5_key 8 RX5 := o
    refine v_lv [(0, .ref x), (1, .int w), (2, .int b), (3, .int q), (4, .int a), (5, .int letter)] rfl ?_
    refine v_iload_n 1 o dX5_key_0 rfl rfl ?_
    refine v_callS [.int w] [] o dX5_key_1 cw_X5_203 st_X5_needKeyer (c_needKeyer_f hl w hO) rfl rfl (by decide) (by decide) (Nat.le_of_ble_eq_true rfl) (fun _ _ _ _ h => h.elim) ?_
    rintro _ _ z9 hz ⟨rfl, rfl, -⟩
    exact v_out o hx (by decide) (by decide) ⟨⟨0, (by simp [sp_key, hK] : (sp_key σ w b q a letter).2 = th σ 1), rfl⟩, rfl⟩
  | true =>
    obtain ⟨u, -, hu, rfl⟩ := inR_nat hK (by decide) (by decide)
    have tu : tn (nI u) = u := tn_nI (by omega)
    cases hB : isB σ b with
    | false =>
      have hP : isP σ b q = false := isP_f hB
      have hL : isL σ b q a = false := by unfold isL; rw [hP]; rfl
      refine Ct.of hl (by decide +kernel) (Nat.le_of_ble_eq_true rfl) ?_
      intro p e s mi args below meth c o hnm hr hx
      have o : Ok p l s mi args meth c g cX5_key 8 RX5 := o
      refine v_lv [(0, .ref x), (1, .int (nI u)), (2, .int b), (3, .int q), (4, .int a), (5, .int letter)] rfl ?_
      refine v_iload_n 1 o dX5_key_0 rfl rfl ?_
      refine v_callS [.int (nI u)] [] o dX5_key_1 cw_X5_203 st_X5_needKeyer (c_needKeyer_t hl u (by omega)) rfl rfl (by decide) (by decide) (Nat.le_of_ble_eq_true rfl) ?_ (fun _ _ _ _ h => h.elim)
      rintro _ _ _ _ ⟨rfl, rfl, hz9⟩
      subst hz9
      refine v_st [] rfl ?_
      refine v_aload_n 0 o dX5_key_4 rfl rfl ?_
      refine v_iload_n 2 o dX5_key_5 rfl rfl ?_
      refine v_callV [.int b] [] o dX5_key_6 cw_X5_79 im_X5_bookAt se_X5_bookAt cf5 hR.h0 (c_bookAt_f hl hR b hB) rfl rfl (by decide) (by decide) (Nat.le_of_ble_eq_true rfl) (fun _ _ _ _ h => h.elim) ?_
      rintro _ _ z9 hz ⟨rfl, rfl, -⟩
      exact v_out o hx (by decide) (by decide) ⟨⟨0, (by simp [sp_key, hK, hL] : (sp_key σ (nI u) b q a letter).2 = th σ 1), rfl⟩, rfl⟩
    | true =>
      obtain ⟨i, hi, rfl⟩ := isB_t hI hB
      have h6 := hI.1
      have h12 := hI.2.1 i
      have ti : tn (nI i) = i := tn_nI (by omega)
      cases hQ : okI q (σ.1 0 i) with
      | false =>
        have hP : isP σ (nI i) q = false := by unfold isP; rw [hB, ti, hQ]; rfl
        have hL : isL σ (nI i) q a = false := by unfold isL; rw [hP]; rfl
        refine Ct.of hl (by decide +kernel) (Nat.le_of_ble_eq_true rfl) ?_
        intro p e s mi args below meth c o hnm hr hx
        have o : Ok p l s mi args meth c g cX5_key 8 RX5 := o
        refine v_lv [(0, .ref x), (1, .int (nI u)), (2, .int (nI i)), (3, .int q), (4, .int a), (5, .int letter)] rfl ?_
        refine v_iload_n 1 o dX5_key_0 rfl rfl ?_
        refine v_callS [.int (nI u)] [] o dX5_key_1 cw_X5_203 st_X5_needKeyer (c_needKeyer_t hl u (by omega)) rfl rfl (by decide) (by decide) (Nat.le_of_ble_eq_true rfl) ?_ (fun _ _ _ _ h => h.elim)
        rintro _ _ _ _ ⟨rfl, rfl, hz9⟩
        subst hz9
        refine v_st [] rfl ?_
        refine v_aload_n 0 o dX5_key_4 rfl rfl ?_
        refine v_iload_n 2 o dX5_key_5 rfl rfl ?_
        refine v_callVr (v := .ref (B i)) [.int (nI i)] [] o dX5_key_6 cw_X5_79 im_X5_bookAt se_X5_bookAt cf5 hR.h0 (c_bookAt_t hl hR i hi) rfl rfl (by decide) ⟨rfl, rfl⟩ (by decide) (Nat.le_of_ble_eq_true rfl) ?_
        refine v_iload_n 3 o dX5_key_9 rfl rfl ?_
        refine v_callS [.ref (B i), .int q] [] o dX5_key_10 cw_X5_83 st_X5_pageAt (c_pageAt_f hl hR i q hi hQ) rfl rfl (by decide) (by decide) (Nat.le_of_ble_eq_true rfl) (fun _ _ _ _ h => h.elim) ?_
        rintro _ _ z9 hz ⟨rfl, rfl, -⟩
        exact v_out o hx (by decide) (by decide) ⟨⟨0, (by simp [sp_key, hK, hL] : (sp_key σ (nI u) (nI i) q a letter).2 = th σ 1), rfl⟩, rfl⟩
      | true =>
        obtain ⟨j, hj, rfl⟩ := okI_t hQ (by omega)
        have hP := isP_nI hI hi hj
        have tj : tn (nI j) = j := tn_nI (by omega)
        cases hA : isV a with
        | false =>
          have hO : okI a 4 = false := by rw [← isV_ok]; exact hA
          have hL : isL σ (nI i) (nI j) a = false := by unfold isL; rw [hP, show inR a (nI 0) (nI 3) = false from hA]; rfl
          refine Ct.of hl (by decide +kernel) (Nat.le_of_ble_eq_true rfl) ?_
          intro p e s mi args below meth c o hnm hr hx
          have o : Ok p l s mi args meth c g cX5_key 8 RX5 := o
          refine v_lv [(0, .ref x), (1, .int (nI u)), (2, .int (nI i)), (3, .int (nI j)), (4, .int a), (5, .int letter)] rfl ?_
          refine v_iload_n 1 o dX5_key_0 rfl rfl ?_
          refine v_callS [.int (nI u)] [] o dX5_key_1 cw_X5_203 st_X5_needKeyer (c_needKeyer_t hl u (by omega)) rfl rfl (by decide) (by decide) (Nat.le_of_ble_eq_true rfl) ?_ (fun _ _ _ _ h => h.elim)
          rintro _ _ _ _ ⟨rfl, rfl, hz9⟩
          subst hz9
          refine v_st [] rfl ?_
          refine v_aload_n 0 o dX5_key_4 rfl rfl ?_
          refine v_iload_n 2 o dX5_key_5 rfl rfl ?_
          refine v_callVr (v := .ref (B i)) [.int (nI i)] [] o dX5_key_6 cw_X5_79 im_X5_bookAt se_X5_bookAt cf5 hR.h0 (c_bookAt_t hl hR i hi) rfl rfl (by decide) ⟨rfl, rfl⟩ (by decide) (Nat.le_of_ble_eq_true rfl) ?_
          refine v_iload_n 3 o dX5_key_9 rfl rfl ?_
          refine v_callSr (v := .ref (pA B i j)) [.ref (B i), .int (nI j)] [] o dX5_key_10 cw_X5_83 st_X5_pageAt (c_pageAt_t hl hR i j hi hj) rfl rfl (by decide) ⟨rfl, rfl⟩ (by decide) (Nat.le_of_ble_eq_true rfl) ?_
          refine v_astore [(6, .ref (pA B i j)), (0, .ref x), (1, .int (nI u)), (2, .int (nI i)), (3, .int (nI j)), (4, .int a), (5, .int letter)] o dX5_key_13 (by decide) rfl ?_
          refine v_iload 5 o dX5_key_15 rfl ?_
          refine v_callS [.int a] [] o dX5_key_17 cw_X5_197 st_X5_needPlace (c_needPlace_f hl a hO) rfl rfl (by decide) (by decide) (Nat.le_of_ble_eq_true rfl) (fun _ _ _ _ h => h.elim) ?_
          rintro _ _ z9 hz ⟨rfl, rfl, -⟩
          exact v_out o hx (by decide) (by decide) ⟨⟨0, (by simp [sp_key, hK, hL] : (sp_key σ (nI u) (nI i) (nI j) a letter).2 = th σ 1), rfl⟩, rfl⟩
        | true =>
          obtain ⟨an, hv, rfl⟩ := isV_t hA
          have tv : tn (nI an) = an := tn_nI (by omega)
          have hL : isL σ (nI i) (nI j) (nI an) = true := by unfold isL; rw [hP, show inR (nI an) (nI 0) (nI 3) = true from hA]; rfl
          cases hY : inR letter (nI 0) (nI 25) with
          | false =>
            refine Ct.of hl (by decide +kernel) (Nat.le_of_ble_eq_true rfl) ?_
            intro p e s mi args below meth c o hnm hr hx
            have o : Ok p l s mi args meth c g cX5_key 8 RX5 := o
            refine v_lv [(0, .ref x), (1, .int (nI u)), (2, .int (nI i)), (3, .int (nI j)), (4, .int (nI an)), (5, .int letter)] rfl ?_
            refine v_iload_n 1 o dX5_key_0 rfl rfl ?_
            refine v_callS [.int (nI u)] [] o dX5_key_1 cw_X5_203 st_X5_needKeyer (c_needKeyer_t hl u (by omega)) rfl rfl (by decide) (by decide) (Nat.le_of_ble_eq_true rfl) ?_ (fun _ _ _ _ h => h.elim)
            rintro _ _ _ _ ⟨rfl, rfl, hz9⟩
            subst hz9
            refine v_st [] rfl ?_
            refine v_aload_n 0 o dX5_key_4 rfl rfl ?_
            refine v_iload_n 2 o dX5_key_5 rfl rfl ?_
            refine v_callVr (v := .ref (B i)) [.int (nI i)] [] o dX5_key_6 cw_X5_79 im_X5_bookAt se_X5_bookAt cf5 hR.h0 (c_bookAt_t hl hR i hi) rfl rfl (by decide) ⟨rfl, rfl⟩ (by decide) (Nat.le_of_ble_eq_true rfl) ?_
            refine v_iload_n 3 o dX5_key_9 rfl rfl ?_
            refine v_callSr (v := .ref (pA B i j)) [.ref (B i), .int (nI j)] [] o dX5_key_10 cw_X5_83 st_X5_pageAt (c_pageAt_t hl hR i j hi hj) rfl rfl (by decide) ⟨rfl, rfl⟩ (by decide) (Nat.le_of_ble_eq_true rfl) ?_
            refine v_astore [(6, .ref (pA B i j)), (0, .ref x), (1, .int (nI u)), (2, .int (nI i)), (3, .int (nI j)), (4, .int (nI an)), (5, .int letter)] o dX5_key_13 (by decide) rfl ?_
            refine v_iload 5 o dX5_key_15 rfl ?_
            refine v_callS [.int (nI an)] [] o dX5_key_17 cw_X5_197 st_X5_needPlace (c_needPlace_t hl an (by omega)) rfl rfl (by decide) (by decide) (Nat.le_of_ble_eq_true rfl) ?_ (fun _ _ _ _ h => h.elim)
            rintro _ _ _ _ ⟨rfl, rfl, hz9⟩
            subst hz9
            refine v_st [] rfl ?_
            refine v_iload 6 o dX5_key_20 rfl ?_
            refine v_iconst 0 o dX5_key_22 rfl ?_
            refine v_bipush 25 o dX5_key_23 (by decide) ?_
            refine v_callS [.int letter, .int (nI 0), .int (nI 25)] [] o dX5_key_25 cw_X5_54 st_X5_needArgument (c_needArg_f hl letter (nI 0) (nI 25) hY) rfl rfl (by decide) (by decide) (Nat.le_of_ble_eq_true rfl) (fun _ _ _ _ h => h.elim) ?_
            rintro _ _ z9 hz ⟨rfl, rfl, -⟩
            exact v_out o hx (by decide) (by decide) ⟨⟨1, (by simp [sp_key, hL, ti, tj, tv, spot, hK, tu, hY] : (sp_key σ (nI u) (nI i) (nI j) (nI an) letter).2 = th σ 2), rfl⟩, rfl⟩
          | true =>
            obtain ⟨lt, -, hlt, rfl⟩ := inR_nat hY (by decide) (by decide)
            have tl : tn (nI lt) = lt := tn_nI (by omega)
            refine Ct.of hl (by decide +kernel) (Nat.le_of_ble_eq_true rfl) ?_
            intro p e s mi args below meth c o hnm hr hx
            have o : Ok p l s mi args meth c g cX5_key 8 RX5 := o
            refine v_lv [(0, .ref x), (1, .int (nI u)), (2, .int (nI i)), (3, .int (nI j)), (4, .int (nI an)), (5, .int (nI lt))] rfl ?_
            refine v_iload_n 1 o dX5_key_0 rfl rfl ?_
            refine v_callS [.int (nI u)] [] o dX5_key_1 cw_X5_203 st_X5_needKeyer (c_needKeyer_t hl u (by omega)) rfl rfl (by decide) (by decide) (Nat.le_of_ble_eq_true rfl) ?_ (fun _ _ _ _ h => h.elim)
            rintro _ _ _ _ ⟨rfl, rfl, hz9⟩
            subst hz9
            refine v_st [] rfl ?_
            refine v_aload_n 0 o dX5_key_4 rfl rfl ?_
            refine v_iload_n 2 o dX5_key_5 rfl rfl ?_
            refine v_callVr (v := .ref (B i)) [.int (nI i)] [] o dX5_key_6 cw_X5_79 im_X5_bookAt se_X5_bookAt cf5 hR.h0 (c_bookAt_t hl hR i hi) rfl rfl (by decide) ⟨rfl, rfl⟩ (by decide) (Nat.le_of_ble_eq_true rfl) ?_
            refine v_iload_n 3 o dX5_key_9 rfl rfl ?_
            refine v_callSr (v := .ref (pA B i j)) [.ref (B i), .int (nI j)] [] o dX5_key_10 cw_X5_83 st_X5_pageAt (c_pageAt_t hl hR i j hi hj) rfl rfl (by decide) ⟨rfl, rfl⟩ (by decide) (Nat.le_of_ble_eq_true rfl) ?_
            refine v_astore [(6, .ref (pA B i j)), (0, .ref x), (1, .int (nI u)), (2, .int (nI i)), (3, .int (nI j)), (4, .int (nI an)), (5, .int (nI lt))] o dX5_key_13 (by decide) rfl ?_
            refine v_iload 5 o dX5_key_15 rfl ?_
            refine v_callS [.int (nI an)] [] o dX5_key_17 cw_X5_197 st_X5_needPlace (c_needPlace_t hl an (by omega)) rfl rfl (by decide) (by decide) (Nat.le_of_ble_eq_true rfl) ?_ (fun _ _ _ _ h => h.elim)
            rintro _ _ _ _ ⟨rfl, rfl, hz9⟩
            subst hz9
            refine v_st [] rfl ?_
            refine v_iload 6 o dX5_key_20 rfl ?_
            refine v_iconst 0 o dX5_key_22 rfl ?_
            refine v_bipush 25 o dX5_key_23 (by decide) ?_
            refine v_callS [.int (nI lt), .int (nI 0), .int (nI 25)] [] o dX5_key_25 cw_X5_54 st_X5_needArgument (c_needArg_t hl (nI lt) (nI 0) (nI 25) hY) rfl rfl (by decide) (by decide) (Nat.le_of_ble_eq_true rfl) ?_ (fun _ _ _ _ h => h.elim)
            rintro _ _ _ _ ⟨rfl, rfl, hz9⟩
            subst hz9
            refine v_st [] rfl ?_
            refine v_aload 0 o dX5_key_28 rfl ?_
            refine v_get (v := .ref (pA B i j + 4)) o dX5_key_30 cf2 9 (by decide) fl_X5_206 (hR.p0 hi hj) rfl ?_
            refine v_iload_n 2 o dX5_key_33 rfl rfl ?_
            refine v_aaldI (.ref (pA B i j + 4 + 1 + u)) o dX5_key_34 (by omega) (by decide) (hR.p4 hi hj) (by simp only [if_pos (show u < 5 from (by omega))]; rfl) ?_
            refine v_iload 5 o dX5_key_35 rfl ?_
            refine v_iald (mI (σ.1 2 (5 * (4 * (12 * i + j) + an) + u))) o dX5_key_37 (by omega) (by decide) (hR.p5 hi hj (by omega)) ((rs_lt (by omega)).trans rfl) ?_
            refine v_istore [(7, .int (mI (σ.1 2 (5 * (4 * (12 * i + j) + an) + u)))), (6, .ref (pA B i j)), (0, .ref x), (1, .int (nI u)), (2, .int (nI i)), (3, .int (nI j)), (4, .int (nI an)), (5, .int (nI lt))] o dX5_key_38 (by decide) rfl ?_
            refine v_aload 1 o dX5_key_40 rfl ?_
            refine v_get (v := .ref (pA B i j + 4)) o dX5_key_42 cf2 9 (by decide) fl_X5_206 (hR.p0 hi hj) rfl ?_
            refine v_iload_n 3 o dX5_key_45 rfl rfl ?_
            refine v_aaldI (.ref (pA B i j + 4 + 1 + u)) o dX5_key_46 (by omega) (by decide) (hR.p4 hi hj) (by simp only [if_pos (show u < 5 from (by omega))]; rfl) ?_
            refine v_iload 6 o dX5_key_47 rfl ?_
            refine v_iload 7 o dX5_key_49 rfl ?_
            refine v_top (mI (lt + 1)) (mI_s lt).symm ?_
            refine v_iast o dX5_key_51 (by omega) (by decide) (hR.p5 hi hj (by omega)) (fun μ1 e1 => ?_)
            have hR1 := hR.u_ky (k0 := an) hi hj (by omega) (by omega) (v := lt + 1) e1
            refine v_iload 0 o dX5_key_52 rfl ?_
            have e9 : sp_key σ (nI u) (nI i) (nI j) (nI an) (nI lt) = (mI (σ.1 2 (5 * (4 * (12 * i + j) + an) + u)), uN (th σ 0) 2 (5 * (4 * (12 * i + j) + an) + u) (lt + 1)) := by simp [sp_key, th, hL, ti, tj, tv, spot, hK, tu, hY, tl]
            exact v_iret o dX5_key_54 hr (Nat.le_of_ble_eq_true rfl) (Nat.le_of_ble_eq_true rfl) (by rw [e9]; exact ⟨rfl, rfl, _, _, hR1.th2 0⟩)

set_option maxRecDepth 100000 in
set_option maxHeartbeats 4000000 in
theorem k_trust {l : Launch} (hl : l.stackTraces = false) {g : mG} {x z z0 : Nat} {B : Nat → Nat} {μ0 μ : mM} {σ τ : Sg} (hR : RC g x B z0 μ0 σ τ μ) (hI : Inv σ) (w : Int32) : Ct l g yX5_trust [Cond.code yX5_trust cX5_trust 2 (some .int)] { frames := 7, cells := 1, slots := 6, locals := 102 } [.ref x, .int w] μ z (clP g x z0 μ0 (some (.int (sp_trust σ w).1)) (sp_trust σ w).2) (clX ["java/lang/IndexOutOfBoundsException"] σ (sp_trust σ w).2 μ) := by
  cases hK : inR w (nI 0) (nI 4) with
  | false =>
    have hO : okI w 5 = false := by unfold okI; rw [mI_s]; exact hK
    refine Ct.of hl (by decide +kernel) (Nat.le_of_ble_eq_true rfl) ?_
    intro p e s mi args below meth c o hnm hr hx
    have o : Ok p l s mi args meth c g cX5_trust 2 RX5 := o
    refine v_lv [(0, .ref x), (1, .int w)] rfl ?_
    refine v_iload_n 1 o dX5_trust_0 rfl rfl ?_
    refine v_callS [.int w] [] o dX5_trust_1 cw_X5_203 st_X5_needKeyer (c_needKeyer_f hl w hO) rfl rfl (by decide) (by decide) (Nat.le_of_ble_eq_true rfl) (fun _ _ _ _ h => h.elim) ?_
    rintro _ _ z9 hz ⟨rfl, rfl, -⟩
    exact v_out o hx (by decide) (by decide) ⟨⟨0, (by simp [sp_trust, hK] : (sp_trust σ w).2 = th σ 1), rfl⟩, rfl⟩
  | true =>
    obtain ⟨u, -, hu, rfl⟩ := inR_nat hK (by decide) (by decide)
    have tu : tn (nI u) = u := tn_nI (by omega)
    refine Ct.of hl (by decide +kernel) (Nat.le_of_ble_eq_true rfl) ?_
    intro p e s mi args below meth c o hnm hr hx
    have o : Ok p l s mi args meth c g cX5_trust 2 RX5 := o
    refine v_lv [(0, .ref x), (1, .int (nI u))] rfl ?_
    refine v_iload_n 1 o dX5_trust_0 rfl rfl ?_
    refine v_callS [.int (nI u)] [] o dX5_trust_1 cw_X5_203 st_X5_needKeyer (c_needKeyer_t hl u (by omega)) rfl rfl (by decide) (by decide) (Nat.le_of_ble_eq_true rfl) ?_ (fun _ _ _ _ h => h.elim)
    rintro _ _ _ _ ⟨rfl, rfl, hz9⟩
    subst hz9
    refine v_st [] rfl ?_
    refine v_aload_n 0 o dX5_trust_4 rfl rfl ?_
    refine v_iload_n 1 o dX5_trust_5 rfl rfl ?_
    refine v_callVr (v := .int (nI (trustN σ u))) [.int (nI u)] [] o dX5_trust_6 cw_X5_210 im_X5_trustIn se_X5_trustIn cf5 hR.h0 (c_trustIn hl hR hI u (by omega)) rfl rfl (by decide) ⟨rfl, rfl⟩ (by decide) (Nat.le_of_ble_eq_true rfl) ?_
    have e9 : sp_trust σ (nI u) = (nI (trustN σ u), th σ 0) := by simp [sp_trust, th, hK, tu]
    exact v_iret o dX5_trust_9 hr (Nat.le_of_ble_eq_true rfl) (Nat.le_of_ble_eq_true rfl) (by rw [e9]; exact ⟨rfl, rfl, _, _, hR.thk 0⟩)

set_option maxRecDepth 100000 in
set_option maxHeartbeats 4000000 in
theorem k_read {l : Launch} (hl : l.stackTraces = false) {g : mG} {x z z0 : Nat} {B : Nat → Nat} {μ0 μ : mM} {σ τ : Sg} (hR : RC g x B z0 μ0 σ τ μ) (hI : Inv σ) (b q a : Int32) : Ct l g yX5_read [Cond.code yX5_read cX5_read 5 (some .int)] { frames := 7, cells := 1, slots := 6, locals := 104 } [.ref x, .int b, .int q, .int a] μ z (clP g x z0 μ0 (some (.int (sp_read σ b q a).1)) (sp_read σ b q a).2) (clX ["java/lang/IndexOutOfBoundsException"] σ (sp_read σ b q a).2 μ) := by
  cases hB : isB σ b with
  | false =>
    have hP : isP σ b q = false := isP_f hB
    have hL : isL σ b q a = false := by unfold isL; rw [hP]; rfl
    refine Ct.of hl (by decide +kernel) (Nat.le_of_ble_eq_true rfl) ?_
    intro p e s mi args below meth c o hnm hr hx
    have o : Ok p l s mi args meth c g cX5_read 5 RX5 := o
    refine v_lv [(0, .ref x), (1, .int b), (2, .int q), (3, .int a)] rfl ?_
    refine v_aload_n 0 o dX5_read_0 rfl rfl ?_
    refine v_iload_n 1 o dX5_read_1 rfl rfl ?_
    refine v_callV [.int b] [] o dX5_read_2 cw_X5_79 im_X5_bookAt se_X5_bookAt cf5 hR.h0 (c_bookAt_f hl hR b hB) rfl rfl (by decide) (by decide) (Nat.le_of_ble_eq_true rfl) (fun _ _ _ _ h => h.elim) ?_
    rintro _ _ z9 hz ⟨rfl, rfl, -⟩
    exact v_out o hx (by decide) (by decide) ⟨⟨0, (by simp [sp_read, hL] : (sp_read σ b q a).2 = th σ 1), rfl⟩, rfl⟩
  | true =>
    obtain ⟨i, hi, rfl⟩ := isB_t hI hB
    have h6 := hI.1
    have h12 := hI.2.1 i
    have ti : tn (nI i) = i := tn_nI (by omega)
    cases hQ : okI q (σ.1 0 i) with
    | false =>
      have hP : isP σ (nI i) q = false := by unfold isP; rw [hB, ti, hQ]; rfl
      have hL : isL σ (nI i) q a = false := by unfold isL; rw [hP]; rfl
      refine Ct.of hl (by decide +kernel) (Nat.le_of_ble_eq_true rfl) ?_
      intro p e s mi args below meth c o hnm hr hx
      have o : Ok p l s mi args meth c g cX5_read 5 RX5 := o
      refine v_lv [(0, .ref x), (1, .int (nI i)), (2, .int q), (3, .int a)] rfl ?_
      refine v_aload_n 0 o dX5_read_0 rfl rfl ?_
      refine v_iload_n 1 o dX5_read_1 rfl rfl ?_
      refine v_callVr (v := .ref (B i)) [.int (nI i)] [] o dX5_read_2 cw_X5_79 im_X5_bookAt se_X5_bookAt cf5 hR.h0 (c_bookAt_t hl hR i hi) rfl rfl (by decide) ⟨rfl, rfl⟩ (by decide) (Nat.le_of_ble_eq_true rfl) ?_
      refine v_iload_n 2 o dX5_read_5 rfl rfl ?_
      refine v_callS [.ref (B i), .int q] [] o dX5_read_6 cw_X5_83 st_X5_pageAt (c_pageAt_f hl hR i q hi hQ) rfl rfl (by decide) (by decide) (Nat.le_of_ble_eq_true rfl) (fun _ _ _ _ h => h.elim) ?_
      rintro _ _ z9 hz ⟨rfl, rfl, -⟩
      exact v_out o hx (by decide) (by decide) ⟨⟨0, (by simp [sp_read, hL] : (sp_read σ (nI i) q a).2 = th σ 1), rfl⟩, rfl⟩
    | true =>
      obtain ⟨j, hj, rfl⟩ := okI_t hQ (by omega)
      have hP := isP_nI hI hi hj
      have tj : tn (nI j) = j := tn_nI (by omega)
      cases hA : isV a with
      | false =>
        have hO : okI a 4 = false := by rw [← isV_ok]; exact hA
        have hL : isL σ (nI i) (nI j) a = false := by unfold isL; rw [hP, show inR a (nI 0) (nI 3) = false from hA]; rfl
        refine Ct.of hl (by decide +kernel) (Nat.le_of_ble_eq_true rfl) ?_
        intro p e s mi args below meth c o hnm hr hx
        have o : Ok p l s mi args meth c g cX5_read 5 RX5 := o
        refine v_lv [(0, .ref x), (1, .int (nI i)), (2, .int (nI j)), (3, .int a)] rfl ?_
        refine v_aload_n 0 o dX5_read_0 rfl rfl ?_
        refine v_iload_n 1 o dX5_read_1 rfl rfl ?_
        refine v_callVr (v := .ref (B i)) [.int (nI i)] [] o dX5_read_2 cw_X5_79 im_X5_bookAt se_X5_bookAt cf5 hR.h0 (c_bookAt_t hl hR i hi) rfl rfl (by decide) ⟨rfl, rfl⟩ (by decide) (Nat.le_of_ble_eq_true rfl) ?_
        refine v_iload_n 2 o dX5_read_5 rfl rfl ?_
        refine v_callSr (v := .ref (pA B i j)) [.ref (B i), .int (nI j)] [] o dX5_read_6 cw_X5_83 st_X5_pageAt (c_pageAt_t hl hR i j hi hj) rfl rfl (by decide) ⟨rfl, rfl⟩ (by decide) (Nat.le_of_ble_eq_true rfl) ?_
        refine v_astore [(4, .ref (pA B i j)), (0, .ref x), (1, .int (nI i)), (2, .int (nI j)), (3, .int a)] o dX5_read_9 (by decide) rfl ?_
        refine v_iload_n 4 o dX5_read_11 rfl rfl ?_
        refine v_callS [.int a] [] o dX5_read_12 cw_X5_197 st_X5_needPlace (c_needPlace_f hl a hO) rfl rfl (by decide) (by decide) (Nat.le_of_ble_eq_true rfl) (fun _ _ _ _ h => h.elim) ?_
        rintro _ _ z9 hz ⟨rfl, rfl, -⟩
        exact v_out o hx (by decide) (by decide) ⟨⟨0, (by simp [sp_read, hL] : (sp_read σ (nI i) (nI j) a).2 = th σ 1), rfl⟩, rfl⟩
      | true =>
        obtain ⟨an, hv, rfl⟩ := isV_t hA
        have tv : tn (nI an) = an := tn_nI (by omega)
        have hL : isL σ (nI i) (nI j) (nI an) = true := by unfold isL; rw [hP, show inR (nI an) (nI 0) (nI 3) = true from hA]; rfl
        have hg := hI.2.2.1 (4 * (12 * i + j) + an)
        have e1 : mI (σ.1 1 (4 * (12 * i + j) + an)) = -1 ↔ σ.1 1 (4 * (12 * i + j) + an) = 0 := mI_ne (by omega)
        refine Ct.of hl (by decide +kernel) (Nat.le_of_ble_eq_true rfl) ?_
        intro p e s mi args below meth c o hnm hr hx
        have o : Ok p l s mi args meth c g cX5_read 5 RX5 := o
        refine v_lv [(0, .ref x), (1, .int (nI i)), (2, .int (nI j)), (3, .int (nI an))] rfl ?_
        refine v_aload_n 0 o dX5_read_0 rfl rfl ?_
        refine v_iload_n 1 o dX5_read_1 rfl rfl ?_
        refine v_callVr (v := .ref (B i)) [.int (nI i)] [] o dX5_read_2 cw_X5_79 im_X5_bookAt se_X5_bookAt cf5 hR.h0 (c_bookAt_t hl hR i hi) rfl rfl (by decide) ⟨rfl, rfl⟩ (by decide) (Nat.le_of_ble_eq_true rfl) ?_
        refine v_iload_n 2 o dX5_read_5 rfl rfl ?_
        refine v_callSr (v := .ref (pA B i j)) [.ref (B i), .int (nI j)] [] o dX5_read_6 cw_X5_83 st_X5_pageAt (c_pageAt_t hl hR i j hi hj) rfl rfl (by decide) ⟨rfl, rfl⟩ (by decide) (Nat.le_of_ble_eq_true rfl) ?_
        refine v_astore [(4, .ref (pA B i j)), (0, .ref x), (1, .int (nI i)), (2, .int (nI j)), (3, .int (nI an))] o dX5_read_9 (by decide) rfl ?_
        refine v_iload_n 4 o dX5_read_11 rfl rfl ?_
        refine v_callS [.int (nI an)] [] o dX5_read_12 cw_X5_197 st_X5_needPlace (c_needPlace_t hl an (by omega)) rfl rfl (by decide) (by decide) (Nat.le_of_ble_eq_true rfl) ?_ (fun _ _ _ _ h => h.elim)
        rintro _ _ _ _ ⟨rfl, rfl, hz9⟩
        subst hz9
        refine v_st [] rfl ?_
        refine v_aload 0 o dX5_read_15 rfl ?_
        refine v_get (v := .ref (pA B i j + 3)) o dX5_read_17 cf2 8 (by decide) fl_X5_200 (hR.p0 hi hj) rfl ?_
        refine v_iload_n 4 o dX5_read_20 rfl rfl ?_
        refine v_iald (mI (σ.1 1 (4 * (12 * i + j) + an))) o dX5_read_21 (by omega) (by decide) (hR.p3 hi hj) ((rs_lt (by omega)).trans rfl) ?_
        refine v_iconst_i (-1) o dX5_read_22 (by decide) ?_
        refine v_icmp_eq 34 o dX5_read_23 (by decide) (fun c23 => ?_) (fun c23 => ?_)
        · refine v_aload_n 1 o dX5_read_34 rfl rfl ?_
          refine v_aload 0 o dX5_read_35 rfl ?_
          refine v_iload_n 4 o dX5_read_37 rfl rfl ?_
          refine v_callV [.ref (pA B i j), .int (nI an)] [] o dX5_read_38 cw_X5_216 im_X5_weighLetters se_X5_weighLetters cf5 hR.h0 (c_weigh hl hR hI i j hi hj an (by omega)) rfl rfl (by decide) (by decide) (Nat.le_of_ble_eq_true rfl) ?_ (fun _ _ _ _ h => h.elim)
          rintro _ μ1 _ _ ⟨rfl, ⟨τ1, hR1, hW1⟩, rfl⟩
          refine v_st [] rfl ?_
          refine v_aload_n 1 o dX5_read_41 rfl rfl ?_
          refine v_get (v := .ref (x + 9)) o dX5_read_42 cf5 6 (by decide) fl_X5_36 hR1.h0 rfl ?_
          refine v_callVr (v := .int (mI (bst σ (4 * (12 * i + j) + an) 26).1)) [] [] o dX5_read_45 cw_X5_219 im_X1_heaviestLetter se_X1_heaviestLetter cf1 hR1.h9 (c_heaviest hl hR1 hI (4 * (12 * i + j) + an) hW1) rfl rfl (by decide) ⟨rfl, rfl⟩ (by decide) (Nat.le_of_ble_eq_true rfl) ?_
          have e9 : sp_read σ (nI i) (nI j) (nI an) = (mI (bst σ (4 * (12 * i + j) + an) 26).1, th σ 0) := by simp [sp_read, th, hL, ti, tj, tv, spot, e1.mp c23]
          exact v_iret o dX5_read_48 hr (Nat.le_of_ble_eq_true rfl) (Nat.le_of_ble_eq_true rfl) (by rw [e9]; exact ⟨rfl, rfl, _, _, hR1.thk 0⟩)
        · refine v_aload 0 o dX5_read_26 rfl ?_
          refine v_get (v := .ref (pA B i j + 3)) o dX5_read_28 cf2 8 (by decide) fl_X5_200 (hR.p0 hi hj) rfl ?_
          refine v_iload_n 4 o dX5_read_31 rfl rfl ?_
          refine v_iald (mI (σ.1 1 (4 * (12 * i + j) + an))) o dX5_read_32 (by omega) (by decide) (hR.p3 hi hj) ((rs_lt (by omega)).trans rfl) ?_
          have e9 : sp_read σ (nI i) (nI j) (nI an) = (mI (σ.1 1 (4 * (12 * i + j) + an)), th σ 0) := by simp [sp_read, th, hL, ti, tj, tv, spot, Nat.pos_of_ne_zero (fun q => c23 (e1.mpr q))]
          exact v_iret o dX5_read_33 hr (Nat.le_of_ble_eq_true rfl) (Nat.le_of_ble_eq_true rfl) (by rw [e9]; exact ⟨rfl, rfl, _, _, hR.thk 0⟩)

set_option maxRecDepth 100000 in
set_option maxHeartbeats 4000000 in
theorem k_doubt {l : Launch} (hl : l.stackTraces = false) {g : mG} {x z z0 : Nat} {B : Nat → Nat} {μ0 μ : mM} {σ τ : Sg} (hR : RC g x B z0 μ0 σ τ μ) (hI : Inv σ) (b q a : Int32) : Ct l g yX5_doubt [Cond.code yX5_doubt cX5_doubt 5 (some .int)] { frames := 7, cells := 1, slots := 6, locals := 104 } [.ref x, .int b, .int q, .int a] μ z (clP g x z0 μ0 (some (.int (sp_doubt σ b q a).1)) (sp_doubt σ b q a).2) (clX ["java/lang/IndexOutOfBoundsException"] σ (sp_doubt σ b q a).2 μ) := by
  cases hB : isB σ b with
  | false =>
    have hP : isP σ b q = false := isP_f hB
    have hL : isL σ b q a = false := by unfold isL; rw [hP]; rfl
    refine Ct.of hl (by decide +kernel) (Nat.le_of_ble_eq_true rfl) ?_
    intro p e s mi args below meth c o hnm hr hx
    have o : Ok p l s mi args meth c g cX5_doubt 5 RX5 := o
    refine v_lv [(0, .ref x), (1, .int b), (2, .int q), (3, .int a)] rfl ?_
    refine v_aload_n 0 o dX5_doubt_0 rfl rfl ?_
    refine v_iload_n 1 o dX5_doubt_1 rfl rfl ?_
    refine v_callV [.int b] [] o dX5_doubt_2 cw_X5_79 im_X5_bookAt se_X5_bookAt cf5 hR.h0 (c_bookAt_f hl hR b hB) rfl rfl (by decide) (by decide) (Nat.le_of_ble_eq_true rfl) (fun _ _ _ _ h => h.elim) ?_
    rintro _ _ z9 hz ⟨rfl, rfl, -⟩
    exact v_out o hx (by decide) (by decide) ⟨⟨0, (by simp [sp_doubt, hL] : (sp_doubt σ b q a).2 = th σ 1), rfl⟩, rfl⟩
  | true =>
    obtain ⟨i, hi, rfl⟩ := isB_t hI hB
    have h6 := hI.1
    have h12 := hI.2.1 i
    have ti : tn (nI i) = i := tn_nI (by omega)
    cases hQ : okI q (σ.1 0 i) with
    | false =>
      have hP : isP σ (nI i) q = false := by unfold isP; rw [hB, ti, hQ]; rfl
      have hL : isL σ (nI i) q a = false := by unfold isL; rw [hP]; rfl
      refine Ct.of hl (by decide +kernel) (Nat.le_of_ble_eq_true rfl) ?_
      intro p e s mi args below meth c o hnm hr hx
      have o : Ok p l s mi args meth c g cX5_doubt 5 RX5 := o
      refine v_lv [(0, .ref x), (1, .int (nI i)), (2, .int q), (3, .int a)] rfl ?_
      refine v_aload_n 0 o dX5_doubt_0 rfl rfl ?_
      refine v_iload_n 1 o dX5_doubt_1 rfl rfl ?_
      refine v_callVr (v := .ref (B i)) [.int (nI i)] [] o dX5_doubt_2 cw_X5_79 im_X5_bookAt se_X5_bookAt cf5 hR.h0 (c_bookAt_t hl hR i hi) rfl rfl (by decide) ⟨rfl, rfl⟩ (by decide) (Nat.le_of_ble_eq_true rfl) ?_
      refine v_iload_n 2 o dX5_doubt_5 rfl rfl ?_
      refine v_callS [.ref (B i), .int q] [] o dX5_doubt_6 cw_X5_83 st_X5_pageAt (c_pageAt_f hl hR i q hi hQ) rfl rfl (by decide) (by decide) (Nat.le_of_ble_eq_true rfl) (fun _ _ _ _ h => h.elim) ?_
      rintro _ _ z9 hz ⟨rfl, rfl, -⟩
      exact v_out o hx (by decide) (by decide) ⟨⟨0, (by simp [sp_doubt, hL] : (sp_doubt σ (nI i) q a).2 = th σ 1), rfl⟩, rfl⟩
    | true =>
      obtain ⟨j, hj, rfl⟩ := okI_t hQ (by omega)
      have hP := isP_nI hI hi hj
      have tj : tn (nI j) = j := tn_nI (by omega)
      cases hA : isV a with
      | false =>
        have hO : okI a 4 = false := by rw [← isV_ok]; exact hA
        have hL : isL σ (nI i) (nI j) a = false := by unfold isL; rw [hP, show inR a (nI 0) (nI 3) = false from hA]; rfl
        refine Ct.of hl (by decide +kernel) (Nat.le_of_ble_eq_true rfl) ?_
        intro p e s mi args below meth c o hnm hr hx
        have o : Ok p l s mi args meth c g cX5_doubt 5 RX5 := o
        refine v_lv [(0, .ref x), (1, .int (nI i)), (2, .int (nI j)), (3, .int a)] rfl ?_
        refine v_aload_n 0 o dX5_doubt_0 rfl rfl ?_
        refine v_iload_n 1 o dX5_doubt_1 rfl rfl ?_
        refine v_callVr (v := .ref (B i)) [.int (nI i)] [] o dX5_doubt_2 cw_X5_79 im_X5_bookAt se_X5_bookAt cf5 hR.h0 (c_bookAt_t hl hR i hi) rfl rfl (by decide) ⟨rfl, rfl⟩ (by decide) (Nat.le_of_ble_eq_true rfl) ?_
        refine v_iload_n 2 o dX5_doubt_5 rfl rfl ?_
        refine v_callSr (v := .ref (pA B i j)) [.ref (B i), .int (nI j)] [] o dX5_doubt_6 cw_X5_83 st_X5_pageAt (c_pageAt_t hl hR i j hi hj) rfl rfl (by decide) ⟨rfl, rfl⟩ (by decide) (Nat.le_of_ble_eq_true rfl) ?_
        refine v_astore [(4, .ref (pA B i j)), (0, .ref x), (1, .int (nI i)), (2, .int (nI j)), (3, .int a)] o dX5_doubt_9 (by decide) rfl ?_
        refine v_iload_n 4 o dX5_doubt_11 rfl rfl ?_
        refine v_callS [.int a] [] o dX5_doubt_12 cw_X5_197 st_X5_needPlace (c_needPlace_f hl a hO) rfl rfl (by decide) (by decide) (Nat.le_of_ble_eq_true rfl) (fun _ _ _ _ h => h.elim) ?_
        rintro _ _ z9 hz ⟨rfl, rfl, -⟩
        exact v_out o hx (by decide) (by decide) ⟨⟨0, (by simp [sp_doubt, hL] : (sp_doubt σ (nI i) (nI j) a).2 = th σ 1), rfl⟩, rfl⟩
      | true =>
        obtain ⟨an, hv, rfl⟩ := isV_t hA
        have tv : tn (nI an) = an := tn_nI (by omega)
        have hL : isL σ (nI i) (nI j) (nI an) = true := by unfold isL; rw [hP, show inR (nI an) (nI 0) (nI 3) = true from hA]; rfl
        have hg := hI.2.2.1 (4 * (12 * i + j) + an)
        have e1 : mI (σ.1 1 (4 * (12 * i + j) + an)) = -1 ↔ σ.1 1 (4 * (12 * i + j) + an) = 0 := mI_ne (by omega)
        refine Ct.of hl (by decide +kernel) (Nat.le_of_ble_eq_true rfl) ?_
        intro p e s mi args below meth c o hnm hr hx
        have o : Ok p l s mi args meth c g cX5_doubt 5 RX5 := o
        refine v_lv [(0, .ref x), (1, .int (nI i)), (2, .int (nI j)), (3, .int (nI an))] rfl ?_
        refine v_aload_n 0 o dX5_doubt_0 rfl rfl ?_
        refine v_iload_n 1 o dX5_doubt_1 rfl rfl ?_
        refine v_callVr (v := .ref (B i)) [.int (nI i)] [] o dX5_doubt_2 cw_X5_79 im_X5_bookAt se_X5_bookAt cf5 hR.h0 (c_bookAt_t hl hR i hi) rfl rfl (by decide) ⟨rfl, rfl⟩ (by decide) (Nat.le_of_ble_eq_true rfl) ?_
        refine v_iload_n 2 o dX5_doubt_5 rfl rfl ?_
        refine v_callSr (v := .ref (pA B i j)) [.ref (B i), .int (nI j)] [] o dX5_doubt_6 cw_X5_83 st_X5_pageAt (c_pageAt_t hl hR i j hi hj) rfl rfl (by decide) ⟨rfl, rfl⟩ (by decide) (Nat.le_of_ble_eq_true rfl) ?_
        refine v_astore [(4, .ref (pA B i j)), (0, .ref x), (1, .int (nI i)), (2, .int (nI j)), (3, .int (nI an))] o dX5_doubt_9 (by decide) rfl ?_
        refine v_iload_n 4 o dX5_doubt_11 rfl rfl ?_
        refine v_callS [.int (nI an)] [] o dX5_doubt_12 cw_X5_197 st_X5_needPlace (c_needPlace_t hl an (by omega)) rfl rfl (by decide) (by decide) (Nat.le_of_ble_eq_true rfl) ?_ (fun _ _ _ _ h => h.elim)
        rintro _ _ _ _ ⟨rfl, rfl, hz9⟩
        subst hz9
        refine v_st [] rfl ?_
        refine v_aload 0 o dX5_doubt_15 rfl ?_
        refine v_get (v := .ref (pA B i j + 3)) o dX5_doubt_17 cf2 8 (by decide) fl_X5_200 (hR.p0 hi hj) rfl ?_
        refine v_iload_n 4 o dX5_doubt_20 rfl rfl ?_
        refine v_iald (mI (σ.1 1 (4 * (12 * i + j) + an))) o dX5_doubt_21 (by omega) (by decide) (hR.p3 hi hj) ((rs_lt (by omega)).trans rfl) ?_
        refine v_iconst_i (-1) o dX5_doubt_22 (by decide) ?_
        refine v_icmp_eq 28 o dX5_doubt_23 (by decide) (fun c23 => ?_) (fun c23 => ?_)
        · refine v_aload_n 1 o dX5_doubt_28 rfl rfl ?_
          refine v_aload 0 o dX5_doubt_29 rfl ?_
          refine v_iload_n 4 o dX5_doubt_31 rfl rfl ?_
          refine v_callV [.ref (pA B i j), .int (nI an)] [] o dX5_doubt_32 cw_X5_216 im_X5_weighLetters se_X5_weighLetters cf5 hR.h0 (c_weigh hl hR hI i j hi hj an (by omega)) rfl rfl (by decide) (by decide) (Nat.le_of_ble_eq_true rfl) ?_ (fun _ _ _ _ h => h.elim)
          rintro _ μ1 _ _ ⟨rfl, ⟨τ1, hR1, hW1⟩, rfl⟩
          refine v_st [] rfl ?_
          refine v_aload_n 1 o dX5_doubt_35 rfl rfl ?_
          refine v_get (v := .ref (x + 9)) o dX5_doubt_36 cf5 6 (by decide) fl_X5_36 hR1.h0 rfl ?_
          refine v_callVr (v := .int (nI (if sumW σ (4 * (12 * i + j) + an) 26 = 0 then 100 else 100 - 100 * maxW σ (4 * (12 * i + j) + an) 26 / sumW σ (4 * (12 * i + j) + an) 26))) [] [] o dX5_doubt_39 cw_X5_222 im_X1_doubtInHeaviest se_X1_doubtInHeaviest cf1 hR1.h9 (c_doubtIn hl hR1 hI (4 * (12 * i + j) + an) hW1) rfl rfl (by decide) ⟨rfl, rfl⟩ (by decide) (Nat.le_of_ble_eq_true rfl) ?_
          have e9 : sp_doubt σ (nI i) (nI j) (nI an) = (nI (if sumW σ (4 * (12 * i + j) + an) 26 = 0 then 100 else 100 - 100 * maxW σ (4 * (12 * i + j) + an) 26 / sumW σ (4 * (12 * i + j) + an) 26), th σ 0) := by simp [sp_doubt, th, hL, ti, tj, tv, spot, e1.mp c23]
          exact v_iret o dX5_doubt_42 hr (Nat.le_of_ble_eq_true rfl) (Nat.le_of_ble_eq_true rfl) (by rw [e9]; exact ⟨rfl, rfl, _, _, hR1.thk 0⟩)
        · refine v_iconst 0 o dX5_doubt_26 rfl ?_
          have e9 : sp_doubt σ (nI i) (nI j) (nI an) = (nI 0, th σ 0) := by simp [sp_doubt, th, hL, ti, tj, tv, spot, Nat.pos_of_ne_zero (fun q => c23 (e1.mpr q))]
          exact v_iret o dX5_doubt_27 hr (Nat.le_of_ble_eq_true rfl) (Nat.le_of_ble_eq_true rfl) (by rw [e9]; exact ⟨rfl, rfl, _, _, hR.thk 0⟩)

set_option maxRecDepth 100000 in
set_option maxHeartbeats 4000000 in
theorem k_whyNot {l : Launch} (hl : l.stackTraces = false) {g : mG} {x z z0 : Nat} {B : Nat → Nat} {μ0 μ : mM} {σ τ : Sg} (hR : RC g x B z0 μ0 σ τ μ) (hI : Inv σ) (b q l9 : Int32) : Ct l g yX5_whyNot [Cond.code yX5_whyNot cX5_whyNot 6 (some .int)] { frames := 7, cells := 1, slots := 6, locals := 104 } [.ref x, .int b, .int q, .int l9] μ z (clP g x z0 μ0 (some (.int (sp_whyNot σ b q l9).1)) (sp_whyNot σ b q l9).2) (clX ["java/lang/IndexOutOfBoundsException"] σ (sp_whyNot σ b q l9).2 μ) := by
  cases hB : isB σ b with
  | false =>
    have hP : isP σ b q = false := isP_f hB
    refine Ct.of hl (by decide +kernel) (Nat.le_of_ble_eq_true rfl) ?_
    intro p e s mi args below meth c o hnm hr hx
    have o : Ok p l s mi args meth c g cX5_whyNot 6 RX5 := o
    refine v_lv [(0, .ref x), (1, .int b), (2, .int q), (3, .int l9)] rfl ?_
    refine v_aload_n 0 o dX5_whyNot_0 rfl rfl ?_
    refine v_iload_n 1 o dX5_whyNot_1 rfl rfl ?_
    refine v_callV [.int b] [] o dX5_whyNot_2 cw_X5_79 im_X5_bookAt se_X5_bookAt cf5 hR.h0 (c_bookAt_f hl hR b hB) rfl rfl (by decide) (by decide) (Nat.le_of_ble_eq_true rfl) (fun _ _ _ _ h => h.elim) ?_
    rintro _ _ z9 hz ⟨rfl, rfl, -⟩
    exact v_out o hx (by decide) (by decide) ⟨⟨0, (by simp [sp_whyNot, hP] : (sp_whyNot σ b q l9).2 = th σ 1), rfl⟩, rfl⟩
  | true =>
    obtain ⟨i, hi, rfl⟩ := isB_t hI hB
    have h6 := hI.1
    have h12 := hI.2.1 i
    have ti : tn (nI i) = i := tn_nI (by omega)
    cases hQ : okI q (σ.1 0 i) with
    | false =>
      have hP : isP σ (nI i) q = false := by unfold isP; rw [hB, ti, hQ]; rfl
      refine Ct.of hl (by decide +kernel) (Nat.le_of_ble_eq_true rfl) ?_
      intro p e s mi args below meth c o hnm hr hx
      have o : Ok p l s mi args meth c g cX5_whyNot 6 RX5 := o
      refine v_lv [(0, .ref x), (1, .int (nI i)), (2, .int q), (3, .int l9)] rfl ?_
      refine v_aload_n 0 o dX5_whyNot_0 rfl rfl ?_
      refine v_iload_n 1 o dX5_whyNot_1 rfl rfl ?_
      refine v_callVr (v := .ref (B i)) [.int (nI i)] [] o dX5_whyNot_2 cw_X5_79 im_X5_bookAt se_X5_bookAt cf5 hR.h0 (c_bookAt_t hl hR i hi) rfl rfl (by decide) ⟨rfl, rfl⟩ (by decide) (Nat.le_of_ble_eq_true rfl) ?_
      refine v_astore [(4, .ref (B i)), (0, .ref x), (1, .int (nI i)), (2, .int q), (3, .int l9)] o dX5_whyNot_5 (by decide) rfl ?_
      refine v_aload 0 o dX5_whyNot_7 rfl ?_
      refine v_iload_n 3 o dX5_whyNot_9 rfl rfl ?_
      refine v_callS [.ref (B i), .int q] [] o dX5_whyNot_10 cw_X5_83 st_X5_pageAt (c_pageAt_f hl hR i q hi hQ) rfl rfl (by decide) (by decide) (Nat.le_of_ble_eq_true rfl) (fun _ _ _ _ h => h.elim) ?_
      rintro _ _ z9 hz ⟨rfl, rfl, -⟩
      exact v_out o hx (by decide) (by decide) ⟨⟨0, (by simp [sp_whyNot, hP] : (sp_whyNot σ (nI i) q l9).2 = th σ 1), rfl⟩, rfl⟩
    | true =>
      obtain ⟨j, hj, rfl⟩ := okI_t hQ (by omega)
      have hP := isP_nI hI hi hj
      have tj : tn (nI j) = j := tn_nI (by omega)
      cases hV : isV l9 with
      | false =>
        have hO : okI l9 4 = false := by rw [← isV_ok]; exact hV
        have hVr : inR l9 (nI 0) (nI 3) = false := hV
        refine Ct.of hl (by decide +kernel) (Nat.le_of_ble_eq_true rfl) ?_
        intro p e s mi args below meth c o hnm hr hx
        have o : Ok p l s mi args meth c g cX5_whyNot 6 RX5 := o
        refine v_lv [(0, .ref x), (1, .int (nI i)), (2, .int (nI j)), (3, .int l9)] rfl ?_
        refine v_aload_n 0 o dX5_whyNot_0 rfl rfl ?_
        refine v_iload_n 1 o dX5_whyNot_1 rfl rfl ?_
        refine v_callVr (v := .ref (B i)) [.int (nI i)] [] o dX5_whyNot_2 cw_X5_79 im_X5_bookAt se_X5_bookAt cf5 hR.h0 (c_bookAt_t hl hR i hi) rfl rfl (by decide) ⟨rfl, rfl⟩ (by decide) (Nat.le_of_ble_eq_true rfl) ?_
        refine v_astore [(4, .ref (B i)), (0, .ref x), (1, .int (nI i)), (2, .int (nI j)), (3, .int l9)] o dX5_whyNot_5 (by decide) rfl ?_
        refine v_aload 0 o dX5_whyNot_7 rfl ?_
        refine v_iload_n 3 o dX5_whyNot_9 rfl rfl ?_
        refine v_callSr (v := .ref (pA B i j)) [.ref (B i), .int (nI j)] [] o dX5_whyNot_10 cw_X5_83 st_X5_pageAt (c_pageAt_t hl hR i j hi hj) rfl rfl (by decide) ⟨rfl, rfl⟩ (by decide) (Nat.le_of_ble_eq_true rfl) ?_
        refine v_astore [(5, .ref (pA B i j)), (4, .ref (B i)), (0, .ref x), (1, .int (nI i)), (2, .int (nI j)), (3, .int l9)] o dX5_whyNot_13 (by decide) rfl ?_
        refine v_iload_n 5 o dX5_whyNot_15 rfl rfl ?_
        refine v_callS [.int l9] [] o dX5_whyNot_16 cw_X5_227 st_X5_needLand (c_needLand_f hl l9 hO) rfl rfl (by decide) (by decide) (Nat.le_of_ble_eq_true rfl) (fun _ _ _ _ h => h.elim) ?_
        rintro _ _ z9 hz ⟨rfl, rfl, -⟩
        exact v_out o hx (by decide) (by decide) ⟨⟨0, (by simp [sp_whyNot, hP, hVr] : (sp_whyNot σ (nI i) (nI j) l9).2 = th σ 1), rfl⟩, rfl⟩
      | true =>
        obtain ⟨ln, hv, rfl⟩ := isV_t hV
        have tv : tn (nI ln) = ln := tn_nI (by omega)
        have hVr : inR (nI ln) (nI 0) (nI 3) = true := hV
        refine Ct.of hl (by decide +kernel) (Nat.le_of_ble_eq_true rfl) ?_
        intro p e s mi args below meth c o hnm hr hx
        have o : Ok p l s mi args meth c g cX5_whyNot 6 RX5 := o
        refine v_lv [(0, .ref x), (1, .int (nI i)), (2, .int (nI j)), (3, .int (nI ln))] rfl ?_
        refine v_aload_n 0 o dX5_whyNot_0 rfl rfl ?_
        refine v_iload_n 1 o dX5_whyNot_1 rfl rfl ?_
        refine v_callVr (v := .ref (B i)) [.int (nI i)] [] o dX5_whyNot_2 cw_X5_79 im_X5_bookAt se_X5_bookAt cf5 hR.h0 (c_bookAt_t hl hR i hi) rfl rfl (by decide) ⟨rfl, rfl⟩ (by decide) (Nat.le_of_ble_eq_true rfl) ?_
        refine v_astore [(4, .ref (B i)), (0, .ref x), (1, .int (nI i)), (2, .int (nI j)), (3, .int (nI ln))] o dX5_whyNot_5 (by decide) rfl ?_
        refine v_aload 0 o dX5_whyNot_7 rfl ?_
        refine v_iload_n 3 o dX5_whyNot_9 rfl rfl ?_
        refine v_callSr (v := .ref (pA B i j)) [.ref (B i), .int (nI j)] [] o dX5_whyNot_10 cw_X5_83 st_X5_pageAt (c_pageAt_t hl hR i j hi hj) rfl rfl (by decide) ⟨rfl, rfl⟩ (by decide) (Nat.le_of_ble_eq_true rfl) ?_
        refine v_astore [(5, .ref (pA B i j)), (4, .ref (B i)), (0, .ref x), (1, .int (nI i)), (2, .int (nI j)), (3, .int (nI ln))] o dX5_whyNot_13 (by decide) rfl ?_
        refine v_iload_n 5 o dX5_whyNot_15 rfl rfl ?_
        refine v_callS [.int (nI ln)] [] o dX5_whyNot_16 cw_X5_227 st_X5_needLand (c_needLand_t hl ln (by omega)) rfl rfl (by decide) (by decide) (Nat.le_of_ble_eq_true rfl) ?_ (fun _ _ _ _ h => h.elim)
        rintro _ _ _ _ ⟨rfl, rfl, hz9⟩
        subst hz9
        refine v_st [] rfl ?_
        refine v_aload 0 o dX5_whyNot_19 rfl ?_
        refine v_get (v := .int (bI (σ.2.1 2 (12 * i + j)))) o dX5_whyNot_21 cf2 0 (by decide) fl_X5_97 (hR.p0 hi hj) rfl ?_
        refine v_if_ne_b 29 o dX5_whyNot_24 (by decide) (fun c24 => ?_) (fun c24 => ?_)
        · refine v_aload 1 o dX5_whyNot_29 rfl ?_
          refine v_get (v := .int (bI (σ.2.1 1 i))) o dX5_whyNot_31 cf0 7 (by decide) fl_X5_238 (hR.bk hi) rfl ?_
          refine v_if_eq_b 39 o dX5_whyNot_34 (by decide) (fun c34 => ?_) (fun c34 => ?_)
          · refine v_aload 1 o dX5_whyNot_39 rfl ?_
            refine v_get (v := .int (σ.2.2.1 3 i)) o dX5_whyNot_41 cf0 4 (by decide) fl_X5_230 (hR.bk hi) rfl ?_
            refine v_iconst_i (-1) o dX5_whyNot_44 (by decide) ?_
            refine v_icmp_ne 58 o dX5_whyNot_45 (by decide) (fun c45 => ?_) (fun c45 => ?_)
            · refine v_aload 1 o dX5_whyNot_58 rfl ?_
              refine v_get (v := .int (σ.2.2.1 3 i)) o dX5_whyNot_60 cf0 4 (by decide) fl_X5_230 (hR.bk hi) rfl ?_
              refine v_iconst_i (-1) o dX5_whyNot_63 (by decide) ?_
              refine v_icmp_eq 88 o dX5_whyNot_64 (by decide) (fun c64 => absurd c64 c45) (fun c64 => ?_)
              refine v_aload_n 2 o dX5_whyNot_67 rfl rfl ?_
              refine v_get (v := .int (σ.2.2.1 8 1)) o dX5_whyNot_68 cf5 7 (by decide) fl_X5_40 hR.h0 rfl ?_
              refine v_aload 1 o dX5_whyNot_71 rfl ?_
              refine v_get (v := .int (σ.2.2.1 3 i)) o dX5_whyNot_73 cf0 4 (by decide) fl_X5_230 (hR.bk hi) rfl ?_
              refine v_aload_n 2 o dX5_whyNot_76 rfl rfl ?_
              refine v_get (v := .ref (x + 11)) o dX5_whyNot_77 cf5 8 (by decide) fl_X5_44 hR.h0 rfl ?_
              refine v_iload_n 5 o dX5_whyNot_80 rfl rfl ?_
              refine v_iald (σ.2.2.1 7 ln) o dX5_whyNot_81 (by omega) (by decide) hR.h11 rfl ?_
              refine v_iadd ((σ.2.2.1 3 i) + (σ.2.2.1 7 ln)) o dX5_whyNot_82 rfl ?_
              refine v_icmp_gt 88 o dX5_whyNot_83 (by decide) (fun c83 => ?_) (fun c83 => ?_)
              · refine v_aload 0 o dX5_whyNot_88 rfl ?_
                refine v_callVr (v := .int (bI (lostB σ (12 * i + j)))) [] [] o dX5_whyNot_90 cw_X5_174 im_X2_hasNoCopyLeft se_X2_hasNoCopyLeft cf2 (hR.p0 hi hj) (c_lost hl hR i j hi hj) rfl rfl (by decide) ⟨rfl, rfl⟩ (by decide) (Nat.le_of_ble_eq_true rfl) ?_
                refine v_if_eq_b 100 o dX5_whyNot_93 (by decide) (fun c93 => ?_) (fun c93 => ?_)
                · refine v_iconst 0 o dX5_whyNot_100 rfl ?_
                  have e9 : sp_whyNot σ (nI i) (nI j) (nI ln) = (nI 0, th σ 0) := by simp [sp_whyNot, th, hP, hVr, ti, tj, tv, whyN, c24, c34, c45, Int32.not_le.mpr c83, c93]
                  exact v_iret o dX5_whyNot_101 hr (Nat.le_of_ble_eq_true rfl) (Nat.le_of_ble_eq_true rfl) (by rw [e9]; exact ⟨rfl, rfl, _, _, hR.thk 0⟩)
                · refine v_iconst 5 o dX5_whyNot_96 rfl ?_
                  refine v_goto 101 o dX5_whyNot_97 (by decide) ?_
                  have e9 : sp_whyNot σ (nI i) (nI j) (nI ln) = (nI 5, th σ 0) := by simp [sp_whyNot, th, hP, hVr, ti, tj, tv, whyN, c24, c34, c45, Int32.not_le.mpr c83, c93]
                  exact v_iret o dX5_whyNot_101 hr (Nat.le_of_ble_eq_true rfl) (Nat.le_of_ble_eq_true rfl) (by rw [e9]; exact ⟨rfl, rfl, _, _, hR.thk 0⟩)
              · refine v_iconst 4 o dX5_whyNot_86 rfl ?_
                have e9 : sp_whyNot σ (nI i) (nI j) (nI ln) = (nI 4, th σ 0) := by simp [sp_whyNot, th, hP, hVr, ti, tj, tv, whyN, c24, c34, c45, Int32.not_lt.mp c83]
                exact v_iret o dX5_whyNot_87 hr (Nat.le_of_ble_eq_true rfl) (Nat.le_of_ble_eq_true rfl) (by rw [e9]; exact ⟨rfl, rfl, _, _, hR.thk 0⟩)
            · refine v_aload 1 o dX5_whyNot_48 rfl ?_
              refine v_get (v := .int (bI (σ.2.1 0 i))) o dX5_whyNot_50 cf0 6 (by decide) fl_X5_235 (hR.bk hi) rfl ?_
              refine v_if_ne_b 58 o dX5_whyNot_53 (by decide) (fun c53 => ?_) (fun c53 => ?_)
              · refine v_aload 1 o dX5_whyNot_58 rfl ?_
                refine v_get (v := .int (σ.2.2.1 3 i)) o dX5_whyNot_60 cf0 4 (by decide) fl_X5_230 (hR.bk hi) rfl ?_
                refine v_iconst_i (-1) o dX5_whyNot_63 (by decide) ?_
                refine v_icmp_eq 88 o dX5_whyNot_64 (by decide) (fun c64 => ?_) (fun c64 => absurd c64 (not_not_intro c45))
                refine v_aload 0 o dX5_whyNot_88 rfl ?_
                refine v_callVr (v := .int (bI (lostB σ (12 * i + j)))) [] [] o dX5_whyNot_90 cw_X5_174 im_X2_hasNoCopyLeft se_X2_hasNoCopyLeft cf2 (hR.p0 hi hj) (c_lost hl hR i j hi hj) rfl rfl (by decide) ⟨rfl, rfl⟩ (by decide) (Nat.le_of_ble_eq_true rfl) ?_
                refine v_if_eq_b 100 o dX5_whyNot_93 (by decide) (fun c93 => ?_) (fun c93 => ?_)
                · refine v_iconst 0 o dX5_whyNot_100 rfl ?_
                  have e9 : sp_whyNot σ (nI i) (nI j) (nI ln) = (nI 0, th σ 0) := by simp [sp_whyNot, th, hP, hVr, ti, tj, tv, whyN, c24, c34, c45, c53, c93]
                  exact v_iret o dX5_whyNot_101 hr (Nat.le_of_ble_eq_true rfl) (Nat.le_of_ble_eq_true rfl) (by rw [e9]; exact ⟨rfl, rfl, _, _, hR.thk 0⟩)
                · refine v_iconst 5 o dX5_whyNot_96 rfl ?_
                  refine v_goto 101 o dX5_whyNot_97 (by decide) ?_
                  have e9 : sp_whyNot σ (nI i) (nI j) (nI ln) = (nI 5, th σ 0) := by simp [sp_whyNot, th, hP, hVr, ti, tj, tv, whyN, c24, c34, c45, c53, c93]
                  exact v_iret o dX5_whyNot_101 hr (Nat.le_of_ble_eq_true rfl) (Nat.le_of_ble_eq_true rfl) (by rw [e9]; exact ⟨rfl, rfl, _, _, hR.thk 0⟩)
              · refine v_iconst 3 o dX5_whyNot_56 rfl ?_
                have e9 : sp_whyNot σ (nI i) (nI j) (nI ln) = (nI 3, th σ 0) := by simp [sp_whyNot, th, hP, hVr, ti, tj, tv, whyN, c24, c34, c45, c53]
                exact v_iret o dX5_whyNot_57 hr (Nat.le_of_ble_eq_true rfl) (Nat.le_of_ble_eq_true rfl) (by rw [e9]; exact ⟨rfl, rfl, _, _, hR.thk 0⟩)
          · refine v_iconst 2 o dX5_whyNot_37 rfl ?_
            have e9 : sp_whyNot σ (nI i) (nI j) (nI ln) = (nI 2, th σ 0) := by simp [sp_whyNot, th, hP, hVr, ti, tj, tv, whyN, c24, c34]
            exact v_iret o dX5_whyNot_38 hr (Nat.le_of_ble_eq_true rfl) (Nat.le_of_ble_eq_true rfl) (by rw [e9]; exact ⟨rfl, rfl, _, _, hR.thk 0⟩)
        · refine v_iconst 1 o dX5_whyNot_27 rfl ?_
          have e9 : sp_whyNot σ (nI i) (nI j) (nI ln) = (nI 1, th σ 0) := by simp [sp_whyNot, th, hP, hVr, ti, tj, tv, whyN, c24]
          exact v_iret o dX5_whyNot_28 hr (Nat.le_of_ble_eq_true rfl) (Nat.le_of_ble_eq_true rfl) (by rw [e9]; exact ⟨rfl, rfl, _, _, hR.thk 0⟩)

set_option maxRecDepth 100000 in
set_option maxHeartbeats 4000000 in
theorem k_about {l : Launch} (hl : l.stackTraces = false) {g : mG} {x z z0 : Nat} {B : Nat → Nat} {μ0 μ : mM} {σ τ : Sg} (hR : RC g x B z0 μ0 σ τ μ) (hI : Inv σ) (b w : Int32) : Ct l g yX5_about [Cond.code yX5_about cX5_about 4 (some .int)] { frames := 7, cells := 1, slots := 6, locals := 129 } [.ref x, .int b, .int w] μ z (clP g x z0 μ0 (some (.int (sp_about σ b w).1)) (sp_about σ b w).2) (clX ["java/lang/IndexOutOfBoundsException", "java/lang/IllegalArgumentException"] σ (sp_about σ b w).2 μ) := by
  cases hB : isB σ b with
  | false =>
    refine Ct.of hl (by decide +kernel) (Nat.le_of_ble_eq_true rfl) ?_
    intro p e s mi args below meth c o hnm hr hx
    have o : Ok p l s mi args meth c g cX5_about 4 RX5 := o
    refine v_lv [(0, .ref x), (1, .int b), (2, .int w)] rfl ?_
    refine v_aload_n 0 o dX5_about_0 rfl rfl ?_
    refine v_iload_n 1 o dX5_about_1 rfl rfl ?_
    refine v_callV [.int b] [] o dX5_about_2 cw_X5_79 im_X5_bookAt se_X5_bookAt cf5 hR.h0 (c_bookAt_f hl hR b hB) rfl rfl (by decide) (by decide) (Nat.le_of_ble_eq_true rfl) (fun _ _ _ _ h => h.elim) ?_
    rintro _ _ z9 hz ⟨rfl, rfl, -⟩
    exact v_out o hx (by decide) (by decide) ⟨⟨0, (by simp [sp_about, hB] : (sp_about σ b w).2 = th σ 1), rfl⟩, rfl⟩
  | true =>
    obtain ⟨i, hi, rfl⟩ := isB_t hI hB
    have h6 := hI.1
    have h12 := hI.2.1 i
    have ti : tn (nI i) = i := tn_nI (by omega)
    cases hW : inR w (nI 0) (nI 5) with
    | false =>
      refine Ct.of hl (by decide +kernel) (Nat.le_of_ble_eq_true rfl) ?_
      intro p e s mi args below meth c o hnm hr hx
      have o : Ok p l s mi args meth c g cX5_about 4 RX5 := o
      refine v_lv [(0, .ref x), (1, .int (nI i)), (2, .int w)] rfl ?_
      refine v_aload_n 0 o dX5_about_0 rfl rfl ?_
      refine v_iload_n 1 o dX5_about_1 rfl rfl ?_
      refine v_callVr (v := .ref (B i)) [.int (nI i)] [] o dX5_about_2 cw_X5_79 im_X5_bookAt se_X5_bookAt cf5 hR.h0 (c_bookAt_t hl hR i hi) rfl rfl (by decide) ⟨rfl, rfl⟩ (by decide) (Nat.le_of_ble_eq_true rfl) ?_
      refine v_astore_n [(3, .ref (B i)), (0, .ref x), (1, .int (nI i)), (2, .int w)] o dX5_about_5 rfl (by decide) rfl ?_
      refine v_iload_n 3 o dX5_about_6 rfl rfl ?_
      refine v_iconst 0 o dX5_about_7 rfl ?_
      refine v_iconst 5 o dX5_about_8 rfl ?_
      refine v_callS [.int w, .int (nI 0), .int (nI 5)] [] o dX5_about_9 cw_X5_54 st_X5_needArgument (c_needArg_f hl w (nI 0) (nI 5) hW) rfl rfl (by decide) (by decide) (Nat.le_of_ble_eq_true rfl) (fun _ _ _ _ h => h.elim) ?_
      rintro _ _ z9 hz ⟨rfl, rfl, -⟩
      exact v_out o hx (by decide) (by decide) ⟨⟨1, (by simp [sp_about, hB, ti, hW] : (sp_about σ (nI i) w).2 = th σ 2), rfl⟩, rfl⟩
    | true =>
      obtain ⟨k, -, hk, rfl⟩ := inR_nat hW (by decide) (by decide)
      rcases (show k = 0 ∨ k = 1 ∨ k = 2 ∨ k = 3 ∨ k = 4 ∨ k = 5 by omega) with rfl | rfl | rfl | rfl | rfl | rfl
      · refine Ct.of hl (by decide +kernel) (Nat.le_of_ble_eq_true rfl) ?_
        intro p e s mi args below meth c o hnm hr hx
        have o : Ok p l s mi args meth c g cX5_about 4 RX5 := o
        refine v_lv [(0, .ref x), (1, .int (nI i)), (2, .int (nI 0))] rfl ?_
        refine v_aload_n 0 o dX5_about_0 rfl rfl ?_
        refine v_iload_n 1 o dX5_about_1 rfl rfl ?_
        refine v_callVr (v := .ref (B i)) [.int (nI i)] [] o dX5_about_2 cw_X5_79 im_X5_bookAt se_X5_bookAt cf5 hR.h0 (c_bookAt_t hl hR i hi) rfl rfl (by decide) ⟨rfl, rfl⟩ (by decide) (Nat.le_of_ble_eq_true rfl) ?_
        refine v_astore_n [(3, .ref (B i)), (0, .ref x), (1, .int (nI i)), (2, .int (nI 0))] o dX5_about_5 rfl (by decide) rfl ?_
        refine v_iload_n 3 o dX5_about_6 rfl rfl ?_
        refine v_iconst 0 o dX5_about_7 rfl ?_
        refine v_iconst 5 o dX5_about_8 rfl ?_
        refine v_callS [.int (nI 0), .int (nI 0), .int (nI 5)] [] o dX5_about_9 cw_X5_54 st_X5_needArgument (c_needArg_t hl (nI 0) (nI 0) (nI 5) hW) rfl rfl (by decide) (by decide) (Nat.le_of_ble_eq_true rfl) ?_ (fun _ _ _ _ h => h.elim)
        rintro _ _ _ _ ⟨rfl, rfl, hz9⟩
        subst hz9
        refine v_st [] rfl ?_
        refine v_iload_n 3 o dX5_about_12 rfl rfl ?_
        refine v_tabOut 73 o dX5_about_13 (by decide) (by decide) ?_
        refine v_aload_n 0 o dX5_about_73 rfl rfl ?_
        refine v_get (v := .int (σ.2.2.1 1 i)) o dX5_about_74 cf0 3 (by decide) fl_X5_92 (hR.bk hi) rfl ?_
        have e9 : sp_about σ (nI i) (nI 0) = (σ.2.2.1 1 i, th σ 0) := by simp [sp_about, th, hB, ti, hW, abt_0]
        exact v_iret o dX5_about_77 hr (Nat.le_of_ble_eq_true rfl) (Nat.le_of_ble_eq_true rfl) (by rw [e9]; exact ⟨rfl, rfl, _, _, hR.thk 0⟩)
      · refine Ct.of hl (by decide +kernel) (Nat.le_of_ble_eq_true rfl) ?_
        intro p e s mi args below meth c o hnm hr hx
        have o : Ok p l s mi args meth c g cX5_about 4 RX5 := o
        refine v_lv [(0, .ref x), (1, .int (nI i)), (2, .int (nI 1))] rfl ?_
        refine v_aload_n 0 o dX5_about_0 rfl rfl ?_
        refine v_iload_n 1 o dX5_about_1 rfl rfl ?_
        refine v_callVr (v := .ref (B i)) [.int (nI i)] [] o dX5_about_2 cw_X5_79 im_X5_bookAt se_X5_bookAt cf5 hR.h0 (c_bookAt_t hl hR i hi) rfl rfl (by decide) ⟨rfl, rfl⟩ (by decide) (Nat.le_of_ble_eq_true rfl) ?_
        refine v_astore_n [(3, .ref (B i)), (0, .ref x), (1, .int (nI i)), (2, .int (nI 1))] o dX5_about_5 rfl (by decide) rfl ?_
        refine v_iload_n 3 o dX5_about_6 rfl rfl ?_
        refine v_iconst 0 o dX5_about_7 rfl ?_
        refine v_iconst 5 o dX5_about_8 rfl ?_
        refine v_callS [.int (nI 1), .int (nI 0), .int (nI 5)] [] o dX5_about_9 cw_X5_54 st_X5_needArgument (c_needArg_t hl (nI 1) (nI 0) (nI 5) hW) rfl rfl (by decide) (by decide) (Nat.le_of_ble_eq_true rfl) ?_ (fun _ _ _ _ h => h.elim)
        rintro _ _ _ _ ⟨rfl, rfl, hz9⟩
        subst hz9
        refine v_st [] rfl ?_
        refine v_iload_n 3 o dX5_about_12 rfl rfl ?_
        refine v_tabIn 48 o dX5_about_13 (by decide) (by decide) rfl (by decide) ?_
        refine v_aload_n 0 o dX5_about_48 rfl rfl ?_
        refine v_callVr (v := .int (nI (cnt (fun q => σ.2.1 2 (12 * i + q)) (σ.1 0 i)))) [] [] o dX5_about_49 cw_X5_241 im_X0_countShotPages se_X0_countShotPages cf0 (hR.bk hi) (c_shotPages hl hR i hi) rfl rfl (by decide) ⟨rfl, rfl⟩ (by decide) (Nat.le_of_ble_eq_true rfl) ?_
        have e9 : sp_about σ (nI i) (nI 1) = (nI (cnt (fun q => σ.2.1 2 (12 * i + q)) (σ.1 0 i)), th σ 0) := by simp [sp_about, th, hB, ti, hW, abt_1]
        exact v_iret o dX5_about_52 hr (Nat.le_of_ble_eq_true rfl) (Nat.le_of_ble_eq_true rfl) (by rw [e9]; exact ⟨rfl, rfl, _, _, hR.thk 0⟩)
      · refine Ct.of hl (by decide +kernel) (Nat.le_of_ble_eq_true rfl) ?_
        intro p e s mi args below meth c o hnm hr hx
        have o : Ok p l s mi args meth c g cX5_about 4 RX5 := o
        refine v_lv [(0, .ref x), (1, .int (nI i)), (2, .int (nI 2))] rfl ?_
        refine v_aload_n 0 o dX5_about_0 rfl rfl ?_
        refine v_iload_n 1 o dX5_about_1 rfl rfl ?_
        refine v_callVr (v := .ref (B i)) [.int (nI i)] [] o dX5_about_2 cw_X5_79 im_X5_bookAt se_X5_bookAt cf5 hR.h0 (c_bookAt_t hl hR i hi) rfl rfl (by decide) ⟨rfl, rfl⟩ (by decide) (Nat.le_of_ble_eq_true rfl) ?_
        refine v_astore_n [(3, .ref (B i)), (0, .ref x), (1, .int (nI i)), (2, .int (nI 2))] o dX5_about_5 rfl (by decide) rfl ?_
        refine v_iload_n 3 o dX5_about_6 rfl rfl ?_
        refine v_iconst 0 o dX5_about_7 rfl ?_
        refine v_iconst 5 o dX5_about_8 rfl ?_
        refine v_callS [.int (nI 2), .int (nI 0), .int (nI 5)] [] o dX5_about_9 cw_X5_54 st_X5_needArgument (c_needArg_t hl (nI 2) (nI 0) (nI 5) hW) rfl rfl (by decide) (by decide) (Nat.le_of_ble_eq_true rfl) ?_ (fun _ _ _ _ h => h.elim)
        rintro _ _ _ _ ⟨rfl, rfl, hz9⟩
        subst hz9
        refine v_st [] rfl ?_
        refine v_iload_n 3 o dX5_about_12 rfl rfl ?_
        refine v_tabIn 53 o dX5_about_13 (by decide) (by decide) rfl (by decide) ?_
        refine v_aload_n 0 o dX5_about_53 rfl rfl ?_
        refine v_callVr (v := .int (nI (cnt (fun q => σ.2.1 4 (12 * i + q)) (σ.1 0 i)))) [] [] o dX5_about_54 cw_X5_244 im_X0_countFaultyShots se_X0_countFaultyShots cf0 (hR.bk hi) (c_faultyShots hl hR i hi) rfl rfl (by decide) ⟨rfl, rfl⟩ (by decide) (Nat.le_of_ble_eq_true rfl) ?_
        have e9 : sp_about σ (nI i) (nI 2) = (nI (cnt (fun q => σ.2.1 4 (12 * i + q)) (σ.1 0 i)), th σ 0) := by simp [sp_about, th, hB, ti, hW, abt_2]
        exact v_iret o dX5_about_57 hr (Nat.le_of_ble_eq_true rfl) (Nat.le_of_ble_eq_true rfl) (by rw [e9]; exact ⟨rfl, rfl, _, _, hR.thk 0⟩)
      · refine Ct.of hl (by decide +kernel) (Nat.le_of_ble_eq_true rfl) ?_
        intro p e s mi args below meth c o hnm hr hx
        have o : Ok p l s mi args meth c g cX5_about 4 RX5 := o
        refine v_lv [(0, .ref x), (1, .int (nI i)), (2, .int (nI 3))] rfl ?_
        refine v_aload_n 0 o dX5_about_0 rfl rfl ?_
        refine v_iload_n 1 o dX5_about_1 rfl rfl ?_
        refine v_callVr (v := .ref (B i)) [.int (nI i)] [] o dX5_about_2 cw_X5_79 im_X5_bookAt se_X5_bookAt cf5 hR.h0 (c_bookAt_t hl hR i hi) rfl rfl (by decide) ⟨rfl, rfl⟩ (by decide) (Nat.le_of_ble_eq_true rfl) ?_
        refine v_astore_n [(3, .ref (B i)), (0, .ref x), (1, .int (nI i)), (2, .int (nI 3))] o dX5_about_5 rfl (by decide) rfl ?_
        refine v_iload_n 3 o dX5_about_6 rfl rfl ?_
        refine v_iconst 0 o dX5_about_7 rfl ?_
        refine v_iconst 5 o dX5_about_8 rfl ?_
        refine v_callS [.int (nI 3), .int (nI 0), .int (nI 5)] [] o dX5_about_9 cw_X5_54 st_X5_needArgument (c_needArg_t hl (nI 3) (nI 0) (nI 5) hW) rfl rfl (by decide) (by decide) (Nat.le_of_ble_eq_true rfl) ?_ (fun _ _ _ _ h => h.elim)
        rintro _ _ _ _ ⟨rfl, rfl, hz9⟩
        subst hz9
        refine v_st [] rfl ?_
        refine v_iload_n 3 o dX5_about_12 rfl rfl ?_
        refine v_tabIn 58 o dX5_about_13 (by decide) (by decide) rfl (by decide) ?_
        refine v_aload_n 0 o dX5_about_58 rfl rfl ?_
        refine v_callVr (v := .int (nI (cnt (fun q => lostB σ (12 * i + q)) (σ.1 0 i)))) [] [] o dX5_about_59 cw_X5_247 im_X0_countLostPages se_X0_countLostPages cf0 (hR.bk hi) (c_lostPages hl hR i hi) rfl rfl (by decide) ⟨rfl, rfl⟩ (by decide) (Nat.le_of_ble_eq_true rfl) ?_
        have e9 : sp_about σ (nI i) (nI 3) = (nI (cnt (fun q => lostB σ (12 * i + q)) (σ.1 0 i)), th σ 0) := by simp [sp_about, th, hB, ti, hW, abt_3]
        exact v_iret o dX5_about_62 hr (Nat.le_of_ble_eq_true rfl) (Nat.le_of_ble_eq_true rfl) (by rw [e9]; exact ⟨rfl, rfl, _, _, hR.thk 0⟩)
      · refine Ct.of hl (by decide +kernel) (Nat.le_of_ble_eq_true rfl) ?_
        intro p e s mi args below meth c o hnm hr hx
        have o : Ok p l s mi args meth c g cX5_about 4 RX5 := o
        refine v_lv [(0, .ref x), (1, .int (nI i)), (2, .int (nI 4))] rfl ?_
        refine v_aload_n 0 o dX5_about_0 rfl rfl ?_
        refine v_iload_n 1 o dX5_about_1 rfl rfl ?_
        refine v_callVr (v := .ref (B i)) [.int (nI i)] [] o dX5_about_2 cw_X5_79 im_X5_bookAt se_X5_bookAt cf5 hR.h0 (c_bookAt_t hl hR i hi) rfl rfl (by decide) ⟨rfl, rfl⟩ (by decide) (Nat.le_of_ble_eq_true rfl) ?_
        refine v_astore_n [(3, .ref (B i)), (0, .ref x), (1, .int (nI i)), (2, .int (nI 4))] o dX5_about_5 rfl (by decide) rfl ?_
        refine v_iload_n 3 o dX5_about_6 rfl rfl ?_
        refine v_iconst 0 o dX5_about_7 rfl ?_
        refine v_iconst 5 o dX5_about_8 rfl ?_
        refine v_callS [.int (nI 4), .int (nI 0), .int (nI 5)] [] o dX5_about_9 cw_X5_54 st_X5_needArgument (c_needArg_t hl (nI 4) (nI 0) (nI 5) hW) rfl rfl (by decide) (by decide) (Nat.le_of_ble_eq_true rfl) ?_ (fun _ _ _ _ h => h.elim)
        rintro _ _ _ _ ⟨rfl, rfl, hz9⟩
        subst hz9
        refine v_st [] rfl ?_
        refine v_iload_n 3 o dX5_about_12 rfl rfl ?_
        refine v_tabIn 63 o dX5_about_13 (by decide) (by decide) rfl (by decide) ?_
        refine v_aload_n 0 o dX5_about_63 rfl rfl ?_
        refine v_get (v := .int (σ.2.2.1 3 i)) o dX5_about_64 cf0 4 (by decide) fl_X5_230 (hR.bk hi) rfl ?_
        have e9 : sp_about σ (nI i) (nI 4) = (σ.2.2.1 3 i, th σ 0) := by simp [sp_about, th, hB, ti, hW, abt_4]
        exact v_iret o dX5_about_67 hr (Nat.le_of_ble_eq_true rfl) (Nat.le_of_ble_eq_true rfl) (by rw [e9]; exact ⟨rfl, rfl, _, _, hR.thk 0⟩)
      · refine Ct.of hl (by decide +kernel) (Nat.le_of_ble_eq_true rfl) ?_
        intro p e s mi args below meth c o hnm hr hx
        have o : Ok p l s mi args meth c g cX5_about 4 RX5 := o
        refine v_lv [(0, .ref x), (1, .int (nI i)), (2, .int (nI 5))] rfl ?_
        refine v_aload_n 0 o dX5_about_0 rfl rfl ?_
        refine v_iload_n 1 o dX5_about_1 rfl rfl ?_
        refine v_callVr (v := .ref (B i)) [.int (nI i)] [] o dX5_about_2 cw_X5_79 im_X5_bookAt se_X5_bookAt cf5 hR.h0 (c_bookAt_t hl hR i hi) rfl rfl (by decide) ⟨rfl, rfl⟩ (by decide) (Nat.le_of_ble_eq_true rfl) ?_
        refine v_astore_n [(3, .ref (B i)), (0, .ref x), (1, .int (nI i)), (2, .int (nI 5))] o dX5_about_5 rfl (by decide) rfl ?_
        refine v_iload_n 3 o dX5_about_6 rfl rfl ?_
        refine v_iconst 0 o dX5_about_7 rfl ?_
        refine v_iconst 5 o dX5_about_8 rfl ?_
        refine v_callS [.int (nI 5), .int (nI 0), .int (nI 5)] [] o dX5_about_9 cw_X5_54 st_X5_needArgument (c_needArg_t hl (nI 5) (nI 0) (nI 5) hW) rfl rfl (by decide) (by decide) (Nat.le_of_ble_eq_true rfl) ?_ (fun _ _ _ _ h => h.elim)
        rintro _ _ _ _ ⟨rfl, rfl, hz9⟩
        subst hz9
        refine v_st [] rfl ?_
        refine v_iload_n 3 o dX5_about_12 rfl rfl ?_
        refine v_tabIn 68 o dX5_about_13 (by decide) (by decide) rfl (by decide) ?_
        refine v_aload_n 0 o dX5_about_68 rfl rfl ?_
        refine v_get (v := .int (σ.2.2.1 4 i)) o dX5_about_69 cf0 5 (by decide) fl_X5_108 (hR.bk hi) rfl ?_
        have e9 : sp_about σ (nI i) (nI 5) = (σ.2.2.1 4 i, th σ 0) := by simp [sp_about, th, hB, ti, hW, abt_5]
        exact v_iret o dX5_about_72 hr (Nat.le_of_ble_eq_true rfl) (Nat.le_of_ble_eq_true rfl) (by rw [e9]; exact ⟨rfl, rfl, _, _, hR.thk 0⟩)

