theorem isP_x {σ : Sg} {i : Nat} {x : Int32} (hI : Inv σ) (hi : i < σ.1 3 0) : isP σ (nI i) x = inR x (nI 0) (mI (σ.1 0 i)) := by
  unfold isP
  have h6 := hI.1
  rw [isB_nI hI hi, tn_nI (by omega)]
  rfl
theorem ordN_some {σ : Sg} {i : Nat} {L : List Nat} (h : ordL σ i = some L) (j : Nat) : ordN σ i j = rowAt L j + 1 := by
  unfold ordN
  rw [h]
theorem ordN_none {σ : Sg} {i : Nat} (h : ordL σ i = none) (j : Nat) : ordN σ i j = 0 := by
  unfold ordN
  rw [h]
theorem ordL_len {σ : Sg} {i : Nat} {L : List Nat} (h : ordL σ i = some L) : L.length = σ.1 0 i := by
  have := dfs_len _ _ _ h
  rw [this]
  exact Nat.zero_add _
set_option maxRecDepth 100000 in
set_option maxHeartbeats 4000000 in
theorem m_orderOf {l : Launch} (hl : l.stackTraces = false) {g : mG} {m z : Nat} {μ0 μ : mM} {σ : Sg} (hR : RM g m μ0 σ μ) (hI : Inv σ) (b x : Int32) : Ct l g yX6_orderOf [Cond.code yX6_orderOf cX6_orderOf 4 (some .int)] { frames := 2, cells := 0, slots := 0, locals := 46 } [.ref m, .int b, .int x] μ z (wrS g m μ0 (some (.int (sp_order σ b x).1)) (sp_order σ b x).2 z) noX := by
  cases hB : isB σ b with
  | false =>
    have hP : isP σ b x = false := isP_f hB
    refine Ct.of hl (by decide +kernel) (Nat.le_of_ble_eq_true rfl) ?_
    intro p e s mi args below meth c o hnm hr hx
    have o : Ok p l s mi args meth c g cX6_orderOf 4 RX6 := o
    refine v_lv [(0, .ref m), (1, .int b), (2, .int x)] rfl ?_
    refine v_aload_n 0 o dX6_orderOf_0 rfl rfl ?_
    refine v_iload_n 1 o dX6_orderOf_1 rfl rfl ?_
    refine v_callVr (v := .int (bI (isB σ b))) [.int b] [] o dX6_orderOf_2 cw_X6_101 im_X6_isBook se_X6_isBook cf6 hR.o (m_isBook hl hR b) rfl rfl (by decide) ⟨rfl, rfl⟩ (by decide) (Nat.le_of_ble_eq_true rfl) ?_
    refine v_top (bI false) (by rw [hB]) ?_
    refine v_if_eq_b 28 o dX6_orderOf_5 (by decide) (fun c5 => ?_) (fun c5 => absurd c5 (by simp_all))
    refine v_iconst 0 o dX6_orderOf_28 rfl ?_
    refine v_istore_n [(3, .int (nI 0)), (0, .ref m), (1, .int b), (2, .int x)] o dX6_orderOf_29 rfl (by decide) rfl ?_
    refine v_aload_n 1 o dX6_orderOf_30 rfl rfl ?_
    refine v_iload_n 0 o dX6_orderOf_31 rfl rfl ?_
    refine v_if_ne_n 39 o dX6_orderOf_32 (by decide) (by decide) (fun c32 => absurd c32 (by omega)) (fun c32 => ?_)
    refine v_iconst 1 o dX6_orderOf_35 rfl ?_
    refine v_goto 55 o dX6_orderOf_36 (by decide) ?_
    refine v_callV [.int (nI 1)] [] o dX6_orderOf_55 cw_X6_109 im_X6_goesWell se_X6_goesWell cf6 hR.o (m_goesWell hl hR 1 (by first | decide | omega)) rfl rfl (by decide) (by decide) (Nat.le_of_ble_eq_true rfl) ?_ (fun _ _ _ _ h => h.elim)
    rintro _ μ1 _ _ ⟨rfl, hR1, rfl⟩
    refine v_st [.int (bI false)] rfl ?_
    refine v_if_ne_b 63 o dX6_orderOf_58 (by decide) (fun c58 => absurd c58 (by simp_all)) (fun c58 => ?_)
    refine v_iconst 0 o dX6_orderOf_61 rfl ?_
    have e9 : sp_order σ b x = (nI 0, uN σ 3 1 1) := by simp [sp_order, th, hP]
    exact v_iret o dX6_orderOf_62 hr (Nat.le_of_ble_eq_true rfl) (Nat.le_of_ble_eq_true rfl) (by rw [e9]; exact ⟨rfl, ⟨_, scr.rf, hR1⟩, rfl⟩)
  | true =>
    obtain ⟨i, hi, rfl⟩ := isB_t hI hB
    have h6 := hI.1
    have h12 := hI.2.1 i
    have ti : tn (nI i) = i := tn_nI (by omega)
    cases hX : inR x (nI 0) (mI (σ.1 0 i)) with
    | false =>
      have hP : isP σ (nI i) x = false := (isP_x hI hi).trans hX
      refine Ct.of hl (by decide +kernel) (Nat.le_of_ble_eq_true rfl) ?_
      intro p e s mi args below meth c o hnm hr hx
      have o : Ok p l s mi args meth c g cX6_orderOf 4 RX6 := o
      refine v_lv [(0, .ref m), (1, .int (nI i)), (2, .int x)] rfl ?_
      refine v_aload_n 0 o dX6_orderOf_0 rfl rfl ?_
      refine v_iload_n 1 o dX6_orderOf_1 rfl rfl ?_
      refine v_callVr (v := .int (bI (isB σ (nI i)))) [.int (nI i)] [] o dX6_orderOf_2 cw_X6_101 im_X6_isBook se_X6_isBook cf6 hR.o (m_isBook hl hR (nI i)) rfl rfl (by decide) ⟨rfl, rfl⟩ (by decide) (Nat.le_of_ble_eq_true rfl) ?_
      refine v_top (bI true) (by rw [hB]) ?_
      refine v_if_eq_b 28 o dX6_orderOf_5 (by decide) (fun c5 => absurd c5 (by simp_all)) (fun c5 => ?_)
      refine v_iload_n 2 o dX6_orderOf_8 rfl rfl ?_
      refine v_iconst 0 o dX6_orderOf_9 rfl ?_
      refine v_aload_n 0 o dX6_orderOf_10 rfl rfl ?_
      refine v_get (v := .ref (m + 1)) o dX6_orderOf_11 cf6 2 (by decide) fl_X6_7 hR.o rfl ?_
      refine v_iload_n 1 o dX6_orderOf_14 rfl rfl ?_
      refine v_iald (nI (σ.1 0 i)) o dX6_orderOf_15 (by omega) (by decide) hR.a1 rfl ?_
      refine v_iconst 1 o dX6_orderOf_16 rfl ?_
      refine v_isub (mI (σ.1 0 i)) o dX6_orderOf_17 rfl ?_
      refine v_callSr (v := .int (bI (inR x (nI 0) (mI (σ.1 0 i))))) [.int x, .int (nI 0), .int (mI (σ.1 0 i))] [] o dX6_orderOf_18 cw_X6_97 st_X6_in (m_in hl hR x (nI 0) (mI (σ.1 0 i))) rfl rfl (by decide) ⟨rfl, rfl⟩ (by decide) (Nat.le_of_ble_eq_true rfl) ?_
      refine v_top (bI false) (by rw [hX]) ?_
      refine v_if_eq_b 28 o dX6_orderOf_21 (by decide) (fun c21 => ?_) (fun c21 => absurd c21 (by simp_all))
      refine v_iconst 0 o dX6_orderOf_28 rfl ?_
      refine v_istore_n [(3, .int (nI 0)), (0, .ref m), (1, .int (nI i)), (2, .int x)] o dX6_orderOf_29 rfl (by decide) rfl ?_
      refine v_aload_n 1 o dX6_orderOf_30 rfl rfl ?_
      refine v_iload_n 0 o dX6_orderOf_31 rfl rfl ?_
      refine v_if_ne_n 39 o dX6_orderOf_32 (by decide) (by decide) (fun c32 => absurd c32 (by omega)) (fun c32 => ?_)
      refine v_iconst 1 o dX6_orderOf_35 rfl ?_
      refine v_goto 55 o dX6_orderOf_36 (by decide) ?_
      refine v_callV [.int (nI 1)] [] o dX6_orderOf_55 cw_X6_109 im_X6_goesWell se_X6_goesWell cf6 hR.o (m_goesWell hl hR 1 (by first | decide | omega)) rfl rfl (by decide) (by decide) (Nat.le_of_ble_eq_true rfl) ?_ (fun _ _ _ _ h => h.elim)
      rintro _ μ2 _ _ ⟨rfl, hR2, rfl⟩
      refine v_st [.int (bI false)] rfl ?_
      refine v_if_ne_b 63 o dX6_orderOf_58 (by decide) (fun c58 => absurd c58 (by simp_all)) (fun c58 => ?_)
      refine v_iconst 0 o dX6_orderOf_61 rfl ?_
      have e9 : sp_order σ (nI i) x = (nI 0, uN σ 3 1 1) := by simp [sp_order, th, hP]
      exact v_iret o dX6_orderOf_62 hr (Nat.le_of_ble_eq_true rfl) (Nat.le_of_ble_eq_true rfl) (by rw [e9]; exact ⟨rfl, ⟨_, scr.rf, hR2⟩, rfl⟩)
    | true =>
      have hP : isP σ (nI i) x = true := (isP_x hI hi).trans hX
      obtain ⟨j, hj, rfl⟩ := okI_t (n := σ.1 0 i) hX (by omega)
      have tj : tn (nI j) = j := tn_nI (by omega)
      by_cases h7 : 7 < σ.1 0 i
      · refine Ct.of hl (by decide +kernel) (Nat.le_of_ble_eq_true rfl) ?_
        intro p e s mi args below meth c o hnm hr hx
        have o : Ok p l s mi args meth c g cX6_orderOf 4 RX6 := o
        refine v_lv [(0, .ref m), (1, .int (nI i)), (2, .int (nI j))] rfl ?_
        refine v_aload_n 0 o dX6_orderOf_0 rfl rfl ?_
        refine v_iload_n 1 o dX6_orderOf_1 rfl rfl ?_
        refine v_callVr (v := .int (bI (isB σ (nI i)))) [.int (nI i)] [] o dX6_orderOf_2 cw_X6_101 im_X6_isBook se_X6_isBook cf6 hR.o (m_isBook hl hR (nI i)) rfl rfl (by decide) ⟨rfl, rfl⟩ (by decide) (Nat.le_of_ble_eq_true rfl) ?_
        refine v_top (bI true) (by rw [hB]) ?_
        refine v_if_eq_b 28 o dX6_orderOf_5 (by decide) (fun c5 => absurd c5 (by simp_all)) (fun c5 => ?_)
        refine v_iload_n 2 o dX6_orderOf_8 rfl rfl ?_
        refine v_iconst 0 o dX6_orderOf_9 rfl ?_
        refine v_aload_n 0 o dX6_orderOf_10 rfl rfl ?_
        refine v_get (v := .ref (m + 1)) o dX6_orderOf_11 cf6 2 (by decide) fl_X6_7 hR.o rfl ?_
        refine v_iload_n 1 o dX6_orderOf_14 rfl rfl ?_
        refine v_iald (nI (σ.1 0 i)) o dX6_orderOf_15 (by omega) (by decide) hR.a1 rfl ?_
        refine v_iconst 1 o dX6_orderOf_16 rfl ?_
        refine v_isub (mI (σ.1 0 i)) o dX6_orderOf_17 rfl ?_
        refine v_callSr (v := .int (bI (inR (nI j) (nI 0) (mI (σ.1 0 i))))) [.int (nI j), .int (nI 0), .int (mI (σ.1 0 i))] [] o dX6_orderOf_18 cw_X6_97 st_X6_in (m_in hl hR (nI j) (nI 0) (mI (σ.1 0 i))) rfl rfl (by decide) ⟨rfl, rfl⟩ (by decide) (Nat.le_of_ble_eq_true rfl) ?_
        refine v_top (bI true) (by rw [hX]) ?_
        refine v_if_eq_b 28 o dX6_orderOf_21 (by decide) (fun c21 => absurd c21 (by simp_all)) (fun c21 => ?_)
        refine v_iconst 1 o dX6_orderOf_24 rfl ?_
        refine v_goto 29 o dX6_orderOf_25 (by decide) ?_
        refine v_istore_n [(3, .int (nI 1)), (0, .ref m), (1, .int (nI i)), (2, .int (nI j))] o dX6_orderOf_29 rfl (by decide) rfl ?_
        refine v_aload_n 1 o dX6_orderOf_30 rfl rfl ?_
        refine v_iload_n 0 o dX6_orderOf_31 rfl rfl ?_
        refine v_if_ne_n 39 o dX6_orderOf_32 (by decide) (by decide) (fun c32 => ?_) (fun c32 => absurd c32 (by omega))
        refine v_aload_n 1 o dX6_orderOf_39 rfl rfl ?_
        refine v_get (v := .ref (m + 1)) o dX6_orderOf_40 cf6 2 (by decide) fl_X6_7 hR.o rfl ?_
        refine v_iload_n 2 o dX6_orderOf_43 rfl rfl ?_
        refine v_iald (nI (σ.1 0 i)) o dX6_orderOf_44 (by omega) (by decide) hR.a1 rfl ?_
        refine v_bipush 7 o dX6_orderOf_45 (by decide) ?_
        refine v_icmp_le_n 54 o dX6_orderOf_47 (by decide) (by omega) (by decide) (fun c47 => absurd c47 (by omega)) (fun c47 => ?_)
        refine v_iconst 2 o dX6_orderOf_50 rfl ?_
        refine v_goto 55 o dX6_orderOf_51 (by decide) ?_
        refine v_callV [.int (nI 2)] [] o dX6_orderOf_55 cw_X6_109 im_X6_goesWell se_X6_goesWell cf6 hR.o (m_goesWell hl hR 2 (by first | decide | omega)) rfl rfl (by decide) (by decide) (Nat.le_of_ble_eq_true rfl) ?_ (fun _ _ _ _ h => h.elim)
        rintro _ μ3 _ _ ⟨rfl, hR3, rfl⟩
        refine v_st [.int (bI false)] rfl ?_
        refine v_if_ne_b 63 o dX6_orderOf_58 (by decide) (fun c58 => absurd c58 (by simp_all)) (fun c58 => ?_)
        refine v_iconst 0 o dX6_orderOf_61 rfl ?_
        have e9 : sp_order σ (nI i) (nI j) = (nI 0, uN σ 3 1 2) := by simp [sp_order, th, hP, ti, tj, h7]
        exact v_iret o dX6_orderOf_62 hr (Nat.le_of_ble_eq_true rfl) (Nat.le_of_ble_eq_true rfl) (by rw [e9]; exact ⟨rfl, ⟨_, scr.rf, hR3⟩, rfl⟩)
      · rw [Nat.not_lt] at h7
        refine Ct.of hl (by decide +kernel) (Nat.le_of_ble_eq_true rfl) ?_
        intro p e s mi args below meth c o hnm hr hx
        have o : Ok p l s mi args meth c g cX6_orderOf 4 RX6 := o
        refine v_lv [(0, .ref m), (1, .int (nI i)), (2, .int (nI j))] rfl ?_
        refine v_aload_n 0 o dX6_orderOf_0 rfl rfl ?_
        refine v_iload_n 1 o dX6_orderOf_1 rfl rfl ?_
        refine v_callVr (v := .int (bI (isB σ (nI i)))) [.int (nI i)] [] o dX6_orderOf_2 cw_X6_101 im_X6_isBook se_X6_isBook cf6 hR.o (m_isBook hl hR (nI i)) rfl rfl (by decide) ⟨rfl, rfl⟩ (by decide) (Nat.le_of_ble_eq_true rfl) ?_
        refine v_top (bI true) (by rw [hB]) ?_
        refine v_if_eq_b 28 o dX6_orderOf_5 (by decide) (fun c5 => absurd c5 (by simp_all)) (fun c5 => ?_)
        refine v_iload_n 2 o dX6_orderOf_8 rfl rfl ?_
        refine v_iconst 0 o dX6_orderOf_9 rfl ?_
        refine v_aload_n 0 o dX6_orderOf_10 rfl rfl ?_
        refine v_get (v := .ref (m + 1)) o dX6_orderOf_11 cf6 2 (by decide) fl_X6_7 hR.o rfl ?_
        refine v_iload_n 1 o dX6_orderOf_14 rfl rfl ?_
        refine v_iald (nI (σ.1 0 i)) o dX6_orderOf_15 (by omega) (by decide) hR.a1 rfl ?_
        refine v_iconst 1 o dX6_orderOf_16 rfl ?_
        refine v_isub (mI (σ.1 0 i)) o dX6_orderOf_17 rfl ?_
        refine v_callSr (v := .int (bI (inR (nI j) (nI 0) (mI (σ.1 0 i))))) [.int (nI j), .int (nI 0), .int (mI (σ.1 0 i))] [] o dX6_orderOf_18 cw_X6_97 st_X6_in (m_in hl hR (nI j) (nI 0) (mI (σ.1 0 i))) rfl rfl (by decide) ⟨rfl, rfl⟩ (by decide) (Nat.le_of_ble_eq_true rfl) ?_
        refine v_top (bI true) (by rw [hX]) ?_
        refine v_if_eq_b 28 o dX6_orderOf_21 (by decide) (fun c21 => absurd c21 (by simp_all)) (fun c21 => ?_)
        refine v_iconst 1 o dX6_orderOf_24 rfl ?_
        refine v_goto 29 o dX6_orderOf_25 (by decide) ?_
        refine v_istore_n [(3, .int (nI 1)), (0, .ref m), (1, .int (nI i)), (2, .int (nI j))] o dX6_orderOf_29 rfl (by decide) rfl ?_
        refine v_aload_n 1 o dX6_orderOf_30 rfl rfl ?_
        refine v_iload_n 0 o dX6_orderOf_31 rfl rfl ?_
        refine v_if_ne_n 39 o dX6_orderOf_32 (by decide) (by decide) (fun c32 => ?_) (fun c32 => absurd c32 (by omega))
        refine v_aload_n 1 o dX6_orderOf_39 rfl rfl ?_
        refine v_get (v := .ref (m + 1)) o dX6_orderOf_40 cf6 2 (by decide) fl_X6_7 hR.o rfl ?_
        refine v_iload_n 2 o dX6_orderOf_43 rfl rfl ?_
        refine v_iald (nI (σ.1 0 i)) o dX6_orderOf_44 (by omega) (by decide) hR.a1 rfl ?_
        refine v_bipush 7 o dX6_orderOf_45 (by decide) ?_
        refine v_icmp_le_n 54 o dX6_orderOf_47 (by decide) (by omega) (by decide) (fun c47 => ?_) (fun c47 => absurd c47 (by omega))
        refine v_iconst 0 o dX6_orderOf_54 rfl ?_
        refine v_callV [.int (nI 0)] [] o dX6_orderOf_55 cw_X6_109 im_X6_goesWell se_X6_goesWell cf6 hR.o (m_goesWell hl hR 0 (by first | decide | omega)) rfl rfl (by decide) (by decide) (Nat.le_of_ble_eq_true rfl) ?_ (fun _ _ _ _ h => h.elim)
        rintro _ μ4 _ _ ⟨rfl, hR4, rfl⟩
        refine v_st [.int (bI true)] rfl ?_
        refine v_if_ne_b 63 o dX6_orderOf_58 (by decide) (fun c58 => ?_) (fun c58 => absurd c58 (by simp_all))
        refine v_aload_n 1 o dX6_orderOf_63 rfl rfl ?_
        refine v_iload_n 2 o dX6_orderOf_64 rfl rfl ?_
        refine v_callV [.int (nI i)] [] o dX6_orderOf_65 cw_X6_151 im_X6_layOrder se_X6_layOrder cf6 hR4.o (m_layOrder hl hR4 hI i hi h7) rfl rfl (by decide) (by decide) (Nat.le_of_ble_eq_true rfl) ?_ (fun _ _ _ _ h => h.elim)
        rintro _ μt _ _ ⟨rfl, ⟨τ, hs, hmL, hRt⟩, rfl⟩
        refine v_st [.int (bI ((ordL (uN σ 3 1 0) i).isSome))] rfl ?_
        refine v_if_eq_b 80 o dX6_orderOf_68 (by decide) (fun c68 => ?_) (fun c68 => ?_)
        · refine v_iconst_i (-1) o dX6_orderOf_80 (by decide) ?_
          have hL : ordL σ i = none := by cases q : ordL σ i with | none => rfl | some L => rw [show ordL (uN σ 3 1 0) i = ordL σ i from rfl, q] at c68; cases c68
          have e9 : sp_order σ (nI i) (nI j) = (mI (ordN σ i j), uN σ 3 1 0) := by simp [sp_order, th, hP, ti, tj, Nat.not_lt.mpr h7]
          exact v_iret o dX6_orderOf_81 hr (Nat.le_of_ble_eq_true rfl) (Nat.le_of_ble_eq_true rfl) (by rw [e9, ordN_none hL, mI_0]; exact ⟨rfl, ⟨_, hs, hRt⟩, rfl⟩)
        · refine v_aload_n 1 o dX6_orderOf_71 rfl rfl ?_
          refine v_get (v := .ref (m + 25)) o dX6_orderOf_72 cf6 29 (by decide) fl_X6_88 hRt.o rfl ?_
          refine v_iload_n 3 o dX6_orderOf_75 rfl rfl ?_
          refine v_iald (mI (τ.1 5 j)) o dX6_orderOf_76 (by omega) (by decide) hRt.a25 rfl ?_
          refine v_goto 81 o dX6_orderOf_77 (by decide) ?_
          obtain ⟨L, hL⟩ := Option.isSome_iff_exists.mp c68
          have hv : τ.1 5 j = ordN σ i j := by rw [ordN_some (σ := σ) hL]; exact mt_at L j (hmL L hL) (by rw [ordL_len (σ := σ) hL]; exact hj)
          have e9 : sp_order σ (nI i) (nI j) = (mI (ordN σ i j), uN σ 3 1 0) := by simp [sp_order, th, hP, ti, tj, Nat.not_lt.mpr h7]
          exact v_iret o dX6_orderOf_81 hr (Nat.le_of_ble_eq_true rfl) (Nat.le_of_ble_eq_true rfl) (by rw [e9, hv]; exact ⟨rfl, ⟨_, hs, hRt⟩, rfl⟩)

set_option maxRecDepth 100000 in
set_option maxHeartbeats 4000000 in
theorem m_order {l : Launch} (hl : l.stackTraces = false) {g : mG} {m z : Nat} {μ0 μ : mM} {σ : Sg} (hR : RM g m μ0 σ μ) (hI : Inv σ) (b x : Int32) : Ct l g yX6_order [Cond.code yX6_order cX6_order 3 (some .int)] { frames := 3, cells := 0, slots := 0, locals := 69 } [.ref m, .int b, .int x] μ z (wrS g m μ0 (some (.int (sp_order σ b x).1)) (sp_order σ b x).2 z) noX := by
  refine Ct.of hl (by decide +kernel) (Nat.le_of_ble_eq_true rfl) ?_
  intro p e s mi args below meth c o hnm hr hx
  have o : Ok p l s mi args meth c g cX6_order 3 RX6 := o
  refine v_lv [(0, .ref m), (1, .int b), (2, .int x)] rfl ?_
  refine v_aload_n 0 o dX6_order_0 rfl rfl ?_
  refine v_iload_n 1 o dX6_order_1 rfl rfl ?_
  refine v_iload_n 2 o dX6_order_2 rfl rfl ?_
  refine v_callV [.int b, .int x] [] o dX6_order_3 cw_X6_154 im_X6_orderOf se_X6_orderOf cf6 hR.o (m_orderOf hl hR hI b x) rfl rfl (by decide) (by decide) (Nat.le_of_ble_eq_true rfl) ?_ (fun _ _ _ _ h => h.elim)
  rintro _ μt _ _ ⟨rfl, hw, rfl⟩
  refine v_st [.int ((sp_order σ b x).1)] rfl ?_
  exact v_iret o dX6_order_6 hr (Nat.le_of_ble_eq_true rfl) (Nat.le_of_ble_eq_true rfl) ⟨rfl, hw, rfl⟩

set_option maxRecDepth 100000 in
set_option maxHeartbeats 4000000 in
theorem m_orderAnew {l : Launch} (hl : l.stackTraces = false) {g : mG} {m z : Nat} {μ0 μ : mM} {σ : Sg} (hR : RM g m μ0 σ μ) (hI : Inv σ) (b x : Int32) : Ct l g yX6_orderAnew [Cond.code yX6_orderAnew cX6_orderAnew 3 (some .int)] { frames := 3, cells := 0, slots := 0, locals := 69 } [.ref m, .int b, .int x] μ z (wrS g m μ0 (some (.int (sp_order σ b x).1)) (sp_order σ b x).2 z) noX := by
  refine Ct.of hl (by decide +kernel) (Nat.le_of_ble_eq_true rfl) ?_
  intro p e s mi args below meth c o hnm hr hx
  have o : Ok p l s mi args meth c g cX6_orderAnew 3 RX6 := o
  refine v_lv [(0, .ref m), (1, .int b), (2, .int x)] rfl ?_
  refine v_aload_n 0 o dX6_orderAnew_0 rfl rfl ?_
  refine v_iload_n 1 o dX6_orderAnew_1 rfl rfl ?_
  refine v_iload_n 2 o dX6_orderAnew_2 rfl rfl ?_
  refine v_callV [.int b, .int x] [] o dX6_orderAnew_3 cw_X6_154 im_X6_orderOf se_X6_orderOf cf6 hR.o (m_orderOf hl hR hI b x) rfl rfl (by decide) (by decide) (Nat.le_of_ble_eq_true rfl) ?_ (fun _ _ _ _ h => h.elim)
  rintro _ μt _ _ ⟨rfl, hw, rfl⟩
  refine v_st [.int ((sp_order σ b x).1)] rfl ?_
  exact v_iret o dX6_orderAnew_6 hr (Nat.le_of_ble_eq_true rfl) (Nat.le_of_ble_eq_true rfl) ⟨rfl, hw, rfl⟩

