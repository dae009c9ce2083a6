set_option maxRecDepth 100000 in
set_option maxHeartbeats 4000000 in
theorem m_build {l : Launch} (hl : l.stackTraces = false) {g : mG} {m z : Nat} {μ0 μ : mM} {σ : Sg} (hR : RM g m μ0 σ μ) (hI : Inv σ) (v : Int32) : Ct l g yX6_build [Cond.code yX6_build cX6_build 3 none] { frames := 2, cells := 0, slots := 0, locals := 42 } [.ref m, .int v] μ z (wrM g m μ0 none (sp_build σ v) z) noX := by
  cases hV : isV v with
  | false =>
    refine Ct.of hl (by decide +kernel) (Nat.le_of_ble_eq_true rfl) ?_
    intro p e s mi args below meth c o hnm hr hx
    have o : Ok p l s mi args meth c g cX6_build 3 RX6 := o
    refine v_lv [(0, .ref m), (1, .int v)] rfl ?_
    refine v_iload_n 1 o dX6_build_0 rfl rfl ?_
    refine v_callSr (v := .int (bI (isV v))) [.int v] [] o dX6_build_1 cw_X6_130 st_X6_isVault (m_isVault hl hR v) rfl rfl (by decide) ⟨rfl, rfl⟩ (by decide) (Nat.le_of_ble_eq_true rfl) ?_
    refine v_top (bI false) (by rw [hV]) ?_
    refine v_istore_n [(2, .int (bI false)), (0, .ref m), (1, .int v)] o dX6_build_4 rfl (by decide) rfl ?_
    refine v_aload_n 1 o dX6_build_5 rfl rfl ?_
    refine v_iload_n 0 o dX6_build_6 rfl rfl ?_
    refine v_if_ne_b 14 o dX6_build_7 (by decide) (fun c7 => absurd c7 (by simp_all)) (fun c7 => ?_)
    refine v_iconst 1 o dX6_build_10 rfl ?_
    refine v_goto 28 o dX6_build_11 (by decide) ?_
    refine v_callV [.int (nI 1)] [] o dX6_build_28 cw_X6_109 im_X6_goesWell se_X6_goesWell cf6 hR.o (m_goesWell hl hR 1 (by first | decide | omega)) rfl rfl (by decide) (by decide) (Nat.le_of_ble_eq_true rfl) ?_ (fun _ _ _ _ h => h.elim)
    rintro _ μ1 _ _ ⟨rfl, hR1, rfl⟩
    refine v_st [.int (bI false)] rfl ?_
    refine v_if_eq_b 41 o dX6_build_31 (by decide) (fun c31 => ?_) (fun c31 => absurd c31 (by simp_all))
    have e9 : sp_build σ v = uN σ 3 1 1 := by simp [sp_build, th, hV]
    exact v_vret o dX6_build_41 hr (Nat.le_of_ble_eq_true rfl) (Nat.le_of_ble_eq_true rfl) (by rw [e9]; exact ⟨rfl, hR1, rfl⟩)
  | true =>
    obtain ⟨v, hv, rfl⟩ := isV_t hV
    have tv : tn (nI v) = v := tn_nI (by omega)
    refine Ct.of hl (by decide +kernel) (Nat.le_of_ble_eq_true rfl) ?_
    intro p e s mi args below meth c o hnm hr hx
    have o : Ok p l s mi args meth c g cX6_build 3 RX6 := o
    refine v_lv [(0, .ref m), (1, .int (nI v))] rfl ?_
    refine v_iload_n 1 o dX6_build_0 rfl rfl ?_
    refine v_callSr (v := .int (bI (isV (nI v)))) [.int (nI v)] [] o dX6_build_1 cw_X6_130 st_X6_isVault (m_isVault hl hR (nI v)) rfl rfl (by decide) ⟨rfl, rfl⟩ (by decide) (Nat.le_of_ble_eq_true rfl) ?_
    refine v_top (bI true) (by rw [hV]) ?_
    refine v_istore_n [(2, .int (bI true)), (0, .ref m), (1, .int (nI v))] o dX6_build_4 rfl (by decide) rfl ?_
    refine v_aload_n 1 o dX6_build_5 rfl rfl ?_
    refine v_iload_n 0 o dX6_build_6 rfl rfl ?_
    refine v_if_ne_b 14 o dX6_build_7 (by decide) (fun c7 => ?_) (fun c7 => absurd c7 (by simp_all))
    refine v_aload_n 1 o dX6_build_14 rfl rfl ?_
    refine v_get (v := .ref (m + 17)) o dX6_build_15 cf6 19 (by decide) fl_X6_60 hR.o rfl ?_
    refine v_iload_n 2 o dX6_build_18 rfl rfl ?_
    refine v_zald (bI (σ.2.1 6 v)) o dX6_build_19 (by omega) (by decide) hR.a17 rfl ?_
    refine v_if_eq_b 27 o dX6_build_20 (by decide) (fun c20 => ?_) (fun c20 => ?_)
    · refine v_iconst 2 o dX6_build_27 rfl ?_
      refine v_callV [.int (nI 2)] [] o dX6_build_28 cw_X6_109 im_X6_goesWell se_X6_goesWell cf6 hR.o (m_goesWell hl hR 2 (by first | decide | omega)) rfl rfl (by decide) (by decide) (Nat.le_of_ble_eq_true rfl) ?_ (fun _ _ _ _ h => h.elim)
      rintro _ μ2 _ _ ⟨rfl, hR2, rfl⟩
      refine v_st [.int (bI false)] rfl ?_
      refine v_if_eq_b 41 o dX6_build_31 (by decide) (fun c31 => ?_) (fun c31 => absurd c31 (by simp_all))
      have e9 : sp_build σ (nI v) = uN σ 3 1 2 := by simp [sp_build, th, hV, tv, c20]
      exact v_vret o dX6_build_41 hr (Nat.le_of_ble_eq_true rfl) (Nat.le_of_ble_eq_true rfl) (by rw [e9]; exact ⟨rfl, hR2, rfl⟩)
    · refine v_iconst 0 o dX6_build_23 rfl ?_
      refine v_goto 28 o dX6_build_24 (by decide) ?_
      refine v_callV [.int (nI 0)] [] o dX6_build_28 cw_X6_109 im_X6_goesWell se_X6_goesWell cf6 hR.o (m_goesWell hl hR 0 (by first | decide | omega)) rfl rfl (by decide) (by decide) (Nat.le_of_ble_eq_true rfl) ?_ (fun _ _ _ _ h => h.elim)
      rintro _ μ3 _ _ ⟨rfl, hR3, rfl⟩
      refine v_st [.int (bI true)] rfl ?_
      refine v_if_eq_b 41 o dX6_build_31 (by decide) (fun c31 => absurd c31 (by simp_all)) (fun c31 => ?_)
      refine v_aload_n 1 o dX6_build_34 rfl rfl ?_
      refine v_get (v := .ref (m + 17)) o dX6_build_35 cf6 19 (by decide) fl_X6_60 hR3.o rfl ?_
      refine v_iload_n 2 o dX6_build_38 rfl rfl ?_
      refine v_iconst 0 o dX6_build_39 rfl ?_
      refine v_top (bI false) rfl ?_
      refine v_zast o dX6_build_40 (by omega) (by decide) (nar_bI _) hR3.a17 (fun μ4 e4 => ?_)
      have hR4 := hR3.p17 (i0 := v) (v := false) e4
      have e9 : sp_build σ (nI v) = uB (uN σ 3 1 0) 6 v false := by simp [sp_build, th, hV, tv, c20]
      exact v_vret o dX6_build_41 hr (Nat.le_of_ble_eq_true rfl) (Nat.le_of_ble_eq_true rfl) (by rw [e9]; exact ⟨rfl, hR4, rfl⟩)

set_option maxRecDepth 100000 in
set_option maxHeartbeats 4000000 in
theorem m_copy {l : Launch} (hl : l.stackTraces = false) {g : mG} {m z : Nat} {μ0 μ : mM} {σ : Sg} (hR : RM g m μ0 σ μ) (hI : Inv σ) (v b q : Int32) : Ct l g yX6_copy [Cond.code yX6_copy cX6_copy 6 (some .long)] { frames := 3, cells := 0, slots := 0, locals := 65 } [.ref m, .int v, .int b, .int q] μ z (wrM g m μ0 (some (.long (sp_copy σ v b q).1)) (sp_copy σ v b q).2 z) noX := by
  cases hV : isV v with
  | false =>
    refine Ct.of hl (by decide +kernel) (Nat.le_of_ble_eq_true rfl) ?_
    intro p e s mi args below meth c o hnm hr hx
    have o : Ok p l s mi args meth c g cX6_copy 6 RX6 := o
    refine v_lv [(0, .ref m), (1, .int v), (2, .int b), (3, .int q)] rfl ?_
    refine v_iload_n 1 o dX6_copy_0 rfl rfl ?_
    refine v_callSr (v := .int (bI (isV v))) [.int v] [] o dX6_copy_1 cw_X6_130 st_X6_isVault (m_isVault hl hR v) rfl rfl (by decide) ⟨rfl, rfl⟩ (by decide) (Nat.le_of_ble_eq_true rfl) ?_
    refine v_top (bI false) (by rw [hV]) ?_
    refine v_if_eq_b 20 o dX6_copy_4 (by decide) (fun c4 => ?_) (fun c4 => absurd c4 (by simp_all))
    refine v_iconst 0 o dX6_copy_20 rfl ?_
    refine v_istore [(4, .int (nI 0)), (0, .ref m), (1, .int v), (2, .int b), (3, .int q)] o dX6_copy_21 (by decide) rfl ?_
    refine v_bipush 72 o dX6_copy_23 (by decide) ?_
    refine v_iload_n 2 o dX6_copy_25 rfl rfl ?_
    refine v_imul ((nI 72) * v) o dX6_copy_26 rfl ?_
    refine v_bipush 12 o dX6_copy_27 (by decide) ?_
    refine v_iload_n 3 o dX6_copy_29 rfl rfl ?_
    refine v_imul ((nI 12) * b) o dX6_copy_30 rfl ?_
    refine v_iadd (((nI 72) * v) + ((nI 12) * b)) o dX6_copy_31 rfl ?_
    refine v_iload_n 4 o dX6_copy_32 rfl rfl ?_
    refine v_iadd ((((nI 72) * v) + ((nI 12) * b)) + q) o dX6_copy_33 rfl ?_
    refine v_istore [(5, .int ((((nI 72) * v) + ((nI 12) * b)) + q)), (4, .int (nI 0)), (0, .ref m), (1, .int v), (2, .int b), (3, .int q)] o dX6_copy_34 (by decide) rfl ?_
    refine v_aload_n 2 o dX6_copy_36 rfl rfl ?_
    refine v_iload 1 o dX6_copy_37 rfl ?_
    refine v_if_ne_n 46 o dX6_copy_39 (by decide) (by decide) (fun c39 => absurd c39 (by omega)) (fun c39 => ?_)
    refine v_iconst 1 o dX6_copy_42 rfl ?_
    refine v_goto 61 o dX6_copy_43 (by decide) ?_
    refine v_callV [.int (nI 1)] [] o dX6_copy_61 cw_X6_109 im_X6_goesWell se_X6_goesWell cf6 hR.o (m_goesWell hl hR 1 (by first | decide | omega)) rfl rfl (by decide) (by decide) (Nat.le_of_ble_eq_true rfl) ?_ (fun _ _ _ _ h => h.elim)
    rintro _ μ1 _ _ ⟨rfl, hR1, rfl⟩
    refine v_st [.int (bI false)] rfl ?_
    refine v_if_eq_b 77 o dX6_copy_64 (by decide) (fun c64 => ?_) (fun c64 => absurd c64 (by simp_all))
    refine v_lconst 0 o dX6_copy_77 (by decide) ?_
    have e9 : sp_copy σ v b q = (0, uN σ 3 1 1) := by simp [sp_copy, th, hV]
    exact v_lret o dX6_copy_78 hr (Nat.le_of_ble_eq_true rfl) (Nat.le_of_ble_eq_true rfl) (by rw [e9]; exact ⟨rfl, hR1, rfl⟩)
  | true =>
    cases hP : isP σ b q with
    | false =>
      refine Ct.of hl (by decide +kernel) (Nat.le_of_ble_eq_true rfl) ?_
      intro p e s mi args below meth c o hnm hr hx
      have o : Ok p l s mi args meth c g cX6_copy 6 RX6 := o
      refine v_lv [(0, .ref m), (1, .int v), (2, .int b), (3, .int q)] rfl ?_
      refine v_iload_n 1 o dX6_copy_0 rfl rfl ?_
      refine v_callSr (v := .int (bI (isV v))) [.int v] [] o dX6_copy_1 cw_X6_130 st_X6_isVault (m_isVault hl hR v) rfl rfl (by decide) ⟨rfl, rfl⟩ (by decide) (Nat.le_of_ble_eq_true rfl) ?_
      refine v_top (bI true) (by rw [hV]) ?_
      refine v_if_eq_b 20 o dX6_copy_4 (by decide) (fun c4 => absurd c4 (by simp_all)) (fun c4 => ?_)
      refine v_aload_n 0 o dX6_copy_7 rfl rfl ?_
      refine v_iload_n 2 o dX6_copy_8 rfl rfl ?_
      refine v_iload_n 3 o dX6_copy_9 rfl rfl ?_
      refine v_callVr (v := .int (bI (isP σ b q))) [.int b, .int q] [] o dX6_copy_10 cw_X6_105 im_X6_isPage se_X6_isPage cf6 hR.o (m_isPage hl hR hI b q) rfl rfl (by decide) ⟨rfl, rfl⟩ (by decide) (Nat.le_of_ble_eq_true rfl) ?_
      refine v_top (bI false) (by rw [hP]) ?_
      refine v_if_eq_b 20 o dX6_copy_13 (by decide) (fun c13 => ?_) (fun c13 => absurd c13 (by simp_all))
      refine v_iconst 0 o dX6_copy_20 rfl ?_
      refine v_istore [(4, .int (nI 0)), (0, .ref m), (1, .int v), (2, .int b), (3, .int q)] o dX6_copy_21 (by decide) rfl ?_
      refine v_bipush 72 o dX6_copy_23 (by decide) ?_
      refine v_iload_n 2 o dX6_copy_25 rfl rfl ?_
      refine v_imul ((nI 72) * v) o dX6_copy_26 rfl ?_
      refine v_bipush 12 o dX6_copy_27 (by decide) ?_
      refine v_iload_n 3 o dX6_copy_29 rfl rfl ?_
      refine v_imul ((nI 12) * b) o dX6_copy_30 rfl ?_
      refine v_iadd (((nI 72) * v) + ((nI 12) * b)) o dX6_copy_31 rfl ?_
      refine v_iload_n 4 o dX6_copy_32 rfl rfl ?_
      refine v_iadd ((((nI 72) * v) + ((nI 12) * b)) + q) o dX6_copy_33 rfl ?_
      refine v_istore [(5, .int ((((nI 72) * v) + ((nI 12) * b)) + q)), (4, .int (nI 0)), (0, .ref m), (1, .int v), (2, .int b), (3, .int q)] o dX6_copy_34 (by decide) rfl ?_
      refine v_aload_n 2 o dX6_copy_36 rfl rfl ?_
      refine v_iload 1 o dX6_copy_37 rfl ?_
      refine v_if_ne_n 46 o dX6_copy_39 (by decide) (by decide) (fun c39 => absurd c39 (by omega)) (fun c39 => ?_)
      refine v_iconst 1 o dX6_copy_42 rfl ?_
      refine v_goto 61 o dX6_copy_43 (by decide) ?_
      refine v_callV [.int (nI 1)] [] o dX6_copy_61 cw_X6_109 im_X6_goesWell se_X6_goesWell cf6 hR.o (m_goesWell hl hR 1 (by first | decide | omega)) rfl rfl (by decide) (by decide) (Nat.le_of_ble_eq_true rfl) ?_ (fun _ _ _ _ h => h.elim)
      rintro _ μ2 _ _ ⟨rfl, hR2, rfl⟩
      refine v_st [.int (bI false)] rfl ?_
      refine v_if_eq_b 77 o dX6_copy_64 (by decide) (fun c64 => ?_) (fun c64 => absurd c64 (by simp_all))
      refine v_lconst 0 o dX6_copy_77 (by decide) ?_
      have e9 : sp_copy σ v b q = (0, uN σ 3 1 1) := by simp [sp_copy, th, hV, hP]
      exact v_lret o dX6_copy_78 hr (Nat.le_of_ble_eq_true rfl) (Nat.le_of_ble_eq_true rfl) (by rw [e9]; exact ⟨rfl, hR2, rfl⟩)
    | true =>
      obtain ⟨v, hv, rfl⟩ := isV_t hV
      have tv : tn (nI v) = v := tn_nI (by omega)
      obtain ⟨i, j, hi, hj, rfl, rfl⟩ := isP_t hI hP
      have h6 := hI.1
      have h12 := hI.2.1 i
      have ti : tn (nI i) = i := tn_nI (by omega)
      have tj : tn (nI j) = j := tn_nI (by omega)
      refine Ct.of hl (by decide +kernel) (Nat.le_of_ble_eq_true rfl) ?_
      intro p e s mi args below meth c o hnm hr hx
      have o : Ok p l s mi args meth c g cX6_copy 6 RX6 := o
      refine v_lv [(0, .ref m), (1, .int (nI v)), (2, .int (nI i)), (3, .int (nI j))] rfl ?_
      refine v_iload_n 1 o dX6_copy_0 rfl rfl ?_
      refine v_callSr (v := .int (bI (isV (nI v)))) [.int (nI v)] [] o dX6_copy_1 cw_X6_130 st_X6_isVault (m_isVault hl hR (nI v)) rfl rfl (by decide) ⟨rfl, rfl⟩ (by decide) (Nat.le_of_ble_eq_true rfl) ?_
      refine v_top (bI true) (by rw [hV]) ?_
      refine v_if_eq_b 20 o dX6_copy_4 (by decide) (fun c4 => absurd c4 (by simp_all)) (fun c4 => ?_)
      refine v_aload_n 0 o dX6_copy_7 rfl rfl ?_
      refine v_iload_n 2 o dX6_copy_8 rfl rfl ?_
      refine v_iload_n 3 o dX6_copy_9 rfl rfl ?_
      refine v_callVr (v := .int (bI (isP σ (nI i) (nI j)))) [.int (nI i), .int (nI j)] [] o dX6_copy_10 cw_X6_105 im_X6_isPage se_X6_isPage cf6 hR.o (m_isPage hl hR hI (nI i) (nI j)) rfl rfl (by decide) ⟨rfl, rfl⟩ (by decide) (Nat.le_of_ble_eq_true rfl) ?_
      refine v_top (bI true) (by rw [hP]) ?_
      refine v_if_eq_b 20 o dX6_copy_13 (by decide) (fun c13 => absurd c13 (by simp_all)) (fun c13 => ?_)
      refine v_iconst 1 o dX6_copy_16 rfl ?_
      refine v_goto 21 o dX6_copy_17 (by decide) ?_
      refine v_istore [(4, .int (nI 1)), (0, .ref m), (1, .int (nI v)), (2, .int (nI i)), (3, .int (nI j))] o dX6_copy_21 (by decide) rfl ?_
      refine v_bipush 72 o dX6_copy_23 (by decide) ?_
      refine v_iload_n 2 o dX6_copy_25 rfl rfl ?_
      refine v_imul (nI (72 * v)) o dX6_copy_26 (pk_mul 72 v) ?_
      refine v_bipush 12 o dX6_copy_27 (by decide) ?_
      refine v_iload_n 3 o dX6_copy_29 rfl rfl ?_
      refine v_imul (nI (12 * i)) o dX6_copy_30 (pk_mul 12 i) ?_
      refine v_iadd (nI (72 * v + (12 * i))) o dX6_copy_31 (nI_add (72 * v) (12 * i)) ?_
      refine v_iload_n 4 o dX6_copy_32 rfl rfl ?_
      refine v_iadd (nI (72 * v + (12 * i) + j)) o dX6_copy_33 (nI_add (72 * v + (12 * i)) j) ?_
      refine v_istore [(5, .int (nI (72 * v + (12 * i) + j))), (4, .int (nI 1)), (0, .ref m), (1, .int (nI v)), (2, .int (nI i)), (3, .int (nI j))] o dX6_copy_34 (by decide) rfl ?_
      refine v_aload_n 2 o dX6_copy_36 rfl rfl ?_
      refine v_iload 1 o dX6_copy_37 rfl ?_
      refine v_if_ne_n 46 o dX6_copy_39 (by decide) (by decide) (fun c39 => ?_) (fun c39 => absurd c39 (by omega))
      refine v_aload_n 2 o dX6_copy_46 rfl rfl ?_
      refine v_get (v := .ref (m + 15)) o dX6_copy_47 cf6 17 (by decide) fl_X6_54 hR.o rfl ?_
      refine v_iload 0 o dX6_copy_50 rfl ?_
      refine v_zald (bI (σ.2.1 5 (72 * v + (12 * i) + j))) o dX6_copy_52 (by omega) (by decide) hR.a15 rfl ?_
      refine v_if_eq_b 60 o dX6_copy_53 (by decide) (fun c53 => ?_) (fun c53 => ?_)
      · refine v_iconst 2 o dX6_copy_60 rfl ?_
        refine v_callV [.int (nI 2)] [] o dX6_copy_61 cw_X6_109 im_X6_goesWell se_X6_goesWell cf6 hR.o (m_goesWell hl hR 2 (by first | decide | omega)) rfl rfl (by decide) (by decide) (Nat.le_of_ble_eq_true rfl) ?_ (fun _ _ _ _ h => h.elim)
        rintro _ μ3 _ _ ⟨rfl, hR3, rfl⟩
        refine v_st [.int (bI false)] rfl ?_
        refine v_if_eq_b 77 o dX6_copy_64 (by decide) (fun c64 => ?_) (fun c64 => absurd c64 (by simp_all))
        refine v_lconst 0 o dX6_copy_77 (by decide) ?_
        have e9 : sp_copy σ (nI v) (nI i) (nI j) = (0, uN σ 3 1 2) := by simp [sp_copy, th, hV, hP, tv, ti, tj, ← Nat.add_assoc, c53]
        exact v_lret o dX6_copy_78 hr (Nat.le_of_ble_eq_true rfl) (Nat.le_of_ble_eq_true rfl) (by rw [e9]; exact ⟨rfl, hR3, rfl⟩)
      · refine v_iconst 0 o dX6_copy_56 rfl ?_
        refine v_goto 61 o dX6_copy_57 (by decide) ?_
        refine v_callV [.int (nI 0)] [] o dX6_copy_61 cw_X6_109 im_X6_goesWell se_X6_goesWell cf6 hR.o (m_goesWell hl hR 0 (by first | decide | omega)) rfl rfl (by decide) (by decide) (Nat.le_of_ble_eq_true rfl) ?_ (fun _ _ _ _ h => h.elim)
        rintro _ μ4 _ _ ⟨rfl, hR4, rfl⟩
        refine v_st [.int (bI true)] rfl ?_
        refine v_if_eq_b 77 o dX6_copy_64 (by decide) (fun c64 => absurd c64 (by simp_all)) (fun c64 => ?_)
        refine v_aload_n 2 o dX6_copy_67 rfl rfl ?_
        refine v_get (v := .ref (m + 16)) o dX6_copy_68 cf6 18 (by decide) fl_X6_57 hR4.o rfl ?_
        refine v_iload 0 o dX6_copy_71 rfl ?_
        refine v_lald (σ.2.2.2 1 (72 * v + (12 * i) + j)) o dX6_copy_73 (by omega) (by decide) hR4.a16 rfl ?_
        refine v_goto 78 o dX6_copy_74 (by decide) ?_
        have e9 : sp_copy σ (nI v) (nI i) (nI j) = (σ.2.2.2 1 (72 * v + (12 * i) + j), uN σ 3 1 0) := by simp [sp_copy, th, hV, hP, tv, ti, tj, ← Nat.add_assoc, c53]
        exact v_lret o dX6_copy_78 hr (Nat.le_of_ble_eq_true rfl) (Nat.le_of_ble_eq_true rfl) (by rw [e9]; exact ⟨rfl, hR4, rfl⟩)

set_option maxRecDepth 100000 in
set_option maxHeartbeats 4000000 in
theorem m_isLost {l : Launch} (hl : l.stackTraces = false) {g : mG} {m z : Nat} {μ0 μ : mM} {σ : Sg} (hR : RM g m μ0 σ μ) (hI : Inv σ) (b q : Int32) : Ct l g yX6_isLost [Cond.code yX6_isLost cX6_isLost 3 (some .boolean)] { frames := 4, cells := 0, slots := 0, locals := 87 } [.ref m, .int b, .int q] μ z (wrM g m μ0 (some (.int (sp_isLost σ b q).1)) (sp_isLost σ b q).2 z) noX := by
  cases hP : isP σ b q with
  | false =>
    refine Ct.of hl (by decide +kernel) (Nat.le_of_ble_eq_true rfl) ?_
    intro p e s mi args below meth c o hnm hr hx
    have o : Ok p l s mi args meth c g cX6_isLost 3 RX6 := o
    refine v_lv [(0, .ref m), (1, .int b), (2, .int q)] rfl ?_
    refine v_aload_n 0 o dX6_isLost_0 rfl rfl ?_
    refine v_aload_n 0 o dX6_isLost_1 rfl rfl ?_
    refine v_iload_n 1 o dX6_isLost_2 rfl rfl ?_
    refine v_iload_n 2 o dX6_isLost_3 rfl rfl ?_
    refine v_callVr (v := .int (bI (isP σ b q))) [.int b, .int q] [.ref m] o dX6_isLost_4 cw_X6_105 im_X6_isPage se_X6_isPage cf6 hR.o (m_isPage hl hR hI b q) rfl rfl (by decide) ⟨rfl, rfl⟩ (by decide) (Nat.le_of_ble_eq_true rfl) ?_
    refine v_top (bI false) (by rw [hP]) ?_
    refine v_if_eq_b 14 o dX6_isLost_7 (by decide) (fun c7 => ?_) (fun c7 => absurd c7 (by simp_all))
    refine v_iconst 1 o dX6_isLost_14 rfl ?_
    refine v_callV [.int (nI 1)] [] o dX6_isLost_15 cw_X6_109 im_X6_goesWell se_X6_goesWell cf6 hR.o (m_goesWell hl hR 1 (by first | decide | omega)) rfl rfl (by decide) (by decide) (Nat.le_of_ble_eq_true rfl) ?_ (fun _ _ _ _ h => h.elim)
    rintro _ μ1 _ _ ⟨rfl, hR1, rfl⟩
    refine v_st [.int (bI false)] rfl ?_
    refine v_if_eq_b 38 o dX6_isLost_18 (by decide) (fun c18 => ?_) (fun c18 => absurd c18 (by simp_all))
    refine v_iconst 0 o dX6_isLost_38 rfl ?_
    have e9 : sp_isLost σ b q = (nI 0, uN σ 3 1 1) := by simp [sp_isLost, th, hP]
    exact v_zret o dX6_isLost_39 hr (by decide) (Nat.le_of_ble_eq_true rfl) (Nat.le_of_ble_eq_true rfl) (by rw [e9]; exact ⟨rfl, hR1, rfl⟩)
  | true =>
    obtain ⟨i, j, hi, hj, rfl, rfl⟩ := isP_t hI hP
    have h6 := hI.1
    have h12 := hI.2.1 i
    have ti : tn (nI i) = i := tn_nI (by omega)
    have tj : tn (nI j) = j := tn_nI (by omega)
    refine Ct.of hl (by decide +kernel) (Nat.le_of_ble_eq_true rfl) ?_
    intro p e s mi args below meth c o hnm hr hx
    have o : Ok p l s mi args meth c g cX6_isLost 3 RX6 := o
    refine v_lv [(0, .ref m), (1, .int (nI i)), (2, .int (nI j))] rfl ?_
    refine v_aload_n 0 o dX6_isLost_0 rfl rfl ?_
    refine v_aload_n 0 o dX6_isLost_1 rfl rfl ?_
    refine v_iload_n 1 o dX6_isLost_2 rfl rfl ?_
    refine v_iload_n 2 o dX6_isLost_3 rfl rfl ?_
    refine v_callVr (v := .int (bI (isP σ (nI i) (nI j)))) [.int (nI i), .int (nI j)] [.ref m] o dX6_isLost_4 cw_X6_105 im_X6_isPage se_X6_isPage cf6 hR.o (m_isPage hl hR hI (nI i) (nI j)) rfl rfl (by decide) ⟨rfl, rfl⟩ (by decide) (Nat.le_of_ble_eq_true rfl) ?_
    refine v_top (bI true) (by rw [hP]) ?_
    refine v_if_eq_b 14 o dX6_isLost_7 (by decide) (fun c7 => absurd c7 (by simp_all)) (fun c7 => ?_)
    refine v_iconst 0 o dX6_isLost_10 rfl ?_
    refine v_goto 15 o dX6_isLost_11 (by decide) ?_
    refine v_callV [.int (nI 0)] [] o dX6_isLost_15 cw_X6_109 im_X6_goesWell se_X6_goesWell cf6 hR.o (m_goesWell hl hR 0 (by first | decide | omega)) rfl rfl (by decide) (by decide) (Nat.le_of_ble_eq_true rfl) ?_ (fun _ _ _ _ h => h.elim)
    rintro _ μ2 _ _ ⟨rfl, hR2, rfl⟩
    refine v_st [.int (bI true)] rfl ?_
    refine v_if_eq_b 38 o dX6_isLost_18 (by decide) (fun c18 => absurd c18 (by simp_all)) (fun c18 => ?_)
    refine v_aload_n 0 o dX6_isLost_21 rfl rfl ?_
    refine v_bipush 12 o dX6_isLost_22 (by decide) ?_
    refine v_iload_n 1 o dX6_isLost_24 rfl rfl ?_
    refine v_imul (nI (12 * i)) o dX6_isLost_25 (pk_mul 12 i) ?_
    refine v_iload_n 2 o dX6_isLost_26 rfl rfl ?_
    refine v_iadd (nI (12 * i + j)) o dX6_isLost_27 (nI_add (12 * i) j) ?_
    refine v_callVr (v := .int (bI (lostB σ (12 * i + j)))) [.int (nI (12 * i + j))] [] o dX6_isLost_28 cw_X6_145 im_X6_isLostAt se_X6_isLostAt cf6 hR2.o (m_isLostAt hl hR2 (12 * i + j) (by omega)) rfl rfl (by decide) ⟨rfl, rfl⟩ (by decide) (Nat.le_of_ble_eq_true rfl) ?_
    refine v_if_eq_b 38 o dX6_isLost_31 (by decide) (fun c31 => ?_) (fun c31 => ?_)
    · refine v_iconst 0 o dX6_isLost_38 rfl ?_
      have e9 : sp_isLost σ (nI i) (nI j) = (nI 0, uN σ 3 1 0) := by simp [sp_isLost, th, hP, ti, tj, bI_tn, bI_fn, c31]
      exact v_zret o dX6_isLost_39 hr (by decide) (Nat.le_of_ble_eq_true rfl) (Nat.le_of_ble_eq_true rfl) (by rw [e9]; exact ⟨rfl, hR2, rfl⟩)
    · refine v_iconst 1 o dX6_isLost_34 rfl ?_
      refine v_goto 39 o dX6_isLost_35 (by decide) ?_
      have e9 : sp_isLost σ (nI i) (nI j) = (nI 1, uN σ 3 1 0) := by simp [sp_isLost, th, hP, ti, tj, bI_tn, bI_fn, c31]
      exact v_zret o dX6_isLost_39 hr (by decide) (Nat.le_of_ble_eq_true rfl) (Nat.le_of_ble_eq_true rfl) (by rw [e9]; exact ⟨rfl, hR2, rfl⟩)

set_option maxRecDepth 100000 in
set_option maxHeartbeats 4000000 in
theorem m_words {l : Launch} (hl : l.stackTraces = false) {g : mG} {m z : Nat} {μ0 μ : mM} {σ : Sg} (hR : RM g m μ0 σ μ) (hI : Inv σ) (b q f t : Int32) : Ct l g yX6_words [Cond.code yX6_words cX6_words 6 none] { frames := 3, cells := 0, slots := 0, locals := 65 } [.ref m, .int b, .int q, .int f, .int t] μ z (wrM g m μ0 none (sp_words σ b q f t) z) noX := by
  cases hF : inR f (nI 0) (nI 99) with
  | false =>
    cases hT : inR t (nI 0) (nI 99) with
    | false =>
      cases hP : isP σ b q with
      | false =>
        refine Ct.of hl (by decide +kernel) (Nat.le_of_ble_eq_true rfl) ?_
        intro p e s mi args below meth c o hnm hr hx
        have o : Ok p l s mi args meth c g cX6_words 6 RX6 := o
        refine v_lv [(0, .ref m), (1, .int b), (2, .int q), (3, .int f), (4, .int t)] rfl ?_
        refine v_aload_n 0 o dX6_words_0 rfl rfl ?_
        refine v_iload_n 1 o dX6_words_1 rfl rfl ?_
        refine v_iload_n 2 o dX6_words_2 rfl rfl ?_
        refine v_callVr (v := .int (bI (isP σ b q))) [.int b, .int q] [] o dX6_words_3 cw_X6_105 im_X6_isPage se_X6_isPage cf6 hR.o (m_isPage hl hR hI b q) rfl rfl (by decide) ⟨rfl, rfl⟩ (by decide) (Nat.le_of_ble_eq_true rfl) ?_
        refine v_top (bI false) (by rw [hP]) ?_
        refine v_istore [(5, .int (bI false)), (0, .ref m), (1, .int b), (2, .int q), (3, .int f), (4, .int t)] o dX6_words_6 (by decide) rfl ?_
        refine v_aload_n 1 o dX6_words_8 rfl rfl ?_
        refine v_iload 0 o dX6_words_9 rfl ?_
        refine v_if_ne_b 18 o dX6_words_11 (by decide) (fun c11 => absurd c11 (by simp_all)) (fun c11 => ?_)
        refine v_iconst 1 o dX6_words_14 rfl ?_
        refine v_goto 44 o dX6_words_15 (by decide) ?_
        refine v_callV [.int (nI 1)] [] o dX6_words_44 cw_X6_109 im_X6_goesWell se_X6_goesWell cf6 hR.o (m_goesWell hl hR 1 (by first | decide | omega)) rfl rfl (by decide) (by decide) (Nat.le_of_ble_eq_true rfl) ?_ (fun _ _ _ _ h => h.elim)
        rintro _ μ1 _ _ ⟨rfl, hR1, rfl⟩
        refine v_st [.int (bI false)] rfl ?_
        refine v_if_eq_b 75 o dX6_words_47 (by decide) (fun c47 => ?_) (fun c47 => absurd c47 (by simp_all))
        have e9 : sp_words σ b q f t = uN σ 3 1 1 := by simp [sp_words, th, hP, hF, hT]
        exact v_vret o dX6_words_75 hr (Nat.le_of_ble_eq_true rfl) (Nat.le_of_ble_eq_true rfl) (by rw [e9]; exact ⟨rfl, hR1, rfl⟩)
      | true =>
        obtain ⟨i, j, hi, hj, rfl, rfl⟩ := isP_t hI hP
        have h6 := hI.1
        have h12 := hI.2.1 i
        have ti : tn (nI i) = i := tn_nI (by omega)
        have tj : tn (nI j) = j := tn_nI (by omega)
        refine Ct.of hl (by decide +kernel) (Nat.le_of_ble_eq_true rfl) ?_
        intro p e s mi args below meth c o hnm hr hx
        have o : Ok p l s mi args meth c g cX6_words 6 RX6 := o
        refine v_lv [(0, .ref m), (1, .int (nI i)), (2, .int (nI j)), (3, .int f), (4, .int t)] rfl ?_
        refine v_aload_n 0 o dX6_words_0 rfl rfl ?_
        refine v_iload_n 1 o dX6_words_1 rfl rfl ?_
        refine v_iload_n 2 o dX6_words_2 rfl rfl ?_
        refine v_callVr (v := .int (bI (isP σ (nI i) (nI j)))) [.int (nI i), .int (nI j)] [] o dX6_words_3 cw_X6_105 im_X6_isPage se_X6_isPage cf6 hR.o (m_isPage hl hR hI (nI i) (nI j)) rfl rfl (by decide) ⟨rfl, rfl⟩ (by decide) (Nat.le_of_ble_eq_true rfl) ?_
        refine v_top (bI true) (by rw [hP]) ?_
        refine v_istore [(5, .int (bI true)), (0, .ref m), (1, .int (nI i)), (2, .int (nI j)), (3, .int f), (4, .int t)] o dX6_words_6 (by decide) rfl ?_
        refine v_aload_n 1 o dX6_words_8 rfl rfl ?_
        refine v_iload 0 o dX6_words_9 rfl ?_
        refine v_if_ne_b 18 o dX6_words_11 (by decide) (fun c11 => ?_) (fun c11 => absurd c11 (by simp_all))
        refine v_iload_n 4 o dX6_words_18 rfl rfl ?_
        refine v_iconst 0 o dX6_words_19 rfl ?_
        refine v_bipush 99 o dX6_words_20 (by decide) ?_
        refine v_callSr (v := .int (bI (inR f (nI 0) (nI 99)))) [.int f, .int (nI 0), .int (nI 99)] [.ref m] o dX6_words_22 cw_X6_97 st_X6_in (m_in hl hR f (nI 0) (nI 99)) rfl rfl (by decide) ⟨rfl, rfl⟩ (by decide) (Nat.le_of_ble_eq_true rfl) ?_
        refine v_top (bI false) (by rw [hF]) ?_
        refine v_if_eq_b 43 o dX6_words_25 (by decide) (fun c25 => ?_) (fun c25 => absurd c25 (by simp_all))
        refine v_iconst 2 o dX6_words_43 rfl ?_
        refine v_callV [.int (nI 2)] [] o dX6_words_44 cw_X6_109 im_X6_goesWell se_X6_goesWell cf6 hR.o (m_goesWell hl hR 2 (by first | decide | omega)) rfl rfl (by decide) (by decide) (Nat.le_of_ble_eq_true rfl) ?_ (fun _ _ _ _ h => h.elim)
        rintro _ μ2 _ _ ⟨rfl, hR2, rfl⟩
        refine v_st [.int (bI false)] rfl ?_
        refine v_if_eq_b 75 o dX6_words_47 (by decide) (fun c47 => ?_) (fun c47 => absurd c47 (by simp_all))
        have e9 : sp_words σ (nI i) (nI j) f t = uN σ 3 1 2 := by simp [sp_words, th, hP, hF, hT, ti, tj]
        exact v_vret o dX6_words_75 hr (Nat.le_of_ble_eq_true rfl) (Nat.le_of_ble_eq_true rfl) (by rw [e9]; exact ⟨rfl, hR2, rfl⟩)
    | true =>
      cases hP : isP σ b q with
      | false =>
        refine Ct.of hl (by decide +kernel) (Nat.le_of_ble_eq_true rfl) ?_
        intro p e s mi args below meth c o hnm hr hx
        have o : Ok p l s mi args meth c g cX6_words 6 RX6 := o
        refine v_lv [(0, .ref m), (1, .int b), (2, .int q), (3, .int f), (4, .int t)] rfl ?_
        refine v_aload_n 0 o dX6_words_0 rfl rfl ?_
        refine v_iload_n 1 o dX6_words_1 rfl rfl ?_
        refine v_iload_n 2 o dX6_words_2 rfl rfl ?_
        refine v_callVr (v := .int (bI (isP σ b q))) [.int b, .int q] [] o dX6_words_3 cw_X6_105 im_X6_isPage se_X6_isPage cf6 hR.o (m_isPage hl hR hI b q) rfl rfl (by decide) ⟨rfl, rfl⟩ (by decide) (Nat.le_of_ble_eq_true rfl) ?_
        refine v_top (bI false) (by rw [hP]) ?_
        refine v_istore [(5, .int (bI false)), (0, .ref m), (1, .int b), (2, .int q), (3, .int f), (4, .int t)] o dX6_words_6 (by decide) rfl ?_
        refine v_aload_n 1 o dX6_words_8 rfl rfl ?_
        refine v_iload 0 o dX6_words_9 rfl ?_
        refine v_if_ne_b 18 o dX6_words_11 (by decide) (fun c11 => absurd c11 (by simp_all)) (fun c11 => ?_)
        refine v_iconst 1 o dX6_words_14 rfl ?_
        refine v_goto 44 o dX6_words_15 (by decide) ?_
        refine v_callV [.int (nI 1)] [] o dX6_words_44 cw_X6_109 im_X6_goesWell se_X6_goesWell cf6 hR.o (m_goesWell hl hR 1 (by first | decide | omega)) rfl rfl (by decide) (by decide) (Nat.le_of_ble_eq_true rfl) ?_ (fun _ _ _ _ h => h.elim)
        rintro _ μ3 _ _ ⟨rfl, hR3, rfl⟩
        refine v_st [.int (bI false)] rfl ?_
        refine v_if_eq_b 75 o dX6_words_47 (by decide) (fun c47 => ?_) (fun c47 => absurd c47 (by simp_all))
        have e9 : sp_words σ b q f t = uN σ 3 1 1 := by simp [sp_words, th, hP, hF, hT]
        exact v_vret o dX6_words_75 hr (Nat.le_of_ble_eq_true rfl) (Nat.le_of_ble_eq_true rfl) (by rw [e9]; exact ⟨rfl, hR3, rfl⟩)
      | true =>
        obtain ⟨i, j, hi, hj, rfl, rfl⟩ := isP_t hI hP
        have h6 := hI.1
        have h12 := hI.2.1 i
        have ti : tn (nI i) = i := tn_nI (by omega)
        have tj : tn (nI j) = j := tn_nI (by omega)
        refine Ct.of hl (by decide +kernel) (Nat.le_of_ble_eq_true rfl) ?_
        intro p e s mi args below meth c o hnm hr hx
        have o : Ok p l s mi args meth c g cX6_words 6 RX6 := o
        refine v_lv [(0, .ref m), (1, .int (nI i)), (2, .int (nI j)), (3, .int f), (4, .int t)] rfl ?_
        refine v_aload_n 0 o dX6_words_0 rfl rfl ?_
        refine v_iload_n 1 o dX6_words_1 rfl rfl ?_
        refine v_iload_n 2 o dX6_words_2 rfl rfl ?_
        refine v_callVr (v := .int (bI (isP σ (nI i) (nI j)))) [.int (nI i), .int (nI j)] [] o dX6_words_3 cw_X6_105 im_X6_isPage se_X6_isPage cf6 hR.o (m_isPage hl hR hI (nI i) (nI j)) rfl rfl (by decide) ⟨rfl, rfl⟩ (by decide) (Nat.le_of_ble_eq_true rfl) ?_
        refine v_top (bI true) (by rw [hP]) ?_
        refine v_istore [(5, .int (bI true)), (0, .ref m), (1, .int (nI i)), (2, .int (nI j)), (3, .int f), (4, .int t)] o dX6_words_6 (by decide) rfl ?_
        refine v_aload_n 1 o dX6_words_8 rfl rfl ?_
        refine v_iload 0 o dX6_words_9 rfl ?_
        refine v_if_ne_b 18 o dX6_words_11 (by decide) (fun c11 => ?_) (fun c11 => absurd c11 (by simp_all))
        refine v_iload_n 4 o dX6_words_18 rfl rfl ?_
        refine v_iconst 0 o dX6_words_19 rfl ?_
        refine v_bipush 99 o dX6_words_20 (by decide) ?_
        refine v_callSr (v := .int (bI (inR f (nI 0) (nI 99)))) [.int f, .int (nI 0), .int (nI 99)] [.ref m] o dX6_words_22 cw_X6_97 st_X6_in (m_in hl hR f (nI 0) (nI 99)) rfl rfl (by decide) ⟨rfl, rfl⟩ (by decide) (Nat.le_of_ble_eq_true rfl) ?_
        refine v_top (bI false) (by rw [hF]) ?_
        refine v_if_eq_b 43 o dX6_words_25 (by decide) (fun c25 => ?_) (fun c25 => absurd c25 (by simp_all))
        refine v_iconst 2 o dX6_words_43 rfl ?_
        refine v_callV [.int (nI 2)] [] o dX6_words_44 cw_X6_109 im_X6_goesWell se_X6_goesWell cf6 hR.o (m_goesWell hl hR 2 (by first | decide | omega)) rfl rfl (by decide) (by decide) (Nat.le_of_ble_eq_true rfl) ?_ (fun _ _ _ _ h => h.elim)
        rintro _ μ4 _ _ ⟨rfl, hR4, rfl⟩
        refine v_st [.int (bI false)] rfl ?_
        refine v_if_eq_b 75 o dX6_words_47 (by decide) (fun c47 => ?_) (fun c47 => absurd c47 (by simp_all))
        have e9 : sp_words σ (nI i) (nI j) f t = uN σ 3 1 2 := by simp [sp_words, th, hP, hF, hT, ti, tj]
        exact v_vret o dX6_words_75 hr (Nat.le_of_ble_eq_true rfl) (Nat.le_of_ble_eq_true rfl) (by rw [e9]; exact ⟨rfl, hR4, rfl⟩)
  | true =>
    cases hT : inR t (nI 0) (nI 99) with
    | false =>
      cases hP : isP σ b q with
      | false =>
        refine Ct.of hl (by decide +kernel) (Nat.le_of_ble_eq_true rfl) ?_
        intro p e s mi args below meth c o hnm hr hx
        have o : Ok p l s mi args meth c g cX6_words 6 RX6 := o
        refine v_lv [(0, .ref m), (1, .int b), (2, .int q), (3, .int f), (4, .int t)] rfl ?_
        refine v_aload_n 0 o dX6_words_0 rfl rfl ?_
        refine v_iload_n 1 o dX6_words_1 rfl rfl ?_
        refine v_iload_n 2 o dX6_words_2 rfl rfl ?_
        refine v_callVr (v := .int (bI (isP σ b q))) [.int b, .int q] [] o dX6_words_3 cw_X6_105 im_X6_isPage se_X6_isPage cf6 hR.o (m_isPage hl hR hI b q) rfl rfl (by decide) ⟨rfl, rfl⟩ (by decide) (Nat.le_of_ble_eq_true rfl) ?_
        refine v_top (bI false) (by rw [hP]) ?_
        refine v_istore [(5, .int (bI false)), (0, .ref m), (1, .int b), (2, .int q), (3, .int f), (4, .int t)] o dX6_words_6 (by decide) rfl ?_
        refine v_aload_n 1 o dX6_words_8 rfl rfl ?_
        refine v_iload 0 o dX6_words_9 rfl ?_
        refine v_if_ne_b 18 o dX6_words_11 (by decide) (fun c11 => absurd c11 (by simp_all)) (fun c11 => ?_)
        refine v_iconst 1 o dX6_words_14 rfl ?_
        refine v_goto 44 o dX6_words_15 (by decide) ?_
        refine v_callV [.int (nI 1)] [] o dX6_words_44 cw_X6_109 im_X6_goesWell se_X6_goesWell cf6 hR.o (m_goesWell hl hR 1 (by first | decide | omega)) rfl rfl (by decide) (by decide) (Nat.le_of_ble_eq_true rfl) ?_ (fun _ _ _ _ h => h.elim)
        rintro _ μ5 _ _ ⟨rfl, hR5, rfl⟩
        refine v_st [.int (bI false)] rfl ?_
        refine v_if_eq_b 75 o dX6_words_47 (by decide) (fun c47 => ?_) (fun c47 => absurd c47 (by simp_all))
        have e9 : sp_words σ b q f t = uN σ 3 1 1 := by simp [sp_words, th, hP, hF, hT]
        exact v_vret o dX6_words_75 hr (Nat.le_of_ble_eq_true rfl) (Nat.le_of_ble_eq_true rfl) (by rw [e9]; exact ⟨rfl, hR5, rfl⟩)
      | true =>
        obtain ⟨i, j, hi, hj, rfl, rfl⟩ := isP_t hI hP
        have h6 := hI.1
        have h12 := hI.2.1 i
        have ti : tn (nI i) = i := tn_nI (by omega)
        have tj : tn (nI j) = j := tn_nI (by omega)
        refine Ct.of hl (by decide +kernel) (Nat.le_of_ble_eq_true rfl) ?_
        intro p e s mi args below meth c o hnm hr hx
        have o : Ok p l s mi args meth c g cX6_words 6 RX6 := o
        refine v_lv [(0, .ref m), (1, .int (nI i)), (2, .int (nI j)), (3, .int f), (4, .int t)] rfl ?_
        refine v_aload_n 0 o dX6_words_0 rfl rfl ?_
        refine v_iload_n 1 o dX6_words_1 rfl rfl ?_
        refine v_iload_n 2 o dX6_words_2 rfl rfl ?_
        refine v_callVr (v := .int (bI (isP σ (nI i) (nI j)))) [.int (nI i), .int (nI j)] [] o dX6_words_3 cw_X6_105 im_X6_isPage se_X6_isPage cf6 hR.o (m_isPage hl hR hI (nI i) (nI j)) rfl rfl (by decide) ⟨rfl, rfl⟩ (by decide) (Nat.le_of_ble_eq_true rfl) ?_
        refine v_top (bI true) (by rw [hP]) ?_
        refine v_istore [(5, .int (bI true)), (0, .ref m), (1, .int (nI i)), (2, .int (nI j)), (3, .int f), (4, .int t)] o dX6_words_6 (by decide) rfl ?_
        refine v_aload_n 1 o dX6_words_8 rfl rfl ?_
        refine v_iload 0 o dX6_words_9 rfl ?_
        refine v_if_ne_b 18 o dX6_words_11 (by decide) (fun c11 => ?_) (fun c11 => absurd c11 (by simp_all))
        refine v_iload_n 4 o dX6_words_18 rfl rfl ?_
        refine v_iconst 0 o dX6_words_19 rfl ?_
        refine v_bipush 99 o dX6_words_20 (by decide) ?_
        refine v_callSr (v := .int (bI (inR f (nI 0) (nI 99)))) [.int f, .int (nI 0), .int (nI 99)] [.ref m] o dX6_words_22 cw_X6_97 st_X6_in (m_in hl hR f (nI 0) (nI 99)) rfl rfl (by decide) ⟨rfl, rfl⟩ (by decide) (Nat.le_of_ble_eq_true rfl) ?_
        refine v_top (bI true) (by rw [hF]) ?_
        refine v_if_eq_b 43 o dX6_words_25 (by decide) (fun c25 => absurd c25 (by simp_all)) (fun c25 => ?_)
        refine v_iload 5 o dX6_words_28 rfl ?_
        refine v_iconst 0 o dX6_words_30 rfl ?_
        refine v_bipush 99 o dX6_words_31 (by decide) ?_
        refine v_callSr (v := .int (bI (inR t (nI 0) (nI 99)))) [.int t, .int (nI 0), .int (nI 99)] [.ref m] o dX6_words_33 cw_X6_97 st_X6_in (m_in hl hR t (nI 0) (nI 99)) rfl rfl (by decide) ⟨rfl, rfl⟩ (by decide) (Nat.le_of_ble_eq_true rfl) ?_
        refine v_top (bI false) (by rw [hT]) ?_
        refine v_if_eq_b 43 o dX6_words_36 (by decide) (fun c36 => ?_) (fun c36 => absurd c36 (by simp_all))
        refine v_iconst 2 o dX6_words_43 rfl ?_
        refine v_callV [.int (nI 2)] [] o dX6_words_44 cw_X6_109 im_X6_goesWell se_X6_goesWell cf6 hR.o (m_goesWell hl hR 2 (by first | decide | omega)) rfl rfl (by decide) (by decide) (Nat.le_of_ble_eq_true rfl) ?_ (fun _ _ _ _ h => h.elim)
        rintro _ μ6 _ _ ⟨rfl, hR6, rfl⟩
        refine v_st [.int (bI false)] rfl ?_
        refine v_if_eq_b 75 o dX6_words_47 (by decide) (fun c47 => ?_) (fun c47 => absurd c47 (by simp_all))
        have e9 : sp_words σ (nI i) (nI j) f t = uN σ 3 1 2 := by simp [sp_words, th, hP, hF, hT, ti, tj]
        exact v_vret o dX6_words_75 hr (Nat.le_of_ble_eq_true rfl) (Nat.le_of_ble_eq_true rfl) (by rw [e9]; exact ⟨rfl, hR6, rfl⟩)
    | true =>
      cases hP : isP σ b q with
      | false =>
        refine Ct.of hl (by decide +kernel) (Nat.le_of_ble_eq_true rfl) ?_
        intro p e s mi args below meth c o hnm hr hx
        have o : Ok p l s mi args meth c g cX6_words 6 RX6 := o
        refine v_lv [(0, .ref m), (1, .int b), (2, .int q), (3, .int f), (4, .int t)] rfl ?_
        refine v_aload_n 0 o dX6_words_0 rfl rfl ?_
        refine v_iload_n 1 o dX6_words_1 rfl rfl ?_
        refine v_iload_n 2 o dX6_words_2 rfl rfl ?_
        refine v_callVr (v := .int (bI (isP σ b q))) [.int b, .int q] [] o dX6_words_3 cw_X6_105 im_X6_isPage se_X6_isPage cf6 hR.o (m_isPage hl hR hI b q) rfl rfl (by decide) ⟨rfl, rfl⟩ (by decide) (Nat.le_of_ble_eq_true rfl) ?_
        refine v_top (bI false) (by rw [hP]) ?_
        refine v_istore [(5, .int (bI false)), (0, .ref m), (1, .int b), (2, .int q), (3, .int f), (4, .int t)] o dX6_words_6 (by decide) rfl ?_
        refine v_aload_n 1 o dX6_words_8 rfl rfl ?_
        refine v_iload 0 o dX6_words_9 rfl ?_
        refine v_if_ne_b 18 o dX6_words_11 (by decide) (fun c11 => absurd c11 (by simp_all)) (fun c11 => ?_)
        refine v_iconst 1 o dX6_words_14 rfl ?_
        refine v_goto 44 o dX6_words_15 (by decide) ?_
        refine v_callV [.int (nI 1)] [] o dX6_words_44 cw_X6_109 im_X6_goesWell se_X6_goesWell cf6 hR.o (m_goesWell hl hR 1 (by first | decide | omega)) rfl rfl (by decide) (by decide) (Nat.le_of_ble_eq_true rfl) ?_ (fun _ _ _ _ h => h.elim)
        rintro _ μ7 _ _ ⟨rfl, hR7, rfl⟩
        refine v_st [.int (bI false)] rfl ?_
        refine v_if_eq_b 75 o dX6_words_47 (by decide) (fun c47 => ?_) (fun c47 => absurd c47 (by simp_all))
        have e9 : sp_words σ b q f t = uN σ 3 1 1 := by simp [sp_words, th, hP, hF, hT]
        exact v_vret o dX6_words_75 hr (Nat.le_of_ble_eq_true rfl) (Nat.le_of_ble_eq_true rfl) (by rw [e9]; exact ⟨rfl, hR7, rfl⟩)
      | true =>
        obtain ⟨i, j, hi, hj, rfl, rfl⟩ := isP_t hI hP
        have h6 := hI.1
        have h12 := hI.2.1 i
        have ti : tn (nI i) = i := tn_nI (by omega)
        have tj : tn (nI j) = j := tn_nI (by omega)
        refine Ct.of hl (by decide +kernel) (Nat.le_of_ble_eq_true rfl) ?_
        intro p e s mi args below meth c o hnm hr hx
        have o : Ok p l s mi args meth c g cX6_words 6 RX6 := o
        refine v_lv [(0, .ref m), (1, .int (nI i)), (2, .int (nI j)), (3, .int f), (4, .int t)] rfl ?_
        refine v_aload_n 0 o dX6_words_0 rfl rfl ?_
        refine v_iload_n 1 o dX6_words_1 rfl rfl ?_
        refine v_iload_n 2 o dX6_words_2 rfl rfl ?_
        refine v_callVr (v := .int (bI (isP σ (nI i) (nI j)))) [.int (nI i), .int (nI j)] [] o dX6_words_3 cw_X6_105 im_X6_isPage se_X6_isPage cf6 hR.o (m_isPage hl hR hI (nI i) (nI j)) rfl rfl (by decide) ⟨rfl, rfl⟩ (by decide) (Nat.le_of_ble_eq_true rfl) ?_
        refine v_top (bI true) (by rw [hP]) ?_
        refine v_istore [(5, .int (bI true)), (0, .ref m), (1, .int (nI i)), (2, .int (nI j)), (3, .int f), (4, .int t)] o dX6_words_6 (by decide) rfl ?_
        refine v_aload_n 1 o dX6_words_8 rfl rfl ?_
        refine v_iload 0 o dX6_words_9 rfl ?_
        refine v_if_ne_b 18 o dX6_words_11 (by decide) (fun c11 => ?_) (fun c11 => absurd c11 (by simp_all))
        refine v_iload_n 4 o dX6_words_18 rfl rfl ?_
        refine v_iconst 0 o dX6_words_19 rfl ?_
        refine v_bipush 99 o dX6_words_20 (by decide) ?_
        refine v_callSr (v := .int (bI (inR f (nI 0) (nI 99)))) [.int f, .int (nI 0), .int (nI 99)] [.ref m] o dX6_words_22 cw_X6_97 st_X6_in (m_in hl hR f (nI 0) (nI 99)) rfl rfl (by decide) ⟨rfl, rfl⟩ (by decide) (Nat.le_of_ble_eq_true rfl) ?_
        refine v_top (bI true) (by rw [hF]) ?_
        refine v_if_eq_b 43 o dX6_words_25 (by decide) (fun c25 => absurd c25 (by simp_all)) (fun c25 => ?_)
        refine v_iload 5 o dX6_words_28 rfl ?_
        refine v_iconst 0 o dX6_words_30 rfl ?_
        refine v_bipush 99 o dX6_words_31 (by decide) ?_
        refine v_callSr (v := .int (bI (inR t (nI 0) (nI 99)))) [.int t, .int (nI 0), .int (nI 99)] [.ref m] o dX6_words_33 cw_X6_97 st_X6_in (m_in hl hR t (nI 0) (nI 99)) rfl rfl (by decide) ⟨rfl, rfl⟩ (by decide) (Nat.le_of_ble_eq_true rfl) ?_
        refine v_top (bI true) (by rw [hT]) ?_
        refine v_if_eq_b 43 o dX6_words_36 (by decide) (fun c36 => absurd c36 (by simp_all)) (fun c36 => ?_)
        refine v_iconst 0 o dX6_words_39 rfl ?_
        refine v_goto 44 o dX6_words_40 (by decide) ?_
        refine v_callV [.int (nI 0)] [] o dX6_words_44 cw_X6_109 im_X6_goesWell se_X6_goesWell cf6 hR.o (m_goesWell hl hR 0 (by first | decide | omega)) rfl rfl (by decide) (by decide) (Nat.le_of_ble_eq_true rfl) ?_ (fun _ _ _ _ h => h.elim)
        rintro _ μ8 _ _ ⟨rfl, hR8, rfl⟩
        refine v_st [.int (bI true)] rfl ?_
        refine v_if_eq_b 75 o dX6_words_47 (by decide) (fun c47 => absurd c47 (by simp_all)) (fun c47 => ?_)
        refine v_aload_n 1 o dX6_words_50 rfl rfl ?_
        refine v_get (v := .ref (m + 13)) o dX6_words_51 cf6 15 (by decide) fl_X6_48 hR8.o rfl ?_
        refine v_bipush 12 o dX6_words_54 (by decide) ?_
        refine v_iload_n 2 o dX6_words_56 rfl rfl ?_
        refine v_imul (nI (12 * i)) o dX6_words_57 (pk_mul 12 i) ?_
        refine v_iload_n 3 o dX6_words_58 rfl rfl ?_
        refine v_iadd (nI (12 * i + j)) o dX6_words_59 (nI_add (12 * i) j) ?_
        refine v_iload_n 4 o dX6_words_60 rfl rfl ?_
        refine v_iast o dX6_words_61 (by omega) (by decide) hR8.a13 (fun μ9 e9 => ?_)
        have hR9 := hR8.p13 (i0 := 12 * i + j) (v := f) e9
        refine v_aload_n 1 o dX6_words_62 rfl rfl ?_
        refine v_get (v := .ref (m + 14)) o dX6_words_63 cf6 16 (by decide) fl_X6_51 hR9.o rfl ?_
        refine v_bipush 12 o dX6_words_66 (by decide) ?_
        refine v_iload_n 2 o dX6_words_68 rfl rfl ?_
        refine v_imul (nI (12 * i)) o dX6_words_69 (pk_mul 12 i) ?_
        refine v_iload_n 3 o dX6_words_70 rfl rfl ?_
        refine v_iadd (nI (12 * i + j)) o dX6_words_71 (nI_add (12 * i) j) ?_
        refine v_iload 5 o dX6_words_72 rfl ?_
        refine v_iast o dX6_words_74 (by omega) (by decide) hR9.a14 (fun μ10 e10 => ?_)
        have hR10 := hR9.p14 (i0 := 12 * i + j) (v := t) e10
        have e9 : sp_words σ (nI i) (nI j) f t = uI (uI (uN σ 3 1 0) 5 (12 * i + j) f) 6 (12 * i + j) t := by simp [sp_words, th, hP, hF, hT, ti, tj]
        exact v_vret o dX6_words_75 hr (Nat.le_of_ble_eq_true rfl) (Nat.le_of_ble_eq_true rfl) (by rw [e9]; exact ⟨rfl, hR10, rfl⟩)

set_option maxRecDepth 100000 in
set_option maxHeartbeats 4000000 in
theorem m_gold {l : Launch} (hl : l.stackTraces = false) {g : mG} {m z : Nat} {μ0 μ : mM} {σ : Sg} (hR : RM g m μ0 σ μ) (hI : Inv σ) (b q a x : Int32) : Ct l g yX6_gold [Cond.code yX6_gold cX6_gold 7 (some .int)] { frames := 4, cells := 0, slots := 0, locals := 88 } [.ref m, .int b, .int q, .int a, .int x] μ z (wrM g m μ0 (some (.int (sp_gold σ b q a x).1)) (sp_gold σ b q a x).2 z) noX := by
  cases hL : isL σ b q a with
  | false =>
    refine Ct.of hl (by decide +kernel) (Nat.le_of_ble_eq_true rfl) ?_
    intro p e s mi args below meth c o hnm hr hx
    have o : Ok p l s mi args meth c g cX6_gold 7 RX6 := o
    refine v_lv [(0, .ref m), (1, .int b), (2, .int q), (3, .int a), (4, .int x)] rfl ?_
    refine v_aload_n 0 o dX6_gold_0 rfl rfl ?_
    refine v_iload_n 1 o dX6_gold_1 rfl rfl ?_
    refine v_iload_n 2 o dX6_gold_2 rfl rfl ?_
    refine v_iload_n 3 o dX6_gold_3 rfl rfl ?_
    refine v_callVr (v := .int (bI (isL σ b q a))) [.int b, .int q, .int a] [] o dX6_gold_4 cw_X6_158 im_X6_isPlace se_X6_isPlace cf6 hR.o (m_isPlace hl hR hI b q a) rfl rfl (by decide) ⟨rfl, rfl⟩ (by decide) (Nat.le_of_ble_eq_true rfl) ?_
    refine v_top (bI false) (by rw [hL]) ?_
    refine v_istore [(5, .int (bI false)), (0, .ref m), (1, .int b), (2, .int q), (3, .int a), (4, .int x)] o dX6_gold_7 (by decide) rfl ?_
    refine v_aload_n 1 o dX6_gold_9 rfl rfl ?_
    refine v_iload 0 o dX6_gold_10 rfl ?_
    refine v_if_ne_b 19 o dX6_gold_12 (by decide) (fun c12 => absurd c12 (by simp_all)) (fun c12 => ?_)
    refine v_iconst 1 o dX6_gold_15 rfl ?_
    refine v_goto 35 o dX6_gold_16 (by decide) ?_
    refine v_callV [.int (nI 1)] [] o dX6_gold_35 cw_X6_109 im_X6_goesWell se_X6_goesWell cf6 hR.o (m_goesWell hl hR 1 (by first | decide | omega)) rfl rfl (by decide) (by decide) (Nat.le_of_ble_eq_true rfl) ?_ (fun _ _ _ _ h => h.elim)
    rintro _ μ1 _ _ ⟨rfl, hR1, rfl⟩
    refine v_st [.int (bI false)] rfl ?_
    refine v_if_ne_b 43 o dX6_gold_38 (by decide) (fun c38 => absurd c38 (by simp_all)) (fun c38 => ?_)
    refine v_iconst 0 o dX6_gold_41 rfl ?_
    have e9 : sp_gold σ b q a x = (nI 0, uN σ 3 1 1) := by simp [sp_gold, th, hL]
    exact v_iret o dX6_gold_42 hr (Nat.le_of_ble_eq_true rfl) (Nat.le_of_ble_eq_true rfl) (by rw [e9]; exact ⟨rfl, hR1, rfl⟩)
  | true =>
    cases hX : inR x (nI 0) (nI 25) with
    | false =>
      obtain ⟨i, j, k, hi, hj, hk, rfl, rfl, rfl⟩ := isL_t hI hL
      have h6 := hI.1
      have h12 := hI.2.1 i
      have ti : tn (nI i) = i := tn_nI (by omega)
      have tj : tn (nI j) = j := tn_nI (by omega)
      have tk : tn (nI k) = k := tn_nI (by omega)
      refine Ct.of hl (by decide +kernel) (Nat.le_of_ble_eq_true rfl) ?_
      intro p e s mi args below meth c o hnm hr hx
      have o : Ok p l s mi args meth c g cX6_gold 7 RX6 := o
      refine v_lv [(0, .ref m), (1, .int (nI i)), (2, .int (nI j)), (3, .int (nI k)), (4, .int x)] rfl ?_
      refine v_aload_n 0 o dX6_gold_0 rfl rfl ?_
      refine v_iload_n 1 o dX6_gold_1 rfl rfl ?_
      refine v_iload_n 2 o dX6_gold_2 rfl rfl ?_
      refine v_iload_n 3 o dX6_gold_3 rfl rfl ?_
      refine v_callVr (v := .int (bI (isL σ (nI i) (nI j) (nI k)))) [.int (nI i), .int (nI j), .int (nI k)] [] o dX6_gold_4 cw_X6_158 im_X6_isPlace se_X6_isPlace cf6 hR.o (m_isPlace hl hR hI (nI i) (nI j) (nI k)) rfl rfl (by decide) ⟨rfl, rfl⟩ (by decide) (Nat.le_of_ble_eq_true rfl) ?_
      refine v_top (bI true) (by rw [hL]) ?_
      refine v_istore [(5, .int (bI true)), (0, .ref m), (1, .int (nI i)), (2, .int (nI j)), (3, .int (nI k)), (4, .int x)] o dX6_gold_7 (by decide) rfl ?_
      refine v_aload_n 1 o dX6_gold_9 rfl rfl ?_
      refine v_iload 0 o dX6_gold_10 rfl ?_
      refine v_if_ne_b 19 o dX6_gold_12 (by decide) (fun c12 => ?_) (fun c12 => absurd c12 (by simp_all))
      refine v_iload 5 o dX6_gold_19 rfl ?_
      refine v_iconst 0 o dX6_gold_21 rfl ?_
      refine v_bipush 25 o dX6_gold_22 (by decide) ?_
      refine v_callSr (v := .int (bI (inR x (nI 0) (nI 25)))) [.int x, .int (nI 0), .int (nI 25)] [.ref m] o dX6_gold_24 cw_X6_97 st_X6_in (m_in hl hR x (nI 0) (nI 25)) rfl rfl (by decide) ⟨rfl, rfl⟩ (by decide) (Nat.le_of_ble_eq_true rfl) ?_
      refine v_top (bI false) (by rw [hX]) ?_
      refine v_if_eq_b 34 o dX6_gold_27 (by decide) (fun c27 => ?_) (fun c27 => absurd c27 (by simp_all))
      refine v_iconst 2 o dX6_gold_34 rfl ?_
      refine v_callV [.int (nI 2)] [] o dX6_gold_35 cw_X6_109 im_X6_goesWell se_X6_goesWell cf6 hR.o (m_goesWell hl hR 2 (by first | decide | omega)) rfl rfl (by decide) (by decide) (Nat.le_of_ble_eq_true rfl) ?_ (fun _ _ _ _ h => h.elim)
      rintro _ μ2 _ _ ⟨rfl, hR2, rfl⟩
      refine v_st [.int (bI false)] rfl ?_
      refine v_if_ne_b 43 o dX6_gold_38 (by decide) (fun c38 => absurd c38 (by simp_all)) (fun c38 => ?_)
      refine v_iconst 0 o dX6_gold_41 rfl ?_
      have e9 : sp_gold σ (nI i) (nI j) (nI k) x = (nI 0, uN σ 3 1 2) := by simp [sp_gold, th, hL, hX, ti, tj, tk, spot]
      exact v_iret o dX6_gold_42 hr (Nat.le_of_ble_eq_true rfl) (Nat.le_of_ble_eq_true rfl) (by rw [e9]; exact ⟨rfl, hR2, rfl⟩)
    | true =>
      obtain ⟨i, j, k, hi, hj, hk, rfl, rfl, rfl⟩ := isL_t hI hL
      have h6 := hI.1
      have h12 := hI.2.1 i
      have ti : tn (nI i) = i := tn_nI (by omega)
      have tj : tn (nI j) = j := tn_nI (by omega)
      have tk : tn (nI k) = k := tn_nI (by omega)
      obtain ⟨w, hwa, hwb, rfl⟩ := inR_nat (a := 0) (b := 25) hX (by decide) (by decide)
      have tw : tn (nI w) = w := tn_nI (by omega)
      refine Ct.of hl (by decide +kernel) (Nat.le_of_ble_eq_true rfl) ?_
      intro p e s mi args below meth c o hnm hr hx
      have o : Ok p l s mi args meth c g cX6_gold 7 RX6 := o
      refine v_lv [(0, .ref m), (1, .int (nI i)), (2, .int (nI j)), (3, .int (nI k)), (4, .int (nI w))] rfl ?_
      refine v_aload_n 0 o dX6_gold_0 rfl rfl ?_
      refine v_iload_n 1 o dX6_gold_1 rfl rfl ?_
      refine v_iload_n 2 o dX6_gold_2 rfl rfl ?_
      refine v_iload_n 3 o dX6_gold_3 rfl rfl ?_
      refine v_callVr (v := .int (bI (isL σ (nI i) (nI j) (nI k)))) [.int (nI i), .int (nI j), .int (nI k)] [] o dX6_gold_4 cw_X6_158 im_X6_isPlace se_X6_isPlace cf6 hR.o (m_isPlace hl hR hI (nI i) (nI j) (nI k)) rfl rfl (by decide) ⟨rfl, rfl⟩ (by decide) (Nat.le_of_ble_eq_true rfl) ?_
      refine v_top (bI true) (by rw [hL]) ?_
      refine v_istore [(5, .int (bI true)), (0, .ref m), (1, .int (nI i)), (2, .int (nI j)), (3, .int (nI k)), (4, .int (nI w))] o dX6_gold_7 (by decide) rfl ?_
      refine v_aload_n 1 o dX6_gold_9 rfl rfl ?_
      refine v_iload 0 o dX6_gold_10 rfl ?_
      refine v_if_ne_b 19 o dX6_gold_12 (by decide) (fun c12 => ?_) (fun c12 => absurd c12 (by simp_all))
      refine v_iload 5 o dX6_gold_19 rfl ?_
      refine v_iconst 0 o dX6_gold_21 rfl ?_
      refine v_bipush 25 o dX6_gold_22 (by decide) ?_
      refine v_callSr (v := .int (bI (inR (nI w) (nI 0) (nI 25)))) [.int (nI w), .int (nI 0), .int (nI 25)] [.ref m] o dX6_gold_24 cw_X6_97 st_X6_in (m_in hl hR (nI w) (nI 0) (nI 25)) rfl rfl (by decide) ⟨rfl, rfl⟩ (by decide) (Nat.le_of_ble_eq_true rfl) ?_
      refine v_top (bI true) (by rw [hX]) ?_
      refine v_if_eq_b 34 o dX6_gold_27 (by decide) (fun c27 => absurd c27 (by simp_all)) (fun c27 => ?_)
      refine v_iconst 0 o dX6_gold_30 rfl ?_
      refine v_goto 35 o dX6_gold_31 (by decide) ?_
      refine v_callV [.int (nI 0)] [] o dX6_gold_35 cw_X6_109 im_X6_goesWell se_X6_goesWell cf6 hR.o (m_goesWell hl hR 0 (by first | decide | omega)) rfl rfl (by decide) (by decide) (Nat.le_of_ble_eq_true rfl) ?_ (fun _ _ _ _ h => h.elim)
      rintro _ μ3 _ _ ⟨rfl, hR3, rfl⟩
      refine v_st [.int (bI true)] rfl ?_
      refine v_if_ne_b 43 o dX6_gold_38 (by decide) (fun c38 => ?_) (fun c38 => absurd c38 (by simp_all))
      refine v_aload_n 1 o dX6_gold_43 rfl rfl ?_
      refine v_get (v := .ref (m + 21)) o dX6_gold_44 cf6 24 (by decide) fl_X6_72 hR3.o rfl ?_
      refine v_iload_n 2 o dX6_gold_47 rfl rfl ?_
      refine v_iload_n 3 o dX6_gold_48 rfl rfl ?_
      refine v_iload_n 4 o dX6_gold_49 rfl rfl ?_
      refine v_callSr (v := .int (nI (4 * (12 * i + j) + k))) [.int (nI i), .int (nI j), .int (nI k)] [.ref (m + 21)] o dX6_gold_50 cw_X6_161 st_X6_spot (m_spot hl hR3 i j k) rfl rfl (by decide) ⟨rfl, rfl⟩ (by decide) (Nat.le_of_ble_eq_true rfl) ?_
      refine v_iald (nI (σ.1 1 (4 * (12 * i + j) + k))) o dX6_gold_53 (by omega) (by decide) hR3.a21 rfl ?_
      refine v_istore [(6, .int (nI (σ.1 1 (4 * (12 * i + j) + k)))), (5, .int (bI true)), (0, .ref m), (1, .int (nI i)), (2, .int (nI j)), (3, .int (nI k)), (4, .int (nI w))] o dX6_gold_54 (by decide) rfl ?_
      refine v_aload_n 2 o dX6_gold_56 rfl rfl ?_
      refine v_get (v := .ref (m + 21)) o dX6_gold_57 cf6 24 (by decide) fl_X6_72 hR3.o rfl ?_
      refine v_iload_n 3 o dX6_gold_60 rfl rfl ?_
      refine v_iload_n 4 o dX6_gold_61 rfl rfl ?_
      refine v_iload_n 5 o dX6_gold_62 rfl rfl ?_
      refine v_callSr (v := .int (nI (4 * (12 * i + j) + k))) [.int (nI i), .int (nI j), .int (nI k)] [.ref (m + 21)] o dX6_gold_63 cw_X6_161 st_X6_spot (m_spot hl hR3 i j k) rfl rfl (by decide) ⟨rfl, rfl⟩ (by decide) (Nat.le_of_ble_eq_true rfl) ?_
      refine v_iload 6 o dX6_gold_66 rfl ?_
      refine v_iconst 1 o dX6_gold_68 rfl ?_
      refine v_iadd (nI (w + 1)) o dX6_gold_69 (nI_add w 1) ?_
      refine v_iast o dX6_gold_70 (by omega) (by decide) hR3.a21 (fun μ4 e4 => ?_)
      have hR4 := hR3.p21 (i0 := 4 * (12 * i + j) + k) (v := w + 1) e4
      refine v_iload 0 o dX6_gold_71 rfl ?_
      refine v_iconst 1 o dX6_gold_73 rfl ?_
      refine v_isub (mI (σ.1 1 (4 * (12 * i + j) + k))) o dX6_gold_74 rfl ?_
      have e9 : sp_gold σ (nI i) (nI j) (nI k) (nI w) = (mI (σ.1 1 (4 * (12 * i + j) + k)), uN (uN σ 3 1 0) 1 (4 * (12 * i + j) + k) (w + 1)) := by simp [sp_gold, th, hL, hX, ti, tj, tk, tw, spot]
      exact v_iret o dX6_gold_75 hr (Nat.le_of_ble_eq_true rfl) (Nat.le_of_ble_eq_true rfl) (by rw [e9]; exact ⟨rfl, hR4, rfl⟩)

set_option maxRecDepth 100000 in
set_option maxHeartbeats 4000000 in
theorem m_key {l : Launch} (hl : l.stackTraces = false) {g : mG} {m z : Nat} {μ0 μ : mM} {σ : Sg} (hR : RM g m μ0 σ μ) (hI : Inv σ) (y b q a x : Int32) : Ct l g yX6_key [Cond.code yX6_key cX6_key 9 (some .int)] { frames := 4, cells := 0, slots := 0, locals := 88 } [.ref m, .int y, .int b, .int q, .int a, .int x] μ z (wrM g m μ0 (some (.int (sp_key σ y b q a x).1)) (sp_key σ y b q a x).2 z) noX := by
  cases hY : inR y (nI 0) (nI 4) with
  | false =>
    refine Ct.of hl (by decide +kernel) (Nat.le_of_ble_eq_true rfl) ?_
    intro p e s mi args below meth c o hnm hr hx
    have o : Ok p l s mi args meth c g cX6_key 9 RX6 := o
    refine v_lv [(0, .ref m), (1, .int y), (2, .int b), (3, .int q), (4, .int a), (5, .int x)] rfl ?_
    refine v_iload_n 1 o dX6_key_0 rfl rfl ?_
    refine v_iconst 0 o dX6_key_1 rfl ?_
    refine v_iconst 4 o dX6_key_2 rfl ?_
    refine v_callSr (v := .int (bI (inR y (nI 0) (nI 4)))) [.int y, .int (nI 0), .int (nI 4)] [] o dX6_key_3 cw_X6_97 st_X6_in (m_in hl hR y (nI 0) (nI 4)) rfl rfl (by decide) ⟨rfl, rfl⟩ (by decide) (Nat.le_of_ble_eq_true rfl) ?_
    refine v_top (bI false) (by rw [hY]) ?_
    refine v_if_eq_b 24 o dX6_key_6 (by decide) (fun c6 => ?_) (fun c6 => absurd c6 (by simp_all))
    refine v_iconst 0 o dX6_key_24 rfl ?_
    refine v_istore [(6, .int (nI 0)), (0, .ref m), (1, .int y), (2, .int b), (3, .int q), (4, .int a), (5, .int x)] o dX6_key_25 (by decide) rfl ?_
    refine v_aload_n 1 o dX6_key_27 rfl rfl ?_
    refine v_iload 0 o dX6_key_28 rfl ?_
    refine v_if_ne_n 37 o dX6_key_30 (by decide) (by decide) (fun c30 => absurd c30 (by omega)) (fun c30 => ?_)
    refine v_iconst 1 o dX6_key_33 rfl ?_
    refine v_goto 53 o dX6_key_34 (by decide) ?_
    refine v_callV [.int (nI 1)] [] o dX6_key_53 cw_X6_109 im_X6_goesWell se_X6_goesWell cf6 hR.o (m_goesWell hl hR 1 (by first | decide | omega)) rfl rfl (by decide) (by decide) (Nat.le_of_ble_eq_true rfl) ?_ (fun _ _ _ _ h => h.elim)
    rintro _ μ1 _ _ ⟨rfl, hR1, rfl⟩
    refine v_st [.int (bI false)] rfl ?_
    refine v_if_ne_b 61 o dX6_key_56 (by decide) (fun c56 => absurd c56 (by simp_all)) (fun c56 => ?_)
    refine v_iconst 0 o dX6_key_59 rfl ?_
    have e9 : sp_key σ y b q a x = (nI 0, uN σ 3 1 1) := by simp [sp_key, th, hY]
    exact v_iret o dX6_key_60 hr (Nat.le_of_ble_eq_true rfl) (Nat.le_of_ble_eq_true rfl) (by rw [e9]; exact ⟨rfl, hR1, rfl⟩)
  | true =>
    cases hL : isL σ b q a with
    | false =>
      refine Ct.of hl (by decide +kernel) (Nat.le_of_ble_eq_true rfl) ?_
      intro p e s mi args below meth c o hnm hr hx
      have o : Ok p l s mi args meth c g cX6_key 9 RX6 := o
      refine v_lv [(0, .ref m), (1, .int y), (2, .int b), (3, .int q), (4, .int a), (5, .int x)] rfl ?_
      refine v_iload_n 1 o dX6_key_0 rfl rfl ?_
      refine v_iconst 0 o dX6_key_1 rfl ?_
      refine v_iconst 4 o dX6_key_2 rfl ?_
      refine v_callSr (v := .int (bI (inR y (nI 0) (nI 4)))) [.int y, .int (nI 0), .int (nI 4)] [] o dX6_key_3 cw_X6_97 st_X6_in (m_in hl hR y (nI 0) (nI 4)) rfl rfl (by decide) ⟨rfl, rfl⟩ (by decide) (Nat.le_of_ble_eq_true rfl) ?_
      refine v_top (bI true) (by rw [hY]) ?_
      refine v_if_eq_b 24 o dX6_key_6 (by decide) (fun c6 => absurd c6 (by simp_all)) (fun c6 => ?_)
      refine v_aload_n 0 o dX6_key_9 rfl rfl ?_
      refine v_iload_n 2 o dX6_key_10 rfl rfl ?_
      refine v_iload_n 3 o dX6_key_11 rfl rfl ?_
      refine v_iload 4 o dX6_key_12 rfl ?_
      refine v_callVr (v := .int (bI (isL σ b q a))) [.int b, .int q, .int a] [] o dX6_key_14 cw_X6_158 im_X6_isPlace se_X6_isPlace cf6 hR.o (m_isPlace hl hR hI b q a) rfl rfl (by decide) ⟨rfl, rfl⟩ (by decide) (Nat.le_of_ble_eq_true rfl) ?_
      refine v_top (bI false) (by rw [hL]) ?_
      refine v_if_eq_b 24 o dX6_key_17 (by decide) (fun c17 => ?_) (fun c17 => absurd c17 (by simp_all))
      refine v_iconst 0 o dX6_key_24 rfl ?_
      refine v_istore [(6, .int (nI 0)), (0, .ref m), (1, .int y), (2, .int b), (3, .int q), (4, .int a), (5, .int x)] o dX6_key_25 (by decide) rfl ?_
      refine v_aload_n 1 o dX6_key_27 rfl rfl ?_
      refine v_iload 0 o dX6_key_28 rfl ?_
      refine v_if_ne_n 37 o dX6_key_30 (by decide) (by decide) (fun c30 => absurd c30 (by omega)) (fun c30 => ?_)
      refine v_iconst 1 o dX6_key_33 rfl ?_
      refine v_goto 53 o dX6_key_34 (by decide) ?_
      refine v_callV [.int (nI 1)] [] o dX6_key_53 cw_X6_109 im_X6_goesWell se_X6_goesWell cf6 hR.o (m_goesWell hl hR 1 (by first | decide | omega)) rfl rfl (by decide) (by decide) (Nat.le_of_ble_eq_true rfl) ?_ (fun _ _ _ _ h => h.elim)
      rintro _ μ2 _ _ ⟨rfl, hR2, rfl⟩
      refine v_st [.int (bI false)] rfl ?_
      refine v_if_ne_b 61 o dX6_key_56 (by decide) (fun c56 => absurd c56 (by simp_all)) (fun c56 => ?_)
      refine v_iconst 0 o dX6_key_59 rfl ?_
      have e9 : sp_key σ y b q a x = (nI 0, uN σ 3 1 1) := by simp [sp_key, th, hY, hL]
      exact v_iret o dX6_key_60 hr (Nat.le_of_ble_eq_true rfl) (Nat.le_of_ble_eq_true rfl) (by rw [e9]; exact ⟨rfl, hR2, rfl⟩)
    | true =>
      cases hX : inR x (nI 0) (nI 25) with
      | false =>
        obtain ⟨i, j, k, hi, hj, hk, rfl, rfl, rfl⟩ := isL_t hI hL
        have h6 := hI.1
        have h12 := hI.2.1 i
        have ti : tn (nI i) = i := tn_nI (by omega)
        have tj : tn (nI j) = j := tn_nI (by omega)
        have tk : tn (nI k) = k := tn_nI (by omega)
        obtain ⟨u, hua, hub, rfl⟩ := inR_nat (a := 0) (b := 4) hY (by decide) (by decide)
        have tu : tn (nI u) = u := tn_nI (by omega)
        refine Ct.of hl (by decide +kernel) (Nat.le_of_ble_eq_true rfl) ?_
        intro p e s mi args below meth c o hnm hr hx
        have o : Ok p l s mi args meth c g cX6_key 9 RX6 := o
        refine v_lv [(0, .ref m), (1, .int (nI u)), (2, .int (nI i)), (3, .int (nI j)), (4, .int (nI k)), (5, .int x)] rfl ?_
        refine v_iload_n 1 o dX6_key_0 rfl rfl ?_
        refine v_iconst 0 o dX6_key_1 rfl ?_
        refine v_iconst 4 o dX6_key_2 rfl ?_
        refine v_callSr (v := .int (bI (inR (nI u) (nI 0) (nI 4)))) [.int (nI u), .int (nI 0), .int (nI 4)] [] o dX6_key_3 cw_X6_97 st_X6_in (m_in hl hR (nI u) (nI 0) (nI 4)) rfl rfl (by decide) ⟨rfl, rfl⟩ (by decide) (Nat.le_of_ble_eq_true rfl) ?_
        refine v_top (bI true) (by rw [hY]) ?_
        refine v_if_eq_b 24 o dX6_key_6 (by decide) (fun c6 => absurd c6 (by simp_all)) (fun c6 => ?_)
        refine v_aload_n 0 o dX6_key_9 rfl rfl ?_
        refine v_iload_n 2 o dX6_key_10 rfl rfl ?_
        refine v_iload_n 3 o dX6_key_11 rfl rfl ?_
        refine v_iload 4 o dX6_key_12 rfl ?_
        refine v_callVr (v := .int (bI (isL σ (nI i) (nI j) (nI k)))) [.int (nI i), .int (nI j), .int (nI k)] [] o dX6_key_14 cw_X6_158 im_X6_isPlace se_X6_isPlace cf6 hR.o (m_isPlace hl hR hI (nI i) (nI j) (nI k)) rfl rfl (by decide) ⟨rfl, rfl⟩ (by decide) (Nat.le_of_ble_eq_true rfl) ?_
        refine v_top (bI true) (by rw [hL]) ?_
        refine v_if_eq_b 24 o dX6_key_17 (by decide) (fun c17 => absurd c17 (by simp_all)) (fun c17 => ?_)
        refine v_iconst 1 o dX6_key_20 rfl ?_
        refine v_goto 25 o dX6_key_21 (by decide) ?_
        refine v_istore [(6, .int (nI 1)), (0, .ref m), (1, .int (nI u)), (2, .int (nI i)), (3, .int (nI j)), (4, .int (nI k)), (5, .int x)] o dX6_key_25 (by decide) rfl ?_
        refine v_aload_n 1 o dX6_key_27 rfl rfl ?_
        refine v_iload 0 o dX6_key_28 rfl ?_
        refine v_if_ne_n 37 o dX6_key_30 (by decide) (by decide) (fun c30 => ?_) (fun c30 => absurd c30 (by omega))
        refine v_iload 6 o dX6_key_37 rfl ?_
        refine v_iconst 0 o dX6_key_39 rfl ?_
        refine v_bipush 25 o dX6_key_40 (by decide) ?_
        refine v_callSr (v := .int (bI (inR x (nI 0) (nI 25)))) [.int x, .int (nI 0), .int (nI 25)] [.ref m] o dX6_key_42 cw_X6_97 st_X6_in (m_in hl hR x (nI 0) (nI 25)) rfl rfl (by decide) ⟨rfl, rfl⟩ (by decide) (Nat.le_of_ble_eq_true rfl) ?_
        refine v_top (bI false) (by rw [hX]) ?_
        refine v_if_eq_b 52 o dX6_key_45 (by decide) (fun c45 => ?_) (fun c45 => absurd c45 (by simp_all))
        refine v_iconst 2 o dX6_key_52 rfl ?_
        refine v_callV [.int (nI 2)] [] o dX6_key_53 cw_X6_109 im_X6_goesWell se_X6_goesWell cf6 hR.o (m_goesWell hl hR 2 (by first | decide | omega)) rfl rfl (by decide) (by decide) (Nat.le_of_ble_eq_true rfl) ?_ (fun _ _ _ _ h => h.elim)
        rintro _ μ3 _ _ ⟨rfl, hR3, rfl⟩
        refine v_st [.int (bI false)] rfl ?_
        refine v_if_ne_b 61 o dX6_key_56 (by decide) (fun c56 => absurd c56 (by simp_all)) (fun c56 => ?_)
        refine v_iconst 0 o dX6_key_59 rfl ?_
        have e9 : sp_key σ (nI u) (nI i) (nI j) (nI k) x = (nI 0, uN σ 3 1 2) := by simp [sp_key, th, hY, hL, hX, ti, tj, tk, tu, spot]
        exact v_iret o dX6_key_60 hr (Nat.le_of_ble_eq_true rfl) (Nat.le_of_ble_eq_true rfl) (by rw [e9]; exact ⟨rfl, hR3, rfl⟩)
      | true =>
        obtain ⟨i, j, k, hi, hj, hk, rfl, rfl, rfl⟩ := isL_t hI hL
        have h6 := hI.1
        have h12 := hI.2.1 i
        have ti : tn (nI i) = i := tn_nI (by omega)
        have tj : tn (nI j) = j := tn_nI (by omega)
        have tk : tn (nI k) = k := tn_nI (by omega)
        obtain ⟨u, hua, hub, rfl⟩ := inR_nat (a := 0) (b := 4) hY (by decide) (by decide)
        have tu : tn (nI u) = u := tn_nI (by omega)
        obtain ⟨w, hwa, hwb, rfl⟩ := inR_nat (a := 0) (b := 25) hX (by decide) (by decide)
        have tw : tn (nI w) = w := tn_nI (by omega)
        refine Ct.of hl (by decide +kernel) (Nat.le_of_ble_eq_true rfl) ?_
        intro p e s mi args below meth c o hnm hr hx
        have o : Ok p l s mi args meth c g cX6_key 9 RX6 := o
        refine v_lv [(0, .ref m), (1, .int (nI u)), (2, .int (nI i)), (3, .int (nI j)), (4, .int (nI k)), (5, .int (nI w))] rfl ?_
        refine v_iload_n 1 o dX6_key_0 rfl rfl ?_
        refine v_iconst 0 o dX6_key_1 rfl ?_
        refine v_iconst 4 o dX6_key_2 rfl ?_
        refine v_callSr (v := .int (bI (inR (nI u) (nI 0) (nI 4)))) [.int (nI u), .int (nI 0), .int (nI 4)] [] o dX6_key_3 cw_X6_97 st_X6_in (m_in hl hR (nI u) (nI 0) (nI 4)) rfl rfl (by decide) ⟨rfl, rfl⟩ (by decide) (Nat.le_of_ble_eq_true rfl) ?_
        refine v_top (bI true) (by rw [hY]) ?_
        refine v_if_eq_b 24 o dX6_key_6 (by decide) (fun c6 => absurd c6 (by simp_all)) (fun c6 => ?_)
        refine v_aload_n 0 o dX6_key_9 rfl rfl ?_
        refine v_iload_n 2 o dX6_key_10 rfl rfl ?_
        refine v_iload_n 3 o dX6_key_11 rfl rfl ?_
        refine v_iload 4 o dX6_key_12 rfl ?_
        refine v_callVr (v := .int (bI (isL σ (nI i) (nI j) (nI k)))) [.int (nI i), .int (nI j), .int (nI k)] [] o dX6_key_14 cw_X6_158 im_X6_isPlace se_X6_isPlace cf6 hR.o (m_isPlace hl hR hI (nI i) (nI j) (nI k)) rfl rfl (by decide) ⟨rfl, rfl⟩ (by decide) (Nat.le_of_ble_eq_true rfl) ?_
        refine v_top (bI true) (by rw [hL]) ?_
        refine v_if_eq_b 24 o dX6_key_17 (by decide) (fun c17 => absurd c17 (by simp_all)) (fun c17 => ?_)
        refine v_iconst 1 o dX6_key_20 rfl ?_
        refine v_goto 25 o dX6_key_21 (by decide) ?_
        refine v_istore [(6, .int (nI 1)), (0, .ref m), (1, .int (nI u)), (2, .int (nI i)), (3, .int (nI j)), (4, .int (nI k)), (5, .int (nI w))] o dX6_key_25 (by decide) rfl ?_
        refine v_aload_n 1 o dX6_key_27 rfl rfl ?_
        refine v_iload 0 o dX6_key_28 rfl ?_
        refine v_if_ne_n 37 o dX6_key_30 (by decide) (by decide) (fun c30 => ?_) (fun c30 => absurd c30 (by omega))
        refine v_iload 6 o dX6_key_37 rfl ?_
        refine v_iconst 0 o dX6_key_39 rfl ?_
        refine v_bipush 25 o dX6_key_40 (by decide) ?_
        refine v_callSr (v := .int (bI (inR (nI w) (nI 0) (nI 25)))) [.int (nI w), .int (nI 0), .int (nI 25)] [.ref m] o dX6_key_42 cw_X6_97 st_X6_in (m_in hl hR (nI w) (nI 0) (nI 25)) rfl rfl (by decide) ⟨rfl, rfl⟩ (by decide) (Nat.le_of_ble_eq_true rfl) ?_
        refine v_top (bI true) (by rw [hX]) ?_
        refine v_if_eq_b 52 o dX6_key_45 (by decide) (fun c45 => absurd c45 (by simp_all)) (fun c45 => ?_)
        refine v_iconst 0 o dX6_key_48 rfl ?_
        refine v_goto 53 o dX6_key_49 (by decide) ?_
        refine v_callV [.int (nI 0)] [] o dX6_key_53 cw_X6_109 im_X6_goesWell se_X6_goesWell cf6 hR.o (m_goesWell hl hR 0 (by first | decide | omega)) rfl rfl (by decide) (by decide) (Nat.le_of_ble_eq_true rfl) ?_ (fun _ _ _ _ h => h.elim)
        rintro _ μ4 _ _ ⟨rfl, hR4, rfl⟩
        refine v_st [.int (bI true)] rfl ?_
        refine v_if_ne_b 61 o dX6_key_56 (by decide) (fun c56 => ?_) (fun c56 => absurd c56 (by simp_all))
        refine v_iconst 5 o dX6_key_61 rfl ?_
        refine v_iload_n 3 o dX6_key_62 rfl rfl ?_
        refine v_iload_n 4 o dX6_key_63 rfl rfl ?_
        refine v_iload 5 o dX6_key_64 rfl ?_
        refine v_callSr (v := .int (nI (4 * (12 * i + j) + k))) [.int (nI i), .int (nI j), .int (nI k)] [.int (nI 5)] o dX6_key_66 cw_X6_161 st_X6_spot (m_spot hl hR4 i j k) rfl rfl (by decide) ⟨rfl, rfl⟩ (by decide) (Nat.le_of_ble_eq_true rfl) ?_
        refine v_imul (nI (5 * (4 * (12 * i + j) + k))) o dX6_key_69 (pk_mul 5 (4 * (12 * i + j) + k)) ?_
        refine v_iload_n 2 o dX6_key_70 rfl rfl ?_
        refine v_iadd (nI (5 * (4 * (12 * i + j) + k) + u)) o dX6_key_71 (nI_add (5 * (4 * (12 * i + j) + k)) u) ?_
        refine v_istore [(7, .int (nI (5 * (4 * (12 * i + j) + k) + u))), (6, .int (nI 1)), (0, .ref m), (1, .int (nI u)), (2, .int (nI i)), (3, .int (nI j)), (4, .int (nI k)), (5, .int (nI w))] o dX6_key_72 (by decide) rfl ?_
        refine v_aload_n 2 o dX6_key_74 rfl rfl ?_
        refine v_get (v := .ref (m + 22)) o dX6_key_75 cf6 25 (by decide) fl_X6_75 hR4.o rfl ?_
        refine v_iload 0 o dX6_key_78 rfl ?_
        refine v_iald (nI (σ.1 2 (5 * (4 * (12 * i + j) + k) + u))) o dX6_key_80 (by omega) (by decide) hR4.a22 rfl ?_
        refine v_istore [(8, .int (nI (σ.1 2 (5 * (4 * (12 * i + j) + k) + u)))), (7, .int (nI (5 * (4 * (12 * i + j) + k) + u))), (6, .int (nI 1)), (0, .ref m), (1, .int (nI u)), (2, .int (nI i)), (3, .int (nI j)), (4, .int (nI k)), (5, .int (nI w))] o dX6_key_81 (by decide) rfl ?_
        refine v_aload_n 3 o dX6_key_83 rfl rfl ?_
        refine v_get (v := .ref (m + 22)) o dX6_key_84 cf6 25 (by decide) fl_X6_75 hR4.o rfl ?_
        refine v_iload 1 o dX6_key_87 rfl ?_
        refine v_iload 8 o dX6_key_89 rfl ?_
        refine v_iconst 1 o dX6_key_91 rfl ?_
        refine v_iadd (nI (w + 1)) o dX6_key_92 (nI_add w 1) ?_
        refine v_iast o dX6_key_93 (by omega) (by decide) hR4.a22 (fun μ5 e5 => ?_)
        have hR5 := hR4.p22 (i0 := 5 * (4 * (12 * i + j) + k) + u) (v := w + 1) e5
        refine v_iload 0 o dX6_key_94 rfl ?_
        refine v_iconst 1 o dX6_key_96 rfl ?_
        refine v_isub (mI (σ.1 2 (5 * (4 * (12 * i + j) + k) + u))) o dX6_key_97 rfl ?_
        have e9 : sp_key σ (nI u) (nI i) (nI j) (nI k) (nI w) = (mI (σ.1 2 (5 * (4 * (12 * i + j) + k) + u)), uN (uN σ 3 1 0) 2 (5 * (4 * (12 * i + j) + k) + u) (w + 1)) := by simp [sp_key, th, hY, hL, hX, ti, tj, tk, tu, tw, spot]
        exact v_iret o dX6_key_98 hr (Nat.le_of_ble_eq_true rfl) (Nat.le_of_ble_eq_true rfl) (by rw [e9]; exact ⟨rfl, hR5, rfl⟩)

set_option maxRecDepth 100000 in
set_option maxHeartbeats 4000000 in
theorem m_pass {l : Launch} (hl : l.stackTraces = false) {g : mG} {m z : Nat} {μ0 μ : mM} {σ : Sg} (hR : RM g m μ0 σ μ) (hI : Inv σ) (y : Int32) : Ct l g yX6_pass [Cond.code yX6_pass cX6_pass 3 (some .int)] { frames := 1, cells := 0, slots := 0, locals := 22 } [.ref m, .int y] μ z (wrM g m μ0 (some (.int (sp_pass σ y).1)) (sp_pass σ y).2 z) noX := by
  cases hY : inR y (nI 1) (nI 100) with
  | false =>
    refine Ct.of hl (by decide +kernel) (Nat.le_of_ble_eq_true rfl) ?_
    intro p e s mi args below meth c o hnm hr hx
    have o : Ok p l s mi args meth c g cX6_pass 3 RX6 := o
    refine v_lv [(0, .ref m), (1, .int y)] rfl ?_
    refine v_iload_n 1 o dX6_pass_0 rfl rfl ?_
    refine v_iconst 1 o dX6_pass_1 rfl ?_
    refine v_bipush 100 o dX6_pass_2 (by decide) ?_
    refine v_callSr (v := .int (bI (inR y (nI 1) (nI 100)))) [.int y, .int (nI 1), .int (nI 100)] [] o dX6_pass_4 cw_X6_97 st_X6_in (m_in hl hR y (nI 1) (nI 100)) rfl rfl (by decide) ⟨rfl, rfl⟩ (by decide) (Nat.le_of_ble_eq_true rfl) ?_
    refine v_top (bI false) (by rw [hY]) ?_
    refine v_istore_n [(2, .int (bI false)), (0, .ref m), (1, .int y)] o dX6_pass_7 rfl (by decide) rfl ?_
    refine v_aload_n 1 o dX6_pass_8 rfl rfl ?_
    refine v_iload_n 0 o dX6_pass_9 rfl rfl ?_
    refine v_if_ne_b 17 o dX6_pass_10 (by decide) (fun c10 => absurd c10 (by simp_all)) (fun c10 => ?_)
    refine v_iconst 1 o dX6_pass_13 rfl ?_
    refine v_goto 34 o dX6_pass_14 (by decide) ?_
    refine v_callV [.int (nI 1)] [] o dX6_pass_34 cw_X6_109 im_X6_goesWell se_X6_goesWell cf6 hR.o (m_goesWell hl hR 1 (by first | decide | omega)) rfl rfl (by decide) (by decide) (Nat.le_of_ble_eq_true rfl) ?_ (fun _ _ _ _ h => h.elim)
    rintro _ μ1 _ _ ⟨rfl, hR1, rfl⟩
    refine v_st [.int (bI false)] rfl ?_
    refine v_if_ne_b 42 o dX6_pass_37 (by decide) (fun c37 => absurd c37 (by simp_all)) (fun c37 => ?_)
    refine v_iconst 0 o dX6_pass_40 rfl ?_
    have e9 : sp_pass σ y = (nI 0, uN σ 3 1 1) := by simp [sp_pass, th, hY]
    exact v_iret o dX6_pass_41 hr (Nat.le_of_ble_eq_true rfl) (Nat.le_of_ble_eq_true rfl) (by rw [e9]; exact ⟨rfl, hR1, rfl⟩)
  | true =>
    refine Ct.of hl (by decide +kernel) (Nat.le_of_ble_eq_true rfl) ?_
    intro p e s mi args below meth c o hnm hr hx
    have o : Ok p l s mi args meth c g cX6_pass 3 RX6 := o
    refine v_lv [(0, .ref m), (1, .int y)] rfl ?_
    refine v_iload_n 1 o dX6_pass_0 rfl rfl ?_
    refine v_iconst 1 o dX6_pass_1 rfl ?_
    refine v_bipush 100 o dX6_pass_2 (by decide) ?_
    refine v_callSr (v := .int (bI (inR y (nI 1) (nI 100)))) [.int y, .int (nI 1), .int (nI 100)] [] o dX6_pass_4 cw_X6_97 st_X6_in (m_in hl hR y (nI 1) (nI 100)) rfl rfl (by decide) ⟨rfl, rfl⟩ (by decide) (Nat.le_of_ble_eq_true rfl) ?_
    refine v_top (bI true) (by rw [hY]) ?_
    refine v_istore_n [(2, .int (bI true)), (0, .ref m), (1, .int y)] o dX6_pass_7 rfl (by decide) rfl ?_
    refine v_aload_n 1 o dX6_pass_8 rfl rfl ?_
    refine v_iload_n 0 o dX6_pass_9 rfl rfl ?_
    refine v_if_ne_b 17 o dX6_pass_10 (by decide) (fun c10 => ?_) (fun c10 => absurd c10 (by simp_all))
    refine v_aload_n 1 o dX6_pass_17 rfl rfl ?_
    refine v_get (v := .int (σ.2.2.1 8 1)) o dX6_pass_18 cf6 27 (by decide) fl_X6_81 hR.o rfl ?_
    refine v_iload_n 2 o dX6_pass_21 rfl rfl ?_
    refine v_iadd ((σ.2.2.1 8 1) + y) o dX6_pass_22 rfl ?_
    refine v_sipush 4000 o dX6_pass_23 (by decide) ?_
    refine v_icmp_le 33 o dX6_pass_26 (by decide) (fun c26 => ?_) (fun c26 => ?_)
    · refine v_iconst 0 o dX6_pass_33 rfl ?_
      refine v_callV [.int (nI 0)] [] o dX6_pass_34 cw_X6_109 im_X6_goesWell se_X6_goesWell cf6 hR.o (m_goesWell hl hR 0 (by first | decide | omega)) rfl rfl (by decide) (by decide) (Nat.le_of_ble_eq_true rfl) ?_ (fun _ _ _ _ h => h.elim)
      rintro _ μ2 _ _ ⟨rfl, hR2, rfl⟩
      refine v_st [.int (bI true)] rfl ?_
      refine v_if_ne_b 42 o dX6_pass_37 (by decide) (fun c37 => ?_) (fun c37 => absurd c37 (by simp_all))
      refine v_aload_n 1 o dX6_pass_42 rfl rfl ?_
      refine v_dup o dX6_pass_43 rfl ?_
      refine v_get (v := .int (σ.2.2.1 8 1)) o dX6_pass_44 cf6 27 (by decide) fl_X6_81 hR2.o rfl ?_
      refine v_iload_n 2 o dX6_pass_47 rfl rfl ?_
      refine v_iadd ((σ.2.2.1 8 1) + y) o dX6_pass_48 rfl ?_
      refine v_put _ o dX6_pass_49 cf6 27 (by decide) (by decide) fl_X6_81 hR2.o rfl rfl (Nat.le_of_ble_eq_true rfl) rfl (fun μ3 e3 => ?_)
      have hR3 := hR2.s_year (v := (σ.2.2.1 8 1) + y) e3
      refine v_aload_n 1 o dX6_pass_52 rfl rfl ?_
      refine v_get (v := .int ((σ.2.2.1 8 1) + y)) o dX6_pass_53 cf6 27 (by decide) fl_X6_81 hR3.o rfl ?_
      have e9 : sp_pass σ y = ((σ.2.2.1 8 1) + y, uI (uN σ 3 1 0) 8 1 ((σ.2.2.1 8 1) + y)) := by simp [sp_pass, th, hY, Int32.not_lt.mpr c26]
      exact v_iret o dX6_pass_56 hr (Nat.le_of_ble_eq_true rfl) (Nat.le_of_ble_eq_true rfl) (by rw [e9]; exact ⟨rfl, hR3, rfl⟩)
    · refine v_iconst 2 o dX6_pass_29 rfl ?_
      refine v_goto 34 o dX6_pass_30 (by decide) ?_
      refine v_callV [.int (nI 2)] [] o dX6_pass_34 cw_X6_109 im_X6_goesWell se_X6_goesWell cf6 hR.o (m_goesWell hl hR 2 (by first | decide | omega)) rfl rfl (by decide) (by decide) (Nat.le_of_ble_eq_true rfl) ?_ (fun _ _ _ _ h => h.elim)
      rintro _ μ4 _ _ ⟨rfl, hR4, rfl⟩
      refine v_st [.int (bI false)] rfl ?_
      refine v_if_ne_b 42 o dX6_pass_37 (by decide) (fun c37 => absurd c37 (by simp_all)) (fun c37 => ?_)
      refine v_iconst 0 o dX6_pass_40 rfl ?_
      have e9 : sp_pass σ y = (nI 0, uN σ 3 1 2) := by simp [sp_pass, th, hY, Int32.not_le.mp c26]
      exact v_iret o dX6_pass_41 hr (Nat.le_of_ble_eq_true rfl) (Nat.le_of_ble_eq_true rfl) (by rw [e9]; exact ⟨rfl, hR4, rfl⟩)

set_option maxRecDepth 100000 in
set_option maxHeartbeats 4000000 in
theorem m_term {l : Launch} (hl : l.stackTraces = false) {g : mG} {m z : Nat} {μ0 μ : mM} {σ : Sg} (hR : RM g m μ0 σ μ) (hI : Inv σ) (x y : Int32) : Ct l g yX6_term [Cond.code yX6_term cX6_term 5 (some .int)] { frames := 1, cells := 0, slots := 0, locals := 22 } [.ref m, .int x, .int y] μ z (wrM g m μ0 (some (.int (sp_term σ x y).1)) (sp_term σ x y).2 z) noX := by
  cases hY : inR y (nI 0) (nI 120) with
  | false =>
    cases hX : inR x (nI 0) (nI 3) with
    | false =>
      refine Ct.of hl (by decide +kernel) (Nat.le_of_ble_eq_true rfl) ?_
      intro p e s mi args below meth c o hnm hr hx
      have o : Ok p l s mi args meth c g cX6_term 5 RX6 := o
      refine v_lv [(0, .ref m), (1, .int x), (2, .int y)] rfl ?_
      refine v_iload_n 1 o dX6_term_0 rfl rfl ?_
      refine v_iconst 0 o dX6_term_1 rfl ?_
      refine v_iconst 3 o dX6_term_2 rfl ?_
      refine v_callSr (v := .int (bI (inR x (nI 0) (nI 3)))) [.int x, .int (nI 0), .int (nI 3)] [] o dX6_term_3 cw_X6_97 st_X6_in (m_in hl hR x (nI 0) (nI 3)) rfl rfl (by decide) ⟨rfl, rfl⟩ (by decide) (Nat.le_of_ble_eq_true rfl) ?_
      refine v_top (bI false) (by rw [hX]) ?_
      refine v_istore_n [(3, .int (bI false)), (0, .ref m), (1, .int x), (2, .int y)] o dX6_term_6 rfl (by decide) rfl ?_
      refine v_aload_n 1 o dX6_term_7 rfl rfl ?_
      refine v_iload_n 0 o dX6_term_8 rfl rfl ?_
      refine v_if_ne_b 16 o dX6_term_9 (by decide) (fun c9 => absurd c9 (by simp_all)) (fun c9 => ?_)
      refine v_iconst 1 o dX6_term_12 rfl ?_
      refine v_goto 31 o dX6_term_13 (by decide) ?_
      refine v_callV [.int (nI 1)] [] o dX6_term_31 cw_X6_109 im_X6_goesWell se_X6_goesWell cf6 hR.o (m_goesWell hl hR 1 (by first | decide | omega)) rfl rfl (by decide) (by decide) (Nat.le_of_ble_eq_true rfl) ?_ (fun _ _ _ _ h => h.elim)
      rintro _ μ1 _ _ ⟨rfl, hR1, rfl⟩
      refine v_st [.int (bI false)] rfl ?_
      refine v_if_ne_b 39 o dX6_term_34 (by decide) (fun c34 => absurd c34 (by simp_all)) (fun c34 => ?_)
      refine v_iconst 0 o dX6_term_37 rfl ?_
      have e9 : sp_term σ x y = (nI 0, uN σ 3 1 1) := by simp [sp_term, th, hX, hY]
      exact v_iret o dX6_term_38 hr (Nat.le_of_ble_eq_true rfl) (Nat.le_of_ble_eq_true rfl) (by rw [e9]; exact ⟨rfl, hR1, rfl⟩)
    | true =>
      obtain ⟨w, hwa, hwb, rfl⟩ := inR_nat (a := 0) (b := 3) hX (by decide) (by decide)
      have tw : tn (nI w) = w := tn_nI (by omega)
      refine Ct.of hl (by decide +kernel) (Nat.le_of_ble_eq_true rfl) ?_
      intro p e s mi args below meth c o hnm hr hx
      have o : Ok p l s mi args meth c g cX6_term 5 RX6 := o
      refine v_lv [(0, .ref m), (1, .int (nI w)), (2, .int y)] rfl ?_
      refine v_iload_n 1 o dX6_term_0 rfl rfl ?_
      refine v_iconst 0 o dX6_term_1 rfl ?_
      refine v_iconst 3 o dX6_term_2 rfl ?_
      refine v_callSr (v := .int (bI (inR (nI w) (nI 0) (nI 3)))) [.int (nI w), .int (nI 0), .int (nI 3)] [] o dX6_term_3 cw_X6_97 st_X6_in (m_in hl hR (nI w) (nI 0) (nI 3)) rfl rfl (by decide) ⟨rfl, rfl⟩ (by decide) (Nat.le_of_ble_eq_true rfl) ?_
      refine v_top (bI true) (by rw [hX]) ?_
      refine v_istore_n [(3, .int (bI true)), (0, .ref m), (1, .int (nI w)), (2, .int y)] o dX6_term_6 rfl (by decide) rfl ?_
      refine v_aload_n 1 o dX6_term_7 rfl rfl ?_
      refine v_iload_n 0 o dX6_term_8 rfl rfl ?_
      refine v_if_ne_b 16 o dX6_term_9 (by decide) (fun c9 => ?_) (fun c9 => absurd c9 (by simp_all))
      refine v_iload_n 3 o dX6_term_16 rfl rfl ?_
      refine v_iconst 0 o dX6_term_17 rfl ?_
      refine v_bipush 120 o dX6_term_18 (by decide) ?_
      refine v_callSr (v := .int (bI (inR y (nI 0) (nI 120)))) [.int y, .int (nI 0), .int (nI 120)] [.ref m] o dX6_term_20 cw_X6_97 st_X6_in (m_in hl hR y (nI 0) (nI 120)) rfl rfl (by decide) ⟨rfl, rfl⟩ (by decide) (Nat.le_of_ble_eq_true rfl) ?_
      refine v_top (bI false) (by rw [hY]) ?_
      refine v_if_eq_b 30 o dX6_term_23 (by decide) (fun c23 => ?_) (fun c23 => absurd c23 (by simp_all))
      refine v_iconst 2 o dX6_term_30 rfl ?_
      refine v_callV [.int (nI 2)] [] o dX6_term_31 cw_X6_109 im_X6_goesWell se_X6_goesWell cf6 hR.o (m_goesWell hl hR 2 (by first | decide | omega)) rfl rfl (by decide) (by decide) (Nat.le_of_ble_eq_true rfl) ?_ (fun _ _ _ _ h => h.elim)
      rintro _ μ2 _ _ ⟨rfl, hR2, rfl⟩
      refine v_st [.int (bI false)] rfl ?_
      refine v_if_ne_b 39 o dX6_term_34 (by decide) (fun c34 => absurd c34 (by simp_all)) (fun c34 => ?_)
      refine v_iconst 0 o dX6_term_37 rfl ?_
      have e9 : sp_term σ (nI w) y = (nI 0, uN σ 3 1 2) := by simp [sp_term, th, hX, hY, tw]
      exact v_iret o dX6_term_38 hr (Nat.le_of_ble_eq_true rfl) (Nat.le_of_ble_eq_true rfl) (by rw [e9]; exact ⟨rfl, hR2, rfl⟩)
  | true =>
    cases hX : inR x (nI 0) (nI 3) with
    | false =>
      refine Ct.of hl (by decide +kernel) (Nat.le_of_ble_eq_true rfl) ?_
      intro p e s mi args below meth c o hnm hr hx
      have o : Ok p l s mi args meth c g cX6_term 5 RX6 := o
      refine v_lv [(0, .ref m), (1, .int x), (2, .int y)] rfl ?_
      refine v_iload_n 1 o dX6_term_0 rfl rfl ?_
      refine v_iconst 0 o dX6_term_1 rfl ?_
      refine v_iconst 3 o dX6_term_2 rfl ?_
      refine v_callSr (v := .int (bI (inR x (nI 0) (nI 3)))) [.int x, .int (nI 0), .int (nI 3)] [] o dX6_term_3 cw_X6_97 st_X6_in (m_in hl hR x (nI 0) (nI 3)) rfl rfl (by decide) ⟨rfl, rfl⟩ (by decide) (Nat.le_of_ble_eq_true rfl) ?_
      refine v_top (bI false) (by rw [hX]) ?_
      refine v_istore_n [(3, .int (bI false)), (0, .ref m), (1, .int x), (2, .int y)] o dX6_term_6 rfl (by decide) rfl ?_
      refine v_aload_n 1 o dX6_term_7 rfl rfl ?_
      refine v_iload_n 0 o dX6_term_8 rfl rfl ?_
      refine v_if_ne_b 16 o dX6_term_9 (by decide) (fun c9 => absurd c9 (by simp_all)) (fun c9 => ?_)
      refine v_iconst 1 o dX6_term_12 rfl ?_
      refine v_goto 31 o dX6_term_13 (by decide) ?_
      refine v_callV [.int (nI 1)] [] o dX6_term_31 cw_X6_109 im_X6_goesWell se_X6_goesWell cf6 hR.o (m_goesWell hl hR 1 (by first | decide | omega)) rfl rfl (by decide) (by decide) (Nat.le_of_ble_eq_true rfl) ?_ (fun _ _ _ _ h => h.elim)
      rintro _ μ3 _ _ ⟨rfl, hR3, rfl⟩
      refine v_st [.int (bI false)] rfl ?_
      refine v_if_ne_b 39 o dX6_term_34 (by decide) (fun c34 => absurd c34 (by simp_all)) (fun c34 => ?_)
      refine v_iconst 0 o dX6_term_37 rfl ?_
      have e9 : sp_term σ x y = (nI 0, uN σ 3 1 1) := by simp [sp_term, th, hX, hY]
      exact v_iret o dX6_term_38 hr (Nat.le_of_ble_eq_true rfl) (Nat.le_of_ble_eq_true rfl) (by rw [e9]; exact ⟨rfl, hR3, rfl⟩)
    | true =>
      obtain ⟨w, hwa, hwb, rfl⟩ := inR_nat (a := 0) (b := 3) hX (by decide) (by decide)
      have tw : tn (nI w) = w := tn_nI (by omega)
      refine Ct.of hl (by decide +kernel) (Nat.le_of_ble_eq_true rfl) ?_
      intro p e s mi args below meth c o hnm hr hx
      have o : Ok p l s mi args meth c g cX6_term 5 RX6 := o
      refine v_lv [(0, .ref m), (1, .int (nI w)), (2, .int y)] rfl ?_
      refine v_iload_n 1 o dX6_term_0 rfl rfl ?_
      refine v_iconst 0 o dX6_term_1 rfl ?_
      refine v_iconst 3 o dX6_term_2 rfl ?_
      refine v_callSr (v := .int (bI (inR (nI w) (nI 0) (nI 3)))) [.int (nI w), .int (nI 0), .int (nI 3)] [] o dX6_term_3 cw_X6_97 st_X6_in (m_in hl hR (nI w) (nI 0) (nI 3)) rfl rfl (by decide) ⟨rfl, rfl⟩ (by decide) (Nat.le_of_ble_eq_true rfl) ?_
      refine v_top (bI true) (by rw [hX]) ?_
      refine v_istore_n [(3, .int (bI true)), (0, .ref m), (1, .int (nI w)), (2, .int y)] o dX6_term_6 rfl (by decide) rfl ?_
      refine v_aload_n 1 o dX6_term_7 rfl rfl ?_
      refine v_iload_n 0 o dX6_term_8 rfl rfl ?_
      refine v_if_ne_b 16 o dX6_term_9 (by decide) (fun c9 => ?_) (fun c9 => absurd c9 (by simp_all))
      refine v_iload_n 3 o dX6_term_16 rfl rfl ?_
      refine v_iconst 0 o dX6_term_17 rfl ?_
      refine v_bipush 120 o dX6_term_18 (by decide) ?_
      refine v_callSr (v := .int (bI (inR y (nI 0) (nI 120)))) [.int y, .int (nI 0), .int (nI 120)] [.ref m] o dX6_term_20 cw_X6_97 st_X6_in (m_in hl hR y (nI 0) (nI 120)) rfl rfl (by decide) ⟨rfl, rfl⟩ (by decide) (Nat.le_of_ble_eq_true rfl) ?_
      refine v_top (bI true) (by rw [hY]) ?_
      refine v_if_eq_b 30 o dX6_term_23 (by decide) (fun c23 => absurd c23 (by simp_all)) (fun c23 => ?_)
      refine v_iconst 0 o dX6_term_26 rfl ?_
      refine v_goto 31 o dX6_term_27 (by decide) ?_
      refine v_callV [.int (nI 0)] [] o dX6_term_31 cw_X6_109 im_X6_goesWell se_X6_goesWell cf6 hR.o (m_goesWell hl hR 0 (by first | decide | omega)) rfl rfl (by decide) (by decide) (Nat.le_of_ble_eq_true rfl) ?_ (fun _ _ _ _ h => h.elim)
      rintro _ μ4 _ _ ⟨rfl, hR4, rfl⟩
      refine v_st [.int (bI true)] rfl ?_
      refine v_if_ne_b 39 o dX6_term_34 (by decide) (fun c34 => ?_) (fun c34 => absurd c34 (by simp_all))
      refine v_aload_n 1 o dX6_term_39 rfl rfl ?_
      refine v_get (v := .ref (m + 24)) o dX6_term_40 cf6 28 (by decide) fl_X6_85 hR4.o rfl ?_
      refine v_iload_n 2 o dX6_term_43 rfl rfl ?_
      refine v_iald (σ.2.2.1 7 w) o dX6_term_44 (by omega) (by decide) hR4.a24 rfl ?_
      refine v_istore [(4, .int (σ.2.2.1 7 w)), (3, .int (bI true)), (0, .ref m), (1, .int (nI w)), (2, .int y)] o dX6_term_45 (by decide) rfl ?_
      refine v_aload_n 2 o dX6_term_47 rfl rfl ?_
      refine v_get (v := .ref (m + 24)) o dX6_term_48 cf6 28 (by decide) fl_X6_85 hR4.o rfl ?_
      refine v_iload_n 3 o dX6_term_51 rfl rfl ?_
      refine v_iload_n 4 o dX6_term_52 rfl rfl ?_
      refine v_iast o dX6_term_53 (by omega) (by decide) hR4.a24 (fun μ5 e5 => ?_)
      have hR5 := hR4.p24 (i0 := w) (v := y) e5
      refine v_iload 0 o dX6_term_54 rfl ?_
      have e9 : sp_term σ (nI w) y = (σ.2.2.1 7 w, uI (uN σ 3 1 0) 7 w y) := by simp [sp_term, th, hX, hY, tw]
      exact v_iret o dX6_term_56 hr (Nat.le_of_ble_eq_true rfl) (Nat.le_of_ble_eq_true rfl) (by rw [e9]; exact ⟨rfl, hR5, rfl⟩)

set_option maxRecDepth 100000 in
set_option maxHeartbeats 4000000 in
theorem m_died {l : Launch} (hl : l.stackTraces = false) {g : mG} {m z : Nat} {μ0 μ : mM} {σ : Sg} (hR : RM g m μ0 σ μ) (hI : Inv σ) (b y : Int32) : Ct l g yX6_died [Cond.code yX6_died cX6_died 4 none] { frames := 2, cells := 0, slots := 0, locals := 43 } [.ref m, .int b, .int y] μ z (wrM g m μ0 none (sp_died σ b y) z) noX := by
  cases hY : inR y (nI 1500) (nI 3000) with
  | false =>
    cases hP : isB σ b with
    | false =>
      refine Ct.of hl (by decide +kernel) (Nat.le_of_ble_eq_true rfl) ?_
      intro p e s mi args below meth c o hnm hr hx
      have o : Ok p l s mi args meth c g cX6_died 4 RX6 := o
      refine v_lv [(0, .ref m), (1, .int b), (2, .int y)] rfl ?_
      refine v_aload_n 0 o dX6_died_0 rfl rfl ?_
      refine v_iload_n 1 o dX6_died_1 rfl rfl ?_
      refine v_callVr (v := .int (bI (isB σ b))) [.int b] [] o dX6_died_2 cw_X6_101 im_X6_isBook se_X6_isBook cf6 hR.o (m_isBook hl hR b) rfl rfl (by decide) ⟨rfl, rfl⟩ (by decide) (Nat.le_of_ble_eq_true rfl) ?_
      refine v_top (bI false) (by rw [hP]) ?_
      refine v_istore_n [(3, .int (bI false)), (0, .ref m), (1, .int b), (2, .int y)] o dX6_died_5 rfl (by decide) rfl ?_
      refine v_aload_n 1 o dX6_died_6 rfl rfl ?_
      refine v_iload_n 0 o dX6_died_7 rfl rfl ?_
      refine v_if_ne_b 15 o dX6_died_8 (by decide) (fun c8 => absurd c8 (by simp_all)) (fun c8 => ?_)
      refine v_iconst 1 o dX6_died_11 rfl ?_
      refine v_goto 47 o dX6_died_12 (by decide) ?_
      refine v_callV [.int (nI 1)] [] o dX6_died_47 cw_X6_109 im_X6_goesWell se_X6_goesWell cf6 hR.o (m_goesWell hl hR 1 (by first | decide | omega)) rfl rfl (by decide) (by decide) (Nat.le_of_ble_eq_true rfl) ?_ (fun _ _ _ _ h => h.elim)
      rintro _ μ1 _ _ ⟨rfl, hR1, rfl⟩
      refine v_st [.int (bI false)] rfl ?_
      refine v_if_eq_b 60 o dX6_died_50 (by decide) (fun c50 => ?_) (fun c50 => absurd c50 (by simp_all))
      have e9 : sp_died σ b y = uN σ 3 1 1 := by simp [sp_died, th, hP, hY]
      exact v_vret o dX6_died_60 hr (Nat.le_of_ble_eq_true rfl) (Nat.le_of_ble_eq_true rfl) (by rw [e9]; exact ⟨rfl, hR1, rfl⟩)
    | true =>
      obtain ⟨i, hi, rfl⟩ := isB_t hI hP
      have h6 := hI.1
      have h12 := hI.2.1 i
      have ti : tn (nI i) = i := tn_nI (by omega)
      refine Ct.of hl (by decide +kernel) (Nat.le_of_ble_eq_true rfl) ?_
      intro p e s mi args below meth c o hnm hr hx
      have o : Ok p l s mi args meth c g cX6_died 4 RX6 := o
      refine v_lv [(0, .ref m), (1, .int (nI i)), (2, .int y)] rfl ?_
      refine v_aload_n 0 o dX6_died_0 rfl rfl ?_
      refine v_iload_n 1 o dX6_died_1 rfl rfl ?_
      refine v_callVr (v := .int (bI (isB σ (nI i)))) [.int (nI i)] [] o dX6_died_2 cw_X6_101 im_X6_isBook se_X6_isBook cf6 hR.o (m_isBook hl hR (nI i)) rfl rfl (by decide) ⟨rfl, rfl⟩ (by decide) (Nat.le_of_ble_eq_true rfl) ?_
      refine v_top (bI true) (by rw [hP]) ?_
      refine v_istore_n [(3, .int (bI true)), (0, .ref m), (1, .int (nI i)), (2, .int y)] o dX6_died_5 rfl (by decide) rfl ?_
      refine v_aload_n 1 o dX6_died_6 rfl rfl ?_
      refine v_iload_n 0 o dX6_died_7 rfl rfl ?_
      refine v_if_ne_b 15 o dX6_died_8 (by decide) (fun c8 => ?_) (fun c8 => absurd c8 (by simp_all))
      refine v_iload_n 3 o dX6_died_15 rfl rfl ?_
      refine v_sipush 1500 o dX6_died_16 (by decide) ?_
      refine v_sipush 3000 o dX6_died_19 (by decide) ?_
      refine v_callSr (v := .int (bI (inR y (nI 1500) (nI 3000)))) [.int y, .int (nI 1500), .int (nI 3000)] [.ref m] o dX6_died_22 cw_X6_97 st_X6_in (m_in hl hR y (nI 1500) (nI 3000)) rfl rfl (by decide) ⟨rfl, rfl⟩ (by decide) (Nat.le_of_ble_eq_true rfl) ?_
      refine v_top (bI false) (by rw [hY]) ?_
      refine v_if_ne_b 32 o dX6_died_25 (by decide) (fun c25 => absurd c25 (by simp_all)) (fun c25 => ?_)
      refine v_iconst 2 o dX6_died_28 rfl ?_
      refine v_goto 47 o dX6_died_29 (by decide) ?_
      refine v_callV [.int (nI 2)] [] o dX6_died_47 cw_X6_109 im_X6_goesWell se_X6_goesWell cf6 hR.o (m_goesWell hl hR 2 (by first | decide | omega)) rfl rfl (by decide) (by decide) (Nat.le_of_ble_eq_true rfl) ?_ (fun _ _ _ _ h => h.elim)
      rintro _ μ2 _ _ ⟨rfl, hR2, rfl⟩
      refine v_st [.int (bI false)] rfl ?_
      refine v_if_eq_b 60 o dX6_died_50 (by decide) (fun c50 => ?_) (fun c50 => absurd c50 (by simp_all))
      have e9 : sp_died σ (nI i) y = uN σ 3 1 2 := by simp [sp_died, th, hP, hY, ti]
      exact v_vret o dX6_died_60 hr (Nat.le_of_ble_eq_true rfl) (Nat.le_of_ble_eq_true rfl) (by rw [e9]; exact ⟨rfl, hR2, rfl⟩)
  | true =>
    cases hP : isB σ b with
    | false =>
      refine Ct.of hl (by decide +kernel) (Nat.le_of_ble_eq_true rfl) ?_
      intro p e s mi args below meth c o hnm hr hx
      have o : Ok p l s mi args meth c g cX6_died 4 RX6 := o
      refine v_lv [(0, .ref m), (1, .int b), (2, .int y)] rfl ?_
      refine v_aload_n 0 o dX6_died_0 rfl rfl ?_
      refine v_iload_n 1 o dX6_died_1 rfl rfl ?_
      refine v_callVr (v := .int (bI (isB σ b))) [.int b] [] o dX6_died_2 cw_X6_101 im_X6_isBook se_X6_isBook cf6 hR.o (m_isBook hl hR b) rfl rfl (by decide) ⟨rfl, rfl⟩ (by decide) (Nat.le_of_ble_eq_true rfl) ?_
      refine v_top (bI false) (by rw [hP]) ?_
      refine v_istore_n [(3, .int (bI false)), (0, .ref m), (1, .int b), (2, .int y)] o dX6_died_5 rfl (by decide) rfl ?_
      refine v_aload_n 1 o dX6_died_6 rfl rfl ?_
      refine v_iload_n 0 o dX6_died_7 rfl rfl ?_
      refine v_if_ne_b 15 o dX6_died_8 (by decide) (fun c8 => absurd c8 (by simp_all)) (fun c8 => ?_)
      refine v_iconst 1 o dX6_died_11 rfl ?_
      refine v_goto 47 o dX6_died_12 (by decide) ?_
      refine v_callV [.int (nI 1)] [] o dX6_died_47 cw_X6_109 im_X6_goesWell se_X6_goesWell cf6 hR.o (m_goesWell hl hR 1 (by first | decide | omega)) rfl rfl (by decide) (by decide) (Nat.le_of_ble_eq_true rfl) ?_ (fun _ _ _ _ h => h.elim)
      rintro _ μ3 _ _ ⟨rfl, hR3, rfl⟩
      refine v_st [.int (bI false)] rfl ?_
      refine v_if_eq_b 60 o dX6_died_50 (by decide) (fun c50 => ?_) (fun c50 => absurd c50 (by simp_all))
      have e9 : sp_died σ b y = uN σ 3 1 1 := by simp [sp_died, th, hP, hY]
      exact v_vret o dX6_died_60 hr (Nat.le_of_ble_eq_true rfl) (Nat.le_of_ble_eq_true rfl) (by rw [e9]; exact ⟨rfl, hR3, rfl⟩)
    | true =>
      obtain ⟨i, hi, rfl⟩ := isB_t hI hP
      have h6 := hI.1
      have h12 := hI.2.1 i
      have ti : tn (nI i) = i := tn_nI (by omega)
      refine Ct.of hl (by decide +kernel) (Nat.le_of_ble_eq_true rfl) ?_
      intro p e s mi args below meth c o hnm hr hx
      have o : Ok p l s mi args meth c g cX6_died 4 RX6 := o
      refine v_lv [(0, .ref m), (1, .int (nI i)), (2, .int y)] rfl ?_
      refine v_aload_n 0 o dX6_died_0 rfl rfl ?_
      refine v_iload_n 1 o dX6_died_1 rfl rfl ?_
      refine v_callVr (v := .int (bI (isB σ (nI i)))) [.int (nI i)] [] o dX6_died_2 cw_X6_101 im_X6_isBook se_X6_isBook cf6 hR.o (m_isBook hl hR (nI i)) rfl rfl (by decide) ⟨rfl, rfl⟩ (by decide) (Nat.le_of_ble_eq_true rfl) ?_
      refine v_top (bI true) (by rw [hP]) ?_
      refine v_istore_n [(3, .int (bI true)), (0, .ref m), (1, .int (nI i)), (2, .int y)] o dX6_died_5 rfl (by decide) rfl ?_
      refine v_aload_n 1 o dX6_died_6 rfl rfl ?_
      refine v_iload_n 0 o dX6_died_7 rfl rfl ?_
      refine v_if_ne_b 15 o dX6_died_8 (by decide) (fun c8 => ?_) (fun c8 => absurd c8 (by simp_all))
      refine v_iload_n 3 o dX6_died_15 rfl rfl ?_
      refine v_sipush 1500 o dX6_died_16 (by decide) ?_
      refine v_sipush 3000 o dX6_died_19 (by decide) ?_
      refine v_callSr (v := .int (bI (inR y (nI 1500) (nI 3000)))) [.int y, .int (nI 1500), .int (nI 3000)] [.ref m] o dX6_died_22 cw_X6_97 st_X6_in (m_in hl hR y (nI 1500) (nI 3000)) rfl rfl (by decide) ⟨rfl, rfl⟩ (by decide) (Nat.le_of_ble_eq_true rfl) ?_
      refine v_top (bI true) (by rw [hY]) ?_
      refine v_if_ne_b 32 o dX6_died_25 (by decide) (fun c25 => ?_) (fun c25 => absurd c25 (by simp_all))
      refine v_aload_n 1 o dX6_died_32 rfl rfl ?_
      refine v_get (v := .ref (m + 5)) o dX6_died_33 cf6 6 (by decide) fl_X6_22 hR.o rfl ?_
      refine v_iload_n 2 o dX6_died_36 rfl rfl ?_
      refine v_iald (σ.2.2.1 3 i) o dX6_died_37 (by omega) (by decide) hR.a5 rfl ?_
      refine v_iconst_i (-1) o dX6_died_38 (by decide) ?_
      refine v_icmp_eq 46 o dX6_died_39 (by decide) (fun c39 => ?_) (fun c39 => ?_)
      · refine v_iconst 0 o dX6_died_46 rfl ?_
        refine v_callV [.int (nI 0)] [] o dX6_died_47 cw_X6_109 im_X6_goesWell se_X6_goesWell cf6 hR.o (m_goesWell hl hR 0 (by first | decide | omega)) rfl rfl (by decide) (by decide) (Nat.le_of_ble_eq_true rfl) ?_ (fun _ _ _ _ h => h.elim)
        rintro _ μ4 _ _ ⟨rfl, hR4, rfl⟩
        refine v_st [.int (bI true)] rfl ?_
        refine v_if_eq_b 60 o dX6_died_50 (by decide) (fun c50 => absurd c50 (by simp_all)) (fun c50 => ?_)
        refine v_aload_n 1 o dX6_died_53 rfl rfl ?_
        refine v_get (v := .ref (m + 5)) o dX6_died_54 cf6 6 (by decide) fl_X6_22 hR4.o rfl ?_
        refine v_iload_n 2 o dX6_died_57 rfl rfl ?_
        refine v_iload_n 3 o dX6_died_58 rfl rfl ?_
        refine v_iast o dX6_died_59 (by omega) (by decide) hR4.a5 (fun μ5 e5 => ?_)
        have hR5 := hR4.p5 (i0 := i) (v := y) e5
        have e9 : sp_died σ (nI i) y = uI (uN σ 3 1 0) 3 i y := by simp [sp_died, th, hP, hY, ti, c39]
        exact v_vret o dX6_died_60 hr (Nat.le_of_ble_eq_true rfl) (Nat.le_of_ble_eq_true rfl) (by rw [e9]; exact ⟨rfl, hR5, rfl⟩)
      · refine v_iconst 3 o dX6_died_42 rfl ?_
        refine v_goto 47 o dX6_died_43 (by decide) ?_
        refine v_callV [.int (nI 3)] [] o dX6_died_47 cw_X6_109 im_X6_goesWell se_X6_goesWell cf6 hR.o (m_goesWell hl hR 3 (by first | decide | omega)) rfl rfl (by decide) (by decide) (Nat.le_of_ble_eq_true rfl) ?_ (fun _ _ _ _ h => h.elim)
        rintro _ μ6 _ _ ⟨rfl, hR6, rfl⟩
        refine v_st [.int (bI false)] rfl ?_
        refine v_if_eq_b 60 o dX6_died_50 (by decide) (fun c50 => ?_) (fun c50 => absurd c50 (by simp_all))
        have e9 : sp_died σ (nI i) y = uN σ 3 1 3 := by simp [sp_died, th, hP, hY, ti, c39]
        exact v_vret o dX6_died_60 hr (Nat.le_of_ble_eq_true rfl) (Nat.le_of_ble_eq_true rfl) (by rw [e9]; exact ⟨rfl, hR6, rfl⟩)

set_option maxRecDepth 100000 in
set_option maxHeartbeats 4000000 in
theorem m_search {l : Launch} (hl : l.stackTraces = false) {g : mG} {m z : Nat} {μ0 μ : mM} {σ : Sg} (hR : RM g m μ0 σ μ) (hI : Inv σ) (b : Int32) : Ct l g yX6_search [Cond.code yX6_search cX6_search 3 (some .boolean)] { frames := 2, cells := 0, slots := 0, locals := 43 } [.ref m, .int b] μ z (wrM g m μ0 (some (.int (sp_search σ b).1)) (sp_search σ b).2 z) noX := by
  cases hP : isB σ b with
  | false =>
    refine Ct.of hl (by decide +kernel) (Nat.le_of_ble_eq_true rfl) ?_
    intro p e s mi args below meth c o hnm hr hx
    have o : Ok p l s mi args meth c g cX6_search 3 RX6 := o
    refine v_lv [(0, .ref m), (1, .int b)] rfl ?_
    refine v_aload_n 0 o dX6_search_0 rfl rfl ?_
    refine v_aload_n 0 o dX6_search_1 rfl rfl ?_
    refine v_iload_n 1 o dX6_search_2 rfl rfl ?_
    refine v_callVr (v := .int (bI (isB σ b))) [.int b] [.ref m] o dX6_search_3 cw_X6_101 im_X6_isBook se_X6_isBook cf6 hR.o (m_isBook hl hR b) rfl rfl (by decide) ⟨rfl, rfl⟩ (by decide) (Nat.le_of_ble_eq_true rfl) ?_
    refine v_top (bI false) (by rw [hP]) ?_
    refine v_if_eq_b 13 o dX6_search_6 (by decide) (fun c6 => ?_) (fun c6 => absurd c6 (by simp_all))
    refine v_iconst 1 o dX6_search_13 rfl ?_
    refine v_callV [.int (nI 1)] [] o dX6_search_14 cw_X6_109 im_X6_goesWell se_X6_goesWell cf6 hR.o (m_goesWell hl hR 1 (by first | decide | omega)) rfl rfl (by decide) (by decide) (Nat.le_of_ble_eq_true rfl) ?_ (fun _ _ _ _ h => h.elim)
    rintro _ μ1 _ _ ⟨rfl, hR1, rfl⟩
    refine v_st [.int (bI false)] rfl ?_
    refine v_if_ne_b 22 o dX6_search_17 (by decide) (fun c17 => absurd c17 (by simp_all)) (fun c17 => ?_)
    refine v_iconst 0 o dX6_search_20 rfl ?_
    have e9 : sp_search σ b = (nI 0, uN σ 3 1 1) := by simp [sp_search, th, hP]
    exact v_zret o dX6_search_21 hr (by decide) (Nat.le_of_ble_eq_true rfl) (Nat.le_of_ble_eq_true rfl) (by rw [e9]; exact ⟨rfl, hR1, rfl⟩)
  | true =>
    obtain ⟨i, hi, rfl⟩ := isB_t hI hP
    have h6 := hI.1
    have h12 := hI.2.1 i
    have ti : tn (nI i) = i := tn_nI (by omega)
    refine Ct.of hl (by decide +kernel) (Nat.le_of_ble_eq_true rfl) ?_
    intro p e s mi args below meth c o hnm hr hx
    have o : Ok p l s mi args meth c g cX6_search 3 RX6 := o
    refine v_lv [(0, .ref m), (1, .int (nI i))] rfl ?_
    refine v_aload_n 0 o dX6_search_0 rfl rfl ?_
    refine v_aload_n 0 o dX6_search_1 rfl rfl ?_
    refine v_iload_n 1 o dX6_search_2 rfl rfl ?_
    refine v_callVr (v := .int (bI (isB σ (nI i)))) [.int (nI i)] [.ref m] o dX6_search_3 cw_X6_101 im_X6_isBook se_X6_isBook cf6 hR.o (m_isBook hl hR (nI i)) rfl rfl (by decide) ⟨rfl, rfl⟩ (by decide) (Nat.le_of_ble_eq_true rfl) ?_
    refine v_top (bI true) (by rw [hP]) ?_
    refine v_if_eq_b 13 o dX6_search_6 (by decide) (fun c6 => absurd c6 (by simp_all)) (fun c6 => ?_)
    refine v_iconst 0 o dX6_search_9 rfl ?_
    refine v_goto 14 o dX6_search_10 (by decide) ?_
    refine v_callV [.int (nI 0)] [] o dX6_search_14 cw_X6_109 im_X6_goesWell se_X6_goesWell cf6 hR.o (m_goesWell hl hR 0 (by first | decide | omega)) rfl rfl (by decide) (by decide) (Nat.le_of_ble_eq_true rfl) ?_ (fun _ _ _ _ h => h.elim)
    rintro _ μ2 _ _ ⟨rfl, hR2, rfl⟩
    refine v_st [.int (bI true)] rfl ?_
    refine v_if_ne_b 22 o dX6_search_17 (by decide) (fun c17 => ?_) (fun c17 => absurd c17 (by simp_all))
    refine v_aload_n 0 o dX6_search_22 rfl rfl ?_
    refine v_get (v := .ref (m + 7)) o dX6_search_23 cf6 8 (by decide) fl_X6_28 hR2.o rfl ?_
    refine v_iload_n 1 o dX6_search_26 rfl rfl ?_
    refine v_zald (bI (σ.2.1 0 i)) o dX6_search_27 (by omega) (by decide) hR2.a7 rfl ?_
    refine v_istore_n [(2, .int (bI (σ.2.1 0 i))), (0, .ref m), (1, .int (nI i))] o dX6_search_28 rfl (by decide) rfl ?_
    refine v_aload_n 1 o dX6_search_29 rfl rfl ?_
    refine v_get (v := .ref (m + 7)) o dX6_search_30 cf6 8 (by decide) fl_X6_28 hR2.o rfl ?_
    refine v_iload_n 2 o dX6_search_33 rfl rfl ?_
    refine v_iconst 1 o dX6_search_34 rfl ?_
    refine v_top (bI true) rfl ?_
    refine v_zast o dX6_search_35 (by omega) (by decide) (nar_bI _) hR2.a7 (fun μ3 e3 => ?_)
    have hR3 := hR2.p7 (i0 := i) (v := true) e3
    refine v_iload_n 0 o dX6_search_36 rfl rfl ?_
    have e9 : sp_search σ (nI i) = (bI (σ.2.1 0 i), uB (uN σ 3 1 0) 0 i true) := by simp [sp_search, th, hP, ti]
    exact v_zret o dX6_search_37 hr (narrow_bI _) (Nat.le_of_ble_eq_true rfl) (Nat.le_of_ble_eq_true rfl) (by rw [e9]; exact ⟨rfl, hR3, rfl⟩)

set_option maxRecDepth 100000 in
set_option maxHeartbeats 4000000 in
theorem m_takeDown {l : Launch} (hl : l.stackTraces = false) {g : mG} {m z : Nat} {μ0 μ : mM} {σ : Sg} (hR : RM g m μ0 σ μ) (hI : Inv σ) (b : Int32) (is : Bool) : Ct l g yX6_takeDown [Cond.code yX6_takeDown cX6_takeDown 4 (some .boolean)] { frames := 2, cells := 0, slots := 0, locals := 43 } [.ref m, .int b, .int (bI is)] μ z (wrM g m μ0 (some (.int (sp_takeDown σ b is).1)) (sp_takeDown σ b is).2 z) noX := by
  cases hP : isB σ b with
  | false =>
    refine Ct.of hl (by decide +kernel) (Nat.le_of_ble_eq_true rfl) ?_
    intro p e s mi args below meth c o hnm hr hx
    have o : Ok p l s mi args meth c g cX6_takeDown 4 RX6 := o
    refine v_lv [(0, .ref m), (1, .int b), (2, .int (bI is))] rfl ?_
    refine v_aload_n 0 o dX6_takeDown_0 rfl rfl ?_
    refine v_aload_n 0 o dX6_takeDown_1 rfl rfl ?_
    refine v_iload_n 1 o dX6_takeDown_2 rfl rfl ?_
    refine v_callVr (v := .int (bI (isB σ b))) [.int b] [.ref m] o dX6_takeDown_3 cw_X6_101 im_X6_isBook se_X6_isBook cf6 hR.o (m_isBook hl hR b) rfl rfl (by decide) ⟨rfl, rfl⟩ (by decide) (Nat.le_of_ble_eq_true rfl) ?_
    refine v_top (bI false) (by rw [hP]) ?_
    refine v_if_eq_b 13 o dX6_takeDown_6 (by decide) (fun c6 => ?_) (fun c6 => absurd c6 (by simp_all))
    refine v_iconst 1 o dX6_takeDown_13 rfl ?_
    refine v_callV [.int (nI 1)] [] o dX6_takeDown_14 cw_X6_109 im_X6_goesWell se_X6_goesWell cf6 hR.o (m_goesWell hl hR 1 (by first | decide | omega)) rfl rfl (by decide) (by decide) (Nat.le_of_ble_eq_true rfl) ?_ (fun _ _ _ _ h => h.elim)
    rintro _ μ1 _ _ ⟨rfl, hR1, rfl⟩
    refine v_st [.int (bI false)] rfl ?_
    refine v_if_ne_b 22 o dX6_takeDown_17 (by decide) (fun c17 => absurd c17 (by simp_all)) (fun c17 => ?_)
    refine v_iconst 0 o dX6_takeDown_20 rfl ?_
    have e9 : sp_takeDown σ b is = (nI 0, uN σ 3 1 1) := by simp [sp_takeDown, th, hP]
    exact v_zret o dX6_takeDown_21 hr (by decide) (Nat.le_of_ble_eq_true rfl) (Nat.le_of_ble_eq_true rfl) (by rw [e9]; exact ⟨rfl, hR1, rfl⟩)
  | true =>
    obtain ⟨i, hi, rfl⟩ := isB_t hI hP
    have h6 := hI.1
    have h12 := hI.2.1 i
    have ti : tn (nI i) = i := tn_nI (by omega)
    refine Ct.of hl (by decide +kernel) (Nat.le_of_ble_eq_true rfl) ?_
    intro p e s mi args below meth c o hnm hr hx
    have o : Ok p l s mi args meth c g cX6_takeDown 4 RX6 := o
    refine v_lv [(0, .ref m), (1, .int (nI i)), (2, .int (bI is))] rfl ?_
    refine v_aload_n 0 o dX6_takeDown_0 rfl rfl ?_
    refine v_aload_n 0 o dX6_takeDown_1 rfl rfl ?_
    refine v_iload_n 1 o dX6_takeDown_2 rfl rfl ?_
    refine v_callVr (v := .int (bI (isB σ (nI i)))) [.int (nI i)] [.ref m] o dX6_takeDown_3 cw_X6_101 im_X6_isBook se_X6_isBook cf6 hR.o (m_isBook hl hR (nI i)) rfl rfl (by decide) ⟨rfl, rfl⟩ (by decide) (Nat.le_of_ble_eq_true rfl) ?_
    refine v_top (bI true) (by rw [hP]) ?_
    refine v_if_eq_b 13 o dX6_takeDown_6 (by decide) (fun c6 => absurd c6 (by simp_all)) (fun c6 => ?_)
    refine v_iconst 0 o dX6_takeDown_9 rfl ?_
    refine v_goto 14 o dX6_takeDown_10 (by decide) ?_
    refine v_callV [.int (nI 0)] [] o dX6_takeDown_14 cw_X6_109 im_X6_goesWell se_X6_goesWell cf6 hR.o (m_goesWell hl hR 0 (by first | decide | omega)) rfl rfl (by decide) (by decide) (Nat.le_of_ble_eq_true rfl) ?_ (fun _ _ _ _ h => h.elim)
    rintro _ μ2 _ _ ⟨rfl, hR2, rfl⟩
    refine v_st [.int (bI true)] rfl ?_
    refine v_if_ne_b 22 o dX6_takeDown_17 (by decide) (fun c17 => ?_) (fun c17 => absurd c17 (by simp_all))
    refine v_aload_n 0 o dX6_takeDown_22 rfl rfl ?_
    refine v_get (v := .ref (m + 8)) o dX6_takeDown_23 cf6 9 (by decide) fl_X6_32 hR2.o rfl ?_
    refine v_iload_n 1 o dX6_takeDown_26 rfl rfl ?_
    refine v_zald (bI (σ.2.1 1 i)) o dX6_takeDown_27 (by omega) (by decide) hR2.a8 rfl ?_
    refine v_istore_n [(3, .int (bI (σ.2.1 1 i))), (0, .ref m), (1, .int (nI i)), (2, .int (bI is))] o dX6_takeDown_28 rfl (by decide) rfl ?_
    refine v_aload_n 1 o dX6_takeDown_29 rfl rfl ?_
    refine v_get (v := .ref (m + 8)) o dX6_takeDown_30 cf6 9 (by decide) fl_X6_32 hR2.o rfl ?_
    refine v_iload_n 2 o dX6_takeDown_33 rfl rfl ?_
    refine v_iload_n 3 o dX6_takeDown_34 rfl rfl ?_
    refine v_zast o dX6_takeDown_35 (by omega) (by decide) (nar_bI _) hR2.a8 (fun μ3 e3 => ?_)
    have hR3 := hR2.p8 (i0 := i) (v := is) e3
    refine v_iload_n 0 o dX6_takeDown_36 rfl rfl ?_
    have e9 : sp_takeDown σ (nI i) is = (bI (σ.2.1 1 i), uB (uN σ 3 1 0) 1 i is) := by simp [sp_takeDown, th, hP, ti]
    exact v_zret o dX6_takeDown_37 hr (narrow_bI _) (Nat.le_of_ble_eq_true rfl) (Nat.le_of_ble_eq_true rfl) (by rw [e9]; exact ⟨rfl, hR3, rfl⟩)

set_option maxRecDepth 100000 in
set_option maxHeartbeats 4000000 in
theorem m_book {l : Launch} (hl : l.stackTraces = false) {g : mG} {m z : Nat} {μ0 μ : mM} {σ : Sg} (hR : RM g m μ0 σ μ) (hI : Inv σ) (a1 a2 a3 a4 a5 : Int32) : Ct l g yX6_book [Cond.code yX6_book cX6_book 7 (some .int)] { frames := 1, cells := 0, slots := 0, locals := 22 } [.ref m, .int a1, .int a2, .int a3, .int a4, .int a5] μ z (wrM g m μ0 (some (.int (sp_book σ a1 a2 a3 a4 a5).1)) (sp_book σ a1 a2 a3 a4 a5).2 z) noX := by
  cases h1 : inR a1 (nI 1) (nI 12) with
  | false =>
    refine Ct.of hl (by decide +kernel) (Nat.le_of_ble_eq_true rfl) ?_
    intro p e s mi args below meth c o hnm hr hx
    have o : Ok p l s mi args meth c g cX6_book 7 RX6 := o
    refine v_lv [(0, .ref m), (1, .int a1), (2, .int a2), (3, .int a3), (4, .int a4), (5, .int a5)] rfl ?_
    refine v_iload_n 1 o dX6_book_0 rfl rfl ?_
    refine v_iconst 1 o dX6_book_1 rfl ?_
    refine v_bipush 12 o dX6_book_2 (by decide) ?_
    refine v_callSr (v := .int (bI (inR a1 (nI 1) (nI 12)))) [.int a1, .int (nI 1), .int (nI 12)] [] o dX6_book_4 cw_X6_97 st_X6_in (m_in hl hR a1 (nI 1) (nI 12)) rfl rfl (by decide) ⟨rfl, rfl⟩ (by decide) (Nat.le_of_ble_eq_true rfl) ?_
    refine v_top (bI false) (by rw [h1]) ?_
    refine v_if_eq_b 67 o dX6_book_7 (by decide) (fun c7 => ?_) (fun c7 => absurd c7 (by simp_all))
    refine v_iconst 0 o dX6_book_67 rfl ?_
    refine v_istore [(6, .int (nI 0)), (0, .ref m), (1, .int a1), (2, .int a2), (3, .int a3), (4, .int a4), (5, .int a5)] o dX6_book_68 (by decide) rfl ?_
    refine v_aload_n 1 o dX6_book_70 rfl rfl ?_
    refine v_iload 0 o dX6_book_71 rfl ?_
    refine v_if_ne_n 80 o dX6_book_73 (by decide) (by decide) (fun c73 => absurd c73 (by omega)) (fun c73 => ?_)
    refine v_iconst 1 o dX6_book_76 rfl ?_
    refine v_goto 94 o dX6_book_77 (by decide) ?_
    refine v_callV [.int (nI 1)] [] o dX6_book_94 cw_X6_109 im_X6_goesWell se_X6_goesWell cf6 hR.o (m_goesWell hl hR 1 (by first | decide | omega)) rfl rfl (by decide) (by decide) (Nat.le_of_ble_eq_true rfl) ?_ (fun _ _ _ _ h => h.elim)
    rintro _ μ1 _ _ ⟨rfl, hR1, rfl⟩
    refine v_st [.int (bI false)] rfl ?_
    refine v_if_ne_b 102 o dX6_book_97 (by decide) (fun c97 => absurd c97 (by simp_all)) (fun c97 => ?_)
    refine v_iconst 0 o dX6_book_100 rfl ?_
    have e9 : sp_book σ a1 a2 a3 a4 a5 = (nI 0, uN σ 3 1 1) := by simp [sp_book, th, h1]
    exact v_iret o dX6_book_101 hr (Nat.le_of_ble_eq_true rfl) (Nat.le_of_ble_eq_true rfl) (by rw [e9]; exact ⟨rfl, hR1, rfl⟩)
  | true =>
    cases h2 : inR a2 (nI 60) (nI 180) with
    | false =>
      refine Ct.of hl (by decide +kernel) (Nat.le_of_ble_eq_true rfl) ?_
      intro p e s mi args below meth c o hnm hr hx
      have o : Ok p l s mi args meth c g cX6_book 7 RX6 := o
      refine v_lv [(0, .ref m), (1, .int a1), (2, .int a2), (3, .int a3), (4, .int a4), (5, .int a5)] rfl ?_
      refine v_iload_n 1 o dX6_book_0 rfl rfl ?_
      refine v_iconst 1 o dX6_book_1 rfl ?_
      refine v_bipush 12 o dX6_book_2 (by decide) ?_
      refine v_callSr (v := .int (bI (inR a1 (nI 1) (nI 12)))) [.int a1, .int (nI 1), .int (nI 12)] [] o dX6_book_4 cw_X6_97 st_X6_in (m_in hl hR a1 (nI 1) (nI 12)) rfl rfl (by decide) ⟨rfl, rfl⟩ (by decide) (Nat.le_of_ble_eq_true rfl) ?_
      refine v_top (bI true) (by rw [h1]) ?_
      refine v_if_eq_b 67 o dX6_book_7 (by decide) (fun c7 => absurd c7 (by simp_all)) (fun c7 => ?_)
      refine v_iload_n 2 o dX6_book_10 rfl rfl ?_
      refine v_bipush 60 o dX6_book_11 (by decide) ?_
      refine v_sipush 180 o dX6_book_13 (by decide) ?_
      refine v_callSr (v := .int (bI (inR a2 (nI 60) (nI 180)))) [.int a2, .int (nI 60), .int (nI 180)] [] o dX6_book_16 cw_X6_97 st_X6_in (m_in hl hR a2 (nI 60) (nI 180)) rfl rfl (by decide) ⟨rfl, rfl⟩ (by decide) (Nat.le_of_ble_eq_true rfl) ?_
      refine v_top (bI false) (by rw [h2]) ?_
      refine v_if_eq_b 67 o dX6_book_19 (by decide) (fun c19 => ?_) (fun c19 => absurd c19 (by simp_all))
      refine v_iconst 0 o dX6_book_67 rfl ?_
      refine v_istore [(6, .int (nI 0)), (0, .ref m), (1, .int a1), (2, .int a2), (3, .int a3), (4, .int a4), (5, .int a5)] o dX6_book_68 (by decide) rfl ?_
      refine v_aload_n 1 o dX6_book_70 rfl rfl ?_
      refine v_iload 0 o dX6_book_71 rfl ?_
      refine v_if_ne_n 80 o dX6_book_73 (by decide) (by decide) (fun c73 => absurd c73 (by omega)) (fun c73 => ?_)
      refine v_iconst 1 o dX6_book_76 rfl ?_
      refine v_goto 94 o dX6_book_77 (by decide) ?_
      refine v_callV [.int (nI 1)] [] o dX6_book_94 cw_X6_109 im_X6_goesWell se_X6_goesWell cf6 hR.o (m_goesWell hl hR 1 (by first | decide | omega)) rfl rfl (by decide) (by decide) (Nat.le_of_ble_eq_true rfl) ?_ (fun _ _ _ _ h => h.elim)
      rintro _ μ2 _ _ ⟨rfl, hR2, rfl⟩
      refine v_st [.int (bI false)] rfl ?_
      refine v_if_ne_b 102 o dX6_book_97 (by decide) (fun c97 => absurd c97 (by simp_all)) (fun c97 => ?_)
      refine v_iconst 0 o dX6_book_100 rfl ?_
      have e9 : sp_book σ a1 a2 a3 a4 a5 = (nI 0, uN σ 3 1 1) := by simp [sp_book, th, h1, h2]
      exact v_iret o dX6_book_101 hr (Nat.le_of_ble_eq_true rfl) (Nat.le_of_ble_eq_true rfl) (by rw [e9]; exact ⟨rfl, hR2, rfl⟩)
    | true =>
      cases h3 : inR a3 (nI 1) (nI 60) with
      | false =>
        refine Ct.of hl (by decide +kernel) (Nat.le_of_ble_eq_true rfl) ?_
        intro p e s mi args below meth c o hnm hr hx
        have o : Ok p l s mi args meth c g cX6_book 7 RX6 := o
        refine v_lv [(0, .ref m), (1, .int a1), (2, .int a2), (3, .int a3), (4, .int a4), (5, .int a5)] rfl ?_
        refine v_iload_n 1 o dX6_book_0 rfl rfl ?_
        refine v_iconst 1 o dX6_book_1 rfl ?_
        refine v_bipush 12 o dX6_book_2 (by decide) ?_
        refine v_callSr (v := .int (bI (inR a1 (nI 1) (nI 12)))) [.int a1, .int (nI 1), .int (nI 12)] [] o dX6_book_4 cw_X6_97 st_X6_in (m_in hl hR a1 (nI 1) (nI 12)) rfl rfl (by decide) ⟨rfl, rfl⟩ (by decide) (Nat.le_of_ble_eq_true rfl) ?_
        refine v_top (bI true) (by rw [h1]) ?_
        refine v_if_eq_b 67 o dX6_book_7 (by decide) (fun c7 => absurd c7 (by simp_all)) (fun c7 => ?_)
        refine v_iload_n 2 o dX6_book_10 rfl rfl ?_
        refine v_bipush 60 o dX6_book_11 (by decide) ?_
        refine v_sipush 180 o dX6_book_13 (by decide) ?_
        refine v_callSr (v := .int (bI (inR a2 (nI 60) (nI 180)))) [.int a2, .int (nI 60), .int (nI 180)] [] o dX6_book_16 cw_X6_97 st_X6_in (m_in hl hR a2 (nI 60) (nI 180)) rfl rfl (by decide) ⟨rfl, rfl⟩ (by decide) (Nat.le_of_ble_eq_true rfl) ?_
        refine v_top (bI true) (by rw [h2]) ?_
        refine v_if_eq_b 67 o dX6_book_19 (by decide) (fun c19 => absurd c19 (by simp_all)) (fun c19 => ?_)
        refine v_iload_n 3 o dX6_book_22 rfl rfl ?_
        refine v_iconst 1 o dX6_book_23 rfl ?_
        refine v_bipush 60 o dX6_book_24 (by decide) ?_
        refine v_callSr (v := .int (bI (inR a3 (nI 1) (nI 60)))) [.int a3, .int (nI 1), .int (nI 60)] [] o dX6_book_26 cw_X6_97 st_X6_in (m_in hl hR a3 (nI 1) (nI 60)) rfl rfl (by decide) ⟨rfl, rfl⟩ (by decide) (Nat.le_of_ble_eq_true rfl) ?_
        refine v_top (bI false) (by rw [h3]) ?_
        refine v_if_eq_b 67 o dX6_book_29 (by decide) (fun c29 => ?_) (fun c29 => absurd c29 (by simp_all))
        refine v_iconst 0 o dX6_book_67 rfl ?_
        refine v_istore [(6, .int (nI 0)), (0, .ref m), (1, .int a1), (2, .int a2), (3, .int a3), (4, .int a4), (5, .int a5)] o dX6_book_68 (by decide) rfl ?_
        refine v_aload_n 1 o dX6_book_70 rfl rfl ?_
        refine v_iload 0 o dX6_book_71 rfl ?_
        refine v_if_ne_n 80 o dX6_book_73 (by decide) (by decide) (fun c73 => absurd c73 (by omega)) (fun c73 => ?_)
        refine v_iconst 1 o dX6_book_76 rfl ?_
        refine v_goto 94 o dX6_book_77 (by decide) ?_
        refine v_callV [.int (nI 1)] [] o dX6_book_94 cw_X6_109 im_X6_goesWell se_X6_goesWell cf6 hR.o (m_goesWell hl hR 1 (by first | decide | omega)) rfl rfl (by decide) (by decide) (Nat.le_of_ble_eq_true rfl) ?_ (fun _ _ _ _ h => h.elim)
        rintro _ μ3 _ _ ⟨rfl, hR3, rfl⟩
        refine v_st [.int (bI false)] rfl ?_
        refine v_if_ne_b 102 o dX6_book_97 (by decide) (fun c97 => absurd c97 (by simp_all)) (fun c97 => ?_)
        refine v_iconst 0 o dX6_book_100 rfl ?_
        have e9 : sp_book σ a1 a2 a3 a4 a5 = (nI 0, uN σ 3 1 1) := by simp [sp_book, th, h1, h2, h3]
        exact v_iret o dX6_book_101 hr (Nat.le_of_ble_eq_true rfl) (Nat.le_of_ble_eq_true rfl) (by rw [e9]; exact ⟨rfl, hR3, rfl⟩)
      | true =>
        cases h4 : inR a4 (nI 0) (nI 9) with
        | false =>
          refine Ct.of hl (by decide +kernel) (Nat.le_of_ble_eq_true rfl) ?_
          intro p e s mi args below meth c o hnm hr hx
          have o : Ok p l s mi args meth c g cX6_book 7 RX6 := o
          refine v_lv [(0, .ref m), (1, .int a1), (2, .int a2), (3, .int a3), (4, .int a4), (5, .int a5)] rfl ?_
          refine v_iload_n 1 o dX6_book_0 rfl rfl ?_
          refine v_iconst 1 o dX6_book_1 rfl ?_
          refine v_bipush 12 o dX6_book_2 (by decide) ?_
          refine v_callSr (v := .int (bI (inR a1 (nI 1) (nI 12)))) [.int a1, .int (nI 1), .int (nI 12)] [] o dX6_book_4 cw_X6_97 st_X6_in (m_in hl hR a1 (nI 1) (nI 12)) rfl rfl (by decide) ⟨rfl, rfl⟩ (by decide) (Nat.le_of_ble_eq_true rfl) ?_
          refine v_top (bI true) (by rw [h1]) ?_
          refine v_if_eq_b 67 o dX6_book_7 (by decide) (fun c7 => absurd c7 (by simp_all)) (fun c7 => ?_)
          refine v_iload_n 2 o dX6_book_10 rfl rfl ?_
          refine v_bipush 60 o dX6_book_11 (by decide) ?_
          refine v_sipush 180 o dX6_book_13 (by decide) ?_
          refine v_callSr (v := .int (bI (inR a2 (nI 60) (nI 180)))) [.int a2, .int (nI 60), .int (nI 180)] [] o dX6_book_16 cw_X6_97 st_X6_in (m_in hl hR a2 (nI 60) (nI 180)) rfl rfl (by decide) ⟨rfl, rfl⟩ (by decide) (Nat.le_of_ble_eq_true rfl) ?_
          refine v_top (bI true) (by rw [h2]) ?_
          refine v_if_eq_b 67 o dX6_book_19 (by decide) (fun c19 => absurd c19 (by simp_all)) (fun c19 => ?_)
          refine v_iload_n 3 o dX6_book_22 rfl rfl ?_
          refine v_iconst 1 o dX6_book_23 rfl ?_
          refine v_bipush 60 o dX6_book_24 (by decide) ?_
          refine v_callSr (v := .int (bI (inR a3 (nI 1) (nI 60)))) [.int a3, .int (nI 1), .int (nI 60)] [] o dX6_book_26 cw_X6_97 st_X6_in (m_in hl hR a3 (nI 1) (nI 60)) rfl rfl (by decide) ⟨rfl, rfl⟩ (by decide) (Nat.le_of_ble_eq_true rfl) ?_
          refine v_top (bI true) (by rw [h3]) ?_
          refine v_if_eq_b 67 o dX6_book_29 (by decide) (fun c29 => absurd c29 (by simp_all)) (fun c29 => ?_)
          refine v_iload 4 o dX6_book_32 rfl ?_
          refine v_iconst 0 o dX6_book_34 rfl ?_
          refine v_bipush 9 o dX6_book_35 (by decide) ?_
          refine v_callSr (v := .int (bI (inR a4 (nI 0) (nI 9)))) [.int a4, .int (nI 0), .int (nI 9)] [] o dX6_book_37 cw_X6_97 st_X6_in (m_in hl hR a4 (nI 0) (nI 9)) rfl rfl (by decide) ⟨rfl, rfl⟩ (by decide) (Nat.le_of_ble_eq_true rfl) ?_
          refine v_top (bI false) (by rw [h4]) ?_
          refine v_if_eq_b 67 o dX6_book_40 (by decide) (fun c40 => ?_) (fun c40 => absurd c40 (by simp_all))
          refine v_iconst 0 o dX6_book_67 rfl ?_
          refine v_istore [(6, .int (nI 0)), (0, .ref m), (1, .int a1), (2, .int a2), (3, .int a3), (4, .int a4), (5, .int a5)] o dX6_book_68 (by decide) rfl ?_
          refine v_aload_n 1 o dX6_book_70 rfl rfl ?_
          refine v_iload 0 o dX6_book_71 rfl ?_
          refine v_if_ne_n 80 o dX6_book_73 (by decide) (by decide) (fun c73 => absurd c73 (by omega)) (fun c73 => ?_)
          refine v_iconst 1 o dX6_book_76 rfl ?_
          refine v_goto 94 o dX6_book_77 (by decide) ?_
          refine v_callV [.int (nI 1)] [] o dX6_book_94 cw_X6_109 im_X6_goesWell se_X6_goesWell cf6 hR.o (m_goesWell hl hR 1 (by first | decide | omega)) rfl rfl (by decide) (by decide) (Nat.le_of_ble_eq_true rfl) ?_ (fun _ _ _ _ h => h.elim)
          rintro _ μ4 _ _ ⟨rfl, hR4, rfl⟩
          refine v_st [.int (bI false)] rfl ?_
          refine v_if_ne_b 102 o dX6_book_97 (by decide) (fun c97 => absurd c97 (by simp_all)) (fun c97 => ?_)
          refine v_iconst 0 o dX6_book_100 rfl ?_
          have e9 : sp_book σ a1 a2 a3 a4 a5 = (nI 0, uN σ 3 1 1) := by simp [sp_book, th, h1, h2, h3, h4]
          exact v_iret o dX6_book_101 hr (Nat.le_of_ble_eq_true rfl) (Nat.le_of_ble_eq_true rfl) (by rw [e9]; exact ⟨rfl, hR4, rfl⟩)
        | true =>
          cases h5 : inR a5 (nI 1500) (nI 3000) with
          | false =>
            obtain ⟨w, hwa, hwb, rfl⟩ := inR_nat (a := 1) (b := 12) h1 (by decide) (by decide)
            have tw : tn (nI w) = w := tn_nI (by omega)
            have h6 := hI.1
            refine Ct.of hl (by decide +kernel) (Nat.le_of_ble_eq_true rfl) ?_
            intro p e s mi args below meth c o hnm hr hx
            have o : Ok p l s mi args meth c g cX6_book 7 RX6 := o
            refine v_lv [(0, .ref m), (1, .int (nI w)), (2, .int a2), (3, .int a3), (4, .int a4), (5, .int a5)] rfl ?_
            refine v_iload_n 1 o dX6_book_0 rfl rfl ?_
            refine v_iconst 1 o dX6_book_1 rfl ?_
            refine v_bipush 12 o dX6_book_2 (by decide) ?_
            refine v_callSr (v := .int (bI (inR (nI w) (nI 1) (nI 12)))) [.int (nI w), .int (nI 1), .int (nI 12)] [] o dX6_book_4 cw_X6_97 st_X6_in (m_in hl hR (nI w) (nI 1) (nI 12)) rfl rfl (by decide) ⟨rfl, rfl⟩ (by decide) (Nat.le_of_ble_eq_true rfl) ?_
            refine v_top (bI true) (by rw [h1]) ?_
            refine v_if_eq_b 67 o dX6_book_7 (by decide) (fun c7 => absurd c7 (by simp_all)) (fun c7 => ?_)
            refine v_iload_n 2 o dX6_book_10 rfl rfl ?_
            refine v_bipush 60 o dX6_book_11 (by decide) ?_
            refine v_sipush 180 o dX6_book_13 (by decide) ?_
            refine v_callSr (v := .int (bI (inR a2 (nI 60) (nI 180)))) [.int a2, .int (nI 60), .int (nI 180)] [] o dX6_book_16 cw_X6_97 st_X6_in (m_in hl hR a2 (nI 60) (nI 180)) rfl rfl (by decide) ⟨rfl, rfl⟩ (by decide) (Nat.le_of_ble_eq_true rfl) ?_
            refine v_top (bI true) (by rw [h2]) ?_
            refine v_if_eq_b 67 o dX6_book_19 (by decide) (fun c19 => absurd c19 (by simp_all)) (fun c19 => ?_)
            refine v_iload_n 3 o dX6_book_22 rfl rfl ?_
            refine v_iconst 1 o dX6_book_23 rfl ?_
            refine v_bipush 60 o dX6_book_24 (by decide) ?_
            refine v_callSr (v := .int (bI (inR a3 (nI 1) (nI 60)))) [.int a3, .int (nI 1), .int (nI 60)] [] o dX6_book_26 cw_X6_97 st_X6_in (m_in hl hR a3 (nI 1) (nI 60)) rfl rfl (by decide) ⟨rfl, rfl⟩ (by decide) (Nat.le_of_ble_eq_true rfl) ?_
            refine v_top (bI true) (by rw [h3]) ?_
            refine v_if_eq_b 67 o dX6_book_29 (by decide) (fun c29 => absurd c29 (by simp_all)) (fun c29 => ?_)
            refine v_iload 4 o dX6_book_32 rfl ?_
            refine v_iconst 0 o dX6_book_34 rfl ?_
            refine v_bipush 9 o dX6_book_35 (by decide) ?_
            refine v_callSr (v := .int (bI (inR a4 (nI 0) (nI 9)))) [.int a4, .int (nI 0), .int (nI 9)] [] o dX6_book_37 cw_X6_97 st_X6_in (m_in hl hR a4 (nI 0) (nI 9)) rfl rfl (by decide) ⟨rfl, rfl⟩ (by decide) (Nat.le_of_ble_eq_true rfl) ?_
            refine v_top (bI true) (by rw [h4]) ?_
            refine v_if_eq_b 67 o dX6_book_40 (by decide) (fun c40 => absurd c40 (by simp_all)) (fun c40 => ?_)
            refine v_iload 5 o dX6_book_43 rfl ?_
            refine v_iconst_i (-1) o dX6_book_45 (by decide) ?_
            refine v_icmp_eq 63 o dX6_book_46 (by decide) (fun c46 => ?_) (fun c46 => ?_)
            · refine v_iconst 1 o dX6_book_63 rfl ?_
              refine v_goto 68 o dX6_book_64 (by decide) ?_
              refine v_istore [(6, .int (nI 1)), (0, .ref m), (1, .int (nI w)), (2, .int a2), (3, .int a3), (4, .int a4), (5, .int a5)] o dX6_book_68 (by decide) rfl ?_
              refine v_aload_n 1 o dX6_book_70 rfl rfl ?_
              refine v_iload 0 o dX6_book_71 rfl ?_
              refine v_if_ne_n 80 o dX6_book_73 (by decide) (by decide) (fun c73 => ?_) (fun c73 => absurd c73 (by omega))
              refine v_aload_n 1 o dX6_book_80 rfl rfl ?_
              refine v_get (v := .int (nI (σ.1 3 0))) o dX6_book_81 cf6 1 (by decide) fl_X6_94 hR.o rfl ?_
              refine v_bipush 6 o dX6_book_84 (by decide) ?_
              refine v_icmp_ne_n 93 o dX6_book_86 (by decide) (by omega) (by decide) (fun c86 => ?_) (fun c86 => ?_)
              · refine v_iconst 0 o dX6_book_93 rfl ?_
                refine v_callV [.int (nI 0)] [] o dX6_book_94 cw_X6_109 im_X6_goesWell se_X6_goesWell cf6 hR.o (m_goesWell hl hR 0 (by first | decide | omega)) rfl rfl (by decide) (by decide) (Nat.le_of_ble_eq_true rfl) ?_ (fun _ _ _ _ h => h.elim)
                rintro _ μ5 _ _ ⟨rfl, hR5, rfl⟩
                refine v_st [.int (bI true)] rfl ?_
                refine v_if_ne_b 102 o dX6_book_97 (by decide) (fun c97 => ?_) (fun c97 => absurd c97 (by simp_all))
                refine v_aload_n 1 o dX6_book_102 rfl rfl ?_
                refine v_get (v := .ref (m + 1)) o dX6_book_103 cf6 2 (by decide) fl_X6_7 hR5.o rfl ?_
                refine v_aload_n 1 o dX6_book_106 rfl rfl ?_
                refine v_get (v := .int (nI (σ.1 3 0))) o dX6_book_107 cf6 1 (by decide) fl_X6_94 hR5.o rfl ?_
                refine v_iload_n 2 o dX6_book_110 rfl rfl ?_
                refine v_iast o dX6_book_111 (by omega) (by decide) hR5.a1 (fun μ6 e6 => ?_)
                have hR6 := hR5.p1 (i0 := σ.1 3 0) (v := w) e6
                refine v_aload_n 1 o dX6_book_112 rfl rfl ?_
                refine v_get (v := .ref (m + 2)) o dX6_book_113 cf6 3 (by decide) fl_X6_13 hR6.o rfl ?_
                refine v_aload_n 1 o dX6_book_116 rfl rfl ?_
                refine v_get (v := .int (nI (σ.1 3 0))) o dX6_book_117 cf6 1 (by decide) fl_X6_94 hR6.o rfl ?_
                refine v_iload_n 3 o dX6_book_120 rfl rfl ?_
                refine v_iast o dX6_book_121 (by omega) (by decide) hR6.a2 (fun μ7 e7 => ?_)
                have hR7 := hR6.p2 (i0 := σ.1 3 0) (v := a2) e7
                refine v_aload_n 1 o dX6_book_122 rfl rfl ?_
                refine v_get (v := .ref (m + 3)) o dX6_book_123 cf6 4 (by decide) fl_X6_16 hR7.o rfl ?_
                refine v_aload_n 1 o dX6_book_126 rfl rfl ?_
                refine v_get (v := .int (nI (σ.1 3 0))) o dX6_book_127 cf6 1 (by decide) fl_X6_94 hR7.o rfl ?_
                refine v_iload_n 4 o dX6_book_130 rfl rfl ?_
                refine v_iast o dX6_book_131 (by omega) (by decide) hR7.a3 (fun μ8 e8 => ?_)
                have hR8 := hR7.p3 (i0 := σ.1 3 0) (v := a3) e8
                refine v_aload_n 1 o dX6_book_132 rfl rfl ?_
                refine v_get (v := .ref (m + 4)) o dX6_book_133 cf6 5 (by decide) fl_X6_19 hR8.o rfl ?_
                refine v_aload_n 1 o dX6_book_136 rfl rfl ?_
                refine v_get (v := .int (nI (σ.1 3 0))) o dX6_book_137 cf6 1 (by decide) fl_X6_94 hR8.o rfl ?_
                refine v_iload 5 o dX6_book_140 rfl ?_
                refine v_iast o dX6_book_142 (by omega) (by decide) hR8.a4 (fun μ9 e9 => ?_)
                have hR9 := hR8.p4 (i0 := σ.1 3 0) (v := a4) e9
                refine v_aload_n 1 o dX6_book_143 rfl rfl ?_
                refine v_get (v := .ref (m + 5)) o dX6_book_144 cf6 6 (by decide) fl_X6_22 hR9.o rfl ?_
                refine v_aload_n 1 o dX6_book_147 rfl rfl ?_
                refine v_get (v := .int (nI (σ.1 3 0))) o dX6_book_148 cf6 1 (by decide) fl_X6_94 hR9.o rfl ?_
                refine v_iload 6 o dX6_book_151 rfl ?_
                refine v_iast o dX6_book_153 (by omega) (by decide) hR9.a5 (fun μ10 e10 => ?_)
                have hR10 := hR9.p5 (i0 := σ.1 3 0) (v := a5) e10
                refine v_aload_n 1 o dX6_book_154 rfl rfl ?_
                refine v_dup o dX6_book_155 rfl ?_
                refine v_get (v := .int (nI (σ.1 3 0))) o dX6_book_156 cf6 1 (by decide) fl_X6_94 hR10.o rfl ?_
                refine v_iconst 1 o dX6_book_159 rfl ?_
                refine v_iadd (nI (σ.1 3 0 + 1)) o dX6_book_160 (nI_add (σ.1 3 0) 1) ?_
                refine v_put _ o dX6_book_161 cf6 1 (by decide) (by decide) fl_X6_94 hR10.o rfl rfl (Nat.le_of_ble_eq_true rfl) rfl (fun μ11 e11 => ?_)
                have hR11 := hR10.s_books (v := σ.1 3 0 + 1) e11
                refine v_aload_n 1 o dX6_book_164 rfl rfl ?_
                refine v_get (v := .int (nI (σ.1 3 0 + 1))) o dX6_book_165 cf6 1 (by decide) fl_X6_94 hR11.o rfl ?_
                refine v_iconst 1 o dX6_book_168 rfl ?_
                refine v_isub (nI (σ.1 3 0)) o dX6_book_169 (nI_pred _) ?_
                have e9 : sp_book σ (nI w) a2 a3 a4 a5 = (nI (σ.1 3 0), uN (uI (uI (uI (uI (uN (uN σ 3 1 0) 0 (σ.1 3 0) w) 0 (σ.1 3 0) a2) 1 (σ.1 3 0) a3) 2 (σ.1 3 0) a4) 3 (σ.1 3 0) a5) 3 0 (σ.1 3 0 + 1)) := by simp [sp_book, th, h1, h2, h3, h4, h5, tw, c46, c86]
                exact v_iret o dX6_book_170 hr (Nat.le_of_ble_eq_true rfl) (Nat.le_of_ble_eq_true rfl) (by rw [e9]; exact ⟨rfl, hR11, rfl⟩)
              · refine v_iconst 2 o dX6_book_89 rfl ?_
                refine v_goto 94 o dX6_book_90 (by decide) ?_
                refine v_callV [.int (nI 2)] [] o dX6_book_94 cw_X6_109 im_X6_goesWell se_X6_goesWell cf6 hR.o (m_goesWell hl hR 2 (by first | decide | omega)) rfl rfl (by decide) (by decide) (Nat.le_of_ble_eq_true rfl) ?_ (fun _ _ _ _ h => h.elim)
                rintro _ μ12 _ _ ⟨rfl, hR12, rfl⟩
                refine v_st [.int (bI false)] rfl ?_
                refine v_if_ne_b 102 o dX6_book_97 (by decide) (fun c97 => absurd c97 (by simp_all)) (fun c97 => ?_)
                refine v_iconst 0 o dX6_book_100 rfl ?_
                have e9 : sp_book σ (nI w) a2 a3 a4 a5 = (nI 0, uN σ 3 1 2) := by simp [sp_book, th, h1, h2, h3, h4, h5, tw, c46, c86]
                exact v_iret o dX6_book_101 hr (Nat.le_of_ble_eq_true rfl) (Nat.le_of_ble_eq_true rfl) (by rw [e9]; exact ⟨rfl, hR12, rfl⟩)
            · refine v_iload 5 o dX6_book_49 rfl ?_
              refine v_sipush 1500 o dX6_book_51 (by decide) ?_
              refine v_sipush 3000 o dX6_book_54 (by decide) ?_
              refine v_callSr (v := .int (bI (inR a5 (nI 1500) (nI 3000)))) [.int a5, .int (nI 1500), .int (nI 3000)] [] o dX6_book_57 cw_X6_97 st_X6_in (m_in hl hR a5 (nI 1500) (nI 3000)) rfl rfl (by decide) ⟨rfl, rfl⟩ (by decide) (Nat.le_of_ble_eq_true rfl) ?_
              refine v_top (bI false) (by rw [h5]) ?_
              refine v_if_eq_b 67 o dX6_book_60 (by decide) (fun c60 => ?_) (fun c60 => absurd c60 (by simp_all))
              refine v_iconst 0 o dX6_book_67 rfl ?_
              refine v_istore [(6, .int (nI 0)), (0, .ref m), (1, .int (nI w)), (2, .int a2), (3, .int a3), (4, .int a4), (5, .int a5)] o dX6_book_68 (by decide) rfl ?_
              refine v_aload_n 1 o dX6_book_70 rfl rfl ?_
              refine v_iload 0 o dX6_book_71 rfl ?_
              refine v_if_ne_n 80 o dX6_book_73 (by decide) (by decide) (fun c73 => absurd c73 (by omega)) (fun c73 => ?_)
              refine v_iconst 1 o dX6_book_76 rfl ?_
              refine v_goto 94 o dX6_book_77 (by decide) ?_
              refine v_callV [.int (nI 1)] [] o dX6_book_94 cw_X6_109 im_X6_goesWell se_X6_goesWell cf6 hR.o (m_goesWell hl hR 1 (by first | decide | omega)) rfl rfl (by decide) (by decide) (Nat.le_of_ble_eq_true rfl) ?_ (fun _ _ _ _ h => h.elim)
              rintro _ μ13 _ _ ⟨rfl, hR13, rfl⟩
              refine v_st [.int (bI false)] rfl ?_
              refine v_if_ne_b 102 o dX6_book_97 (by decide) (fun c97 => absurd c97 (by simp_all)) (fun c97 => ?_)
              refine v_iconst 0 o dX6_book_100 rfl ?_
              have e9 : sp_book σ (nI w) a2 a3 a4 a5 = (nI 0, uN σ 3 1 1) := by simp [sp_book, th, h1, h2, h3, h4, h5, tw, c46]
              exact v_iret o dX6_book_101 hr (Nat.le_of_ble_eq_true rfl) (Nat.le_of_ble_eq_true rfl) (by rw [e9]; exact ⟨rfl, hR13, rfl⟩)
          | true =>
            obtain ⟨w, hwa, hwb, rfl⟩ := inR_nat (a := 1) (b := 12) h1 (by decide) (by decide)
            have tw : tn (nI w) = w := tn_nI (by omega)
            have h6 := hI.1
            refine Ct.of hl (by decide +kernel) (Nat.le_of_ble_eq_true rfl) ?_
            intro p e s mi args below meth c o hnm hr hx
            have o : Ok p l s mi args meth c g cX6_book 7 RX6 := o
            refine v_lv [(0, .ref m), (1, .int (nI w)), (2, .int a2), (3, .int a3), (4, .int a4), (5, .int a5)] rfl ?_
            refine v_iload_n 1 o dX6_book_0 rfl rfl ?_
            refine v_iconst 1 o dX6_book_1 rfl ?_
            refine v_bipush 12 o dX6_book_2 (by decide) ?_
            refine v_callSr (v := .int (bI (inR (nI w) (nI 1) (nI 12)))) [.int (nI w), .int (nI 1), .int (nI 12)] [] o dX6_book_4 cw_X6_97 st_X6_in (m_in hl hR (nI w) (nI 1) (nI 12)) rfl rfl (by decide) ⟨rfl, rfl⟩ (by decide) (Nat.le_of_ble_eq_true rfl) ?_
            refine v_top (bI true) (by rw [h1]) ?_
            refine v_if_eq_b 67 o dX6_book_7 (by decide) (fun c7 => absurd c7 (by simp_all)) (fun c7 => ?_)
            refine v_iload_n 2 o dX6_book_10 rfl rfl ?_
            refine v_bipush 60 o dX6_book_11 (by decide) ?_
            refine v_sipush 180 o dX6_book_13 (by decide) ?_
            refine v_callSr (v := .int (bI (inR a2 (nI 60) (nI 180)))) [.int a2, .int (nI 60), .int (nI 180)] [] o dX6_book_16 cw_X6_97 st_X6_in (m_in hl hR a2 (nI 60) (nI 180)) rfl rfl (by decide) ⟨rfl, rfl⟩ (by decide) (Nat.le_of_ble_eq_true rfl) ?_
            refine v_top (bI true) (by rw [h2]) ?_
            refine v_if_eq_b 67 o dX6_book_19 (by decide) (fun c19 => absurd c19 (by simp_all)) (fun c19 => ?_)
            refine v_iload_n 3 o dX6_book_22 rfl rfl ?_
            refine v_iconst 1 o dX6_book_23 rfl ?_
            refine v_bipush 60 o dX6_book_24 (by decide) ?_
            refine v_callSr (v := .int (bI (inR a3 (nI 1) (nI 60)))) [.int a3, .int (nI 1), .int (nI 60)] [] o dX6_book_26 cw_X6_97 st_X6_in (m_in hl hR a3 (nI 1) (nI 60)) rfl rfl (by decide) ⟨rfl, rfl⟩ (by decide) (Nat.le_of_ble_eq_true rfl) ?_
            refine v_top (bI true) (by rw [h3]) ?_
            refine v_if_eq_b 67 o dX6_book_29 (by decide) (fun c29 => absurd c29 (by simp_all)) (fun c29 => ?_)
            refine v_iload 4 o dX6_book_32 rfl ?_
            refine v_iconst 0 o dX6_book_34 rfl ?_
            refine v_bipush 9 o dX6_book_35 (by decide) ?_
            refine v_callSr (v := .int (bI (inR a4 (nI 0) (nI 9)))) [.int a4, .int (nI 0), .int (nI 9)] [] o dX6_book_37 cw_X6_97 st_X6_in (m_in hl hR a4 (nI 0) (nI 9)) rfl rfl (by decide) ⟨rfl, rfl⟩ (by decide) (Nat.le_of_ble_eq_true rfl) ?_
            refine v_top (bI true) (by rw [h4]) ?_
            refine v_if_eq_b 67 o dX6_book_40 (by decide) (fun c40 => absurd c40 (by simp_all)) (fun c40 => ?_)
            refine v_iload 5 o dX6_book_43 rfl ?_
            refine v_iconst_i (-1) o dX6_book_45 (by decide) ?_
            refine v_icmp_eq 63 o dX6_book_46 (by decide) (fun c46 => ?_) (fun c46 => ?_)
            · refine v_iconst 1 o dX6_book_63 rfl ?_
              refine v_goto 68 o dX6_book_64 (by decide) ?_
              refine v_istore [(6, .int (nI 1)), (0, .ref m), (1, .int (nI w)), (2, .int a2), (3, .int a3), (4, .int a4), (5, .int a5)] o dX6_book_68 (by decide) rfl ?_
              refine v_aload_n 1 o dX6_book_70 rfl rfl ?_
              refine v_iload 0 o dX6_book_71 rfl ?_
              refine v_if_ne_n 80 o dX6_book_73 (by decide) (by decide) (fun c73 => ?_) (fun c73 => absurd c73 (by omega))
              refine v_aload_n 1 o dX6_book_80 rfl rfl ?_
              refine v_get (v := .int (nI (σ.1 3 0))) o dX6_book_81 cf6 1 (by decide) fl_X6_94 hR.o rfl ?_
              refine v_bipush 6 o dX6_book_84 (by decide) ?_
              refine v_icmp_ne_n 93 o dX6_book_86 (by decide) (by omega) (by decide) (fun c86 => ?_) (fun c86 => ?_)
              · refine v_iconst 0 o dX6_book_93 rfl ?_
                refine v_callV [.int (nI 0)] [] o dX6_book_94 cw_X6_109 im_X6_goesWell se_X6_goesWell cf6 hR.o (m_goesWell hl hR 0 (by first | decide | omega)) rfl rfl (by decide) (by decide) (Nat.le_of_ble_eq_true rfl) ?_ (fun _ _ _ _ h => h.elim)
                rintro _ μ14 _ _ ⟨rfl, hR14, rfl⟩
                refine v_st [.int (bI true)] rfl ?_
                refine v_if_ne_b 102 o dX6_book_97 (by decide) (fun c97 => ?_) (fun c97 => absurd c97 (by simp_all))
                refine v_aload_n 1 o dX6_book_102 rfl rfl ?_
                refine v_get (v := .ref (m + 1)) o dX6_book_103 cf6 2 (by decide) fl_X6_7 hR14.o rfl ?_
                refine v_aload_n 1 o dX6_book_106 rfl rfl ?_
                refine v_get (v := .int (nI (σ.1 3 0))) o dX6_book_107 cf6 1 (by decide) fl_X6_94 hR14.o rfl ?_
                refine v_iload_n 2 o dX6_book_110 rfl rfl ?_
                refine v_iast o dX6_book_111 (by omega) (by decide) hR14.a1 (fun μ15 e15 => ?_)
                have hR15 := hR14.p1 (i0 := σ.1 3 0) (v := w) e15
                refine v_aload_n 1 o dX6_book_112 rfl rfl ?_
                refine v_get (v := .ref (m + 2)) o dX6_book_113 cf6 3 (by decide) fl_X6_13 hR15.o rfl ?_
                refine v_aload_n 1 o dX6_book_116 rfl rfl ?_
                refine v_get (v := .int (nI (σ.1 3 0))) o dX6_book_117 cf6 1 (by decide) fl_X6_94 hR15.o rfl ?_
                refine v_iload_n 3 o dX6_book_120 rfl rfl ?_
                refine v_iast o dX6_book_121 (by omega) (by decide) hR15.a2 (fun μ16 e16 => ?_)
                have hR16 := hR15.p2 (i0 := σ.1 3 0) (v := a2) e16
                refine v_aload_n 1 o dX6_book_122 rfl rfl ?_
                refine v_get (v := .ref (m + 3)) o dX6_book_123 cf6 4 (by decide) fl_X6_16 hR16.o rfl ?_
                refine v_aload_n 1 o dX6_book_126 rfl rfl ?_
                refine v_get (v := .int (nI (σ.1 3 0))) o dX6_book_127 cf6 1 (by decide) fl_X6_94 hR16.o rfl ?_
                refine v_iload_n 4 o dX6_book_130 rfl rfl ?_
                refine v_iast o dX6_book_131 (by omega) (by decide) hR16.a3 (fun μ17 e17 => ?_)
                have hR17 := hR16.p3 (i0 := σ.1 3 0) (v := a3) e17
                refine v_aload_n 1 o dX6_book_132 rfl rfl ?_
                refine v_get (v := .ref (m + 4)) o dX6_book_133 cf6 5 (by decide) fl_X6_19 hR17.o rfl ?_
                refine v_aload_n 1 o dX6_book_136 rfl rfl ?_
                refine v_get (v := .int (nI (σ.1 3 0))) o dX6_book_137 cf6 1 (by decide) fl_X6_94 hR17.o rfl ?_
                refine v_iload 5 o dX6_book_140 rfl ?_
                refine v_iast o dX6_book_142 (by omega) (by decide) hR17.a4 (fun μ18 e18 => ?_)
                have hR18 := hR17.p4 (i0 := σ.1 3 0) (v := a4) e18
                refine v_aload_n 1 o dX6_book_143 rfl rfl ?_
                refine v_get (v := .ref (m + 5)) o dX6_book_144 cf6 6 (by decide) fl_X6_22 hR18.o rfl ?_
                refine v_aload_n 1 o dX6_book_147 rfl rfl ?_
                refine v_get (v := .int (nI (σ.1 3 0))) o dX6_book_148 cf6 1 (by decide) fl_X6_94 hR18.o rfl ?_
                refine v_iload 6 o dX6_book_151 rfl ?_
                refine v_iast o dX6_book_153 (by omega) (by decide) hR18.a5 (fun μ19 e19 => ?_)
                have hR19 := hR18.p5 (i0 := σ.1 3 0) (v := a5) e19
                refine v_aload_n 1 o dX6_book_154 rfl rfl ?_
                refine v_dup o dX6_book_155 rfl ?_
                refine v_get (v := .int (nI (σ.1 3 0))) o dX6_book_156 cf6 1 (by decide) fl_X6_94 hR19.o rfl ?_
                refine v_iconst 1 o dX6_book_159 rfl ?_
                refine v_iadd (nI (σ.1 3 0 + 1)) o dX6_book_160 (nI_add (σ.1 3 0) 1) ?_
                refine v_put _ o dX6_book_161 cf6 1 (by decide) (by decide) fl_X6_94 hR19.o rfl rfl (Nat.le_of_ble_eq_true rfl) rfl (fun μ20 e20 => ?_)
                have hR20 := hR19.s_books (v := σ.1 3 0 + 1) e20
                refine v_aload_n 1 o dX6_book_164 rfl rfl ?_
                refine v_get (v := .int (nI (σ.1 3 0 + 1))) o dX6_book_165 cf6 1 (by decide) fl_X6_94 hR20.o rfl ?_
                refine v_iconst 1 o dX6_book_168 rfl ?_
                refine v_isub (nI (σ.1 3 0)) o dX6_book_169 (nI_pred _) ?_
                have e9 : sp_book σ (nI w) a2 a3 a4 a5 = (nI (σ.1 3 0), uN (uI (uI (uI (uI (uN (uN σ 3 1 0) 0 (σ.1 3 0) w) 0 (σ.1 3 0) a2) 1 (σ.1 3 0) a3) 2 (σ.1 3 0) a4) 3 (σ.1 3 0) a5) 3 0 (σ.1 3 0 + 1)) := by simp [sp_book, th, h1, h2, h3, h4, h5, tw, c46, c86]
                exact v_iret o dX6_book_170 hr (Nat.le_of_ble_eq_true rfl) (Nat.le_of_ble_eq_true rfl) (by rw [e9]; exact ⟨rfl, hR20, rfl⟩)
              · refine v_iconst 2 o dX6_book_89 rfl ?_
                refine v_goto 94 o dX6_book_90 (by decide) ?_
                refine v_callV [.int (nI 2)] [] o dX6_book_94 cw_X6_109 im_X6_goesWell se_X6_goesWell cf6 hR.o (m_goesWell hl hR 2 (by first | decide | omega)) rfl rfl (by decide) (by decide) (Nat.le_of_ble_eq_true rfl) ?_ (fun _ _ _ _ h => h.elim)
                rintro _ μ21 _ _ ⟨rfl, hR21, rfl⟩
                refine v_st [.int (bI false)] rfl ?_
                refine v_if_ne_b 102 o dX6_book_97 (by decide) (fun c97 => absurd c97 (by simp_all)) (fun c97 => ?_)
                refine v_iconst 0 o dX6_book_100 rfl ?_
                have e9 : sp_book σ (nI w) a2 a3 a4 a5 = (nI 0, uN σ 3 1 2) := by simp [sp_book, th, h1, h2, h3, h4, h5, tw, c46, c86]
                exact v_iret o dX6_book_101 hr (Nat.le_of_ble_eq_true rfl) (Nat.le_of_ble_eq_true rfl) (by rw [e9]; exact ⟨rfl, hR21, rfl⟩)
            · refine v_iload 5 o dX6_book_49 rfl ?_
              refine v_sipush 1500 o dX6_book_51 (by decide) ?_
              refine v_sipush 3000 o dX6_book_54 (by decide) ?_
              refine v_callSr (v := .int (bI (inR a5 (nI 1500) (nI 3000)))) [.int a5, .int (nI 1500), .int (nI 3000)] [] o dX6_book_57 cw_X6_97 st_X6_in (m_in hl hR a5 (nI 1500) (nI 3000)) rfl rfl (by decide) ⟨rfl, rfl⟩ (by decide) (Nat.le_of_ble_eq_true rfl) ?_
              refine v_top (bI true) (by rw [h5]) ?_
              refine v_if_eq_b 67 o dX6_book_60 (by decide) (fun c60 => absurd c60 (by simp_all)) (fun c60 => ?_)
              refine v_iconst 1 o dX6_book_63 rfl ?_
              refine v_goto 68 o dX6_book_64 (by decide) ?_
              refine v_istore [(6, .int (nI 1)), (0, .ref m), (1, .int (nI w)), (2, .int a2), (3, .int a3), (4, .int a4), (5, .int a5)] o dX6_book_68 (by decide) rfl ?_
              refine v_aload_n 1 o dX6_book_70 rfl rfl ?_
              refine v_iload 0 o dX6_book_71 rfl ?_
              refine v_if_ne_n 80 o dX6_book_73 (by decide) (by decide) (fun c73 => ?_) (fun c73 => absurd c73 (by omega))
              refine v_aload_n 1 o dX6_book_80 rfl rfl ?_
              refine v_get (v := .int (nI (σ.1 3 0))) o dX6_book_81 cf6 1 (by decide) fl_X6_94 hR.o rfl ?_
              refine v_bipush 6 o dX6_book_84 (by decide) ?_
              refine v_icmp_ne_n 93 o dX6_book_86 (by decide) (by omega) (by decide) (fun c86 => ?_) (fun c86 => ?_)
              · refine v_iconst 0 o dX6_book_93 rfl ?_
                refine v_callV [.int (nI 0)] [] o dX6_book_94 cw_X6_109 im_X6_goesWell se_X6_goesWell cf6 hR.o (m_goesWell hl hR 0 (by first | decide | omega)) rfl rfl (by decide) (by decide) (Nat.le_of_ble_eq_true rfl) ?_ (fun _ _ _ _ h => h.elim)
                rintro _ μ22 _ _ ⟨rfl, hR22, rfl⟩
                refine v_st [.int (bI true)] rfl ?_
                refine v_if_ne_b 102 o dX6_book_97 (by decide) (fun c97 => ?_) (fun c97 => absurd c97 (by simp_all))
                refine v_aload_n 1 o dX6_book_102 rfl rfl ?_
                refine v_get (v := .ref (m + 1)) o dX6_book_103 cf6 2 (by decide) fl_X6_7 hR22.o rfl ?_
                refine v_aload_n 1 o dX6_book_106 rfl rfl ?_
                refine v_get (v := .int (nI (σ.1 3 0))) o dX6_book_107 cf6 1 (by decide) fl_X6_94 hR22.o rfl ?_
                refine v_iload_n 2 o dX6_book_110 rfl rfl ?_
                refine v_iast o dX6_book_111 (by omega) (by decide) hR22.a1 (fun μ23 e23 => ?_)
                have hR23 := hR22.p1 (i0 := σ.1 3 0) (v := w) e23
                refine v_aload_n 1 o dX6_book_112 rfl rfl ?_
                refine v_get (v := .ref (m + 2)) o dX6_book_113 cf6 3 (by decide) fl_X6_13 hR23.o rfl ?_
                refine v_aload_n 1 o dX6_book_116 rfl rfl ?_
                refine v_get (v := .int (nI (σ.1 3 0))) o dX6_book_117 cf6 1 (by decide) fl_X6_94 hR23.o rfl ?_
                refine v_iload_n 3 o dX6_book_120 rfl rfl ?_
                refine v_iast o dX6_book_121 (by omega) (by decide) hR23.a2 (fun μ24 e24 => ?_)
                have hR24 := hR23.p2 (i0 := σ.1 3 0) (v := a2) e24
                refine v_aload_n 1 o dX6_book_122 rfl rfl ?_
                refine v_get (v := .ref (m + 3)) o dX6_book_123 cf6 4 (by decide) fl_X6_16 hR24.o rfl ?_
                refine v_aload_n 1 o dX6_book_126 rfl rfl ?_
                refine v_get (v := .int (nI (σ.1 3 0))) o dX6_book_127 cf6 1 (by decide) fl_X6_94 hR24.o rfl ?_
                refine v_iload_n 4 o dX6_book_130 rfl rfl ?_
                refine v_iast o dX6_book_131 (by omega) (by decide) hR24.a3 (fun μ25 e25 => ?_)
                have hR25 := hR24.p3 (i0 := σ.1 3 0) (v := a3) e25
                refine v_aload_n 1 o dX6_book_132 rfl rfl ?_
                refine v_get (v := .ref (m + 4)) o dX6_book_133 cf6 5 (by decide) fl_X6_19 hR25.o rfl ?_
                refine v_aload_n 1 o dX6_book_136 rfl rfl ?_
                refine v_get (v := .int (nI (σ.1 3 0))) o dX6_book_137 cf6 1 (by decide) fl_X6_94 hR25.o rfl ?_
                refine v_iload 5 o dX6_book_140 rfl ?_
                refine v_iast o dX6_book_142 (by omega) (by decide) hR25.a4 (fun μ26 e26 => ?_)
                have hR26 := hR25.p4 (i0 := σ.1 3 0) (v := a4) e26
                refine v_aload_n 1 o dX6_book_143 rfl rfl ?_
                refine v_get (v := .ref (m + 5)) o dX6_book_144 cf6 6 (by decide) fl_X6_22 hR26.o rfl ?_
                refine v_aload_n 1 o dX6_book_147 rfl rfl ?_
                refine v_get (v := .int (nI (σ.1 3 0))) o dX6_book_148 cf6 1 (by decide) fl_X6_94 hR26.o rfl ?_
                refine v_iload 6 o dX6_book_151 rfl ?_
                refine v_iast o dX6_book_153 (by omega) (by decide) hR26.a5 (fun μ27 e27 => ?_)
                have hR27 := hR26.p5 (i0 := σ.1 3 0) (v := a5) e27
                refine v_aload_n 1 o dX6_book_154 rfl rfl ?_
                refine v_dup o dX6_book_155 rfl ?_
                refine v_get (v := .int (nI (σ.1 3 0))) o dX6_book_156 cf6 1 (by decide) fl_X6_94 hR27.o rfl ?_
                refine v_iconst 1 o dX6_book_159 rfl ?_
                refine v_iadd (nI (σ.1 3 0 + 1)) o dX6_book_160 (nI_add (σ.1 3 0) 1) ?_
                refine v_put _ o dX6_book_161 cf6 1 (by decide) (by decide) fl_X6_94 hR27.o rfl rfl (Nat.le_of_ble_eq_true rfl) rfl (fun μ28 e28 => ?_)
                have hR28 := hR27.s_books (v := σ.1 3 0 + 1) e28
                refine v_aload_n 1 o dX6_book_164 rfl rfl ?_
                refine v_get (v := .int (nI (σ.1 3 0 + 1))) o dX6_book_165 cf6 1 (by decide) fl_X6_94 hR28.o rfl ?_
                refine v_iconst 1 o dX6_book_168 rfl ?_
                refine v_isub (nI (σ.1 3 0)) o dX6_book_169 (nI_pred _) ?_
                have e9 : sp_book σ (nI w) a2 a3 a4 a5 = (nI (σ.1 3 0), uN (uI (uI (uI (uI (uN (uN σ 3 1 0) 0 (σ.1 3 0) w) 0 (σ.1 3 0) a2) 1 (σ.1 3 0) a3) 2 (σ.1 3 0) a4) 3 (σ.1 3 0) a5) 3 0 (σ.1 3 0 + 1)) := by simp [sp_book, th, h1, h2, h3, h4, h5, tw, c46, c86]
                exact v_iret o dX6_book_170 hr (Nat.le_of_ble_eq_true rfl) (Nat.le_of_ble_eq_true rfl) (by rw [e9]; exact ⟨rfl, hR28, rfl⟩)
              · refine v_iconst 2 o dX6_book_89 rfl ?_
                refine v_goto 94 o dX6_book_90 (by decide) ?_
                refine v_callV [.int (nI 2)] [] o dX6_book_94 cw_X6_109 im_X6_goesWell se_X6_goesWell cf6 hR.o (m_goesWell hl hR 2 (by first | decide | omega)) rfl rfl (by decide) (by decide) (Nat.le_of_ble_eq_true rfl) ?_ (fun _ _ _ _ h => h.elim)
                rintro _ μ29 _ _ ⟨rfl, hR29, rfl⟩
                refine v_st [.int (bI false)] rfl ?_
                refine v_if_ne_b 102 o dX6_book_97 (by decide) (fun c97 => absurd c97 (by simp_all)) (fun c97 => ?_)
                refine v_iconst 0 o dX6_book_100 rfl ?_
                have e9 : sp_book σ (nI w) a2 a3 a4 a5 = (nI 0, uN σ 3 1 2) := by simp [sp_book, th, h1, h2, h3, h4, h5, tw, c46, c86]
                exact v_iret o dX6_book_101 hr (Nat.le_of_ble_eq_true rfl) (Nat.le_of_ble_eq_true rfl) (by rw [e9]; exact ⟨rfl, hR29, rfl⟩)

