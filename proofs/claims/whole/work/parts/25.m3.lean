set_option maxRecDepth 100000 in
set_option maxHeartbeats 4000000 in
theorem m_look {l : Launch} (hl : l.stackTraces = false) {g : mG} {m z : Nat} {μ0 μ : mM} {σ : Sg} (hR : RM g m μ0 σ μ) (hI : Inv σ) (b q : Int32) : Ct l g yX6_look [Cond.code yX6_look cX6_look 5 (some .boolean)] { frames := 3, cells := 0, slots := 0, locals := 65 } [.ref m, .int b, .int q] μ z (wrM g m μ0 (some (.int (sp_look σ b q).1)) (sp_look σ b q).2 z) noX := by
  cases hP : isP σ b q with
  | false =>
    refine Ct.of hl (by decide +kernel) (Nat.le_of_ble_eq_true rfl) ?_
    intro p e s mi args below meth c o hnm hr hx
    have o : Ok p l s mi args meth c g cX6_look 5 RX6 := o
    refine v_lv [(0, .ref m), (1, .int b), (2, .int q)] rfl ?_
    refine v_aload_n 0 o dX6_look_0 rfl rfl ?_
    refine v_iload_n 1 o dX6_look_1 rfl rfl ?_
    refine v_iload_n 2 o dX6_look_2 rfl rfl ?_
    refine v_callVr (v := .int (bI (isP σ b q))) [.int b, .int q] [] o dX6_look_3 cw_X6_105 im_X6_isPage se_X6_isPage cf6 hR.o (m_isPage hl hR hI b q) rfl rfl (by decide) ⟨rfl, rfl⟩ (by decide) (Nat.le_of_ble_eq_true rfl) ?_
    refine v_top (bI false) (by rw [hP]) ?_
    refine v_istore_n [(3, .int (bI false)), (0, .ref m), (1, .int b), (2, .int q)] o dX6_look_6 rfl (by decide) rfl ?_
    refine v_bipush 12 o dX6_look_7 (by decide) ?_
    refine v_iload_n 2 o dX6_look_9 rfl rfl ?_
    refine v_imul ((nI 12) * b) o dX6_look_10 rfl ?_
    refine v_iload_n 3 o dX6_look_11 rfl rfl ?_
    refine v_iadd (((nI 12) * b) + q) o dX6_look_12 rfl ?_
    refine v_istore [(4, .int (((nI 12) * b) + q)), (3, .int (bI false)), (0, .ref m), (1, .int b), (2, .int q)] o dX6_look_13 (by decide) rfl ?_
    refine v_aload_n 2 o dX6_look_15 rfl rfl ?_
    refine v_iload_n 1 o dX6_look_16 rfl rfl ?_
    refine v_if_ne_b 24 o dX6_look_17 (by decide) (fun c17 => absurd c17 (by simp_all)) (fun c17 => ?_)
    refine v_iconst 1 o dX6_look_20 rfl ?_
    refine v_goto 39 o dX6_look_21 (by decide) ?_
    refine v_callV [.int (nI 1)] [] o dX6_look_39 cw_X6_109 im_X6_goesWell se_X6_goesWell cf6 hR.o (m_goesWell hl hR 1 (by first | decide | omega)) rfl rfl (by decide) (by decide) (Nat.le_of_ble_eq_true rfl) ?_ (fun _ _ _ _ h => h.elim)
    rintro _ μ1 _ _ ⟨rfl, hR1, rfl⟩
    refine v_st [.int (bI false)] rfl ?_
    refine v_if_ne_b 47 o dX6_look_42 (by decide) (fun c42 => absurd c42 (by simp_all)) (fun c42 => ?_)
    refine v_iconst 0 o dX6_look_45 rfl ?_
    have e9 : sp_look σ b q = (nI 0, uN σ 3 1 1) := by simp [sp_look, th, hP]
    exact v_zret o dX6_look_46 hr (by decide) (Nat.le_of_ble_eq_true rfl) (Nat.le_of_ble_eq_true rfl) (by rw [e9]; exact ⟨rfl, hR1, rfl⟩)
  | true =>
    obtain ⟨i, j, hi, hj, rfl, rfl⟩ := isP_t hI hP
    have h6 := hI.1
    have h12 := hI.2.1 i
    have ti : tn (nI i) = i := tn_nI (by omega)
    have tj : tn (nI j) = j := tn_nI (by omega)
    refine Ct.of hl (by decide +kernel) (Nat.le_of_ble_eq_true rfl) ?_
    intro p e s mi args below meth c o hnm hr hx
    have o : Ok p l s mi args meth c g cX6_look 5 RX6 := o
    refine v_lv [(0, .ref m), (1, .int (nI i)), (2, .int (nI j))] rfl ?_
    refine v_aload_n 0 o dX6_look_0 rfl rfl ?_
    refine v_iload_n 1 o dX6_look_1 rfl rfl ?_
    refine v_iload_n 2 o dX6_look_2 rfl rfl ?_
    refine v_callVr (v := .int (bI (isP σ (nI i) (nI j)))) [.int (nI i), .int (nI j)] [] o dX6_look_3 cw_X6_105 im_X6_isPage se_X6_isPage cf6 hR.o (m_isPage hl hR hI (nI i) (nI j)) rfl rfl (by decide) ⟨rfl, rfl⟩ (by decide) (Nat.le_of_ble_eq_true rfl) ?_
    refine v_top (bI true) (by rw [hP]) ?_
    refine v_istore_n [(3, .int (bI true)), (0, .ref m), (1, .int (nI i)), (2, .int (nI j))] o dX6_look_6 rfl (by decide) rfl ?_
    refine v_bipush 12 o dX6_look_7 (by decide) ?_
    refine v_iload_n 2 o dX6_look_9 rfl rfl ?_
    refine v_imul (nI (12 * i)) o dX6_look_10 (pk_mul 12 i) ?_
    refine v_iload_n 3 o dX6_look_11 rfl rfl ?_
    refine v_iadd (nI (12 * i + j)) o dX6_look_12 (nI_add (12 * i) j) ?_
    refine v_istore [(4, .int (nI (12 * i + j))), (3, .int (bI true)), (0, .ref m), (1, .int (nI i)), (2, .int (nI j))] o dX6_look_13 (by decide) rfl ?_
    refine v_aload_n 2 o dX6_look_15 rfl rfl ?_
    refine v_iload_n 1 o dX6_look_16 rfl rfl ?_
    refine v_if_ne_b 24 o dX6_look_17 (by decide) (fun c17 => ?_) (fun c17 => absurd c17 (by simp_all))
    refine v_aload_n 2 o dX6_look_24 rfl rfl ?_
    refine v_get (v := .ref (m + 9)) o dX6_look_25 cf6 11 (by decide) fl_X6_35 hR.o rfl ?_
    refine v_iload 0 o dX6_look_28 rfl ?_
    refine v_zald (bI (σ.2.1 2 (12 * i + j))) o dX6_look_30 (by omega) (by decide) hR.a9 rfl ?_
    refine v_if_eq_b 38 o dX6_look_31 (by decide) (fun c31 => ?_) (fun c31 => ?_)
    · refine v_iconst 2 o dX6_look_38 rfl ?_
      refine v_callV [.int (nI 2)] [] o dX6_look_39 cw_X6_109 im_X6_goesWell se_X6_goesWell cf6 hR.o (m_goesWell hl hR 2 (by first | decide | omega)) rfl rfl (by decide) (by decide) (Nat.le_of_ble_eq_true rfl) ?_ (fun _ _ _ _ h => h.elim)
      rintro _ μ2 _ _ ⟨rfl, hR2, rfl⟩
      refine v_st [.int (bI false)] rfl ?_
      refine v_if_ne_b 47 o dX6_look_42 (by decide) (fun c42 => absurd c42 (by simp_all)) (fun c42 => ?_)
      refine v_iconst 0 o dX6_look_45 rfl ?_
      have e9 : sp_look σ (nI i) (nI j) = (nI 0, uN σ 3 1 2) := by simp [sp_look, th, hP, ti, tj, c31]
      exact v_zret o dX6_look_46 hr (by decide) (Nat.le_of_ble_eq_true rfl) (Nat.le_of_ble_eq_true rfl) (by rw [e9]; exact ⟨rfl, hR2, rfl⟩)
    · refine v_iconst 0 o dX6_look_34 rfl ?_
      refine v_goto 39 o dX6_look_35 (by decide) ?_
      refine v_callV [.int (nI 0)] [] o dX6_look_39 cw_X6_109 im_X6_goesWell se_X6_goesWell cf6 hR.o (m_goesWell hl hR 0 (by first | decide | omega)) rfl rfl (by decide) (by decide) (Nat.le_of_ble_eq_true rfl) ?_ (fun _ _ _ _ h => h.elim)
      rintro _ μ3 _ _ ⟨rfl, hR3, rfl⟩
      refine v_st [.int (bI true)] rfl ?_
      refine v_if_ne_b 47 o dX6_look_42 (by decide) (fun c42 => ?_) (fun c42 => absurd c42 (by simp_all))
      refine v_aload_n 2 o dX6_look_47 rfl rfl ?_
      refine v_get (v := .ref (m + 11)) o dX6_look_48 cf6 13 (by decide) fl_X6_41 hR3.o rfl ?_
      refine v_iload 0 o dX6_look_51 rfl ?_
      refine v_aload_n 2 o dX6_look_53 rfl rfl ?_
      refine v_get (v := .ref (m + 11)) o dX6_look_54 cf6 13 (by decide) fl_X6_41 hR3.o rfl ?_
      refine v_iload 0 o dX6_look_57 rfl ?_
      refine v_zald (bI (σ.2.1 4 (12 * i + j))) o dX6_look_59 (by omega) (by decide) hR3.a11 rfl ?_
      refine v_if_ne_b 73 o dX6_look_60 (by decide) (fun c60 => ?_) (fun c60 => ?_)
      · refine v_iconst 1 o dX6_look_73 rfl ?_
        refine v_goto 78 o dX6_look_74 (by decide) ?_
        refine v_top (bI true) rfl ?_
        refine v_zast o dX6_look_78 (by omega) (by decide) (nar_bI _) hR3.a11 (fun μ4 e4 => ?_)
        have hR4 := hR3.p11 (i0 := 12 * i + j) (v := true) e4
        refine v_aload_n 2 o dX6_look_79 rfl rfl ?_
        refine v_get (v := .ref (m + 10)) o dX6_look_80 cf6 12 (by decide) fl_X6_38 hR4.o rfl ?_
        refine v_iload 0 o dX6_look_83 rfl ?_
        refine v_zald (bI (σ.2.1 3 (12 * i + j))) o dX6_look_85 (by omega) (by decide) hR4.a10 rfl ?_
        have e9 : sp_look σ (nI i) (nI j) = (bI (σ.2.1 3 (12 * i + j)), uB (uN σ 3 1 0) 4 (12 * i + j) true) := by simp [sp_look, th, hP, ti, tj, c31, c60]
        exact v_zret o dX6_look_86 hr (narrow_bI _) (Nat.le_of_ble_eq_true rfl) (Nat.le_of_ble_eq_true rfl) (by rw [e9]; exact ⟨rfl, hR4, rfl⟩)
      · refine v_aload_n 2 o dX6_look_63 rfl rfl ?_
        refine v_get (v := .ref (m + 10)) o dX6_look_64 cf6 12 (by decide) fl_X6_38 hR3.o rfl ?_
        refine v_iload 0 o dX6_look_67 rfl ?_
        refine v_zald (bI (σ.2.1 3 (12 * i + j))) o dX6_look_69 (by omega) (by decide) hR3.a10 rfl ?_
        refine v_if_eq_b 77 o dX6_look_70 (by decide) (fun c70 => ?_) (fun c70 => ?_)
        · refine v_iconst 0 o dX6_look_77 rfl ?_
          refine v_top (bI false) rfl ?_
          refine v_zast o dX6_look_78 (by omega) (by decide) (nar_bI _) hR3.a11 (fun μ5 e5 => ?_)
          have hR5 := hR3.p11 (i0 := 12 * i + j) (v := false) e5
          refine v_aload_n 2 o dX6_look_79 rfl rfl ?_
          refine v_get (v := .ref (m + 10)) o dX6_look_80 cf6 12 (by decide) fl_X6_38 hR5.o rfl ?_
          refine v_iload 0 o dX6_look_83 rfl ?_
          refine v_zald (bI (σ.2.1 3 (12 * i + j))) o dX6_look_85 (by omega) (by decide) hR5.a10 rfl ?_
          have e9 : sp_look σ (nI i) (nI j) = (bI (σ.2.1 3 (12 * i + j)), uB (uN σ 3 1 0) 4 (12 * i + j) false) := by simp [sp_look, th, hP, ti, tj, c31, c60, c70]
          exact v_zret o dX6_look_86 hr (narrow_bI _) (Nat.le_of_ble_eq_true rfl) (Nat.le_of_ble_eq_true rfl) (by rw [e9]; exact ⟨rfl, hR5, rfl⟩)
        · refine v_iconst 1 o dX6_look_73 rfl ?_
          refine v_goto 78 o dX6_look_74 (by decide) ?_
          refine v_top (bI true) rfl ?_
          refine v_zast o dX6_look_78 (by omega) (by decide) (nar_bI _) hR3.a11 (fun μ6 e6 => ?_)
          have hR6 := hR3.p11 (i0 := 12 * i + j) (v := true) e6
          refine v_aload_n 2 o dX6_look_79 rfl rfl ?_
          refine v_get (v := .ref (m + 10)) o dX6_look_80 cf6 12 (by decide) fl_X6_38 hR6.o rfl ?_
          refine v_iload 0 o dX6_look_83 rfl ?_
          refine v_zald (bI (σ.2.1 3 (12 * i + j))) o dX6_look_85 (by omega) (by decide) hR6.a10 rfl ?_
          have e9 : sp_look σ (nI i) (nI j) = (bI (σ.2.1 3 (12 * i + j)), uB (uN σ 3 1 0) 4 (12 * i + j) true) := by simp [sp_look, th, hP, ti, tj, c31, c60, c70]
          exact v_zret o dX6_look_86 hr (narrow_bI _) (Nat.le_of_ble_eq_true rfl) (Nat.le_of_ble_eq_true rfl) (by rw [e9]; exact ⟨rfl, hR6, rfl⟩)

set_option maxRecDepth 100000 in
set_option maxHeartbeats 4000000 in
theorem m_calibrate {l : Launch} (hl : l.stackTraces = false) {g : mG} {m z : Nat} {μ0 μ : mM} {σ : Sg} (hR : RM g m μ0 σ μ)  : Ct l g yX6_calibrate [Cond.code yX6_calibrate cX6_calibrate 2 (some .int)] { frames := 0, cells := 0, slots := 0, locals := 0 } [.ref m] μ z (wrM g m μ0 (some (.int (sp_calibrate σ).1)) (sp_calibrate σ).2 z) noX := by
  refine Ct.of hl (by decide +kernel) (Nat.le_of_ble_eq_true rfl) ?_
  intro p e s mi args below meth c o hnm hr hx
  have o : Ok p l s mi args meth c g cX6_calibrate 2 RX6 := o
  refine v_lv [(0, .ref m)] rfl ?_
  refine v_aload_n 0 o dX6_calibrate_0 rfl rfl ?_
  refine v_iconst 0 o dX6_calibrate_1 rfl ?_
  refine v_put _ o dX6_calibrate_2 cf6 0 (by decide) (by decide) fl_X6_91 hR.o rfl rfl (Nat.le_of_ble_eq_true rfl) rfl (fun μ1 e1 => ?_)
  have hR1 := hR.s_thrown (v := 0) e1
  refine v_aload_n 0 o dX6_calibrate_5 rfl rfl ?_
  refine v_get (v := .int (σ.2.2.1 8 0)) o dX6_calibrate_6 cf6 10 (by decide) fl_X6_116 hR1.o rfl ?_
  refine v_istore_n [(1, .int (σ.2.2.1 8 0)), (0, .ref m)] o dX6_calibrate_9 rfl (by decide) rfl ?_
  refine v_aload_n 1 o dX6_calibrate_10 rfl rfl ?_
  refine v_iconst 0 o dX6_calibrate_11 rfl ?_
  refine v_put _ o dX6_calibrate_12 cf6 10 (by decide) (by decide) fl_X6_116 hR1.o rfl rfl (Nat.le_of_ble_eq_true rfl) rfl (fun μ2 e2 => ?_)
  have hR2 := hR1.s_drift (v := nI 0) e2
  refine v_iload_n 0 o dX6_calibrate_15 rfl rfl ?_
  have e9 : sp_calibrate σ = (σ.2.2.1 8 0, uI (uN σ 3 1 0) 8 0 (nI 0)) := by simp [sp_calibrate, th]
  exact v_iret o dX6_calibrate_16 hr (Nat.le_of_ble_eq_true rfl) (Nat.le_of_ble_eq_true rfl) (by rw [e9]; exact ⟨rfl, hR2, rfl⟩)

set_option maxRecDepth 100000 in
set_option maxHeartbeats 4000000 in
theorem m_looked {l : Launch} (hl : l.stackTraces = false) {g : mG} {m z : Nat} {μ0 μ : mM} {σ : Sg} (hR : RM g m μ0 σ μ)  : Ct l g yX6_looked [Cond.code yX6_looked cX6_looked 1 (some .int)] { frames := 0, cells := 0, slots := 0, locals := 0 } [.ref m] μ z (wrM g m μ0 (some (.int (sp_looked σ).1)) (sp_looked σ).2 z) noX := by
  refine Ct.of hl (by decide +kernel) (Nat.le_of_ble_eq_true rfl) ?_
  intro p e s mi args below meth c o hnm hr hx
  have o : Ok p l s mi args meth c g cX6_looked 1 RX6 := o
  refine v_lv [(0, .ref m)] rfl ?_
  refine v_aload_n 0 o dX6_looked_0 rfl rfl ?_
  refine v_iconst 0 o dX6_looked_1 rfl ?_
  refine v_put _ o dX6_looked_2 cf6 0 (by decide) (by decide) fl_X6_91 hR.o rfl rfl (Nat.le_of_ble_eq_true rfl) rfl (fun μ1 e1 => ?_)
  have hR1 := hR.s_thrown (v := 0) e1
  refine v_aload_n 0 o dX6_looked_5 rfl rfl ?_
  refine v_get (v := .int (nI (σ.1 3 2))) o dX6_looked_6 cf6 23 (by decide) fl_X6_139 hR1.o rfl ?_
  have e9 : sp_looked σ = (nI (σ.1 3 2), uN σ 3 1 0) := by simp [sp_looked, th]
  exact v_iret o dX6_looked_9 hr (Nat.le_of_ble_eq_true rfl) (Nat.le_of_ble_eq_true rfl) (by rw [e9]; exact ⟨rfl, hR1, rfl⟩)

set_option maxRecDepth 100000 in
set_option maxHeartbeats 4000000 in
theorem m_rot {l : Launch} (hl : l.stackTraces = false) {g : mG} {m z : Nat} {μ0 μ : mM} {σ : Sg} (hR : RM g m μ0 σ μ) (hI : Inv σ) (v b q bit : Int32) : Ct l g yX6_rot [Cond.code yX6_rot cX6_rot 8 (some .boolean)] { frames := 3, cells := 0, slots := 0, locals := 65 } [.ref m, .int v, .int b, .int q, .int bit] μ z (wrM g m μ0 (some (.int (sp_rot σ v b q bit).1)) (sp_rot σ v b q bit).2 z) noX := by
  cases hB : inR bit (nI 0) (nI 63) with
  | false =>
    cases hV : isV v with
    | false =>
      refine Ct.of hl (by decide +kernel) (Nat.le_of_ble_eq_true rfl) ?_
      intro p e s mi args below meth c o hnm hr hx
      have o : Ok p l s mi args meth c g cX6_rot 8 RX6 := o
      refine v_lv [(0, .ref m), (1, .int v), (2, .int b), (3, .int q), (4, .int bit)] rfl ?_
      refine v_iload_n 1 o dX6_rot_0 rfl rfl ?_
      refine v_callSr (v := .int (bI (isV v))) [.int v] [] o dX6_rot_1 cw_X6_130 st_X6_isVault (m_isVault hl hR v) rfl rfl (by decide) ⟨rfl, rfl⟩ (by decide) (Nat.le_of_ble_eq_true rfl) ?_
      refine v_top (bI false) (by rw [hV]) ?_
      refine v_if_eq_b 20 o dX6_rot_4 (by decide) (fun c4 => ?_) (fun c4 => absurd c4 (by simp_all))
      refine v_iconst 0 o dX6_rot_20 rfl ?_
      refine v_istore [(5, .int (nI 0)), (0, .ref m), (1, .int v), (2, .int b), (3, .int q), (4, .int bit)] o dX6_rot_21 (by decide) rfl ?_
      refine v_iload 5 o dX6_rot_23 rfl ?_
      refine v_iconst 0 o dX6_rot_25 rfl ?_
      refine v_bipush 63 o dX6_rot_26 (by decide) ?_
      refine v_callSr (v := .int (bI (inR bit (nI 0) (nI 63)))) [.int bit, .int (nI 0), .int (nI 63)] [] o dX6_rot_28 cw_X6_97 st_X6_in (m_in hl hR bit (nI 0) (nI 63)) rfl rfl (by decide) ⟨rfl, rfl⟩ (by decide) (Nat.le_of_ble_eq_true rfl) ?_
      refine v_top (bI false) (by rw [hB]) ?_
      refine v_istore [(6, .int (bI false)), (5, .int (nI 0)), (0, .ref m), (1, .int v), (2, .int b), (3, .int q), (4, .int bit)] o dX6_rot_31 (by decide) rfl ?_
      refine v_bipush 12 o dX6_rot_33 (by decide) ?_
      refine v_iload_n 4 o dX6_rot_35 rfl rfl ?_
      refine v_imul ((nI 12) * b) o dX6_rot_36 rfl ?_
      refine v_iload_n 5 o dX6_rot_37 rfl rfl ?_
      refine v_iadd (((nI 12) * b) + q) o dX6_rot_38 rfl ?_
      refine v_istore [(7, .int (((nI 12) * b) + q)), (6, .int (bI false)), (5, .int (nI 0)), (0, .ref m), (1, .int v), (2, .int b), (3, .int q), (4, .int bit)] o dX6_rot_39 (by decide) rfl ?_
      refine v_aload_n 3 o dX6_rot_41 rfl rfl ?_
      refine v_iload 2 o dX6_rot_42 rfl ?_
      refine v_if_ne_n 51 o dX6_rot_44 (by decide) (by decide) (fun c44 => absurd c44 (by omega)) (fun c44 => ?_)
      refine v_iconst 1 o dX6_rot_47 rfl ?_
      refine v_goto 80 o dX6_rot_48 (by decide) ?_
      refine v_callV [.int (nI 1)] [] o dX6_rot_80 cw_X6_109 im_X6_goesWell se_X6_goesWell cf6 hR.o (m_goesWell hl hR 1 (by first | decide | omega)) rfl rfl (by decide) (by decide) (Nat.le_of_ble_eq_true rfl) ?_ (fun _ _ _ _ h => h.elim)
      rintro _ μ1 _ _ ⟨rfl, hR1, rfl⟩
      refine v_st [.int (bI false)] rfl ?_
      refine v_if_ne_b 88 o dX6_rot_83 (by decide) (fun c83 => absurd c83 (by simp_all)) (fun c83 => ?_)
      refine v_iconst 0 o dX6_rot_86 rfl ?_
      have e9 : sp_rot σ v b q bit = (nI 0, uN σ 3 1 1) := by simp [sp_rot, th, hV, hB]
      exact v_zret o dX6_rot_87 hr (by decide) (Nat.le_of_ble_eq_true rfl) (Nat.le_of_ble_eq_true rfl) (by rw [e9]; exact ⟨rfl, hR1, rfl⟩)
    | true =>
      cases hP : isP σ b q with
      | false =>
        refine Ct.of hl (by decide +kernel) (Nat.le_of_ble_eq_true rfl) ?_
        intro p e s mi args below meth c o hnm hr hx
        have o : Ok p l s mi args meth c g cX6_rot 8 RX6 := o
        refine v_lv [(0, .ref m), (1, .int v), (2, .int b), (3, .int q), (4, .int bit)] rfl ?_
        refine v_iload_n 1 o dX6_rot_0 rfl rfl ?_
        refine v_callSr (v := .int (bI (isV v))) [.int v] [] o dX6_rot_1 cw_X6_130 st_X6_isVault (m_isVault hl hR v) rfl rfl (by decide) ⟨rfl, rfl⟩ (by decide) (Nat.le_of_ble_eq_true rfl) ?_
        refine v_top (bI true) (by rw [hV]) ?_
        refine v_if_eq_b 20 o dX6_rot_4 (by decide) (fun c4 => absurd c4 (by simp_all)) (fun c4 => ?_)
        refine v_aload_n 0 o dX6_rot_7 rfl rfl ?_
        refine v_iload_n 2 o dX6_rot_8 rfl rfl ?_
        refine v_iload_n 3 o dX6_rot_9 rfl rfl ?_
        refine v_callVr (v := .int (bI (isP σ b q))) [.int b, .int q] [] o dX6_rot_10 cw_X6_105 im_X6_isPage se_X6_isPage cf6 hR.o (m_isPage hl hR hI b q) rfl rfl (by decide) ⟨rfl, rfl⟩ (by decide) (Nat.le_of_ble_eq_true rfl) ?_
        refine v_top (bI false) (by rw [hP]) ?_
        refine v_if_eq_b 20 o dX6_rot_13 (by decide) (fun c13 => ?_) (fun c13 => absurd c13 (by simp_all))
        refine v_iconst 0 o dX6_rot_20 rfl ?_
        refine v_istore [(5, .int (nI 0)), (0, .ref m), (1, .int v), (2, .int b), (3, .int q), (4, .int bit)] o dX6_rot_21 (by decide) rfl ?_
        refine v_iload 5 o dX6_rot_23 rfl ?_
        refine v_iconst 0 o dX6_rot_25 rfl ?_
        refine v_bipush 63 o dX6_rot_26 (by decide) ?_
        refine v_callSr (v := .int (bI (inR bit (nI 0) (nI 63)))) [.int bit, .int (nI 0), .int (nI 63)] [] o dX6_rot_28 cw_X6_97 st_X6_in (m_in hl hR bit (nI 0) (nI 63)) rfl rfl (by decide) ⟨rfl, rfl⟩ (by decide) (Nat.le_of_ble_eq_true rfl) ?_
        refine v_top (bI false) (by rw [hB]) ?_
        refine v_istore [(6, .int (bI false)), (5, .int (nI 0)), (0, .ref m), (1, .int v), (2, .int b), (3, .int q), (4, .int bit)] o dX6_rot_31 (by decide) rfl ?_
        refine v_bipush 12 o dX6_rot_33 (by decide) ?_
        refine v_iload_n 4 o dX6_rot_35 rfl rfl ?_
        refine v_imul ((nI 12) * b) o dX6_rot_36 rfl ?_
        refine v_iload_n 5 o dX6_rot_37 rfl rfl ?_
        refine v_iadd (((nI 12) * b) + q) o dX6_rot_38 rfl ?_
        refine v_istore [(7, .int (((nI 12) * b) + q)), (6, .int (bI false)), (5, .int (nI 0)), (0, .ref m), (1, .int v), (2, .int b), (3, .int q), (4, .int bit)] o dX6_rot_39 (by decide) rfl ?_
        refine v_aload_n 3 o dX6_rot_41 rfl rfl ?_
        refine v_iload 2 o dX6_rot_42 rfl ?_
        refine v_if_ne_n 51 o dX6_rot_44 (by decide) (by decide) (fun c44 => absurd c44 (by omega)) (fun c44 => ?_)
        refine v_iconst 1 o dX6_rot_47 rfl ?_
        refine v_goto 80 o dX6_rot_48 (by decide) ?_
        refine v_callV [.int (nI 1)] [] o dX6_rot_80 cw_X6_109 im_X6_goesWell se_X6_goesWell cf6 hR.o (m_goesWell hl hR 1 (by first | decide | omega)) rfl rfl (by decide) (by decide) (Nat.le_of_ble_eq_true rfl) ?_ (fun _ _ _ _ h => h.elim)
        rintro _ μ2 _ _ ⟨rfl, hR2, rfl⟩
        refine v_st [.int (bI false)] rfl ?_
        refine v_if_ne_b 88 o dX6_rot_83 (by decide) (fun c83 => absurd c83 (by simp_all)) (fun c83 => ?_)
        refine v_iconst 0 o dX6_rot_86 rfl ?_
        have e9 : sp_rot σ v b q bit = (nI 0, uN σ 3 1 1) := by simp [sp_rot, th, hV, hB, hP]
        exact v_zret o dX6_rot_87 hr (by decide) (Nat.le_of_ble_eq_true rfl) (Nat.le_of_ble_eq_true rfl) (by rw [e9]; exact ⟨rfl, hR2, rfl⟩)
      | true =>
        obtain ⟨v, hv, rfl⟩ := isV_t hV
        have tv : tn (nI v) = v := tn_nI (by omega)
        obtain ⟨i, j, hi, hj, rfl, rfl⟩ := isP_t hI hP
        have h6 := hI.1
        have h12 := hI.2.1 i
        have ti : tn (nI i) = i := tn_nI (by omega)
        have tj : tn (nI j) = j := tn_nI (by omega)
        refine Ct.of hl (by decide +kernel) (Nat.le_of_ble_eq_true rfl) ?_
        intro p e s mi args below meth c o hnm hr hx
        have o : Ok p l s mi args meth c g cX6_rot 8 RX6 := o
        refine v_lv [(0, .ref m), (1, .int (nI v)), (2, .int (nI i)), (3, .int (nI j)), (4, .int bit)] rfl ?_
        refine v_iload_n 1 o dX6_rot_0 rfl rfl ?_
        refine v_callSr (v := .int (bI (isV (nI v)))) [.int (nI v)] [] o dX6_rot_1 cw_X6_130 st_X6_isVault (m_isVault hl hR (nI v)) rfl rfl (by decide) ⟨rfl, rfl⟩ (by decide) (Nat.le_of_ble_eq_true rfl) ?_
        refine v_top (bI true) (by rw [hV]) ?_
        refine v_if_eq_b 20 o dX6_rot_4 (by decide) (fun c4 => absurd c4 (by simp_all)) (fun c4 => ?_)
        refine v_aload_n 0 o dX6_rot_7 rfl rfl ?_
        refine v_iload_n 2 o dX6_rot_8 rfl rfl ?_
        refine v_iload_n 3 o dX6_rot_9 rfl rfl ?_
        refine v_callVr (v := .int (bI (isP σ (nI i) (nI j)))) [.int (nI i), .int (nI j)] [] o dX6_rot_10 cw_X6_105 im_X6_isPage se_X6_isPage cf6 hR.o (m_isPage hl hR hI (nI i) (nI j)) rfl rfl (by decide) ⟨rfl, rfl⟩ (by decide) (Nat.le_of_ble_eq_true rfl) ?_
        refine v_top (bI true) (by rw [hP]) ?_
        refine v_if_eq_b 20 o dX6_rot_13 (by decide) (fun c13 => absurd c13 (by simp_all)) (fun c13 => ?_)
        refine v_iconst 1 o dX6_rot_16 rfl ?_
        refine v_goto 21 o dX6_rot_17 (by decide) ?_
        refine v_istore [(5, .int (nI 1)), (0, .ref m), (1, .int (nI v)), (2, .int (nI i)), (3, .int (nI j)), (4, .int bit)] o dX6_rot_21 (by decide) rfl ?_
        refine v_iload 5 o dX6_rot_23 rfl ?_
        refine v_iconst 0 o dX6_rot_25 rfl ?_
        refine v_bipush 63 o dX6_rot_26 (by decide) ?_
        refine v_callSr (v := .int (bI (inR bit (nI 0) (nI 63)))) [.int bit, .int (nI 0), .int (nI 63)] [] o dX6_rot_28 cw_X6_97 st_X6_in (m_in hl hR bit (nI 0) (nI 63)) rfl rfl (by decide) ⟨rfl, rfl⟩ (by decide) (Nat.le_of_ble_eq_true rfl) ?_
        refine v_top (bI false) (by rw [hB]) ?_
        refine v_istore [(6, .int (bI false)), (5, .int (nI 1)), (0, .ref m), (1, .int (nI v)), (2, .int (nI i)), (3, .int (nI j)), (4, .int bit)] o dX6_rot_31 (by decide) rfl ?_
        refine v_bipush 12 o dX6_rot_33 (by decide) ?_
        refine v_iload_n 4 o dX6_rot_35 rfl rfl ?_
        refine v_imul (nI (12 * i)) o dX6_rot_36 (pk_mul 12 i) ?_
        refine v_iload_n 5 o dX6_rot_37 rfl rfl ?_
        refine v_iadd (nI (12 * i + j)) o dX6_rot_38 (nI_add (12 * i) j) ?_
        refine v_istore [(7, .int (nI (12 * i + j))), (6, .int (bI false)), (5, .int (nI 1)), (0, .ref m), (1, .int (nI v)), (2, .int (nI i)), (3, .int (nI j)), (4, .int bit)] o dX6_rot_39 (by decide) rfl ?_
        refine v_aload_n 3 o dX6_rot_41 rfl rfl ?_
        refine v_iload 2 o dX6_rot_42 rfl ?_
        refine v_if_ne_n 51 o dX6_rot_44 (by decide) (by decide) (fun c44 => ?_) (fun c44 => absurd c44 (by omega))
        refine v_iload 1 o dX6_rot_51 rfl ?_
        refine v_if_ne_b 60 o dX6_rot_53 (by decide) (fun c53 => absurd c53 (by simp_all)) (fun c53 => ?_)
        refine v_iconst 2 o dX6_rot_56 rfl ?_
        refine v_goto 80 o dX6_rot_57 (by decide) ?_
        refine v_callV [.int (nI 2)] [] o dX6_rot_80 cw_X6_109 im_X6_goesWell se_X6_goesWell cf6 hR.o (m_goesWell hl hR 2 (by first | decide | omega)) rfl rfl (by decide) (by decide) (Nat.le_of_ble_eq_true rfl) ?_ (fun _ _ _ _ h => h.elim)
        rintro _ μ3 _ _ ⟨rfl, hR3, rfl⟩
        refine v_st [.int (bI false)] rfl ?_
        refine v_if_ne_b 88 o dX6_rot_83 (by decide) (fun c83 => absurd c83 (by simp_all)) (fun c83 => ?_)
        refine v_iconst 0 o dX6_rot_86 rfl ?_
        have e9 : sp_rot σ (nI v) (nI i) (nI j) bit = (nI 0, uN σ 3 1 2) := by simp [sp_rot, th, hV, hB, hP, ti, tj, tv, rotL]
        exact v_zret o dX6_rot_87 hr (by decide) (Nat.le_of_ble_eq_true rfl) (Nat.le_of_ble_eq_true rfl) (by rw [e9]; exact ⟨rfl, hR3, rfl⟩)
  | true =>
    cases hV : isV v with
    | false =>
      refine Ct.of hl (by decide +kernel) (Nat.le_of_ble_eq_true rfl) ?_
      intro p e s mi args below meth c o hnm hr hx
      have o : Ok p l s mi args meth c g cX6_rot 8 RX6 := o
      refine v_lv [(0, .ref m), (1, .int v), (2, .int b), (3, .int q), (4, .int bit)] rfl ?_
      refine v_iload_n 1 o dX6_rot_0 rfl rfl ?_
      refine v_callSr (v := .int (bI (isV v))) [.int v] [] o dX6_rot_1 cw_X6_130 st_X6_isVault (m_isVault hl hR v) rfl rfl (by decide) ⟨rfl, rfl⟩ (by decide) (Nat.le_of_ble_eq_true rfl) ?_
      refine v_top (bI false) (by rw [hV]) ?_
      refine v_if_eq_b 20 o dX6_rot_4 (by decide) (fun c4 => ?_) (fun c4 => absurd c4 (by simp_all))
      refine v_iconst 0 o dX6_rot_20 rfl ?_
      refine v_istore [(5, .int (nI 0)), (0, .ref m), (1, .int v), (2, .int b), (3, .int q), (4, .int bit)] o dX6_rot_21 (by decide) rfl ?_
      refine v_iload 5 o dX6_rot_23 rfl ?_
      refine v_iconst 0 o dX6_rot_25 rfl ?_
      refine v_bipush 63 o dX6_rot_26 (by decide) ?_
      refine v_callSr (v := .int (bI (inR bit (nI 0) (nI 63)))) [.int bit, .int (nI 0), .int (nI 63)] [] o dX6_rot_28 cw_X6_97 st_X6_in (m_in hl hR bit (nI 0) (nI 63)) rfl rfl (by decide) ⟨rfl, rfl⟩ (by decide) (Nat.le_of_ble_eq_true rfl) ?_
      refine v_top (bI true) (by rw [hB]) ?_
      refine v_istore [(6, .int (bI true)), (5, .int (nI 0)), (0, .ref m), (1, .int v), (2, .int b), (3, .int q), (4, .int bit)] o dX6_rot_31 (by decide) rfl ?_
      refine v_bipush 12 o dX6_rot_33 (by decide) ?_
      refine v_iload_n 4 o dX6_rot_35 rfl rfl ?_
      refine v_imul ((nI 12) * b) o dX6_rot_36 rfl ?_
      refine v_iload_n 5 o dX6_rot_37 rfl rfl ?_
      refine v_iadd (((nI 12) * b) + q) o dX6_rot_38 rfl ?_
      refine v_istore [(7, .int (((nI 12) * b) + q)), (6, .int (bI true)), (5, .int (nI 0)), (0, .ref m), (1, .int v), (2, .int b), (3, .int q), (4, .int bit)] o dX6_rot_39 (by decide) rfl ?_
      refine v_aload_n 3 o dX6_rot_41 rfl rfl ?_
      refine v_iload 2 o dX6_rot_42 rfl ?_
      refine v_if_ne_n 51 o dX6_rot_44 (by decide) (by decide) (fun c44 => absurd c44 (by omega)) (fun c44 => ?_)
      refine v_iconst 1 o dX6_rot_47 rfl ?_
      refine v_goto 80 o dX6_rot_48 (by decide) ?_
      refine v_callV [.int (nI 1)] [] o dX6_rot_80 cw_X6_109 im_X6_goesWell se_X6_goesWell cf6 hR.o (m_goesWell hl hR 1 (by first | decide | omega)) rfl rfl (by decide) (by decide) (Nat.le_of_ble_eq_true rfl) ?_ (fun _ _ _ _ h => h.elim)
      rintro _ μ4 _ _ ⟨rfl, hR4, rfl⟩
      refine v_st [.int (bI false)] rfl ?_
      refine v_if_ne_b 88 o dX6_rot_83 (by decide) (fun c83 => absurd c83 (by simp_all)) (fun c83 => ?_)
      refine v_iconst 0 o dX6_rot_86 rfl ?_
      have e9 : sp_rot σ v b q bit = (nI 0, uN σ 3 1 1) := by simp [sp_rot, th, hV, hB]
      exact v_zret o dX6_rot_87 hr (by decide) (Nat.le_of_ble_eq_true rfl) (Nat.le_of_ble_eq_true rfl) (by rw [e9]; exact ⟨rfl, hR4, rfl⟩)
    | true =>
      cases hP : isP σ b q with
      | false =>
        refine Ct.of hl (by decide +kernel) (Nat.le_of_ble_eq_true rfl) ?_
        intro p e s mi args below meth c o hnm hr hx
        have o : Ok p l s mi args meth c g cX6_rot 8 RX6 := o
        refine v_lv [(0, .ref m), (1, .int v), (2, .int b), (3, .int q), (4, .int bit)] rfl ?_
        refine v_iload_n 1 o dX6_rot_0 rfl rfl ?_
        refine v_callSr (v := .int (bI (isV v))) [.int v] [] o dX6_rot_1 cw_X6_130 st_X6_isVault (m_isVault hl hR v) rfl rfl (by decide) ⟨rfl, rfl⟩ (by decide) (Nat.le_of_ble_eq_true rfl) ?_
        refine v_top (bI true) (by rw [hV]) ?_
        refine v_if_eq_b 20 o dX6_rot_4 (by decide) (fun c4 => absurd c4 (by simp_all)) (fun c4 => ?_)
        refine v_aload_n 0 o dX6_rot_7 rfl rfl ?_
        refine v_iload_n 2 o dX6_rot_8 rfl rfl ?_
        refine v_iload_n 3 o dX6_rot_9 rfl rfl ?_
        refine v_callVr (v := .int (bI (isP σ b q))) [.int b, .int q] [] o dX6_rot_10 cw_X6_105 im_X6_isPage se_X6_isPage cf6 hR.o (m_isPage hl hR hI b q) rfl rfl (by decide) ⟨rfl, rfl⟩ (by decide) (Nat.le_of_ble_eq_true rfl) ?_
        refine v_top (bI false) (by rw [hP]) ?_
        refine v_if_eq_b 20 o dX6_rot_13 (by decide) (fun c13 => ?_) (fun c13 => absurd c13 (by simp_all))
        refine v_iconst 0 o dX6_rot_20 rfl ?_
        refine v_istore [(5, .int (nI 0)), (0, .ref m), (1, .int v), (2, .int b), (3, .int q), (4, .int bit)] o dX6_rot_21 (by decide) rfl ?_
        refine v_iload 5 o dX6_rot_23 rfl ?_
        refine v_iconst 0 o dX6_rot_25 rfl ?_
        refine v_bipush 63 o dX6_rot_26 (by decide) ?_
        refine v_callSr (v := .int (bI (inR bit (nI 0) (nI 63)))) [.int bit, .int (nI 0), .int (nI 63)] [] o dX6_rot_28 cw_X6_97 st_X6_in (m_in hl hR bit (nI 0) (nI 63)) rfl rfl (by decide) ⟨rfl, rfl⟩ (by decide) (Nat.le_of_ble_eq_true rfl) ?_
        refine v_top (bI true) (by rw [hB]) ?_
        refine v_istore [(6, .int (bI true)), (5, .int (nI 0)), (0, .ref m), (1, .int v), (2, .int b), (3, .int q), (4, .int bit)] o dX6_rot_31 (by decide) rfl ?_
        refine v_bipush 12 o dX6_rot_33 (by decide) ?_
        refine v_iload_n 4 o dX6_rot_35 rfl rfl ?_
        refine v_imul ((nI 12) * b) o dX6_rot_36 rfl ?_
        refine v_iload_n 5 o dX6_rot_37 rfl rfl ?_
        refine v_iadd (((nI 12) * b) + q) o dX6_rot_38 rfl ?_
        refine v_istore [(7, .int (((nI 12) * b) + q)), (6, .int (bI true)), (5, .int (nI 0)), (0, .ref m), (1, .int v), (2, .int b), (3, .int q), (4, .int bit)] o dX6_rot_39 (by decide) rfl ?_
        refine v_aload_n 3 o dX6_rot_41 rfl rfl ?_
        refine v_iload 2 o dX6_rot_42 rfl ?_
        refine v_if_ne_n 51 o dX6_rot_44 (by decide) (by decide) (fun c44 => absurd c44 (by omega)) (fun c44 => ?_)
        refine v_iconst 1 o dX6_rot_47 rfl ?_
        refine v_goto 80 o dX6_rot_48 (by decide) ?_
        refine v_callV [.int (nI 1)] [] o dX6_rot_80 cw_X6_109 im_X6_goesWell se_X6_goesWell cf6 hR.o (m_goesWell hl hR 1 (by first | decide | omega)) rfl rfl (by decide) (by decide) (Nat.le_of_ble_eq_true rfl) ?_ (fun _ _ _ _ h => h.elim)
        rintro _ μ5 _ _ ⟨rfl, hR5, rfl⟩
        refine v_st [.int (bI false)] rfl ?_
        refine v_if_ne_b 88 o dX6_rot_83 (by decide) (fun c83 => absurd c83 (by simp_all)) (fun c83 => ?_)
        refine v_iconst 0 o dX6_rot_86 rfl ?_
        have e9 : sp_rot σ v b q bit = (nI 0, uN σ 3 1 1) := by simp [sp_rot, th, hV, hB, hP]
        exact v_zret o dX6_rot_87 hr (by decide) (Nat.le_of_ble_eq_true rfl) (Nat.le_of_ble_eq_true rfl) (by rw [e9]; exact ⟨rfl, hR5, rfl⟩)
      | true =>
        obtain ⟨v, hv, rfl⟩ := isV_t hV
        have tv : tn (nI v) = v := tn_nI (by omega)
        obtain ⟨i, j, hi, hj, rfl, rfl⟩ := isP_t hI hP
        have h6 := hI.1
        have h12 := hI.2.1 i
        have ti : tn (nI i) = i := tn_nI (by omega)
        have tj : tn (nI j) = j := tn_nI (by omega)
        refine Ct.of hl (by decide +kernel) (Nat.le_of_ble_eq_true rfl) ?_
        intro p e s mi args below meth c o hnm hr hx
        have o : Ok p l s mi args meth c g cX6_rot 8 RX6 := o
        refine v_lv [(0, .ref m), (1, .int (nI v)), (2, .int (nI i)), (3, .int (nI j)), (4, .int bit)] rfl ?_
        refine v_iload_n 1 o dX6_rot_0 rfl rfl ?_
        refine v_callSr (v := .int (bI (isV (nI v)))) [.int (nI v)] [] o dX6_rot_1 cw_X6_130 st_X6_isVault (m_isVault hl hR (nI v)) rfl rfl (by decide) ⟨rfl, rfl⟩ (by decide) (Nat.le_of_ble_eq_true rfl) ?_
        refine v_top (bI true) (by rw [hV]) ?_
        refine v_if_eq_b 20 o dX6_rot_4 (by decide) (fun c4 => absurd c4 (by simp_all)) (fun c4 => ?_)
        refine v_aload_n 0 o dX6_rot_7 rfl rfl ?_
        refine v_iload_n 2 o dX6_rot_8 rfl rfl ?_
        refine v_iload_n 3 o dX6_rot_9 rfl rfl ?_
        refine v_callVr (v := .int (bI (isP σ (nI i) (nI j)))) [.int (nI i), .int (nI j)] [] o dX6_rot_10 cw_X6_105 im_X6_isPage se_X6_isPage cf6 hR.o (m_isPage hl hR hI (nI i) (nI j)) rfl rfl (by decide) ⟨rfl, rfl⟩ (by decide) (Nat.le_of_ble_eq_true rfl) ?_
        refine v_top (bI true) (by rw [hP]) ?_
        refine v_if_eq_b 20 o dX6_rot_13 (by decide) (fun c13 => absurd c13 (by simp_all)) (fun c13 => ?_)
        refine v_iconst 1 o dX6_rot_16 rfl ?_
        refine v_goto 21 o dX6_rot_17 (by decide) ?_
        refine v_istore [(5, .int (nI 1)), (0, .ref m), (1, .int (nI v)), (2, .int (nI i)), (3, .int (nI j)), (4, .int bit)] o dX6_rot_21 (by decide) rfl ?_
        refine v_iload 5 o dX6_rot_23 rfl ?_
        refine v_iconst 0 o dX6_rot_25 rfl ?_
        refine v_bipush 63 o dX6_rot_26 (by decide) ?_
        refine v_callSr (v := .int (bI (inR bit (nI 0) (nI 63)))) [.int bit, .int (nI 0), .int (nI 63)] [] o dX6_rot_28 cw_X6_97 st_X6_in (m_in hl hR bit (nI 0) (nI 63)) rfl rfl (by decide) ⟨rfl, rfl⟩ (by decide) (Nat.le_of_ble_eq_true rfl) ?_
        refine v_top (bI true) (by rw [hB]) ?_
        refine v_istore [(6, .int (bI true)), (5, .int (nI 1)), (0, .ref m), (1, .int (nI v)), (2, .int (nI i)), (3, .int (nI j)), (4, .int bit)] o dX6_rot_31 (by decide) rfl ?_
        refine v_bipush 12 o dX6_rot_33 (by decide) ?_
        refine v_iload_n 4 o dX6_rot_35 rfl rfl ?_
        refine v_imul (nI (12 * i)) o dX6_rot_36 (pk_mul 12 i) ?_
        refine v_iload_n 5 o dX6_rot_37 rfl rfl ?_
        refine v_iadd (nI (12 * i + j)) o dX6_rot_38 (nI_add (12 * i) j) ?_
        refine v_istore [(7, .int (nI (12 * i + j))), (6, .int (bI true)), (5, .int (nI 1)), (0, .ref m), (1, .int (nI v)), (2, .int (nI i)), (3, .int (nI j)), (4, .int bit)] o dX6_rot_39 (by decide) rfl ?_
        refine v_aload_n 3 o dX6_rot_41 rfl rfl ?_
        refine v_iload 2 o dX6_rot_42 rfl ?_
        refine v_if_ne_n 51 o dX6_rot_44 (by decide) (by decide) (fun c44 => ?_) (fun c44 => absurd c44 (by omega))
        refine v_iload 1 o dX6_rot_51 rfl ?_
        refine v_if_ne_b 60 o dX6_rot_53 (by decide) (fun c53 => ?_) (fun c53 => absurd c53 (by simp_all))
        refine v_aload_n 3 o dX6_rot_60 rfl rfl ?_
        refine v_get (v := .ref (m + 15)) o dX6_rot_61 cf6 17 (by decide) fl_X6_54 hR.o rfl ?_
        refine v_bipush 72 o dX6_rot_64 (by decide) ?_
        refine v_iload_n 4 o dX6_rot_66 rfl rfl ?_
        refine v_imul (nI (72 * v)) o dX6_rot_67 (pk_mul 72 v) ?_
        refine v_iload 0 o dX6_rot_68 rfl ?_
        refine v_iadd (nI (72 * v + (12 * i + j))) o dX6_rot_70 (nI_add (72 * v) (12 * i + j)) ?_
        refine v_zald (bI (σ.2.1 5 (72 * v + (12 * i + j)))) o dX6_rot_71 (by omega) (by decide) hR.a15 rfl ?_
        refine v_if_eq_b 79 o dX6_rot_72 (by decide) (fun c72 => ?_) (fun c72 => ?_)
        · refine v_iconst 3 o dX6_rot_79 rfl ?_
          refine v_callV [.int (nI 3)] [] o dX6_rot_80 cw_X6_109 im_X6_goesWell se_X6_goesWell cf6 hR.o (m_goesWell hl hR 3 (by first | decide | omega)) rfl rfl (by decide) (by decide) (Nat.le_of_ble_eq_true rfl) ?_ (fun _ _ _ _ h => h.elim)
          rintro _ μ6 _ _ ⟨rfl, hR6, rfl⟩
          refine v_st [.int (bI false)] rfl ?_
          refine v_if_ne_b 88 o dX6_rot_83 (by decide) (fun c83 => absurd c83 (by simp_all)) (fun c83 => ?_)
          refine v_iconst 0 o dX6_rot_86 rfl ?_
          have e9 : sp_rot σ (nI v) (nI i) (nI j) bit = (nI 0, uN σ 3 1 3) := by simp [sp_rot, th, hV, hB, hP, ti, tj, tv, rotL, c72]
          exact v_zret o dX6_rot_87 hr (by decide) (Nat.le_of_ble_eq_true rfl) (Nat.le_of_ble_eq_true rfl) (by rw [e9]; exact ⟨rfl, hR6, rfl⟩)
        · refine v_iconst 0 o dX6_rot_75 rfl ?_
          refine v_goto 80 o dX6_rot_76 (by decide) ?_
          refine v_callV [.int (nI 0)] [] o dX6_rot_80 cw_X6_109 im_X6_goesWell se_X6_goesWell cf6 hR.o (m_goesWell hl hR 0 (by first | decide | omega)) rfl rfl (by decide) (by decide) (Nat.le_of_ble_eq_true rfl) ?_ (fun _ _ _ _ h => h.elim)
          rintro _ μ7 _ _ ⟨rfl, hR7, rfl⟩
          refine v_st [.int (bI true)] rfl ?_
          refine v_if_ne_b 88 o dX6_rot_83 (by decide) (fun c83 => ?_) (fun c83 => absurd c83 (by simp_all))
          refine v_aload_n 3 o dX6_rot_88 rfl rfl ?_
          refine v_get (v := .ref (m + 16)) o dX6_rot_89 cf6 18 (by decide) fl_X6_57 hR7.o rfl ?_
          refine v_bipush 72 o dX6_rot_92 (by decide) ?_
          refine v_iload_n 4 o dX6_rot_94 rfl rfl ?_
          refine v_imul (nI (72 * v)) o dX6_rot_95 (pk_mul 72 v) ?_
          refine v_iload 0 o dX6_rot_96 rfl ?_
          refine v_iadd (nI (72 * v + (12 * i + j))) o dX6_rot_98 (nI_add (72 * v) (12 * i + j)) ?_
          refine v_dup2 o dX6_rot_99 rfl rfl ?_
          refine v_lald (σ.2.2.2 1 (72 * v + (12 * i + j))) o dX6_rot_100 (by omega) (by decide) hR7.a16 rfl ?_
          refine v_lconst 1 o dX6_rot_101 (by decide) ?_
          refine v_iload 7 o dX6_rot_102 rfl ?_
          refine v_lshl (1 <<< (bit.toInt64 &&& 63)) o dX6_rot_104 rfl ?_
          refine v_lxor ((σ.2.2.2 1 (72 * v + (12 * i + j))) ^^^ (1 <<< (bit.toInt64 &&& 63))) o dX6_rot_105 rfl ?_
          refine v_last o dX6_rot_106 (by omega) (by decide) hR7.a16 (fun μ8 e8 => ?_)
          have hR8 := hR7.p16 (i0 := 72 * v + (12 * i + j)) (v := (σ.2.2.2 1 (72 * v + (12 * i + j))) ^^^ (1 <<< (bit.toInt64 &&& 63))) e8
          refine v_aload_n 3 o dX6_rot_107 rfl rfl ?_
          refine v_iload_n 4 o dX6_rot_108 rfl rfl ?_
          refine v_iload 0 o dX6_rot_109 rfl ?_
          refine v_callVr (v := .int (bI (hb (uL (uN σ 3 1 0) 1 (72 * v + (12 * i + j)) ((σ.2.2.2 1 (72 * v + (12 * i + j))) ^^^ (1 <<< (bit.toInt64 &&& 63)))) v (12 * i + j)))) [.int (nI v), .int (nI (12 * i + j))] [] o dX6_rot_111 cw_X6_127 im_X6_holds se_X6_holds cf6 hR8.o (m_holds hl hR8 v (12 * i + j) (by omega) (by omega)) rfl rfl (by decide) ⟨rfl, rfl⟩ (by decide) (Nat.le_of_ble_eq_true rfl) ?_
          have e9 : sp_rot σ (nI v) (nI i) (nI j) bit = (bI (hb (uL (uN σ 3 1 0) 1 (72 * v + (12 * i + j)) ((σ.2.2.2 1 (72 * v + (12 * i + j))) ^^^ (1 <<< (bit.toInt64 &&& 63)))) v (12 * i + j)), uL (uN σ 3 1 0) 1 (72 * v + (12 * i + j)) ((σ.2.2.2 1 (72 * v + (12 * i + j))) ^^^ (1 <<< (bit.toInt64 &&& 63)))) := by simp [sp_rot, th, hV, hB, hP, ti, tj, tv, rotL, c72]
          exact v_zret o dX6_rot_114 hr (narrow_bI _) (Nat.le_of_ble_eq_true rfl) (Nat.le_of_ble_eq_true rfl) (by rw [e9]; exact ⟨rfl, hR8, rfl⟩)

