set_option maxRecDepth 100000 in
set_option maxHeartbeats 4000000 in
theorem m_read {l : Launch} (hl : l.stackTraces = false) {g : mG} {m z : Nat} {μ0 μ : mM} {σ : Sg} (hR : RM g m μ0 σ μ) (hI : Inv σ) (b q a : Int32) : Ct l g yX6_read [Cond.code yX6_read cX6_read 9 (some .int)] { frames := 4, cells := 0, slots := 0, locals := 88 } [.ref m, .int b, .int q, .int a] μ z (wrS g m μ0 (some (.int (sp_read σ b q a).1)) (sp_read σ b q a).2 z) noX := by
  cases hL : isL σ b q a with
  | false =>
    refine Ct.of hl (by decide +kernel) (Nat.le_of_ble_eq_true rfl) ?_
    intro p e s mi args below meth c o hnm hr hx
    have o : Ok p l s mi args meth c g cX6_read 9 RX6 := o
    refine v_lv [(0, .ref m), (1, .int b), (2, .int q), (3, .int a)] rfl ?_
    refine v_aload_n 0 o dX6_read_0 rfl rfl ?_
    refine v_aload_n 0 o dX6_read_1 rfl rfl ?_
    refine v_iload_n 1 o dX6_read_2 rfl rfl ?_
    refine v_iload_n 2 o dX6_read_3 rfl rfl ?_
    refine v_iload_n 3 o dX6_read_4 rfl rfl ?_
    refine v_callVr (v := .int (bI (isL σ b q a))) [.int b, .int q, .int a] [.ref m] o dX6_read_5 cw_X6_158 im_X6_isPlace se_X6_isPlace cf6 hR.o (m_isPlace hl hR hI b q a) rfl rfl (by decide) ⟨rfl, rfl⟩ (by decide) (Nat.le_of_ble_eq_true rfl) ?_
    refine v_top (bI false) (by rw [hL]) ?_
    refine v_if_eq_b 15 o dX6_read_8 (by decide) (fun c8 => ?_) (fun c8 => absurd c8 (by simp_all))
    refine v_iconst 1 o dX6_read_15 rfl ?_
    refine v_callV [.int (nI 1)] [] o dX6_read_16 cw_X6_109 im_X6_goesWell se_X6_goesWell cf6 hR.o (m_goesWell hl hR 1 (by first | decide | omega)) rfl rfl (by decide) (by decide) (Nat.le_of_ble_eq_true rfl) ?_ (fun _ _ _ _ h => h.elim)
    rintro _ μ1 _ _ ⟨rfl, hR1, rfl⟩
    refine v_st [.int (bI false)] rfl ?_
    refine v_if_ne_b 24 o dX6_read_19 (by decide) (fun c19 => absurd c19 (by simp_all)) (fun c19 => ?_)
    refine v_iconst 0 o dX6_read_22 rfl ?_
    have e9 : sp_read σ b q a = (nI 0, uN σ 3 1 1) := by simp [sp_read, th, hL]
    exact v_iret o dX6_read_23 hr (Nat.le_of_ble_eq_true rfl) (Nat.le_of_ble_eq_true rfl) (by rw [e9]; exact ⟨rfl, ⟨_, scr.rf, hR1⟩, rfl⟩)
  | true =>
    obtain ⟨i, r, k, hi, hj, hk, rfl, rfl, rfl⟩ := isL_t hI hL
    have h6 := hI.1
    have h12 := hI.2.1 i
    have ti : tn (nI i) = i := tn_nI (by omega)
    have tj : tn (nI r) = r := tn_nI (by omega)
    have tk : tn (nI k) = k := tn_nI (by omega)
    have hgk := hI.2.2.1 (4 * (12 * i + r) + k)
    have hI5 : Inv (tst (uN σ 3 1 0) 5) := (scr_tst (uN σ 3 1 0) 5).inv hI
    have hT5 : ∀ w, w < 5 → (tst (uN σ 3 1 0) 5).1 4 w = trustN (tst (uN σ 3 1 0) 5) w := fun w hw => by rw [tst_4 _ 5 w hw, trustN_congr (tst_k _ (by decide) 5) (tst_k _ (by decide) 5)]
    refine Ct.of hl (by decide +kernel) (Nat.le_of_ble_eq_true rfl) ?_
    intro p e s mi args below meth c o hnm hr hx
    have o : Ok p l s mi args meth c g cX6_read 9 RX6 := o
    refine v_lv [(0, .ref m), (1, .int (nI i)), (2, .int (nI r)), (3, .int (nI k))] rfl ?_
    refine v_aload_n 0 o dX6_read_0 rfl rfl ?_
    refine v_aload_n 0 o dX6_read_1 rfl rfl ?_
    refine v_iload_n 1 o dX6_read_2 rfl rfl ?_
    refine v_iload_n 2 o dX6_read_3 rfl rfl ?_
    refine v_iload_n 3 o dX6_read_4 rfl rfl ?_
    refine v_callVr (v := .int (bI (isL σ (nI i) (nI r) (nI k)))) [.int (nI i), .int (nI r), .int (nI k)] [.ref m] o dX6_read_5 cw_X6_158 im_X6_isPlace se_X6_isPlace cf6 hR.o (m_isPlace hl hR hI (nI i) (nI r) (nI k)) rfl rfl (by decide) ⟨rfl, rfl⟩ (by decide) (Nat.le_of_ble_eq_true rfl) ?_
    refine v_top (bI true) (by rw [hL]) ?_
    refine v_if_eq_b 15 o dX6_read_8 (by decide) (fun c8 => absurd c8 (by simp_all)) (fun c8 => ?_)
    refine v_iconst 0 o dX6_read_11 rfl ?_
    refine v_goto 16 o dX6_read_12 (by decide) ?_
    refine v_callV [.int (nI 0)] [] o dX6_read_16 cw_X6_109 im_X6_goesWell se_X6_goesWell cf6 hR.o (m_goesWell hl hR 0 (by first | decide | omega)) rfl rfl (by decide) (by decide) (Nat.le_of_ble_eq_true rfl) ?_ (fun _ _ _ _ h => h.elim)
    rintro _ μ2 _ _ ⟨rfl, hR2, rfl⟩
    refine v_st [.int (bI true)] rfl ?_
    refine v_if_ne_b 24 o dX6_read_19 (by decide) (fun c19 => ?_) (fun c19 => absurd c19 (by simp_all))
    refine v_iload_n 1 o dX6_read_24 rfl rfl ?_
    refine v_iload_n 2 o dX6_read_25 rfl rfl ?_
    refine v_iload_n 3 o dX6_read_26 rfl rfl ?_
    refine v_callSr (v := .int (nI (4 * (12 * i + r) + k))) [.int (nI i), .int (nI r), .int (nI k)] [] o dX6_read_27 cw_X6_161 st_X6_spot (m_spot hl hR2 i r k) rfl rfl (by decide) ⟨rfl, rfl⟩ (by decide) (Nat.le_of_ble_eq_true rfl) ?_
    refine v_istore [(4, .int (nI (4 * (12 * i + r) + k))), (0, .ref m), (1, .int (nI i)), (2, .int (nI r)), (3, .int (nI k))] o dX6_read_30 (by decide) rfl ?_
    refine v_aload_n 1 o dX6_read_32 rfl rfl ?_
    refine v_get (v := .ref (m + 21)) o dX6_read_33 cf6 24 (by decide) fl_X6_72 hR2.o rfl ?_
    refine v_iload 0 o dX6_read_36 rfl ?_
    refine v_iald (nI (σ.1 1 (4 * (12 * i + r) + k))) o dX6_read_38 (by omega) (by decide) hR2.a21 rfl ?_
    refine v_if_le_n 52 o dX6_read_39 (by decide) (by omega) (fun c39 => ?_) (fun c39 => ?_)
    · refine v_aload_n 1 o dX6_read_52 rfl rfl ?_
      refine v_callV [] [] o dX6_read_53 cw_X6_168 im_X6_weigh se_X6_weigh cf6 hR2.o (m_weigh hl hR2 hI) rfl rfl (by decide) (by decide) (Nat.le_of_ble_eq_true rfl) ?_ (fun _ _ _ _ h => h.elim)
      rintro _ μ3 _ _ ⟨rfl, hR3, rfl⟩
      refine v_st [] rfl ?_
      refine v_iconst_i (-1) o dX6_read_56 (by decide) ?_
      refine v_istore [(5, .int (-1)), (4, .int (nI (4 * (12 * i + r) + k))), (0, .ref m), (1, .int (nI i)), (2, .int (nI r)), (3, .int (nI k))] o dX6_read_57 (by decide) rfl ?_
      refine v_iconst_i (-1) o dX6_read_59 (by decide) ?_
      refine v_istore [(6, .int (-1)), (5, .int (-1)), (4, .int (nI (4 * (12 * i + r) + k))), (0, .ref m), (1, .int (nI i)), (2, .int (nI r)), (3, .int (nI k))] o dX6_read_60 (by decide) rfl ?_
      refine v_iconst 1 o dX6_read_62 rfl ?_
      refine v_istore [(7, .int (nI 1)), (6, .int (-1)), (5, .int (-1)), (4, .int (nI (4 * (12 * i + r) + k))), (0, .ref m), (1, .int (nI i)), (2, .int (nI r)), (3, .int (nI k))] o dX6_read_63 (by decide) rfl ?_
      have c39n := Nat.not_lt.mpr c39
      have L : ∀ (d j : Nat) (μq : mM), j + d = 26 → RM g m μ0 (tst (uN σ 3 1 0) 5) μq → V p l e { frames := 4, cells := 0, slots := 0, locals := 88 } s mi args below meth c (vx_MQ below (cQc g (wrS g m μ0 (some (.int (sp_read σ (nI i) (nI r) (nI k)).1)) (sp_read σ (nI i) (nI r) (nI k)).2 z)) (cXC g noX) args s ({ frames := 4, cells := 0, slots := 0, locals := 88 } : Room).cells ({ frames := 4, cells := 0, slots := 0, locals := 88 } : Room).slots (gA g)) g μq z 0 0 65 [(0, .ref m), (4, .int (nI (4 * (12 * i + r) + k))), (5, .int (mI (bst σ (4 * (12 * i + r) + k) j).1)), (6, .int (mI (bst σ (4 * (12 * i + r) + k) j).2)), (7, .int (nI (j + 1)))] [] := by
        intro d
        induction d with
        | zero =>
          intro j μq hj hRq
          have hw5 := wgt_le σ (4 * (12 * i + r) + k) (j + 1) 5; have hb5 := bst_le σ (4 * (12 * i + r) + k) j
          refine v_iload 4 o dX6_read_65 rfl ?_
          refine v_bipush 26 o dX6_read_67 (by decide) ?_
          refine v_icmp_gt_n 122 o dX6_read_69 (by decide) (by omega) (by decide) (fun c69 => ?_) (fun c69 => absurd c69 (by omega))
          refine v_iload 2 o dX6_read_122 rfl ?_
          have e9 : sp_read σ (nI i) (nI r) (nI k) = (mI (bst σ (4 * (12 * i + r) + k) j).1, uN σ 3 1 0) := by simp [sp_read, th, hL, ti, tj, tk, spot, c39n, (show j = 26 by omega)]
          exact v_iret o dX6_read_124 hr (Nat.le_of_ble_eq_true rfl) (Nat.le_of_ble_eq_true rfl) (by rw [e9]; exact ⟨rfl, ⟨_, (scr_tst _ 5), hRq⟩, rfl⟩)
        | succ d ih =>
          intro j μq hj hRq
          have hw5 := wgt_le σ (4 * (12 * i + r) + k) (j + 1) 5; have hb5 := bst_le σ (4 * (12 * i + r) + k) j
          refine v_iload 4 o dX6_read_65 rfl ?_
          refine v_bipush 26 o dX6_read_67 (by decide) ?_
          refine v_icmp_gt_n 122 o dX6_read_69 (by decide) (by omega) (by decide) (fun c69 => absurd c69 (by omega)) (fun c69 => ?_)
          refine v_aload_n 0 o dX6_read_72 rfl rfl ?_
          refine v_iload 1 o dX6_read_73 rfl ?_
          refine v_iload 4 o dX6_read_75 rfl ?_
          refine v_callVr (v := .int (mI (wgt (tst (uN σ 3 1 0) 5) (4 * (12 * i + r) + k) (j + 1) 5))) [.int (nI (4 * (12 * i + r) + k)), .int (nI (j + 1))] [] o dX6_read_77 cw_X6_171 im_X6_weight se_X6_weight cf6 hRq.o (m_weight hl hRq hI5 hT5 (4 * (12 * i + r) + k) (j + 1) (by omega) (by omega)) rfl rfl (by decide) ⟨rfl, rfl⟩ (by decide) (Nat.le_of_ble_eq_true rfl) ?_
          refine v_top (mI (wgt σ (4 * (12 * i + r) + k) (j + 1) 5)) (by rw [wgt_congr (σ := σ) (τ := tst (uN σ 3 1 0) 5) (tst_k _ (by decide) 5) (tst_k _ (by decide) 5)]) ?_
          refine v_istore [(8, .int (mI (wgt σ (4 * (12 * i + r) + k) (j + 1) 5))), (0, .ref m), (4, .int (nI (4 * (12 * i + r) + k))), (5, .int (mI (bst σ (4 * (12 * i + r) + k) j).1)), (6, .int (mI (bst σ (4 * (12 * i + r) + k) j).2)), (7, .int (nI (j + 1)))] o dX6_read_80 (by decide) rfl ?_
          refine v_iload 0 o dX6_read_82 rfl ?_
          refine v_iload 4 o dX6_read_84 rfl ?_
          refine v_icmp_le 96 o dX6_read_86 (by decide) (fun c86 => ?_) (fun c86 => ?_)
          · refine v_iload 3 o dX6_read_96 rfl ?_
            refine v_istore [(5, .int (mI (bst σ (4 * (12 * i + r) + k) j).1)), (8, .int (mI (wgt σ (4 * (12 * i + r) + k) (j + 1) 5))), (0, .ref m), (4, .int (nI (4 * (12 * i + r) + k))), (6, .int (mI (bst σ (4 * (12 * i + r) + k) j).2)), (7, .int (nI (j + 1)))] o dX6_read_98 (by decide) rfl ?_
            refine v_iload 1 o dX6_read_100 rfl ?_
            refine v_iload 4 o dX6_read_102 rfl ?_
            refine v_icmp_le 112 o dX6_read_104 (by decide) (fun c104 => ?_) (fun c104 => absurd c104 (not_not_intro c86))
            refine v_iload 4 o dX6_read_112 rfl ?_
            refine v_istore [(6, .int (mI (bst σ (4 * (12 * i + r) + k) j).2)), (5, .int (mI (bst σ (4 * (12 * i + r) + k) j).1)), (8, .int (mI (wgt σ (4 * (12 * i + r) + k) (j + 1) 5))), (0, .ref m), (4, .int (nI (4 * (12 * i + r) + k))), (7, .int (nI (j + 1)))] o dX6_read_114 (by decide) rfl ?_
            refine v_iinc (nI (j + 1 + 1)) [(7, .int (nI (j + 1 + 1))), (6, .int (mI (bst σ (4 * (12 * i + r) + k) j).2)), (5, .int (mI (bst σ (4 * (12 * i + r) + k) j).1)), (8, .int (mI (wgt σ (4 * (12 * i + r) + k) (j + 1) 5))), (0, .ref m), (4, .int (nI (4 * (12 * i + r) + k)))] o dX6_read_116 5 rfl (iinc_n (j + 1) 1) (by decide) rfl ?_
            refine v_goto 65 o dX6_read_119 (by decide) ?_
            refine v_sub [(0, .ref m), (4, .int (nI (4 * (12 * i + r) + k))), (5, .int (mI (bst σ (4 * (12 * i + r) + k) j).1)), (6, .int (mI (bst σ (4 * (12 * i + r) + k) j).2)), (7, .int (nI (j + 1 + 1)))] [4, 5, 2, 1, 0] rfl ?_
            refine v_lv [(0, .ref m), (4, .int (nI (4 * (12 * i + r) + k))), (5, .int (mI (bst σ (4 * (12 * i + r) + k) (j + 1)).1)), (6, .int (mI (bst σ (4 * (12 * i + r) + k) (j + 1)).2)), (7, .int (nI (j + 1 + 1)))] (by rw [show bst σ (4 * (12 * i + r) + k) (j + 1) = bst σ (4 * (12 * i + r) + k) j from if_neg (Nat.not_lt.mpr ((mI_leI (by omega) (by omega)).mp c86))]) ?_
            exact ih (j + 1) _ (by omega) hRq
          · refine v_iload 5 o dX6_read_89 rfl ?_
            refine v_iconst 1 o dX6_read_91 rfl ?_
            refine v_isub (nI j) o dX6_read_92 (nI_pred j) ?_
            refine v_goto 98 o dX6_read_93 (by decide) ?_
            refine v_istore [(5, .int (nI j)), (8, .int (mI (wgt σ (4 * (12 * i + r) + k) (j + 1) 5))), (0, .ref m), (4, .int (nI (4 * (12 * i + r) + k))), (6, .int (mI (bst σ (4 * (12 * i + r) + k) j).2)), (7, .int (nI (j + 1)))] o dX6_read_98 (by decide) rfl ?_
            refine v_iload 1 o dX6_read_100 rfl ?_
            refine v_iload 4 o dX6_read_102 rfl ?_
            refine v_icmp_le 112 o dX6_read_104 (by decide) (fun c104 => absurd c104 c86) (fun c104 => ?_)
            refine v_iload 1 o dX6_read_107 rfl ?_
            refine v_goto 114 o dX6_read_109 (by decide) ?_
            refine v_istore [(6, .int (mI (wgt σ (4 * (12 * i + r) + k) (j + 1) 5))), (5, .int (nI j)), (8, .int (mI (wgt σ (4 * (12 * i + r) + k) (j + 1) 5))), (0, .ref m), (4, .int (nI (4 * (12 * i + r) + k))), (7, .int (nI (j + 1)))] o dX6_read_114 (by decide) rfl ?_
            refine v_iinc (nI (j + 1 + 1)) [(7, .int (nI (j + 1 + 1))), (6, .int (mI (wgt σ (4 * (12 * i + r) + k) (j + 1) 5))), (5, .int (nI j)), (8, .int (mI (wgt σ (4 * (12 * i + r) + k) (j + 1) 5))), (0, .ref m), (4, .int (nI (4 * (12 * i + r) + k)))] o dX6_read_116 5 rfl (iinc_n (j + 1) 1) (by decide) rfl ?_
            refine v_goto 65 o dX6_read_119 (by decide) ?_
            refine v_sub [(0, .ref m), (4, .int (nI (4 * (12 * i + r) + k))), (5, .int (nI j)), (6, .int (mI (wgt σ (4 * (12 * i + r) + k) (j + 1) 5))), (7, .int (nI (j + 1 + 1)))] [4, 5, 2, 1, 0] rfl ?_
            refine v_lv [(0, .ref m), (4, .int (nI (4 * (12 * i + r) + k))), (5, .int (mI (bst σ (4 * (12 * i + r) + k) (j + 1)).1)), (6, .int (mI (bst σ (4 * (12 * i + r) + k) (j + 1)).2)), (7, .int (nI (j + 1 + 1)))] (by rw [show bst σ (4 * (12 * i + r) + k) (j + 1) = (j + 1, wgt σ (4 * (12 * i + r) + k) (j + 1) 5) from if_pos (Nat.not_le.mp (fun q => c86 ((mI_leI (by omega) (by omega)).mpr q))), mI_s]) ?_
            exact ih (j + 1) _ (by omega) hRq
      refine v_sub [(0, .ref m), (4, .int (nI (4 * (12 * i + r) + k))), (5, .int (-1)), (6, .int (-1)), (7, .int (nI 1))] [4, 3, 2, 1, 0] rfl ?_
      refine v_lv [(0, .ref m), (4, .int (nI (4 * (12 * i + r) + k))), (5, .int (mI (bst σ (4 * (12 * i + r) + k) 0).1)), (6, .int (mI (bst σ (4 * (12 * i + r) + k) 0).2)), (7, .int (nI 1))] rfl ?_
      exact L 26 0 _ (by omega) hR3
    · refine v_aload_n 1 o dX6_read_42 rfl rfl ?_
      refine v_get (v := .ref (m + 21)) o dX6_read_43 cf6 24 (by decide) fl_X6_72 hR2.o rfl ?_
      refine v_iload 0 o dX6_read_46 rfl ?_
      refine v_iald (nI (σ.1 1 (4 * (12 * i + r) + k))) o dX6_read_48 (by omega) (by decide) hR2.a21 rfl ?_
      refine v_iconst 1 o dX6_read_49 rfl ?_
      refine v_isub (mI (σ.1 1 (4 * (12 * i + r) + k))) o dX6_read_50 rfl ?_
      have e9 : sp_read σ (nI i) (nI r) (nI k) = (mI (σ.1 1 (4 * (12 * i + r) + k)), uN σ 3 1 0) := by simp [sp_read, th, hL, ti, tj, tk, spot, Nat.not_le.mp c39]
      exact v_iret o dX6_read_51 hr (Nat.le_of_ble_eq_true rfl) (Nat.le_of_ble_eq_true rfl) (by rw [e9]; exact ⟨rfl, ⟨_, scr.rf, hR2⟩, rfl⟩)

set_option maxRecDepth 100000 in
set_option maxHeartbeats 4000000 in
theorem m_doubt {l : Launch} (hl : l.stackTraces = false) {g : mG} {m z : Nat} {μ0 μ : mM} {σ : Sg} (hR : RM g m μ0 σ μ) (hI : Inv σ) (b q a : Int32) : Ct l g yX6_doubt [Cond.code yX6_doubt cX6_doubt 9 (some .int)] { frames := 4, cells := 0, slots := 0, locals := 88 } [.ref m, .int b, .int q, .int a] μ z (wrS g m μ0 (some (.int (sp_doubt σ b q a).1)) (sp_doubt σ b q a).2 z) noX := by
  cases hL : isL σ b q a with
  | false =>
    refine Ct.of hl (by decide +kernel) (Nat.le_of_ble_eq_true rfl) ?_
    intro p e s mi args below meth c o hnm hr hx
    have o : Ok p l s mi args meth c g cX6_doubt 9 RX6 := o
    refine v_lv [(0, .ref m), (1, .int b), (2, .int q), (3, .int a)] rfl ?_
    refine v_aload_n 0 o dX6_doubt_0 rfl rfl ?_
    refine v_aload_n 0 o dX6_doubt_1 rfl rfl ?_
    refine v_iload_n 1 o dX6_doubt_2 rfl rfl ?_
    refine v_iload_n 2 o dX6_doubt_3 rfl rfl ?_
    refine v_iload_n 3 o dX6_doubt_4 rfl rfl ?_
    refine v_callVr (v := .int (bI (isL σ b q a))) [.int b, .int q, .int a] [.ref m] o dX6_doubt_5 cw_X6_158 im_X6_isPlace se_X6_isPlace cf6 hR.o (m_isPlace hl hR hI b q a) rfl rfl (by decide) ⟨rfl, rfl⟩ (by decide) (Nat.le_of_ble_eq_true rfl) ?_
    refine v_top (bI false) (by rw [hL]) ?_
    refine v_if_eq_b 15 o dX6_doubt_8 (by decide) (fun c8 => ?_) (fun c8 => absurd c8 (by simp_all))
    refine v_iconst 1 o dX6_doubt_15 rfl ?_
    refine v_callV [.int (nI 1)] [] o dX6_doubt_16 cw_X6_109 im_X6_goesWell se_X6_goesWell cf6 hR.o (m_goesWell hl hR 1 (by first | decide | omega)) rfl rfl (by decide) (by decide) (Nat.le_of_ble_eq_true rfl) ?_ (fun _ _ _ _ h => h.elim)
    rintro _ μ1 _ _ ⟨rfl, hR1, rfl⟩
    refine v_st [.int (bI false)] rfl ?_
    refine v_if_ne_b 24 o dX6_doubt_19 (by decide) (fun c19 => absurd c19 (by simp_all)) (fun c19 => ?_)
    refine v_iconst 0 o dX6_doubt_22 rfl ?_
    have e9 : sp_doubt σ b q a = (nI 0, uN σ 3 1 1) := by simp [sp_doubt, th, hL]
    exact v_iret o dX6_doubt_23 hr (Nat.le_of_ble_eq_true rfl) (Nat.le_of_ble_eq_true rfl) (by rw [e9]; exact ⟨rfl, ⟨_, scr.rf, hR1⟩, rfl⟩)
  | true =>
    obtain ⟨i, r, k, hi, hj, hk, rfl, rfl, rfl⟩ := isL_t hI hL
    have h6 := hI.1
    have h12 := hI.2.1 i
    have ti : tn (nI i) = i := tn_nI (by omega)
    have tj : tn (nI r) = r := tn_nI (by omega)
    have tk : tn (nI k) = k := tn_nI (by omega)
    have hgk := hI.2.2.1 (4 * (12 * i + r) + k)
    have hI5 : Inv (tst (uN σ 3 1 0) 5) := (scr_tst (uN σ 3 1 0) 5).inv hI
    have hT5 : ∀ w, w < 5 → (tst (uN σ 3 1 0) 5).1 4 w = trustN (tst (uN σ 3 1 0) 5) w := fun w hw => by rw [tst_4 _ 5 w hw, trustN_congr (tst_k _ (by decide) 5) (tst_k _ (by decide) 5)]
    refine Ct.of hl (by decide +kernel) (Nat.le_of_ble_eq_true rfl) ?_
    intro p e s mi args below meth c o hnm hr hx
    have o : Ok p l s mi args meth c g cX6_doubt 9 RX6 := o
    refine v_lv [(0, .ref m), (1, .int (nI i)), (2, .int (nI r)), (3, .int (nI k))] rfl ?_
    refine v_aload_n 0 o dX6_doubt_0 rfl rfl ?_
    refine v_aload_n 0 o dX6_doubt_1 rfl rfl ?_
    refine v_iload_n 1 o dX6_doubt_2 rfl rfl ?_
    refine v_iload_n 2 o dX6_doubt_3 rfl rfl ?_
    refine v_iload_n 3 o dX6_doubt_4 rfl rfl ?_
    refine v_callVr (v := .int (bI (isL σ (nI i) (nI r) (nI k)))) [.int (nI i), .int (nI r), .int (nI k)] [.ref m] o dX6_doubt_5 cw_X6_158 im_X6_isPlace se_X6_isPlace cf6 hR.o (m_isPlace hl hR hI (nI i) (nI r) (nI k)) rfl rfl (by decide) ⟨rfl, rfl⟩ (by decide) (Nat.le_of_ble_eq_true rfl) ?_
    refine v_top (bI true) (by rw [hL]) ?_
    refine v_if_eq_b 15 o dX6_doubt_8 (by decide) (fun c8 => absurd c8 (by simp_all)) (fun c8 => ?_)
    refine v_iconst 0 o dX6_doubt_11 rfl ?_
    refine v_goto 16 o dX6_doubt_12 (by decide) ?_
    refine v_callV [.int (nI 0)] [] o dX6_doubt_16 cw_X6_109 im_X6_goesWell se_X6_goesWell cf6 hR.o (m_goesWell hl hR 0 (by first | decide | omega)) rfl rfl (by decide) (by decide) (Nat.le_of_ble_eq_true rfl) ?_ (fun _ _ _ _ h => h.elim)
    rintro _ μ2 _ _ ⟨rfl, hR2, rfl⟩
    refine v_st [.int (bI true)] rfl ?_
    refine v_if_ne_b 24 o dX6_doubt_19 (by decide) (fun c19 => ?_) (fun c19 => absurd c19 (by simp_all))
    refine v_iload_n 1 o dX6_doubt_24 rfl rfl ?_
    refine v_iload_n 2 o dX6_doubt_25 rfl rfl ?_
    refine v_iload_n 3 o dX6_doubt_26 rfl rfl ?_
    refine v_callSr (v := .int (nI (4 * (12 * i + r) + k))) [.int (nI i), .int (nI r), .int (nI k)] [] o dX6_doubt_27 cw_X6_161 st_X6_spot (m_spot hl hR2 i r k) rfl rfl (by decide) ⟨rfl, rfl⟩ (by decide) (Nat.le_of_ble_eq_true rfl) ?_
    refine v_istore [(4, .int (nI (4 * (12 * i + r) + k))), (0, .ref m), (1, .int (nI i)), (2, .int (nI r)), (3, .int (nI k))] o dX6_doubt_30 (by decide) rfl ?_
    refine v_aload_n 1 o dX6_doubt_32 rfl rfl ?_
    refine v_get (v := .ref (m + 21)) o dX6_doubt_33 cf6 24 (by decide) fl_X6_72 hR2.o rfl ?_
    refine v_iload 0 o dX6_doubt_36 rfl ?_
    refine v_iald (nI (σ.1 1 (4 * (12 * i + r) + k))) o dX6_doubt_38 (by omega) (by decide) hR2.a21 rfl ?_
    refine v_if_le_n 44 o dX6_doubt_39 (by decide) (by omega) (fun c39 => ?_) (fun c39 => ?_)
    · refine v_aload_n 1 o dX6_doubt_44 rfl rfl ?_
      refine v_callV [] [] o dX6_doubt_45 cw_X6_168 im_X6_weigh se_X6_weigh cf6 hR2.o (m_weigh hl hR2 hI) rfl rfl (by decide) (by decide) (Nat.le_of_ble_eq_true rfl) ?_ (fun _ _ _ _ h => h.elim)
      rintro _ μ3 _ _ ⟨rfl, hR3, rfl⟩
      refine v_st [] rfl ?_
      refine v_iconst 0 o dX6_doubt_48 rfl ?_
      refine v_istore [(5, .int (nI 0)), (4, .int (nI (4 * (12 * i + r) + k))), (0, .ref m), (1, .int (nI i)), (2, .int (nI r)), (3, .int (nI k))] o dX6_doubt_49 (by decide) rfl ?_
      refine v_iconst 0 o dX6_doubt_51 rfl ?_
      refine v_istore [(6, .int (nI 0)), (5, .int (nI 0)), (4, .int (nI (4 * (12 * i + r) + k))), (0, .ref m), (1, .int (nI i)), (2, .int (nI r)), (3, .int (nI k))] o dX6_doubt_52 (by decide) rfl ?_
      refine v_iconst 1 o dX6_doubt_54 rfl ?_
      refine v_istore [(7, .int (nI 1)), (6, .int (nI 0)), (5, .int (nI 0)), (4, .int (nI (4 * (12 * i + r) + k))), (0, .ref m), (1, .int (nI i)), (2, .int (nI r)), (3, .int (nI k))] o dX6_doubt_55 (by decide) rfl ?_
      have c39n := Nat.not_lt.mpr c39
      have L : ∀ (d j : Nat) (μq : mM), j + d = 26 → RM g m μ0 (tst (uN σ 3 1 0) 5) μq → V p l e { frames := 4, cells := 0, slots := 0, locals := 88 } s mi args below meth c (vx_MQ below (cQc g (wrS g m μ0 (some (.int (sp_doubt σ (nI i) (nI r) (nI k)).1)) (sp_doubt σ (nI i) (nI r) (nI k)).2 z)) (cXC g noX) args s ({ frames := 4, cells := 0, slots := 0, locals := 88 } : Room).cells ({ frames := 4, cells := 0, slots := 0, locals := 88 } : Room).slots (gA g)) g μq z 0 0 57 [(0, .ref m), (4, .int (nI (4 * (12 * i + r) + k))), (5, .int (nI (sumW σ (4 * (12 * i + r) + k) j))), (6, .int (nI (maxW σ (4 * (12 * i + r) + k) j))), (7, .int (nI (j + 1)))] [] := by
        intro d
        induction d with
        | zero =>
          intro j μq hj hRq
          have hw5 := wgt_le σ (4 * (12 * i + r) + k) (j + 1) 5; have hs5 := sumW_le σ (4 * (12 * i + r) + k) j; have hm5 := maxW_le σ (4 * (12 * i + r) + k) j
          refine v_iload 4 o dX6_doubt_57 rfl ?_
          refine v_bipush 26 o dX6_doubt_59 (by decide) ?_
          refine v_icmp_gt_n 112 o dX6_doubt_61 (by decide) (by omega) (by decide) (fun c61 => ?_) (fun c61 => absurd c61 (by omega))
          refine v_iload 2 o dX6_doubt_112 rfl ?_
          refine v_if_ne_n 122 o dX6_doubt_114 (by decide) (by omega) (fun c114 => ?_) (fun c114 => ?_)
          · refine v_bipush 100 o dX6_doubt_122 (by decide) ?_
            refine v_bipush 100 o dX6_doubt_124 (by decide) ?_
            refine v_iload 3 o dX6_doubt_126 rfl ?_
            refine v_imul (nI (100 * (maxW σ (4 * (12 * i + r) + k) j))) o dX6_doubt_128 (pk_mul 100 (maxW σ (4 * (12 * i + r) + k) j)) ?_
            refine v_iload 2 o dX6_doubt_129 rfl ?_
            refine v_idiv (nI (100 * maxW σ (4 * (12 * i + r) + k) j / sumW σ (4 * (12 * i + r) + k) j)) o dX6_doubt_131 (fun q => c114 ((nI_eq (by omega) (by decide : 0 < 2 ^ 31)).mp q)) (pk_div (by omega) (by omega) (by omega)) ?_
            refine v_isub (nI (100 - 100 * maxW σ (4 * (12 * i + r) + k) j / sumW σ (4 * (12 * i + r) + k) j)) o dX6_doubt_132 (pk_sub (Nat.div_le_of_le_mul (by omega))) ?_
            have ej : j = 26 := by omega
            have e8 : (if sumW σ (4 * (12 * i + r) + k) 26 = 0 then 100 else 100 - 100 * maxW σ (4 * (12 * i + r) + k) 26 / sumW σ (4 * (12 * i + r) + k) 26) = 100 - 100 * maxW σ (4 * (12 * i + r) + k) j / sumW σ (4 * (12 * i + r) + k) j := by rw [← ej]; exact if_neg c114
            have e9 : sp_doubt σ (nI i) (nI r) (nI k) = (nI (100 - 100 * maxW σ (4 * (12 * i + r) + k) j / sumW σ (4 * (12 * i + r) + k) j), uN σ 3 1 0) := by rw [← e8]; simp [sp_doubt, th, hL, ti, tj, tk, spot, c39n]
            exact v_iret o dX6_doubt_133 hr (Nat.le_of_ble_eq_true rfl) (Nat.le_of_ble_eq_true rfl) (by rw [e9]; exact ⟨rfl, ⟨_, scr_tst _ 5, hRq⟩, rfl⟩)
          · refine v_bipush 100 o dX6_doubt_117 (by decide) ?_
            refine v_goto 133 o dX6_doubt_119 (by decide) ?_
            have ej : j = 26 := by omega
            have e8 : (if sumW σ (4 * (12 * i + r) + k) 26 = 0 then 100 else 100 - 100 * maxW σ (4 * (12 * i + r) + k) 26 / sumW σ (4 * (12 * i + r) + k) 26) = 100 := by rw [← ej]; exact if_pos c114
            have e9 : sp_doubt σ (nI i) (nI r) (nI k) = (nI 100, uN σ 3 1 0) := by rw [← e8]; simp [sp_doubt, th, hL, ti, tj, tk, spot, c39n]
            exact v_iret o dX6_doubt_133 hr (Nat.le_of_ble_eq_true rfl) (Nat.le_of_ble_eq_true rfl) (by rw [e9]; exact ⟨rfl, ⟨_, scr_tst _ 5, hRq⟩, rfl⟩)
        | succ d ih =>
          intro j μq hj hRq
          have hw5 := wgt_le σ (4 * (12 * i + r) + k) (j + 1) 5; have hs5 := sumW_le σ (4 * (12 * i + r) + k) j; have hm5 := maxW_le σ (4 * (12 * i + r) + k) j
          refine v_iload 4 o dX6_doubt_57 rfl ?_
          refine v_bipush 26 o dX6_doubt_59 (by decide) ?_
          refine v_icmp_gt_n 112 o dX6_doubt_61 (by decide) (by omega) (by decide) (fun c61 => absurd c61 (by omega)) (fun c61 => ?_)
          refine v_aload_n 0 o dX6_doubt_64 rfl rfl ?_
          refine v_iload 1 o dX6_doubt_65 rfl ?_
          refine v_iload 4 o dX6_doubt_67 rfl ?_
          refine v_callVr (v := .int (mI (wgt (tst (uN σ 3 1 0) 5) (4 * (12 * i + r) + k) (j + 1) 5))) [.int (nI (4 * (12 * i + r) + k)), .int (nI (j + 1))] [] o dX6_doubt_69 cw_X6_171 im_X6_weight se_X6_weight cf6 hRq.o (m_weight hl hRq hI5 hT5 (4 * (12 * i + r) + k) (j + 1) (by omega) (by omega)) rfl rfl (by decide) ⟨rfl, rfl⟩ (by decide) (Nat.le_of_ble_eq_true rfl) ?_
          refine v_top (mI (wgt σ (4 * (12 * i + r) + k) (j + 1) 5)) (by rw [wgt_congr (σ := σ) (τ := tst (uN σ 3 1 0) 5) (tst_k _ (by decide) 5) (tst_k _ (by decide) 5)]) ?_
          refine v_istore [(8, .int (mI (wgt σ (4 * (12 * i + r) + k) (j + 1) 5))), (0, .ref m), (4, .int (nI (4 * (12 * i + r) + k))), (5, .int (nI (sumW σ (4 * (12 * i + r) + k) j))), (6, .int (nI (maxW σ (4 * (12 * i + r) + k) j))), (7, .int (nI (j + 1)))] o dX6_doubt_72 (by decide) rfl ?_
          refine v_iload 3 o dX6_doubt_74 rfl ?_
          refine v_iload 0 o dX6_doubt_76 rfl ?_
          refine v_if_le 86 o dX6_doubt_78 (by decide) (fun c78 => ?_) (fun c78 => ?_)
          · refine v_iconst 0 o dX6_doubt_86 rfl ?_
            refine v_iadd (nI (sumW σ (4 * (12 * i + r) + k) j)) o dX6_doubt_87 (nI_add (sumW σ (4 * (12 * i + r) + k) j) 0) ?_
            refine v_istore [(5, .int (nI (sumW σ (4 * (12 * i + r) + k) j))), (8, .int (mI (wgt σ (4 * (12 * i + r) + k) (j + 1) 5))), (0, .ref m), (4, .int (nI (4 * (12 * i + r) + k))), (6, .int (nI (maxW σ (4 * (12 * i + r) + k) j))), (7, .int (nI (j + 1)))] o dX6_doubt_88 (by decide) rfl ?_
            refine v_iload 1 o dX6_doubt_90 rfl ?_
            refine v_iload 4 o dX6_doubt_92 rfl ?_
            refine v_icmp_le 102 o dX6_doubt_94 (by decide) (fun c94 => ?_) (fun c94 => absurd c94 (not_not_intro ((mI_leN (by omega) (by omega)).mpr (by have := (mI_le0 (by omega)).mp c78; omega))))
            refine v_iload 4 o dX6_doubt_102 rfl ?_
            refine v_istore [(6, .int (nI (maxW σ (4 * (12 * i + r) + k) j))), (5, .int (nI (sumW σ (4 * (12 * i + r) + k) j))), (8, .int (mI (wgt σ (4 * (12 * i + r) + k) (j + 1) 5))), (0, .ref m), (4, .int (nI (4 * (12 * i + r) + k))), (7, .int (nI (j + 1)))] o dX6_doubt_104 (by decide) rfl ?_
            refine v_iinc (nI (j + 1 + 1)) [(7, .int (nI (j + 1 + 1))), (6, .int (nI (maxW σ (4 * (12 * i + r) + k) j))), (5, .int (nI (sumW σ (4 * (12 * i + r) + k) j))), (8, .int (mI (wgt σ (4 * (12 * i + r) + k) (j + 1) 5))), (0, .ref m), (4, .int (nI (4 * (12 * i + r) + k)))] o dX6_doubt_106 5 rfl (iinc_n (j + 1) 1) (by decide) rfl ?_
            refine v_goto 57 o dX6_doubt_109 (by decide) ?_
            refine v_sub [(0, .ref m), (4, .int (nI (4 * (12 * i + r) + k))), (5, .int (nI (sumW σ (4 * (12 * i + r) + k) j))), (6, .int (nI (maxW σ (4 * (12 * i + r) + k) j))), (7, .int (nI (j + 1 + 1)))] [4, 5, 2, 1, 0] rfl ?_
            refine v_lv [(0, .ref m), (4, .int (nI (4 * (12 * i + r) + k))), (5, .int (nI (sumW σ (4 * (12 * i + r) + k) (j + 1)))), (6, .int (nI (maxW σ (4 * (12 * i + r) + k) (j + 1)))), (7, .int (nI (j + 1 + 1)))] (by
              have h1 : wgt σ (4 * (12 * i + r) + k) (j + 1) 5 ≤ 1 := (mI_le0 (by omega)).mp c78
              rw [show sumW σ (4 * (12 * i + r) + k) (j + 1) = sumW σ (4 * (12 * i + r) + k) j from by show _ + _ = _; omega, show maxW σ (4 * (12 * i + r) + k) (j + 1) = maxW σ (4 * (12 * i + r) + k) j from if_neg (by omega)]) ?_
            exact ih (j + 1) _ (by omega) hRq
          · have hne : ¬ wgt σ (4 * (12 * i + r) + k) (j + 1) 5 ≤ 1 := fun q => c78 ((mI_le0 (by omega)).mpr q)
            refine v_lv [(8, .int (nI (wgt σ (4 * (12 * i + r) + k) (j + 1) 5 - 1))), (0, .ref m), (4, .int (nI (4 * (12 * i + r) + k))), (5, .int (nI (sumW σ (4 * (12 * i + r) + k) j))), (6, .int (nI (maxW σ (4 * (12 * i + r) + k) j))), (7, .int (nI (j + 1)))] (by rw [mI_pos (show ¬ wgt σ (4 * (12 * i + r) + k) (j + 1) 5 = 0 by omega)]) ?_
            refine v_iload 0 o dX6_doubt_81 rfl ?_
            refine v_goto 87 o dX6_doubt_83 (by decide) ?_
            refine v_iadd (nI (sumW σ (4 * (12 * i + r) + k) j + (wgt σ (4 * (12 * i + r) + k) (j + 1) 5 - 1))) o dX6_doubt_87 (nI_add (sumW σ (4 * (12 * i + r) + k) j) (wgt σ (4 * (12 * i + r) + k) (j + 1) 5 - 1)) ?_
            refine v_istore [(5, .int (nI (sumW σ (4 * (12 * i + r) + k) j + (wgt σ (4 * (12 * i + r) + k) (j + 1) 5 - 1)))), (8, .int (nI (wgt σ (4 * (12 * i + r) + k) (j + 1) 5 - 1))), (0, .ref m), (4, .int (nI (4 * (12 * i + r) + k))), (6, .int (nI (maxW σ (4 * (12 * i + r) + k) j))), (7, .int (nI (j + 1)))] o dX6_doubt_88 (by decide) rfl ?_
            refine v_iload 1 o dX6_doubt_90 rfl ?_
            refine v_iload 4 o dX6_doubt_92 rfl ?_
            refine v_icmp_le_n 102 o dX6_doubt_94 (by decide) (by omega) (by omega) (fun c94 => ?_) (fun c94 => ?_)
            · refine v_iload 4 o dX6_doubt_102 rfl ?_
              refine v_istore [(6, .int (nI (maxW σ (4 * (12 * i + r) + k) j))), (5, .int (nI (sumW σ (4 * (12 * i + r) + k) j + (wgt σ (4 * (12 * i + r) + k) (j + 1) 5 - 1)))), (8, .int (nI (wgt σ (4 * (12 * i + r) + k) (j + 1) 5 - 1))), (0, .ref m), (4, .int (nI (4 * (12 * i + r) + k))), (7, .int (nI (j + 1)))] o dX6_doubt_104 (by decide) rfl ?_
              refine v_iinc (nI (j + 1 + 1)) [(7, .int (nI (j + 1 + 1))), (6, .int (nI (maxW σ (4 * (12 * i + r) + k) j))), (5, .int (nI (sumW σ (4 * (12 * i + r) + k) j + (wgt σ (4 * (12 * i + r) + k) (j + 1) 5 - 1)))), (8, .int (nI (wgt σ (4 * (12 * i + r) + k) (j + 1) 5 - 1))), (0, .ref m), (4, .int (nI (4 * (12 * i + r) + k)))] o dX6_doubt_106 5 rfl (iinc_n (j + 1) 1) (by decide) rfl ?_
              refine v_goto 57 o dX6_doubt_109 (by decide) ?_
              refine v_sub [(0, .ref m), (4, .int (nI (4 * (12 * i + r) + k))), (5, .int (nI (sumW σ (4 * (12 * i + r) + k) j + (wgt σ (4 * (12 * i + r) + k) (j + 1) 5 - 1)))), (6, .int (nI (maxW σ (4 * (12 * i + r) + k) j))), (7, .int (nI (j + 1 + 1)))] [4, 5, 2, 1, 0] rfl ?_
              refine v_lv [(0, .ref m), (4, .int (nI (4 * (12 * i + r) + k))), (5, .int (nI (sumW σ (4 * (12 * i + r) + k) (j + 1)))), (6, .int (nI (maxW σ (4 * (12 * i + r) + k) (j + 1)))), (7, .int (nI (j + 1 + 1)))] (by rw [show sumW σ (4 * (12 * i + r) + k) (j + 1) = sumW σ (4 * (12 * i + r) + k) j + (wgt σ (4 * (12 * i + r) + k) (j + 1) 5 - 1) from rfl, show maxW σ (4 * (12 * i + r) + k) (j + 1) = maxW σ (4 * (12 * i + r) + k) j from if_neg (Nat.not_lt.mpr c94)]) ?_
              exact ih (j + 1) _ (by omega) hRq
            · refine v_iload 1 o dX6_doubt_97 rfl ?_
              refine v_goto 104 o dX6_doubt_99 (by decide) ?_
              refine v_istore [(6, .int (nI (wgt σ (4 * (12 * i + r) + k) (j + 1) 5 - 1))), (5, .int (nI (sumW σ (4 * (12 * i + r) + k) j + (wgt σ (4 * (12 * i + r) + k) (j + 1) 5 - 1)))), (8, .int (nI (wgt σ (4 * (12 * i + r) + k) (j + 1) 5 - 1))), (0, .ref m), (4, .int (nI (4 * (12 * i + r) + k))), (7, .int (nI (j + 1)))] o dX6_doubt_104 (by decide) rfl ?_
              refine v_iinc (nI (j + 1 + 1)) [(7, .int (nI (j + 1 + 1))), (6, .int (nI (wgt σ (4 * (12 * i + r) + k) (j + 1) 5 - 1))), (5, .int (nI (sumW σ (4 * (12 * i + r) + k) j + (wgt σ (4 * (12 * i + r) + k) (j + 1) 5 - 1)))), (8, .int (nI (wgt σ (4 * (12 * i + r) + k) (j + 1) 5 - 1))), (0, .ref m), (4, .int (nI (4 * (12 * i + r) + k)))] o dX6_doubt_106 5 rfl (iinc_n (j + 1) 1) (by decide) rfl ?_
              refine v_goto 57 o dX6_doubt_109 (by decide) ?_
              refine v_sub [(0, .ref m), (4, .int (nI (4 * (12 * i + r) + k))), (5, .int (nI (sumW σ (4 * (12 * i + r) + k) j + (wgt σ (4 * (12 * i + r) + k) (j + 1) 5 - 1)))), (6, .int (nI (wgt σ (4 * (12 * i + r) + k) (j + 1) 5 - 1))), (7, .int (nI (j + 1 + 1)))] [4, 5, 2, 1, 0] rfl ?_
              refine v_lv [(0, .ref m), (4, .int (nI (4 * (12 * i + r) + k))), (5, .int (nI (sumW σ (4 * (12 * i + r) + k) (j + 1)))), (6, .int (nI (maxW σ (4 * (12 * i + r) + k) (j + 1)))), (7, .int (nI (j + 1 + 1)))] (by rw [show sumW σ (4 * (12 * i + r) + k) (j + 1) = sumW σ (4 * (12 * i + r) + k) j + (wgt σ (4 * (12 * i + r) + k) (j + 1) 5 - 1) from rfl, show maxW σ (4 * (12 * i + r) + k) (j + 1) = wgt σ (4 * (12 * i + r) + k) (j + 1) 5 - 1 from if_pos (Nat.not_le.mp c94)]) ?_
              exact ih (j + 1) _ (by omega) hRq
      refine v_sub [(0, .ref m), (4, .int (nI (4 * (12 * i + r) + k))), (5, .int (nI 0)), (6, .int (nI 0)), (7, .int (nI 1))] [4, 3, 2, 1, 0] rfl ?_
      refine v_lv [(0, .ref m), (4, .int (nI (4 * (12 * i + r) + k))), (5, .int (nI (sumW σ (4 * (12 * i + r) + k) 0))), (6, .int (nI (maxW σ (4 * (12 * i + r) + k) 0))), (7, .int (nI 1))] rfl ?_
      exact L 26 0 _ (by omega) hR3
    · refine v_iconst 0 o dX6_doubt_42 rfl ?_
      have e9 : sp_doubt σ (nI i) (nI r) (nI k) = (nI 0, uN σ 3 1 0) := by simp [sp_doubt, th, hL, ti, tj, tk, spot, Nat.not_le.mp c39]
      exact v_iret o dX6_doubt_43 hr (Nat.le_of_ble_eq_true rfl) (Nat.le_of_ble_eq_true rfl) (by rw [e9]; exact ⟨rfl, ⟨_, scr.rf, hR2⟩, rfl⟩)

