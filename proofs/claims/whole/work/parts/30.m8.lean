set_option maxRecDepth 100000 in
set_option maxHeartbeats 4000000 in
theorem m_whyNot {l : Launch} (hl : l.stackTraces = false) {g : mG} {m z : Nat} {μ0 μ : mM} {σ : Sg} (hR : RM g m μ0 σ μ) (hI : Inv σ) (b q x : Int32) : Ct l g yX6_whyNot [Cond.code yX6_whyNot cX6_whyNot 6 (some .int)] { frames := 4, cells := 0, slots := 0, locals := 87 } [.ref m, .int b, .int q, .int x] μ z (wrM g m μ0 (some (.int (sp_whyNot σ b q x).1)) (sp_whyNot σ b q x).2 z) noX := by
  cases hP : isP σ b q with
  | false =>
    refine Ct.of hl (by decide +kernel) (Nat.le_of_ble_eq_true rfl) ?_
    intro p e s mi args below meth c o hnm hr hx
    have o : Ok p l s mi args meth c g cX6_whyNot 6 RX6 := o
    refine v_lv [(0, .ref m), (1, .int b), (2, .int q), (3, .int x)] rfl ?_
    refine v_aload_n 0 o dX6_whyNot_0 rfl rfl ?_
    refine v_aload_n 0 o dX6_whyNot_1 rfl rfl ?_
    refine v_iload_n 1 o dX6_whyNot_2 rfl rfl ?_
    refine v_iload_n 2 o dX6_whyNot_3 rfl rfl ?_
    refine v_callVr (v := .int (bI (isP σ b q))) [.int b, .int q] [.ref m] o dX6_whyNot_4 cw_X6_105 im_X6_isPage se_X6_isPage cf6 hR.o (m_isPage hl hR hI b q) rfl rfl (by decide) ⟨rfl, rfl⟩ (by decide) (Nat.le_of_ble_eq_true rfl) ?_
    refine v_top (bI false) (by rw [hP]) ?_
    refine v_if_eq_b 23 o dX6_whyNot_7 (by decide) (fun c7 => ?_) (fun c7 => absurd c7 (by simp_all))
    refine v_iconst 1 o dX6_whyNot_23 rfl ?_
    refine v_callV [.int (nI 1)] [] o dX6_whyNot_24 cw_X6_109 im_X6_goesWell se_X6_goesWell cf6 hR.o (m_goesWell hl hR 1 (by first | decide | omega)) rfl rfl (by decide) (by decide) (Nat.le_of_ble_eq_true rfl) ?_ (fun _ _ _ _ h => h.elim)
    rintro _ μ1 _ _ ⟨rfl, hR1, rfl⟩
    refine v_st [.int (bI false)] rfl ?_
    refine v_if_ne_b 32 o dX6_whyNot_27 (by decide) (fun c27 => absurd c27 (by simp_all)) (fun c27 => ?_)
    refine v_iconst 0 o dX6_whyNot_30 rfl ?_
    have e9 : sp_whyNot σ b q x = (nI 0, uN σ 3 1 1) := by simp [sp_whyNot, th, hP]
    exact v_iret o dX6_whyNot_31 hr (Nat.le_of_ble_eq_true rfl) (Nat.le_of_ble_eq_true rfl) (by rw [e9]; exact ⟨rfl, hR1, rfl⟩)
  | true =>
    cases hX : inR x (nI 0) (nI 3) with
    | false =>
      refine Ct.of hl (by decide +kernel) (Nat.le_of_ble_eq_true rfl) ?_
      intro p e s mi args below meth c o hnm hr hx
      have o : Ok p l s mi args meth c g cX6_whyNot 6 RX6 := o
      refine v_lv [(0, .ref m), (1, .int b), (2, .int q), (3, .int x)] rfl ?_
      refine v_aload_n 0 o dX6_whyNot_0 rfl rfl ?_
      refine v_aload_n 0 o dX6_whyNot_1 rfl rfl ?_
      refine v_iload_n 1 o dX6_whyNot_2 rfl rfl ?_
      refine v_iload_n 2 o dX6_whyNot_3 rfl rfl ?_
      refine v_callVr (v := .int (bI (isP σ b q))) [.int b, .int q] [.ref m] o dX6_whyNot_4 cw_X6_105 im_X6_isPage se_X6_isPage cf6 hR.o (m_isPage hl hR hI b q) rfl rfl (by decide) ⟨rfl, rfl⟩ (by decide) (Nat.le_of_ble_eq_true rfl) ?_
      refine v_top (bI true) (by rw [hP]) ?_
      refine v_if_eq_b 23 o dX6_whyNot_7 (by decide) (fun c7 => absurd c7 (by simp_all)) (fun c7 => ?_)
      refine v_iload_n 3 o dX6_whyNot_10 rfl rfl ?_
      refine v_iconst 0 o dX6_whyNot_11 rfl ?_
      refine v_iconst 3 o dX6_whyNot_12 rfl ?_
      refine v_callSr (v := .int (bI (inR x (nI 0) (nI 3)))) [.int x, .int (nI 0), .int (nI 3)] [.ref m] o dX6_whyNot_13 cw_X6_97 st_X6_in (m_in hl hR x (nI 0) (nI 3)) rfl rfl (by decide) ⟨rfl, rfl⟩ (by decide) (Nat.le_of_ble_eq_true rfl) ?_
      refine v_top (bI false) (by rw [hX]) ?_
      refine v_if_eq_b 23 o dX6_whyNot_16 (by decide) (fun c16 => ?_) (fun c16 => absurd c16 (by simp_all))
      refine v_iconst 1 o dX6_whyNot_23 rfl ?_
      refine v_callV [.int (nI 1)] [] o dX6_whyNot_24 cw_X6_109 im_X6_goesWell se_X6_goesWell cf6 hR.o (m_goesWell hl hR 1 (by first | decide | omega)) rfl rfl (by decide) (by decide) (Nat.le_of_ble_eq_true rfl) ?_ (fun _ _ _ _ h => h.elim)
      rintro _ μ2 _ _ ⟨rfl, hR2, rfl⟩
      refine v_st [.int (bI false)] rfl ?_
      refine v_if_ne_b 32 o dX6_whyNot_27 (by decide) (fun c27 => absurd c27 (by simp_all)) (fun c27 => ?_)
      refine v_iconst 0 o dX6_whyNot_30 rfl ?_
      have e9 : sp_whyNot σ b q x = (nI 0, uN σ 3 1 1) := by simp [sp_whyNot, th, hP, hX]
      exact v_iret o dX6_whyNot_31 hr (Nat.le_of_ble_eq_true rfl) (Nat.le_of_ble_eq_true rfl) (by rw [e9]; exact ⟨rfl, hR2, rfl⟩)
    | true =>
      obtain ⟨i, j, hi, hj, rfl, rfl⟩ := isP_t hI hP
      have h6 := hI.1
      have h12 := hI.2.1 i
      have ti : tn (nI i) = i := tn_nI (by omega)
      have tj : tn (nI j) = j := tn_nI (by omega)
      obtain ⟨w, hwa, hwb, rfl⟩ := inR_nat (a := 0) (b := 3) hX (by decide) (by decide)
      have tw : tn (nI w) = w := tn_nI (by omega)
      refine Ct.of hl (by decide +kernel) (Nat.le_of_ble_eq_true rfl) ?_
      intro p e s mi args below meth c o hnm hr hx
      have o : Ok p l s mi args meth c g cX6_whyNot 6 RX6 := o
      refine v_lv [(0, .ref m), (1, .int (nI i)), (2, .int (nI j)), (3, .int (nI w))] rfl ?_
      refine v_aload_n 0 o dX6_whyNot_0 rfl rfl ?_
      refine v_aload_n 0 o dX6_whyNot_1 rfl rfl ?_
      refine v_iload_n 1 o dX6_whyNot_2 rfl rfl ?_
      refine v_iload_n 2 o dX6_whyNot_3 rfl rfl ?_
      refine v_callVr (v := .int (bI (isP σ (nI i) (nI j)))) [.int (nI i), .int (nI j)] [.ref m] o dX6_whyNot_4 cw_X6_105 im_X6_isPage se_X6_isPage cf6 hR.o (m_isPage hl hR hI (nI i) (nI j)) rfl rfl (by decide) ⟨rfl, rfl⟩ (by decide) (Nat.le_of_ble_eq_true rfl) ?_
      refine v_top (bI true) (by rw [hP]) ?_
      refine v_if_eq_b 23 o dX6_whyNot_7 (by decide) (fun c7 => absurd c7 (by simp_all)) (fun c7 => ?_)
      refine v_iload_n 3 o dX6_whyNot_10 rfl rfl ?_
      refine v_iconst 0 o dX6_whyNot_11 rfl ?_
      refine v_iconst 3 o dX6_whyNot_12 rfl ?_
      refine v_callSr (v := .int (bI (inR (nI w) (nI 0) (nI 3)))) [.int (nI w), .int (nI 0), .int (nI 3)] [.ref m] o dX6_whyNot_13 cw_X6_97 st_X6_in (m_in hl hR (nI w) (nI 0) (nI 3)) rfl rfl (by decide) ⟨rfl, rfl⟩ (by decide) (Nat.le_of_ble_eq_true rfl) ?_
      refine v_top (bI true) (by rw [hX]) ?_
      refine v_if_eq_b 23 o dX6_whyNot_16 (by decide) (fun c16 => absurd c16 (by simp_all)) (fun c16 => ?_)
      refine v_iconst 0 o dX6_whyNot_19 rfl ?_
      refine v_goto 24 o dX6_whyNot_20 (by decide) ?_
      refine v_callV [.int (nI 0)] [] o dX6_whyNot_24 cw_X6_109 im_X6_goesWell se_X6_goesWell cf6 hR.o (m_goesWell hl hR 0 (by first | decide | omega)) rfl rfl (by decide) (by decide) (Nat.le_of_ble_eq_true rfl) ?_ (fun _ _ _ _ h => h.elim)
      rintro _ μ3 _ _ ⟨rfl, hR3, rfl⟩
      refine v_st [.int (bI true)] rfl ?_
      refine v_if_ne_b 32 o dX6_whyNot_27 (by decide) (fun c27 => ?_) (fun c27 => absurd c27 (by simp_all))
      refine v_bipush 12 o dX6_whyNot_32 (by decide) ?_
      refine v_iload_n 1 o dX6_whyNot_34 rfl rfl ?_
      refine v_imul (nI (12 * i)) o dX6_whyNot_35 (pk_mul 12 i) ?_
      refine v_iload_n 2 o dX6_whyNot_36 rfl rfl ?_
      refine v_iadd (nI (12 * i + j)) o dX6_whyNot_37 (nI_add (12 * i) j) ?_
      refine v_istore [(4, .int (nI (12 * i + j))), (0, .ref m), (1, .int (nI i)), (2, .int (nI j)), (3, .int (nI w))] o dX6_whyNot_38 (by decide) rfl ?_
      refine v_aload_n 1 o dX6_whyNot_40 rfl rfl ?_
      refine v_get (v := .ref (m + 5)) o dX6_whyNot_41 cf6 6 (by decide) fl_X6_22 hR3.o rfl ?_
      refine v_iload_n 2 o dX6_whyNot_44 rfl rfl ?_
      refine v_iald (σ.2.2.1 3 i) o dX6_whyNot_45 (by omega) (by decide) hR3.a5 rfl ?_
      refine v_iconst_i (-1) o dX6_whyNot_46 (by decide) ?_
      refine v_icmp_eq 54 o dX6_whyNot_47 (by decide) (fun c47 => ?_) (fun c47 => ?_)
      · refine v_iconst 0 o dX6_whyNot_54 rfl ?_
        refine v_istore [(5, .int (nI 0)), (4, .int (nI (12 * i + j))), (0, .ref m), (1, .int (nI i)), (2, .int (nI j)), (3, .int (nI w))] o dX6_whyNot_55 (by decide) rfl ?_
        refine v_aload_n 2 o dX6_whyNot_57 rfl rfl ?_
        refine v_get (v := .ref (m + 9)) o dX6_whyNot_58 cf6 11 (by decide) fl_X6_35 hR3.o rfl ?_
        refine v_iload 1 o dX6_whyNot_61 rfl ?_
        refine v_zald (bI (σ.2.1 2 (12 * i + j))) o dX6_whyNot_63 (by omega) (by decide) hR3.a9 rfl ?_
        refine v_if_ne_b 71 o dX6_whyNot_64 (by decide) (fun c64 => ?_) (fun c64 => ?_)
        · refine v_aload_n 2 o dX6_whyNot_71 rfl rfl ?_
          refine v_get (v := .ref (m + 8)) o dX6_whyNot_72 cf6 9 (by decide) fl_X6_32 hR3.o rfl ?_
          refine v_iload_n 3 o dX6_whyNot_75 rfl rfl ?_
          refine v_zald (bI (σ.2.1 1 i)) o dX6_whyNot_76 (by omega) (by decide) hR3.a8 rfl ?_
          refine v_if_eq_b 84 o dX6_whyNot_77 (by decide) (fun c77 => ?_) (fun c77 => ?_)
          · refine v_iload 0 o dX6_whyNot_84 rfl ?_
            refine v_if_ne_n 102 o dX6_whyNot_86 (by decide) (by decide) (fun c86 => absurd c86 (by omega)) (fun c86 => ?_)
            refine v_aload_n 2 o dX6_whyNot_89 rfl rfl ?_
            refine v_get (v := .ref (m + 7)) o dX6_whyNot_90 cf6 8 (by decide) fl_X6_28 hR3.o rfl ?_
            refine v_iload_n 3 o dX6_whyNot_93 rfl rfl ?_
            refine v_zald (bI (σ.2.1 0 i)) o dX6_whyNot_94 (by omega) (by decide) hR3.a7 rfl ?_
            refine v_if_ne_b 102 o dX6_whyNot_95 (by decide) (fun c95 => ?_) (fun c95 => ?_)
            · refine v_iload 0 o dX6_whyNot_102 rfl ?_
              refine v_if_eq_n 131 o dX6_whyNot_104 (by decide) (by decide) (fun c104 => ?_) (fun c104 => absurd c104 (by omega))
              refine v_aload_n 2 o dX6_whyNot_131 rfl rfl ?_
              refine v_iload 1 o dX6_whyNot_132 rfl ?_
              refine v_callVr (v := .int (bI (lostB σ (12 * i + j)))) [.int (nI (12 * i + j))] [] o dX6_whyNot_134 cw_X6_145 im_X6_isLostAt se_X6_isLostAt cf6 hR3.o (m_isLostAt hl hR3 (12 * i + j) (by omega)) rfl rfl (by decide) ⟨rfl, rfl⟩ (by decide) (Nat.le_of_ble_eq_true rfl) ?_
              refine v_if_eq_b 144 o dX6_whyNot_137 (by decide) (fun c137 => ?_) (fun c137 => ?_)
              · refine v_iconst 0 o dX6_whyNot_144 rfl ?_
                have e9 : sp_whyNot σ (nI i) (nI j) (nI w) = (nI 0, uN σ 3 1 0) := by simp [sp_whyNot, th, hP, hX, ti, tj, tw, whyN, c47, c64, c77, c95, c137]
                exact v_iret o dX6_whyNot_145 hr (Nat.le_of_ble_eq_true rfl) (Nat.le_of_ble_eq_true rfl) (by rw [e9]; exact ⟨rfl, hR3, rfl⟩)
              · refine v_iconst 5 o dX6_whyNot_140 rfl ?_
                refine v_goto 145 o dX6_whyNot_141 (by decide) ?_
                have e9 : sp_whyNot σ (nI i) (nI j) (nI w) = (nI 5, uN σ 3 1 0) := by simp [sp_whyNot, th, hP, hX, ti, tj, tw, whyN, c47, c64, c77, c95, c137]
                exact v_iret o dX6_whyNot_145 hr (Nat.le_of_ble_eq_true rfl) (Nat.le_of_ble_eq_true rfl) (by rw [e9]; exact ⟨rfl, hR3, rfl⟩)
            · refine v_iconst 3 o dX6_whyNot_98 rfl ?_
              refine v_goto 145 o dX6_whyNot_99 (by decide) ?_
              have e9 : sp_whyNot σ (nI i) (nI j) (nI w) = (nI 3, uN σ 3 1 0) := by simp [sp_whyNot, th, hP, hX, ti, tj, tw, whyN, c47, c64, c77, c95]
              exact v_iret o dX6_whyNot_145 hr (Nat.le_of_ble_eq_true rfl) (Nat.le_of_ble_eq_true rfl) (by rw [e9]; exact ⟨rfl, hR3, rfl⟩)
          · refine v_iconst 2 o dX6_whyNot_80 rfl ?_
            refine v_goto 145 o dX6_whyNot_81 (by decide) ?_
            have e9 : sp_whyNot σ (nI i) (nI j) (nI w) = (nI 2, uN σ 3 1 0) := by simp [sp_whyNot, th, hP, hX, ti, tj, tw, whyN, c47, c64, c77]
            exact v_iret o dX6_whyNot_145 hr (Nat.le_of_ble_eq_true rfl) (Nat.le_of_ble_eq_true rfl) (by rw [e9]; exact ⟨rfl, hR3, rfl⟩)
        · refine v_iconst 1 o dX6_whyNot_67 rfl ?_
          refine v_goto 145 o dX6_whyNot_68 (by decide) ?_
          have e9 : sp_whyNot σ (nI i) (nI j) (nI w) = (nI 1, uN σ 3 1 0) := by simp [sp_whyNot, th, hP, hX, ti, tj, tw, whyN, c47, c64]
          exact v_iret o dX6_whyNot_145 hr (Nat.le_of_ble_eq_true rfl) (Nat.le_of_ble_eq_true rfl) (by rw [e9]; exact ⟨rfl, hR3, rfl⟩)
      · refine v_iconst 1 o dX6_whyNot_50 rfl ?_
        refine v_goto 55 o dX6_whyNot_51 (by decide) ?_
        refine v_istore [(5, .int (nI 1)), (4, .int (nI (12 * i + j))), (0, .ref m), (1, .int (nI i)), (2, .int (nI j)), (3, .int (nI w))] o dX6_whyNot_55 (by decide) rfl ?_
        refine v_aload_n 2 o dX6_whyNot_57 rfl rfl ?_
        refine v_get (v := .ref (m + 9)) o dX6_whyNot_58 cf6 11 (by decide) fl_X6_35 hR3.o rfl ?_
        refine v_iload 1 o dX6_whyNot_61 rfl ?_
        refine v_zald (bI (σ.2.1 2 (12 * i + j))) o dX6_whyNot_63 (by omega) (by decide) hR3.a9 rfl ?_
        refine v_if_ne_b 71 o dX6_whyNot_64 (by decide) (fun c64 => ?_) (fun c64 => ?_)
        · refine v_aload_n 2 o dX6_whyNot_71 rfl rfl ?_
          refine v_get (v := .ref (m + 8)) o dX6_whyNot_72 cf6 9 (by decide) fl_X6_32 hR3.o rfl ?_
          refine v_iload_n 3 o dX6_whyNot_75 rfl rfl ?_
          refine v_zald (bI (σ.2.1 1 i)) o dX6_whyNot_76 (by omega) (by decide) hR3.a8 rfl ?_
          refine v_if_eq_b 84 o dX6_whyNot_77 (by decide) (fun c77 => ?_) (fun c77 => ?_)
          · refine v_iload 0 o dX6_whyNot_84 rfl ?_
            refine v_if_ne_n 102 o dX6_whyNot_86 (by decide) (by decide) (fun c86 => ?_) (fun c86 => absurd c86 (by omega))
            refine v_iload 0 o dX6_whyNot_102 rfl ?_
            refine v_if_eq_n 131 o dX6_whyNot_104 (by decide) (by decide) (fun c104 => absurd c104 (by omega)) (fun c104 => ?_)
            refine v_aload_n 2 o dX6_whyNot_107 rfl rfl ?_
            refine v_get (v := .int (σ.2.2.1 8 1)) o dX6_whyNot_108 cf6 27 (by decide) fl_X6_81 hR3.o rfl ?_
            refine v_aload_n 2 o dX6_whyNot_111 rfl rfl ?_
            refine v_get (v := .ref (m + 5)) o dX6_whyNot_112 cf6 6 (by decide) fl_X6_22 hR3.o rfl ?_
            refine v_iload_n 3 o dX6_whyNot_115 rfl rfl ?_
            refine v_iald (σ.2.2.1 3 i) o dX6_whyNot_116 (by omega) (by decide) hR3.a5 rfl ?_
            refine v_aload_n 2 o dX6_whyNot_117 rfl rfl ?_
            refine v_get (v := .ref (m + 24)) o dX6_whyNot_118 cf6 28 (by decide) fl_X6_85 hR3.o rfl ?_
            refine v_iload_n 5 o dX6_whyNot_121 rfl rfl ?_
            refine v_iald (σ.2.2.1 7 w) o dX6_whyNot_122 (by omega) (by decide) hR3.a24 rfl ?_
            refine v_iadd ((σ.2.2.1 3 i) + (σ.2.2.1 7 w)) o dX6_whyNot_123 rfl ?_
            refine v_icmp_gt 131 o dX6_whyNot_124 (by decide) (fun c124 => ?_) (fun c124 => ?_)
            · refine v_aload_n 2 o dX6_whyNot_131 rfl rfl ?_
              refine v_iload 1 o dX6_whyNot_132 rfl ?_
              refine v_callVr (v := .int (bI (lostB σ (12 * i + j)))) [.int (nI (12 * i + j))] [] o dX6_whyNot_134 cw_X6_145 im_X6_isLostAt se_X6_isLostAt cf6 hR3.o (m_isLostAt hl hR3 (12 * i + j) (by omega)) rfl rfl (by decide) ⟨rfl, rfl⟩ (by decide) (Nat.le_of_ble_eq_true rfl) ?_
              refine v_if_eq_b 144 o dX6_whyNot_137 (by decide) (fun c137 => ?_) (fun c137 => ?_)
              · refine v_iconst 0 o dX6_whyNot_144 rfl ?_
                have e9 : sp_whyNot σ (nI i) (nI j) (nI w) = (nI 0, uN σ 3 1 0) := by simp [sp_whyNot, th, hP, hX, ti, tj, tw, whyN, c47, c64, c77, Int32.not_le.mpr c124, c137]
                exact v_iret o dX6_whyNot_145 hr (Nat.le_of_ble_eq_true rfl) (Nat.le_of_ble_eq_true rfl) (by rw [e9]; exact ⟨rfl, hR3, rfl⟩)
              · refine v_iconst 5 o dX6_whyNot_140 rfl ?_
                refine v_goto 145 o dX6_whyNot_141 (by decide) ?_
                have e9 : sp_whyNot σ (nI i) (nI j) (nI w) = (nI 5, uN σ 3 1 0) := by simp [sp_whyNot, th, hP, hX, ti, tj, tw, whyN, c47, c64, c77, Int32.not_le.mpr c124, c137]
                exact v_iret o dX6_whyNot_145 hr (Nat.le_of_ble_eq_true rfl) (Nat.le_of_ble_eq_true rfl) (by rw [e9]; exact ⟨rfl, hR3, rfl⟩)
            · refine v_iconst 4 o dX6_whyNot_127 rfl ?_
              refine v_goto 145 o dX6_whyNot_128 (by decide) ?_
              have e9 : sp_whyNot σ (nI i) (nI j) (nI w) = (nI 4, uN σ 3 1 0) := by simp [sp_whyNot, th, hP, hX, ti, tj, tw, whyN, c47, c64, c77, Int32.not_lt.mp c124]
              exact v_iret o dX6_whyNot_145 hr (Nat.le_of_ble_eq_true rfl) (Nat.le_of_ble_eq_true rfl) (by rw [e9]; exact ⟨rfl, hR3, rfl⟩)
          · refine v_iconst 2 o dX6_whyNot_80 rfl ?_
            refine v_goto 145 o dX6_whyNot_81 (by decide) ?_
            have e9 : sp_whyNot σ (nI i) (nI j) (nI w) = (nI 2, uN σ 3 1 0) := by simp [sp_whyNot, th, hP, hX, ti, tj, tw, whyN, c47, c64, c77]
            exact v_iret o dX6_whyNot_145 hr (Nat.le_of_ble_eq_true rfl) (Nat.le_of_ble_eq_true rfl) (by rw [e9]; exact ⟨rfl, hR3, rfl⟩)
        · refine v_iconst 1 o dX6_whyNot_67 rfl ?_
          refine v_goto 145 o dX6_whyNot_68 (by decide) ?_
          have e9 : sp_whyNot σ (nI i) (nI j) (nI w) = (nI 1, uN σ 3 1 0) := by simp [sp_whyNot, th, hP, hX, ti, tj, tw, whyN, c47, c64]
          exact v_iret o dX6_whyNot_145 hr (Nat.le_of_ble_eq_true rfl) (Nat.le_of_ble_eq_true rfl) (by rw [e9]; exact ⟨rfl, hR3, rfl⟩)

set_option maxRecDepth 100000 in
set_option maxHeartbeats 4000000 in
theorem m_about {l : Launch} (hl : l.stackTraces = false) {g : mG} {m z : Nat} {μ0 μ : mM} {σ : Sg} (hR : RM g m μ0 σ μ) (hI : Inv σ) (b x : Int32) : Ct l g yX6_about [Cond.code yX6_about cX6_about 7 (some .int)] { frames := 4, cells := 0, slots := 0, locals := 87 } [.ref m, .int b, .int x] μ z (wrM g m μ0 (some (.int (sp_about σ b x).1)) (sp_about σ b x).2 z) noX := by
  cases hP : isB σ b with
  | false =>
    cases hX : inR x (nI 0) (nI 5) with
    | false =>
      refine Ct.of hl (by decide +kernel) (Nat.le_of_ble_eq_true rfl) ?_
      intro p e s mi args below meth c o hnm hr hx
      have o : Ok p l s mi args meth c g cX6_about 7 RX6 := o
      refine v_lv [(0, .ref m), (1, .int b), (2, .int x)] rfl ?_
      refine v_aload_n 0 o dX6_about_0 rfl rfl ?_
      refine v_iload_n 1 o dX6_about_1 rfl rfl ?_
      refine v_callVr (v := .int (bI (isB σ b))) [.int b] [] o dX6_about_2 cw_X6_101 im_X6_isBook se_X6_isBook cf6 hR.o (m_isBook hl hR b) rfl rfl (by decide) ⟨rfl, rfl⟩ (by decide) (Nat.le_of_ble_eq_true rfl) ?_
      refine v_top (bI false) (by rw [hP]) ?_
      refine v_istore_n [(3, .int (bI false)), (0, .ref m), (1, .int b), (2, .int x)] o dX6_about_5 rfl (by decide) rfl ?_
      refine v_aload_n 1 o dX6_about_6 rfl rfl ?_
      refine v_iload_n 0 o dX6_about_7 rfl rfl ?_
      refine v_if_ne_b 15 o dX6_about_8 (by decide) (fun c8 => absurd c8 (by simp_all)) (fun c8 => ?_)
      refine v_iconst 1 o dX6_about_11 rfl ?_
      refine v_goto 29 o dX6_about_12 (by decide) ?_
      refine v_callV [.int (nI 1)] [] o dX6_about_29 cw_X6_109 im_X6_goesWell se_X6_goesWell cf6 hR.o (m_goesWell hl hR 1 (by first | decide | omega)) rfl rfl (by decide) (by decide) (Nat.le_of_ble_eq_true rfl) ?_ (fun _ _ _ _ h => h.elim)
      rintro _ μ1 _ _ ⟨rfl, hR1, rfl⟩
      refine v_st [.int (bI false)] rfl ?_
      refine v_if_ne_b 37 o dX6_about_32 (by decide) (fun c32 => absurd c32 (by simp_all)) (fun c32 => ?_)
      refine v_iconst 0 o dX6_about_35 rfl ?_
      have e9 : sp_about σ b x = (nI 0, uN σ 3 1 1) := by simp [sp_about, th, hP, hX]
      exact v_iret o dX6_about_36 hr (Nat.le_of_ble_eq_true rfl) (Nat.le_of_ble_eq_true rfl) (by rw [e9]; exact ⟨rfl, hR1, rfl⟩)
    | true =>
      refine Ct.of hl (by decide +kernel) (Nat.le_of_ble_eq_true rfl) ?_
      intro p e s mi args below meth c o hnm hr hx
      have o : Ok p l s mi args meth c g cX6_about 7 RX6 := o
      refine v_lv [(0, .ref m), (1, .int b), (2, .int x)] rfl ?_
      refine v_aload_n 0 o dX6_about_0 rfl rfl ?_
      refine v_iload_n 1 o dX6_about_1 rfl rfl ?_
      refine v_callVr (v := .int (bI (isB σ b))) [.int b] [] o dX6_about_2 cw_X6_101 im_X6_isBook se_X6_isBook cf6 hR.o (m_isBook hl hR b) rfl rfl (by decide) ⟨rfl, rfl⟩ (by decide) (Nat.le_of_ble_eq_true rfl) ?_
      refine v_top (bI false) (by rw [hP]) ?_
      refine v_istore_n [(3, .int (bI false)), (0, .ref m), (1, .int b), (2, .int x)] o dX6_about_5 rfl (by decide) rfl ?_
      refine v_aload_n 1 o dX6_about_6 rfl rfl ?_
      refine v_iload_n 0 o dX6_about_7 rfl rfl ?_
      refine v_if_ne_b 15 o dX6_about_8 (by decide) (fun c8 => absurd c8 (by simp_all)) (fun c8 => ?_)
      refine v_iconst 1 o dX6_about_11 rfl ?_
      refine v_goto 29 o dX6_about_12 (by decide) ?_
      refine v_callV [.int (nI 1)] [] o dX6_about_29 cw_X6_109 im_X6_goesWell se_X6_goesWell cf6 hR.o (m_goesWell hl hR 1 (by first | decide | omega)) rfl rfl (by decide) (by decide) (Nat.le_of_ble_eq_true rfl) ?_ (fun _ _ _ _ h => h.elim)
      rintro _ μ2 _ _ ⟨rfl, hR2, rfl⟩
      refine v_st [.int (bI false)] rfl ?_
      refine v_if_ne_b 37 o dX6_about_32 (by decide) (fun c32 => absurd c32 (by simp_all)) (fun c32 => ?_)
      refine v_iconst 0 o dX6_about_35 rfl ?_
      have e9 : sp_about σ b x = (nI 0, uN σ 3 1 1) := by simp [sp_about, th, hP, hX]
      exact v_iret o dX6_about_36 hr (Nat.le_of_ble_eq_true rfl) (Nat.le_of_ble_eq_true rfl) (by rw [e9]; exact ⟨rfl, hR2, rfl⟩)
  | true =>
    cases hX : inR x (nI 0) (nI 5) with
    | false =>
      obtain ⟨i, hi, rfl⟩ := isB_t hI hP
      have h6 := hI.1
      have h12 := hI.2.1 i
      have ti : tn (nI i) = i := tn_nI (by omega)
      refine Ct.of hl (by decide +kernel) (Nat.le_of_ble_eq_true rfl) ?_
      intro p e s mi args below meth c o hnm hr hx
      have o : Ok p l s mi args meth c g cX6_about 7 RX6 := o
      refine v_lv [(0, .ref m), (1, .int (nI i)), (2, .int x)] rfl ?_
      refine v_aload_n 0 o dX6_about_0 rfl rfl ?_
      refine v_iload_n 1 o dX6_about_1 rfl rfl ?_
      refine v_callVr (v := .int (bI (isB σ (nI i)))) [.int (nI i)] [] o dX6_about_2 cw_X6_101 im_X6_isBook se_X6_isBook cf6 hR.o (m_isBook hl hR (nI i)) rfl rfl (by decide) ⟨rfl, rfl⟩ (by decide) (Nat.le_of_ble_eq_true rfl) ?_
      refine v_top (bI true) (by rw [hP]) ?_
      refine v_istore_n [(3, .int (bI true)), (0, .ref m), (1, .int (nI i)), (2, .int x)] o dX6_about_5 rfl (by decide) rfl ?_
      refine v_aload_n 1 o dX6_about_6 rfl rfl ?_
      refine v_iload_n 0 o dX6_about_7 rfl rfl ?_
      refine v_if_ne_b 15 o dX6_about_8 (by decide) (fun c8 => ?_) (fun c8 => absurd c8 (by simp_all))
      refine v_iload_n 3 o dX6_about_15 rfl rfl ?_
      refine v_iconst 0 o dX6_about_16 rfl ?_
      refine v_iconst 5 o dX6_about_17 rfl ?_
      refine v_callSr (v := .int (bI (inR x (nI 0) (nI 5)))) [.int x, .int (nI 0), .int (nI 5)] [.ref m] o dX6_about_18 cw_X6_97 st_X6_in (m_in hl hR x (nI 0) (nI 5)) rfl rfl (by decide) ⟨rfl, rfl⟩ (by decide) (Nat.le_of_ble_eq_true rfl) ?_
      refine v_top (bI false) (by rw [hX]) ?_
      refine v_if_eq_b 28 o dX6_about_21 (by decide) (fun c21 => ?_) (fun c21 => absurd c21 (by simp_all))
      refine v_iconst 2 o dX6_about_28 rfl ?_
      refine v_callV [.int (nI 2)] [] o dX6_about_29 cw_X6_109 im_X6_goesWell se_X6_goesWell cf6 hR.o (m_goesWell hl hR 2 (by first | decide | omega)) rfl rfl (by decide) (by decide) (Nat.le_of_ble_eq_true rfl) ?_ (fun _ _ _ _ h => h.elim)
      rintro _ μ3 _ _ ⟨rfl, hR3, rfl⟩
      refine v_st [.int (bI false)] rfl ?_
      refine v_if_ne_b 37 o dX6_about_32 (by decide) (fun c32 => absurd c32 (by simp_all)) (fun c32 => ?_)
      refine v_iconst 0 o dX6_about_35 rfl ?_
      have e9 : sp_about σ (nI i) x = (nI 0, uN σ 3 1 2) := by simp [sp_about, th, hP, hX, ti]
      exact v_iret o dX6_about_36 hr (Nat.le_of_ble_eq_true rfl) (Nat.le_of_ble_eq_true rfl) (by rw [e9]; exact ⟨rfl, hR3, rfl⟩)
    | true =>
      obtain ⟨i, hi, rfl⟩ := isB_t hI hP
      have h6 := hI.1
      have h12 := hI.2.1 i
      have ti : tn (nI i) = i := tn_nI (by omega)
      obtain ⟨w, hwa, hwb, rfl⟩ := inR_nat (a := 0) (b := 5) hX (by decide) (by decide)
      have tw : tn (nI w) = w := tn_nI (by omega)
      have hw0 : nI w = nI 0 ↔ w = 0 := nI_eq (by omega) (by decide)
      have hw1 : nI w = nI 1 ↔ w = 1 := nI_eq (by omega) (by decide)
      have hw2 : nI w = nI 2 ↔ w = 2 := nI_eq (by omega) (by decide)
      have hw3 : nI w = nI 3 ↔ w = 3 := nI_eq (by omega) (by decide)
      have hw4 : nI w = nI 4 ↔ w = 4 := nI_eq (by omega) (by decide)
      refine Ct.of hl (by decide +kernel) (Nat.le_of_ble_eq_true rfl) ?_
      intro p e s mi args below meth c o hnm hr hx
      have o : Ok p l s mi args meth c g cX6_about 7 RX6 := o
      refine v_lv [(0, .ref m), (1, .int (nI i)), (2, .int (nI w))] rfl ?_
      have L : ∀ (d j : Nat) (μq : mM), j + d = σ.1 0 i → RM g m μ0 (uN σ 3 1 0) μq → V p l e { frames := 4, cells := 0, slots := 0, locals := 87 } s mi args below meth c (vx_MQ below (cQc g (wrM g m μ0 (some (.int (sp_about σ (nI i) (nI w)).1)) (sp_about σ (nI i) (nI w)).2 z)) (cXC g noX) args s ({ frames := 4, cells := 0, slots := 0, locals := 87 } : Room).cells ({ frames := 4, cells := 0, slots := 0, locals := 87 } : Room).slots (gA g)) g μq z 0 0 46 [(0, .ref m), (1, .int (nI i)), (2, .int (nI w)), (4, .int (nI (cnt (fun q => σ.2.1 4 (12 * i + q)) j))), (5, .int (nI (cnt (fun q => lostB σ (12 * i + q)) j))), (6, .int (nI j))] [] := by
        intro d
        induction d with
        | zero =>
          intro j μq hj hRq
          have hc1 := cnt_le (fun q => σ.2.1 4 (12 * i + q)) j; have hc2 := cnt_le (fun q => lostB σ (12 * i + q)) j; have hc3 := cnt_le (fun q => σ.2.1 2 (12 * i + q)) (σ.1 0 i)
          refine v_iload 5 o dX6_about_46 rfl ?_
          refine v_aload_n 0 o dX6_about_48 rfl rfl ?_
          refine v_get (v := .ref (m + 1)) o dX6_about_49 cf6 2 (by decide) fl_X6_7 hRq.o rfl ?_
          refine v_iload_n 1 o dX6_about_52 rfl rfl ?_
          refine v_iald (nI (σ.1 0 i)) o dX6_about_53 (by omega) (by decide) hRq.a1 rfl ?_
          refine v_icmp_ge_n 112 o dX6_about_54 (by decide) (by omega) (by omega) (fun c54 => ?_) (fun c54 => absurd c54 (by omega))
          refine v_iload_n 2 o dX6_about_112 rfl rfl ?_
          refine v_if_ne_n 125 o dX6_about_113 (by decide) (by omega) (fun c113 => ?_) (fun c113 => ?_)
          · refine v_iload_n 2 o dX6_about_125 rfl rfl ?_
            refine v_iconst 1 o dX6_about_126 rfl ?_
            refine v_icmp_ne_n 138 o dX6_about_127 (by decide) (by omega) (by decide) (fun c127 => ?_) (fun c127 => ?_)
            · refine v_iload_n 2 o dX6_about_138 rfl rfl ?_
              refine v_iconst 2 o dX6_about_139 rfl ?_
              refine v_icmp_ne_n 148 o dX6_about_140 (by decide) (by omega) (by decide) (fun c140 => ?_) (fun c140 => ?_)
              · refine v_iload_n 2 o dX6_about_148 rfl rfl ?_
                refine v_iconst 3 o dX6_about_149 rfl ?_
                refine v_icmp_ne_n 158 o dX6_about_150 (by decide) (by omega) (by decide) (fun c150 => ?_) (fun c150 => ?_)
                · refine v_iload_n 2 o dX6_about_158 rfl rfl ?_
                  refine v_iconst 4 o dX6_about_159 rfl ?_
                  refine v_icmp_ne_n 172 o dX6_about_160 (by decide) (by omega) (by decide) (fun c160 => ?_) (fun c160 => ?_)
                  · refine v_aload_n 0 o dX6_about_172 rfl rfl ?_
                    refine v_get (v := .ref (m + 6)) o dX6_about_173 cf6 7 (by decide) fl_X6_25 hRq.o rfl ?_
                    refine v_iload_n 1 o dX6_about_176 rfl rfl ?_
                    refine v_iald (σ.2.2.1 4 i) o dX6_about_177 (by omega) (by decide) hRq.a6 rfl ?_
                    have ej : j = σ.1 0 i := by omega
                    have e8 : abtI σ i (nI w) = σ.2.2.1 4 i := by unfold abtI; rw [if_neg (fun q => c113 (hw0.mp q)), if_neg (fun q => c127 (hw1.mp q)), if_neg (fun q => c140 (hw2.mp q)), if_neg (fun q => c150 (hw3.mp q)), if_neg (fun q => c160 (hw4.mp q))]
                    have e9 : sp_about σ (nI i) (nI w) = (σ.2.2.1 4 i, uN σ 3 1 0) := by simp [sp_about, th, hP, hX, ti, e8]
                    exact v_iret o dX6_about_178 hr (Nat.le_of_ble_eq_true rfl) (Nat.le_of_ble_eq_true rfl) (by rw [e9]; exact ⟨rfl, hRq, rfl⟩)
                  · refine v_aload_n 0 o dX6_about_163 rfl rfl ?_
                    refine v_get (v := .ref (m + 5)) o dX6_about_164 cf6 6 (by decide) fl_X6_22 hRq.o rfl ?_
                    refine v_iload_n 1 o dX6_about_167 rfl rfl ?_
                    refine v_iald (σ.2.2.1 3 i) o dX6_about_168 (by omega) (by decide) hRq.a5 rfl ?_
                    refine v_goto 178 o dX6_about_169 (by decide) ?_
                    have ej : j = σ.1 0 i := by omega
                    have e8 : abtI σ i (nI w) = σ.2.2.1 3 i := by unfold abtI; rw [if_neg (fun q => c113 (hw0.mp q)), if_neg (fun q => c127 (hw1.mp q)), if_neg (fun q => c140 (hw2.mp q)), if_neg (fun q => c150 (hw3.mp q)), if_pos (hw4.mpr c160)]
                    have e9 : sp_about σ (nI i) (nI w) = (σ.2.2.1 3 i, uN σ 3 1 0) := by simp [sp_about, th, hP, hX, ti, e8]
                    exact v_iret o dX6_about_178 hr (Nat.le_of_ble_eq_true rfl) (Nat.le_of_ble_eq_true rfl) (by rw [e9]; exact ⟨rfl, hRq, rfl⟩)
                · refine v_iload 4 o dX6_about_153 rfl ?_
                  refine v_goto 178 o dX6_about_155 (by decide) ?_
                  have ej : j = σ.1 0 i := by omega
                  have e8 : abtI σ i (nI w) = nI (cnt (fun q => lostB σ (12 * i + q)) j) := by rw [ej]; unfold abtI; rw [if_neg (fun q => c113 (hw0.mp q)), if_neg (fun q => c127 (hw1.mp q)), if_neg (fun q => c140 (hw2.mp q)), if_pos (hw3.mpr c150)]
                  have e9 : sp_about σ (nI i) (nI w) = (nI (cnt (fun q => lostB σ (12 * i + q)) j), uN σ 3 1 0) := by simp [sp_about, th, hP, hX, ti, e8]
                  exact v_iret o dX6_about_178 hr (Nat.le_of_ble_eq_true rfl) (Nat.le_of_ble_eq_true rfl) (by rw [e9]; exact ⟨rfl, hRq, rfl⟩)
              · refine v_iload 3 o dX6_about_143 rfl ?_
                refine v_goto 178 o dX6_about_145 (by decide) ?_
                have ej : j = σ.1 0 i := by omega
                have e8 : abtI σ i (nI w) = nI (cnt (fun q => σ.2.1 4 (12 * i + q)) j) := by rw [ej]; unfold abtI; rw [if_neg (fun q => c113 (hw0.mp q)), if_neg (fun q => c127 (hw1.mp q)), if_pos (hw2.mpr c140)]
                have e9 : sp_about σ (nI i) (nI w) = (nI (cnt (fun q => σ.2.1 4 (12 * i + q)) j), uN σ 3 1 0) := by simp [sp_about, th, hP, hX, ti, e8]
                exact v_iret o dX6_about_178 hr (Nat.le_of_ble_eq_true rfl) (Nat.le_of_ble_eq_true rfl) (by rw [e9]; exact ⟨rfl, hRq, rfl⟩)
            · refine v_aload_n 0 o dX6_about_130 rfl rfl ?_
              refine v_iload_n 1 o dX6_about_131 rfl rfl ?_
              refine v_callVr (v := .int (nI (cnt (fun q => σ.2.1 2 (12 * i + q)) (σ.1 0 i)))) [.int (nI i)] [] o dX6_about_132 cw_X6_112 im_X6_shots se_X6_shots cf6 hRq.o (m_shots hl hRq hI i (by omega)) rfl rfl (by decide) ⟨rfl, rfl⟩ (by decide) (Nat.le_of_ble_eq_true rfl) ?_
              refine v_goto 178 o dX6_about_135 (by decide) ?_
              have ej : j = σ.1 0 i := by omega
              have e8 : abtI σ i (nI w) = nI (cnt (fun q => σ.2.1 2 (12 * i + q)) (σ.1 0 i)) := by unfold abtI; rw [if_neg (fun q => c113 (hw0.mp q)), if_pos (hw1.mpr c127)]
              have e9 : sp_about σ (nI i) (nI w) = (nI (cnt (fun q => σ.2.1 2 (12 * i + q)) (σ.1 0 i)), uN σ 3 1 0) := by simp [sp_about, th, hP, hX, ti, e8]
              exact v_iret o dX6_about_178 hr (Nat.le_of_ble_eq_true rfl) (Nat.le_of_ble_eq_true rfl) (by rw [e9]; exact ⟨rfl, hRq, rfl⟩)
          · refine v_aload_n 0 o dX6_about_116 rfl rfl ?_
            refine v_get (v := .ref (m + 3)) o dX6_about_117 cf6 4 (by decide) fl_X6_16 hRq.o rfl ?_
            refine v_iload_n 1 o dX6_about_120 rfl rfl ?_
            refine v_iald (σ.2.2.1 1 i) o dX6_about_121 (by omega) (by decide) hRq.a3 rfl ?_
            refine v_goto 178 o dX6_about_122 (by decide) ?_
            have ej : j = σ.1 0 i := by omega
            have e8 : abtI σ i (nI w) = σ.2.2.1 1 i := by unfold abtI; rw [if_pos (hw0.mpr c113)]
            have e9 : sp_about σ (nI i) (nI w) = (σ.2.2.1 1 i, uN σ 3 1 0) := by simp [sp_about, th, hP, hX, ti, e8]
            exact v_iret o dX6_about_178 hr (Nat.le_of_ble_eq_true rfl) (Nat.le_of_ble_eq_true rfl) (by rw [e9]; exact ⟨rfl, hRq, rfl⟩)
        | succ d ih =>
          intro j μq hj hRq
          have hc1 := cnt_le (fun q => σ.2.1 4 (12 * i + q)) j; have hc2 := cnt_le (fun q => lostB σ (12 * i + q)) j; have hc3 := cnt_le (fun q => σ.2.1 2 (12 * i + q)) (σ.1 0 i)
          refine v_iload 5 o dX6_about_46 rfl ?_
          refine v_aload_n 0 o dX6_about_48 rfl rfl ?_
          refine v_get (v := .ref (m + 1)) o dX6_about_49 cf6 2 (by decide) fl_X6_7 hRq.o rfl ?_
          refine v_iload_n 1 o dX6_about_52 rfl rfl ?_
          refine v_iald (nI (σ.1 0 i)) o dX6_about_53 (by omega) (by decide) hRq.a1 rfl ?_
          refine v_icmp_ge_n 112 o dX6_about_54 (by decide) (by omega) (by omega) (fun c54 => absurd c54 (by omega)) (fun c54 => ?_)
          refine v_iload 3 o dX6_about_57 rfl ?_
          refine v_aload_n 0 o dX6_about_59 rfl rfl ?_
          refine v_get (v := .ref (m + 11)) o dX6_about_60 cf6 13 (by decide) fl_X6_41 hRq.o rfl ?_
          refine v_bipush 12 o dX6_about_63 (by decide) ?_
          refine v_iload_n 1 o dX6_about_65 rfl rfl ?_
          refine v_imul (nI (12 * i)) o dX6_about_66 (pk_mul 12 i) ?_
          refine v_iload 5 o dX6_about_67 rfl ?_
          refine v_iadd (nI (12 * i + j)) o dX6_about_69 (nI_add (12 * i) j) ?_
          refine v_zald (bI (σ.2.1 4 (12 * i + j))) o dX6_about_70 (by omega) (by decide) hRq.a11 rfl ?_
          refine v_if_eq_b 78 o dX6_about_71 (by decide) (fun c71 => ?_) (fun c71 => ?_)
          · refine v_iconst 0 o dX6_about_78 rfl ?_
            refine v_iadd (nI (cnt (fun q => σ.2.1 4 (12 * i + q)) j)) o dX6_about_79 (nI_add (cnt (fun q => σ.2.1 4 (12 * i + q)) j) 0) ?_
            refine v_istore [(4, .int (nI (cnt (fun q => σ.2.1 4 (12 * i + q)) j))), (0, .ref m), (1, .int (nI i)), (2, .int (nI w)), (5, .int (nI (cnt (fun q => lostB σ (12 * i + q)) j))), (6, .int (nI j))] o dX6_about_80 (by decide) rfl ?_
            refine v_iload 4 o dX6_about_82 rfl ?_
            refine v_aload_n 1 o dX6_about_84 rfl rfl ?_
            refine v_bipush 12 o dX6_about_85 (by decide) ?_
            refine v_iload_n 2 o dX6_about_87 rfl rfl ?_
            refine v_imul (nI (12 * i)) o dX6_about_88 (pk_mul 12 i) ?_
            refine v_iload 5 o dX6_about_89 rfl ?_
            refine v_iadd (nI (12 * i + j)) o dX6_about_91 (nI_add (12 * i) j) ?_
            refine v_callVr (v := .int (bI (lostB σ (12 * i + j)))) [.int (nI (12 * i + j))] [.int (nI (cnt (fun q => lostB σ (12 * i + q)) j))] o dX6_about_92 cw_X6_145 im_X6_isLostAt se_X6_isLostAt cf6 hRq.o (m_isLostAt hl hRq (12 * i + j) (by omega)) rfl rfl (by decide) ⟨rfl, rfl⟩ (by decide) (Nat.le_of_ble_eq_true rfl) ?_
            refine v_if_eq_b 102 o dX6_about_95 (by decide) (fun c95 => ?_) (fun c95 => ?_)
            · refine v_iconst 0 o dX6_about_102 rfl ?_
              refine v_iadd (nI (cnt (fun q => lostB σ (12 * i + q)) j)) o dX6_about_103 (nI_add (cnt (fun q => lostB σ (12 * i + q)) j) 0) ?_
              refine v_istore [(5, .int (nI (cnt (fun q => lostB σ (12 * i + q)) j))), (4, .int (nI (cnt (fun q => σ.2.1 4 (12 * i + q)) j))), (0, .ref m), (1, .int (nI i)), (2, .int (nI w)), (6, .int (nI j))] o dX6_about_104 (by decide) rfl ?_
              refine v_iinc (nI (j + 1)) [(6, .int (nI (j + 1))), (5, .int (nI (cnt (fun q => lostB σ (12 * i + q)) j))), (4, .int (nI (cnt (fun q => σ.2.1 4 (12 * i + q)) j))), (0, .ref m), (1, .int (nI i)), (2, .int (nI w))] o dX6_about_106 5 rfl (iinc_n j 1) (by decide) rfl ?_
              refine v_goto 46 o dX6_about_109 (by decide) ?_
              refine v_sub [(0, .ref m), (1, .int (nI i)), (2, .int (nI w)), (4, .int (nI (cnt (fun q => σ.2.1 4 (12 * i + q)) j))), (5, .int (nI (cnt (fun q => lostB σ (12 * i + q)) j))), (6, .int (nI (j + 1)))] [3, 4, 5, 2, 1, 0] rfl ?_
              refine v_lv [(0, .ref m), (1, .int (nI i)), (2, .int (nI w)), (4, .int (nI (cnt (fun q => σ.2.1 4 (12 * i + q)) (j + 1)))), (5, .int (nI (cnt (fun q => lostB σ (12 * i + q)) (j + 1)))), (6, .int (nI (j + 1)))] (by rw [cnt_f (f := (fun q => σ.2.1 4 (12 * i + q))) c71, cnt_f (f := (fun q => lostB σ (12 * i + q))) c95]) ?_
              exact ih (j + 1) _ (by omega) hRq
            · refine v_iconst 1 o dX6_about_98 rfl ?_
              refine v_goto 103 o dX6_about_99 (by decide) ?_
              refine v_iadd (nI ((cnt (fun q => lostB σ (12 * i + q)) j) + 1)) o dX6_about_103 (nI_add (cnt (fun q => lostB σ (12 * i + q)) j) 1) ?_
              refine v_istore [(5, .int (nI ((cnt (fun q => lostB σ (12 * i + q)) j) + 1))), (4, .int (nI (cnt (fun q => σ.2.1 4 (12 * i + q)) j))), (0, .ref m), (1, .int (nI i)), (2, .int (nI w)), (6, .int (nI j))] o dX6_about_104 (by decide) rfl ?_
              refine v_iinc (nI (j + 1)) [(6, .int (nI (j + 1))), (5, .int (nI ((cnt (fun q => lostB σ (12 * i + q)) j) + 1))), (4, .int (nI (cnt (fun q => σ.2.1 4 (12 * i + q)) j))), (0, .ref m), (1, .int (nI i)), (2, .int (nI w))] o dX6_about_106 5 rfl (iinc_n j 1) (by decide) rfl ?_
              refine v_goto 46 o dX6_about_109 (by decide) ?_
              refine v_sub [(0, .ref m), (1, .int (nI i)), (2, .int (nI w)), (4, .int (nI (cnt (fun q => σ.2.1 4 (12 * i + q)) j))), (5, .int (nI ((cnt (fun q => lostB σ (12 * i + q)) j) + 1))), (6, .int (nI (j + 1)))] [3, 4, 5, 2, 1, 0] rfl ?_
              refine v_lv [(0, .ref m), (1, .int (nI i)), (2, .int (nI w)), (4, .int (nI (cnt (fun q => σ.2.1 4 (12 * i + q)) (j + 1)))), (5, .int (nI (cnt (fun q => lostB σ (12 * i + q)) (j + 1)))), (6, .int (nI (j + 1)))] (by rw [cnt_f (f := (fun q => σ.2.1 4 (12 * i + q))) c71, cnt_t (f := (fun q => lostB σ (12 * i + q))) c95]) ?_
              exact ih (j + 1) _ (by omega) hRq
          · refine v_iconst 1 o dX6_about_74 rfl ?_
            refine v_goto 79 o dX6_about_75 (by decide) ?_
            refine v_iadd (nI ((cnt (fun q => σ.2.1 4 (12 * i + q)) j) + 1)) o dX6_about_79 (nI_add (cnt (fun q => σ.2.1 4 (12 * i + q)) j) 1) ?_
            refine v_istore [(4, .int (nI ((cnt (fun q => σ.2.1 4 (12 * i + q)) j) + 1))), (0, .ref m), (1, .int (nI i)), (2, .int (nI w)), (5, .int (nI (cnt (fun q => lostB σ (12 * i + q)) j))), (6, .int (nI j))] o dX6_about_80 (by decide) rfl ?_
            refine v_iload 4 o dX6_about_82 rfl ?_
            refine v_aload_n 1 o dX6_about_84 rfl rfl ?_
            refine v_bipush 12 o dX6_about_85 (by decide) ?_
            refine v_iload_n 2 o dX6_about_87 rfl rfl ?_
            refine v_imul (nI (12 * i)) o dX6_about_88 (pk_mul 12 i) ?_
            refine v_iload 5 o dX6_about_89 rfl ?_
            refine v_iadd (nI (12 * i + j)) o dX6_about_91 (nI_add (12 * i) j) ?_
            refine v_callVr (v := .int (bI (lostB σ (12 * i + j)))) [.int (nI (12 * i + j))] [.int (nI (cnt (fun q => lostB σ (12 * i + q)) j))] o dX6_about_92 cw_X6_145 im_X6_isLostAt se_X6_isLostAt cf6 hRq.o (m_isLostAt hl hRq (12 * i + j) (by omega)) rfl rfl (by decide) ⟨rfl, rfl⟩ (by decide) (Nat.le_of_ble_eq_true rfl) ?_
            refine v_if_eq_b 102 o dX6_about_95 (by decide) (fun c95 => ?_) (fun c95 => ?_)
            · refine v_iconst 0 o dX6_about_102 rfl ?_
              refine v_iadd (nI (cnt (fun q => lostB σ (12 * i + q)) j)) o dX6_about_103 (nI_add (cnt (fun q => lostB σ (12 * i + q)) j) 0) ?_
              refine v_istore [(5, .int (nI (cnt (fun q => lostB σ (12 * i + q)) j))), (4, .int (nI ((cnt (fun q => σ.2.1 4 (12 * i + q)) j) + 1))), (0, .ref m), (1, .int (nI i)), (2, .int (nI w)), (6, .int (nI j))] o dX6_about_104 (by decide) rfl ?_
              refine v_iinc (nI (j + 1)) [(6, .int (nI (j + 1))), (5, .int (nI (cnt (fun q => lostB σ (12 * i + q)) j))), (4, .int (nI ((cnt (fun q => σ.2.1 4 (12 * i + q)) j) + 1))), (0, .ref m), (1, .int (nI i)), (2, .int (nI w))] o dX6_about_106 5 rfl (iinc_n j 1) (by decide) rfl ?_
              refine v_goto 46 o dX6_about_109 (by decide) ?_
              refine v_sub [(0, .ref m), (1, .int (nI i)), (2, .int (nI w)), (4, .int (nI ((cnt (fun q => σ.2.1 4 (12 * i + q)) j) + 1))), (5, .int (nI (cnt (fun q => lostB σ (12 * i + q)) j))), (6, .int (nI (j + 1)))] [3, 4, 5, 2, 1, 0] rfl ?_
              refine v_lv [(0, .ref m), (1, .int (nI i)), (2, .int (nI w)), (4, .int (nI (cnt (fun q => σ.2.1 4 (12 * i + q)) (j + 1)))), (5, .int (nI (cnt (fun q => lostB σ (12 * i + q)) (j + 1)))), (6, .int (nI (j + 1)))] (by rw [cnt_t (f := (fun q => σ.2.1 4 (12 * i + q))) c71, cnt_f (f := (fun q => lostB σ (12 * i + q))) c95]) ?_
              exact ih (j + 1) _ (by omega) hRq
            · refine v_iconst 1 o dX6_about_98 rfl ?_
              refine v_goto 103 o dX6_about_99 (by decide) ?_
              refine v_iadd (nI ((cnt (fun q => lostB σ (12 * i + q)) j) + 1)) o dX6_about_103 (nI_add (cnt (fun q => lostB σ (12 * i + q)) j) 1) ?_
              refine v_istore [(5, .int (nI ((cnt (fun q => lostB σ (12 * i + q)) j) + 1))), (4, .int (nI ((cnt (fun q => σ.2.1 4 (12 * i + q)) j) + 1))), (0, .ref m), (1, .int (nI i)), (2, .int (nI w)), (6, .int (nI j))] o dX6_about_104 (by decide) rfl ?_
              refine v_iinc (nI (j + 1)) [(6, .int (nI (j + 1))), (5, .int (nI ((cnt (fun q => lostB σ (12 * i + q)) j) + 1))), (4, .int (nI ((cnt (fun q => σ.2.1 4 (12 * i + q)) j) + 1))), (0, .ref m), (1, .int (nI i)), (2, .int (nI w))] o dX6_about_106 5 rfl (iinc_n j 1) (by decide) rfl ?_
              refine v_goto 46 o dX6_about_109 (by decide) ?_
              refine v_sub [(0, .ref m), (1, .int (nI i)), (2, .int (nI w)), (4, .int (nI ((cnt (fun q => σ.2.1 4 (12 * i + q)) j) + 1))), (5, .int (nI ((cnt (fun q => lostB σ (12 * i + q)) j) + 1))), (6, .int (nI (j + 1)))] [3, 4, 5, 2, 1, 0] rfl ?_
              refine v_lv [(0, .ref m), (1, .int (nI i)), (2, .int (nI w)), (4, .int (nI (cnt (fun q => σ.2.1 4 (12 * i + q)) (j + 1)))), (5, .int (nI (cnt (fun q => lostB σ (12 * i + q)) (j + 1)))), (6, .int (nI (j + 1)))] (by rw [cnt_t (f := (fun q => σ.2.1 4 (12 * i + q))) c71, cnt_t (f := (fun q => lostB σ (12 * i + q))) c95]) ?_
              exact ih (j + 1) _ (by omega) hRq
      refine v_aload_n 0 o dX6_about_0 rfl rfl ?_
      refine v_iload_n 1 o dX6_about_1 rfl rfl ?_
      refine v_callVr (v := .int (bI (isB σ (nI i)))) [.int (nI i)] [] o dX6_about_2 cw_X6_101 im_X6_isBook se_X6_isBook cf6 hR.o (m_isBook hl hR (nI i)) rfl rfl (by decide) ⟨rfl, rfl⟩ (by decide) (Nat.le_of_ble_eq_true rfl) ?_
      refine v_top (bI true) (by rw [hP]) ?_
      refine v_istore_n [(3, .int (bI true)), (0, .ref m), (1, .int (nI i)), (2, .int (nI w))] o dX6_about_5 rfl (by decide) rfl ?_
      refine v_aload_n 1 o dX6_about_6 rfl rfl ?_
      refine v_iload_n 0 o dX6_about_7 rfl rfl ?_
      refine v_if_ne_b 15 o dX6_about_8 (by decide) (fun c8 => ?_) (fun c8 => absurd c8 (by simp_all))
      refine v_iload_n 3 o dX6_about_15 rfl rfl ?_
      refine v_iconst 0 o dX6_about_16 rfl ?_
      refine v_iconst 5 o dX6_about_17 rfl ?_
      refine v_callSr (v := .int (bI (inR (nI w) (nI 0) (nI 5)))) [.int (nI w), .int (nI 0), .int (nI 5)] [.ref m] o dX6_about_18 cw_X6_97 st_X6_in (m_in hl hR (nI w) (nI 0) (nI 5)) rfl rfl (by decide) ⟨rfl, rfl⟩ (by decide) (Nat.le_of_ble_eq_true rfl) ?_
      refine v_top (bI true) (by rw [hX]) ?_
      refine v_if_eq_b 28 o dX6_about_21 (by decide) (fun c21 => absurd c21 (by simp_all)) (fun c21 => ?_)
      refine v_iconst 0 o dX6_about_24 rfl ?_
      refine v_goto 29 o dX6_about_25 (by decide) ?_
      refine v_callV [.int (nI 0)] [] o dX6_about_29 cw_X6_109 im_X6_goesWell se_X6_goesWell cf6 hR.o (m_goesWell hl hR 0 (by first | decide | omega)) rfl rfl (by decide) (by decide) (Nat.le_of_ble_eq_true rfl) ?_ (fun _ _ _ _ h => h.elim)
      rintro _ μ4 _ _ ⟨rfl, hR4, rfl⟩
      refine v_st [.int (bI true)] rfl ?_
      refine v_if_ne_b 37 o dX6_about_32 (by decide) (fun c32 => ?_) (fun c32 => absurd c32 (by simp_all))
      refine v_iconst 0 o dX6_about_37 rfl ?_
      refine v_istore [(4, .int (nI 0)), (3, .int (bI true)), (0, .ref m), (1, .int (nI i)), (2, .int (nI w))] o dX6_about_38 (by decide) rfl ?_
      refine v_iconst 0 o dX6_about_40 rfl ?_
      refine v_istore [(5, .int (nI 0)), (4, .int (nI 0)), (3, .int (bI true)), (0, .ref m), (1, .int (nI i)), (2, .int (nI w))] o dX6_about_41 (by decide) rfl ?_
      refine v_iconst 0 o dX6_about_43 rfl ?_
      refine v_istore [(6, .int (nI 0)), (5, .int (nI 0)), (4, .int (nI 0)), (3, .int (bI true)), (0, .ref m), (1, .int (nI i)), (2, .int (nI w))] o dX6_about_44 (by decide) rfl ?_
      refine v_sub [(0, .ref m), (1, .int (nI i)), (2, .int (nI w)), (4, .int (nI 0)), (5, .int (nI 0)), (6, .int (nI 0))] [4, 5, 6, 2, 1, 0] rfl ?_
      refine v_lv [(0, .ref m), (1, .int (nI i)), (2, .int (nI w)), (4, .int (nI (cnt (fun q => σ.2.1 4 (12 * i + q)) 0))), (5, .int (nI (cnt (fun q => lostB σ (12 * i + q)) 0))), (6, .int (nI 0))] rfl ?_
      exact L (σ.1 0 i) 0 _ (by omega) hR4

theorem mnd_N (σ : Sg) (v b : Nat) : ∀ n, (mnd σ v b n).2.1 = σ.1
  | 0 => rfl
  | n + 1 => by
    unfold mnd
    split
    · exact mnd_N σ v b n
    · exact mnd_N σ v b n
theorem mnd_le (σ : Sg) (v b : Nat) : ∀ n, (mnd σ v b n).1 ≤ n
  | 0 => Nat.le_refl 0
  | n + 1 => by
    have := mnd_le σ v b n
    unfold mnd
    split
    · show _ + 1 ≤ _
      omega
    · omega
set_option maxRecDepth 100000 in
set_option maxHeartbeats 4000000 in
theorem m_mend {l : Launch} (hl : l.stackTraces = false) {g : mG} {m z : Nat} {μ0 μ : mM} {σ : Sg} (hR : RM g m μ0 σ μ) (hI : Inv σ) (v b : Int32) : Ct l g yX6_mend [Cond.code yX6_mend cX6_mend 8 (some .int)] { frames := 3, cells := 0, slots := 0, locals := 66 } [.ref m, .int v, .int b] μ z (wrM g m μ0 (some (.int (sp_mend σ v b).1)) (sp_mend σ v b).2 z) noX := by
  cases hV : isV v with
  | false =>
    refine Ct.of hl (by decide +kernel) (Nat.le_of_ble_eq_true rfl) ?_
    intro p e s mi args below meth c o hnm hr hx
    have o : Ok p l s mi args meth c g cX6_mend 8 RX6 := o
    refine v_lv [(0, .ref m), (1, .int v), (2, .int b)] rfl ?_
    refine v_iload_n 1 o dX6_mend_0 rfl rfl ?_
    refine v_callSr (v := .int (bI (isV v))) [.int v] [] o dX6_mend_1 cw_X6_130 st_X6_isVault (m_isVault hl hR v) rfl rfl (by decide) ⟨rfl, rfl⟩ (by decide) (Nat.le_of_ble_eq_true rfl) ?_
    refine v_top (bI false) (by rw [hV]) ?_
    refine v_if_eq_b 19 o dX6_mend_4 (by decide) (fun c4 => ?_) (fun c4 => absurd c4 (by simp_all))
    refine v_iconst 0 o dX6_mend_19 rfl ?_
    refine v_istore_n [(3, .int (nI 0)), (0, .ref m), (1, .int v), (2, .int b)] o dX6_mend_20 rfl (by decide) rfl ?_
    refine v_aload_n 1 o dX6_mend_21 rfl rfl ?_
    refine v_iload_n 0 o dX6_mend_22 rfl rfl ?_
    refine v_if_ne_n 30 o dX6_mend_23 (by decide) (by decide) (fun c23 => absurd c23 (by omega)) (fun c23 => ?_)
    refine v_iconst 1 o dX6_mend_26 rfl ?_
    refine v_goto 44 o dX6_mend_27 (by decide) ?_
    refine v_callV [.int (nI 1)] [] o dX6_mend_44 cw_X6_109 im_X6_goesWell se_X6_goesWell cf6 hR.o (m_goesWell hl hR 1 (by first | decide | omega)) rfl rfl (by decide) (by decide) (Nat.le_of_ble_eq_true rfl) ?_ (fun _ _ _ _ h => h.elim)
    rintro _ μ1 _ _ ⟨rfl, hR1, rfl⟩
    refine v_st [.int (bI false)] rfl ?_
    refine v_if_ne_b 52 o dX6_mend_47 (by decide) (fun c47 => absurd c47 (by simp_all)) (fun c47 => ?_)
    refine v_iconst 0 o dX6_mend_50 rfl ?_
    have e9 : sp_mend σ v b = (nI 0, uN σ 3 1 1) := by simp [sp_mend, th, hV]
    exact v_iret o dX6_mend_51 hr (Nat.le_of_ble_eq_true rfl) (Nat.le_of_ble_eq_true rfl) (by rw [e9]; exact ⟨rfl, hR1, rfl⟩)
  | true =>
    cases hP : isB σ b with
    | false =>
      refine Ct.of hl (by decide +kernel) (Nat.le_of_ble_eq_true rfl) ?_
      intro p e s mi args below meth c o hnm hr hx
      have o : Ok p l s mi args meth c g cX6_mend 8 RX6 := o
      refine v_lv [(0, .ref m), (1, .int v), (2, .int b)] rfl ?_
      refine v_iload_n 1 o dX6_mend_0 rfl rfl ?_
      refine v_callSr (v := .int (bI (isV v))) [.int v] [] o dX6_mend_1 cw_X6_130 st_X6_isVault (m_isVault hl hR v) rfl rfl (by decide) ⟨rfl, rfl⟩ (by decide) (Nat.le_of_ble_eq_true rfl) ?_
      refine v_top (bI true) (by rw [hV]) ?_
      refine v_if_eq_b 19 o dX6_mend_4 (by decide) (fun c4 => absurd c4 (by simp_all)) (fun c4 => ?_)
      refine v_aload_n 0 o dX6_mend_7 rfl rfl ?_
      refine v_iload_n 2 o dX6_mend_8 rfl rfl ?_
      refine v_callVr (v := .int (bI (isB σ b))) [.int b] [] o dX6_mend_9 cw_X6_101 im_X6_isBook se_X6_isBook cf6 hR.o (m_isBook hl hR b) rfl rfl (by decide) ⟨rfl, rfl⟩ (by decide) (Nat.le_of_ble_eq_true rfl) ?_
      refine v_top (bI false) (by rw [hP]) ?_
      refine v_if_eq_b 19 o dX6_mend_12 (by decide) (fun c12 => ?_) (fun c12 => absurd c12 (by simp_all))
      refine v_iconst 0 o dX6_mend_19 rfl ?_
      refine v_istore_n [(3, .int (nI 0)), (0, .ref m), (1, .int v), (2, .int b)] o dX6_mend_20 rfl (by decide) rfl ?_
      refine v_aload_n 1 o dX6_mend_21 rfl rfl ?_
      refine v_iload_n 0 o dX6_mend_22 rfl rfl ?_
      refine v_if_ne_n 30 o dX6_mend_23 (by decide) (by decide) (fun c23 => absurd c23 (by omega)) (fun c23 => ?_)
      refine v_iconst 1 o dX6_mend_26 rfl ?_
      refine v_goto 44 o dX6_mend_27 (by decide) ?_
      refine v_callV [.int (nI 1)] [] o dX6_mend_44 cw_X6_109 im_X6_goesWell se_X6_goesWell cf6 hR.o (m_goesWell hl hR 1 (by first | decide | omega)) rfl rfl (by decide) (by decide) (Nat.le_of_ble_eq_true rfl) ?_ (fun _ _ _ _ h => h.elim)
      rintro _ μ2 _ _ ⟨rfl, hR2, rfl⟩
      refine v_st [.int (bI false)] rfl ?_
      refine v_if_ne_b 52 o dX6_mend_47 (by decide) (fun c47 => absurd c47 (by simp_all)) (fun c47 => ?_)
      refine v_iconst 0 o dX6_mend_50 rfl ?_
      have e9 : sp_mend σ v b = (nI 0, uN σ 3 1 1) := by simp [sp_mend, th, hV, hP]
      exact v_iret o dX6_mend_51 hr (Nat.le_of_ble_eq_true rfl) (Nat.le_of_ble_eq_true rfl) (by rw [e9]; exact ⟨rfl, hR2, rfl⟩)
    | true =>
      obtain ⟨v, hv, rfl⟩ := isV_t hV
      have tv : tn (nI v) = v := tn_nI (by omega)
      obtain ⟨i, hi, rfl⟩ := isB_t hI hP
      have h6 := hI.1
      have h12 := hI.2.1 i
      have ti : tn (nI i) = i := tn_nI (by omega)
      cases hU : σ.2.1 6 v with
      | true =>
        refine Ct.of hl (by decide +kernel) (Nat.le_of_ble_eq_true rfl) ?_
        intro p e s mi args below meth c o hnm hr hx
        have o : Ok p l s mi args meth c g cX6_mend 8 RX6 := o
        refine v_lv [(0, .ref m), (1, .int (nI v)), (2, .int (nI i))] rfl ?_
        refine v_iload_n 1 o dX6_mend_0 rfl rfl ?_
        refine v_callSr (v := .int (bI (isV (nI v)))) [.int (nI v)] [] o dX6_mend_1 cw_X6_130 st_X6_isVault (m_isVault hl hR (nI v)) rfl rfl (by decide) ⟨rfl, rfl⟩ (by decide) (Nat.le_of_ble_eq_true rfl) ?_
        refine v_top (bI true) (by rw [hV]) ?_
        refine v_if_eq_b 19 o dX6_mend_4 (by decide) (fun c4 => absurd c4 (by simp_all)) (fun c4 => ?_)
        refine v_aload_n 0 o dX6_mend_7 rfl rfl ?_
        refine v_iload_n 2 o dX6_mend_8 rfl rfl ?_
        refine v_callVr (v := .int (bI (isB σ (nI i)))) [.int (nI i)] [] o dX6_mend_9 cw_X6_101 im_X6_isBook se_X6_isBook cf6 hR.o (m_isBook hl hR (nI i)) rfl rfl (by decide) ⟨rfl, rfl⟩ (by decide) (Nat.le_of_ble_eq_true rfl) ?_
        refine v_top (bI true) (by rw [hP]) ?_
        refine v_if_eq_b 19 o dX6_mend_12 (by decide) (fun c12 => absurd c12 (by simp_all)) (fun c12 => ?_)
        refine v_iconst 1 o dX6_mend_15 rfl ?_
        refine v_goto 20 o dX6_mend_16 (by decide) ?_
        refine v_istore_n [(3, .int (nI 1)), (0, .ref m), (1, .int (nI v)), (2, .int (nI i))] o dX6_mend_20 rfl (by decide) rfl ?_
        refine v_aload_n 1 o dX6_mend_21 rfl rfl ?_
        refine v_iload_n 0 o dX6_mend_22 rfl rfl ?_
        refine v_if_ne_n 30 o dX6_mend_23 (by decide) (by decide) (fun c23 => ?_) (fun c23 => absurd c23 (by omega))
        refine v_aload_n 1 o dX6_mend_30 rfl rfl ?_
        refine v_get (v := .ref (m + 17)) o dX6_mend_31 cf6 19 (by decide) fl_X6_60 hR.o rfl ?_
        refine v_iload_n 2 o dX6_mend_34 rfl rfl ?_
        refine v_zald (bI (σ.2.1 6 v)) o dX6_mend_35 (by omega) (by decide) hR.a17 rfl ?_
        refine v_if_eq_b 43 o dX6_mend_36 (by decide) (fun c36 => absurd c36 (by rw [hU]; decide)) (fun c36 => ?_)
        refine v_iconst 2 o dX6_mend_39 rfl ?_
        refine v_goto 44 o dX6_mend_40 (by decide) ?_
        refine v_callV [.int (nI 2)] [] o dX6_mend_44 cw_X6_109 im_X6_goesWell se_X6_goesWell cf6 hR.o (m_goesWell hl hR 2 (by first | decide | omega)) rfl rfl (by decide) (by decide) (Nat.le_of_ble_eq_true rfl) ?_ (fun _ _ _ _ h => h.elim)
        rintro _ μ3 _ _ ⟨rfl, hR3, rfl⟩
        refine v_st [.int (bI false)] rfl ?_
        refine v_if_ne_b 52 o dX6_mend_47 (by decide) (fun c47 => absurd c47 (by simp_all)) (fun c47 => ?_)
        refine v_iconst 0 o dX6_mend_50 rfl ?_
        have e9 : sp_mend σ (nI v) (nI i) = (nI 0, uN σ 3 1 2) := by simp [sp_mend, th, hV, hP, ti, tv, hU]
        exact v_iret o dX6_mend_51 hr (Nat.le_of_ble_eq_true rfl) (Nat.le_of_ble_eq_true rfl) (by rw [e9]; exact ⟨rfl, hR3, rfl⟩)
      | false =>
        refine Ct.of hl (by decide +kernel) (Nat.le_of_ble_eq_true rfl) ?_
        intro p e s mi args below meth c o hnm hr hx
        have o : Ok p l s mi args meth c g cX6_mend 8 RX6 := o
        refine v_lv [(0, .ref m), (1, .int (nI v)), (2, .int (nI i))] rfl ?_
        have L : ∀ (d j : Nat) (μq : mM), j + d = σ.1 0 i → RM g m μ0 ((mnd (uN σ 3 1 0) v i j).2) μq → V p l e { frames := 3, cells := 0, slots := 0, locals := 66 } s mi args below meth c (vx_MQ below (cQc g (wrM g m μ0 (some (.int (sp_mend σ (nI v) (nI i)).1)) (sp_mend σ (nI v) (nI i)).2 z)) (cXC g noX) args s ({ frames := 3, cells := 0, slots := 0, locals := 66 } : Room).cells ({ frames := 3, cells := 0, slots := 0, locals := 66 } : Room).slots (gA g)) g μq z 0 0 58 [(0, .ref m), (1, .int (nI v)), (2, .int (nI i)), (4, .int (nI ((mnd (uN σ 3 1 0) v i j).1))), (5, .int (nI j))] [] := by
          intro d
          induction d with
          | zero =>
            intro j μq hj hRq
            have hmn : (mnd (uN σ 3 1 0) v i j).2.1 0 i = σ.1 0 i := (by rw [mnd_N]; rfl); have hml := mnd_le (uN σ 3 1 0) v i j; have hlw := lowest_le (mnd (uN σ 3 1 0) v i j).2 (12 * i + j)
            refine v_iload 4 o dX6_mend_58 rfl ?_
            refine v_aload_n 0 o dX6_mend_60 rfl rfl ?_
            refine v_get (v := .ref (m + 1)) o dX6_mend_61 cf6 2 (by decide) fl_X6_7 hRq.o rfl ?_
            refine v_iload_n 2 o dX6_mend_64 rfl rfl ?_
            refine v_iald (nI (((mnd (uN σ 3 1 0) v i j).2).1 0 i)) o dX6_mend_65 (by omega) (by decide) hRq.a1 rfl ?_
            refine v_icmp_ge_n 149 o dX6_mend_66 (by decide) (by omega) (by omega) (fun c66 => ?_) (fun c66 => absurd c66 (by omega))
            refine v_iload 3 o dX6_mend_149 rfl ?_
            have e9 : sp_mend σ (nI v) (nI i) = (nI ((mnd (uN σ 3 1 0) v i j).1), (mnd (uN σ 3 1 0) v i j).2) := by simp [sp_mend, th, hV, hP, ti, tv, hU, show j = σ.1 0 i by omega]
            exact v_iret o dX6_mend_151 hr (Nat.le_of_ble_eq_true rfl) (Nat.le_of_ble_eq_true rfl) (by rw [e9]; exact ⟨rfl, hRq, rfl⟩)
          | succ d ih =>
            intro j μq hj hRq
            have hmn : (mnd (uN σ 3 1 0) v i j).2.1 0 i = σ.1 0 i := (by rw [mnd_N]; rfl); have hml := mnd_le (uN σ 3 1 0) v i j; have hlw := lowest_le (mnd (uN σ 3 1 0) v i j).2 (12 * i + j)
            refine v_iload 4 o dX6_mend_58 rfl ?_
            refine v_aload_n 0 o dX6_mend_60 rfl rfl ?_
            refine v_get (v := .ref (m + 1)) o dX6_mend_61 cf6 2 (by decide) fl_X6_7 hRq.o rfl ?_
            refine v_iload_n 2 o dX6_mend_64 rfl rfl ?_
            refine v_iald (nI (((mnd (uN σ 3 1 0) v i j).2).1 0 i)) o dX6_mend_65 (by omega) (by decide) hRq.a1 rfl ?_
            refine v_icmp_ge_n 149 o dX6_mend_66 (by decide) (by omega) (by omega) (fun c66 => absurd c66 (by omega)) (fun c66 => ?_)
            refine v_bipush 12 o dX6_mend_69 (by decide) ?_
            refine v_iload_n 2 o dX6_mend_71 rfl rfl ?_
            refine v_imul (nI (12 * i)) o dX6_mend_72 (pk_mul 12 i) ?_
            refine v_iload 4 o dX6_mend_73 rfl ?_
            refine v_iadd (nI (12 * i + j)) o dX6_mend_75 (nI_add (12 * i) j) ?_
            refine v_istore [(6, .int (nI (12 * i + j))), (0, .ref m), (1, .int (nI v)), (2, .int (nI i)), (4, .int (nI ((mnd (uN σ 3 1 0) v i j).1))), (5, .int (nI j))] o dX6_mend_76 (by decide) rfl ?_
            refine v_aload_n 1 o dX6_mend_78 rfl rfl ?_
            refine v_iload 0 o dX6_mend_79 rfl ?_
            refine v_callVr (v := .int (mI (lowest ((mnd (uN σ 3 1 0) v i j).2) (12 * i + j)))) [.int (nI (12 * i + j))] [] o dX6_mend_81 cw_X6_142 im_X6_holder se_X6_holder cf6 hRq.o (m_holder hl hRq (12 * i + j) (by omega)) rfl rfl (by decide) ⟨rfl, rfl⟩ (by decide) (Nat.le_of_ble_eq_true rfl) ?_
            refine v_istore [(7, .int (mI (lowest ((mnd (uN σ 3 1 0) v i j).2) (12 * i + j)))), (6, .int (nI (12 * i + j))), (0, .ref m), (1, .int (nI v)), (2, .int (nI i)), (4, .int (nI ((mnd (uN σ 3 1 0) v i j).1))), (5, .int (nI j))] o dX6_mend_84 (by decide) rfl ?_
            refine v_iload 0 o dX6_mend_86 rfl ?_
            refine v_iconst_i (-1) o dX6_mend_88 (by decide) ?_
            refine v_icmp_eq 143 o dX6_mend_89 (by decide) (fun c89 => ?_) (fun c89 => ?_)
            · refine v_iinc (nI (j + 1)) [(5, .int (nI (j + 1))), (7, .int (mI (lowest ((mnd (uN σ 3 1 0) v i j).2) (12 * i + j)))), (6, .int (nI (12 * i + j))), (0, .ref m), (1, .int (nI v)), (2, .int (nI i)), (4, .int (nI ((mnd (uN σ 3 1 0) v i j).1)))] o dX6_mend_143 6 rfl (iinc_n j 1) (by decide) rfl ?_
              refine v_goto 58 o dX6_mend_146 (by decide) ?_
              refine v_sub [(0, .ref m), (1, .int (nI v)), (2, .int (nI i)), (4, .int (nI ((mnd (uN σ 3 1 0) v i j).1))), (5, .int (nI (j + 1)))] [3, 4, 5, 6, 0] rfl ?_
              refine v_lv [(0, .ref m), (1, .int (nI v)), (2, .int (nI i)), (4, .int (nI ((mnd (uN σ 3 1 0) v i (j + 1)).1))), (5, .int (nI (j + 1)))] (by rw [show mnd (uN σ 3 1 0) v i (j + 1) = mnd (uN σ 3 1 0) v i j from if_neg (by simp [(mI_ne (by omega)).mp c89])]) ?_
              exact ih (j + 1) _ (by omega) (by rw [show (mnd (uN σ 3 1 0) v i (j + 1)).2 = (mnd (uN σ 3 1 0) v i j).2 from by rw [show mnd (uN σ 3 1 0) v i (j + 1) = mnd (uN σ 3 1 0) v i j from if_neg (by simp [(mI_ne (by omega)).mp c89])]]; exact hRq)
            · have hne : ¬ lowest ((mnd (uN σ 3 1 0) v i j).2) (12 * i + j) = 0 := fun q => c89 ((mI_ne (by omega)).mpr q)
              refine v_lv [(7, .int (nI (lowest ((mnd (uN σ 3 1 0) v i j).2) (12 * i + j) - 1))), (6, .int (nI (12 * i + j))), (0, .ref m), (1, .int (nI v)), (2, .int (nI i)), (4, .int (nI ((mnd (uN σ 3 1 0) v i j).1))), (5, .int (nI j))] (by rw [mI_pos hne]) ?_
              refine v_aload_n 2 o dX6_mend_92 rfl rfl ?_
              refine v_iload_n 3 o dX6_mend_93 rfl rfl ?_
              refine v_iload 1 o dX6_mend_94 rfl ?_
              refine v_callVr (v := .int (bI (hb ((mnd (uN σ 3 1 0) v i j).2) v (12 * i + j)))) [.int (nI v), .int (nI (12 * i + j))] [] o dX6_mend_96 cw_X6_127 im_X6_holds se_X6_holds cf6 hRq.o (m_holds hl hRq v (12 * i + j) (by omega) (by omega)) rfl rfl (by decide) ⟨rfl, rfl⟩ (by decide) (Nat.le_of_ble_eq_true rfl) ?_
              refine v_if_ne_b 143 o dX6_mend_99 (by decide) (fun c99 => ?_) (fun c99 => ?_)
              · refine v_iinc (nI (j + 1)) [(5, .int (nI (j + 1))), (7, .int (nI (lowest ((mnd (uN σ 3 1 0) v i j).2) (12 * i + j) - 1))), (6, .int (nI (12 * i + j))), (0, .ref m), (1, .int (nI v)), (2, .int (nI i)), (4, .int (nI ((mnd (uN σ 3 1 0) v i j).1)))] o dX6_mend_143 6 rfl (iinc_n j 1) (by decide) rfl ?_
                refine v_goto 58 o dX6_mend_146 (by decide) ?_
                refine v_sub [(0, .ref m), (1, .int (nI v)), (2, .int (nI i)), (4, .int (nI ((mnd (uN σ 3 1 0) v i j).1))), (5, .int (nI (j + 1)))] [3, 4, 5, 6, 0] rfl ?_
                refine v_lv [(0, .ref m), (1, .int (nI v)), (2, .int (nI i)), (4, .int (nI ((mnd (uN σ 3 1 0) v i (j + 1)).1))), (5, .int (nI (j + 1)))] (by rw [show mnd (uN σ 3 1 0) v i (j + 1) = mnd (uN σ 3 1 0) v i j from if_neg (by simp [c99])]) ?_
                exact ih (j + 1) _ (by omega) (by rw [show (mnd (uN σ 3 1 0) v i (j + 1)).2 = (mnd (uN σ 3 1 0) v i j).2 from by rw [show mnd (uN σ 3 1 0) v i (j + 1) = mnd (uN σ 3 1 0) v i j from if_neg (by simp [c99])]]; exact hRq)
              · refine v_aload_n 2 o dX6_mend_102 rfl rfl ?_
                refine v_get (v := .ref (m + 15)) o dX6_mend_103 cf6 17 (by decide) fl_X6_54 hRq.o rfl ?_
                refine v_bipush 72 o dX6_mend_106 (by decide) ?_
                refine v_iload_n 3 o dX6_mend_108 rfl rfl ?_
                refine v_imul (nI (72 * v)) o dX6_mend_109 (pk_mul 72 v) ?_
                refine v_iload 1 o dX6_mend_110 rfl ?_
                refine v_iadd (nI (72 * v + (12 * i + j))) o dX6_mend_112 (nI_add (72 * v) (12 * i + j)) ?_
                refine v_iconst 1 o dX6_mend_113 rfl ?_
                refine v_top (bI true) rfl ?_
                refine v_zast o dX6_mend_114 (by omega) (by decide) (nar_bI _) hRq.a15 (fun μ4 e4 => ?_)
                have hR4 := hRq.p15 (i0 := 72 * v + (12 * i + j)) (v := true) e4
                refine v_aload_n 2 o dX6_mend_115 rfl rfl ?_
                refine v_get (v := .ref (m + 16)) o dX6_mend_116 cf6 18 (by decide) fl_X6_57 hR4.o rfl ?_
                refine v_bipush 72 o dX6_mend_119 (by decide) ?_
                refine v_iload_n 3 o dX6_mend_121 rfl rfl ?_
                refine v_imul (nI (72 * v)) o dX6_mend_122 (pk_mul 72 v) ?_
                refine v_iload 1 o dX6_mend_123 rfl ?_
                refine v_iadd (nI (72 * v + (12 * i + j))) o dX6_mend_125 (nI_add (72 * v) (12 * i + j)) ?_
                refine v_aload_n 2 o dX6_mend_126 rfl rfl ?_
                refine v_get (v := .ref (m + 16)) o dX6_mend_127 cf6 18 (by decide) fl_X6_57 hR4.o rfl ?_
                refine v_bipush 72 o dX6_mend_130 (by decide) ?_
                refine v_iload 0 o dX6_mend_132 rfl ?_
                refine v_imul (nI (72 * (lowest ((mnd (uN σ 3 1 0) v i j).2) (12 * i + j) - 1))) o dX6_mend_134 (pk_mul 72 (lowest ((mnd (uN σ 3 1 0) v i j).2) (12 * i + j) - 1)) ?_
                refine v_iload 1 o dX6_mend_135 rfl ?_
                refine v_iadd (nI ((72 * (lowest ((mnd (uN σ 3 1 0) v i j).2) (12 * i + j) - 1)) + (12 * i + j))) o dX6_mend_137 (nI_add (72 * (lowest ((mnd (uN σ 3 1 0) v i j).2) (12 * i + j) - 1)) (12 * i + j)) ?_
                refine v_lald (((mnd (uN σ 3 1 0) v i j).2).2.2.2 1 ((72 * (lowest ((mnd (uN σ 3 1 0) v i j).2) (12 * i + j) - 1)) + (12 * i + j))) o dX6_mend_138 (by omega) (by decide) hR4.a16 rfl ?_
                refine v_last o dX6_mend_139 (by omega) (by decide) hR4.a16 (fun μ5 e5 => ?_)
                have hR5 := hR4.p16 (i0 := 72 * v + (12 * i + j)) (v := ((mnd (uN σ 3 1 0) v i j).2).2.2.2 1 ((72 * (lowest ((mnd (uN σ 3 1 0) v i j).2) (12 * i + j) - 1)) + (12 * i + j))) e5
                refine v_iinc (nI ((mnd (uN σ 3 1 0) v i j).1 + 1)) [(4, .int (nI ((mnd (uN σ 3 1 0) v i j).1 + 1))), (7, .int (nI (lowest ((mnd (uN σ 3 1 0) v i j).2) (12 * i + j) - 1))), (6, .int (nI (12 * i + j))), (0, .ref m), (1, .int (nI v)), (2, .int (nI i)), (5, .int (nI j))] o dX6_mend_140 5 rfl (iinc_n ((mnd (uN σ 3 1 0) v i j).1) 1) (by decide) rfl ?_
                refine v_iinc (nI (j + 1)) [(5, .int (nI (j + 1))), (4, .int (nI ((mnd (uN σ 3 1 0) v i j).1 + 1))), (7, .int (nI (lowest ((mnd (uN σ 3 1 0) v i j).2) (12 * i + j) - 1))), (6, .int (nI (12 * i + j))), (0, .ref m), (1, .int (nI v)), (2, .int (nI i))] o dX6_mend_143 6 rfl (iinc_n j 1) (by decide) rfl ?_
                refine v_goto 58 o dX6_mend_146 (by decide) ?_
                refine v_sub [(0, .ref m), (1, .int (nI v)), (2, .int (nI i)), (4, .int (nI ((mnd (uN σ 3 1 0) v i j).1 + 1))), (5, .int (nI (j + 1)))] [4, 5, 6, 1, 0] rfl ?_
                refine v_lv [(0, .ref m), (1, .int (nI v)), (2, .int (nI i)), (4, .int (nI ((mnd (uN σ 3 1 0) v i (j + 1)).1))), (5, .int (nI (j + 1)))] (by rw [show mnd (uN σ 3 1 0) v i (j + 1) = ((mnd (uN σ 3 1 0) v i j).1 + 1, uL (uB ((mnd (uN σ 3 1 0) v i j).2) 5 (72 * v + (12 * i + j)) true) 1 (72 * v + (12 * i + j)) (((mnd (uN σ 3 1 0) v i j).2).2.2.2 1 ((72 * (lowest ((mnd (uN σ 3 1 0) v i j).2) (12 * i + j) - 1)) + (12 * i + j)))) from if_pos (by simp [hne, c99])]) ?_
                exact ih (j + 1) _ (by omega) (by rw [show (mnd (uN σ 3 1 0) v i (j + 1)).2 = uL (uB ((mnd (uN σ 3 1 0) v i j).2) 5 (72 * v + (12 * i + j)) true) 1 (72 * v + (12 * i + j)) (((mnd (uN σ 3 1 0) v i j).2).2.2.2 1 ((72 * (lowest ((mnd (uN σ 3 1 0) v i j).2) (12 * i + j) - 1)) + (12 * i + j))) from by rw [show mnd (uN σ 3 1 0) v i (j + 1) = ((mnd (uN σ 3 1 0) v i j).1 + 1, uL (uB ((mnd (uN σ 3 1 0) v i j).2) 5 (72 * v + (12 * i + j)) true) 1 (72 * v + (12 * i + j)) (((mnd (uN σ 3 1 0) v i j).2).2.2.2 1 ((72 * (lowest ((mnd (uN σ 3 1 0) v i j).2) (12 * i + j) - 1)) + (12 * i + j)))) from if_pos (by simp [hne, c99])]]; exact hR5)
        refine v_iload_n 1 o dX6_mend_0 rfl rfl ?_
        refine v_callSr (v := .int (bI (isV (nI v)))) [.int (nI v)] [] o dX6_mend_1 cw_X6_130 st_X6_isVault (m_isVault hl hR (nI v)) rfl rfl (by decide) ⟨rfl, rfl⟩ (by decide) (Nat.le_of_ble_eq_true rfl) ?_
        refine v_top (bI true) (by rw [hV]) ?_
        refine v_if_eq_b 19 o dX6_mend_4 (by decide) (fun c4 => absurd c4 (by simp_all)) (fun c4 => ?_)
        refine v_aload_n 0 o dX6_mend_7 rfl rfl ?_
        refine v_iload_n 2 o dX6_mend_8 rfl rfl ?_
        refine v_callVr (v := .int (bI (isB σ (nI i)))) [.int (nI i)] [] o dX6_mend_9 cw_X6_101 im_X6_isBook se_X6_isBook cf6 hR.o (m_isBook hl hR (nI i)) rfl rfl (by decide) ⟨rfl, rfl⟩ (by decide) (Nat.le_of_ble_eq_true rfl) ?_
        refine v_top (bI true) (by rw [hP]) ?_
        refine v_if_eq_b 19 o dX6_mend_12 (by decide) (fun c12 => absurd c12 (by simp_all)) (fun c12 => ?_)
        refine v_iconst 1 o dX6_mend_15 rfl ?_
        refine v_goto 20 o dX6_mend_16 (by decide) ?_
        refine v_istore_n [(3, .int (nI 1)), (0, .ref m), (1, .int (nI v)), (2, .int (nI i))] o dX6_mend_20 rfl (by decide) rfl ?_
        refine v_aload_n 1 o dX6_mend_21 rfl rfl ?_
        refine v_iload_n 0 o dX6_mend_22 rfl rfl ?_
        refine v_if_ne_n 30 o dX6_mend_23 (by decide) (by decide) (fun c23 => ?_) (fun c23 => absurd c23 (by omega))
        refine v_aload_n 1 o dX6_mend_30 rfl rfl ?_
        refine v_get (v := .ref (m + 17)) o dX6_mend_31 cf6 19 (by decide) fl_X6_60 hR.o rfl ?_
        refine v_iload_n 2 o dX6_mend_34 rfl rfl ?_
        refine v_zald (bI (σ.2.1 6 v)) o dX6_mend_35 (by omega) (by decide) hR.a17 rfl ?_
        refine v_if_eq_b 43 o dX6_mend_36 (by decide) (fun c36 => ?_) (fun c36 => absurd c36 (by rw [hU]; decide))
        refine v_iconst 0 o dX6_mend_43 rfl ?_
        refine v_callV [.int (nI 0)] [] o dX6_mend_44 cw_X6_109 im_X6_goesWell se_X6_goesWell cf6 hR.o (m_goesWell hl hR 0 (by first | decide | omega)) rfl rfl (by decide) (by decide) (Nat.le_of_ble_eq_true rfl) ?_ (fun _ _ _ _ h => h.elim)
        rintro _ μ6 _ _ ⟨rfl, hR6, rfl⟩
        refine v_st [.int (bI true)] rfl ?_
        refine v_if_ne_b 52 o dX6_mend_47 (by decide) (fun c47 => ?_) (fun c47 => absurd c47 (by simp_all))
        refine v_iconst 0 o dX6_mend_52 rfl ?_
        refine v_istore [(4, .int (nI 0)), (3, .int (nI 1)), (0, .ref m), (1, .int (nI v)), (2, .int (nI i))] o dX6_mend_53 (by decide) rfl ?_
        refine v_iconst 0 o dX6_mend_55 rfl ?_
        refine v_istore [(5, .int (nI 0)), (4, .int (nI 0)), (3, .int (nI 1)), (0, .ref m), (1, .int (nI v)), (2, .int (nI i))] o dX6_mend_56 (by decide) rfl ?_
        refine v_sub [(0, .ref m), (1, .int (nI v)), (2, .int (nI i)), (4, .int (nI 0)), (5, .int (nI 0))] [3, 4, 5, 1, 0] rfl ?_
        refine v_lv [(0, .ref m), (1, .int (nI v)), (2, .int (nI i)), (4, .int (nI ((mnd (uN σ 3 1 0) v i 0).1))), (5, .int (nI 0))] rfl ?_
        exact L (σ.1 0 i) 0 _ (by omega) hR6

