theorem clr_B (σ : Sg) (v : Nat) : ∀ n a, n ≤ a → (clr σ v n).2.1 5 (72 * v + a) = σ.2.1 5 (72 * v + a)
  | 0, _, _ => rfl
  | n + 1, a, h => by
    show u2 (clr σ v n).2.1 5 (72 * v + n) false 5 (72 * v + a) = _
    rw [u2_i (by omega)]
    exact clr_B σ v n a (by omega)
theorem putv_I (σ : Sg) (a : Nat) (its : Int64) (v : Nat) : (putv σ a its v).2.2.1 = σ.2.2.1 := by
  unfold putv
  split <;> rfl
theorem puts_I (σ : Sg) (a : Nat) (its : Int64) : ∀ v, (puts σ a its v).2.2.1 = σ.2.2.1
  | 0 => rfl
  | v + 1 => (putv_I _ a its v).trans (puts_I σ a its v)
theorem nxt_le (σ : Sg) : ∀ n, nxt σ n ≤ n
  | 0 => Nat.le_refl 0
  | n + 1 => by
    have := nxt_le σ n
    unfold nxt
    split <;> omega
theorem mI_pos {n : Nat} (h : ¬ n = 0) : mI n = nI (n - 1) := by
  obtain ⟨k, rfl⟩ : ∃ k, n = k + 1 := ⟨n - 1, by omega⟩
  exact mI_s k
set_option maxRecDepth 100000 in
set_option maxHeartbeats 4000000 in
theorem m_burn {l : Launch} (hl : l.stackTraces = false) {g : mG} {m z : Nat} {μ0 μ : mM} {σ : Sg} (hR : RM g m μ0 σ μ) (hI : Inv σ) (v : Int32) : Ct l g yX6_burn [Cond.code yX6_burn cX6_burn 5 (some .int)] { frames := 2, cells := 0, slots := 0, locals := 42 } [.ref m, .int v] μ z (wrM g m μ0 (some (.int (sp_burn σ v).1)) (sp_burn σ v).2 z) noX := by
  cases hV : isV v with
  | false =>
    refine Ct.of hl (by decide +kernel) (Nat.le_of_ble_eq_true rfl) ?_
    intro p e s mi args below meth c o hnm hr hx
    have o : Ok p l s mi args meth c g cX6_burn 5 RX6 := o
    refine v_lv [(0, .ref m), (1, .int v)] rfl ?_
    refine v_iload_n 1 o dX6_burn_0 rfl rfl ?_
    refine v_callSr (v := .int (bI (isV v))) [.int v] [] o dX6_burn_1 cw_X6_130 st_X6_isVault (m_isVault hl hR v) rfl rfl (by decide) ⟨rfl, rfl⟩ (by decide) (Nat.le_of_ble_eq_true rfl) ?_
    refine v_top (bI false) (by rw [hV]) ?_
    refine v_istore_n [(2, .int (bI false)), (0, .ref m), (1, .int v)] o dX6_burn_4 rfl (by decide) rfl ?_
    refine v_aload_n 1 o dX6_burn_5 rfl rfl ?_
    refine v_iload_n 0 o dX6_burn_6 rfl rfl ?_
    refine v_if_ne_b 14 o dX6_burn_7 (by decide) (fun c7 => absurd c7 (by simp_all)) (fun c7 => ?_)
    refine v_iconst 1 o dX6_burn_10 rfl ?_
    refine v_goto 28 o dX6_burn_11 (by decide) ?_
    refine v_callV [.int (nI 1)] [] o dX6_burn_28 cw_X6_109 im_X6_goesWell se_X6_goesWell cf6 hR.o (m_goesWell hl hR 1 (by first | decide | omega)) rfl rfl (by decide) (by decide) (Nat.le_of_ble_eq_true rfl) ?_ (fun _ _ _ _ h => h.elim)
    rintro _ μ1 _ _ ⟨rfl, hR1, rfl⟩
    refine v_st [.int (bI false)] rfl ?_
    refine v_if_ne_b 36 o dX6_burn_31 (by decide) (fun c31 => absurd c31 (by simp_all)) (fun c31 => ?_)
    refine v_iconst 0 o dX6_burn_34 rfl ?_
    have e9 : sp_burn σ v = (nI 0, uN σ 3 1 1) := by simp [sp_burn, th, hV]
    exact v_iret o dX6_burn_35 hr (Nat.le_of_ble_eq_true rfl) (Nat.le_of_ble_eq_true rfl) (by rw [e9]; exact ⟨rfl, hR1, rfl⟩)
  | true =>
    obtain ⟨v, hv, rfl⟩ := isV_t hV
    have tv : tn (nI v) = v := tn_nI (by omega)
    cases hU : σ.2.1 6 v with
    | true =>
      refine Ct.of hl (by decide +kernel) (Nat.le_of_ble_eq_true rfl) ?_
      intro p e s mi args below meth c o hnm hr hx
      have o : Ok p l s mi args meth c g cX6_burn 5 RX6 := o
      refine v_lv [(0, .ref m), (1, .int (nI v))] rfl ?_
      refine v_iload_n 1 o dX6_burn_0 rfl rfl ?_
      refine v_callSr (v := .int (bI (isV (nI v)))) [.int (nI v)] [] o dX6_burn_1 cw_X6_130 st_X6_isVault (m_isVault hl hR (nI v)) rfl rfl (by decide) ⟨rfl, rfl⟩ (by decide) (Nat.le_of_ble_eq_true rfl) ?_
      refine v_top (bI true) (by rw [hV]) ?_
      refine v_istore_n [(2, .int (bI true)), (0, .ref m), (1, .int (nI v))] o dX6_burn_4 rfl (by decide) rfl ?_
      refine v_aload_n 1 o dX6_burn_5 rfl rfl ?_
      refine v_iload_n 0 o dX6_burn_6 rfl rfl ?_
      refine v_if_ne_b 14 o dX6_burn_7 (by decide) (fun c7 => ?_) (fun c7 => absurd c7 (by simp_all))
      refine v_aload_n 1 o dX6_burn_14 rfl rfl ?_
      refine v_get (v := .ref (m + 17)) o dX6_burn_15 cf6 19 (by decide) fl_X6_60 hR.o rfl ?_
      refine v_iload_n 2 o dX6_burn_18 rfl rfl ?_
      refine v_zald (bI (σ.2.1 6 v)) o dX6_burn_19 (by omega) (by decide) hR.a17 rfl ?_
      refine v_if_eq_b 27 o dX6_burn_20 (by decide) (fun c20 => absurd c20 (by rw [hU]; decide)) (fun c20 => ?_)
      refine v_iconst 2 o dX6_burn_23 rfl ?_
      refine v_goto 28 o dX6_burn_24 (by decide) ?_
      refine v_callV [.int (nI 2)] [] o dX6_burn_28 cw_X6_109 im_X6_goesWell se_X6_goesWell cf6 hR.o (m_goesWell hl hR 2 (by first | decide | omega)) rfl rfl (by decide) (by decide) (Nat.le_of_ble_eq_true rfl) ?_ (fun _ _ _ _ h => h.elim)
      rintro _ μ2 _ _ ⟨rfl, hR2, rfl⟩
      refine v_st [.int (bI false)] rfl ?_
      refine v_if_ne_b 36 o dX6_burn_31 (by decide) (fun c31 => absurd c31 (by simp_all)) (fun c31 => ?_)
      refine v_iconst 0 o dX6_burn_34 rfl ?_
      have e9 : sp_burn σ (nI v) = (nI 0, uN σ 3 1 2) := by simp [sp_burn, th, hV, tv, hU]
      exact v_iret o dX6_burn_35 hr (Nat.le_of_ble_eq_true rfl) (Nat.le_of_ble_eq_true rfl) (by rw [e9]; exact ⟨rfl, hR2, rfl⟩)
    | false =>
      refine Ct.of hl (by decide +kernel) (Nat.le_of_ble_eq_true rfl) ?_
      intro p e s mi args below meth c o hnm hr hx
      have o : Ok p l s mi args meth c g cX6_burn 5 RX6 := o
      refine v_lv [(0, .ref m), (1, .int (nI v))] rfl ?_
      have L : ∀ (d j : Nat) (μq : mM), j + d = 72 → RM g m μ0 (clr (uN σ 3 1 0) v j) μq → V p l e { frames := 2, cells := 0, slots := 0, locals := 42 } s mi args below meth c (vx_MQ below (cQc g (wrM g m μ0 (some (.int (sp_burn σ (nI v)).1)) (sp_burn σ (nI v)).2 z)) (cXC g noX) args s ({ frames := 2, cells := 0, slots := 0, locals := 42 } : Room).cells ({ frames := 2, cells := 0, slots := 0, locals := 42 } : Room).slots (gA g)) g μq z 0 0 41 [(0, .ref m), (1, .int (nI v)), (3, .int (nI (cnt (fun a => σ.2.1 5 (72 * v + a)) j))), (4, .int (nI j))] [] := by
        intro d
        induction d with
        | zero =>
          intro j μq hj hRq
          refine v_iload 3 o dX6_burn_41 rfl ?_
          refine v_bipush 72 o dX6_burn_43 (by decide) ?_
          refine v_icmp_ge_n 90 o dX6_burn_45 (by decide) (by omega) (by decide) (fun c45 => ?_) (fun c45 => absurd c45 (by omega))
          refine v_aload_n 0 o dX6_burn_90 rfl rfl ?_
          refine v_get (v := .ref (m + 17)) o dX6_burn_91 cf6 19 (by decide) fl_X6_60 hRq.o rfl ?_
          refine v_iload_n 1 o dX6_burn_94 rfl rfl ?_
          refine v_iconst 1 o dX6_burn_95 rfl ?_
          refine v_top (bI true) rfl ?_
          refine v_zast o dX6_burn_96 (by omega) (by decide) (nar_bI _) hRq.a17 (fun μ3 e3 => ?_)
          have hR3 := hRq.p17 (i0 := v) (v := true) e3
          refine v_iload_n 2 o dX6_burn_97 rfl rfl ?_
          have e9 : sp_burn σ (nI v) = (nI (cnt (fun a => σ.2.1 5 (72 * v + a)) j), uB (clr (uN σ 3 1 0) v j) 6 v true) := by simp [sp_burn, th, hV, tv, hU, (show j = 72 by omega)]
          exact v_iret o dX6_burn_98 hr (Nat.le_of_ble_eq_true rfl) (Nat.le_of_ble_eq_true rfl) (by rw [e9]; exact ⟨rfl, hR3, rfl⟩)
        | succ d ih =>
          intro j μq hj hRq
          refine v_iload 3 o dX6_burn_41 rfl ?_
          refine v_bipush 72 o dX6_burn_43 (by decide) ?_
          refine v_icmp_ge_n 90 o dX6_burn_45 (by decide) (by omega) (by decide) (fun c45 => absurd c45 (by omega)) (fun c45 => ?_)
          refine v_iload_n 2 o dX6_burn_48 rfl rfl ?_
          refine v_aload_n 0 o dX6_burn_49 rfl rfl ?_
          refine v_get (v := .ref (m + 15)) o dX6_burn_50 cf6 17 (by decide) fl_X6_54 hRq.o rfl ?_
          refine v_bipush 72 o dX6_burn_53 (by decide) ?_
          refine v_iload_n 1 o dX6_burn_55 rfl rfl ?_
          refine v_imul (nI (72 * v)) o dX6_burn_56 (pk_mul 72 v) ?_
          refine v_iload 3 o dX6_burn_57 rfl ?_
          refine v_iadd (nI (72 * v + j)) o dX6_burn_59 (nI_add (72 * v) j) ?_
          refine v_zald (bI ((clr (uN σ 3 1 0) v j).2.1 5 (72 * v + j))) o dX6_burn_60 (by omega) (by decide) hRq.a15 rfl ?_
          refine v_if_eq_b 68 o dX6_burn_61 (by decide) (fun c61 => ?_) (fun c61 => ?_)
          · refine v_iconst 0 o dX6_burn_68 rfl ?_
            refine v_iadd (nI (cnt (fun a => σ.2.1 5 (72 * v + a)) j)) o dX6_burn_69 (nI_add (cnt (fun a => σ.2.1 5 (72 * v + a)) j) 0) ?_
            refine v_istore_n [(3, .int (nI (cnt (fun a => σ.2.1 5 (72 * v + a)) j))), (0, .ref m), (1, .int (nI v)), (4, .int (nI j))] o dX6_burn_70 rfl (by decide) rfl ?_
            refine v_aload_n 1 o dX6_burn_71 rfl rfl ?_
            refine v_get (v := .ref (m + 15)) o dX6_burn_72 cf6 17 (by decide) fl_X6_54 hRq.o rfl ?_
            refine v_bipush 72 o dX6_burn_75 (by decide) ?_
            refine v_iload_n 2 o dX6_burn_77 rfl rfl ?_
            refine v_imul (nI (72 * v)) o dX6_burn_78 (pk_mul 72 v) ?_
            refine v_iload 3 o dX6_burn_79 rfl ?_
            refine v_iadd (nI (72 * v + j)) o dX6_burn_81 (nI_add (72 * v) j) ?_
            refine v_iconst 0 o dX6_burn_82 rfl ?_
            refine v_top (bI false) rfl ?_
            refine v_zast o dX6_burn_83 (by omega) (by decide) (nar_bI _) hRq.a15 (fun μ4 e4 => ?_)
            have hR4 := hRq.p15 (i0 := 72 * v + j) (v := false) e4
            refine v_iinc (nI (j + 1)) [(4, .int (nI (j + 1))), (3, .int (nI (cnt (fun a => σ.2.1 5 (72 * v + a)) j))), (0, .ref m), (1, .int (nI v))] o dX6_burn_84 3 rfl (iinc_n j 1) (by decide) rfl ?_
            refine v_goto 41 o dX6_burn_87 (by decide) ?_
            refine v_sub [(0, .ref m), (1, .int (nI v)), (3, .int (nI (cnt (fun a => σ.2.1 5 (72 * v + a)) j))), (4, .int (nI (j + 1)))] [2, 3, 1, 0] rfl ?_
            refine v_lv [(0, .ref m), (1, .int (nI v)), (3, .int (nI (cnt (fun a => σ.2.1 5 (72 * v + a)) (j + 1)))), (4, .int (nI (j + 1)))] (by rw [cnt_f (f := (fun a => σ.2.1 5 (72 * v + a))) ((clr_B (uN σ 3 1 0) v j j (Nat.le_refl j)).symm.trans c61)]) ?_
            exact ih (j + 1) _ (by omega) hR4
          · refine v_iconst 1 o dX6_burn_64 rfl ?_
            refine v_goto 69 o dX6_burn_65 (by decide) ?_
            refine v_iadd (nI ((cnt (fun a => σ.2.1 5 (72 * v + a)) j) + 1)) o dX6_burn_69 (nI_add (cnt (fun a => σ.2.1 5 (72 * v + a)) j) 1) ?_
            refine v_istore_n [(3, .int (nI ((cnt (fun a => σ.2.1 5 (72 * v + a)) j) + 1))), (0, .ref m), (1, .int (nI v)), (4, .int (nI j))] o dX6_burn_70 rfl (by decide) rfl ?_
            refine v_aload_n 1 o dX6_burn_71 rfl rfl ?_
            refine v_get (v := .ref (m + 15)) o dX6_burn_72 cf6 17 (by decide) fl_X6_54 hRq.o rfl ?_
            refine v_bipush 72 o dX6_burn_75 (by decide) ?_
            refine v_iload_n 2 o dX6_burn_77 rfl rfl ?_
            refine v_imul (nI (72 * v)) o dX6_burn_78 (pk_mul 72 v) ?_
            refine v_iload 3 o dX6_burn_79 rfl ?_
            refine v_iadd (nI (72 * v + j)) o dX6_burn_81 (nI_add (72 * v) j) ?_
            refine v_iconst 0 o dX6_burn_82 rfl ?_
            refine v_top (bI false) rfl ?_
            refine v_zast o dX6_burn_83 (by omega) (by decide) (nar_bI _) hRq.a15 (fun μ5 e5 => ?_)
            have hR5 := hRq.p15 (i0 := 72 * v + j) (v := false) e5
            refine v_iinc (nI (j + 1)) [(4, .int (nI (j + 1))), (3, .int (nI ((cnt (fun a => σ.2.1 5 (72 * v + a)) j) + 1))), (0, .ref m), (1, .int (nI v))] o dX6_burn_84 3 rfl (iinc_n j 1) (by decide) rfl ?_
            refine v_goto 41 o dX6_burn_87 (by decide) ?_
            refine v_sub [(0, .ref m), (1, .int (nI v)), (3, .int (nI ((cnt (fun a => σ.2.1 5 (72 * v + a)) j) + 1))), (4, .int (nI (j + 1)))] [2, 3, 1, 0] rfl ?_
            refine v_lv [(0, .ref m), (1, .int (nI v)), (3, .int (nI (cnt (fun a => σ.2.1 5 (72 * v + a)) (j + 1)))), (4, .int (nI (j + 1)))] (by rw [cnt_t (f := (fun a => σ.2.1 5 (72 * v + a))) ((clr_B (uN σ 3 1 0) v j j (Nat.le_refl j)).symm.trans c61)]) ?_
            exact ih (j + 1) _ (by omega) hR5
      refine v_iload_n 1 o dX6_burn_0 rfl rfl ?_
      refine v_callSr (v := .int (bI (isV (nI v)))) [.int (nI v)] [] o dX6_burn_1 cw_X6_130 st_X6_isVault (m_isVault hl hR (nI v)) rfl rfl (by decide) ⟨rfl, rfl⟩ (by decide) (Nat.le_of_ble_eq_true rfl) ?_
      refine v_top (bI true) (by rw [hV]) ?_
      refine v_istore_n [(2, .int (bI true)), (0, .ref m), (1, .int (nI v))] o dX6_burn_4 rfl (by decide) rfl ?_
      refine v_aload_n 1 o dX6_burn_5 rfl rfl ?_
      refine v_iload_n 0 o dX6_burn_6 rfl rfl ?_
      refine v_if_ne_b 14 o dX6_burn_7 (by decide) (fun c7 => ?_) (fun c7 => absurd c7 (by simp_all))
      refine v_aload_n 1 o dX6_burn_14 rfl rfl ?_
      refine v_get (v := .ref (m + 17)) o dX6_burn_15 cf6 19 (by decide) fl_X6_60 hR.o rfl ?_
      refine v_iload_n 2 o dX6_burn_18 rfl rfl ?_
      refine v_zald (bI (σ.2.1 6 v)) o dX6_burn_19 (by omega) (by decide) hR.a17 rfl ?_
      refine v_if_eq_b 27 o dX6_burn_20 (by decide) (fun c20 => ?_) (fun c20 => absurd c20 (by rw [hU]; decide))
      refine v_iconst 0 o dX6_burn_27 rfl ?_
      refine v_callV [.int (nI 0)] [] o dX6_burn_28 cw_X6_109 im_X6_goesWell se_X6_goesWell cf6 hR.o (m_goesWell hl hR 0 (by first | decide | omega)) rfl rfl (by decide) (by decide) (Nat.le_of_ble_eq_true rfl) ?_ (fun _ _ _ _ h => h.elim)
      rintro _ μ6 _ _ ⟨rfl, hR6, rfl⟩
      refine v_st [.int (bI true)] rfl ?_
      refine v_if_ne_b 36 o dX6_burn_31 (by decide) (fun c31 => ?_) (fun c31 => absurd c31 (by simp_all))
      refine v_iconst 0 o dX6_burn_36 rfl ?_
      refine v_istore_n [(3, .int (nI 0)), (2, .int (bI true)), (0, .ref m), (1, .int (nI v))] o dX6_burn_37 rfl (by decide) rfl ?_
      refine v_iconst 0 o dX6_burn_38 rfl ?_
      refine v_istore [(4, .int (nI 0)), (3, .int (nI 0)), (2, .int (bI true)), (0, .ref m), (1, .int (nI v))] o dX6_burn_39 (by decide) rfl ?_
      refine v_sub [(0, .ref m), (1, .int (nI v)), (3, .int (nI 0)), (4, .int (nI 0))] [3, 4, 1, 0] rfl ?_
      refine v_lv [(0, .ref m), (1, .int (nI v)), (3, .int (nI (cnt (fun a => σ.2.1 5 (72 * v + a)) 0))), (4, .int (nI 0))] rfl ?_
      exact L (72) 0 _ (by omega) hR6

set_option maxRecDepth 100000 in
set_option maxHeartbeats 4000000 in
theorem m_next {l : Launch} (hl : l.stackTraces = false) {g : mG} {m z : Nat} {μ0 μ : mM} {σ : Sg} (hR : RM g m μ0 σ μ) (hI : Inv σ)  : Ct l g yX6_next [Cond.code yX6_next cX6_next 5 (some .int)] { frames := 1, cells := 0, slots := 0, locals := 23 } [.ref m] μ z (wrM g m μ0 (some (.int (sp_next σ).1)) (sp_next σ).2 z) noX := by
  have h6 := hI.1
  refine Ct.of hl (by decide +kernel) (Nat.le_of_ble_eq_true rfl) ?_
  intro p e s mi args below meth c o hnm hr hx
  have o : Ok p l s mi args meth c g cX6_next 5 RX6 := o
  refine v_lv [(0, .ref m)] rfl ?_
  have L : ∀ (d j : Nat) (μq : mM), j + d = σ.1 3 0 → RM g m μ0 (uN σ 3 1 0) μq → V p l e { frames := 1, cells := 0, slots := 0, locals := 23 } s mi args below meth c (vx_MQ below (cQc g (wrM g m μ0 (some (.int (sp_next σ).1)) (sp_next σ).2 z)) (cXC g noX) args s ({ frames := 1, cells := 0, slots := 0, locals := 23 } : Room).cells ({ frames := 1, cells := 0, slots := 0, locals := 23 } : Room).slots (gA g)) g μq z 0 0 9 [(0, .ref m), (1, .int (mI (nxt σ j))), (2, .int (nI j))] [] := by
    intro d
    induction d with
    | zero =>
      intro j μq hj hRq
      have hpb := hI.2.1 j; have hcl := cnt_le (fun q => σ.2.1 2 (12 * j + q)) (σ.1 0 j)
      refine v_iload_n 2 o dX6_next_9 rfl rfl ?_
      refine v_aload_n 0 o dX6_next_10 rfl rfl ?_
      refine v_get (v := .int (nI (σ.1 3 0))) o dX6_next_11 cf6 1 (by decide) fl_X6_94 hRq.o rfl ?_
      refine v_icmp_ge_n 124 o dX6_next_14 (by decide) (by omega) (by omega) (fun c14 => ?_) (fun c14 => absurd c14 (by omega))
      refine v_iload_n 1 o dX6_next_124 rfl rfl ?_
      have e9 : sp_next σ = (mI (nxt σ j), uN σ 3 1 0) := by simp [sp_next, th, (show j = σ.1 3 0 by omega)]
      exact v_iret o dX6_next_125 hr (Nat.le_of_ble_eq_true rfl) (Nat.le_of_ble_eq_true rfl) (by rw [e9]; exact ⟨rfl, hRq, rfl⟩)
    | succ d ih =>
      intro j μq hj hRq
      have hpb := hI.2.1 j; have hcl := cnt_le (fun q => σ.2.1 2 (12 * j + q)) (σ.1 0 j)
      refine v_iload_n 2 o dX6_next_9 rfl rfl ?_
      refine v_aload_n 0 o dX6_next_10 rfl rfl ?_
      refine v_get (v := .int (nI (σ.1 3 0))) o dX6_next_11 cf6 1 (by decide) fl_X6_94 hRq.o rfl ?_
      refine v_icmp_ge_n 124 o dX6_next_14 (by decide) (by omega) (by omega) (fun c14 => absurd c14 (by omega)) (fun c14 => ?_)
      refine v_aload_n 0 o dX6_next_17 rfl rfl ?_
      refine v_get (v := .ref (m + 3)) o dX6_next_18 cf6 4 (by decide) fl_X6_16 hRq.o rfl ?_
      refine v_iload_n 2 o dX6_next_21 rfl rfl ?_
      refine v_iald (σ.2.2.1 1 j) o dX6_next_22 (by omega) (by decide) hRq.a3 rfl ?_
      refine v_if_le 44 o dX6_next_23 (by decide) (fun c23 => ?_) (fun c23 => ?_)
      · refine v_iconst 0 o dX6_next_44 rfl ?_
        refine v_istore_n [(3, .int (nI 0)), (0, .ref m), (1, .int (mI (nxt σ j))), (2, .int (nI j))] o dX6_next_45 rfl (by decide) rfl ?_
        refine v_iload_n 2 o dX6_next_46 rfl rfl ?_
        refine v_iconst_i (-1) o dX6_next_47 (by decide) ?_
        refine v_icmp_eq 96 o dX6_next_48 (by decide) (fun c48 => ?_) (fun c48 => ?_)
        · refine v_iconst 1 o dX6_next_96 rfl ?_
          refine v_goto 101 o dX6_next_97 (by decide) ?_
          refine v_istore [(4, .int (nI 1)), (3, .int (nI 0)), (0, .ref m), (1, .int (mI (nxt σ j))), (2, .int (nI j))] o dX6_next_101 (by decide) rfl ?_
          refine v_iload_n 1 o dX6_next_103 rfl rfl ?_
          refine v_if_eq_n 116 o dX6_next_104 (by decide) (by decide) (fun c104 => ?_) (fun c104 => absurd c104 (by omega))
          refine v_iload_n 3 o dX6_next_116 rfl rfl ?_
          refine v_istore_n [(1, .int (mI (nxt σ j))), (4, .int (nI 1)), (3, .int (nI 0)), (0, .ref m), (2, .int (nI j))] o dX6_next_117 rfl (by decide) rfl ?_
          refine v_iinc (nI (j + 1)) [(2, .int (nI (j + 1))), (1, .int (mI (nxt σ j))), (4, .int (nI 1)), (3, .int (nI 0)), (0, .ref m)] o dX6_next_118 4 rfl (iinc_n j 1) (by decide) rfl ?_
          refine v_goto 9 o dX6_next_121 (by decide) ?_
          refine v_sub [(0, .ref m), (1, .int (mI (nxt σ j))), (2, .int (nI (j + 1)))] [4, 1, 0] rfl ?_
          refine v_lv [(0, .ref m), (1, .int (mI (nxt σ (j + 1)))), (2, .int (nI (j + 1)))] (by rw [show nxt σ (j + 1) = nxt σ j by simp [nxt, canB, moreB, Int32.not_lt.mpr c23, (mI_ne (Nat.lt_of_le_of_lt (nxt_le σ j) (by omega))).mp c48]]) ?_
          exact ih (j + 1) _ (by omega) hRq
        · have hne : ¬ nxt σ j = 0 := fun q => c48 ((mI_ne (Nat.lt_of_le_of_lt (nxt_le σ j) (by omega))).mpr q)
          have hle := nxt_le σ j
          refine v_lv [(3, .int (nI 0)), (0, .ref m), (1, .int (nI (nxt σ j - 1))), (2, .int (nI j))] (by rw [mI_pos hne]) ?_
          refine v_aload_n 1 o dX6_next_51 rfl rfl ?_
          refine v_get (v := .ref (m + 4)) o dX6_next_52 cf6 5 (by decide) fl_X6_19 hRq.o rfl ?_
          refine v_iload_n 3 o dX6_next_55 rfl rfl ?_
          refine v_iald (σ.2.2.1 2 j) o dX6_next_56 (by omega) (by decide) hRq.a4 rfl ?_
          refine v_aload_n 1 o dX6_next_57 rfl rfl ?_
          refine v_get (v := .ref (m + 4)) o dX6_next_58 cf6 5 (by decide) fl_X6_19 hRq.o rfl ?_
          refine v_iload_n 2 o dX6_next_61 rfl rfl ?_
          refine v_iald (σ.2.2.1 2 (nxt σ j - 1)) o dX6_next_62 (by omega) (by decide) hRq.a4 rfl ?_
          refine v_icmp_gt 96 o dX6_next_63 (by decide) (fun c63 => ?_) (fun c63 => ?_)
          · refine v_iconst 1 o dX6_next_96 rfl ?_
            refine v_goto 101 o dX6_next_97 (by decide) ?_
            refine v_istore [(4, .int (nI 1)), (3, .int (nI 0)), (0, .ref m), (1, .int (nI (nxt σ j - 1))), (2, .int (nI j))] o dX6_next_101 (by decide) rfl ?_
            refine v_iload_n 1 o dX6_next_103 rfl rfl ?_
            refine v_if_eq_n 116 o dX6_next_104 (by decide) (by decide) (fun c104 => ?_) (fun c104 => absurd c104 (by omega))
            refine v_iload_n 3 o dX6_next_116 rfl rfl ?_
            refine v_istore_n [(1, .int (nI (nxt σ j - 1))), (4, .int (nI 1)), (3, .int (nI 0)), (0, .ref m), (2, .int (nI j))] o dX6_next_117 rfl (by decide) rfl ?_
            refine v_iinc (nI (j + 1)) [(2, .int (nI (j + 1))), (1, .int (nI (nxt σ j - 1))), (4, .int (nI 1)), (3, .int (nI 0)), (0, .ref m)] o dX6_next_118 4 rfl (iinc_n j 1) (by decide) rfl ?_
            refine v_goto 9 o dX6_next_121 (by decide) ?_
            refine v_sub [(0, .ref m), (1, .int (nI (nxt σ j - 1))), (2, .int (nI (j + 1)))] [4, 1, 0] rfl ?_
            refine v_lv [(0, .ref m), (1, .int (mI (nxt σ (j + 1)))), (2, .int (nI (j + 1)))] (by rw [show nxt σ (j + 1) = nxt σ j by simp [nxt, canB, moreB, Int32.not_lt.mpr c23, hne, c63], mI_pos hne]) ?_
            exact ih (j + 1) _ (by omega) hRq
          · refine v_aload_n 1 o dX6_next_66 rfl rfl ?_
            refine v_get (v := .ref (m + 4)) o dX6_next_67 cf6 5 (by decide) fl_X6_19 hRq.o rfl ?_
            refine v_iload_n 3 o dX6_next_70 rfl rfl ?_
            refine v_iald (σ.2.2.1 2 j) o dX6_next_71 (by omega) (by decide) hRq.a4 rfl ?_
            refine v_aload_n 1 o dX6_next_72 rfl rfl ?_
            refine v_get (v := .ref (m + 4)) o dX6_next_73 cf6 5 (by decide) fl_X6_19 hRq.o rfl ?_
            refine v_iload_n 2 o dX6_next_76 rfl rfl ?_
            refine v_iald (σ.2.2.1 2 (nxt σ j - 1)) o dX6_next_77 (by omega) (by decide) hRq.a4 rfl ?_
            refine v_icmp_ne 100 o dX6_next_78 (by decide) (fun c78 => ?_) (fun c78 => ?_)
            · refine v_iconst 0 o dX6_next_100 rfl ?_
              refine v_istore [(4, .int (nI 0)), (3, .int (nI 0)), (0, .ref m), (1, .int (nI (nxt σ j - 1))), (2, .int (nI j))] o dX6_next_101 (by decide) rfl ?_
              refine v_iload_n 1 o dX6_next_103 rfl rfl ?_
              refine v_if_eq_n 116 o dX6_next_104 (by decide) (by decide) (fun c104 => ?_) (fun c104 => absurd c104 (by omega))
              refine v_iload_n 3 o dX6_next_116 rfl rfl ?_
              refine v_istore_n [(1, .int (nI (nxt σ j - 1))), (4, .int (nI 0)), (3, .int (nI 0)), (0, .ref m), (2, .int (nI j))] o dX6_next_117 rfl (by decide) rfl ?_
              refine v_iinc (nI (j + 1)) [(2, .int (nI (j + 1))), (1, .int (nI (nxt σ j - 1))), (4, .int (nI 0)), (3, .int (nI 0)), (0, .ref m)] o dX6_next_118 4 rfl (iinc_n j 1) (by decide) rfl ?_
              refine v_goto 9 o dX6_next_121 (by decide) ?_
              refine v_sub [(0, .ref m), (1, .int (nI (nxt σ j - 1))), (2, .int (nI (j + 1)))] [4, 1, 0] rfl ?_
              refine v_lv [(0, .ref m), (1, .int (mI (nxt σ (j + 1)))), (2, .int (nI (j + 1)))] (by rw [show nxt σ (j + 1) = nxt σ j by simp [nxt, canB, moreB, Int32.not_lt.mpr c23, hne, c63, c78], mI_pos hne]) ?_
              exact ih (j + 1) _ (by omega) hRq
            · refine v_aload_n 1 o dX6_next_81 rfl rfl ?_
              refine v_get (v := .ref (m + 3)) o dX6_next_82 cf6 4 (by decide) fl_X6_16 hRq.o rfl ?_
              refine v_iload_n 3 o dX6_next_85 rfl rfl ?_
              refine v_iald (σ.2.2.1 1 j) o dX6_next_86 (by omega) (by decide) hRq.a3 rfl ?_
              refine v_aload_n 1 o dX6_next_87 rfl rfl ?_
              refine v_get (v := .ref (m + 3)) o dX6_next_88 cf6 4 (by decide) fl_X6_16 hRq.o rfl ?_
              refine v_iload_n 2 o dX6_next_91 rfl rfl ?_
              refine v_iald (σ.2.2.1 1 (nxt σ j - 1)) o dX6_next_92 (by omega) (by decide) hRq.a3 rfl ?_
              refine v_icmp_ge 100 o dX6_next_93 (by decide) (fun c93 => ?_) (fun c93 => ?_)
              · refine v_iconst 0 o dX6_next_100 rfl ?_
                refine v_istore [(4, .int (nI 0)), (3, .int (nI 0)), (0, .ref m), (1, .int (nI (nxt σ j - 1))), (2, .int (nI j))] o dX6_next_101 (by decide) rfl ?_
                refine v_iload_n 1 o dX6_next_103 rfl rfl ?_
                refine v_if_eq_n 116 o dX6_next_104 (by decide) (by decide) (fun c104 => ?_) (fun c104 => absurd c104 (by omega))
                refine v_iload_n 3 o dX6_next_116 rfl rfl ?_
                refine v_istore_n [(1, .int (nI (nxt σ j - 1))), (4, .int (nI 0)), (3, .int (nI 0)), (0, .ref m), (2, .int (nI j))] o dX6_next_117 rfl (by decide) rfl ?_
                refine v_iinc (nI (j + 1)) [(2, .int (nI (j + 1))), (1, .int (nI (nxt σ j - 1))), (4, .int (nI 0)), (3, .int (nI 0)), (0, .ref m)] o dX6_next_118 4 rfl (iinc_n j 1) (by decide) rfl ?_
                refine v_goto 9 o dX6_next_121 (by decide) ?_
                refine v_sub [(0, .ref m), (1, .int (nI (nxt σ j - 1))), (2, .int (nI (j + 1)))] [4, 1, 0] rfl ?_
                refine v_lv [(0, .ref m), (1, .int (mI (nxt σ (j + 1)))), (2, .int (nI (j + 1)))] (by rw [show nxt σ (j + 1) = nxt σ j by simp [nxt, canB, moreB, Int32.not_lt.mpr c23, hne, c63, c78, Int32.not_lt.mpr c93], mI_pos hne]) ?_
                exact ih (j + 1) _ (by omega) hRq
              · refine v_iconst 1 o dX6_next_96 rfl ?_
                refine v_goto 101 o dX6_next_97 (by decide) ?_
                refine v_istore [(4, .int (nI 1)), (3, .int (nI 0)), (0, .ref m), (1, .int (nI (nxt σ j - 1))), (2, .int (nI j))] o dX6_next_101 (by decide) rfl ?_
                refine v_iload_n 1 o dX6_next_103 rfl rfl ?_
                refine v_if_eq_n 116 o dX6_next_104 (by decide) (by decide) (fun c104 => ?_) (fun c104 => absurd c104 (by omega))
                refine v_iload_n 3 o dX6_next_116 rfl rfl ?_
                refine v_istore_n [(1, .int (nI (nxt σ j - 1))), (4, .int (nI 1)), (3, .int (nI 0)), (0, .ref m), (2, .int (nI j))] o dX6_next_117 rfl (by decide) rfl ?_
                refine v_iinc (nI (j + 1)) [(2, .int (nI (j + 1))), (1, .int (nI (nxt σ j - 1))), (4, .int (nI 1)), (3, .int (nI 0)), (0, .ref m)] o dX6_next_118 4 rfl (iinc_n j 1) (by decide) rfl ?_
                refine v_goto 9 o dX6_next_121 (by decide) ?_
                refine v_sub [(0, .ref m), (1, .int (nI (nxt σ j - 1))), (2, .int (nI (j + 1)))] [4, 1, 0] rfl ?_
                refine v_lv [(0, .ref m), (1, .int (mI (nxt σ (j + 1)))), (2, .int (nI (j + 1)))] (by rw [show nxt σ (j + 1) = nxt σ j by simp [nxt, canB, moreB, Int32.not_lt.mpr c23, hne, c63, c78, Int32.not_le.mp c93], mI_pos hne]) ?_
                exact ih (j + 1) _ (by omega) hRq
      · refine v_aload_n 0 o dX6_next_26 rfl rfl ?_
        refine v_iload_n 2 o dX6_next_27 rfl rfl ?_
        refine v_callVr (v := .int (nI (cnt (fun q => σ.2.1 2 (12 * j + q)) (σ.1 0 j)))) [.int (nI j)] [] o dX6_next_28 cw_X6_112 im_X6_shots se_X6_shots cf6 hRq.o (m_shots hl hRq hI j (by omega)) rfl rfl (by decide) ⟨rfl, rfl⟩ (by decide) (Nat.le_of_ble_eq_true rfl) ?_
        refine v_aload_n 0 o dX6_next_31 rfl rfl ?_
        refine v_get (v := .ref (m + 1)) o dX6_next_32 cf6 2 (by decide) fl_X6_7 hRq.o rfl ?_
        refine v_iload_n 2 o dX6_next_35 rfl rfl ?_
        refine v_iald (nI (σ.1 0 j)) o dX6_next_36 (by omega) (by decide) hRq.a1 rfl ?_
        refine v_icmp_ge_n 44 o dX6_next_37 (by decide) (by omega) (by omega) (fun c37 => ?_) (fun c37 => ?_)
        · refine v_iconst 0 o dX6_next_44 rfl ?_
          refine v_istore_n [(3, .int (nI 0)), (0, .ref m), (1, .int (mI (nxt σ j))), (2, .int (nI j))] o dX6_next_45 rfl (by decide) rfl ?_
          refine v_iload_n 2 o dX6_next_46 rfl rfl ?_
          refine v_iconst_i (-1) o dX6_next_47 (by decide) ?_
          refine v_icmp_eq 96 o dX6_next_48 (by decide) (fun c48 => ?_) (fun c48 => ?_)
          · refine v_iconst 1 o dX6_next_96 rfl ?_
            refine v_goto 101 o dX6_next_97 (by decide) ?_
            refine v_istore [(4, .int (nI 1)), (3, .int (nI 0)), (0, .ref m), (1, .int (mI (nxt σ j))), (2, .int (nI j))] o dX6_next_101 (by decide) rfl ?_
            refine v_iload_n 1 o dX6_next_103 rfl rfl ?_
            refine v_if_eq_n 116 o dX6_next_104 (by decide) (by decide) (fun c104 => ?_) (fun c104 => absurd c104 (by omega))
            refine v_iload_n 3 o dX6_next_116 rfl rfl ?_
            refine v_istore_n [(1, .int (mI (nxt σ j))), (4, .int (nI 1)), (3, .int (nI 0)), (0, .ref m), (2, .int (nI j))] o dX6_next_117 rfl (by decide) rfl ?_
            refine v_iinc (nI (j + 1)) [(2, .int (nI (j + 1))), (1, .int (mI (nxt σ j))), (4, .int (nI 1)), (3, .int (nI 0)), (0, .ref m)] o dX6_next_118 4 rfl (iinc_n j 1) (by decide) rfl ?_
            refine v_goto 9 o dX6_next_121 (by decide) ?_
            refine v_sub [(0, .ref m), (1, .int (mI (nxt σ j))), (2, .int (nI (j + 1)))] [4, 1, 0] rfl ?_
            refine v_lv [(0, .ref m), (1, .int (mI (nxt σ (j + 1)))), (2, .int (nI (j + 1)))] (by rw [show nxt σ (j + 1) = nxt σ j by simp [nxt, canB, moreB, Int32.not_le.mp c23, Nat.not_lt.mpr c37, (mI_ne (Nat.lt_of_le_of_lt (nxt_le σ j) (by omega))).mp c48]]) ?_
            exact ih (j + 1) _ (by omega) hRq
          · have hne : ¬ nxt σ j = 0 := fun q => c48 ((mI_ne (Nat.lt_of_le_of_lt (nxt_le σ j) (by omega))).mpr q)
            have hle := nxt_le σ j
            refine v_lv [(3, .int (nI 0)), (0, .ref m), (1, .int (nI (nxt σ j - 1))), (2, .int (nI j))] (by rw [mI_pos hne]) ?_
            refine v_aload_n 1 o dX6_next_51 rfl rfl ?_
            refine v_get (v := .ref (m + 4)) o dX6_next_52 cf6 5 (by decide) fl_X6_19 hRq.o rfl ?_
            refine v_iload_n 3 o dX6_next_55 rfl rfl ?_
            refine v_iald (σ.2.2.1 2 j) o dX6_next_56 (by omega) (by decide) hRq.a4 rfl ?_
            refine v_aload_n 1 o dX6_next_57 rfl rfl ?_
            refine v_get (v := .ref (m + 4)) o dX6_next_58 cf6 5 (by decide) fl_X6_19 hRq.o rfl ?_
            refine v_iload_n 2 o dX6_next_61 rfl rfl ?_
            refine v_iald (σ.2.2.1 2 (nxt σ j - 1)) o dX6_next_62 (by omega) (by decide) hRq.a4 rfl ?_
            refine v_icmp_gt 96 o dX6_next_63 (by decide) (fun c63 => ?_) (fun c63 => ?_)
            · refine v_iconst 1 o dX6_next_96 rfl ?_
              refine v_goto 101 o dX6_next_97 (by decide) ?_
              refine v_istore [(4, .int (nI 1)), (3, .int (nI 0)), (0, .ref m), (1, .int (nI (nxt σ j - 1))), (2, .int (nI j))] o dX6_next_101 (by decide) rfl ?_
              refine v_iload_n 1 o dX6_next_103 rfl rfl ?_
              refine v_if_eq_n 116 o dX6_next_104 (by decide) (by decide) (fun c104 => ?_) (fun c104 => absurd c104 (by omega))
              refine v_iload_n 3 o dX6_next_116 rfl rfl ?_
              refine v_istore_n [(1, .int (nI (nxt σ j - 1))), (4, .int (nI 1)), (3, .int (nI 0)), (0, .ref m), (2, .int (nI j))] o dX6_next_117 rfl (by decide) rfl ?_
              refine v_iinc (nI (j + 1)) [(2, .int (nI (j + 1))), (1, .int (nI (nxt σ j - 1))), (4, .int (nI 1)), (3, .int (nI 0)), (0, .ref m)] o dX6_next_118 4 rfl (iinc_n j 1) (by decide) rfl ?_
              refine v_goto 9 o dX6_next_121 (by decide) ?_
              refine v_sub [(0, .ref m), (1, .int (nI (nxt σ j - 1))), (2, .int (nI (j + 1)))] [4, 1, 0] rfl ?_
              refine v_lv [(0, .ref m), (1, .int (mI (nxt σ (j + 1)))), (2, .int (nI (j + 1)))] (by rw [show nxt σ (j + 1) = nxt σ j by simp [nxt, canB, moreB, Int32.not_le.mp c23, Nat.not_lt.mpr c37, hne, c63], mI_pos hne]) ?_
              exact ih (j + 1) _ (by omega) hRq
            · refine v_aload_n 1 o dX6_next_66 rfl rfl ?_
              refine v_get (v := .ref (m + 4)) o dX6_next_67 cf6 5 (by decide) fl_X6_19 hRq.o rfl ?_
              refine v_iload_n 3 o dX6_next_70 rfl rfl ?_
              refine v_iald (σ.2.2.1 2 j) o dX6_next_71 (by omega) (by decide) hRq.a4 rfl ?_
              refine v_aload_n 1 o dX6_next_72 rfl rfl ?_
              refine v_get (v := .ref (m + 4)) o dX6_next_73 cf6 5 (by decide) fl_X6_19 hRq.o rfl ?_
              refine v_iload_n 2 o dX6_next_76 rfl rfl ?_
              refine v_iald (σ.2.2.1 2 (nxt σ j - 1)) o dX6_next_77 (by omega) (by decide) hRq.a4 rfl ?_
              refine v_icmp_ne 100 o dX6_next_78 (by decide) (fun c78 => ?_) (fun c78 => ?_)
              · refine v_iconst 0 o dX6_next_100 rfl ?_
                refine v_istore [(4, .int (nI 0)), (3, .int (nI 0)), (0, .ref m), (1, .int (nI (nxt σ j - 1))), (2, .int (nI j))] o dX6_next_101 (by decide) rfl ?_
                refine v_iload_n 1 o dX6_next_103 rfl rfl ?_
                refine v_if_eq_n 116 o dX6_next_104 (by decide) (by decide) (fun c104 => ?_) (fun c104 => absurd c104 (by omega))
                refine v_iload_n 3 o dX6_next_116 rfl rfl ?_
                refine v_istore_n [(1, .int (nI (nxt σ j - 1))), (4, .int (nI 0)), (3, .int (nI 0)), (0, .ref m), (2, .int (nI j))] o dX6_next_117 rfl (by decide) rfl ?_
                refine v_iinc (nI (j + 1)) [(2, .int (nI (j + 1))), (1, .int (nI (nxt σ j - 1))), (4, .int (nI 0)), (3, .int (nI 0)), (0, .ref m)] o dX6_next_118 4 rfl (iinc_n j 1) (by decide) rfl ?_
                refine v_goto 9 o dX6_next_121 (by decide) ?_
                refine v_sub [(0, .ref m), (1, .int (nI (nxt σ j - 1))), (2, .int (nI (j + 1)))] [4, 1, 0] rfl ?_
                refine v_lv [(0, .ref m), (1, .int (mI (nxt σ (j + 1)))), (2, .int (nI (j + 1)))] (by rw [show nxt σ (j + 1) = nxt σ j by simp [nxt, canB, moreB, Int32.not_le.mp c23, Nat.not_lt.mpr c37, hne, c63, c78], mI_pos hne]) ?_
                exact ih (j + 1) _ (by omega) hRq
              · refine v_aload_n 1 o dX6_next_81 rfl rfl ?_
                refine v_get (v := .ref (m + 3)) o dX6_next_82 cf6 4 (by decide) fl_X6_16 hRq.o rfl ?_
                refine v_iload_n 3 o dX6_next_85 rfl rfl ?_
                refine v_iald (σ.2.2.1 1 j) o dX6_next_86 (by omega) (by decide) hRq.a3 rfl ?_
                refine v_aload_n 1 o dX6_next_87 rfl rfl ?_
                refine v_get (v := .ref (m + 3)) o dX6_next_88 cf6 4 (by decide) fl_X6_16 hRq.o rfl ?_
                refine v_iload_n 2 o dX6_next_91 rfl rfl ?_
                refine v_iald (σ.2.2.1 1 (nxt σ j - 1)) o dX6_next_92 (by omega) (by decide) hRq.a3 rfl ?_
                refine v_icmp_ge 100 o dX6_next_93 (by decide) (fun c93 => ?_) (fun c93 => ?_)
                · refine v_iconst 0 o dX6_next_100 rfl ?_
                  refine v_istore [(4, .int (nI 0)), (3, .int (nI 0)), (0, .ref m), (1, .int (nI (nxt σ j - 1))), (2, .int (nI j))] o dX6_next_101 (by decide) rfl ?_
                  refine v_iload_n 1 o dX6_next_103 rfl rfl ?_
                  refine v_if_eq_n 116 o dX6_next_104 (by decide) (by decide) (fun c104 => ?_) (fun c104 => absurd c104 (by omega))
                  refine v_iload_n 3 o dX6_next_116 rfl rfl ?_
                  refine v_istore_n [(1, .int (nI (nxt σ j - 1))), (4, .int (nI 0)), (3, .int (nI 0)), (0, .ref m), (2, .int (nI j))] o dX6_next_117 rfl (by decide) rfl ?_
                  refine v_iinc (nI (j + 1)) [(2, .int (nI (j + 1))), (1, .int (nI (nxt σ j - 1))), (4, .int (nI 0)), (3, .int (nI 0)), (0, .ref m)] o dX6_next_118 4 rfl (iinc_n j 1) (by decide) rfl ?_
                  refine v_goto 9 o dX6_next_121 (by decide) ?_
                  refine v_sub [(0, .ref m), (1, .int (nI (nxt σ j - 1))), (2, .int (nI (j + 1)))] [4, 1, 0] rfl ?_
                  refine v_lv [(0, .ref m), (1, .int (mI (nxt σ (j + 1)))), (2, .int (nI (j + 1)))] (by rw [show nxt σ (j + 1) = nxt σ j by simp [nxt, canB, moreB, Int32.not_le.mp c23, Nat.not_lt.mpr c37, hne, c63, c78, Int32.not_lt.mpr c93], mI_pos hne]) ?_
                  exact ih (j + 1) _ (by omega) hRq
                · refine v_iconst 1 o dX6_next_96 rfl ?_
                  refine v_goto 101 o dX6_next_97 (by decide) ?_
                  refine v_istore [(4, .int (nI 1)), (3, .int (nI 0)), (0, .ref m), (1, .int (nI (nxt σ j - 1))), (2, .int (nI j))] o dX6_next_101 (by decide) rfl ?_
                  refine v_iload_n 1 o dX6_next_103 rfl rfl ?_
                  refine v_if_eq_n 116 o dX6_next_104 (by decide) (by decide) (fun c104 => ?_) (fun c104 => absurd c104 (by omega))
                  refine v_iload_n 3 o dX6_next_116 rfl rfl ?_
                  refine v_istore_n [(1, .int (nI (nxt σ j - 1))), (4, .int (nI 1)), (3, .int (nI 0)), (0, .ref m), (2, .int (nI j))] o dX6_next_117 rfl (by decide) rfl ?_
                  refine v_iinc (nI (j + 1)) [(2, .int (nI (j + 1))), (1, .int (nI (nxt σ j - 1))), (4, .int (nI 1)), (3, .int (nI 0)), (0, .ref m)] o dX6_next_118 4 rfl (iinc_n j 1) (by decide) rfl ?_
                  refine v_goto 9 o dX6_next_121 (by decide) ?_
                  refine v_sub [(0, .ref m), (1, .int (nI (nxt σ j - 1))), (2, .int (nI (j + 1)))] [4, 1, 0] rfl ?_
                  refine v_lv [(0, .ref m), (1, .int (mI (nxt σ (j + 1)))), (2, .int (nI (j + 1)))] (by rw [show nxt σ (j + 1) = nxt σ j by simp [nxt, canB, moreB, Int32.not_le.mp c23, Nat.not_lt.mpr c37, hne, c63, c78, Int32.not_le.mp c93], mI_pos hne]) ?_
                  exact ih (j + 1) _ (by omega) hRq
        · refine v_iconst 1 o dX6_next_40 rfl ?_
          refine v_goto 45 o dX6_next_41 (by decide) ?_
          refine v_istore_n [(3, .int (nI 1)), (0, .ref m), (1, .int (mI (nxt σ j))), (2, .int (nI j))] o dX6_next_45 rfl (by decide) rfl ?_
          refine v_iload_n 2 o dX6_next_46 rfl rfl ?_
          refine v_iconst_i (-1) o dX6_next_47 (by decide) ?_
          refine v_icmp_eq 96 o dX6_next_48 (by decide) (fun c48 => ?_) (fun c48 => ?_)
          · refine v_iconst 1 o dX6_next_96 rfl ?_
            refine v_goto 101 o dX6_next_97 (by decide) ?_
            refine v_istore [(4, .int (nI 1)), (3, .int (nI 1)), (0, .ref m), (1, .int (mI (nxt σ j))), (2, .int (nI j))] o dX6_next_101 (by decide) rfl ?_
            refine v_iload_n 1 o dX6_next_103 rfl rfl ?_
            refine v_if_eq_n 116 o dX6_next_104 (by decide) (by decide) (fun c104 => absurd c104 (by omega)) (fun c104 => ?_)
            refine v_iload 0 o dX6_next_107 rfl ?_
            refine v_if_eq_n 116 o dX6_next_109 (by decide) (by decide) (fun c109 => absurd c109 (by omega)) (fun c109 => ?_)
            refine v_iload_n 4 o dX6_next_112 rfl rfl ?_
            refine v_goto 117 o dX6_next_113 (by decide) ?_
            refine v_istore_n [(1, .int (nI j)), (4, .int (nI 1)), (3, .int (nI 1)), (0, .ref m), (2, .int (nI j))] o dX6_next_117 rfl (by decide) rfl ?_
            refine v_iinc (nI (j + 1)) [(2, .int (nI (j + 1))), (1, .int (nI j)), (4, .int (nI 1)), (3, .int (nI 1)), (0, .ref m)] o dX6_next_118 4 rfl (iinc_n j 1) (by decide) rfl ?_
            refine v_goto 9 o dX6_next_121 (by decide) ?_
            refine v_sub [(0, .ref m), (1, .int (nI j)), (2, .int (nI (j + 1)))] [4, 1, 0] rfl ?_
            refine v_lv [(0, .ref m), (1, .int (mI (nxt σ (j + 1)))), (2, .int (nI (j + 1)))] (by rw [show nxt σ (j + 1) = j + 1 by simp [nxt, canB, moreB, Int32.not_le.mp c23, Nat.not_le.mp c37, (mI_ne (Nat.lt_of_le_of_lt (nxt_le σ j) (by omega))).mp c48], mI_s]) ?_
            exact ih (j + 1) _ (by omega) hRq
          · have hne : ¬ nxt σ j = 0 := fun q => c48 ((mI_ne (Nat.lt_of_le_of_lt (nxt_le σ j) (by omega))).mpr q)
            have hle := nxt_le σ j
            refine v_lv [(3, .int (nI 1)), (0, .ref m), (1, .int (nI (nxt σ j - 1))), (2, .int (nI j))] (by rw [mI_pos hne]) ?_
            refine v_aload_n 1 o dX6_next_51 rfl rfl ?_
            refine v_get (v := .ref (m + 4)) o dX6_next_52 cf6 5 (by decide) fl_X6_19 hRq.o rfl ?_
            refine v_iload_n 3 o dX6_next_55 rfl rfl ?_
            refine v_iald (σ.2.2.1 2 j) o dX6_next_56 (by omega) (by decide) hRq.a4 rfl ?_
            refine v_aload_n 1 o dX6_next_57 rfl rfl ?_
            refine v_get (v := .ref (m + 4)) o dX6_next_58 cf6 5 (by decide) fl_X6_19 hRq.o rfl ?_
            refine v_iload_n 2 o dX6_next_61 rfl rfl ?_
            refine v_iald (σ.2.2.1 2 (nxt σ j - 1)) o dX6_next_62 (by omega) (by decide) hRq.a4 rfl ?_
            refine v_icmp_gt 96 o dX6_next_63 (by decide) (fun c63 => ?_) (fun c63 => ?_)
            · refine v_iconst 1 o dX6_next_96 rfl ?_
              refine v_goto 101 o dX6_next_97 (by decide) ?_
              refine v_istore [(4, .int (nI 1)), (3, .int (nI 1)), (0, .ref m), (1, .int (nI (nxt σ j - 1))), (2, .int (nI j))] o dX6_next_101 (by decide) rfl ?_
              refine v_iload_n 1 o dX6_next_103 rfl rfl ?_
              refine v_if_eq_n 116 o dX6_next_104 (by decide) (by decide) (fun c104 => absurd c104 (by omega)) (fun c104 => ?_)
              refine v_iload 0 o dX6_next_107 rfl ?_
              refine v_if_eq_n 116 o dX6_next_109 (by decide) (by decide) (fun c109 => absurd c109 (by omega)) (fun c109 => ?_)
              refine v_iload_n 4 o dX6_next_112 rfl rfl ?_
              refine v_goto 117 o dX6_next_113 (by decide) ?_
              refine v_istore_n [(1, .int (nI j)), (4, .int (nI 1)), (3, .int (nI 1)), (0, .ref m), (2, .int (nI j))] o dX6_next_117 rfl (by decide) rfl ?_
              refine v_iinc (nI (j + 1)) [(2, .int (nI (j + 1))), (1, .int (nI j)), (4, .int (nI 1)), (3, .int (nI 1)), (0, .ref m)] o dX6_next_118 4 rfl (iinc_n j 1) (by decide) rfl ?_
              refine v_goto 9 o dX6_next_121 (by decide) ?_
              refine v_sub [(0, .ref m), (1, .int (nI j)), (2, .int (nI (j + 1)))] [4, 1, 0] rfl ?_
              refine v_lv [(0, .ref m), (1, .int (mI (nxt σ (j + 1)))), (2, .int (nI (j + 1)))] (by rw [show nxt σ (j + 1) = j + 1 by simp [nxt, canB, moreB, Int32.not_le.mp c23, Nat.not_le.mp c37, hne, c63], mI_s]) ?_
              exact ih (j + 1) _ (by omega) hRq
            · refine v_aload_n 1 o dX6_next_66 rfl rfl ?_
              refine v_get (v := .ref (m + 4)) o dX6_next_67 cf6 5 (by decide) fl_X6_19 hRq.o rfl ?_
              refine v_iload_n 3 o dX6_next_70 rfl rfl ?_
              refine v_iald (σ.2.2.1 2 j) o dX6_next_71 (by omega) (by decide) hRq.a4 rfl ?_
              refine v_aload_n 1 o dX6_next_72 rfl rfl ?_
              refine v_get (v := .ref (m + 4)) o dX6_next_73 cf6 5 (by decide) fl_X6_19 hRq.o rfl ?_
              refine v_iload_n 2 o dX6_next_76 rfl rfl ?_
              refine v_iald (σ.2.2.1 2 (nxt σ j - 1)) o dX6_next_77 (by omega) (by decide) hRq.a4 rfl ?_
              refine v_icmp_ne 100 o dX6_next_78 (by decide) (fun c78 => ?_) (fun c78 => ?_)
              · refine v_iconst 0 o dX6_next_100 rfl ?_
                refine v_istore [(4, .int (nI 0)), (3, .int (nI 1)), (0, .ref m), (1, .int (nI (nxt σ j - 1))), (2, .int (nI j))] o dX6_next_101 (by decide) rfl ?_
                refine v_iload_n 1 o dX6_next_103 rfl rfl ?_
                refine v_if_eq_n 116 o dX6_next_104 (by decide) (by decide) (fun c104 => absurd c104 (by omega)) (fun c104 => ?_)
                refine v_iload 0 o dX6_next_107 rfl ?_
                refine v_if_eq_n 116 o dX6_next_109 (by decide) (by decide) (fun c109 => ?_) (fun c109 => absurd c109 (by omega))
                refine v_iload_n 3 o dX6_next_116 rfl rfl ?_
                refine v_istore_n [(1, .int (nI (nxt σ j - 1))), (4, .int (nI 0)), (3, .int (nI 1)), (0, .ref m), (2, .int (nI j))] o dX6_next_117 rfl (by decide) rfl ?_
                refine v_iinc (nI (j + 1)) [(2, .int (nI (j + 1))), (1, .int (nI (nxt σ j - 1))), (4, .int (nI 0)), (3, .int (nI 1)), (0, .ref m)] o dX6_next_118 4 rfl (iinc_n j 1) (by decide) rfl ?_
                refine v_goto 9 o dX6_next_121 (by decide) ?_
                refine v_sub [(0, .ref m), (1, .int (nI (nxt σ j - 1))), (2, .int (nI (j + 1)))] [4, 1, 0] rfl ?_
                refine v_lv [(0, .ref m), (1, .int (mI (nxt σ (j + 1)))), (2, .int (nI (j + 1)))] (by rw [show nxt σ (j + 1) = nxt σ j by simp [nxt, canB, moreB, Int32.not_le.mp c23, Nat.not_le.mp c37, hne, c63, c78], mI_pos hne]) ?_
                exact ih (j + 1) _ (by omega) hRq
              · refine v_aload_n 1 o dX6_next_81 rfl rfl ?_
                refine v_get (v := .ref (m + 3)) o dX6_next_82 cf6 4 (by decide) fl_X6_16 hRq.o rfl ?_
                refine v_iload_n 3 o dX6_next_85 rfl rfl ?_
                refine v_iald (σ.2.2.1 1 j) o dX6_next_86 (by omega) (by decide) hRq.a3 rfl ?_
                refine v_aload_n 1 o dX6_next_87 rfl rfl ?_
                refine v_get (v := .ref (m + 3)) o dX6_next_88 cf6 4 (by decide) fl_X6_16 hRq.o rfl ?_
                refine v_iload_n 2 o dX6_next_91 rfl rfl ?_
                refine v_iald (σ.2.2.1 1 (nxt σ j - 1)) o dX6_next_92 (by omega) (by decide) hRq.a3 rfl ?_
                refine v_icmp_ge 100 o dX6_next_93 (by decide) (fun c93 => ?_) (fun c93 => ?_)
                · refine v_iconst 0 o dX6_next_100 rfl ?_
                  refine v_istore [(4, .int (nI 0)), (3, .int (nI 1)), (0, .ref m), (1, .int (nI (nxt σ j - 1))), (2, .int (nI j))] o dX6_next_101 (by decide) rfl ?_
                  refine v_iload_n 1 o dX6_next_103 rfl rfl ?_
                  refine v_if_eq_n 116 o dX6_next_104 (by decide) (by decide) (fun c104 => absurd c104 (by omega)) (fun c104 => ?_)
                  refine v_iload 0 o dX6_next_107 rfl ?_
                  refine v_if_eq_n 116 o dX6_next_109 (by decide) (by decide) (fun c109 => ?_) (fun c109 => absurd c109 (by omega))
                  refine v_iload_n 3 o dX6_next_116 rfl rfl ?_
                  refine v_istore_n [(1, .int (nI (nxt σ j - 1))), (4, .int (nI 0)), (3, .int (nI 1)), (0, .ref m), (2, .int (nI j))] o dX6_next_117 rfl (by decide) rfl ?_
                  refine v_iinc (nI (j + 1)) [(2, .int (nI (j + 1))), (1, .int (nI (nxt σ j - 1))), (4, .int (nI 0)), (3, .int (nI 1)), (0, .ref m)] o dX6_next_118 4 rfl (iinc_n j 1) (by decide) rfl ?_
                  refine v_goto 9 o dX6_next_121 (by decide) ?_
                  refine v_sub [(0, .ref m), (1, .int (nI (nxt σ j - 1))), (2, .int (nI (j + 1)))] [4, 1, 0] rfl ?_
                  refine v_lv [(0, .ref m), (1, .int (mI (nxt σ (j + 1)))), (2, .int (nI (j + 1)))] (by rw [show nxt σ (j + 1) = nxt σ j by simp [nxt, canB, moreB, Int32.not_le.mp c23, Nat.not_le.mp c37, hne, c63, c78, Int32.not_lt.mpr c93], mI_pos hne]) ?_
                  exact ih (j + 1) _ (by omega) hRq
                · refine v_iconst 1 o dX6_next_96 rfl ?_
                  refine v_goto 101 o dX6_next_97 (by decide) ?_
                  refine v_istore [(4, .int (nI 1)), (3, .int (nI 1)), (0, .ref m), (1, .int (nI (nxt σ j - 1))), (2, .int (nI j))] o dX6_next_101 (by decide) rfl ?_
                  refine v_iload_n 1 o dX6_next_103 rfl rfl ?_
                  refine v_if_eq_n 116 o dX6_next_104 (by decide) (by decide) (fun c104 => absurd c104 (by omega)) (fun c104 => ?_)
                  refine v_iload 0 o dX6_next_107 rfl ?_
                  refine v_if_eq_n 116 o dX6_next_109 (by decide) (by decide) (fun c109 => absurd c109 (by omega)) (fun c109 => ?_)
                  refine v_iload_n 4 o dX6_next_112 rfl rfl ?_
                  refine v_goto 117 o dX6_next_113 (by decide) ?_
                  refine v_istore_n [(1, .int (nI j)), (4, .int (nI 1)), (3, .int (nI 1)), (0, .ref m), (2, .int (nI j))] o dX6_next_117 rfl (by decide) rfl ?_
                  refine v_iinc (nI (j + 1)) [(2, .int (nI (j + 1))), (1, .int (nI j)), (4, .int (nI 1)), (3, .int (nI 1)), (0, .ref m)] o dX6_next_118 4 rfl (iinc_n j 1) (by decide) rfl ?_
                  refine v_goto 9 o dX6_next_121 (by decide) ?_
                  refine v_sub [(0, .ref m), (1, .int (nI j)), (2, .int (nI (j + 1)))] [4, 1, 0] rfl ?_
                  refine v_lv [(0, .ref m), (1, .int (mI (nxt σ (j + 1)))), (2, .int (nI (j + 1)))] (by rw [show nxt σ (j + 1) = j + 1 by simp [nxt, canB, moreB, Int32.not_le.mp c23, Nat.not_le.mp c37, hne, c63, c78, Int32.not_le.mp c93], mI_s]) ?_
                  exact ih (j + 1) _ (by omega) hRq
  refine v_aload_n 0 o dX6_next_0 rfl rfl ?_
  refine v_iconst 0 o dX6_next_1 rfl ?_
  refine v_put _ o dX6_next_2 cf6 0 (by decide) (by decide) fl_X6_91 hR.o rfl rfl (Nat.le_of_ble_eq_true rfl) rfl (fun μ1 e1 => ?_)
  have hR1 := hR.s_thrown (v := 0) e1
  refine v_iconst_i (-1) o dX6_next_5 (by decide) ?_
  refine v_istore_n [(1, .int (-1)), (0, .ref m)] o dX6_next_6 rfl (by decide) rfl ?_
  refine v_iconst 0 o dX6_next_7 rfl ?_
  refine v_istore_n [(2, .int (nI 0)), (1, .int (-1)), (0, .ref m)] o dX6_next_8 rfl (by decide) rfl ?_
  refine v_sub [(0, .ref m), (1, .int (-1)), (2, .int (nI 0))] [2, 1, 0] rfl ?_
  refine v_lv [(0, .ref m), (1, .int (mI (nxt σ 0))), (2, .int (nI 0))] rfl ?_
  exact L (σ.1 3 0) 0 _ (by omega) hR1

set_option maxRecDepth 100000 in
set_option maxHeartbeats 4000000 in
theorem m_shot {l : Launch} (hl : l.stackTraces = false) {g : mG} {m z : Nat} {μ0 μ : mM} {σ : Sg} (hR : RM g m μ0 σ μ) (hI : Inv σ) (b q x : Int32) (its : Int64) : Ct l g yX6_shot [Cond.code yX6_shot cX6_shot 12 (some .int)] { frames := 3, cells := 0, slots := 0, locals := 65 } [.ref m, .int b, .int q, .int x, .long its] μ z (wrM g m μ0 (some (.int (sp_shot σ b q x its).1)) (sp_shot σ b q x its).2 z) noX := by
  cases hX : inR x (nI 30) (nI 180) with
  | false =>
    cases hP : isP σ b q with
    | false =>
      refine Ct.of hl (by decide +kernel) (Nat.le_of_ble_eq_true rfl) ?_
      intro p e s mi args below meth c o hnm hr hx
      have o : Ok p l s mi args meth c g cX6_shot 12 RX6 := o
      refine v_lv [(0, .ref m), (1, .int b), (2, .int q), (3, .int x), (4, .long its)] rfl ?_
      refine v_aload_n 0 o dX6_shot_0 rfl rfl ?_
      refine v_iload_n 1 o dX6_shot_1 rfl rfl ?_
      refine v_iload_n 2 o dX6_shot_2 rfl rfl ?_
      refine v_callVr (v := .int (bI (isP σ b q))) [.int b, .int q] [] o dX6_shot_3 cw_X6_105 im_X6_isPage se_X6_isPage cf6 hR.o (m_isPage hl hR hI b q) rfl rfl (by decide) ⟨rfl, rfl⟩ (by decide) (Nat.le_of_ble_eq_true rfl) ?_
      refine v_top (bI false) (by rw [hP]) ?_
      refine v_istore [(6, .int (bI false)), (0, .ref m), (1, .int b), (2, .int q), (3, .int x), (4, .long its)] o dX6_shot_6 (by decide) rfl ?_
      refine v_iload_n 4 o dX6_shot_8 rfl rfl ?_
      refine v_bipush 30 o dX6_shot_9 (by decide) ?_
      refine v_sipush 180 o dX6_shot_11 (by decide) ?_
      refine v_callSr (v := .int (bI (inR x (nI 30) (nI 180)))) [.int x, .int (nI 30), .int (nI 180)] [] o dX6_shot_14 cw_X6_97 st_X6_in (m_in hl hR x (nI 30) (nI 180)) rfl rfl (by decide) ⟨rfl, rfl⟩ (by decide) (Nat.le_of_ble_eq_true rfl) ?_
      refine v_top (bI false) (by rw [hX]) ?_
      refine v_istore [(7, .int (bI false)), (6, .int (bI false)), (0, .ref m), (1, .int b), (2, .int q), (3, .int x), (4, .long its)] o dX6_shot_17 (by decide) rfl ?_
      refine v_iload_n 5 o dX6_shot_19 rfl rfl ?_
      refine v_bipush 90 o dX6_shot_20 (by decide) ?_
      refine v_icmp_le 29 o dX6_shot_22 (by decide) (fun c22 => ?_) (fun c22 => ?_)
      · refine v_iconst 1 o dX6_shot_29 rfl ?_
        refine v_istore [(8, .int (nI 1)), (7, .int (bI false)), (6, .int (bI false)), (0, .ref m), (1, .int b), (2, .int q), (3, .int x), (4, .long its)] o dX6_shot_30 (by decide) rfl ?_
        refine v_bipush 12 o dX6_shot_32 (by decide) ?_
        refine v_iload_n 4 o dX6_shot_34 rfl rfl ?_
        refine v_imul ((nI 12) * b) o dX6_shot_35 rfl ?_
        refine v_iload_n 5 o dX6_shot_36 rfl rfl ?_
        refine v_iadd (((nI 12) * b) + q) o dX6_shot_37 rfl ?_
        refine v_istore [(9, .int (((nI 12) * b) + q)), (8, .int (nI 1)), (7, .int (bI false)), (6, .int (bI false)), (0, .ref m), (1, .int b), (2, .int q), (3, .int x), (4, .long its)] o dX6_shot_38 (by decide) rfl ?_
        refine v_iload 3 o dX6_shot_40 rfl ?_
        refine v_if_eq_b 90 o dX6_shot_42 (by decide) (fun c42 => ?_) (fun c42 => absurd c42 (by simp_all))
        refine v_iconst 0 o dX6_shot_90 rfl ?_
        refine v_istore [(10, .int (nI 0)), (9, .int (((nI 12) * b) + q)), (8, .int (nI 1)), (7, .int (bI false)), (6, .int (bI false)), (0, .ref m), (1, .int b), (2, .int q), (3, .int x), (4, .long its)] o dX6_shot_91 (by decide) rfl ?_
        refine v_aload_n 5 o dX6_shot_93 rfl rfl ?_
        refine v_iload 4 o dX6_shot_94 rfl ?_
        refine v_if_ne_b 103 o dX6_shot_96 (by decide) (fun c96 => absurd c96 (by simp_all)) (fun c96 => ?_)
        refine v_iconst 1 o dX6_shot_99 rfl ?_
        refine v_goto 122 o dX6_shot_100 (by decide) ?_
        refine v_callV [.int (nI 1)] [] o dX6_shot_122 cw_X6_109 im_X6_goesWell se_X6_goesWell cf6 hR.o (m_goesWell hl hR 1 (by first | decide | omega)) rfl rfl (by decide) (by decide) (Nat.le_of_ble_eq_true rfl) ?_ (fun _ _ _ _ h => h.elim)
        rintro _ μ1 _ _ ⟨rfl, hR1, rfl⟩
        refine v_st [.int (bI false)] rfl ?_
        refine v_if_ne_b 130 o dX6_shot_125 (by decide) (fun c125 => absurd c125 (by simp_all)) (fun c125 => ?_)
        refine v_iconst 0 o dX6_shot_128 rfl ?_
        have e9 : sp_shot σ b q x its = (nI 0, uN σ 3 1 1) := by simp [sp_shot, th, hP, hX, c22]
        exact v_iret o dX6_shot_129 hr (Nat.le_of_ble_eq_true rfl) (Nat.le_of_ble_eq_true rfl) (by rw [e9]; exact ⟨rfl, hR1, rfl⟩)
      · refine v_iconst 2 o dX6_shot_25 rfl ?_
        refine v_goto 30 o dX6_shot_26 (by decide) ?_
        refine v_istore [(8, .int (nI 2)), (7, .int (bI false)), (6, .int (bI false)), (0, .ref m), (1, .int b), (2, .int q), (3, .int x), (4, .long its)] o dX6_shot_30 (by decide) rfl ?_
        refine v_bipush 12 o dX6_shot_32 (by decide) ?_
        refine v_iload_n 4 o dX6_shot_34 rfl rfl ?_
        refine v_imul ((nI 12) * b) o dX6_shot_35 rfl ?_
        refine v_iload_n 5 o dX6_shot_36 rfl rfl ?_
        refine v_iadd (((nI 12) * b) + q) o dX6_shot_37 rfl ?_
        refine v_istore [(9, .int (((nI 12) * b) + q)), (8, .int (nI 2)), (7, .int (bI false)), (6, .int (bI false)), (0, .ref m), (1, .int b), (2, .int q), (3, .int x), (4, .long its)] o dX6_shot_38 (by decide) rfl ?_
        refine v_iload 3 o dX6_shot_40 rfl ?_
        refine v_if_eq_b 90 o dX6_shot_42 (by decide) (fun c42 => ?_) (fun c42 => absurd c42 (by simp_all))
        refine v_iconst 0 o dX6_shot_90 rfl ?_
        refine v_istore [(10, .int (nI 0)), (9, .int (((nI 12) * b) + q)), (8, .int (nI 2)), (7, .int (bI false)), (6, .int (bI false)), (0, .ref m), (1, .int b), (2, .int q), (3, .int x), (4, .long its)] o dX6_shot_91 (by decide) rfl ?_
        refine v_aload_n 5 o dX6_shot_93 rfl rfl ?_
        refine v_iload 4 o dX6_shot_94 rfl ?_
        refine v_if_ne_b 103 o dX6_shot_96 (by decide) (fun c96 => absurd c96 (by simp_all)) (fun c96 => ?_)
        refine v_iconst 1 o dX6_shot_99 rfl ?_
        refine v_goto 122 o dX6_shot_100 (by decide) ?_
        refine v_callV [.int (nI 1)] [] o dX6_shot_122 cw_X6_109 im_X6_goesWell se_X6_goesWell cf6 hR.o (m_goesWell hl hR 1 (by first | decide | omega)) rfl rfl (by decide) (by decide) (Nat.le_of_ble_eq_true rfl) ?_ (fun _ _ _ _ h => h.elim)
        rintro _ μ2 _ _ ⟨rfl, hR2, rfl⟩
        refine v_st [.int (bI false)] rfl ?_
        refine v_if_ne_b 130 o dX6_shot_125 (by decide) (fun c125 => absurd c125 (by simp_all)) (fun c125 => ?_)
        refine v_iconst 0 o dX6_shot_128 rfl ?_
        have e9 : sp_shot σ b q x its = (nI 0, uN σ 3 1 1) := by simp [sp_shot, th, hP, hX, c22]
        exact v_iret o dX6_shot_129 hr (Nat.le_of_ble_eq_true rfl) (Nat.le_of_ble_eq_true rfl) (by rw [e9]; exact ⟨rfl, hR2, rfl⟩)
    | true =>
      obtain ⟨i, j, hi, hj, rfl, rfl⟩ := isP_t hI hP
      have h6 := hI.1
      have h12 := hI.2.1 i
      have ti : tn (nI i) = i := tn_nI (by omega)
      have tj : tn (nI j) = j := tn_nI (by omega)
      refine Ct.of hl (by decide +kernel) (Nat.le_of_ble_eq_true rfl) ?_
      intro p e s mi args below meth c o hnm hr hx
      have o : Ok p l s mi args meth c g cX6_shot 12 RX6 := o
      refine v_lv [(0, .ref m), (1, .int (nI i)), (2, .int (nI j)), (3, .int x), (4, .long its)] rfl ?_
      refine v_aload_n 0 o dX6_shot_0 rfl rfl ?_
      refine v_iload_n 1 o dX6_shot_1 rfl rfl ?_
      refine v_iload_n 2 o dX6_shot_2 rfl rfl ?_
      refine v_callVr (v := .int (bI (isP σ (nI i) (nI j)))) [.int (nI i), .int (nI j)] [] o dX6_shot_3 cw_X6_105 im_X6_isPage se_X6_isPage cf6 hR.o (m_isPage hl hR hI (nI i) (nI j)) rfl rfl (by decide) ⟨rfl, rfl⟩ (by decide) (Nat.le_of_ble_eq_true rfl) ?_
      refine v_top (bI true) (by rw [hP]) ?_
      refine v_istore [(6, .int (bI true)), (0, .ref m), (1, .int (nI i)), (2, .int (nI j)), (3, .int x), (4, .long its)] o dX6_shot_6 (by decide) rfl ?_
      refine v_iload_n 4 o dX6_shot_8 rfl rfl ?_
      refine v_bipush 30 o dX6_shot_9 (by decide) ?_
      refine v_sipush 180 o dX6_shot_11 (by decide) ?_
      refine v_callSr (v := .int (bI (inR x (nI 30) (nI 180)))) [.int x, .int (nI 30), .int (nI 180)] [] o dX6_shot_14 cw_X6_97 st_X6_in (m_in hl hR x (nI 30) (nI 180)) rfl rfl (by decide) ⟨rfl, rfl⟩ (by decide) (Nat.le_of_ble_eq_true rfl) ?_
      refine v_top (bI false) (by rw [hX]) ?_
      refine v_istore [(7, .int (bI false)), (6, .int (bI true)), (0, .ref m), (1, .int (nI i)), (2, .int (nI j)), (3, .int x), (4, .long its)] o dX6_shot_17 (by decide) rfl ?_
      refine v_iload_n 5 o dX6_shot_19 rfl rfl ?_
      refine v_bipush 90 o dX6_shot_20 (by decide) ?_
      refine v_icmp_le 29 o dX6_shot_22 (by decide) (fun c22 => ?_) (fun c22 => ?_)
      · refine v_iconst 1 o dX6_shot_29 rfl ?_
        refine v_istore [(8, .int (nI 1)), (7, .int (bI false)), (6, .int (bI true)), (0, .ref m), (1, .int (nI i)), (2, .int (nI j)), (3, .int x), (4, .long its)] o dX6_shot_30 (by decide) rfl ?_
        refine v_bipush 12 o dX6_shot_32 (by decide) ?_
        refine v_iload_n 4 o dX6_shot_34 rfl rfl ?_
        refine v_imul (nI (12 * i)) o dX6_shot_35 (pk_mul 12 i) ?_
        refine v_iload_n 5 o dX6_shot_36 rfl rfl ?_
        refine v_iadd (nI (12 * i + j)) o dX6_shot_37 (nI_add (12 * i) j) ?_
        refine v_istore [(9, .int (nI (12 * i + j))), (8, .int (nI 1)), (7, .int (bI false)), (6, .int (bI true)), (0, .ref m), (1, .int (nI i)), (2, .int (nI j)), (3, .int x), (4, .long its)] o dX6_shot_38 (by decide) rfl ?_
        refine v_iload 3 o dX6_shot_40 rfl ?_
        refine v_if_eq_b 90 o dX6_shot_42 (by decide) (fun c42 => absurd c42 (by simp_all)) (fun c42 => ?_)
        refine v_iload_n 7 o dX6_shot_45 rfl rfl ?_
        refine v_aload_n 4 o dX6_shot_46 rfl rfl ?_
        refine v_get (v := .ref (m + 2)) o dX6_shot_47 cf6 3 (by decide) fl_X6_13 hR.o rfl ?_
        refine v_iload_n 5 o dX6_shot_50 rfl rfl ?_
        refine v_iald (σ.2.2.1 0 i) o dX6_shot_51 (by omega) (by decide) hR.a2 rfl ?_
        refine v_icmp_gt 90 o dX6_shot_52 (by decide) (fun c52 => ?_) (fun c52 => ?_)
        · refine v_iconst 0 o dX6_shot_90 rfl ?_
          refine v_istore [(10, .int (nI 0)), (9, .int (nI (12 * i + j))), (8, .int (nI 1)), (7, .int (bI false)), (6, .int (bI true)), (0, .ref m), (1, .int (nI i)), (2, .int (nI j)), (3, .int x), (4, .long its)] o dX6_shot_91 (by decide) rfl ?_
          refine v_aload_n 5 o dX6_shot_93 rfl rfl ?_
          refine v_iload 4 o dX6_shot_94 rfl ?_
          refine v_if_ne_b 103 o dX6_shot_96 (by decide) (fun c96 => ?_) (fun c96 => absurd c96 (by simp_all))
          refine v_iload 3 o dX6_shot_103 rfl ?_
          refine v_if_ne_b 112 o dX6_shot_105 (by decide) (fun c105 => absurd c105 (by simp_all)) (fun c105 => ?_)
          refine v_iconst 2 o dX6_shot_108 rfl ?_
          refine v_goto 122 o dX6_shot_109 (by decide) ?_
          refine v_callV [.int (nI 2)] [] o dX6_shot_122 cw_X6_109 im_X6_goesWell se_X6_goesWell cf6 hR.o (m_goesWell hl hR 2 (by first | decide | omega)) rfl rfl (by decide) (by decide) (Nat.le_of_ble_eq_true rfl) ?_ (fun _ _ _ _ h => h.elim)
          rintro _ μ3 _ _ ⟨rfl, hR3, rfl⟩
          refine v_st [.int (bI false)] rfl ?_
          refine v_if_ne_b 130 o dX6_shot_125 (by decide) (fun c125 => absurd c125 (by simp_all)) (fun c125 => ?_)
          refine v_iconst 0 o dX6_shot_128 rfl ?_
          have e9 : sp_shot σ (nI i) (nI j) x its = (nI 0, uN σ 3 1 2) := by simp [sp_shot, th, hP, hX, ti, tj, costI, Int32.not_lt.mpr c22, Int32.not_le.mpr c52]
          exact v_iret o dX6_shot_129 hr (Nat.le_of_ble_eq_true rfl) (Nat.le_of_ble_eq_true rfl) (by rw [e9]; exact ⟨rfl, hR3, rfl⟩)
        · refine v_aload_n 4 o dX6_shot_55 rfl rfl ?_
          refine v_get (v := .ref (m + 3)) o dX6_shot_56 cf6 4 (by decide) fl_X6_16 hR.o rfl ?_
          refine v_iload_n 5 o dX6_shot_59 rfl rfl ?_
          refine v_iald (σ.2.2.1 1 i) o dX6_shot_60 (by omega) (by decide) hR.a3 rfl ?_
          refine v_iload 1 o dX6_shot_61 rfl ?_
          refine v_icmp_lt 90 o dX6_shot_63 (by decide) (fun c63 => ?_) (fun c63 => ?_)
          · refine v_iconst 0 o dX6_shot_90 rfl ?_
            refine v_istore [(10, .int (nI 0)), (9, .int (nI (12 * i + j))), (8, .int (nI 1)), (7, .int (bI false)), (6, .int (bI true)), (0, .ref m), (1, .int (nI i)), (2, .int (nI j)), (3, .int x), (4, .long its)] o dX6_shot_91 (by decide) rfl ?_
            refine v_aload_n 5 o dX6_shot_93 rfl rfl ?_
            refine v_iload 4 o dX6_shot_94 rfl ?_
            refine v_if_ne_b 103 o dX6_shot_96 (by decide) (fun c96 => ?_) (fun c96 => absurd c96 (by simp_all))
            refine v_iload 3 o dX6_shot_103 rfl ?_
            refine v_if_ne_b 112 o dX6_shot_105 (by decide) (fun c105 => absurd c105 (by simp_all)) (fun c105 => ?_)
            refine v_iconst 2 o dX6_shot_108 rfl ?_
            refine v_goto 122 o dX6_shot_109 (by decide) ?_
            refine v_callV [.int (nI 2)] [] o dX6_shot_122 cw_X6_109 im_X6_goesWell se_X6_goesWell cf6 hR.o (m_goesWell hl hR 2 (by first | decide | omega)) rfl rfl (by decide) (by decide) (Nat.le_of_ble_eq_true rfl) ?_ (fun _ _ _ _ h => h.elim)
            rintro _ μ4 _ _ ⟨rfl, hR4, rfl⟩
            refine v_st [.int (bI false)] rfl ?_
            refine v_if_ne_b 130 o dX6_shot_125 (by decide) (fun c125 => absurd c125 (by simp_all)) (fun c125 => ?_)
            refine v_iconst 0 o dX6_shot_128 rfl ?_
            have e9 : sp_shot σ (nI i) (nI j) x its = (nI 0, uN σ 3 1 2) := by simp [sp_shot, th, hP, hX, ti, tj, costI, Int32.not_lt.mpr c22, Int32.not_lt.mp c52, Int32.not_le.mpr c63]
            exact v_iret o dX6_shot_129 hr (Nat.le_of_ble_eq_true rfl) (Nat.le_of_ble_eq_true rfl) (by rw [e9]; exact ⟨rfl, hR4, rfl⟩)
          · refine v_aload_n 4 o dX6_shot_66 rfl rfl ?_
            refine v_get (v := .ref (m + 9)) o dX6_shot_67 cf6 11 (by decide) fl_X6_35 hR.o rfl ?_
            refine v_iload 0 o dX6_shot_70 rfl ?_
            refine v_zald (bI (σ.2.1 2 (12 * i + j))) o dX6_shot_72 (by omega) (by decide) hR.a9 rfl ?_
            refine v_if_eq_b 86 o dX6_shot_73 (by decide) (fun c73 => ?_) (fun c73 => ?_)
            · refine v_iconst 1 o dX6_shot_86 rfl ?_
              refine v_goto 91 o dX6_shot_87 (by decide) ?_
              refine v_istore [(10, .int (nI 1)), (9, .int (nI (12 * i + j))), (8, .int (nI 1)), (7, .int (bI false)), (6, .int (bI true)), (0, .ref m), (1, .int (nI i)), (2, .int (nI j)), (3, .int x), (4, .long its)] o dX6_shot_91 (by decide) rfl ?_
              refine v_aload_n 5 o dX6_shot_93 rfl rfl ?_
              refine v_iload 4 o dX6_shot_94 rfl ?_
              refine v_if_ne_b 103 o dX6_shot_96 (by decide) (fun c96 => ?_) (fun c96 => absurd c96 (by simp_all))
              refine v_iload 3 o dX6_shot_103 rfl ?_
              refine v_if_ne_b 112 o dX6_shot_105 (by decide) (fun c105 => absurd c105 (by simp_all)) (fun c105 => ?_)
              refine v_iconst 2 o dX6_shot_108 rfl ?_
              refine v_goto 122 o dX6_shot_109 (by decide) ?_
              refine v_callV [.int (nI 2)] [] o dX6_shot_122 cw_X6_109 im_X6_goesWell se_X6_goesWell cf6 hR.o (m_goesWell hl hR 2 (by first | decide | omega)) rfl rfl (by decide) (by decide) (Nat.le_of_ble_eq_true rfl) ?_ (fun _ _ _ _ h => h.elim)
              rintro _ μ5 _ _ ⟨rfl, hR5, rfl⟩
              refine v_st [.int (bI false)] rfl ?_
              refine v_if_ne_b 130 o dX6_shot_125 (by decide) (fun c125 => absurd c125 (by simp_all)) (fun c125 => ?_)
              refine v_iconst 0 o dX6_shot_128 rfl ?_
              have e9 : sp_shot σ (nI i) (nI j) x its = (nI 0, uN σ 3 1 2) := by simp [sp_shot, th, hP, hX, ti, tj, costI, Int32.not_lt.mpr c22, Int32.not_lt.mp c52, Int32.not_lt.mp c63, c73]
              exact v_iret o dX6_shot_129 hr (Nat.le_of_ble_eq_true rfl) (Nat.le_of_ble_eq_true rfl) (by rw [e9]; exact ⟨rfl, hR5, rfl⟩)
            · refine v_aload_n 4 o dX6_shot_76 rfl rfl ?_
              refine v_get (v := .ref (m + 11)) o dX6_shot_77 cf6 13 (by decide) fl_X6_41 hR.o rfl ?_
              refine v_iload 0 o dX6_shot_80 rfl ?_
              refine v_zald (bI (σ.2.1 4 (12 * i + j))) o dX6_shot_82 (by omega) (by decide) hR.a11 rfl ?_
              refine v_if_eq_b 90 o dX6_shot_83 (by decide) (fun c83 => ?_) (fun c83 => ?_)
              · refine v_iconst 0 o dX6_shot_90 rfl ?_
                refine v_istore [(10, .int (nI 0)), (9, .int (nI (12 * i + j))), (8, .int (nI 1)), (7, .int (bI false)), (6, .int (bI true)), (0, .ref m), (1, .int (nI i)), (2, .int (nI j)), (3, .int x), (4, .long its)] o dX6_shot_91 (by decide) rfl ?_
                refine v_aload_n 5 o dX6_shot_93 rfl rfl ?_
                refine v_iload 4 o dX6_shot_94 rfl ?_
                refine v_if_ne_b 103 o dX6_shot_96 (by decide) (fun c96 => ?_) (fun c96 => absurd c96 (by simp_all))
                refine v_iload 3 o dX6_shot_103 rfl ?_
                refine v_if_ne_b 112 o dX6_shot_105 (by decide) (fun c105 => absurd c105 (by simp_all)) (fun c105 => ?_)
                refine v_iconst 2 o dX6_shot_108 rfl ?_
                refine v_goto 122 o dX6_shot_109 (by decide) ?_
                refine v_callV [.int (nI 2)] [] o dX6_shot_122 cw_X6_109 im_X6_goesWell se_X6_goesWell cf6 hR.o (m_goesWell hl hR 2 (by first | decide | omega)) rfl rfl (by decide) (by decide) (Nat.le_of_ble_eq_true rfl) ?_ (fun _ _ _ _ h => h.elim)
                rintro _ μ6 _ _ ⟨rfl, hR6, rfl⟩
                refine v_st [.int (bI false)] rfl ?_
                refine v_if_ne_b 130 o dX6_shot_125 (by decide) (fun c125 => absurd c125 (by simp_all)) (fun c125 => ?_)
                refine v_iconst 0 o dX6_shot_128 rfl ?_
                have e9 : sp_shot σ (nI i) (nI j) x its = (nI 0, uN σ 3 1 2) := by simp [sp_shot, th, hP, hX, ti, tj, costI, Int32.not_lt.mpr c22, Int32.not_lt.mp c52, Int32.not_lt.mp c63, c73, c83]
                exact v_iret o dX6_shot_129 hr (Nat.le_of_ble_eq_true rfl) (Nat.le_of_ble_eq_true rfl) (by rw [e9]; exact ⟨rfl, hR6, rfl⟩)
              · refine v_iconst 1 o dX6_shot_86 rfl ?_
                refine v_goto 91 o dX6_shot_87 (by decide) ?_
                refine v_istore [(10, .int (nI 1)), (9, .int (nI (12 * i + j))), (8, .int (nI 1)), (7, .int (bI false)), (6, .int (bI true)), (0, .ref m), (1, .int (nI i)), (2, .int (nI j)), (3, .int x), (4, .long its)] o dX6_shot_91 (by decide) rfl ?_
                refine v_aload_n 5 o dX6_shot_93 rfl rfl ?_
                refine v_iload 4 o dX6_shot_94 rfl ?_
                refine v_if_ne_b 103 o dX6_shot_96 (by decide) (fun c96 => ?_) (fun c96 => absurd c96 (by simp_all))
                refine v_iload 3 o dX6_shot_103 rfl ?_
                refine v_if_ne_b 112 o dX6_shot_105 (by decide) (fun c105 => absurd c105 (by simp_all)) (fun c105 => ?_)
                refine v_iconst 2 o dX6_shot_108 rfl ?_
                refine v_goto 122 o dX6_shot_109 (by decide) ?_
                refine v_callV [.int (nI 2)] [] o dX6_shot_122 cw_X6_109 im_X6_goesWell se_X6_goesWell cf6 hR.o (m_goesWell hl hR 2 (by first | decide | omega)) rfl rfl (by decide) (by decide) (Nat.le_of_ble_eq_true rfl) ?_ (fun _ _ _ _ h => h.elim)
                rintro _ μ7 _ _ ⟨rfl, hR7, rfl⟩
                refine v_st [.int (bI false)] rfl ?_
                refine v_if_ne_b 130 o dX6_shot_125 (by decide) (fun c125 => absurd c125 (by simp_all)) (fun c125 => ?_)
                refine v_iconst 0 o dX6_shot_128 rfl ?_
                have e9 : sp_shot σ (nI i) (nI j) x its = (nI 0, uN σ 3 1 2) := by simp [sp_shot, th, hP, hX, ti, tj, costI, Int32.not_lt.mpr c22, Int32.not_lt.mp c52, Int32.not_lt.mp c63, c73, c83]
                exact v_iret o dX6_shot_129 hr (Nat.le_of_ble_eq_true rfl) (Nat.le_of_ble_eq_true rfl) (by rw [e9]; exact ⟨rfl, hR7, rfl⟩)
      · refine v_iconst 2 o dX6_shot_25 rfl ?_
        refine v_goto 30 o dX6_shot_26 (by decide) ?_
        refine v_istore [(8, .int (nI 2)), (7, .int (bI false)), (6, .int (bI true)), (0, .ref m), (1, .int (nI i)), (2, .int (nI j)), (3, .int x), (4, .long its)] o dX6_shot_30 (by decide) rfl ?_
        refine v_bipush 12 o dX6_shot_32 (by decide) ?_
        refine v_iload_n 4 o dX6_shot_34 rfl rfl ?_
        refine v_imul (nI (12 * i)) o dX6_shot_35 (pk_mul 12 i) ?_
        refine v_iload_n 5 o dX6_shot_36 rfl rfl ?_
        refine v_iadd (nI (12 * i + j)) o dX6_shot_37 (nI_add (12 * i) j) ?_
        refine v_istore [(9, .int (nI (12 * i + j))), (8, .int (nI 2)), (7, .int (bI false)), (6, .int (bI true)), (0, .ref m), (1, .int (nI i)), (2, .int (nI j)), (3, .int x), (4, .long its)] o dX6_shot_38 (by decide) rfl ?_
        refine v_iload 3 o dX6_shot_40 rfl ?_
        refine v_if_eq_b 90 o dX6_shot_42 (by decide) (fun c42 => absurd c42 (by simp_all)) (fun c42 => ?_)
        refine v_iload_n 7 o dX6_shot_45 rfl rfl ?_
        refine v_aload_n 4 o dX6_shot_46 rfl rfl ?_
        refine v_get (v := .ref (m + 2)) o dX6_shot_47 cf6 3 (by decide) fl_X6_13 hR.o rfl ?_
        refine v_iload_n 5 o dX6_shot_50 rfl rfl ?_
        refine v_iald (σ.2.2.1 0 i) o dX6_shot_51 (by omega) (by decide) hR.a2 rfl ?_
        refine v_icmp_gt 90 o dX6_shot_52 (by decide) (fun c52 => ?_) (fun c52 => ?_)
        · refine v_iconst 0 o dX6_shot_90 rfl ?_
          refine v_istore [(10, .int (nI 0)), (9, .int (nI (12 * i + j))), (8, .int (nI 2)), (7, .int (bI false)), (6, .int (bI true)), (0, .ref m), (1, .int (nI i)), (2, .int (nI j)), (3, .int x), (4, .long its)] o dX6_shot_91 (by decide) rfl ?_
          refine v_aload_n 5 o dX6_shot_93 rfl rfl ?_
          refine v_iload 4 o dX6_shot_94 rfl ?_
          refine v_if_ne_b 103 o dX6_shot_96 (by decide) (fun c96 => ?_) (fun c96 => absurd c96 (by simp_all))
          refine v_iload 3 o dX6_shot_103 rfl ?_
          refine v_if_ne_b 112 o dX6_shot_105 (by decide) (fun c105 => absurd c105 (by simp_all)) (fun c105 => ?_)
          refine v_iconst 2 o dX6_shot_108 rfl ?_
          refine v_goto 122 o dX6_shot_109 (by decide) ?_
          refine v_callV [.int (nI 2)] [] o dX6_shot_122 cw_X6_109 im_X6_goesWell se_X6_goesWell cf6 hR.o (m_goesWell hl hR 2 (by first | decide | omega)) rfl rfl (by decide) (by decide) (Nat.le_of_ble_eq_true rfl) ?_ (fun _ _ _ _ h => h.elim)
          rintro _ μ8 _ _ ⟨rfl, hR8, rfl⟩
          refine v_st [.int (bI false)] rfl ?_
          refine v_if_ne_b 130 o dX6_shot_125 (by decide) (fun c125 => absurd c125 (by simp_all)) (fun c125 => ?_)
          refine v_iconst 0 o dX6_shot_128 rfl ?_
          have e9 : sp_shot σ (nI i) (nI j) x its = (nI 0, uN σ 3 1 2) := by simp [sp_shot, th, hP, hX, ti, tj, costI, Int32.not_le.mp c22, Int32.not_le.mpr c52]
          exact v_iret o dX6_shot_129 hr (Nat.le_of_ble_eq_true rfl) (Nat.le_of_ble_eq_true rfl) (by rw [e9]; exact ⟨rfl, hR8, rfl⟩)
        · refine v_aload_n 4 o dX6_shot_55 rfl rfl ?_
          refine v_get (v := .ref (m + 3)) o dX6_shot_56 cf6 4 (by decide) fl_X6_16 hR.o rfl ?_
          refine v_iload_n 5 o dX6_shot_59 rfl rfl ?_
          refine v_iald (σ.2.2.1 1 i) o dX6_shot_60 (by omega) (by decide) hR.a3 rfl ?_
          refine v_iload 1 o dX6_shot_61 rfl ?_
          refine v_icmp_lt 90 o dX6_shot_63 (by decide) (fun c63 => ?_) (fun c63 => ?_)
          · refine v_iconst 0 o dX6_shot_90 rfl ?_
            refine v_istore [(10, .int (nI 0)), (9, .int (nI (12 * i + j))), (8, .int (nI 2)), (7, .int (bI false)), (6, .int (bI true)), (0, .ref m), (1, .int (nI i)), (2, .int (nI j)), (3, .int x), (4, .long its)] o dX6_shot_91 (by decide) rfl ?_
            refine v_aload_n 5 o dX6_shot_93 rfl rfl ?_
            refine v_iload 4 o dX6_shot_94 rfl ?_
            refine v_if_ne_b 103 o dX6_shot_96 (by decide) (fun c96 => ?_) (fun c96 => absurd c96 (by simp_all))
            refine v_iload 3 o dX6_shot_103 rfl ?_
            refine v_if_ne_b 112 o dX6_shot_105 (by decide) (fun c105 => absurd c105 (by simp_all)) (fun c105 => ?_)
            refine v_iconst 2 o dX6_shot_108 rfl ?_
            refine v_goto 122 o dX6_shot_109 (by decide) ?_
            refine v_callV [.int (nI 2)] [] o dX6_shot_122 cw_X6_109 im_X6_goesWell se_X6_goesWell cf6 hR.o (m_goesWell hl hR 2 (by first | decide | omega)) rfl rfl (by decide) (by decide) (Nat.le_of_ble_eq_true rfl) ?_ (fun _ _ _ _ h => h.elim)
            rintro _ μ9 _ _ ⟨rfl, hR9, rfl⟩
            refine v_st [.int (bI false)] rfl ?_
            refine v_if_ne_b 130 o dX6_shot_125 (by decide) (fun c125 => absurd c125 (by simp_all)) (fun c125 => ?_)
            refine v_iconst 0 o dX6_shot_128 rfl ?_
            have e9 : sp_shot σ (nI i) (nI j) x its = (nI 0, uN σ 3 1 2) := by simp [sp_shot, th, hP, hX, ti, tj, costI, Int32.not_le.mp c22, Int32.not_lt.mp c52, Int32.not_le.mpr c63]
            exact v_iret o dX6_shot_129 hr (Nat.le_of_ble_eq_true rfl) (Nat.le_of_ble_eq_true rfl) (by rw [e9]; exact ⟨rfl, hR9, rfl⟩)
          · refine v_aload_n 4 o dX6_shot_66 rfl rfl ?_
            refine v_get (v := .ref (m + 9)) o dX6_shot_67 cf6 11 (by decide) fl_X6_35 hR.o rfl ?_
            refine v_iload 0 o dX6_shot_70 rfl ?_
            refine v_zald (bI (σ.2.1 2 (12 * i + j))) o dX6_shot_72 (by omega) (by decide) hR.a9 rfl ?_
            refine v_if_eq_b 86 o dX6_shot_73 (by decide) (fun c73 => ?_) (fun c73 => ?_)
            · refine v_iconst 1 o dX6_shot_86 rfl ?_
              refine v_goto 91 o dX6_shot_87 (by decide) ?_
              refine v_istore [(10, .int (nI 1)), (9, .int (nI (12 * i + j))), (8, .int (nI 2)), (7, .int (bI false)), (6, .int (bI true)), (0, .ref m), (1, .int (nI i)), (2, .int (nI j)), (3, .int x), (4, .long its)] o dX6_shot_91 (by decide) rfl ?_
              refine v_aload_n 5 o dX6_shot_93 rfl rfl ?_
              refine v_iload 4 o dX6_shot_94 rfl ?_
              refine v_if_ne_b 103 o dX6_shot_96 (by decide) (fun c96 => ?_) (fun c96 => absurd c96 (by simp_all))
              refine v_iload 3 o dX6_shot_103 rfl ?_
              refine v_if_ne_b 112 o dX6_shot_105 (by decide) (fun c105 => absurd c105 (by simp_all)) (fun c105 => ?_)
              refine v_iconst 2 o dX6_shot_108 rfl ?_
              refine v_goto 122 o dX6_shot_109 (by decide) ?_
              refine v_callV [.int (nI 2)] [] o dX6_shot_122 cw_X6_109 im_X6_goesWell se_X6_goesWell cf6 hR.o (m_goesWell hl hR 2 (by first | decide | omega)) rfl rfl (by decide) (by decide) (Nat.le_of_ble_eq_true rfl) ?_ (fun _ _ _ _ h => h.elim)
              rintro _ μ10 _ _ ⟨rfl, hR10, rfl⟩
              refine v_st [.int (bI false)] rfl ?_
              refine v_if_ne_b 130 o dX6_shot_125 (by decide) (fun c125 => absurd c125 (by simp_all)) (fun c125 => ?_)
              refine v_iconst 0 o dX6_shot_128 rfl ?_
              have e9 : sp_shot σ (nI i) (nI j) x its = (nI 0, uN σ 3 1 2) := by simp [sp_shot, th, hP, hX, ti, tj, costI, Int32.not_le.mp c22, Int32.not_lt.mp c52, Int32.not_lt.mp c63, c73]
              exact v_iret o dX6_shot_129 hr (Nat.le_of_ble_eq_true rfl) (Nat.le_of_ble_eq_true rfl) (by rw [e9]; exact ⟨rfl, hR10, rfl⟩)
            · refine v_aload_n 4 o dX6_shot_76 rfl rfl ?_
              refine v_get (v := .ref (m + 11)) o dX6_shot_77 cf6 13 (by decide) fl_X6_41 hR.o rfl ?_
              refine v_iload 0 o dX6_shot_80 rfl ?_
              refine v_zald (bI (σ.2.1 4 (12 * i + j))) o dX6_shot_82 (by omega) (by decide) hR.a11 rfl ?_
              refine v_if_eq_b 90 o dX6_shot_83 (by decide) (fun c83 => ?_) (fun c83 => ?_)
              · refine v_iconst 0 o dX6_shot_90 rfl ?_
                refine v_istore [(10, .int (nI 0)), (9, .int (nI (12 * i + j))), (8, .int (nI 2)), (7, .int (bI false)), (6, .int (bI true)), (0, .ref m), (1, .int (nI i)), (2, .int (nI j)), (3, .int x), (4, .long its)] o dX6_shot_91 (by decide) rfl ?_
                refine v_aload_n 5 o dX6_shot_93 rfl rfl ?_
                refine v_iload 4 o dX6_shot_94 rfl ?_
                refine v_if_ne_b 103 o dX6_shot_96 (by decide) (fun c96 => ?_) (fun c96 => absurd c96 (by simp_all))
                refine v_iload 3 o dX6_shot_103 rfl ?_
                refine v_if_ne_b 112 o dX6_shot_105 (by decide) (fun c105 => absurd c105 (by simp_all)) (fun c105 => ?_)
                refine v_iconst 2 o dX6_shot_108 rfl ?_
                refine v_goto 122 o dX6_shot_109 (by decide) ?_
                refine v_callV [.int (nI 2)] [] o dX6_shot_122 cw_X6_109 im_X6_goesWell se_X6_goesWell cf6 hR.o (m_goesWell hl hR 2 (by first | decide | omega)) rfl rfl (by decide) (by decide) (Nat.le_of_ble_eq_true rfl) ?_ (fun _ _ _ _ h => h.elim)
                rintro _ μ11 _ _ ⟨rfl, hR11, rfl⟩
                refine v_st [.int (bI false)] rfl ?_
                refine v_if_ne_b 130 o dX6_shot_125 (by decide) (fun c125 => absurd c125 (by simp_all)) (fun c125 => ?_)
                refine v_iconst 0 o dX6_shot_128 rfl ?_
                have e9 : sp_shot σ (nI i) (nI j) x its = (nI 0, uN σ 3 1 2) := by simp [sp_shot, th, hP, hX, ti, tj, costI, Int32.not_le.mp c22, Int32.not_lt.mp c52, Int32.not_lt.mp c63, c73, c83]
                exact v_iret o dX6_shot_129 hr (Nat.le_of_ble_eq_true rfl) (Nat.le_of_ble_eq_true rfl) (by rw [e9]; exact ⟨rfl, hR11, rfl⟩)
              · refine v_iconst 1 o dX6_shot_86 rfl ?_
                refine v_goto 91 o dX6_shot_87 (by decide) ?_
                refine v_istore [(10, .int (nI 1)), (9, .int (nI (12 * i + j))), (8, .int (nI 2)), (7, .int (bI false)), (6, .int (bI true)), (0, .ref m), (1, .int (nI i)), (2, .int (nI j)), (3, .int x), (4, .long its)] o dX6_shot_91 (by decide) rfl ?_
                refine v_aload_n 5 o dX6_shot_93 rfl rfl ?_
                refine v_iload 4 o dX6_shot_94 rfl ?_
                refine v_if_ne_b 103 o dX6_shot_96 (by decide) (fun c96 => ?_) (fun c96 => absurd c96 (by simp_all))
                refine v_iload 3 o dX6_shot_103 rfl ?_
                refine v_if_ne_b 112 o dX6_shot_105 (by decide) (fun c105 => absurd c105 (by simp_all)) (fun c105 => ?_)
                refine v_iconst 2 o dX6_shot_108 rfl ?_
                refine v_goto 122 o dX6_shot_109 (by decide) ?_
                refine v_callV [.int (nI 2)] [] o dX6_shot_122 cw_X6_109 im_X6_goesWell se_X6_goesWell cf6 hR.o (m_goesWell hl hR 2 (by first | decide | omega)) rfl rfl (by decide) (by decide) (Nat.le_of_ble_eq_true rfl) ?_ (fun _ _ _ _ h => h.elim)
                rintro _ μ12 _ _ ⟨rfl, hR12, rfl⟩
                refine v_st [.int (bI false)] rfl ?_
                refine v_if_ne_b 130 o dX6_shot_125 (by decide) (fun c125 => absurd c125 (by simp_all)) (fun c125 => ?_)
                refine v_iconst 0 o dX6_shot_128 rfl ?_
                have e9 : sp_shot σ (nI i) (nI j) x its = (nI 0, uN σ 3 1 2) := by simp [sp_shot, th, hP, hX, ti, tj, costI, Int32.not_le.mp c22, Int32.not_lt.mp c52, Int32.not_lt.mp c63, c73, c83]
                exact v_iret o dX6_shot_129 hr (Nat.le_of_ble_eq_true rfl) (Nat.le_of_ble_eq_true rfl) (by rw [e9]; exact ⟨rfl, hR12, rfl⟩)
  | true =>
    cases hP : isP σ b q with
    | false =>
      refine Ct.of hl (by decide +kernel) (Nat.le_of_ble_eq_true rfl) ?_
      intro p e s mi args below meth c o hnm hr hx
      have o : Ok p l s mi args meth c g cX6_shot 12 RX6 := o
      refine v_lv [(0, .ref m), (1, .int b), (2, .int q), (3, .int x), (4, .long its)] rfl ?_
      refine v_aload_n 0 o dX6_shot_0 rfl rfl ?_
      refine v_iload_n 1 o dX6_shot_1 rfl rfl ?_
      refine v_iload_n 2 o dX6_shot_2 rfl rfl ?_
      refine v_callVr (v := .int (bI (isP σ b q))) [.int b, .int q] [] o dX6_shot_3 cw_X6_105 im_X6_isPage se_X6_isPage cf6 hR.o (m_isPage hl hR hI b q) rfl rfl (by decide) ⟨rfl, rfl⟩ (by decide) (Nat.le_of_ble_eq_true rfl) ?_
      refine v_top (bI false) (by rw [hP]) ?_
      refine v_istore [(6, .int (bI false)), (0, .ref m), (1, .int b), (2, .int q), (3, .int x), (4, .long its)] o dX6_shot_6 (by decide) rfl ?_
      refine v_iload_n 4 o dX6_shot_8 rfl rfl ?_
      refine v_bipush 30 o dX6_shot_9 (by decide) ?_
      refine v_sipush 180 o dX6_shot_11 (by decide) ?_
      refine v_callSr (v := .int (bI (inR x (nI 30) (nI 180)))) [.int x, .int (nI 30), .int (nI 180)] [] o dX6_shot_14 cw_X6_97 st_X6_in (m_in hl hR x (nI 30) (nI 180)) rfl rfl (by decide) ⟨rfl, rfl⟩ (by decide) (Nat.le_of_ble_eq_true rfl) ?_
      refine v_top (bI true) (by rw [hX]) ?_
      refine v_istore [(7, .int (bI true)), (6, .int (bI false)), (0, .ref m), (1, .int b), (2, .int q), (3, .int x), (4, .long its)] o dX6_shot_17 (by decide) rfl ?_
      refine v_iload_n 5 o dX6_shot_19 rfl rfl ?_
      refine v_bipush 90 o dX6_shot_20 (by decide) ?_
      refine v_icmp_le 29 o dX6_shot_22 (by decide) (fun c22 => ?_) (fun c22 => ?_)
      · refine v_iconst 1 o dX6_shot_29 rfl ?_
        refine v_istore [(8, .int (nI 1)), (7, .int (bI true)), (6, .int (bI false)), (0, .ref m), (1, .int b), (2, .int q), (3, .int x), (4, .long its)] o dX6_shot_30 (by decide) rfl ?_
        refine v_bipush 12 o dX6_shot_32 (by decide) ?_
        refine v_iload_n 4 o dX6_shot_34 rfl rfl ?_
        refine v_imul ((nI 12) * b) o dX6_shot_35 rfl ?_
        refine v_iload_n 5 o dX6_shot_36 rfl rfl ?_
        refine v_iadd (((nI 12) * b) + q) o dX6_shot_37 rfl ?_
        refine v_istore [(9, .int (((nI 12) * b) + q)), (8, .int (nI 1)), (7, .int (bI true)), (6, .int (bI false)), (0, .ref m), (1, .int b), (2, .int q), (3, .int x), (4, .long its)] o dX6_shot_38 (by decide) rfl ?_
        refine v_iload 3 o dX6_shot_40 rfl ?_
        refine v_if_eq_b 90 o dX6_shot_42 (by decide) (fun c42 => ?_) (fun c42 => absurd c42 (by simp_all))
        refine v_iconst 0 o dX6_shot_90 rfl ?_
        refine v_istore [(10, .int (nI 0)), (9, .int (((nI 12) * b) + q)), (8, .int (nI 1)), (7, .int (bI true)), (6, .int (bI false)), (0, .ref m), (1, .int b), (2, .int q), (3, .int x), (4, .long its)] o dX6_shot_91 (by decide) rfl ?_
        refine v_aload_n 5 o dX6_shot_93 rfl rfl ?_
        refine v_iload 4 o dX6_shot_94 rfl ?_
        refine v_if_ne_b 103 o dX6_shot_96 (by decide) (fun c96 => absurd c96 (by simp_all)) (fun c96 => ?_)
        refine v_iconst 1 o dX6_shot_99 rfl ?_
        refine v_goto 122 o dX6_shot_100 (by decide) ?_
        refine v_callV [.int (nI 1)] [] o dX6_shot_122 cw_X6_109 im_X6_goesWell se_X6_goesWell cf6 hR.o (m_goesWell hl hR 1 (by first | decide | omega)) rfl rfl (by decide) (by decide) (Nat.le_of_ble_eq_true rfl) ?_ (fun _ _ _ _ h => h.elim)
        rintro _ μ13 _ _ ⟨rfl, hR13, rfl⟩
        refine v_st [.int (bI false)] rfl ?_
        refine v_if_ne_b 130 o dX6_shot_125 (by decide) (fun c125 => absurd c125 (by simp_all)) (fun c125 => ?_)
        refine v_iconst 0 o dX6_shot_128 rfl ?_
        have e9 : sp_shot σ b q x its = (nI 0, uN σ 3 1 1) := by simp [sp_shot, th, hP, hX, c22]
        exact v_iret o dX6_shot_129 hr (Nat.le_of_ble_eq_true rfl) (Nat.le_of_ble_eq_true rfl) (by rw [e9]; exact ⟨rfl, hR13, rfl⟩)
      · refine v_iconst 2 o dX6_shot_25 rfl ?_
        refine v_goto 30 o dX6_shot_26 (by decide) ?_
        refine v_istore [(8, .int (nI 2)), (7, .int (bI true)), (6, .int (bI false)), (0, .ref m), (1, .int b), (2, .int q), (3, .int x), (4, .long its)] o dX6_shot_30 (by decide) rfl ?_
        refine v_bipush 12 o dX6_shot_32 (by decide) ?_
        refine v_iload_n 4 o dX6_shot_34 rfl rfl ?_
        refine v_imul ((nI 12) * b) o dX6_shot_35 rfl ?_
        refine v_iload_n 5 o dX6_shot_36 rfl rfl ?_
        refine v_iadd (((nI 12) * b) + q) o dX6_shot_37 rfl ?_
        refine v_istore [(9, .int (((nI 12) * b) + q)), (8, .int (nI 2)), (7, .int (bI true)), (6, .int (bI false)), (0, .ref m), (1, .int b), (2, .int q), (3, .int x), (4, .long its)] o dX6_shot_38 (by decide) rfl ?_
        refine v_iload 3 o dX6_shot_40 rfl ?_
        refine v_if_eq_b 90 o dX6_shot_42 (by decide) (fun c42 => ?_) (fun c42 => absurd c42 (by simp_all))
        refine v_iconst 0 o dX6_shot_90 rfl ?_
        refine v_istore [(10, .int (nI 0)), (9, .int (((nI 12) * b) + q)), (8, .int (nI 2)), (7, .int (bI true)), (6, .int (bI false)), (0, .ref m), (1, .int b), (2, .int q), (3, .int x), (4, .long its)] o dX6_shot_91 (by decide) rfl ?_
        refine v_aload_n 5 o dX6_shot_93 rfl rfl ?_
        refine v_iload 4 o dX6_shot_94 rfl ?_
        refine v_if_ne_b 103 o dX6_shot_96 (by decide) (fun c96 => absurd c96 (by simp_all)) (fun c96 => ?_)
        refine v_iconst 1 o dX6_shot_99 rfl ?_
        refine v_goto 122 o dX6_shot_100 (by decide) ?_
        refine v_callV [.int (nI 1)] [] o dX6_shot_122 cw_X6_109 im_X6_goesWell se_X6_goesWell cf6 hR.o (m_goesWell hl hR 1 (by first | decide | omega)) rfl rfl (by decide) (by decide) (Nat.le_of_ble_eq_true rfl) ?_ (fun _ _ _ _ h => h.elim)
        rintro _ μ14 _ _ ⟨rfl, hR14, rfl⟩
        refine v_st [.int (bI false)] rfl ?_
        refine v_if_ne_b 130 o dX6_shot_125 (by decide) (fun c125 => absurd c125 (by simp_all)) (fun c125 => ?_)
        refine v_iconst 0 o dX6_shot_128 rfl ?_
        have e9 : sp_shot σ b q x its = (nI 0, uN σ 3 1 1) := by simp [sp_shot, th, hP, hX, c22]
        exact v_iret o dX6_shot_129 hr (Nat.le_of_ble_eq_true rfl) (Nat.le_of_ble_eq_true rfl) (by rw [e9]; exact ⟨rfl, hR14, rfl⟩)
    | true =>
      obtain ⟨i, j, hi, hj, rfl, rfl⟩ := isP_t hI hP
      have h6 := hI.1
      have h12 := hI.2.1 i
      have ti : tn (nI i) = i := tn_nI (by omega)
      have tj : tn (nI j) = j := tn_nI (by omega)
      refine Ct.of hl (by decide +kernel) (Nat.le_of_ble_eq_true rfl) ?_
      intro p e s mi args below meth c o hnm hr hx
      have o : Ok p l s mi args meth c g cX6_shot 12 RX6 := o
      refine v_lv [(0, .ref m), (1, .int (nI i)), (2, .int (nI j)), (3, .int x), (4, .long its)] rfl ?_
      have L : ∀ (S0 : Sg), sp_shot σ (nI i) (nI j) x its = (S0.2.2.1 1 i, puts S0 (12 * i + j) its 4) → ∀ (d k : Nat) (μq : mM), k + d = 4 → RM g m μ0 (puts S0 (12 * i + j) its k) μq → V p l e { frames := 3, cells := 0, slots := 0, locals := 65 } s mi args below meth c (vx_MQ below (cQc g (wrM g m μ0 (some (.int (sp_shot σ (nI i) (nI j) x its).1)) (sp_shot σ (nI i) (nI j) x its).2 z)) (cXC g noX) args s ({ frames := 3, cells := 0, slots := 0, locals := 65 } : Room).cells ({ frames := 3, cells := 0, slots := 0, locals := 65 } : Room).slots (gA g)) g μq z 0 0 209 [(0, .ref m), (1, .int (nI i)), (4, .long its), (9, .int (nI (12 * i + j))), (11, .int (nI k))] [] := by
        intro S0 E0 d
        induction d with
        | zero =>
          intro k μq hk hRq
          refine v_iload 4 o dX6_shot_209 rfl ?_
          refine v_iconst 4 o dX6_shot_211 rfl ?_
          refine v_icmp_ge_n 260 o dX6_shot_212 (by decide) (by omega) (by decide) (fun c212 => ?_) (fun c212 => absurd c212 (by omega))
          refine v_aload_n 0 o dX6_shot_260 rfl rfl ?_
          refine v_get (v := .ref (m + 3)) o dX6_shot_261 cf6 4 (by decide) fl_X6_16 hRq.o rfl ?_
          refine v_iload_n 1 o dX6_shot_264 rfl rfl ?_
          refine v_iald ((puts S0 (12 * i + j) its k).2.2.1 1 i) o dX6_shot_265 (by omega) (by decide) hRq.a3 rfl ?_
          exact v_iret o dX6_shot_266 hr (Nat.le_of_ble_eq_true rfl) (Nat.le_of_ble_eq_true rfl) (by rw [E0, show 4 = k by omega, ← puts_I S0 (12 * i + j) its k]; exact ⟨rfl, hRq, rfl⟩)
        | succ d ih =>
          intro k μq hk hRq
          refine v_iload 4 o dX6_shot_209 rfl ?_
          refine v_iconst 4 o dX6_shot_211 rfl ?_
          refine v_icmp_ge_n 260 o dX6_shot_212 (by decide) (by omega) (by decide) (fun c212 => absurd c212 (by omega)) (fun c212 => ?_)
          refine v_aload_n 0 o dX6_shot_215 rfl rfl ?_
          refine v_get (v := .ref (m + 17)) o dX6_shot_216 cf6 19 (by decide) fl_X6_60 hRq.o rfl ?_
          refine v_iload 4 o dX6_shot_219 rfl ?_
          refine v_zald (bI ((puts S0 (12 * i + j) its k).2.1 6 k)) o dX6_shot_221 (by omega) (by decide) hRq.a17 rfl ?_
          refine v_if_ne_b 254 o dX6_shot_222 (by decide) (fun c222 => ?_) (fun c222 => ?_)
          · refine v_iinc (nI (k + 1)) [(11, .int (nI (k + 1))), (0, .ref m), (1, .int (nI i)), (4, .long its), (9, .int (nI (12 * i + j)))] o dX6_shot_254 4 rfl (iinc_n k 1) (by decide) rfl ?_
            refine v_goto 209 o dX6_shot_257 (by decide) ?_
            refine v_sub [(0, .ref m), (1, .int (nI i)), (4, .long its), (9, .int (nI (12 * i + j))), (11, .int (nI (k + 1)))] [1, 2, 3, 4, 0] rfl ?_
            exact ih (k + 1) _ (by omega) (by rw [show puts S0 (12 * i + j) its (k + 1) = puts S0 (12 * i + j) its k from by show putv _ _ _ _ = _; unfold putv; rw [if_pos c222]]; exact hRq)
          · refine v_aload_n 0 o dX6_shot_225 rfl rfl ?_
            refine v_get (v := .ref (m + 15)) o dX6_shot_226 cf6 17 (by decide) fl_X6_54 hRq.o rfl ?_
            refine v_bipush 72 o dX6_shot_229 (by decide) ?_
            refine v_iload 4 o dX6_shot_231 rfl ?_
            refine v_imul (nI (72 * k)) o dX6_shot_233 (pk_mul 72 k) ?_
            refine v_iload 3 o dX6_shot_234 rfl ?_
            refine v_iadd (nI (72 * k + (12 * i + j))) o dX6_shot_236 (nI_add (72 * k) (12 * i + j)) ?_
            refine v_iconst 1 o dX6_shot_237 rfl ?_
            refine v_top (bI true) rfl ?_
            refine v_zast o dX6_shot_238 (by omega) (by decide) (nar_bI _) hRq.a15 (fun μ15 e15 => ?_)
            have hR15 := hRq.p15 (i0 := 72 * k + (12 * i + j)) (v := true) e15
            refine v_aload_n 0 o dX6_shot_239 rfl rfl ?_
            refine v_get (v := .ref (m + 16)) o dX6_shot_240 cf6 18 (by decide) fl_X6_57 hR15.o rfl ?_
            refine v_bipush 72 o dX6_shot_243 (by decide) ?_
            refine v_iload 4 o dX6_shot_245 rfl ?_
            refine v_imul (nI (72 * k)) o dX6_shot_247 (pk_mul 72 k) ?_
            refine v_iload 3 o dX6_shot_248 rfl ?_
            refine v_iadd (nI (72 * k + (12 * i + j))) o dX6_shot_250 (nI_add (72 * k) (12 * i + j)) ?_
            refine v_lload 2 o dX6_shot_251 rfl ?_
            refine v_last o dX6_shot_253 (by omega) (by decide) hR15.a16 (fun μ16 e16 => ?_)
            have hR16 := hR15.p16 (i0 := 72 * k + (12 * i + j)) (v := its) e16
            refine v_iinc (nI (k + 1)) [(11, .int (nI (k + 1))), (0, .ref m), (1, .int (nI i)), (4, .long its), (9, .int (nI (12 * i + j)))] o dX6_shot_254 4 rfl (iinc_n k 1) (by decide) rfl ?_
            refine v_goto 209 o dX6_shot_257 (by decide) ?_
            refine v_sub [(0, .ref m), (1, .int (nI i)), (4, .long its), (9, .int (nI (12 * i + j))), (11, .int (nI (k + 1)))] [1, 2, 3, 4, 0] rfl ?_
            exact ih (k + 1) _ (by omega) (by rw [show puts S0 (12 * i + j) its (k + 1) = uL (uB (puts S0 (12 * i + j) its k) 5 (72 * k + (12 * i + j)) true) 1 (72 * k + (12 * i + j)) its from by show putv _ _ _ _ = _; unfold putv; rw [if_neg (by rw [c222]; decide)]]; exact hR16)
      refine v_aload_n 0 o dX6_shot_0 rfl rfl ?_
      refine v_iload_n 1 o dX6_shot_1 rfl rfl ?_
      refine v_iload_n 2 o dX6_shot_2 rfl rfl ?_
      refine v_callVr (v := .int (bI (isP σ (nI i) (nI j)))) [.int (nI i), .int (nI j)] [] o dX6_shot_3 cw_X6_105 im_X6_isPage se_X6_isPage cf6 hR.o (m_isPage hl hR hI (nI i) (nI j)) rfl rfl (by decide) ⟨rfl, rfl⟩ (by decide) (Nat.le_of_ble_eq_true rfl) ?_
      refine v_top (bI true) (by rw [hP]) ?_
      refine v_istore [(6, .int (bI true)), (0, .ref m), (1, .int (nI i)), (2, .int (nI j)), (3, .int x), (4, .long its)] o dX6_shot_6 (by decide) rfl ?_
      refine v_iload_n 4 o dX6_shot_8 rfl rfl ?_
      refine v_bipush 30 o dX6_shot_9 (by decide) ?_
      refine v_sipush 180 o dX6_shot_11 (by decide) ?_
      refine v_callSr (v := .int (bI (inR x (nI 30) (nI 180)))) [.int x, .int (nI 30), .int (nI 180)] [] o dX6_shot_14 cw_X6_97 st_X6_in (m_in hl hR x (nI 30) (nI 180)) rfl rfl (by decide) ⟨rfl, rfl⟩ (by decide) (Nat.le_of_ble_eq_true rfl) ?_
      refine v_top (bI true) (by rw [hX]) ?_
      refine v_istore [(7, .int (bI true)), (6, .int (bI true)), (0, .ref m), (1, .int (nI i)), (2, .int (nI j)), (3, .int x), (4, .long its)] o dX6_shot_17 (by decide) rfl ?_
      refine v_iload_n 5 o dX6_shot_19 rfl rfl ?_
      refine v_bipush 90 o dX6_shot_20 (by decide) ?_
      refine v_icmp_le 29 o dX6_shot_22 (by decide) (fun c22 => ?_) (fun c22 => ?_)
      · refine v_iconst 1 o dX6_shot_29 rfl ?_
        refine v_istore [(8, .int (nI 1)), (7, .int (bI true)), (6, .int (bI true)), (0, .ref m), (1, .int (nI i)), (2, .int (nI j)), (3, .int x), (4, .long its)] o dX6_shot_30 (by decide) rfl ?_
        refine v_bipush 12 o dX6_shot_32 (by decide) ?_
        refine v_iload_n 4 o dX6_shot_34 rfl rfl ?_
        refine v_imul (nI (12 * i)) o dX6_shot_35 (pk_mul 12 i) ?_
        refine v_iload_n 5 o dX6_shot_36 rfl rfl ?_
        refine v_iadd (nI (12 * i + j)) o dX6_shot_37 (nI_add (12 * i) j) ?_
        refine v_istore [(9, .int (nI (12 * i + j))), (8, .int (nI 1)), (7, .int (bI true)), (6, .int (bI true)), (0, .ref m), (1, .int (nI i)), (2, .int (nI j)), (3, .int x), (4, .long its)] o dX6_shot_38 (by decide) rfl ?_
        refine v_iload 3 o dX6_shot_40 rfl ?_
        refine v_if_eq_b 90 o dX6_shot_42 (by decide) (fun c42 => absurd c42 (by simp_all)) (fun c42 => ?_)
        refine v_iload_n 7 o dX6_shot_45 rfl rfl ?_
        refine v_aload_n 4 o dX6_shot_46 rfl rfl ?_
        refine v_get (v := .ref (m + 2)) o dX6_shot_47 cf6 3 (by decide) fl_X6_13 hR.o rfl ?_
        refine v_iload_n 5 o dX6_shot_50 rfl rfl ?_
        refine v_iald (σ.2.2.1 0 i) o dX6_shot_51 (by omega) (by decide) hR.a2 rfl ?_
        refine v_icmp_gt 90 o dX6_shot_52 (by decide) (fun c52 => ?_) (fun c52 => ?_)
        · refine v_iconst 0 o dX6_shot_90 rfl ?_
          refine v_istore [(10, .int (nI 0)), (9, .int (nI (12 * i + j))), (8, .int (nI 1)), (7, .int (bI true)), (6, .int (bI true)), (0, .ref m), (1, .int (nI i)), (2, .int (nI j)), (3, .int x), (4, .long its)] o dX6_shot_91 (by decide) rfl ?_
          refine v_aload_n 5 o dX6_shot_93 rfl rfl ?_
          refine v_iload 4 o dX6_shot_94 rfl ?_
          refine v_if_ne_b 103 o dX6_shot_96 (by decide) (fun c96 => ?_) (fun c96 => absurd c96 (by simp_all))
          refine v_iload 3 o dX6_shot_103 rfl ?_
          refine v_if_ne_b 112 o dX6_shot_105 (by decide) (fun c105 => ?_) (fun c105 => absurd c105 (by simp_all))
          refine v_iload 0 o dX6_shot_112 rfl ?_
          refine v_if_eq_n 121 o dX6_shot_114 (by decide) (by decide) (fun c114 => ?_) (fun c114 => absurd c114 (by omega))
          refine v_iconst 3 o dX6_shot_121 rfl ?_
          refine v_callV [.int (nI 3)] [] o dX6_shot_122 cw_X6_109 im_X6_goesWell se_X6_goesWell cf6 hR.o (m_goesWell hl hR 3 (by first | decide | omega)) rfl rfl (by decide) (by decide) (Nat.le_of_ble_eq_true rfl) ?_ (fun _ _ _ _ h => h.elim)
          rintro _ μ17 _ _ ⟨rfl, hR17, rfl⟩
          refine v_st [.int (bI false)] rfl ?_
          refine v_if_ne_b 130 o dX6_shot_125 (by decide) (fun c125 => absurd c125 (by simp_all)) (fun c125 => ?_)
          refine v_iconst 0 o dX6_shot_128 rfl ?_
          have e9 : sp_shot σ (nI i) (nI j) x its = (nI 0, uN σ 3 1 3) := by simp [sp_shot, th, hP, hX, ti, tj, costI, Int32.not_lt.mpr c22, Int32.not_le.mpr c52]
          exact v_iret o dX6_shot_129 hr (Nat.le_of_ble_eq_true rfl) (Nat.le_of_ble_eq_true rfl) (by rw [e9]; exact ⟨rfl, hR17, rfl⟩)
        · refine v_aload_n 4 o dX6_shot_55 rfl rfl ?_
          refine v_get (v := .ref (m + 3)) o dX6_shot_56 cf6 4 (by decide) fl_X6_16 hR.o rfl ?_
          refine v_iload_n 5 o dX6_shot_59 rfl rfl ?_
          refine v_iald (σ.2.2.1 1 i) o dX6_shot_60 (by omega) (by decide) hR.a3 rfl ?_
          refine v_iload 1 o dX6_shot_61 rfl ?_
          refine v_icmp_lt 90 o dX6_shot_63 (by decide) (fun c63 => ?_) (fun c63 => ?_)
          · refine v_iconst 0 o dX6_shot_90 rfl ?_
            refine v_istore [(10, .int (nI 0)), (9, .int (nI (12 * i + j))), (8, .int (nI 1)), (7, .int (bI true)), (6, .int (bI true)), (0, .ref m), (1, .int (nI i)), (2, .int (nI j)), (3, .int x), (4, .long its)] o dX6_shot_91 (by decide) rfl ?_
            refine v_aload_n 5 o dX6_shot_93 rfl rfl ?_
            refine v_iload 4 o dX6_shot_94 rfl ?_
            refine v_if_ne_b 103 o dX6_shot_96 (by decide) (fun c96 => ?_) (fun c96 => absurd c96 (by simp_all))
            refine v_iload 3 o dX6_shot_103 rfl ?_
            refine v_if_ne_b 112 o dX6_shot_105 (by decide) (fun c105 => ?_) (fun c105 => absurd c105 (by simp_all))
            refine v_iload 0 o dX6_shot_112 rfl ?_
            refine v_if_eq_n 121 o dX6_shot_114 (by decide) (by decide) (fun c114 => ?_) (fun c114 => absurd c114 (by omega))
            refine v_iconst 3 o dX6_shot_121 rfl ?_
            refine v_callV [.int (nI 3)] [] o dX6_shot_122 cw_X6_109 im_X6_goesWell se_X6_goesWell cf6 hR.o (m_goesWell hl hR 3 (by first | decide | omega)) rfl rfl (by decide) (by decide) (Nat.le_of_ble_eq_true rfl) ?_ (fun _ _ _ _ h => h.elim)
            rintro _ μ18 _ _ ⟨rfl, hR18, rfl⟩
            refine v_st [.int (bI false)] rfl ?_
            refine v_if_ne_b 130 o dX6_shot_125 (by decide) (fun c125 => absurd c125 (by simp_all)) (fun c125 => ?_)
            refine v_iconst 0 o dX6_shot_128 rfl ?_
            have e9 : sp_shot σ (nI i) (nI j) x its = (nI 0, uN σ 3 1 3) := by simp [sp_shot, th, hP, hX, ti, tj, costI, Int32.not_lt.mpr c22, Int32.not_lt.mp c52, Int32.not_le.mpr c63]
            exact v_iret o dX6_shot_129 hr (Nat.le_of_ble_eq_true rfl) (Nat.le_of_ble_eq_true rfl) (by rw [e9]; exact ⟨rfl, hR18, rfl⟩)
          · refine v_aload_n 4 o dX6_shot_66 rfl rfl ?_
            refine v_get (v := .ref (m + 9)) o dX6_shot_67 cf6 11 (by decide) fl_X6_35 hR.o rfl ?_
            refine v_iload 0 o dX6_shot_70 rfl ?_
            refine v_zald (bI (σ.2.1 2 (12 * i + j))) o dX6_shot_72 (by omega) (by decide) hR.a9 rfl ?_
            refine v_if_eq_b 86 o dX6_shot_73 (by decide) (fun c73 => ?_) (fun c73 => ?_)
            · refine v_iconst 1 o dX6_shot_86 rfl ?_
              refine v_goto 91 o dX6_shot_87 (by decide) ?_
              refine v_istore [(10, .int (nI 1)), (9, .int (nI (12 * i + j))), (8, .int (nI 1)), (7, .int (bI true)), (6, .int (bI true)), (0, .ref m), (1, .int (nI i)), (2, .int (nI j)), (3, .int x), (4, .long its)] o dX6_shot_91 (by decide) rfl ?_
              refine v_aload_n 5 o dX6_shot_93 rfl rfl ?_
              refine v_iload 4 o dX6_shot_94 rfl ?_
              refine v_if_ne_b 103 o dX6_shot_96 (by decide) (fun c96 => ?_) (fun c96 => absurd c96 (by simp_all))
              refine v_iload 3 o dX6_shot_103 rfl ?_
              refine v_if_ne_b 112 o dX6_shot_105 (by decide) (fun c105 => ?_) (fun c105 => absurd c105 (by simp_all))
              refine v_iload 0 o dX6_shot_112 rfl ?_
              refine v_if_eq_n 121 o dX6_shot_114 (by decide) (by decide) (fun c114 => absurd c114 (by omega)) (fun c114 => ?_)
              refine v_iconst 0 o dX6_shot_117 rfl ?_
              refine v_goto 122 o dX6_shot_118 (by decide) ?_
              refine v_callV [.int (nI 0)] [] o dX6_shot_122 cw_X6_109 im_X6_goesWell se_X6_goesWell cf6 hR.o (m_goesWell hl hR 0 (by first | decide | omega)) rfl rfl (by decide) (by decide) (Nat.le_of_ble_eq_true rfl) ?_ (fun _ _ _ _ h => h.elim)
              rintro _ μ19 _ _ ⟨rfl, hR19, rfl⟩
              refine v_st [.int (bI true)] rfl ?_
              refine v_if_ne_b 130 o dX6_shot_125 (by decide) (fun c125 => ?_) (fun c125 => absurd c125 (by simp_all))
              refine v_aload_n 5 o dX6_shot_130 rfl rfl ?_
              refine v_get (v := .ref (m + 3)) o dX6_shot_131 cf6 4 (by decide) fl_X6_16 hR19.o rfl ?_
              refine v_iload_n 6 o dX6_shot_134 rfl rfl ?_
              refine v_dup2 o dX6_shot_135 rfl rfl ?_
              refine v_iald (σ.2.2.1 1 i) o dX6_shot_136 (by omega) (by decide) hR19.a3 rfl ?_
              refine v_iload 2 o dX6_shot_137 rfl ?_
              refine v_isub ((σ.2.2.1 1 i) - (nI 1)) o dX6_shot_139 rfl ?_
              refine v_iast o dX6_shot_140 (by omega) (by decide) hR19.a3 (fun μ20 e20 => ?_)
              have hR20 := hR19.p3 (i0 := i) (v := (σ.2.2.1 1 i) - (nI 1)) e20
              refine v_aload_n 5 o dX6_shot_141 rfl rfl ?_
              refine v_get (v := .ref (m + 6)) o dX6_shot_142 cf6 7 (by decide) fl_X6_25 hR20.o rfl ?_
              refine v_iload_n 6 o dX6_shot_145 rfl rfl ?_
              refine v_dup2 o dX6_shot_146 rfl rfl ?_
              refine v_iald (σ.2.2.1 4 i) o dX6_shot_147 (by omega) (by decide) hR20.a6 rfl ?_
              refine v_iconst 1 o dX6_shot_148 rfl ?_
              refine v_iadd ((σ.2.2.1 4 i) + (nI 1)) o dX6_shot_149 rfl ?_
              refine v_iast o dX6_shot_150 (by omega) (by decide) hR20.a6 (fun μ21 e21 => ?_)
              have hR21 := hR20.p6 (i0 := i) (v := (σ.2.2.1 4 i) + (nI 1)) e21
              refine v_aload_n 5 o dX6_shot_151 rfl rfl ?_
              refine v_get (v := .ref (m + 9)) o dX6_shot_152 cf6 11 (by decide) fl_X6_35 hR21.o rfl ?_
              refine v_iload 1 o dX6_shot_155 rfl ?_
              refine v_iconst 1 o dX6_shot_157 rfl ?_
              refine v_top (bI true) rfl ?_
              refine v_zast o dX6_shot_158 (by omega) (by decide) (nar_bI _) hR21.a9 (fun μ22 e22 => ?_)
              have hR22 := hR21.p9 (i0 := 12 * i + j) (v := true) e22
              refine v_aload_n 5 o dX6_shot_159 rfl rfl ?_
              refine v_get (v := .ref (m + 11)) o dX6_shot_160 cf6 13 (by decide) fl_X6_41 hR22.o rfl ?_
              refine v_iload 1 o dX6_shot_163 rfl ?_
              refine v_iconst 0 o dX6_shot_165 rfl ?_
              refine v_top (bI false) rfl ?_
              refine v_zast o dX6_shot_166 (by omega) (by decide) (nar_bI _) hR22.a11 (fun μ23 e23 => ?_)
              have hR23 := hR22.p11 (i0 := 12 * i + j) (v := false) e23
              refine v_aload_n 5 o dX6_shot_167 rfl rfl ?_
              refine v_get (v := .ref (m + 10)) o dX6_shot_168 cf6 12 (by decide) fl_X6_38 hR23.o rfl ?_
              refine v_iload 1 o dX6_shot_171 rfl ?_
              refine v_aload_n 5 o dX6_shot_173 rfl rfl ?_
              refine v_get (v := .int (σ.2.2.1 8 0)) o dX6_shot_174 cf6 10 (by decide) fl_X6_116 hR23.o rfl ?_
              refine v_iconst 5 o dX6_shot_177 rfl ?_
              refine v_icmp_le 185 o dX6_shot_178 (by decide) (fun c178 => ?_) (fun c178 => ?_)
              · refine v_iconst 0 o dX6_shot_185 rfl ?_
                refine v_top (bI false) rfl ?_
                refine v_zast o dX6_shot_186 (by omega) (by decide) (nar_bI _) hR23.a10 (fun μ24 e24 => ?_)
                have hR24 := hR23.p10 (i0 := 12 * i + j) (v := false) e24
                refine v_aload_n 5 o dX6_shot_187 rfl rfl ?_
                refine v_get (v := .ref (m + 12)) o dX6_shot_188 cf6 14 (by decide) fl_X6_44 hR24.o rfl ?_
                refine v_iload 1 o dX6_shot_191 rfl ?_
                refine v_lload 9 o dX6_shot_193 rfl ?_
                refine v_last o dX6_shot_195 (by omega) (by decide) hR24.a12 (fun μ25 e25 => ?_)
                have hR25 := hR24.p12 (i0 := 12 * i + j) (v := its) e25
                refine v_aload_n 5 o dX6_shot_196 rfl rfl ?_
                refine v_dup o dX6_shot_197 rfl ?_
                refine v_get (v := .int (σ.2.2.1 8 0)) o dX6_shot_198 cf6 10 (by decide) fl_X6_116 hR25.o rfl ?_
                refine v_iconst 1 o dX6_shot_201 rfl ?_
                refine v_iadd ((σ.2.2.1 8 0) + (nI 1)) o dX6_shot_202 rfl ?_
                refine v_put _ o dX6_shot_203 cf6 10 (by decide) (by decide) fl_X6_116 hR25.o rfl rfl (Nat.le_of_ble_eq_true rfl) rfl (fun μ26 e26 => ?_)
                have hR26 := hR25.s_drift (v := (σ.2.2.1 8 0) + (nI 1)) e26
                refine v_iconst 0 o dX6_shot_206 rfl ?_
                refine v_istore [(11, .int (nI 0)), (10, .int (nI 1)), (9, .int (nI (12 * i + j))), (8, .int (nI 1)), (7, .int (bI true)), (6, .int (bI true)), (0, .ref m), (1, .int (nI i)), (2, .int (nI j)), (3, .int x), (4, .long its)] o dX6_shot_207 (by decide) rfl ?_
                have E0 : sp_shot σ (nI i) (nI j) x its = ((uI (uL (uB (uB (uB (uI (uI (uN σ 3 1 0) 1 i ((σ.2.2.1 1 i) - (nI 1))) 4 i ((σ.2.2.1 4 i) + (nI 1))) 2 (12 * i + j) true) 4 (12 * i + j) false) 3 (12 * i + j) false) 0 (12 * i + j) its) 8 0 ((σ.2.2.1 8 0) + (nI 1))).2.2.1 1 i, puts (uI (uL (uB (uB (uB (uI (uI (uN σ 3 1 0) 1 i ((σ.2.2.1 1 i) - (nI 1))) 4 i ((σ.2.2.1 4 i) + (nI 1))) 2 (12 * i + j) true) 4 (12 * i + j) false) 3 (12 * i + j) false) 0 (12 * i + j) its) 8 0 ((σ.2.2.1 8 0) + (nI 1))) (12 * i + j) its 4) := by
                  have e8 : (uI (uL (uB (uB (uB (uI (uI (uN σ 3 1 0) 1 i ((σ.2.2.1 1 i) - (nI 1))) 4 i ((σ.2.2.1 4 i) + (nI 1))) 2 (12 * i + j) true) 4 (12 * i + j) false) 3 (12 * i + j) false) 0 (12 * i + j) its) 8 0 ((σ.2.2.1 8 0) + (nI 1))).2.2.1 1 i = σ.2.2.1 1 i - (nI 1) := by simp [uI, uN, uB, uL, u2]
                  rw [e8]
                  simp [sp_shot, th, hP, hX, ti, tj, costI, Int32.not_lt.mpr c22, Int32.not_lt.mp c52, Int32.not_lt.mp c63, c73, Int32.not_lt.mpr c178]
                refine v_sub [(0, .ref m), (1, .int (nI i)), (4, .long its), (9, .int (nI (12 * i + j))), (11, .int (nI 0))] [6, 7, 10, 2, 0] rfl ?_
                exact L _ E0 4 0 _ (by omega) hR26
              · refine v_iconst 1 o dX6_shot_181 rfl ?_
                refine v_goto 186 o dX6_shot_182 (by decide) ?_
                refine v_top (bI true) rfl ?_
                refine v_zast o dX6_shot_186 (by omega) (by decide) (nar_bI _) hR23.a10 (fun μ27 e27 => ?_)
                have hR27 := hR23.p10 (i0 := 12 * i + j) (v := true) e27
                refine v_aload_n 5 o dX6_shot_187 rfl rfl ?_
                refine v_get (v := .ref (m + 12)) o dX6_shot_188 cf6 14 (by decide) fl_X6_44 hR27.o rfl ?_
                refine v_iload 1 o dX6_shot_191 rfl ?_
                refine v_lload 9 o dX6_shot_193 rfl ?_
                refine v_last o dX6_shot_195 (by omega) (by decide) hR27.a12 (fun μ28 e28 => ?_)
                have hR28 := hR27.p12 (i0 := 12 * i + j) (v := its) e28
                refine v_aload_n 5 o dX6_shot_196 rfl rfl ?_
                refine v_dup o dX6_shot_197 rfl ?_
                refine v_get (v := .int (σ.2.2.1 8 0)) o dX6_shot_198 cf6 10 (by decide) fl_X6_116 hR28.o rfl ?_
                refine v_iconst 1 o dX6_shot_201 rfl ?_
                refine v_iadd ((σ.2.2.1 8 0) + (nI 1)) o dX6_shot_202 rfl ?_
                refine v_put _ o dX6_shot_203 cf6 10 (by decide) (by decide) fl_X6_116 hR28.o rfl rfl (Nat.le_of_ble_eq_true rfl) rfl (fun μ29 e29 => ?_)
                have hR29 := hR28.s_drift (v := (σ.2.2.1 8 0) + (nI 1)) e29
                refine v_iconst 0 o dX6_shot_206 rfl ?_
                refine v_istore [(11, .int (nI 0)), (10, .int (nI 1)), (9, .int (nI (12 * i + j))), (8, .int (nI 1)), (7, .int (bI true)), (6, .int (bI true)), (0, .ref m), (1, .int (nI i)), (2, .int (nI j)), (3, .int x), (4, .long its)] o dX6_shot_207 (by decide) rfl ?_
                have E0 : sp_shot σ (nI i) (nI j) x its = ((uI (uL (uB (uB (uB (uI (uI (uN σ 3 1 0) 1 i ((σ.2.2.1 1 i) - (nI 1))) 4 i ((σ.2.2.1 4 i) + (nI 1))) 2 (12 * i + j) true) 4 (12 * i + j) false) 3 (12 * i + j) true) 0 (12 * i + j) its) 8 0 ((σ.2.2.1 8 0) + (nI 1))).2.2.1 1 i, puts (uI (uL (uB (uB (uB (uI (uI (uN σ 3 1 0) 1 i ((σ.2.2.1 1 i) - (nI 1))) 4 i ((σ.2.2.1 4 i) + (nI 1))) 2 (12 * i + j) true) 4 (12 * i + j) false) 3 (12 * i + j) true) 0 (12 * i + j) its) 8 0 ((σ.2.2.1 8 0) + (nI 1))) (12 * i + j) its 4) := by
                  have e8 : (uI (uL (uB (uB (uB (uI (uI (uN σ 3 1 0) 1 i ((σ.2.2.1 1 i) - (nI 1))) 4 i ((σ.2.2.1 4 i) + (nI 1))) 2 (12 * i + j) true) 4 (12 * i + j) false) 3 (12 * i + j) true) 0 (12 * i + j) its) 8 0 ((σ.2.2.1 8 0) + (nI 1))).2.2.1 1 i = σ.2.2.1 1 i - (nI 1) := by simp [uI, uN, uB, uL, u2]
                  rw [e8]
                  simp [sp_shot, th, hP, hX, ti, tj, costI, Int32.not_lt.mpr c22, Int32.not_lt.mp c52, Int32.not_lt.mp c63, c73, Int32.not_le.mp c178]
                refine v_sub [(0, .ref m), (1, .int (nI i)), (4, .long its), (9, .int (nI (12 * i + j))), (11, .int (nI 0))] [6, 7, 10, 2, 0] rfl ?_
                exact L _ E0 4 0 _ (by omega) hR29
            · refine v_aload_n 4 o dX6_shot_76 rfl rfl ?_
              refine v_get (v := .ref (m + 11)) o dX6_shot_77 cf6 13 (by decide) fl_X6_41 hR.o rfl ?_
              refine v_iload 0 o dX6_shot_80 rfl ?_
              refine v_zald (bI (σ.2.1 4 (12 * i + j))) o dX6_shot_82 (by omega) (by decide) hR.a11 rfl ?_
              refine v_if_eq_b 90 o dX6_shot_83 (by decide) (fun c83 => ?_) (fun c83 => ?_)
              · refine v_iconst 0 o dX6_shot_90 rfl ?_
                refine v_istore [(10, .int (nI 0)), (9, .int (nI (12 * i + j))), (8, .int (nI 1)), (7, .int (bI true)), (6, .int (bI true)), (0, .ref m), (1, .int (nI i)), (2, .int (nI j)), (3, .int x), (4, .long its)] o dX6_shot_91 (by decide) rfl ?_
                refine v_aload_n 5 o dX6_shot_93 rfl rfl ?_
                refine v_iload 4 o dX6_shot_94 rfl ?_
                refine v_if_ne_b 103 o dX6_shot_96 (by decide) (fun c96 => ?_) (fun c96 => absurd c96 (by simp_all))
                refine v_iload 3 o dX6_shot_103 rfl ?_
                refine v_if_ne_b 112 o dX6_shot_105 (by decide) (fun c105 => ?_) (fun c105 => absurd c105 (by simp_all))
                refine v_iload 0 o dX6_shot_112 rfl ?_
                refine v_if_eq_n 121 o dX6_shot_114 (by decide) (by decide) (fun c114 => ?_) (fun c114 => absurd c114 (by omega))
                refine v_iconst 3 o dX6_shot_121 rfl ?_
                refine v_callV [.int (nI 3)] [] o dX6_shot_122 cw_X6_109 im_X6_goesWell se_X6_goesWell cf6 hR.o (m_goesWell hl hR 3 (by first | decide | omega)) rfl rfl (by decide) (by decide) (Nat.le_of_ble_eq_true rfl) ?_ (fun _ _ _ _ h => h.elim)
                rintro _ μ30 _ _ ⟨rfl, hR30, rfl⟩
                refine v_st [.int (bI false)] rfl ?_
                refine v_if_ne_b 130 o dX6_shot_125 (by decide) (fun c125 => absurd c125 (by simp_all)) (fun c125 => ?_)
                refine v_iconst 0 o dX6_shot_128 rfl ?_
                have e9 : sp_shot σ (nI i) (nI j) x its = (nI 0, uN σ 3 1 3) := by simp [sp_shot, th, hP, hX, ti, tj, costI, Int32.not_lt.mpr c22, Int32.not_lt.mp c52, Int32.not_lt.mp c63, c73, c83]
                exact v_iret o dX6_shot_129 hr (Nat.le_of_ble_eq_true rfl) (Nat.le_of_ble_eq_true rfl) (by rw [e9]; exact ⟨rfl, hR30, rfl⟩)
              · refine v_iconst 1 o dX6_shot_86 rfl ?_
                refine v_goto 91 o dX6_shot_87 (by decide) ?_
                refine v_istore [(10, .int (nI 1)), (9, .int (nI (12 * i + j))), (8, .int (nI 1)), (7, .int (bI true)), (6, .int (bI true)), (0, .ref m), (1, .int (nI i)), (2, .int (nI j)), (3, .int x), (4, .long its)] o dX6_shot_91 (by decide) rfl ?_
                refine v_aload_n 5 o dX6_shot_93 rfl rfl ?_
                refine v_iload 4 o dX6_shot_94 rfl ?_
                refine v_if_ne_b 103 o dX6_shot_96 (by decide) (fun c96 => ?_) (fun c96 => absurd c96 (by simp_all))
                refine v_iload 3 o dX6_shot_103 rfl ?_
                refine v_if_ne_b 112 o dX6_shot_105 (by decide) (fun c105 => ?_) (fun c105 => absurd c105 (by simp_all))
                refine v_iload 0 o dX6_shot_112 rfl ?_
                refine v_if_eq_n 121 o dX6_shot_114 (by decide) (by decide) (fun c114 => absurd c114 (by omega)) (fun c114 => ?_)
                refine v_iconst 0 o dX6_shot_117 rfl ?_
                refine v_goto 122 o dX6_shot_118 (by decide) ?_
                refine v_callV [.int (nI 0)] [] o dX6_shot_122 cw_X6_109 im_X6_goesWell se_X6_goesWell cf6 hR.o (m_goesWell hl hR 0 (by first | decide | omega)) rfl rfl (by decide) (by decide) (Nat.le_of_ble_eq_true rfl) ?_ (fun _ _ _ _ h => h.elim)
                rintro _ μ31 _ _ ⟨rfl, hR31, rfl⟩
                refine v_st [.int (bI true)] rfl ?_
                refine v_if_ne_b 130 o dX6_shot_125 (by decide) (fun c125 => ?_) (fun c125 => absurd c125 (by simp_all))
                refine v_aload_n 5 o dX6_shot_130 rfl rfl ?_
                refine v_get (v := .ref (m + 3)) o dX6_shot_131 cf6 4 (by decide) fl_X6_16 hR31.o rfl ?_
                refine v_iload_n 6 o dX6_shot_134 rfl rfl ?_
                refine v_dup2 o dX6_shot_135 rfl rfl ?_
                refine v_iald (σ.2.2.1 1 i) o dX6_shot_136 (by omega) (by decide) hR31.a3 rfl ?_
                refine v_iload 2 o dX6_shot_137 rfl ?_
                refine v_isub ((σ.2.2.1 1 i) - (nI 1)) o dX6_shot_139 rfl ?_
                refine v_iast o dX6_shot_140 (by omega) (by decide) hR31.a3 (fun μ32 e32 => ?_)
                have hR32 := hR31.p3 (i0 := i) (v := (σ.2.2.1 1 i) - (nI 1)) e32
                refine v_aload_n 5 o dX6_shot_141 rfl rfl ?_
                refine v_get (v := .ref (m + 6)) o dX6_shot_142 cf6 7 (by decide) fl_X6_25 hR32.o rfl ?_
                refine v_iload_n 6 o dX6_shot_145 rfl rfl ?_
                refine v_dup2 o dX6_shot_146 rfl rfl ?_
                refine v_iald (σ.2.2.1 4 i) o dX6_shot_147 (by omega) (by decide) hR32.a6 rfl ?_
                refine v_iconst 1 o dX6_shot_148 rfl ?_
                refine v_iadd ((σ.2.2.1 4 i) + (nI 1)) o dX6_shot_149 rfl ?_
                refine v_iast o dX6_shot_150 (by omega) (by decide) hR32.a6 (fun μ33 e33 => ?_)
                have hR33 := hR32.p6 (i0 := i) (v := (σ.2.2.1 4 i) + (nI 1)) e33
                refine v_aload_n 5 o dX6_shot_151 rfl rfl ?_
                refine v_get (v := .ref (m + 9)) o dX6_shot_152 cf6 11 (by decide) fl_X6_35 hR33.o rfl ?_
                refine v_iload 1 o dX6_shot_155 rfl ?_
                refine v_iconst 1 o dX6_shot_157 rfl ?_
                refine v_top (bI true) rfl ?_
                refine v_zast o dX6_shot_158 (by omega) (by decide) (nar_bI _) hR33.a9 (fun μ34 e34 => ?_)
                have hR34 := hR33.p9 (i0 := 12 * i + j) (v := true) e34
                refine v_aload_n 5 o dX6_shot_159 rfl rfl ?_
                refine v_get (v := .ref (m + 11)) o dX6_shot_160 cf6 13 (by decide) fl_X6_41 hR34.o rfl ?_
                refine v_iload 1 o dX6_shot_163 rfl ?_
                refine v_iconst 0 o dX6_shot_165 rfl ?_
                refine v_top (bI false) rfl ?_
                refine v_zast o dX6_shot_166 (by omega) (by decide) (nar_bI _) hR34.a11 (fun μ35 e35 => ?_)
                have hR35 := hR34.p11 (i0 := 12 * i + j) (v := false) e35
                refine v_aload_n 5 o dX6_shot_167 rfl rfl ?_
                refine v_get (v := .ref (m + 10)) o dX6_shot_168 cf6 12 (by decide) fl_X6_38 hR35.o rfl ?_
                refine v_iload 1 o dX6_shot_171 rfl ?_
                refine v_aload_n 5 o dX6_shot_173 rfl rfl ?_
                refine v_get (v := .int (σ.2.2.1 8 0)) o dX6_shot_174 cf6 10 (by decide) fl_X6_116 hR35.o rfl ?_
                refine v_iconst 5 o dX6_shot_177 rfl ?_
                refine v_icmp_le 185 o dX6_shot_178 (by decide) (fun c178 => ?_) (fun c178 => ?_)
                · refine v_iconst 0 o dX6_shot_185 rfl ?_
                  refine v_top (bI false) rfl ?_
                  refine v_zast o dX6_shot_186 (by omega) (by decide) (nar_bI _) hR35.a10 (fun μ36 e36 => ?_)
                  have hR36 := hR35.p10 (i0 := 12 * i + j) (v := false) e36
                  refine v_aload_n 5 o dX6_shot_187 rfl rfl ?_
                  refine v_get (v := .ref (m + 12)) o dX6_shot_188 cf6 14 (by decide) fl_X6_44 hR36.o rfl ?_
                  refine v_iload 1 o dX6_shot_191 rfl ?_
                  refine v_lload 9 o dX6_shot_193 rfl ?_
                  refine v_last o dX6_shot_195 (by omega) (by decide) hR36.a12 (fun μ37 e37 => ?_)
                  have hR37 := hR36.p12 (i0 := 12 * i + j) (v := its) e37
                  refine v_aload_n 5 o dX6_shot_196 rfl rfl ?_
                  refine v_dup o dX6_shot_197 rfl ?_
                  refine v_get (v := .int (σ.2.2.1 8 0)) o dX6_shot_198 cf6 10 (by decide) fl_X6_116 hR37.o rfl ?_
                  refine v_iconst 1 o dX6_shot_201 rfl ?_
                  refine v_iadd ((σ.2.2.1 8 0) + (nI 1)) o dX6_shot_202 rfl ?_
                  refine v_put _ o dX6_shot_203 cf6 10 (by decide) (by decide) fl_X6_116 hR37.o rfl rfl (Nat.le_of_ble_eq_true rfl) rfl (fun μ38 e38 => ?_)
                  have hR38 := hR37.s_drift (v := (σ.2.2.1 8 0) + (nI 1)) e38
                  refine v_iconst 0 o dX6_shot_206 rfl ?_
                  refine v_istore [(11, .int (nI 0)), (10, .int (nI 1)), (9, .int (nI (12 * i + j))), (8, .int (nI 1)), (7, .int (bI true)), (6, .int (bI true)), (0, .ref m), (1, .int (nI i)), (2, .int (nI j)), (3, .int x), (4, .long its)] o dX6_shot_207 (by decide) rfl ?_
                  have E0 : sp_shot σ (nI i) (nI j) x its = ((uI (uL (uB (uB (uB (uI (uI (uN σ 3 1 0) 1 i ((σ.2.2.1 1 i) - (nI 1))) 4 i ((σ.2.2.1 4 i) + (nI 1))) 2 (12 * i + j) true) 4 (12 * i + j) false) 3 (12 * i + j) false) 0 (12 * i + j) its) 8 0 ((σ.2.2.1 8 0) + (nI 1))).2.2.1 1 i, puts (uI (uL (uB (uB (uB (uI (uI (uN σ 3 1 0) 1 i ((σ.2.2.1 1 i) - (nI 1))) 4 i ((σ.2.2.1 4 i) + (nI 1))) 2 (12 * i + j) true) 4 (12 * i + j) false) 3 (12 * i + j) false) 0 (12 * i + j) its) 8 0 ((σ.2.2.1 8 0) + (nI 1))) (12 * i + j) its 4) := by
                    have e8 : (uI (uL (uB (uB (uB (uI (uI (uN σ 3 1 0) 1 i ((σ.2.2.1 1 i) - (nI 1))) 4 i ((σ.2.2.1 4 i) + (nI 1))) 2 (12 * i + j) true) 4 (12 * i + j) false) 3 (12 * i + j) false) 0 (12 * i + j) its) 8 0 ((σ.2.2.1 8 0) + (nI 1))).2.2.1 1 i = σ.2.2.1 1 i - (nI 1) := by simp [uI, uN, uB, uL, u2]
                    rw [e8]
                    simp [sp_shot, th, hP, hX, ti, tj, costI, Int32.not_lt.mpr c22, Int32.not_lt.mp c52, Int32.not_lt.mp c63, c73, c83, Int32.not_lt.mpr c178]
                  refine v_sub [(0, .ref m), (1, .int (nI i)), (4, .long its), (9, .int (nI (12 * i + j))), (11, .int (nI 0))] [6, 7, 10, 2, 0] rfl ?_
                  exact L _ E0 4 0 _ (by omega) hR38
                · refine v_iconst 1 o dX6_shot_181 rfl ?_
                  refine v_goto 186 o dX6_shot_182 (by decide) ?_
                  refine v_top (bI true) rfl ?_
                  refine v_zast o dX6_shot_186 (by omega) (by decide) (nar_bI _) hR35.a10 (fun μ39 e39 => ?_)
                  have hR39 := hR35.p10 (i0 := 12 * i + j) (v := true) e39
                  refine v_aload_n 5 o dX6_shot_187 rfl rfl ?_
                  refine v_get (v := .ref (m + 12)) o dX6_shot_188 cf6 14 (by decide) fl_X6_44 hR39.o rfl ?_
                  refine v_iload 1 o dX6_shot_191 rfl ?_
                  refine v_lload 9 o dX6_shot_193 rfl ?_
                  refine v_last o dX6_shot_195 (by omega) (by decide) hR39.a12 (fun μ40 e40 => ?_)
                  have hR40 := hR39.p12 (i0 := 12 * i + j) (v := its) e40
                  refine v_aload_n 5 o dX6_shot_196 rfl rfl ?_
                  refine v_dup o dX6_shot_197 rfl ?_
                  refine v_get (v := .int (σ.2.2.1 8 0)) o dX6_shot_198 cf6 10 (by decide) fl_X6_116 hR40.o rfl ?_
                  refine v_iconst 1 o dX6_shot_201 rfl ?_
                  refine v_iadd ((σ.2.2.1 8 0) + (nI 1)) o dX6_shot_202 rfl ?_
                  refine v_put _ o dX6_shot_203 cf6 10 (by decide) (by decide) fl_X6_116 hR40.o rfl rfl (Nat.le_of_ble_eq_true rfl) rfl (fun μ41 e41 => ?_)
                  have hR41 := hR40.s_drift (v := (σ.2.2.1 8 0) + (nI 1)) e41
                  refine v_iconst 0 o dX6_shot_206 rfl ?_
                  refine v_istore [(11, .int (nI 0)), (10, .int (nI 1)), (9, .int (nI (12 * i + j))), (8, .int (nI 1)), (7, .int (bI true)), (6, .int (bI true)), (0, .ref m), (1, .int (nI i)), (2, .int (nI j)), (3, .int x), (4, .long its)] o dX6_shot_207 (by decide) rfl ?_
                  have E0 : sp_shot σ (nI i) (nI j) x its = ((uI (uL (uB (uB (uB (uI (uI (uN σ 3 1 0) 1 i ((σ.2.2.1 1 i) - (nI 1))) 4 i ((σ.2.2.1 4 i) + (nI 1))) 2 (12 * i + j) true) 4 (12 * i + j) false) 3 (12 * i + j) true) 0 (12 * i + j) its) 8 0 ((σ.2.2.1 8 0) + (nI 1))).2.2.1 1 i, puts (uI (uL (uB (uB (uB (uI (uI (uN σ 3 1 0) 1 i ((σ.2.2.1 1 i) - (nI 1))) 4 i ((σ.2.2.1 4 i) + (nI 1))) 2 (12 * i + j) true) 4 (12 * i + j) false) 3 (12 * i + j) true) 0 (12 * i + j) its) 8 0 ((σ.2.2.1 8 0) + (nI 1))) (12 * i + j) its 4) := by
                    have e8 : (uI (uL (uB (uB (uB (uI (uI (uN σ 3 1 0) 1 i ((σ.2.2.1 1 i) - (nI 1))) 4 i ((σ.2.2.1 4 i) + (nI 1))) 2 (12 * i + j) true) 4 (12 * i + j) false) 3 (12 * i + j) true) 0 (12 * i + j) its) 8 0 ((σ.2.2.1 8 0) + (nI 1))).2.2.1 1 i = σ.2.2.1 1 i - (nI 1) := by simp [uI, uN, uB, uL, u2]
                    rw [e8]
                    simp [sp_shot, th, hP, hX, ti, tj, costI, Int32.not_lt.mpr c22, Int32.not_lt.mp c52, Int32.not_lt.mp c63, c73, c83, Int32.not_le.mp c178]
                  refine v_sub [(0, .ref m), (1, .int (nI i)), (4, .long its), (9, .int (nI (12 * i + j))), (11, .int (nI 0))] [6, 7, 10, 2, 0] rfl ?_
                  exact L _ E0 4 0 _ (by omega) hR41
      · refine v_iconst 2 o dX6_shot_25 rfl ?_
        refine v_goto 30 o dX6_shot_26 (by decide) ?_
        refine v_istore [(8, .int (nI 2)), (7, .int (bI true)), (6, .int (bI true)), (0, .ref m), (1, .int (nI i)), (2, .int (nI j)), (3, .int x), (4, .long its)] o dX6_shot_30 (by decide) rfl ?_
        refine v_bipush 12 o dX6_shot_32 (by decide) ?_
        refine v_iload_n 4 o dX6_shot_34 rfl rfl ?_
        refine v_imul (nI (12 * i)) o dX6_shot_35 (pk_mul 12 i) ?_
        refine v_iload_n 5 o dX6_shot_36 rfl rfl ?_
        refine v_iadd (nI (12 * i + j)) o dX6_shot_37 (nI_add (12 * i) j) ?_
        refine v_istore [(9, .int (nI (12 * i + j))), (8, .int (nI 2)), (7, .int (bI true)), (6, .int (bI true)), (0, .ref m), (1, .int (nI i)), (2, .int (nI j)), (3, .int x), (4, .long its)] o dX6_shot_38 (by decide) rfl ?_
        refine v_iload 3 o dX6_shot_40 rfl ?_
        refine v_if_eq_b 90 o dX6_shot_42 (by decide) (fun c42 => absurd c42 (by simp_all)) (fun c42 => ?_)
        refine v_iload_n 7 o dX6_shot_45 rfl rfl ?_
        refine v_aload_n 4 o dX6_shot_46 rfl rfl ?_
        refine v_get (v := .ref (m + 2)) o dX6_shot_47 cf6 3 (by decide) fl_X6_13 hR.o rfl ?_
        refine v_iload_n 5 o dX6_shot_50 rfl rfl ?_
        refine v_iald (σ.2.2.1 0 i) o dX6_shot_51 (by omega) (by decide) hR.a2 rfl ?_
        refine v_icmp_gt 90 o dX6_shot_52 (by decide) (fun c52 => ?_) (fun c52 => ?_)
        · refine v_iconst 0 o dX6_shot_90 rfl ?_
          refine v_istore [(10, .int (nI 0)), (9, .int (nI (12 * i + j))), (8, .int (nI 2)), (7, .int (bI true)), (6, .int (bI true)), (0, .ref m), (1, .int (nI i)), (2, .int (nI j)), (3, .int x), (4, .long its)] o dX6_shot_91 (by decide) rfl ?_
          refine v_aload_n 5 o dX6_shot_93 rfl rfl ?_
          refine v_iload 4 o dX6_shot_94 rfl ?_
          refine v_if_ne_b 103 o dX6_shot_96 (by decide) (fun c96 => ?_) (fun c96 => absurd c96 (by simp_all))
          refine v_iload 3 o dX6_shot_103 rfl ?_
          refine v_if_ne_b 112 o dX6_shot_105 (by decide) (fun c105 => ?_) (fun c105 => absurd c105 (by simp_all))
          refine v_iload 0 o dX6_shot_112 rfl ?_
          refine v_if_eq_n 121 o dX6_shot_114 (by decide) (by decide) (fun c114 => ?_) (fun c114 => absurd c114 (by omega))
          refine v_iconst 3 o dX6_shot_121 rfl ?_
          refine v_callV [.int (nI 3)] [] o dX6_shot_122 cw_X6_109 im_X6_goesWell se_X6_goesWell cf6 hR.o (m_goesWell hl hR 3 (by first | decide | omega)) rfl rfl (by decide) (by decide) (Nat.le_of_ble_eq_true rfl) ?_ (fun _ _ _ _ h => h.elim)
          rintro _ μ42 _ _ ⟨rfl, hR42, rfl⟩
          refine v_st [.int (bI false)] rfl ?_
          refine v_if_ne_b 130 o dX6_shot_125 (by decide) (fun c125 => absurd c125 (by simp_all)) (fun c125 => ?_)
          refine v_iconst 0 o dX6_shot_128 rfl ?_
          have e9 : sp_shot σ (nI i) (nI j) x its = (nI 0, uN σ 3 1 3) := by simp [sp_shot, th, hP, hX, ti, tj, costI, Int32.not_le.mp c22, Int32.not_le.mpr c52]
          exact v_iret o dX6_shot_129 hr (Nat.le_of_ble_eq_true rfl) (Nat.le_of_ble_eq_true rfl) (by rw [e9]; exact ⟨rfl, hR42, rfl⟩)
        · refine v_aload_n 4 o dX6_shot_55 rfl rfl ?_
          refine v_get (v := .ref (m + 3)) o dX6_shot_56 cf6 4 (by decide) fl_X6_16 hR.o rfl ?_
          refine v_iload_n 5 o dX6_shot_59 rfl rfl ?_
          refine v_iald (σ.2.2.1 1 i) o dX6_shot_60 (by omega) (by decide) hR.a3 rfl ?_
          refine v_iload 1 o dX6_shot_61 rfl ?_
          refine v_icmp_lt 90 o dX6_shot_63 (by decide) (fun c63 => ?_) (fun c63 => ?_)
          · refine v_iconst 0 o dX6_shot_90 rfl ?_
            refine v_istore [(10, .int (nI 0)), (9, .int (nI (12 * i + j))), (8, .int (nI 2)), (7, .int (bI true)), (6, .int (bI true)), (0, .ref m), (1, .int (nI i)), (2, .int (nI j)), (3, .int x), (4, .long its)] o dX6_shot_91 (by decide) rfl ?_
            refine v_aload_n 5 o dX6_shot_93 rfl rfl ?_
            refine v_iload 4 o dX6_shot_94 rfl ?_
            refine v_if_ne_b 103 o dX6_shot_96 (by decide) (fun c96 => ?_) (fun c96 => absurd c96 (by simp_all))
            refine v_iload 3 o dX6_shot_103 rfl ?_
            refine v_if_ne_b 112 o dX6_shot_105 (by decide) (fun c105 => ?_) (fun c105 => absurd c105 (by simp_all))
            refine v_iload 0 o dX6_shot_112 rfl ?_
            refine v_if_eq_n 121 o dX6_shot_114 (by decide) (by decide) (fun c114 => ?_) (fun c114 => absurd c114 (by omega))
            refine v_iconst 3 o dX6_shot_121 rfl ?_
            refine v_callV [.int (nI 3)] [] o dX6_shot_122 cw_X6_109 im_X6_goesWell se_X6_goesWell cf6 hR.o (m_goesWell hl hR 3 (by first | decide | omega)) rfl rfl (by decide) (by decide) (Nat.le_of_ble_eq_true rfl) ?_ (fun _ _ _ _ h => h.elim)
            rintro _ μ43 _ _ ⟨rfl, hR43, rfl⟩
            refine v_st [.int (bI false)] rfl ?_
            refine v_if_ne_b 130 o dX6_shot_125 (by decide) (fun c125 => absurd c125 (by simp_all)) (fun c125 => ?_)
            refine v_iconst 0 o dX6_shot_128 rfl ?_
            have e9 : sp_shot σ (nI i) (nI j) x its = (nI 0, uN σ 3 1 3) := by simp [sp_shot, th, hP, hX, ti, tj, costI, Int32.not_le.mp c22, Int32.not_lt.mp c52, Int32.not_le.mpr c63]
            exact v_iret o dX6_shot_129 hr (Nat.le_of_ble_eq_true rfl) (Nat.le_of_ble_eq_true rfl) (by rw [e9]; exact ⟨rfl, hR43, rfl⟩)
          · refine v_aload_n 4 o dX6_shot_66 rfl rfl ?_
            refine v_get (v := .ref (m + 9)) o dX6_shot_67 cf6 11 (by decide) fl_X6_35 hR.o rfl ?_
            refine v_iload 0 o dX6_shot_70 rfl ?_
            refine v_zald (bI (σ.2.1 2 (12 * i + j))) o dX6_shot_72 (by omega) (by decide) hR.a9 rfl ?_
            refine v_if_eq_b 86 o dX6_shot_73 (by decide) (fun c73 => ?_) (fun c73 => ?_)
            · refine v_iconst 1 o dX6_shot_86 rfl ?_
              refine v_goto 91 o dX6_shot_87 (by decide) ?_
              refine v_istore [(10, .int (nI 1)), (9, .int (nI (12 * i + j))), (8, .int (nI 2)), (7, .int (bI true)), (6, .int (bI true)), (0, .ref m), (1, .int (nI i)), (2, .int (nI j)), (3, .int x), (4, .long its)] o dX6_shot_91 (by decide) rfl ?_
              refine v_aload_n 5 o dX6_shot_93 rfl rfl ?_
              refine v_iload 4 o dX6_shot_94 rfl ?_
              refine v_if_ne_b 103 o dX6_shot_96 (by decide) (fun c96 => ?_) (fun c96 => absurd c96 (by simp_all))
              refine v_iload 3 o dX6_shot_103 rfl ?_
              refine v_if_ne_b 112 o dX6_shot_105 (by decide) (fun c105 => ?_) (fun c105 => absurd c105 (by simp_all))
              refine v_iload 0 o dX6_shot_112 rfl ?_
              refine v_if_eq_n 121 o dX6_shot_114 (by decide) (by decide) (fun c114 => absurd c114 (by omega)) (fun c114 => ?_)
              refine v_iconst 0 o dX6_shot_117 rfl ?_
              refine v_goto 122 o dX6_shot_118 (by decide) ?_
              refine v_callV [.int (nI 0)] [] o dX6_shot_122 cw_X6_109 im_X6_goesWell se_X6_goesWell cf6 hR.o (m_goesWell hl hR 0 (by first | decide | omega)) rfl rfl (by decide) (by decide) (Nat.le_of_ble_eq_true rfl) ?_ (fun _ _ _ _ h => h.elim)
              rintro _ μ44 _ _ ⟨rfl, hR44, rfl⟩
              refine v_st [.int (bI true)] rfl ?_
              refine v_if_ne_b 130 o dX6_shot_125 (by decide) (fun c125 => ?_) (fun c125 => absurd c125 (by simp_all))
              refine v_aload_n 5 o dX6_shot_130 rfl rfl ?_
              refine v_get (v := .ref (m + 3)) o dX6_shot_131 cf6 4 (by decide) fl_X6_16 hR44.o rfl ?_
              refine v_iload_n 6 o dX6_shot_134 rfl rfl ?_
              refine v_dup2 o dX6_shot_135 rfl rfl ?_
              refine v_iald (σ.2.2.1 1 i) o dX6_shot_136 (by omega) (by decide) hR44.a3 rfl ?_
              refine v_iload 2 o dX6_shot_137 rfl ?_
              refine v_isub ((σ.2.2.1 1 i) - (nI 2)) o dX6_shot_139 rfl ?_
              refine v_iast o dX6_shot_140 (by omega) (by decide) hR44.a3 (fun μ45 e45 => ?_)
              have hR45 := hR44.p3 (i0 := i) (v := (σ.2.2.1 1 i) - (nI 2)) e45
              refine v_aload_n 5 o dX6_shot_141 rfl rfl ?_
              refine v_get (v := .ref (m + 6)) o dX6_shot_142 cf6 7 (by decide) fl_X6_25 hR45.o rfl ?_
              refine v_iload_n 6 o dX6_shot_145 rfl rfl ?_
              refine v_dup2 o dX6_shot_146 rfl rfl ?_
              refine v_iald (σ.2.2.1 4 i) o dX6_shot_147 (by omega) (by decide) hR45.a6 rfl ?_
              refine v_iconst 1 o dX6_shot_148 rfl ?_
              refine v_iadd ((σ.2.2.1 4 i) + (nI 1)) o dX6_shot_149 rfl ?_
              refine v_iast o dX6_shot_150 (by omega) (by decide) hR45.a6 (fun μ46 e46 => ?_)
              have hR46 := hR45.p6 (i0 := i) (v := (σ.2.2.1 4 i) + (nI 1)) e46
              refine v_aload_n 5 o dX6_shot_151 rfl rfl ?_
              refine v_get (v := .ref (m + 9)) o dX6_shot_152 cf6 11 (by decide) fl_X6_35 hR46.o rfl ?_
              refine v_iload 1 o dX6_shot_155 rfl ?_
              refine v_iconst 1 o dX6_shot_157 rfl ?_
              refine v_top (bI true) rfl ?_
              refine v_zast o dX6_shot_158 (by omega) (by decide) (nar_bI _) hR46.a9 (fun μ47 e47 => ?_)
              have hR47 := hR46.p9 (i0 := 12 * i + j) (v := true) e47
              refine v_aload_n 5 o dX6_shot_159 rfl rfl ?_
              refine v_get (v := .ref (m + 11)) o dX6_shot_160 cf6 13 (by decide) fl_X6_41 hR47.o rfl ?_
              refine v_iload 1 o dX6_shot_163 rfl ?_
              refine v_iconst 0 o dX6_shot_165 rfl ?_
              refine v_top (bI false) rfl ?_
              refine v_zast o dX6_shot_166 (by omega) (by decide) (nar_bI _) hR47.a11 (fun μ48 e48 => ?_)
              have hR48 := hR47.p11 (i0 := 12 * i + j) (v := false) e48
              refine v_aload_n 5 o dX6_shot_167 rfl rfl ?_
              refine v_get (v := .ref (m + 10)) o dX6_shot_168 cf6 12 (by decide) fl_X6_38 hR48.o rfl ?_
              refine v_iload 1 o dX6_shot_171 rfl ?_
              refine v_aload_n 5 o dX6_shot_173 rfl rfl ?_
              refine v_get (v := .int (σ.2.2.1 8 0)) o dX6_shot_174 cf6 10 (by decide) fl_X6_116 hR48.o rfl ?_
              refine v_iconst 5 o dX6_shot_177 rfl ?_
              refine v_icmp_le 185 o dX6_shot_178 (by decide) (fun c178 => ?_) (fun c178 => ?_)
              · refine v_iconst 0 o dX6_shot_185 rfl ?_
                refine v_top (bI false) rfl ?_
                refine v_zast o dX6_shot_186 (by omega) (by decide) (nar_bI _) hR48.a10 (fun μ49 e49 => ?_)
                have hR49 := hR48.p10 (i0 := 12 * i + j) (v := false) e49
                refine v_aload_n 5 o dX6_shot_187 rfl rfl ?_
                refine v_get (v := .ref (m + 12)) o dX6_shot_188 cf6 14 (by decide) fl_X6_44 hR49.o rfl ?_
                refine v_iload 1 o dX6_shot_191 rfl ?_
                refine v_lload 9 o dX6_shot_193 rfl ?_
                refine v_last o dX6_shot_195 (by omega) (by decide) hR49.a12 (fun μ50 e50 => ?_)
                have hR50 := hR49.p12 (i0 := 12 * i + j) (v := its) e50
                refine v_aload_n 5 o dX6_shot_196 rfl rfl ?_
                refine v_dup o dX6_shot_197 rfl ?_
                refine v_get (v := .int (σ.2.2.1 8 0)) o dX6_shot_198 cf6 10 (by decide) fl_X6_116 hR50.o rfl ?_
                refine v_iconst 1 o dX6_shot_201 rfl ?_
                refine v_iadd ((σ.2.2.1 8 0) + (nI 1)) o dX6_shot_202 rfl ?_
                refine v_put _ o dX6_shot_203 cf6 10 (by decide) (by decide) fl_X6_116 hR50.o rfl rfl (Nat.le_of_ble_eq_true rfl) rfl (fun μ51 e51 => ?_)
                have hR51 := hR50.s_drift (v := (σ.2.2.1 8 0) + (nI 1)) e51
                refine v_iconst 0 o dX6_shot_206 rfl ?_
                refine v_istore [(11, .int (nI 0)), (10, .int (nI 1)), (9, .int (nI (12 * i + j))), (8, .int (nI 2)), (7, .int (bI true)), (6, .int (bI true)), (0, .ref m), (1, .int (nI i)), (2, .int (nI j)), (3, .int x), (4, .long its)] o dX6_shot_207 (by decide) rfl ?_
                have E0 : sp_shot σ (nI i) (nI j) x its = ((uI (uL (uB (uB (uB (uI (uI (uN σ 3 1 0) 1 i ((σ.2.2.1 1 i) - (nI 2))) 4 i ((σ.2.2.1 4 i) + (nI 1))) 2 (12 * i + j) true) 4 (12 * i + j) false) 3 (12 * i + j) false) 0 (12 * i + j) its) 8 0 ((σ.2.2.1 8 0) + (nI 1))).2.2.1 1 i, puts (uI (uL (uB (uB (uB (uI (uI (uN σ 3 1 0) 1 i ((σ.2.2.1 1 i) - (nI 2))) 4 i ((σ.2.2.1 4 i) + (nI 1))) 2 (12 * i + j) true) 4 (12 * i + j) false) 3 (12 * i + j) false) 0 (12 * i + j) its) 8 0 ((σ.2.2.1 8 0) + (nI 1))) (12 * i + j) its 4) := by
                  have e8 : (uI (uL (uB (uB (uB (uI (uI (uN σ 3 1 0) 1 i ((σ.2.2.1 1 i) - (nI 2))) 4 i ((σ.2.2.1 4 i) + (nI 1))) 2 (12 * i + j) true) 4 (12 * i + j) false) 3 (12 * i + j) false) 0 (12 * i + j) its) 8 0 ((σ.2.2.1 8 0) + (nI 1))).2.2.1 1 i = σ.2.2.1 1 i - (nI 2) := by simp [uI, uN, uB, uL, u2]
                  rw [e8]
                  simp [sp_shot, th, hP, hX, ti, tj, costI, Int32.not_le.mp c22, Int32.not_lt.mp c52, Int32.not_lt.mp c63, c73, Int32.not_lt.mpr c178]
                refine v_sub [(0, .ref m), (1, .int (nI i)), (4, .long its), (9, .int (nI (12 * i + j))), (11, .int (nI 0))] [6, 7, 10, 2, 0] rfl ?_
                exact L _ E0 4 0 _ (by omega) hR51
              · refine v_iconst 1 o dX6_shot_181 rfl ?_
                refine v_goto 186 o dX6_shot_182 (by decide) ?_
                refine v_top (bI true) rfl ?_
                refine v_zast o dX6_shot_186 (by omega) (by decide) (nar_bI _) hR48.a10 (fun μ52 e52 => ?_)
                have hR52 := hR48.p10 (i0 := 12 * i + j) (v := true) e52
                refine v_aload_n 5 o dX6_shot_187 rfl rfl ?_
                refine v_get (v := .ref (m + 12)) o dX6_shot_188 cf6 14 (by decide) fl_X6_44 hR52.o rfl ?_
                refine v_iload 1 o dX6_shot_191 rfl ?_
                refine v_lload 9 o dX6_shot_193 rfl ?_
                refine v_last o dX6_shot_195 (by omega) (by decide) hR52.a12 (fun μ53 e53 => ?_)
                have hR53 := hR52.p12 (i0 := 12 * i + j) (v := its) e53
                refine v_aload_n 5 o dX6_shot_196 rfl rfl ?_
                refine v_dup o dX6_shot_197 rfl ?_
                refine v_get (v := .int (σ.2.2.1 8 0)) o dX6_shot_198 cf6 10 (by decide) fl_X6_116 hR53.o rfl ?_
                refine v_iconst 1 o dX6_shot_201 rfl ?_
                refine v_iadd ((σ.2.2.1 8 0) + (nI 1)) o dX6_shot_202 rfl ?_
                refine v_put _ o dX6_shot_203 cf6 10 (by decide) (by decide) fl_X6_116 hR53.o rfl rfl (Nat.le_of_ble_eq_true rfl) rfl (fun μ54 e54 => ?_)
                have hR54 := hR53.s_drift (v := (σ.2.2.1 8 0) + (nI 1)) e54
                refine v_iconst 0 o dX6_shot_206 rfl ?_
                refine v_istore [(11, .int (nI 0)), (10, .int (nI 1)), (9, .int (nI (12 * i + j))), (8, .int (nI 2)), (7, .int (bI true)), (6, .int (bI true)), (0, .ref m), (1, .int (nI i)), (2, .int (nI j)), (3, .int x), (4, .long its)] o dX6_shot_207 (by decide) rfl ?_
                have E0 : sp_shot σ (nI i) (nI j) x its = ((uI (uL (uB (uB (uB (uI (uI (uN σ 3 1 0) 1 i ((σ.2.2.1 1 i) - (nI 2))) 4 i ((σ.2.2.1 4 i) + (nI 1))) 2 (12 * i + j) true) 4 (12 * i + j) false) 3 (12 * i + j) true) 0 (12 * i + j) its) 8 0 ((σ.2.2.1 8 0) + (nI 1))).2.2.1 1 i, puts (uI (uL (uB (uB (uB (uI (uI (uN σ 3 1 0) 1 i ((σ.2.2.1 1 i) - (nI 2))) 4 i ((σ.2.2.1 4 i) + (nI 1))) 2 (12 * i + j) true) 4 (12 * i + j) false) 3 (12 * i + j) true) 0 (12 * i + j) its) 8 0 ((σ.2.2.1 8 0) + (nI 1))) (12 * i + j) its 4) := by
                  have e8 : (uI (uL (uB (uB (uB (uI (uI (uN σ 3 1 0) 1 i ((σ.2.2.1 1 i) - (nI 2))) 4 i ((σ.2.2.1 4 i) + (nI 1))) 2 (12 * i + j) true) 4 (12 * i + j) false) 3 (12 * i + j) true) 0 (12 * i + j) its) 8 0 ((σ.2.2.1 8 0) + (nI 1))).2.2.1 1 i = σ.2.2.1 1 i - (nI 2) := by simp [uI, uN, uB, uL, u2]
                  rw [e8]
                  simp [sp_shot, th, hP, hX, ti, tj, costI, Int32.not_le.mp c22, Int32.not_lt.mp c52, Int32.not_lt.mp c63, c73, Int32.not_le.mp c178]
                refine v_sub [(0, .ref m), (1, .int (nI i)), (4, .long its), (9, .int (nI (12 * i + j))), (11, .int (nI 0))] [6, 7, 10, 2, 0] rfl ?_
                exact L _ E0 4 0 _ (by omega) hR54
            · refine v_aload_n 4 o dX6_shot_76 rfl rfl ?_
              refine v_get (v := .ref (m + 11)) o dX6_shot_77 cf6 13 (by decide) fl_X6_41 hR.o rfl ?_
              refine v_iload 0 o dX6_shot_80 rfl ?_
              refine v_zald (bI (σ.2.1 4 (12 * i + j))) o dX6_shot_82 (by omega) (by decide) hR.a11 rfl ?_
              refine v_if_eq_b 90 o dX6_shot_83 (by decide) (fun c83 => ?_) (fun c83 => ?_)
              · refine v_iconst 0 o dX6_shot_90 rfl ?_
                refine v_istore [(10, .int (nI 0)), (9, .int (nI (12 * i + j))), (8, .int (nI 2)), (7, .int (bI true)), (6, .int (bI true)), (0, .ref m), (1, .int (nI i)), (2, .int (nI j)), (3, .int x), (4, .long its)] o dX6_shot_91 (by decide) rfl ?_
                refine v_aload_n 5 o dX6_shot_93 rfl rfl ?_
                refine v_iload 4 o dX6_shot_94 rfl ?_
                refine v_if_ne_b 103 o dX6_shot_96 (by decide) (fun c96 => ?_) (fun c96 => absurd c96 (by simp_all))
                refine v_iload 3 o dX6_shot_103 rfl ?_
                refine v_if_ne_b 112 o dX6_shot_105 (by decide) (fun c105 => ?_) (fun c105 => absurd c105 (by simp_all))
                refine v_iload 0 o dX6_shot_112 rfl ?_
                refine v_if_eq_n 121 o dX6_shot_114 (by decide) (by decide) (fun c114 => ?_) (fun c114 => absurd c114 (by omega))
                refine v_iconst 3 o dX6_shot_121 rfl ?_
                refine v_callV [.int (nI 3)] [] o dX6_shot_122 cw_X6_109 im_X6_goesWell se_X6_goesWell cf6 hR.o (m_goesWell hl hR 3 (by first | decide | omega)) rfl rfl (by decide) (by decide) (Nat.le_of_ble_eq_true rfl) ?_ (fun _ _ _ _ h => h.elim)
                rintro _ μ55 _ _ ⟨rfl, hR55, rfl⟩
                refine v_st [.int (bI false)] rfl ?_
                refine v_if_ne_b 130 o dX6_shot_125 (by decide) (fun c125 => absurd c125 (by simp_all)) (fun c125 => ?_)
                refine v_iconst 0 o dX6_shot_128 rfl ?_
                have e9 : sp_shot σ (nI i) (nI j) x its = (nI 0, uN σ 3 1 3) := by simp [sp_shot, th, hP, hX, ti, tj, costI, Int32.not_le.mp c22, Int32.not_lt.mp c52, Int32.not_lt.mp c63, c73, c83]
                exact v_iret o dX6_shot_129 hr (Nat.le_of_ble_eq_true rfl) (Nat.le_of_ble_eq_true rfl) (by rw [e9]; exact ⟨rfl, hR55, rfl⟩)
              · refine v_iconst 1 o dX6_shot_86 rfl ?_
                refine v_goto 91 o dX6_shot_87 (by decide) ?_
                refine v_istore [(10, .int (nI 1)), (9, .int (nI (12 * i + j))), (8, .int (nI 2)), (7, .int (bI true)), (6, .int (bI true)), (0, .ref m), (1, .int (nI i)), (2, .int (nI j)), (3, .int x), (4, .long its)] o dX6_shot_91 (by decide) rfl ?_
                refine v_aload_n 5 o dX6_shot_93 rfl rfl ?_
                refine v_iload 4 o dX6_shot_94 rfl ?_
                refine v_if_ne_b 103 o dX6_shot_96 (by decide) (fun c96 => ?_) (fun c96 => absurd c96 (by simp_all))
                refine v_iload 3 o dX6_shot_103 rfl ?_
                refine v_if_ne_b 112 o dX6_shot_105 (by decide) (fun c105 => ?_) (fun c105 => absurd c105 (by simp_all))
                refine v_iload 0 o dX6_shot_112 rfl ?_
                refine v_if_eq_n 121 o dX6_shot_114 (by decide) (by decide) (fun c114 => absurd c114 (by omega)) (fun c114 => ?_)
                refine v_iconst 0 o dX6_shot_117 rfl ?_
                refine v_goto 122 o dX6_shot_118 (by decide) ?_
                refine v_callV [.int (nI 0)] [] o dX6_shot_122 cw_X6_109 im_X6_goesWell se_X6_goesWell cf6 hR.o (m_goesWell hl hR 0 (by first | decide | omega)) rfl rfl (by decide) (by decide) (Nat.le_of_ble_eq_true rfl) ?_ (fun _ _ _ _ h => h.elim)
                rintro _ μ56 _ _ ⟨rfl, hR56, rfl⟩
                refine v_st [.int (bI true)] rfl ?_
                refine v_if_ne_b 130 o dX6_shot_125 (by decide) (fun c125 => ?_) (fun c125 => absurd c125 (by simp_all))
                refine v_aload_n 5 o dX6_shot_130 rfl rfl ?_
                refine v_get (v := .ref (m + 3)) o dX6_shot_131 cf6 4 (by decide) fl_X6_16 hR56.o rfl ?_
                refine v_iload_n 6 o dX6_shot_134 rfl rfl ?_
                refine v_dup2 o dX6_shot_135 rfl rfl ?_
                refine v_iald (σ.2.2.1 1 i) o dX6_shot_136 (by omega) (by decide) hR56.a3 rfl ?_
                refine v_iload 2 o dX6_shot_137 rfl ?_
                refine v_isub ((σ.2.2.1 1 i) - (nI 2)) o dX6_shot_139 rfl ?_
                refine v_iast o dX6_shot_140 (by omega) (by decide) hR56.a3 (fun μ57 e57 => ?_)
                have hR57 := hR56.p3 (i0 := i) (v := (σ.2.2.1 1 i) - (nI 2)) e57
                refine v_aload_n 5 o dX6_shot_141 rfl rfl ?_
                refine v_get (v := .ref (m + 6)) o dX6_shot_142 cf6 7 (by decide) fl_X6_25 hR57.o rfl ?_
                refine v_iload_n 6 o dX6_shot_145 rfl rfl ?_
                refine v_dup2 o dX6_shot_146 rfl rfl ?_
                refine v_iald (σ.2.2.1 4 i) o dX6_shot_147 (by omega) (by decide) hR57.a6 rfl ?_
                refine v_iconst 1 o dX6_shot_148 rfl ?_
                refine v_iadd ((σ.2.2.1 4 i) + (nI 1)) o dX6_shot_149 rfl ?_
                refine v_iast o dX6_shot_150 (by omega) (by decide) hR57.a6 (fun μ58 e58 => ?_)
                have hR58 := hR57.p6 (i0 := i) (v := (σ.2.2.1 4 i) + (nI 1)) e58
                refine v_aload_n 5 o dX6_shot_151 rfl rfl ?_
                refine v_get (v := .ref (m + 9)) o dX6_shot_152 cf6 11 (by decide) fl_X6_35 hR58.o rfl ?_
                refine v_iload 1 o dX6_shot_155 rfl ?_
                refine v_iconst 1 o dX6_shot_157 rfl ?_
                refine v_top (bI true) rfl ?_
                refine v_zast o dX6_shot_158 (by omega) (by decide) (nar_bI _) hR58.a9 (fun μ59 e59 => ?_)
                have hR59 := hR58.p9 (i0 := 12 * i + j) (v := true) e59
                refine v_aload_n 5 o dX6_shot_159 rfl rfl ?_
                refine v_get (v := .ref (m + 11)) o dX6_shot_160 cf6 13 (by decide) fl_X6_41 hR59.o rfl ?_
                refine v_iload 1 o dX6_shot_163 rfl ?_
                refine v_iconst 0 o dX6_shot_165 rfl ?_
                refine v_top (bI false) rfl ?_
                refine v_zast o dX6_shot_166 (by omega) (by decide) (nar_bI _) hR59.a11 (fun μ60 e60 => ?_)
                have hR60 := hR59.p11 (i0 := 12 * i + j) (v := false) e60
                refine v_aload_n 5 o dX6_shot_167 rfl rfl ?_
                refine v_get (v := .ref (m + 10)) o dX6_shot_168 cf6 12 (by decide) fl_X6_38 hR60.o rfl ?_
                refine v_iload 1 o dX6_shot_171 rfl ?_
                refine v_aload_n 5 o dX6_shot_173 rfl rfl ?_
                refine v_get (v := .int (σ.2.2.1 8 0)) o dX6_shot_174 cf6 10 (by decide) fl_X6_116 hR60.o rfl ?_
                refine v_iconst 5 o dX6_shot_177 rfl ?_
                refine v_icmp_le 185 o dX6_shot_178 (by decide) (fun c178 => ?_) (fun c178 => ?_)
                · refine v_iconst 0 o dX6_shot_185 rfl ?_
                  refine v_top (bI false) rfl ?_
                  refine v_zast o dX6_shot_186 (by omega) (by decide) (nar_bI _) hR60.a10 (fun μ61 e61 => ?_)
                  have hR61 := hR60.p10 (i0 := 12 * i + j) (v := false) e61
                  refine v_aload_n 5 o dX6_shot_187 rfl rfl ?_
                  refine v_get (v := .ref (m + 12)) o dX6_shot_188 cf6 14 (by decide) fl_X6_44 hR61.o rfl ?_
                  refine v_iload 1 o dX6_shot_191 rfl ?_
                  refine v_lload 9 o dX6_shot_193 rfl ?_
                  refine v_last o dX6_shot_195 (by omega) (by decide) hR61.a12 (fun μ62 e62 => ?_)
                  have hR62 := hR61.p12 (i0 := 12 * i + j) (v := its) e62
                  refine v_aload_n 5 o dX6_shot_196 rfl rfl ?_
                  refine v_dup o dX6_shot_197 rfl ?_
                  refine v_get (v := .int (σ.2.2.1 8 0)) o dX6_shot_198 cf6 10 (by decide) fl_X6_116 hR62.o rfl ?_
                  refine v_iconst 1 o dX6_shot_201 rfl ?_
                  refine v_iadd ((σ.2.2.1 8 0) + (nI 1)) o dX6_shot_202 rfl ?_
                  refine v_put _ o dX6_shot_203 cf6 10 (by decide) (by decide) fl_X6_116 hR62.o rfl rfl (Nat.le_of_ble_eq_true rfl) rfl (fun μ63 e63 => ?_)
                  have hR63 := hR62.s_drift (v := (σ.2.2.1 8 0) + (nI 1)) e63
                  refine v_iconst 0 o dX6_shot_206 rfl ?_
                  refine v_istore [(11, .int (nI 0)), (10, .int (nI 1)), (9, .int (nI (12 * i + j))), (8, .int (nI 2)), (7, .int (bI true)), (6, .int (bI true)), (0, .ref m), (1, .int (nI i)), (2, .int (nI j)), (3, .int x), (4, .long its)] o dX6_shot_207 (by decide) rfl ?_
                  have E0 : sp_shot σ (nI i) (nI j) x its = ((uI (uL (uB (uB (uB (uI (uI (uN σ 3 1 0) 1 i ((σ.2.2.1 1 i) - (nI 2))) 4 i ((σ.2.2.1 4 i) + (nI 1))) 2 (12 * i + j) true) 4 (12 * i + j) false) 3 (12 * i + j) false) 0 (12 * i + j) its) 8 0 ((σ.2.2.1 8 0) + (nI 1))).2.2.1 1 i, puts (uI (uL (uB (uB (uB (uI (uI (uN σ 3 1 0) 1 i ((σ.2.2.1 1 i) - (nI 2))) 4 i ((σ.2.2.1 4 i) + (nI 1))) 2 (12 * i + j) true) 4 (12 * i + j) false) 3 (12 * i + j) false) 0 (12 * i + j) its) 8 0 ((σ.2.2.1 8 0) + (nI 1))) (12 * i + j) its 4) := by
                    have e8 : (uI (uL (uB (uB (uB (uI (uI (uN σ 3 1 0) 1 i ((σ.2.2.1 1 i) - (nI 2))) 4 i ((σ.2.2.1 4 i) + (nI 1))) 2 (12 * i + j) true) 4 (12 * i + j) false) 3 (12 * i + j) false) 0 (12 * i + j) its) 8 0 ((σ.2.2.1 8 0) + (nI 1))).2.2.1 1 i = σ.2.2.1 1 i - (nI 2) := by simp [uI, uN, uB, uL, u2]
                    rw [e8]
                    simp [sp_shot, th, hP, hX, ti, tj, costI, Int32.not_le.mp c22, Int32.not_lt.mp c52, Int32.not_lt.mp c63, c73, c83, Int32.not_lt.mpr c178]
                  refine v_sub [(0, .ref m), (1, .int (nI i)), (4, .long its), (9, .int (nI (12 * i + j))), (11, .int (nI 0))] [6, 7, 10, 2, 0] rfl ?_
                  exact L _ E0 4 0 _ (by omega) hR63
                · refine v_iconst 1 o dX6_shot_181 rfl ?_
                  refine v_goto 186 o dX6_shot_182 (by decide) ?_
                  refine v_top (bI true) rfl ?_
                  refine v_zast o dX6_shot_186 (by omega) (by decide) (nar_bI _) hR60.a10 (fun μ64 e64 => ?_)
                  have hR64 := hR60.p10 (i0 := 12 * i + j) (v := true) e64
                  refine v_aload_n 5 o dX6_shot_187 rfl rfl ?_
                  refine v_get (v := .ref (m + 12)) o dX6_shot_188 cf6 14 (by decide) fl_X6_44 hR64.o rfl ?_
                  refine v_iload 1 o dX6_shot_191 rfl ?_
                  refine v_lload 9 o dX6_shot_193 rfl ?_
                  refine v_last o dX6_shot_195 (by omega) (by decide) hR64.a12 (fun μ65 e65 => ?_)
                  have hR65 := hR64.p12 (i0 := 12 * i + j) (v := its) e65
                  refine v_aload_n 5 o dX6_shot_196 rfl rfl ?_
                  refine v_dup o dX6_shot_197 rfl ?_
                  refine v_get (v := .int (σ.2.2.1 8 0)) o dX6_shot_198 cf6 10 (by decide) fl_X6_116 hR65.o rfl ?_
                  refine v_iconst 1 o dX6_shot_201 rfl ?_
                  refine v_iadd ((σ.2.2.1 8 0) + (nI 1)) o dX6_shot_202 rfl ?_
                  refine v_put _ o dX6_shot_203 cf6 10 (by decide) (by decide) fl_X6_116 hR65.o rfl rfl (Nat.le_of_ble_eq_true rfl) rfl (fun μ66 e66 => ?_)
                  have hR66 := hR65.s_drift (v := (σ.2.2.1 8 0) + (nI 1)) e66
                  refine v_iconst 0 o dX6_shot_206 rfl ?_
                  refine v_istore [(11, .int (nI 0)), (10, .int (nI 1)), (9, .int (nI (12 * i + j))), (8, .int (nI 2)), (7, .int (bI true)), (6, .int (bI true)), (0, .ref m), (1, .int (nI i)), (2, .int (nI j)), (3, .int x), (4, .long its)] o dX6_shot_207 (by decide) rfl ?_
                  have E0 : sp_shot σ (nI i) (nI j) x its = ((uI (uL (uB (uB (uB (uI (uI (uN σ 3 1 0) 1 i ((σ.2.2.1 1 i) - (nI 2))) 4 i ((σ.2.2.1 4 i) + (nI 1))) 2 (12 * i + j) true) 4 (12 * i + j) false) 3 (12 * i + j) true) 0 (12 * i + j) its) 8 0 ((σ.2.2.1 8 0) + (nI 1))).2.2.1 1 i, puts (uI (uL (uB (uB (uB (uI (uI (uN σ 3 1 0) 1 i ((σ.2.2.1 1 i) - (nI 2))) 4 i ((σ.2.2.1 4 i) + (nI 1))) 2 (12 * i + j) true) 4 (12 * i + j) false) 3 (12 * i + j) true) 0 (12 * i + j) its) 8 0 ((σ.2.2.1 8 0) + (nI 1))) (12 * i + j) its 4) := by
                    have e8 : (uI (uL (uB (uB (uB (uI (uI (uN σ 3 1 0) 1 i ((σ.2.2.1 1 i) - (nI 2))) 4 i ((σ.2.2.1 4 i) + (nI 1))) 2 (12 * i + j) true) 4 (12 * i + j) false) 3 (12 * i + j) true) 0 (12 * i + j) its) 8 0 ((σ.2.2.1 8 0) + (nI 1))).2.2.1 1 i = σ.2.2.1 1 i - (nI 2) := by simp [uI, uN, uB, uL, u2]
                    rw [e8]
                    simp [sp_shot, th, hP, hX, ti, tj, costI, Int32.not_le.mp c22, Int32.not_lt.mp c52, Int32.not_lt.mp c63, c73, c83, Int32.not_le.mp c178]
                  refine v_sub [(0, .ref m), (1, .int (nI i)), (4, .long its), (9, .int (nI (12 * i + j))), (11, .int (nI 0))] [6, 7, 10, 2, 0] rfl ?_
                  exact L _ E0 4 0 _ (by omega) hR66

