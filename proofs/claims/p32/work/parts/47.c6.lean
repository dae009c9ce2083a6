set_option maxRecDepth 100000 in
set_option maxHeartbeats 4000000 in
theorem c_weigh {l : Launch} (hl : l.stackTraces = false) {g : mG} {x z z0 : Nat} {B : Nat → Nat} {μ0 μ : mM} {σ τ : Sg} (hR : RC g x B z0 μ0 σ τ μ) (hI : Inv σ) (i j : Nat) (hi : i < σ.1 3 0) (hj : j < σ.1 0 i) (k : Nat) (hk : k < 4) : Ct l g yX5_weighLetters [Cond.code yX5_weighLetters cX5_weighLetters 5 none] { frames := 2, cells := 0, slots := 0, locals := 55 } [.ref x, .ref (pA B i j), .int (nI k)] μ z (fun r μ' z' => r = none ∧ (∃ τ', RC g x B z0 μ0 σ τ' μ' ∧ WT σ (4 * (12 * i + j) + k) τ' 5) ∧ z = z') (noX) := by
  refine Ct.of hl (by decide +kernel) (Nat.le_of_ble_eq_true rfl) ?_
  intro p e s mi args below meth c o hnm hr hx
  have o : Ok p l s mi args meth c g cX5_weighLetters 5 RX5 := o
  refine v_lv [(0, .ref x), (1, .ref (pA B i j)), (2, .int (nI k))] rfl ?_
  have L : ∀ (d w : Nat) (τq : Sg) (μq : mM), w + d = 5 → RC g x B z0 μ0 σ τq μq → WT σ (4 * (12 * i + j) + k) τq w → V p l e { frames := 2, cells := 0, slots := 0, locals := 55 } s mi args below meth c (vx_MQ below (cQc g (fun r μ' z' => r = none ∧ (∃ τ', RC g x B z0 μ0 σ τ' μ' ∧ WT σ (4 * (12 * i + j) + k) τ' 5) ∧ z = z')) (cXC g (noX)) args s ({ frames := 2, cells := 0, slots := 0, locals := 55 } : Room).cells ({ frames := 2, cells := 0, slots := 0, locals := 55 } : Room).slots (gA g)) g μq z 0 0 9 [(0, .ref x), (1, .ref (pA B i j)), (2, .int (nI k)), (3, .int (nI w))] [] := by
    intro d
    induction d with
    | zero =>
      intro w τq μq hw hRq hW
      refine v_iload_n 3 o dX5_weighLetters_9 rfl rfl ?_
      refine v_iconst 5 o dX5_weighLetters_10 rfl ?_
      refine v_icmp_ge_n 50 o dX5_weighLetters_11 (by decide) (by omega) (by decide) (fun c11 => ?_) (fun c11 => absurd c11 (by omega))
      exact v_vret o dX5_weighLetters_50 hr (Nat.le_of_ble_eq_true rfl) (Nat.le_of_ble_eq_true rfl) ⟨rfl, ⟨_, hRq, (show w = 5 by omega) ▸ hW⟩, rfl⟩
    | succ d ih =>
      intro w τq μq hwd hRq hW
      have hw : w < 5 := by omega
      have hK := hI.2.2.2.1 (5 * (4 * (12 * i + j) + k) + w)
      refine v_iload_n 3 o dX5_weighLetters_9 rfl rfl ?_
      refine v_iconst 5 o dX5_weighLetters_10 rfl ?_
      refine v_icmp_ge_n 50 o dX5_weighLetters_11 (by decide) (by omega) (by decide) (fun c11 => absurd c11 (by omega)) (fun c11 => ?_)
      refine v_aload_n 1 o dX5_weighLetters_14 rfl rfl ?_
      refine v_get (v := .ref (pA B i j + 4)) o dX5_weighLetters_15 cf2 9 (by decide) fl_X5_206 (hRq.p0 hi hj) rfl ?_
      refine v_iload_n 3 o dX5_weighLetters_18 rfl rfl ?_
      refine v_aaldI (.ref (pA B i j + 4 + 1 + w)) o dX5_weighLetters_19 (by omega) (by decide) (hRq.p4 hi hj) (by simp only [if_pos (show w < 5 from (by omega))]; rfl) ?_
      refine v_iload_n 2 o dX5_weighLetters_20 rfl rfl ?_
      refine v_iald (mI (σ.1 2 (5 * (4 * (12 * i + j) + k) + w))) o dX5_weighLetters_21 (by omega) (by decide) (hRq.p5 hi hj (by omega)) ((rs_lt (by omega)).trans rfl) ?_
      refine v_istore [(4, .int (mI (σ.1 2 (5 * (4 * (12 * i + j) + k) + w)))), (0, .ref x), (1, .ref (pA B i j)), (2, .int (nI k)), (3, .int (nI w))] o dX5_weighLetters_22 (by decide) rfl ?_
      refine v_iload 0 o dX5_weighLetters_24 rfl ?_
      refine v_iconst_i (-1) o dX5_weighLetters_26 (by decide) ?_
      refine v_icmp_eq 44 o dX5_weighLetters_27 (by decide) (fun c27 => ?_) (fun c27 => ?_)
      · refine v_iinc (nI (w + 1)) [(3, .int (nI (w + 1))), (4, .int (mI (σ.1 2 (5 * (4 * (12 * i + j) + k) + w)))), (0, .ref x), (1, .ref (pA B i j)), (2, .int (nI k))] o dX5_weighLetters_44 4 rfl (iinc_n w 1) (by decide) rfl ?_
        refine v_goto 9 o dX5_weighLetters_47 (by decide) ?_
        refine v_sub [(0, .ref x), (1, .ref (pA B i j)), (2, .int (nI k)), (3, .int (nI (w + 1)))] [2, 3, 4, 0] rfl ?_
        exact ih (w + 1) _ _ (by omega) hRq (hW.no ((mI_ne (by omega)).mp c27))
      · have hne : ¬ σ.1 2 (5 * (4 * (12 * i + j) + k) + w) = 0 := fun q => c27 ((mI_ne (by omega)).mpr q)
        refine v_lv [(4, .int (nI (σ.1 2 (5 * (4 * (12 * i + j) + k) + w) - 1))), (0, .ref x), (1, .ref (pA B i j)), (2, .int (nI k)), (3, .int (nI w))] (by rw [mI_pos hne]) ?_
        refine v_aload_n 1 o dX5_weighLetters_30 rfl rfl ?_
        refine v_get (v := .ref (x + 9)) o dX5_weighLetters_31 cf5 6 (by decide) fl_X5_36 hRq.h0 rfl ?_
        refine v_iload 0 o dX5_weighLetters_34 rfl ?_
        refine v_aload_n 1 o dX5_weighLetters_36 rfl rfl ?_
        refine v_iload_n 4 o dX5_weighLetters_37 rfl rfl ?_
        refine v_callVr (v := .int (nI (trustN σ w))) [.int (nI w)] [.int (nI (σ.1 2 (5 * (4 * (12 * i + j) + k) + w) - 1)), .ref (x + 9)] o dX5_weighLetters_38 cw_X5_210 im_X5_trustIn se_X5_trustIn cf5 hRq.h0 (c_trustIn hl hRq hI w (by omega)) rfl rfl (by decide) ⟨rfl, rfl⟩ (by decide) (Nat.le_of_ble_eq_true rfl) ?_
        refine v_callV [.int (nI (σ.1 2 (5 * (4 * (12 * i + j) + k) + w) - 1)), .int (nI (trustN σ w))] [] o dX5_weighLetters_41 cw_X5_290 im_X1_put se_X1_put cf1 hRq.h9 (c_put hl hRq (σ.1 2 (5 * (4 * (12 * i + j) + k) + w) - 1) (trustN σ w) (by omega)) rfl rfl (by decide) (by decide) (Nat.le_of_ble_eq_true rfl) ?_ (fun _ _ _ _ h => h.elim)
        rintro _ μ1 _ _ ⟨rfl, hR1, rfl⟩
        refine v_st [] rfl ?_
        refine v_iinc (nI (w + 1)) [(3, .int (nI (w + 1))), (4, .int (nI (σ.1 2 (5 * (4 * (12 * i + j) + k) + w) - 1))), (0, .ref x), (1, .ref (pA B i j)), (2, .int (nI k))] o dX5_weighLetters_44 4 rfl (iinc_n w 1) (by decide) rfl ?_
        refine v_goto 9 o dX5_weighLetters_47 (by decide) ?_
        refine v_sub [(0, .ref x), (1, .ref (pA B i j)), (2, .int (nI k)), (3, .int (nI (w + 1)))] [2, 3, 4, 0] rfl ?_
        exact ih (w + 1) _ _ (by omega) hR1 (hW.put (by omega) (by omega))
  refine v_aload_n 0 o dX5_weighLetters_0 rfl rfl ?_
  refine v_get (v := .ref (x + 9)) o dX5_weighLetters_1 cf5 6 (by decide) fl_X5_36 hR.h0 rfl ?_
  refine v_callV [] [] o dX5_weighLetters_4 cw_X5_287 im_X1_clear se_X1_clear cf1 hR.h9 (c_clear hl hR) rfl rfl (by decide) (by decide) (Nat.le_of_ble_eq_true rfl) ?_ (fun _ _ _ _ h => h.elim)
  rintro _ μ2 _ _ ⟨rfl, hR2, rfl⟩
  refine v_st [] rfl ?_
  refine v_iconst 0 o dX5_weighLetters_7 rfl ?_
  refine v_istore_n [(3, .int (nI 0)), (0, .ref x), (1, .ref (pA B i j)), (2, .int (nI k))] o dX5_weighLetters_8 rfl (by decide) rfl ?_
  refine v_sub [(0, .ref x), (1, .ref (pA B i j)), (2, .int (nI k)), (3, .int (nI 0))] [1, 2, 3, 0] rfl ?_
  exact L 5 0 _ _ rfl hR2 (WT.z _ _ _)

set_option maxRecDepth 100000 in
set_option maxHeartbeats 4000000 in
theorem c_heaviest {l : Launch} (hl : l.stackTraces = false) {g : mG} {x z z0 : Nat} {B : Nat → Nat} {μ0 μ : mM} {σ τ : Sg} (hR : RC g x B z0 μ0 σ τ μ) (hI : Inv σ) (K : Nat) (hW : WT σ K τ 5) : Ct l g yX1_heaviestLetter [Cond.code yX1_heaviestLetter cX1_heaviestLetter 5 (some .int)] { frames := 0, cells := 0, slots := 0, locals := 0 } [.ref (x + 9)] μ z (rdP (some (.int (mI (bst σ K 26).1))) μ z) (noX) := by
  refine Ct.of hl (by decide +kernel) (Nat.le_of_ble_eq_true rfl) ?_
  intro p e s mi args below meth c o hnm hr hx
  have o : Ok p l s mi args meth c g cX1_heaviestLetter 5 RX1 := o
  refine v_lv [(0, .ref (x + 9))] rfl ?_
  have L : ∀ d a, a + d = 26 → V p l e { frames := 0, cells := 0, slots := 0, locals := 0 } s mi args below meth c (vx_MQ below (cQc g (rdP (some (.int (mI (bst σ K 26).1))) μ z)) (cXC g (noX)) args s ({ frames := 0, cells := 0, slots := 0, locals := 0 } : Room).cells ({ frames := 0, cells := 0, slots := 0, locals := 0 } : Room).slots (gA g)) g μ z 0 0 6 [(0, .ref (x + 9)), (1, .int (mI (bst σ K a).1)), (2, .int (mI (bst σ K a).2)), (3, .int (nI a))] [] := by
    intro d
    induction d with
    | zero =>
      intro a ha
      refine v_iload_n 3 o dX1_heaviestLetter_6 rfl rfl ?_
      refine v_bipush 26 o dX1_heaviestLetter_7 (by decide) ?_
      refine v_icmp_ge_n 60 o dX1_heaviestLetter_9 (by decide) (by omega) (by decide) (fun c9 => ?_) (fun c9 => absurd c9 (by omega))
      refine v_iload_n 1 o dX1_heaviestLetter_60 rfl rfl ?_
      exact v_iret o dX1_heaviestLetter_61 hr (Nat.le_of_ble_eq_true rfl) (Nat.le_of_ble_eq_true rfl) ⟨by rw [show a = 26 by omega], rfl, rfl⟩
    | succ d ih =>
      intro a had
      have ha : a < 26 := by omega
      have hb2 := bst_le σ K a
      have hw5 := wgt_le σ K (a + 1) 5
      have hwt := hW a ha
      refine v_iload_n 3 o dX1_heaviestLetter_6 rfl rfl ?_
      refine v_bipush 26 o dX1_heaviestLetter_7 (by decide) ?_
      refine v_icmp_ge_n 60 o dX1_heaviestLetter_9 (by decide) (by omega) (by decide) (fun c9 => absurd c9 (by omega)) (fun c9 => ?_)
      refine v_aload_n 0 o dX1_heaviestLetter_12 rfl rfl ?_
      refine v_get (v := .int (τ.2.2.1 0 0)) o dX1_heaviestLetter_13 cf1 1 (by decide) fl_X1_21 hR.h9 rfl ?_
      refine v_iload_n 3 o dX1_heaviestLetter_16 rfl rfl ?_
      refine v_ishr ((τ.2.2.1 0 0) >>> ((nI a) &&& 31)) o dX1_heaviestLetter_17 rfl ?_
      refine v_iconst 1 o dX1_heaviestLetter_18 rfl ?_
      refine v_iand (((τ.2.2.1 0 0) >>> ((nI a) &&& 31)) &&& (nI 1)) o dX1_heaviestLetter_19 rfl ?_
      refine v_top (bI ((τ.2.2.1 0 0).toBitVec.getLsbD a)) (by rw [bitA (show a < 32 by omega)]; cases (τ.2.2.1 0 0).toBitVec.getLsbD a <;> rfl) ?_
      refine v_if_eq_b 27 o dX1_heaviestLetter_20 (by decide) (fun c20 => ?_) (fun c20 => ?_)
      · refine v_iconst 0 o dX1_heaviestLetter_27 rfl ?_
        refine v_istore [(4, .int (nI 0)), (0, .ref (x + 9)), (1, .int (mI (bst σ K a).1)), (2, .int (mI (bst σ K a).2)), (3, .int (nI a))] o dX1_heaviestLetter_28 (by decide) rfl ?_
        refine v_iload 0 o dX1_heaviestLetter_30 rfl ?_
        refine v_if_eq_n 54 o dX1_heaviestLetter_32 (by decide) (by decide) (fun c32 => ?_) (fun c32 => absurd c32 (by omega))
        refine v_iinc (nI (a + 1)) [(3, .int (nI (a + 1))), (4, .int (nI 0)), (0, .ref (x + 9)), (1, .int (mI (bst σ K a).1)), (2, .int (mI (bst σ K a).2))] o dX1_heaviestLetter_54 4 rfl (iinc_n a 1) (by decide) rfl ?_
        refine v_goto 6 o dX1_heaviestLetter_57 (by decide) ?_
        have hz : wgt σ K (a + 1) 5 = 0 := by have q := hwt.2.symm.trans c20; simpa using q
        refine v_sub [(0, .ref (x + 9)), (1, .int (mI (bst σ K a).1)), (2, .int (mI (bst σ K a).2)), (3, .int (nI (a + 1)))] [2, 3, 4, 0] rfl ?_
        refine v_lv [(0, .ref (x + 9)), (1, .int (mI (bst σ K (a + 1)).1)), (2, .int (mI (bst σ K (a + 1)).2)), (3, .int (nI (a + 1)))] (by rw [show bst σ K (a + 1) = bst σ K a from if_neg (by omega)]) ?_
        exact ih (a + 1) (by omega)
      · refine v_iconst 1 o dX1_heaviestLetter_23 rfl ?_
        refine v_goto 28 o dX1_heaviestLetter_24 (by decide) ?_
        refine v_istore [(4, .int (nI 1)), (0, .ref (x + 9)), (1, .int (mI (bst σ K a).1)), (2, .int (mI (bst σ K a).2)), (3, .int (nI a))] o dX1_heaviestLetter_28 (by decide) rfl ?_
        refine v_iload 0 o dX1_heaviestLetter_30 rfl ?_
        refine v_if_eq_n 54 o dX1_heaviestLetter_32 (by decide) (by decide) (fun c32 => absurd c32 (by omega)) (fun c32 => ?_)
        refine v_aload_n 1 o dX1_heaviestLetter_35 rfl rfl ?_
        refine v_get (v := .ref (x + 10)) o dX1_heaviestLetter_36 cf1 0 (by decide) fl_X1_9 hR.h9 rfl ?_
        refine v_iload_n 4 o dX1_heaviestLetter_39 rfl rfl ?_
        refine v_iald (nI (τ.1 1 a)) o dX1_heaviestLetter_40 (by omega) (by decide) hR.h10 rfl ?_
        have hne : ¬ wgt σ K (a + 1) 5 = 0 := by have q := hwt.2.symm.trans c20; simpa using q
        refine v_top (mI (wgt σ K (a + 1) 5)) (by rw [hwt.1, mI_pos hne]) ?_
        refine v_iload_n 3 o dX1_heaviestLetter_41 rfl rfl ?_
        refine v_icmp_le 54 o dX1_heaviestLetter_42 (by decide) (fun c42 => ?_) (fun c42 => ?_)
        · refine v_iinc (nI (a + 1)) [(3, .int (nI (a + 1))), (4, .int (nI 1)), (0, .ref (x + 9)), (1, .int (mI (bst σ K a).1)), (2, .int (mI (bst σ K a).2))] o dX1_heaviestLetter_54 4 rfl (iinc_n a 1) (by decide) rfl ?_
          refine v_goto 6 o dX1_heaviestLetter_57 (by decide) ?_
          have hle : wgt σ K (a + 1) 5 ≤ (bst σ K a).2 := (mI_leI (by omega) (by omega)).mp c42
          refine v_sub [(0, .ref (x + 9)), (1, .int (mI (bst σ K a).1)), (2, .int (mI (bst σ K a).2)), (3, .int (nI (a + 1)))] [2, 3, 4, 0] rfl ?_
          refine v_lv [(0, .ref (x + 9)), (1, .int (mI (bst σ K (a + 1)).1)), (2, .int (mI (bst σ K (a + 1)).2)), (3, .int (nI (a + 1)))] (by rw [show bst σ K (a + 1) = bst σ K a from if_neg (by omega)]) ?_
          exact ih (a + 1) (by omega)
        · refine v_iload_n 4 o dX1_heaviestLetter_45 rfl rfl ?_
          refine v_istore_n [(1, .int (nI a)), (4, .int (nI 1)), (0, .ref (x + 9)), (2, .int (mI (bst σ K a).2)), (3, .int (nI a))] o dX1_heaviestLetter_46 rfl (by decide) rfl ?_
          refine v_aload_n 2 o dX1_heaviestLetter_47 rfl rfl ?_
          refine v_get (v := .ref (x + 10)) o dX1_heaviestLetter_48 cf1 0 (by decide) fl_X1_9 hR.h9 rfl ?_
          refine v_iload_n 4 o dX1_heaviestLetter_51 rfl rfl ?_
          refine v_iald (nI (τ.1 1 a)) o dX1_heaviestLetter_52 (by omega) (by decide) hR.h10 rfl ?_
          refine v_istore_n [(2, .int (nI (τ.1 1 a))), (1, .int (nI a)), (4, .int (nI 1)), (0, .ref (x + 9)), (3, .int (nI a))] o dX1_heaviestLetter_53 rfl (by decide) rfl ?_
          refine v_iinc (nI (a + 1)) [(3, .int (nI (a + 1))), (2, .int (nI (τ.1 1 a))), (1, .int (nI a)), (4, .int (nI 1)), (0, .ref (x + 9))] o dX1_heaviestLetter_54 4 rfl (iinc_n a 1) (by decide) rfl ?_
          refine v_goto 6 o dX1_heaviestLetter_57 (by decide) ?_
          have hlt : ¬ wgt σ K (a + 1) 5 ≤ (bst σ K a).2 := fun q => c42 ((mI_leI (by omega) (by omega)).mpr q)
          have e1 : bst σ K (a + 1) = (a + 1, wgt σ K (a + 1) 5) := if_pos (by omega)
          refine v_sub [(0, .ref (x + 9)), (1, .int (nI a)), (2, .int (nI (τ.1 1 a))), (3, .int (nI (a + 1)))] [4, 2, 1, 0] rfl ?_
          refine v_lv [(0, .ref (x + 9)), (1, .int (mI (bst σ K (a + 1)).1)), (2, .int (mI (bst σ K (a + 1)).2)), (3, .int (nI (a + 1)))] (by rw [e1]; simp only [mI_s, mI_pos (show ¬ wgt σ K (a + 1) 5 = 0 by omega), hwt.1]) ?_
          exact ih (a + 1) (by omega)
  refine v_iconst_i (-1) o dX1_heaviestLetter_0 (by decide) ?_
  refine v_istore_n [(1, .int (-1)), (0, .ref (x + 9))] o dX1_heaviestLetter_1 rfl (by decide) rfl ?_
  refine v_iconst_i (-1) o dX1_heaviestLetter_2 (by decide) ?_
  refine v_istore_n [(2, .int (-1)), (1, .int (-1)), (0, .ref (x + 9))] o dX1_heaviestLetter_3 rfl (by decide) rfl ?_
  refine v_iconst 0 o dX1_heaviestLetter_4 rfl ?_
  refine v_istore_n [(3, .int (nI 0)), (2, .int (-1)), (1, .int (-1)), (0, .ref (x + 9))] o dX1_heaviestLetter_5 rfl (by decide) rfl ?_
  refine v_sub [(0, .ref (x + 9)), (1, .int (-1)), (2, .int (-1)), (3, .int (nI 0))] [3, 2, 1, 0] rfl ?_
  refine v_lv [(0, .ref (x + 9)), (1, .int (mI (bst σ K 0).1)), (2, .int (mI (bst σ K 0).2)), (3, .int (nI 0))] (by rw [show bst σ K 0 = (0, 0) from rfl, mI_0]) ?_
  exact L 26 0 rfl

theorem max_nI {σ : Sg} {K a : Nat} (h1 : maxW σ K a < 2 ^ 31) (h2 : wgt σ K (a + 1) 5 - 1 < 2 ^ 31) : (if nI (maxW σ K a) < nI (wgt σ K (a + 1) 5 - 1) then nI (wgt σ K (a + 1) 5 - 1) else nI (maxW σ K a)) = nI (maxW σ K (a + 1)) := by
  show _ = nI (if maxW σ K a < wgt σ K (a + 1) 5 - 1 then wgt σ K (a + 1) 5 - 1 else maxW σ K a)
  by_cases q : maxW σ K a < wgt σ K (a + 1) 5 - 1
  · rw [if_pos q, if_pos (nI_lt q h2)]
  · rw [if_neg q, if_neg (fun r => q (by rw [Int32.lt_iff_toInt_lt, nI_toInt h1, nI_toInt h2] at r; omega))]
set_option maxRecDepth 100000 in
set_option maxHeartbeats 4000000 in
theorem c_doubtIn {l : Launch} (hl : l.stackTraces = false) {g : mG} {x z z0 : Nat} {B : Nat → Nat} {μ0 μ : mM} {σ τ : Sg} (hR : RC g x B z0 μ0 σ τ μ) (hI : Inv σ) (K : Nat) (hW : WT σ K τ 5) : Ct l g yX1_doubtInHeaviest [Cond.code yX1_doubtInHeaviest cX1_doubtInHeaviest 7 (some .int)] { frames := 1, cells := 0, slots := 0, locals := 13 } [.ref (x + 9)] μ z (rdP (some (.int (nI (if sumW σ K 26 = 0 then 100 else 100 - 100 * maxW σ K 26 / sumW σ K 26)))) μ z) (noX) := by
  refine Ct.of hl (by decide +kernel) (Nat.le_of_ble_eq_true rfl) ?_
  intro p e s mi args below meth c o hnm hr hx
  have o : Ok p l s mi args meth c g cX1_doubtInHeaviest 7 RX1 := o
  refine v_lv [(0, .ref (x + 9))] rfl ?_
  have L : ∀ d a, a + d = 26 → V p l e { frames := 1, cells := 0, slots := 0, locals := 13 } s mi args below meth c (vx_MQ below (cQc g (rdP (some (.int (nI (if sumW σ K 26 = 0 then 100 else 100 - 100 * maxW σ K 26 / sumW σ K 26)))) μ z)) (cXC g (noX)) args s ({ frames := 1, cells := 0, slots := 0, locals := 13 } : Room).cells ({ frames := 1, cells := 0, slots := 0, locals := 13 } : Room).slots (gA g)) g μ z 0 0 16 [(0, .ref (x + 9)), (1, .int (nI (maxW σ K a))), (2, .int (nI (sumW σ K a))), (3, .ref (x + 10)), (4, .int (nI 26)), (5, .int (nI a))] [] := by
    intro d
    induction d with
    | zero =>
      intro a ha
      obtain rfl : a = 26 := by omega
      have hs5 := sumW_le σ K 26; have hm5 := maxW_le σ K 26
      refine v_iload 5 o dX1_doubtInHeaviest_16 rfl ?_
      refine v_iload 4 o dX1_doubtInHeaviest_18 rfl ?_
      refine v_icmp_ge_n 47 o dX1_doubtInHeaviest_20 (by decide) (by decide) (by decide) (fun c20 => ?_) (fun c20 => absurd c20 (by omega))
      refine v_iload_n 2 o dX1_doubtInHeaviest_47 rfl rfl ?_
      refine v_if_ne_n 56 o dX1_doubtInHeaviest_48 (by decide) (by omega) (fun c48 => ?_) (fun c48 => ?_)
      · refine v_bipush 100 o dX1_doubtInHeaviest_56 (by decide) ?_
        refine v_bipush 100 o dX1_doubtInHeaviest_58 (by decide) ?_
        refine v_iload_n 1 o dX1_doubtInHeaviest_60 rfl rfl ?_
        refine v_imul (nI (100 * (maxW σ K 26))) o dX1_doubtInHeaviest_61 (pk_mul 100 (maxW σ K 26)) ?_
        refine v_iload_n 2 o dX1_doubtInHeaviest_62 rfl rfl ?_
        refine v_idiv (nI (100 * maxW σ K 26 / sumW σ K 26)) o dX1_doubtInHeaviest_63 (fun q => c48 ((nI_eq (by omega) (by decide : 0 < 2 ^ 31)).mp q)) (pk_div (by omega) (by omega) (by omega)) ?_
        refine v_isub (nI (100 - 100 * maxW σ K 26 / sumW σ K 26)) o dX1_doubtInHeaviest_64 (pk_sub (Nat.div_le_of_le_mul (by omega))) ?_
        exact v_iret o dX1_doubtInHeaviest_65 hr (Nat.le_of_ble_eq_true rfl) (Nat.le_of_ble_eq_true rfl) ⟨by rw [show (if sumW σ K 26 = 0 then 100 else 100 - 100 * maxW σ K 26 / sumW σ K 26) = 100 - 100 * maxW σ K 26 / sumW σ K 26 from if_neg c48], rfl, rfl⟩
      · refine v_bipush 100 o dX1_doubtInHeaviest_51 (by decide) ?_
        refine v_goto 65 o dX1_doubtInHeaviest_53 (by decide) ?_
        exact v_iret o dX1_doubtInHeaviest_65 hr (Nat.le_of_ble_eq_true rfl) (Nat.le_of_ble_eq_true rfl) ⟨by rw [show (if sumW σ K 26 = 0 then 100 else 100 - 100 * maxW σ K 26 / sumW σ K 26) = 100 from if_pos c48], rfl, rfl⟩
    | succ d ih =>
      intro a had
      have ha : a < 26 := by omega
      have hs5 := sumW_le σ K a; have hm5 := maxW_le σ K a
      have hw5 := wgt_le σ K (a + 1) 5
      have hwt := (hW a ha).1
      refine v_iload 5 o dX1_doubtInHeaviest_16 rfl ?_
      refine v_iload 4 o dX1_doubtInHeaviest_18 rfl ?_
      refine v_icmp_ge_n 47 o dX1_doubtInHeaviest_20 (by decide) (by omega) (by decide) (fun c20 => absurd c20 (by omega)) (fun c20 => ?_)
      refine v_aload_n 3 o dX1_doubtInHeaviest_23 rfl rfl ?_
      refine v_iload 5 o dX1_doubtInHeaviest_24 rfl ?_
      refine v_iald (nI (τ.1 1 a)) o dX1_doubtInHeaviest_26 (by omega) (by decide) hR.h10 rfl ?_
      refine v_top (nI (wgt σ K (a + 1) 5 - 1)) (by rw [hwt]) ?_
      refine v_istore [(6, .int (nI (wgt σ K (a + 1) 5 - 1))), (0, .ref (x + 9)), (1, .int (nI (maxW σ K a))), (2, .int (nI (sumW σ K a))), (3, .ref (x + 10)), (4, .int (nI 26)), (5, .int (nI a))] o dX1_doubtInHeaviest_27 (by decide) rfl ?_
      refine v_iload_n 2 o dX1_doubtInHeaviest_29 rfl rfl ?_
      refine v_iload 0 o dX1_doubtInHeaviest_30 rfl ?_
      refine v_mmax o dX1_doubtInHeaviest_32 ml_X1_25 st_max ini_math co_max (by decide) (by decide) (Nat.le_of_ble_eq_true rfl) (Nat.le_of_ble_eq_true rfl) ?_
      refine v_top (nI (maxW σ K (a + 1))) (max_nI (by omega) (by omega)) ?_
      refine v_istore_n [(1, .int (nI (maxW σ K (a + 1)))), (6, .int (nI (wgt σ K (a + 1) 5 - 1))), (0, .ref (x + 9)), (2, .int (nI (sumW σ K a))), (3, .ref (x + 10)), (4, .int (nI 26)), (5, .int (nI a))] o dX1_doubtInHeaviest_35 rfl (by decide) rfl ?_
      refine v_iload_n 3 o dX1_doubtInHeaviest_36 rfl rfl ?_
      refine v_iload 1 o dX1_doubtInHeaviest_37 rfl ?_
      refine v_iadd (nI (sumW σ K a + (wgt σ K (a + 1) 5 - 1))) o dX1_doubtInHeaviest_39 (nI_add (sumW σ K a) (wgt σ K (a + 1) 5 - 1)) ?_
      refine v_istore_n [(2, .int (nI (sumW σ K a + (wgt σ K (a + 1) 5 - 1)))), (1, .int (nI (maxW σ K (a + 1)))), (6, .int (nI (wgt σ K (a + 1) 5 - 1))), (0, .ref (x + 9)), (3, .ref (x + 10)), (4, .int (nI 26)), (5, .int (nI a))] o dX1_doubtInHeaviest_40 rfl (by decide) rfl ?_
      refine v_iinc (nI (a + 1)) [(5, .int (nI (a + 1))), (2, .int (nI (sumW σ K a + (wgt σ K (a + 1) 5 - 1)))), (1, .int (nI (maxW σ K (a + 1)))), (6, .int (nI (wgt σ K (a + 1) 5 - 1))), (0, .ref (x + 9)), (3, .ref (x + 10)), (4, .int (nI 26))] o dX1_doubtInHeaviest_41 6 rfl (iinc_n a 1) (by decide) rfl ?_
      refine v_goto 16 o dX1_doubtInHeaviest_44 (by decide) ?_
      refine v_sub [(0, .ref (x + 9)), (1, .int (nI (maxW σ K (a + 1)))), (2, .int (nI (sumW σ K a + (wgt σ K (a + 1) 5 - 1)))), (3, .ref (x + 10)), (4, .int (nI 26)), (5, .int (nI (a + 1)))] [4, 2, 1, 5, 6, 0] rfl ?_
      refine v_lv [(0, .ref (x + 9)), (1, .int (nI (maxW σ K (a + 1)))), (2, .int (nI (sumW σ K (a + 1)))), (3, .ref (x + 10)), (4, .int (nI 26)), (5, .int (nI (a + 1)))] rfl ?_
      exact ih (a + 1) (by omega)
  refine v_iconst 0 o dX1_doubtInHeaviest_0 rfl ?_
  refine v_istore_n [(1, .int (nI 0)), (0, .ref (x + 9))] o dX1_doubtInHeaviest_1 rfl (by decide) rfl ?_
  refine v_iconst 0 o dX1_doubtInHeaviest_2 rfl ?_
  refine v_istore_n [(2, .int (nI 0)), (1, .int (nI 0)), (0, .ref (x + 9))] o dX1_doubtInHeaviest_3 rfl (by decide) rfl ?_
  refine v_aload_n 2 o dX1_doubtInHeaviest_4 rfl rfl ?_
  refine v_get (v := .ref (x + 10)) o dX1_doubtInHeaviest_5 cf1 0 (by decide) fl_X1_9 hR.h9 rfl ?_
  refine v_astore_n [(3, .ref (x + 10)), (2, .int (nI 0)), (1, .int (nI 0)), (0, .ref (x + 9))] o dX1_doubtInHeaviest_8 rfl (by decide) rfl ?_
  refine v_aload_n 0 o dX1_doubtInHeaviest_9 rfl rfl ?_
  refine v_alen (t0 := 0) o dX1_doubtInHeaviest_10 rfl hR.h10 ?_
  refine v_top (nI 26) rfl ?_
  refine v_istore [(4, .int (nI 26)), (3, .ref (x + 10)), (2, .int (nI 0)), (1, .int (nI 0)), (0, .ref (x + 9))] o dX1_doubtInHeaviest_11 (by decide) rfl ?_
  refine v_iconst 0 o dX1_doubtInHeaviest_13 rfl ?_
  refine v_istore [(5, .int (nI 0)), (4, .int (nI 26)), (3, .ref (x + 10)), (2, .int (nI 0)), (1, .int (nI 0)), (0, .ref (x + 9))] o dX1_doubtInHeaviest_14 (by decide) rfl ?_
  refine v_sub [(0, .ref (x + 9)), (1, .int (nI 0)), (2, .int (nI 0)), (3, .ref (x + 10)), (4, .int (nI 26)), (5, .int (nI 0))] [5, 4, 3, 2, 1, 0] rfl ?_
  refine v_lv [(0, .ref (x + 9)), (1, .int (nI (maxW σ K 0))), (2, .int (nI (sumW σ K 0))), (3, .ref (x + 10)), (4, .int (nI 26)), (5, .int (nI 0))] rfl ?_
  exact L 26 0 rfl

