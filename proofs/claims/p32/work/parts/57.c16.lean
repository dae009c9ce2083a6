theorem Blk5 {σ : Sg} (hI : Inv σ) {v a : Nat} (hv : v < 4) (ha : a < 72) (h : ¬ (a / 12 < σ.1 3 0 ∧ a % 12 < σ.1 0 (a / 12))) : σ.2.1 5 (72 * v + a) = false := by
  have h1 := ((hI.2.2.2.2.2.2 (a / 12) (a % 12) (by omega) (by omega) h).2.1 v hv).1
  rwa [show 12 * (a / 12) + a % 12 = a by omega] at h1
theorem drp_up {σ : Sg} {v a b : Nat} (h1 : a ≤ b) (h : ∀ q, a ≤ q → q < b → σ.2.1 5 (72 * v + q) = false) : drp σ v 0 a = drp σ v 0 b := by
  have : (drp σ v 0 a).2.1 = (drp σ v 0 b).2.1 := funext fun k => funext fun i => by
    show (if k = 5 ∧ 72 * v + 0 ≤ i ∧ i < 72 * v + 0 + a then false else σ.2.1 k i) = if k = 5 ∧ 72 * v + 0 ≤ i ∧ i < 72 * v + 0 + b then false else σ.2.1 k i
    by_cases q : k = 5 ∧ 72 * v + 0 ≤ i ∧ i < 72 * v + 0 + a
    · rw [if_pos q, if_pos (by omega)]
    · rw [if_neg q]
      by_cases w : k = 5 ∧ 72 * v + 0 ≤ i ∧ i < 72 * v + 0 + b
      · rw [if_pos w]
        obtain ⟨rfl, w1, w2⟩ := w
        have := h (i - 72 * v) (by omega) (by omega)
        rwa [show 72 * v + (i - 72 * v) = i by omega] at this
      · rw [if_neg w]
  exact Prod.ext rfl (Prod.ext this rfl)
theorem drp_drp (σ : Sg) (v a j : Nat) : drp (drp σ v 0 a) v a j = drp σ v 0 (a + j) := by
  have : (drp (drp σ v 0 a) v a j).2.1 = (drp σ v 0 (a + j)).2.1 := funext fun k => funext fun i => by
    show (if k = 5 ∧ 72 * v + a ≤ i ∧ i < 72 * v + a + j then false else if k = 5 ∧ 72 * v + 0 ≤ i ∧ i < 72 * v + 0 + a then false else σ.2.1 k i) = if k = 5 ∧ 72 * v + 0 ≤ i ∧ i < 72 * v + 0 + (a + j) then false else σ.2.1 k i
    by_cases q : k = 5 ∧ 72 * v + a ≤ i ∧ i < 72 * v + a + j
    · rw [if_pos q, if_pos (by omega)]
    · rw [if_neg q]
      by_cases w : k = 5 ∧ 72 * v + 0 ≤ i ∧ i < 72 * v + 0 + a
      · rw [if_pos w, if_pos (by omega)]
      · rw [if_neg w, if_neg (by omega)]
  exact Prod.ext rfl (Prod.ext this rfl)
theorem drp_book {σ : Sg} (hI : Inv σ) {v i : Nat} (hv : v < 4) (hi : i < 6) : drp (drp σ v 0 (12 * i)) v (12 * i) (σ.1 0 i) = drp σ v 0 (12 * (i + 1)) := by
  rw [drp_drp]
  have h12 := hI.2.1 i
  exact drp_up (by omega) (fun q h1 h2 => Blk5 hI hv (by omega) (by rw [show q / 12 = i by omega]; omega))
theorem drp_tail {σ : Sg} (hI : Inv σ) {v i : Nat} (hv : v < 4) (hi : i ≤ 6) (hn : σ.1 3 0 ≤ i) : drp σ v 0 (12 * i) = drp σ v 0 72 := drp_up (by omega) (fun q h1 h2 => Blk5 hI hv (by omega) (by omega))
theorem drp_cnt (σ : Sg) (v a n : Nat) : cnt (fun q => (drp σ v 0 a).2.1 5 (72 * v + (a + q))) n = cnt (fun q => σ.2.1 5 (72 * v + (a + q))) n := cnt_congr n (fun k _ => if_neg (by omega))
theorem cnt_book {σ : Sg} (hI : Inv σ) {v i : Nat} (hv : v < 4) (hi : i < 6) : cnt (fun a => σ.2.1 5 (72 * v + a)) (12 * i) + cnt (fun q => σ.2.1 5 (72 * v + (12 * i + q))) (σ.1 0 i) = cnt (fun a => σ.2.1 5 (72 * v + a)) (12 * (i + 1)) := by
  have h12 := hI.2.1 i
  rw [← cnt_add (fun a => σ.2.1 5 (72 * v + a)) (12 * i) (σ.1 0 i), show 12 * (i + 1) = 12 * i + σ.1 0 i + (12 - σ.1 0 i) by omega]
  exact (cnt_blank _ (fun q h1 h2 => Blk5 hI hv (by omega) (by rw [show q / 12 = i by omega]; omega))).symm
theorem cnt_tail {σ : Sg} (hI : Inv σ) {v i : Nat} (hv : v < 4) (hi : i ≤ 6) (hn : σ.1 3 0 ≤ i) : cnt (fun a => σ.2.1 5 (72 * v + a)) (12 * i) = cnt (fun a => σ.2.1 5 (72 * v + a)) 72 := by
  have h1 := cnt_blank (f := fun a => σ.2.1 5 (72 * v + a)) (a := 12 * i) (72 - 12 * i) (fun q h1 h2 => Blk5 hI hv (by omega) (by omega))
  rw [← h1, show 12 * i + (72 - 12 * i) = 72 by omega]
set_option maxRecDepth 100000 in
set_option maxHeartbeats 4000000 in
theorem k_burn_t {l : Launch} (hl : l.stackTraces = false) {g : mG} {x z z0 : Nat} {B : Nat → Nat} {μ0 μ : mM} {σ τ : Sg} (hR : RC g x B z0 μ0 σ τ μ) (hI : Inv σ) (v : Nat) (hv : v < 4) (hb : σ.2.1 6 v = false) : Ct l g yX5_burn [Cond.code yX5_burn cX5_burn 7 (some .int)] { frames := 8, cells := 1, slots := 6, locals := 123 } [.ref x, .int (nI v)] μ z (clP g x z0 μ0 (some (.int (nI (cnt (fun a => σ.2.1 5 (72 * v + a)) 72)))) (uB (clr (th σ 0) v 72) 6 v true)) (clX ["java/lang/IndexOutOfBoundsException", "java/lang/IllegalStateException"] σ (uB (clr (th σ 0) v 72) 6 v true) μ) := by
  refine Ct.of hl (by decide +kernel) (Nat.le_of_ble_eq_true rfl) ?_
  intro p e s mi args below meth c o hnm hr hx
  have o : Ok p l s mi args meth c g cX5_burn 7 RX5 := o
  refine v_lv [(0, .ref x), (1, .int (nI v))] rfl ?_
  have h6 := hR.nb
  have T : ∀ (d i : Nat) (μq : mM), i + d = 6 → σ.1 3 0 ≤ i → RC g x B z0 μ0 (drp σ v 0 72) τ μq → V p l e { frames := 8, cells := 1, slots := 6, locals := 123 } s mi args below meth c (vx_MQ below (cQc g (clP g x z0 μ0 (some (.int (nI (cnt (fun a => σ.2.1 5 (72 * v + a)) 72)))) (uB (clr (th σ 0) v 72) 6 v true))) (cXC g (clX ["java/lang/IndexOutOfBoundsException", "java/lang/IllegalStateException"] σ (uB (clr (th σ 0) v 72) 6 v true) μ)) args s ({ frames := 8, cells := 1, slots := 6, locals := 123 } : Room).cells ({ frames := 8, cells := 1, slots := 6, locals := 123 } : Room).slots (gA g)) g μq z 0 0 19 [(0, .ref x), (1, .int (nI v)), (2, .int (nI (cnt (fun a => σ.2.1 5 (72 * v + a)) 72))), (3, .ref (x + 1)), (4, .int (nI 6)), (5, .int (nI i))] [] := by
    intro d
    induction d with
    | zero =>
      intro i μq hi6 hn hRq
      refine v_iload 5 o dX5_burn_19 rfl ?_
      refine v_iload 4 o dX5_burn_21 rfl ?_
      refine v_icmp_ge_n 52 o dX5_burn_23 (by decide) (by omega) (by decide) (fun c23 => ?_) (fun c23 => absurd c23 (by omega))
      refine v_aload_n 0 o dX5_burn_52 rfl rfl ?_
      refine v_get (v := .ref (x + 2)) o dX5_burn_53 cf5 3 (by decide) fl_X5_15 hRq.h0 rfl ?_
      refine v_iload_n 1 o dX5_burn_56 rfl rfl ?_
      refine v_iconst 1 o dX5_burn_57 rfl ?_
      refine v_top (bI true) rfl ?_
      refine v_zast o dX5_burn_58 (by omega) (by decide) (nar_bI _) hRq.h2 (fun μ1 e1 => ?_)
      have hR1 := hRq.u_burnt (k0 := v) (v := true) e1
      refine v_iload_n 2 o dX5_burn_59 rfl rfl ?_
      exact v_iret o dX5_burn_60 hr (Nat.le_of_ble_eq_true rfl) (Nat.le_of_ble_eq_true rfl) ⟨rfl, rfl, B, τ, by rw [clr_drp]; exact hR1.thk 0⟩
    | succ d ih =>
      intro i μq hid hge hRq
      have hi6 : i < 6 := by omega
      have hn : ¬ i < σ.1 3 0 := by omega
      refine v_iload 5 o dX5_burn_19 rfl ?_
      refine v_iload 4 o dX5_burn_21 rfl ?_
      refine v_icmp_ge_n 52 o dX5_burn_23 (by decide) (by omega) (by decide) (fun c23 => absurd c23 (by omega)) (fun c23 => ?_)
      refine v_aload_n 3 o dX5_burn_26 rfl rfl ?_
      refine v_iload 5 o dX5_burn_27 rfl ?_
      refine v_aald (t0 := 4) .null o dX5_burn_29 rfl hi6 (by decide) hRq.h1 (by simp only [if_neg (show ¬ i < σ.1 3 0 from hn)]; rfl) ?_
      refine v_anstore [(6, .null), (0, .ref x), (1, .int (nI v)), (2, .int (nI (cnt (fun a => σ.2.1 5 (72 * v + a)) 72))), (3, .ref (x + 1)), (4, .int (nI 6)), (5, .int (nI i))] o dX5_burn_30 (by decide) rfl ?_
      refine v_anload 0 o dX5_burn_32 rfl ?_
      refine v_ifnullN 46 o dX5_burn_34 (by decide) ?_
      refine v_iinc (nI (i + 1)) [(5, .int (nI (i + 1))), (6, .null), (0, .ref x), (1, .int (nI v)), (2, .int (nI (cnt (fun a => σ.2.1 5 (72 * v + a)) 72))), (3, .ref (x + 1)), (4, .int (nI 6))] o dX5_burn_46 6 rfl (iinc_n i 1) (by decide) rfl ?_
      refine v_goto 19 o dX5_burn_49 (by decide) ?_
      refine v_sub [(0, .ref x), (1, .int (nI v)), (2, .int (nI (cnt (fun a => σ.2.1 5 (72 * v + a)) 72))), (3, .ref (x + 1)), (4, .int (nI 6)), (5, .int (nI (i + 1)))] [2, 3, 4, 5, 6, 0] rfl ?_
      exact ih (i + 1) _ (by omega) (by omega) hRq
  have L : ∀ (d i : Nat) (μq : mM), i + d = σ.1 3 0 → RC g x B z0 μ0 (drp σ v 0 (12 * i)) τ μq → V p l e { frames := 8, cells := 1, slots := 6, locals := 123 } s mi args below meth c (vx_MQ below (cQc g (clP g x z0 μ0 (some (.int (nI (cnt (fun a => σ.2.1 5 (72 * v + a)) 72)))) (uB (clr (th σ 0) v 72) 6 v true))) (cXC g (clX ["java/lang/IndexOutOfBoundsException", "java/lang/IllegalStateException"] σ (uB (clr (th σ 0) v 72) 6 v true) μ)) args s ({ frames := 8, cells := 1, slots := 6, locals := 123 } : Room).cells ({ frames := 8, cells := 1, slots := 6, locals := 123 } : Room).slots (gA g)) g μq z 0 0 19 [(0, .ref x), (1, .int (nI v)), (2, .int (nI (cnt (fun a => σ.2.1 5 (72 * v + a)) (12 * i)))), (3, .ref (x + 1)), (4, .int (nI 6)), (5, .int (nI i))] [] := by
    intro d
    induction d with
    | zero =>
      intro i μq hie hRq
      refine v_lv [(0, .ref x), (1, .int (nI v)), (2, .int (nI (cnt (fun a => σ.2.1 5 (72 * v + a)) 72))), (3, .ref (x + 1)), (4, .int (nI 6)), (5, .int (nI i))] (by rw [cnt_tail hI hv (by omega) (by omega)]) ?_
      exact T (6 - i) i _ (by omega) (by omega) (by rw [← drp_tail hI hv (show i ≤ 6 by omega) (by omega)]; exact hRq)
    | succ d ih =>
      intro i μq hid hRq
      have hi : i < σ.1 3 0 := by omega
      refine v_iload 5 o dX5_burn_19 rfl ?_
      refine v_iload 4 o dX5_burn_21 rfl ?_
      refine v_icmp_ge_n 52 o dX5_burn_23 (by decide) (by omega) (by decide) (fun c23 => absurd c23 (by omega)) (fun c23 => ?_)
      refine v_aload_n 3 o dX5_burn_26 rfl rfl ?_
      refine v_iload 5 o dX5_burn_27 rfl ?_
      refine v_aald (t0 := 4) (.ref (B i)) o dX5_burn_29 rfl (by omega) (by decide) hRq.h1 (by simp only [if_pos (show i < σ.1 3 0 from hi)]; rfl) ?_
      refine v_astore [(6, .ref (B i)), (0, .ref x), (1, .int (nI v)), (2, .int (nI (cnt (fun a => σ.2.1 5 (72 * v + a)) (12 * i)))), (3, .ref (x + 1)), (4, .int (nI 6)), (5, .int (nI i))] o dX5_burn_30 (by decide) rfl ?_
      refine v_aload 0 o dX5_burn_32 rfl ?_
      refine v_ifnull o dX5_burn_34 ?_
      refine v_iload_n 3 o dX5_burn_37 rfl rfl ?_
      refine v_aload 0 o dX5_burn_38 rfl ?_
      refine v_iload_n 2 o dX5_burn_40 rfl rfl ?_
      refine v_callV [.int (nI v)] [.int (nI (cnt (fun a => σ.2.1 5 (72 * v + a)) (12 * i)))] o dX5_burn_41 cw_X5_146 im_X0_dropCopies se_X0_dropCopies cf0 (hRq.bk hi) (c_drop hl hRq i hi v hv) rfl rfl (by decide) (by decide) (Nat.le_of_ble_eq_true rfl) ?_ (fun _ _ _ _ h => h.elim)
      rintro _ μ2 _ _ ⟨rfl, hR2, rfl⟩
      refine v_st [.int (nI (cnt (fun q => (drp σ v 0 (12 * i)).2.1 5 (72 * v + (12 * i + q))) (σ.1 0 i))), .int (nI (cnt (fun a => σ.2.1 5 (72 * v + a)) (12 * i)))] rfl ?_
      refine v_iadd (nI ((cnt (fun a => σ.2.1 5 (72 * v + a)) (12 * i)) + (cnt (fun q => (drp σ v 0 (12 * i)).2.1 5 (72 * v + (12 * i + q))) (σ.1 0 i)))) o dX5_burn_44 (nI_add (cnt (fun a => σ.2.1 5 (72 * v + a)) (12 * i)) (cnt (fun q => (drp σ v 0 (12 * i)).2.1 5 (72 * v + (12 * i + q))) (σ.1 0 i))) ?_
      refine v_istore_n [(2, .int (nI ((cnt (fun a => σ.2.1 5 (72 * v + a)) (12 * i)) + (cnt (fun q => (drp σ v 0 (12 * i)).2.1 5 (72 * v + (12 * i + q))) (σ.1 0 i))))), (6, .ref (B i)), (0, .ref x), (1, .int (nI v)), (3, .ref (x + 1)), (4, .int (nI 6)), (5, .int (nI i))] o dX5_burn_45 rfl (by decide) rfl ?_
      refine v_iinc (nI (i + 1)) [(5, .int (nI (i + 1))), (2, .int (nI ((cnt (fun a => σ.2.1 5 (72 * v + a)) (12 * i)) + (cnt (fun q => (drp σ v 0 (12 * i)).2.1 5 (72 * v + (12 * i + q))) (σ.1 0 i))))), (6, .ref (B i)), (0, .ref x), (1, .int (nI v)), (3, .ref (x + 1)), (4, .int (nI 6))] o dX5_burn_46 6 rfl (iinc_n i 1) (by decide) rfl ?_
      refine v_goto 19 o dX5_burn_49 (by decide) ?_
      refine v_sub [(0, .ref x), (1, .int (nI v)), (2, .int (nI ((cnt (fun a => σ.2.1 5 (72 * v + a)) (12 * i)) + (cnt (fun q => (drp σ v 0 (12 * i)).2.1 5 (72 * v + (12 * i + q))) (σ.1 0 i))))), (3, .ref (x + 1)), (4, .int (nI 6)), (5, .int (nI (i + 1)))] [3, 4, 1, 5, 6, 0] rfl ?_
      refine v_lv [(0, .ref x), (1, .int (nI v)), (2, .int (nI (cnt (fun a => σ.2.1 5 (72 * v + a)) (12 * (i + 1))))), (3, .ref (x + 1)), (4, .int (nI 6)), (5, .int (nI (i + 1)))] (by rw [drp_cnt, cnt_book hI hv (by omega)]) ?_
      exact ih (i + 1) _ (by omega) (by rw [← drp_book hI hv (by omega)]; exact hR2)
  refine v_aload_n 0 o dX5_burn_0 rfl rfl ?_
  refine v_iload_n 1 o dX5_burn_1 rfl rfl ?_
  refine v_callV [.int (nI v)] [] o dX5_burn_2 cw_X5_143 im_X5_needStandingVault se_X5_needStandingVault cf5 hR.h0 (c_standing_t hl hR v (by omega) hb) rfl rfl (by decide) (by decide) (Nat.le_of_ble_eq_true rfl) ?_ (fun _ _ _ _ h => h.elim)
  rintro _ _ _ _ ⟨rfl, rfl, hz9⟩
  subst hz9
  refine v_st [] rfl ?_
  refine v_iconst 0 o dX5_burn_5 rfl ?_
  refine v_istore_n [(2, .int (nI 0)), (0, .ref x), (1, .int (nI v))] o dX5_burn_6 rfl (by decide) rfl ?_
  refine v_aload_n 1 o dX5_burn_7 rfl rfl ?_
  refine v_get (v := .ref (x + 1)) o dX5_burn_8 cf5 0 (by decide) fl_X5_11 hR.h0 rfl ?_
  refine v_astore_n [(3, .ref (x + 1)), (2, .int (nI 0)), (0, .ref x), (1, .int (nI v))] o dX5_burn_11 rfl (by decide) rfl ?_
  refine v_aload_n 0 o dX5_burn_12 rfl rfl ?_
  refine v_alen (t0 := 4) o dX5_burn_13 rfl hR.h1 ?_
  refine v_top (nI 6) rfl ?_
  refine v_istore [(4, .int (nI 6)), (3, .ref (x + 1)), (2, .int (nI 0)), (0, .ref x), (1, .int (nI v))] o dX5_burn_14 (by decide) rfl ?_
  refine v_iconst 0 o dX5_burn_16 rfl ?_
  refine v_istore [(5, .int (nI 0)), (4, .int (nI 6)), (3, .ref (x + 1)), (2, .int (nI 0)), (0, .ref x), (1, .int (nI v))] o dX5_burn_17 (by decide) rfl ?_
  refine v_sub [(0, .ref x), (1, .int (nI v)), (2, .int (nI 0)), (3, .ref (x + 1)), (4, .int (nI 6)), (5, .int (nI 0))] [4, 5, 3, 2, 1, 0] rfl ?_
  refine v_lv [(0, .ref x), (1, .int (nI v)), (2, .int (nI (cnt (fun a => σ.2.1 5 (72 * v + a)) (12 * 0)))), (3, .ref (x + 1)), (4, .int (nI 6)), (5, .int (nI 0))] rfl ?_
  exact L (σ.1 3 0) 0 _ (by omega) (by rw [drp_0]; exact hR)

set_option maxRecDepth 100000 in
set_option maxHeartbeats 4000000 in
theorem k_burn {l : Launch} (hl : l.stackTraces = false) {g : mG} {x z z0 : Nat} {B : Nat → Nat} {μ0 μ : mM} {σ τ : Sg} (hR : RC g x B z0 μ0 σ τ μ) (hI : Inv σ) (v : Int32) : Ct l g yX5_burn [Cond.code yX5_burn cX5_burn 7 (some .int)] { frames := 8, cells := 1, slots := 6, locals := 123 } [.ref x, .int v] μ z (clP g x z0 μ0 (some (.int (sp_burn σ v).1)) (sp_burn σ v).2) (clX ["java/lang/IndexOutOfBoundsException", "java/lang/IllegalStateException"] σ (sp_burn σ v).2 μ) := by
  cases hV : isV v with
  | false =>
    have hO : okI v 4 = false := by rw [← isV_ok]; exact hV
    refine Ct.of hl (by decide +kernel) (Nat.le_of_ble_eq_true rfl) ?_
    intro p e s mi args below meth c o hnm hr hx
    have o : Ok p l s mi args meth c g cX5_burn 7 RX5 := o
    refine v_lv [(0, .ref x), (1, .int v)] rfl ?_
    refine v_aload_n 0 o dX5_burn_0 rfl rfl ?_
    refine v_iload_n 1 o dX5_burn_1 rfl rfl ?_
    refine v_callV [.int v] [] o dX5_burn_2 cw_X5_143 im_X5_needStandingVault se_X5_needStandingVault cf5 hR.h0 (c_standing_v hl hR v hO) rfl rfl (by decide) (by decide) (Nat.le_of_ble_eq_true rfl) (fun _ _ _ _ h => h.elim) ?_
    rintro _ _ z9 hz ⟨rfl, rfl, -⟩
    exact v_out o hx (by decide) (by decide) ⟨⟨0, (by simp [sp_burn, hV] : (sp_burn σ v).2 = th σ 1), rfl⟩, rfl⟩
  | true =>
    obtain ⟨vn, hv, rfl⟩ := isV_t hV
    have tv : tn (nI vn) = vn := tn_nI (by omega)
    cases hb : σ.2.1 6 vn with
    | true =>
      refine Ct.of hl (by decide +kernel) (Nat.le_of_ble_eq_true rfl) ?_
      intro p e s mi args below meth c o hnm hr hx
      have o : Ok p l s mi args meth c g cX5_burn 7 RX5 := o
      refine v_lv [(0, .ref x), (1, .int (nI vn))] rfl ?_
      refine v_aload_n 0 o dX5_burn_0 rfl rfl ?_
      refine v_iload_n 1 o dX5_burn_1 rfl rfl ?_
      refine v_callV [.int (nI vn)] [] o dX5_burn_2 cw_X5_143 im_X5_needStandingVault se_X5_needStandingVault cf5 hR.h0 (c_standing_f hl hR vn (by omega) hb) rfl rfl (by decide) (by decide) (Nat.le_of_ble_eq_true rfl) (fun _ _ _ _ h => h.elim) ?_
      rintro _ _ z9 hz ⟨rfl, rfl, -⟩
      exact v_out o hx (by decide) (by decide) ⟨⟨1, (by simp [sp_burn, hV, tv, hb] : (sp_burn σ (nI vn)).2 = th σ 2), rfl⟩, rfl⟩
    | false =>
      have e9 : sp_burn σ (nI vn) = (nI (cnt (fun a => σ.2.1 5 (72 * vn + a)) 72), uB (clr (th σ 0) vn 72) 6 vn true) := by simp [sp_burn, hV, tv, hb]
      rw [e9]
      exact k_burn_t hl hR hI vn (by omega) hb

theorem th_31 (σ : Sg) (k : Nat) : (th σ k).1 3 1 = k := by show u2 σ.1 3 1 k 3 1 = k; exact u2_s
theorem mnd_eta (σ : Sg) (v b n : Nat) : (mnd σ v b n).2 = (σ.1, (mnd σ v b n).2.2) := Prod.ext (mnd_N σ v b n) rfl
theorem mnd_st (σ : Sg) (v b n : Nat) : (mnd σ v b (n + 1)).2 = mn1 (mnd σ v b n).2 v (12 * b + n) := by
  show (if (!decide (lowest (mnd σ v b n).2 (12 * b + n) = 0) && !hb (mnd σ v b n).2 v (12 * b + n)) = true then _ else mnd σ v b n).2 = if (!decide (lowest (mnd σ v b n).2 (12 * b + n) = 0) && !hb (mnd σ v b n).2 v (12 * b + n)) = true then _ else _
  split <;> rfl
theorem mnd_t {σ : Sg} {v b n : Nat} (h : (!decide (lowest (mnd σ v b n).2 (12 * b + n) = 0) && !hb (mnd σ v b n).2 v (12 * b + n)) = true) : (mnd σ v b (n + 1)).1 = (mnd σ v b n).1 + 1 := by
  show (if (!decide (lowest (mnd σ v b n).2 (12 * b + n) = 0) && !hb (mnd σ v b n).2 v (12 * b + n)) = true then _ else mnd σ v b n).1 = _
  rw [if_pos h]
theorem mnd_f {σ : Sg} {v b n : Nat} (h : (!decide (lowest (mnd σ v b n).2 (12 * b + n) = 0) && !hb (mnd σ v b n).2 v (12 * b + n)) = false) : (mnd σ v b (n + 1)).1 = (mnd σ v b n).1 := by
  show (if (!decide (lowest (mnd σ v b n).2 (12 * b + n) = 0) && !hb (mnd σ v b n).2 v (12 * b + n)) = true then _ else mnd σ v b n).1 = _
  rw [if_neg (by rw [h]; decide)]
theorem mnd_th (σ : Sg) (v b c : Nat) : ∀ n, mnd (th σ c) v b n = ((mnd σ v b n).1, th (mnd σ v b n).2 c)
  | 0 => rfl
  | n + 1 => by
    show (if (!decide (lowest (mnd (th σ c) v b n).2 (12 * b + n) = 0) && !hb (mnd (th σ c) v b n).2 v (12 * b + n)) = true then ((mnd (th σ c) v b n).1 + 1, uL (uB (mnd (th σ c) v b n).2 5 (72 * v + (12 * b + n)) true) 1 (72 * v + (12 * b + n)) ((mnd (th σ c) v b n).2.2.2.2 1 (72 * (lowest (mnd (th σ c) v b n).2 (12 * b + n) - 1) + (12 * b + n)))) else mnd (th σ c) v b n) = _
    rw [mnd_th σ v b c n]
    show (if (!decide (lowest (mnd σ v b n).2 (12 * b + n) = 0) && !hb (mnd σ v b n).2 v (12 * b + n)) = true then _ else _) = ((if (!decide (lowest (mnd σ v b n).2 (12 * b + n) = 0) && !hb (mnd σ v b n).2 v (12 * b + n)) = true then _ else mnd σ v b n).1, th (if (!decide (lowest (mnd σ v b n).2 (12 * b + n) = 0) && !hb (mnd σ v b n).2 v (12 * b + n)) = true then _ else mnd σ v b n).2 c)
    split <;> rfl
set_option maxRecDepth 100000 in
set_option maxHeartbeats 4000000 in
theorem k_mend_t {l : Launch} (hl : l.stackTraces = false) {g : mG} {x z z0 : Nat} {B : Nat → Nat} {μ0 μ : mM} {σ τ : Sg} (hR : RC g x B z0 μ0 σ τ μ) (hI : Inv σ) (v : Nat) (hv : v < 4) (hbv : σ.2.1 6 v = false) (i : Nat) (hi : i < σ.1 3 0) : Ct l g yX5_mend [Cond.code yX5_mend cX5_mend 9 (some .int)] { frames := 8, cells := 1, slots := 6, locals := 123 } [.ref x, .int (nI v), .int (nI i)] μ z (clP g x z0 μ0 (some (.int (nI (mnd (th σ 0) v i (σ.1 0 i)).1))) (mnd (th σ 0) v i (σ.1 0 i)).2) (clX ["java/lang/IndexOutOfBoundsException", "java/lang/IllegalStateException"] σ (mnd (th σ 0) v i (σ.1 0 i)).2 μ) := by
  refine Ct.of hl (by decide +kernel) (Nat.le_of_ble_eq_true rfl) ?_
  intro p e s mi args below meth c o hnm hr hx
  have o : Ok p l s mi args meth c g cX5_mend 9 RX5 := o
  refine v_lv [(0, .ref x), (1, .int (nI v)), (2, .int (nI i))] rfl ?_
  have h12 := hR.np i
  have L : ∀ (d j : Nat) (μq : mM), j + d = σ.1 0 i → RC g x B z0 μ0 (σ.1, (mnd σ v i j).2.2) τ μq → V p l e { frames := 8, cells := 1, slots := 6, locals := 123 } s mi args below meth c (vx_MQ below (cQc g (clP g x z0 μ0 (some (.int (nI (mnd (th σ 0) v i (σ.1 0 i)).1))) (mnd (th σ 0) v i (σ.1 0 i)).2)) (cXC g (clX ["java/lang/IndexOutOfBoundsException", "java/lang/IllegalStateException"] σ (mnd (th σ 0) v i (σ.1 0 i)).2 μ)) args s ({ frames := 8, cells := 1, slots := 6, locals := 123 } : Room).cells ({ frames := 8, cells := 1, slots := 6, locals := 123 } : Room).slots (gA g)) g μq z 0 0 28 [(0, .ref x), (1, .int (nI v)), (4, .int (nI ((mnd σ v i j).1))), (5, .ref (B i + 1)), (6, .int (nI (σ.1 0 i))), (7, .int (nI j))] [] := by
    intro d
    induction d with
    | zero =>
      intro j μq hj hRq
      refine v_iload 5 o dX5_mend_28 rfl ?_
      refine v_iload 4 o dX5_mend_30 rfl ?_
      refine v_icmp_ge_n 60 o dX5_mend_32 (by decide) (by omega) (by omega) (fun c32 => ?_) (fun c32 => absurd c32 (by omega))
      refine v_iload 2 o dX5_mend_60 rfl ?_
      exact v_iret o dX5_mend_62 hr (Nat.le_of_ble_eq_true rfl) (Nat.le_of_ble_eq_true rfl) ⟨by rw [mnd_th, show σ.1 0 i = j by omega], by rw [mnd_th]; exact th_31 _ _, B, τ, by rw [mnd_th, mnd_eta, show σ.1 0 i = j by omega]; exact hRq.thk 0⟩
    | succ d ih =>
      intro j μq hjd hRq
      have hj : j < σ.1 0 i := by omega
      refine v_iload 5 o dX5_mend_28 rfl ?_
      refine v_iload 4 o dX5_mend_30 rfl ?_
      refine v_icmp_ge_n 60 o dX5_mend_32 (by decide) (by omega) (by omega) (fun c32 => absurd c32 (by omega)) (fun c32 => ?_)
      refine v_aload 3 o dX5_mend_35 rfl ?_
      refine v_iload 5 o dX5_mend_37 rfl ?_
      refine v_aald (t0 := 3) (.ref (pA B i j)) o dX5_mend_39 rfl hj (by omega) (hRq.ps hi) (by simp only [if_pos (show j < σ.1 0 i from hj)]; rfl) ?_
      refine v_astore [(8, .ref (pA B i j)), (0, .ref x), (1, .int (nI v)), (4, .int (nI ((mnd σ v i j).1))), (5, .ref (B i + 1)), (6, .int (nI (σ.1 0 i))), (7, .int (nI j))] o dX5_mend_40 (by decide) rfl ?_
      refine v_aload 0 o dX5_mend_42 rfl ?_
      refine v_iload_n 2 o dX5_mend_44 rfl rfl ?_
      refine v_callV [.int (nI v)] [] o dX5_mend_45 cw_X5_167 im_X2_mendIn se_X2_mendIn cf2 (hRq.p0 hi hj) (c_mendIn hl hRq i j hi hj v hv) rfl rfl (by decide) (by decide) (Nat.le_of_ble_eq_true rfl) ?_ (fun _ _ _ _ h => h.elim)
      rintro _ μ1 _ _ ⟨rfl, hR1, rfl⟩
      obtain ⟨mc, hmc⟩ : ∃ c, c = (!decide (lowest (mnd σ v i j).2 (12 * i + j) = 0) && !hb (mnd σ v i j).2 v (12 * i + j)) := ⟨_, rfl⟩
      refine v_st [.int (bI mc)] (by rw [hmc, mnd_eta]; rfl) ?_
      refine v_if_eq_b 54 o dX5_mend_48 (by decide) (fun c48 => ?_) (fun c48 => ?_)
      · refine v_iinc (nI (j + 1)) [(7, .int (nI (j + 1))), (8, .ref (pA B i j)), (0, .ref x), (1, .int (nI v)), (4, .int (nI ((mnd σ v i j).1))), (5, .ref (B i + 1)), (6, .int (nI (σ.1 0 i)))] o dX5_mend_54 6 rfl (iinc_n j 1) (by decide) rfl ?_
        refine v_goto 28 o dX5_mend_57 (by decide) ?_
        refine v_sub [(0, .ref x), (1, .int (nI v)), (4, .int (nI ((mnd σ v i j).1))), (5, .ref (B i + 1)), (6, .int (nI (σ.1 0 i))), (7, .int (nI (j + 1)))] [2, 3, 4, 5, 6, 0] rfl ?_
        refine v_lv [(0, .ref x), (1, .int (nI v)), (4, .int (nI ((mnd σ v i (j + 1)).1))), (5, .ref (B i + 1)), (6, .int (nI (σ.1 0 i))), (7, .int (nI (j + 1)))] (by rw [mnd_f (hmc.symm.trans c48)]) ?_
        exact ih (j + 1) _ (by omega) (by rw [← mnd_eta, mnd_st, mnd_eta]; exact hR1)
      · refine v_iinc (nI ((mnd σ v i j).1 + 1)) [(4, .int (nI ((mnd σ v i j).1 + 1))), (8, .ref (pA B i j)), (0, .ref x), (1, .int (nI v)), (5, .ref (B i + 1)), (6, .int (nI (σ.1 0 i))), (7, .int (nI j))] o dX5_mend_51 3 rfl (iinc_n ((mnd σ v i j).1) 1) (by decide) rfl ?_
        refine v_iinc (nI (j + 1)) [(7, .int (nI (j + 1))), (4, .int (nI ((mnd σ v i j).1 + 1))), (8, .ref (pA B i j)), (0, .ref x), (1, .int (nI v)), (5, .ref (B i + 1)), (6, .int (nI (σ.1 0 i)))] o dX5_mend_54 6 rfl (iinc_n j 1) (by decide) rfl ?_
        refine v_goto 28 o dX5_mend_57 (by decide) ?_
        refine v_sub [(0, .ref x), (1, .int (nI v)), (4, .int (nI ((mnd σ v i j).1 + 1))), (5, .ref (B i + 1)), (6, .int (nI (σ.1 0 i))), (7, .int (nI (j + 1)))] [3, 4, 1, 5, 6, 0] rfl ?_
        refine v_lv [(0, .ref x), (1, .int (nI v)), (4, .int (nI ((mnd σ v i (j + 1)).1))), (5, .ref (B i + 1)), (6, .int (nI (σ.1 0 i))), (7, .int (nI (j + 1)))] (by rw [mnd_t (hmc.symm.trans c48)]) ?_
        exact ih (j + 1) _ (by omega) (by rw [← mnd_eta, mnd_st, mnd_eta]; exact hR1)
  refine v_aload_n 0 o dX5_mend_0 rfl rfl ?_
  refine v_iload_n 2 o dX5_mend_1 rfl rfl ?_
  refine v_callVr (v := .ref (B i)) [.int (nI i)] [] o dX5_mend_2 cw_X5_79 im_X5_bookAt se_X5_bookAt cf5 hR.h0 (c_bookAt_t hl hR i hi) rfl rfl (by decide) ⟨rfl, rfl⟩ (by decide) (Nat.le_of_ble_eq_true rfl) ?_
  refine v_astore_n [(3, .ref (B i)), (0, .ref x), (1, .int (nI v)), (2, .int (nI i))] o dX5_mend_5 rfl (by decide) rfl ?_
  refine v_aload_n 1 o dX5_mend_6 rfl rfl ?_
  refine v_iload_n 2 o dX5_mend_7 rfl rfl ?_
  refine v_callV [.int (nI v)] [] o dX5_mend_8 cw_X5_143 im_X5_needStandingVault se_X5_needStandingVault cf5 hR.h0 (c_standing_t hl hR v (by omega) hbv) rfl rfl (by decide) (by decide) (Nat.le_of_ble_eq_true rfl) ?_ (fun _ _ _ _ h => h.elim)
  rintro _ _ _ _ ⟨rfl, rfl, hz9⟩
  subst hz9
  refine v_st [] rfl ?_
  refine v_iconst 0 o dX5_mend_11 rfl ?_
  refine v_istore [(4, .int (nI 0)), (3, .ref (B i)), (0, .ref x), (1, .int (nI v)), (2, .int (nI i))] o dX5_mend_12 (by decide) rfl ?_
  refine v_aload_n 1 o dX5_mend_14 rfl rfl ?_
  refine v_get (v := .ref (B i + 1)) o dX5_mend_15 cf0 0 (by decide) fl_X5_152 (hR.bk hi) rfl ?_
  refine v_astore [(5, .ref (B i + 1)), (4, .int (nI 0)), (3, .ref (B i)), (0, .ref x), (1, .int (nI v)), (2, .int (nI i))] o dX5_mend_18 (by decide) rfl ?_
  refine v_aload 0 o dX5_mend_20 rfl ?_
  refine v_alen (t0 := 3) o dX5_mend_22 rfl (hR.ps hi) ?_
  refine v_top (nI (σ.1 0 i)) rfl ?_
  refine v_istore [(6, .int (nI (σ.1 0 i))), (5, .ref (B i + 1)), (4, .int (nI 0)), (3, .ref (B i)), (0, .ref x), (1, .int (nI v)), (2, .int (nI i))] o dX5_mend_23 (by decide) rfl ?_
  refine v_iconst 0 o dX5_mend_25 rfl ?_
  refine v_istore [(7, .int (nI 0)), (6, .int (nI (σ.1 0 i))), (5, .ref (B i + 1)), (4, .int (nI 0)), (3, .ref (B i)), (0, .ref x), (1, .int (nI v)), (2, .int (nI i))] o dX5_mend_26 (by decide) rfl ?_
  refine v_sub [(0, .ref x), (1, .int (nI v)), (4, .int (nI 0)), (5, .ref (B i + 1)), (6, .int (nI (σ.1 0 i))), (7, .int (nI 0))] [5, 6, 3, 2, 1, 0] rfl ?_
  refine v_lv [(0, .ref x), (1, .int (nI v)), (4, .int (nI ((mnd σ v i 0).1))), (5, .ref (B i + 1)), (6, .int (nI (σ.1 0 i))), (7, .int (nI 0))] rfl ?_
  exact L (σ.1 0 i) 0 _ (by omega) hR

set_option maxRecDepth 100000 in
set_option maxHeartbeats 4000000 in
theorem k_mend {l : Launch} (hl : l.stackTraces = false) {g : mG} {x z z0 : Nat} {B : Nat → Nat} {μ0 μ : mM} {σ τ : Sg} (hR : RC g x B z0 μ0 σ τ μ) (hI : Inv σ) (v b : Int32) : Ct l g yX5_mend [Cond.code yX5_mend cX5_mend 9 (some .int)] { frames := 8, cells := 1, slots := 6, locals := 123 } [.ref x, .int v, .int b] μ z (clP g x z0 μ0 (some (.int (sp_mend σ v b).1)) (sp_mend σ v b).2) (clX ["java/lang/IndexOutOfBoundsException", "java/lang/IllegalStateException"] σ (sp_mend σ v b).2 μ) := by
  cases hB : isB σ b with
  | false =>
    refine Ct.of hl (by decide +kernel) (Nat.le_of_ble_eq_true rfl) ?_
    intro p e s mi args below meth c o hnm hr hx
    have o : Ok p l s mi args meth c g cX5_mend 9 RX5 := o
    refine v_lv [(0, .ref x), (1, .int v), (2, .int b)] rfl ?_
    refine v_aload_n 0 o dX5_mend_0 rfl rfl ?_
    refine v_iload_n 2 o dX5_mend_1 rfl rfl ?_
    refine v_callV [.int b] [] o dX5_mend_2 cw_X5_79 im_X5_bookAt se_X5_bookAt cf5 hR.h0 (c_bookAt_f hl hR b hB) rfl rfl (by decide) (by decide) (Nat.le_of_ble_eq_true rfl) (fun _ _ _ _ h => h.elim) ?_
    rintro _ _ z9 hz ⟨rfl, rfl, -⟩
    exact v_out o hx (by decide) (by decide) ⟨⟨0, (by simp [sp_mend, hB] : (sp_mend σ v b).2 = th σ 1), rfl⟩, rfl⟩
  | true =>
    obtain ⟨i, hi, rfl⟩ := isB_t hI hB
    have h6 := hI.1
    have h12 := hI.2.1 i
    have ti : tn (nI i) = i := tn_nI (by omega)
    cases hV : isV v with
    | false =>
      have hO : okI v 4 = false := by rw [← isV_ok]; exact hV
      refine Ct.of hl (by decide +kernel) (Nat.le_of_ble_eq_true rfl) ?_
      intro p e s mi args below meth c o hnm hr hx
      have o : Ok p l s mi args meth c g cX5_mend 9 RX5 := o
      refine v_lv [(0, .ref x), (1, .int v), (2, .int (nI i))] rfl ?_
      refine v_aload_n 0 o dX5_mend_0 rfl rfl ?_
      refine v_iload_n 2 o dX5_mend_1 rfl rfl ?_
      refine v_callVr (v := .ref (B i)) [.int (nI i)] [] o dX5_mend_2 cw_X5_79 im_X5_bookAt se_X5_bookAt cf5 hR.h0 (c_bookAt_t hl hR i hi) rfl rfl (by decide) ⟨rfl, rfl⟩ (by decide) (Nat.le_of_ble_eq_true rfl) ?_
      refine v_astore_n [(3, .ref (B i)), (0, .ref x), (1, .int v), (2, .int (nI i))] o dX5_mend_5 rfl (by decide) rfl ?_
      refine v_aload_n 1 o dX5_mend_6 rfl rfl ?_
      refine v_iload_n 2 o dX5_mend_7 rfl rfl ?_
      refine v_callV [.int v] [] o dX5_mend_8 cw_X5_143 im_X5_needStandingVault se_X5_needStandingVault cf5 hR.h0 (c_standing_v hl hR v hO) rfl rfl (by decide) (by decide) (Nat.le_of_ble_eq_true rfl) (fun _ _ _ _ h => h.elim) ?_
      rintro _ _ z9 hz ⟨rfl, rfl, -⟩
      exact v_out o hx (by decide) (by decide) ⟨⟨0, (by simp [sp_mend, hV] : (sp_mend σ v (nI i)).2 = th σ 1), rfl⟩, rfl⟩
    | true =>
      obtain ⟨vn, hv, rfl⟩ := isV_t hV
      have tv : tn (nI vn) = vn := tn_nI (by omega)
      cases hb : σ.2.1 6 vn with
      | true =>
        refine Ct.of hl (by decide +kernel) (Nat.le_of_ble_eq_true rfl) ?_
        intro p e s mi args below meth c o hnm hr hx
        have o : Ok p l s mi args meth c g cX5_mend 9 RX5 := o
        refine v_lv [(0, .ref x), (1, .int (nI vn)), (2, .int (nI i))] rfl ?_
        refine v_aload_n 0 o dX5_mend_0 rfl rfl ?_
        refine v_iload_n 2 o dX5_mend_1 rfl rfl ?_
        refine v_callVr (v := .ref (B i)) [.int (nI i)] [] o dX5_mend_2 cw_X5_79 im_X5_bookAt se_X5_bookAt cf5 hR.h0 (c_bookAt_t hl hR i hi) rfl rfl (by decide) ⟨rfl, rfl⟩ (by decide) (Nat.le_of_ble_eq_true rfl) ?_
        refine v_astore_n [(3, .ref (B i)), (0, .ref x), (1, .int (nI vn)), (2, .int (nI i))] o dX5_mend_5 rfl (by decide) rfl ?_
        refine v_aload_n 1 o dX5_mend_6 rfl rfl ?_
        refine v_iload_n 2 o dX5_mend_7 rfl rfl ?_
        refine v_callV [.int (nI vn)] [] o dX5_mend_8 cw_X5_143 im_X5_needStandingVault se_X5_needStandingVault cf5 hR.h0 (c_standing_f hl hR vn (by omega) hb) rfl rfl (by decide) (by decide) (Nat.le_of_ble_eq_true rfl) (fun _ _ _ _ h => h.elim) ?_
        rintro _ _ z9 hz ⟨rfl, rfl, -⟩
        exact v_out o hx (by decide) (by decide) ⟨⟨1, (by simp [sp_mend, hV, hB, ti, tv, hb] : (sp_mend σ (nI vn) (nI i)).2 = th σ 2), rfl⟩, rfl⟩
      | false =>
        have e9 : sp_mend σ (nI vn) (nI i) = (nI (mnd (th σ 0) vn i (σ.1 0 i)).1, (mnd (th σ 0) vn i (σ.1 0 i)).2) := by simp [sp_mend, hV, hB, ti, tv, hb]
        rw [e9]
        exact k_mend_t hl hR hI vn (by omega) hb i hi

