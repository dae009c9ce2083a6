set_option maxRecDepth 100000 in
set_option maxHeartbeats 4000000 in
theorem c_swap {l : Launch} (hl : l.stackTraces = false) {g : mG} {x z z0 : Nat} {B : Nat → Nat} {μ0 μ : mM} {σ τ : Sg} (hR : RC g x B z0 μ0 σ τ μ) (a b : Nat) (ha : a < 7) (hb : b < 7) : Ct l g yX3_swap [Cond.code yX3_swap cX3_swap 4 none] { frames := 0, cells := 0, slots := 0, locals := 0 } [.ref (x + 7), .int (nI a), .int (nI b)] μ z (wrC g x B z0 μ0 (none) (σ) (uN (uN τ 0 a (τ.1 0 b)) 0 b (τ.1 0 a)) z) (noX) := by
  refine Ct.of hl (by decide +kernel) (Nat.le_of_ble_eq_true rfl) ?_
  intro p e s mi args below meth c o hnm hr hx
  have o : Ok p l s mi args meth c g cX3_swap 4 RX3 := o
  refine v_lv [(0, .ref (x + 7)), (1, .int (nI a)), (2, .int (nI b))] rfl ?_
  refine v_aload_n 0 o dX3_swap_0 rfl rfl ?_
  refine v_get (v := .ref (x + 8)) o dX3_swap_1 cf3 0 (by decide) fl_X3_9 hR.h7 rfl ?_
  refine v_iload_n 1 o dX3_swap_4 rfl rfl ?_
  refine v_iald (nI (τ.1 0 a)) o dX3_swap_5 (by omega) (by decide) hR.h8 rfl ?_
  refine v_istore_n [(3, .int (nI (τ.1 0 a))), (0, .ref (x + 7)), (1, .int (nI a)), (2, .int (nI b))] o dX3_swap_6 rfl (by decide) rfl ?_
  refine v_aload_n 1 o dX3_swap_7 rfl rfl ?_
  refine v_get (v := .ref (x + 8)) o dX3_swap_8 cf3 0 (by decide) fl_X3_9 hR.h7 rfl ?_
  refine v_iload_n 2 o dX3_swap_11 rfl rfl ?_
  refine v_aload_n 1 o dX3_swap_12 rfl rfl ?_
  refine v_get (v := .ref (x + 8)) o dX3_swap_13 cf3 0 (by decide) fl_X3_9 hR.h7 rfl ?_
  refine v_iload_n 3 o dX3_swap_16 rfl rfl ?_
  refine v_iald (nI (τ.1 0 b)) o dX3_swap_17 (by omega) (by decide) hR.h8 rfl ?_
  refine v_iast o dX3_swap_18 (by omega) (by decide) hR.h8 (fun μ1 e1 => ?_)
  have hR1 := hR.u_row (k0 := a) (v := τ.1 0 b) e1
  refine v_aload_n 1 o dX3_swap_19 rfl rfl ?_
  refine v_get (v := .ref (x + 8)) o dX3_swap_20 cf3 0 (by decide) fl_X3_9 hR1.h7 rfl ?_
  refine v_iload_n 3 o dX3_swap_23 rfl rfl ?_
  refine v_iload_n 0 o dX3_swap_24 rfl rfl ?_
  refine v_iast o dX3_swap_25 (by omega) (by decide) hR1.h8 (fun μ2 e2 => ?_)
  have hR2 := hR1.u_row (k0 := b) (v := τ.1 0 a) e2
  exact v_vret o dX3_swap_26 hr (Nat.le_of_ble_eq_true rfl) (Nat.le_of_ble_eq_true rfl) ⟨rfl, hR2, rfl⟩

def chF (R : Nat → Nat → Bool) (f : Nat → Nat) : Nat → Bool
  | 0 => true
  | k + 1 => chF R f k && R (f k) (f (k + 1))
theorem chF_f {R : Nat → Nat → Bool} {f : Nat → Nat} {k : Nat} (h : R (f k) (f (k + 1)) = false) : ∀ d, chF R f (k + 1 + d) = false
  | 0 => by
    show (chF R f k && R (f k) (f (k + 1))) = false
    rw [h, Bool.and_false]
  | d + 1 => by
    show (chF R f (k + 1 + d) && R (f (k + 1 + d)) (f (k + 1 + d + 1))) = false
    rw [chF_f h d]
    rfl
theorem chL_chF {R : Nat → Nat → Bool} {τ : Sg} : ∀ L : List Nat, mr τ L → chL R L = chF R (τ.1 0) (L.length - 1)
  | [], _ => rfl
  | [_], _ => rfl
  | q :: p :: r, h => by
    show (R p q && chL R (p :: r)) = (chF R (τ.1 0) r.length && R (τ.1 0 r.length) (τ.1 0 (r.length + 1)))
    rw [chL_chF (p :: r) h.2, show τ.1 0 r.length = p from h.2.1, show τ.1 0 (r.length + 1) = q from h.1, Bool.and_comm]
    rfl
theorem swF_u (τ : Sg) (a b : Nat) : (uN (uN τ 0 a (τ.1 0 b)) 0 b (τ.1 0 a)).1 0 = swF (τ.1 0) a b := funext fun i => by
  show u2 (u2 τ.1 0 a (τ.1 0 b)) 0 b (τ.1 0 a) 0 i = _
  unfold swF
  by_cases q : i = b
  · subst q
    rw [u2_s, if_pos rfl]
  · rw [u2_i q, if_neg q]
    by_cases w : i = a
    · subst w
      rw [u2_s, if_pos rfl]
    · rw [u2_i w, if_neg w]
set_option maxRecDepth 100000 in
set_option maxHeartbeats 4000000 in
theorem c_isOrder {l : Launch} (hl : l.stackTraces = false) {g : mG} {x z z0 : Nat} {B : Nat → Nat} {μ0 μ : mM} {σ τ : Sg} (hR : RC g x B z0 μ0 σ τ μ) (i : Nat) (hi : i < σ.1 3 0) (h1 : 1 ≤ σ.1 0 i) (h7 : σ.1 0 i ≤ 7) (hv : ∀ j, j < σ.1 0 i → τ.1 0 j < σ.1 0 i) : Ct l g yX3_isOrderOf [Cond.code yX3_isOrderOf cX3_isOrderOf 3 (some .boolean)] { frames := 1, cells := 0, slots := 0, locals := 22 } [.ref (x + 7), .ref (B i + 1)] μ z (rdP (some (.int (bI (chF (Rn σ i) (τ.1 0) (σ.1 0 i - 1))))) μ z) (noX) := by
  refine Ct.of hl (by decide +kernel) (Nat.le_of_ble_eq_true rfl) ?_
  intro p e s mi args below meth c o hnm hr hx
  have o : Ok p l s mi args meth c g cX3_isOrderOf 3 RX3 := o
  refine v_lv [(0, .ref (x + 7)), (1, .ref (B i + 1))] rfl ?_
  have L : ∀ d k, k + 1 + d = σ.1 0 i → chF (Rn σ i) (τ.1 0) k = true → V p l e { frames := 1, cells := 0, slots := 0, locals := 22 } s mi args below meth c (vx_MQ below (cQc g (rdP (some (.int (bI (chF (Rn σ i) (τ.1 0) (σ.1 0 i - 1))))) μ z)) (cXC g (noX)) args s ({ frames := 1, cells := 0, slots := 0, locals := 22 } : Room).cells ({ frames := 1, cells := 0, slots := 0, locals := 22 } : Room).slots (gA g)) g μ z 0 0 2 [(0, .ref (x + 7)), (1, .ref (B i + 1)), (2, .int (nI (k + 1)))] [] := by
    intro d
    induction d with
    | zero =>
      intro k hk hc
      refine v_iload_n 2 o dX3_isOrderOf_2 rfl rfl ?_
      refine v_aload_n 1 o dX3_isOrderOf_3 rfl rfl ?_
      refine v_alen (t0 := 3) o dX3_isOrderOf_4 rfl (hR.ps hi) ?_
      refine v_top (nI (σ.1 0 i)) rfl ?_
      refine v_icmp_ge_n 37 o dX3_isOrderOf_5 (by decide) (by omega) (by omega) (fun c5 => ?_) (fun c5 => absurd c5 (by omega))
      refine v_iconst 1 o dX3_isOrderOf_37 rfl ?_
      exact v_zret o dX3_isOrderOf_38 hr (by decide) (Nat.le_of_ble_eq_true rfl) (Nat.le_of_ble_eq_true rfl) ⟨by rw [show σ.1 0 i - 1 = k by omega, hc]; rfl, rfl, rfl⟩
    | succ d ih =>
      intro k hk hc
      refine v_iload_n 2 o dX3_isOrderOf_2 rfl rfl ?_
      refine v_aload_n 1 o dX3_isOrderOf_3 rfl rfl ?_
      refine v_alen (t0 := 3) o dX3_isOrderOf_4 rfl (hR.ps hi) ?_
      refine v_top (nI (σ.1 0 i)) rfl ?_
      refine v_icmp_ge_n 37 o dX3_isOrderOf_5 (by decide) (by omega) (by omega) (fun c5 => absurd c5 (by omega)) (fun c5 => ?_)
      refine v_aload_n 1 o dX3_isOrderOf_8 rfl rfl ?_
      refine v_aload_n 0 o dX3_isOrderOf_9 rfl rfl ?_
      refine v_get (v := .ref (x + 8)) o dX3_isOrderOf_10 cf3 0 (by decide) fl_X3_9 hR.h7 rfl ?_
      refine v_iload_n 2 o dX3_isOrderOf_13 rfl rfl ?_
      refine v_iconst 1 o dX3_isOrderOf_14 rfl ?_
      refine v_isub (nI k) o dX3_isOrderOf_15 (pk_sub (by omega)) ?_
      refine v_iald (nI (τ.1 0 k)) o dX3_isOrderOf_16 (by omega) (by decide) hR.h8 rfl ?_
      refine v_aload_n 0 o dX3_isOrderOf_17 rfl rfl ?_
      refine v_get (v := .ref (x + 8)) o dX3_isOrderOf_18 cf3 0 (by decide) fl_X3_9 hR.h7 rfl ?_
      refine v_iload_n 2 o dX3_isOrderOf_21 rfl rfl ?_
      refine v_iald (nI (τ.1 0 (k + 1))) o dX3_isOrderOf_22 (by omega) (by decide) hR.h8 rfl ?_
      refine v_callSr (v := .int (bI (Rn σ i (τ.1 0 k) (τ.1 0 (k + 1))))) [.ref (B i + 1), .int (nI (τ.1 0 k)), .int (nI (τ.1 0 (k + 1)))] [] o dX3_isOrderOf_23 cw_X3_19 st_X3_leadsTo (c_leads hl hR i hi (τ.1 0 k) (τ.1 0 (k + 1)) (hv k (by omega)) (hv (k + 1) (by omega))) rfl rfl (by decide) ⟨rfl, rfl⟩ (by decide) (Nat.le_of_ble_eq_true rfl) ?_
      refine v_if_ne_b 31 o dX3_isOrderOf_26 (by decide) (fun c26 => ?_) (fun c26 => ?_)
      · refine v_iinc (nI (k + 1 + 1)) [(2, .int (nI (k + 1 + 1))), (0, .ref (x + 7)), (1, .ref (B i + 1))] o dX3_isOrderOf_31 2 rfl (iinc_n (k + 1) 1) (by decide) rfl ?_
        refine v_goto 2 o dX3_isOrderOf_34 (by decide) ?_
        refine v_sub [(0, .ref (x + 7)), (1, .ref (B i + 1)), (2, .int (nI (k + 1 + 1)))] [1, 2, 0] rfl ?_
        exact ih (k + 1) (by omega) (by show (chF _ _ k && _) = true; rw [hc, c26]; rfl)
      · refine v_iconst 0 o dX3_isOrderOf_29 rfl ?_
        exact v_zret o dX3_isOrderOf_30 hr (by decide) (Nat.le_of_ble_eq_true rfl) (Nat.le_of_ble_eq_true rfl) ⟨by rw [show σ.1 0 i - 1 = k + 1 + d by omega, chF_f c26 d]; rfl, rfl, rfl⟩
  have h12 := hR.np i
  refine v_iconst 1 o dX3_isOrderOf_0 rfl ?_
  refine v_istore_n [(2, .int (nI 1)), (0, .ref (x + 7)), (1, .ref (B i + 1))] o dX3_isOrderOf_1 rfl (by decide) rfl ?_
  refine v_sub [(0, .ref (x + 7)), (1, .ref (B i + 1)), (2, .int (nI 1))] [1, 2, 0] rfl ?_
  refine v_lv [(0, .ref (x + 7)), (1, .ref (B i + 1)), (2, .int (nI (0 + 1)))] rfl ?_
  exact L (σ.1 0 i - 1) 0 (by omega) rfl

theorem sub2 {w : Nat} (h : 1 ≤ w) : nI w - nI 2 = nI (w - 1) - nI 1 := by
  obtain ⟨k, rfl⟩ : ∃ k, w = k + 1 := ⟨w - 1, by omega⟩
  show nI (k + 1) - nI 2 = nI k - nI 1
  rw [← nI_add k 1, show nI 2 = nI 1 + nI 1 from rfl, Int32.sub_eq_add_neg, Int32.sub_eq_add_neg, Int32.neg_add, Int32.add_assoc, Int32.sub_eq_add_neg, ← Int32.add_assoc (nI 1) (-nI 1), Int32.add_right_neg, Int32.zero_add]
set_option maxRecDepth 100000 in
set_option maxHeartbeats 4000000 in
theorem c_next {l : Launch} (hl : l.stackTraces = false) {g : mG} {x z z0 : Nat} {B : Nat → Nat} {μ0 μ : mM} {σ τ : Sg} (hR : RC g x B z0 μ0 σ τ μ) (w : Nat) (h1 : 1 ≤ w) (h7 : w ≤ 7) (hv : ∀ j, j < w → τ.1 0 j < w) : Ct l g yX3_stepToNextRow [Cond.code yX3_stepToNextRow cX3_stepToNextRow 6 (some .boolean)] { frames := 1, cells := 0, slots := 0, locals := 23 } [.ref (x + 7), .int (nI w)] μ z (fun r μ' z' => (∃ τ', RC g x B z0 μ0 σ τ' μ' ∧ ((nxF w (τ.1 0) = none ∧ r = some (.int (bI false))) ∨ (nxF w (τ.1 0) = some (τ'.1 0) ∧ r = some (.int (bI true))))) ∧ z = z') (noX) := by
  refine Ct.of hl (by decide +kernel) (Nat.le_of_ble_eq_true rfl) ?_
  intro p e s mi args below meth c o hnm hr hx
  have o : Ok p l s mi args meth c g cX3_stepToNextRow 6 RX3 := o
  refine v_lv [(0, .ref (x + 7)), (1, .int (nI w))] rfl ?_
  have C : ∀ (d lo hi : Nat) (τq : Sg) (μq : mM), hi ≤ lo + 2 * d → lo + d ≤ 12 → hi < w → RC g x B z0 μ0 σ τq μq → nxF w (τ.1 0) = some (rv d (τq.1 0) lo hi) → V p l e { frames := 1, cells := 0, slots := 0, locals := 23 } s mi args below meth c (vx_MQ below (cQc g (fun r μ' z' => (∃ τ', RC g x B z0 μ0 σ τ' μ' ∧ ((nxF w (τ.1 0) = none ∧ r = some (.int (bI false))) ∨ (nxF w (τ.1 0) = some (τ'.1 0) ∧ r = some (.int (bI true))))) ∧ z = z')) (cXC g (noX)) args s ({ frames := 1, cells := 0, slots := 0, locals := 23 } : Room).cells ({ frames := 1, cells := 0, slots := 0, locals := 23 } : Room).slots (gA g)) g μq z 0 0 83 [(0, .ref (x + 7)), (4, .int (nI lo)), (5, .int (nI hi))] [] := by
    intro d
    induction d with
    | zero =>
      intro lo hi τq μq hlo hlo12 hhi hRq hN
      refine v_iload 1 o dX3_stepToNextRow_83 rfl ?_
      refine v_iload 2 o dX3_stepToNextRow_85 rfl ?_
      refine v_icmp_ge_n 107 o dX3_stepToNextRow_87 (by decide) (by omega) (by omega) (fun c87 => ?_) (fun c87 => absurd c87 (by omega))
      refine v_iconst 1 o dX3_stepToNextRow_107 rfl ?_
      exact v_zret o dX3_stepToNextRow_108 hr (by decide) (Nat.le_of_ble_eq_true rfl) (Nat.le_of_ble_eq_true rfl) ⟨⟨_, hRq, Or.inr ⟨hN, rfl⟩⟩, rfl⟩
    | succ d ih =>
      intro lo hi τq μq hlo hlo12 hhi hRq hN
      by_cases hlh : lo < hi
      · obtain ⟨h, rfl⟩ : ∃ h, hi = h + 1 := ⟨hi - 1, by omega⟩
        refine v_iload 1 o dX3_stepToNextRow_83 rfl ?_
        refine v_iload 2 o dX3_stepToNextRow_85 rfl ?_
        refine v_icmp_ge_n 107 o dX3_stepToNextRow_87 (by decide) (by omega) (by omega) (fun c87 => absurd c87 (by omega)) (fun c87 => ?_)
        refine v_aload_n 0 o dX3_stepToNextRow_90 rfl rfl ?_
        refine v_iload 1 o dX3_stepToNextRow_91 rfl ?_
        refine v_iload 2 o dX3_stepToNextRow_93 rfl ?_
        refine v_callV [.int (nI lo), .int (nI (h + 1))] [] o dX3_stepToNextRow_95 cw_X3_40 im_X3_swap se_X3_swap cf3 hRq.h7 (c_swap hl hRq lo (h + 1) (by omega) (by omega)) rfl rfl (by decide) (by decide) (Nat.le_of_ble_eq_true rfl) ?_ (fun _ _ _ _ h => h.elim)
        rintro _ μ1 _ _ ⟨rfl, hR1, rfl⟩
        refine v_st [] rfl ?_
        refine v_iinc (nI (lo + 1)) [(4, .int (nI (lo + 1))), (0, .ref (x + 7)), (5, .int (nI (h + 1)))] o dX3_stepToNextRow_98 1 rfl (iinc_n lo 1) (by decide) rfl ?_
        refine v_iinc (nI h) [(5, .int (nI h)), (4, .int (nI (lo + 1))), (0, .ref (x + 7))] o dX3_stepToNextRow_101 2 rfl ((iinc_m1 (h + 1)).trans (mI_s h)) (by decide) rfl ?_
        refine v_goto 83 o dX3_stepToNextRow_104 (by decide) ?_
        refine v_sub [(0, .ref (x + 7)), (4, .int (nI (lo + 1))), (5, .int (nI h))] [2, 1, 0] rfl ?_
        exact ih _ _ _ _ (by omega) (by omega) (by omega) hR1 (by rw [hN, swF_u]; exact congrArg some (if_pos hlh))
      · skip
        refine v_iload 1 o dX3_stepToNextRow_83 rfl ?_
        refine v_iload 2 o dX3_stepToNextRow_85 rfl ?_
        refine v_icmp_ge_n 107 o dX3_stepToNextRow_87 (by decide) (by omega) (by omega) (fun c87 => ?_) (fun c87 => absurd c87 (by omega))
        refine v_iconst 1 o dX3_stepToNextRow_107 rfl ?_
        exact v_zret o dX3_stepToNextRow_108 hr (by decide) (Nat.le_of_ble_eq_true rfl) (Nat.le_of_ble_eq_true rfl) ⟨⟨_, hRq, Or.inr ⟨hN.trans (congrArg some (if_neg hlh)), rfl⟩⟩, rfl⟩
  have D : ∀ r q, r + 1 < w → q < w → ris (τ.1 0) (w - 1) = r + 1 → nhi (τ.1 0) r (w - 1) = q → V p l e { frames := 1, cells := 0, slots := 0, locals := 23 } s mi args below meth c (vx_MQ below (cQc g (fun r μ' z' => (∃ τ', RC g x B z0 μ0 σ τ' μ' ∧ ((nxF w (τ.1 0) = none ∧ r = some (.int (bI false))) ∨ (nxF w (τ.1 0) = some (τ'.1 0) ∧ r = some (.int (bI true))))) ∧ z = z')) (cXC g (noX)) args s ({ frames := 1, cells := 0, slots := 0, locals := 23 } : Room).cells ({ frames := 1, cells := 0, slots := 0, locals := 23 } : Room).slots (gA g)) g μ z 0 0 67 [(0, .ref (x + 7)), (1, .int (nI w)), (2, .int (nI r)), (3, .int (nI q))] [] := by
    intro r q hr hq hris hnhi
    refine v_aload_n 0 o dX3_stepToNextRow_67 rfl rfl ?_
    refine v_iload_n 2 o dX3_stepToNextRow_68 rfl rfl ?_
    refine v_iload_n 3 o dX3_stepToNextRow_69 rfl rfl ?_
    refine v_callV [.int (nI r), .int (nI q)] [] o dX3_stepToNextRow_70 cw_X3_40 im_X3_swap se_X3_swap cf3 hR.h7 (c_swap hl hR r q (by omega) (by omega)) rfl rfl (by decide) (by decide) (Nat.le_of_ble_eq_true rfl) ?_ (fun _ _ _ _ h => h.elim)
    rintro _ μ2 _ _ ⟨rfl, hR2, rfl⟩
    refine v_st [] rfl ?_
    refine v_iload_n 2 o dX3_stepToNextRow_73 rfl rfl ?_
    refine v_iconst 1 o dX3_stepToNextRow_74 rfl ?_
    refine v_iadd (nI (r + 1)) o dX3_stepToNextRow_75 (nI_add r 1) ?_
    refine v_istore [(4, .int (nI (r + 1))), (0, .ref (x + 7)), (1, .int (nI w)), (2, .int (nI r)), (3, .int (nI q))] o dX3_stepToNextRow_76 (by decide) rfl ?_
    refine v_iload_n 2 o dX3_stepToNextRow_78 rfl rfl ?_
    refine v_iconst 1 o dX3_stepToNextRow_79 rfl ?_
    refine v_isub (nI (w - 1)) o dX3_stepToNextRow_80 (pk_sub (by omega)) ?_
    refine v_istore [(5, .int (nI (w - 1))), (4, .int (nI (r + 1))), (0, .ref (x + 7)), (1, .int (nI w)), (2, .int (nI r)), (3, .int (nI q))] o dX3_stepToNextRow_81 (by decide) rfl ?_
    refine v_sub [(0, .ref (x + 7)), (4, .int (nI (r + 1))), (5, .int (nI (w - 1)))] [2, 1, 0] rfl ?_
    exact C 3 (r + 1) (w - 1) _ _ (by omega) (by omega) (by omega) hR2 (by unfold nxF; rw [hris]; show some (rv 3 (swF (τ.1 0) r (nhi (τ.1 0) r (w - 1))) (r + 1) (w - 1)) = _; rw [hnhi, swF_u])
  have Bq : ∀ r, r + 1 < w → ris (τ.1 0) (w - 1) = r + 1 → ∀ q, q < w → nhi (τ.1 0) r (w - 1) = nhi (τ.1 0) r q → V p l e { frames := 1, cells := 0, slots := 0, locals := 23 } s mi args below meth c (vx_MQ below (cQc g (fun r μ' z' => (∃ τ', RC g x B z0 μ0 σ τ' μ' ∧ ((nxF w (τ.1 0) = none ∧ r = some (.int (bI false))) ∨ (nxF w (τ.1 0) = some (τ'.1 0) ∧ r = some (.int (bI true))))) ∧ z = z')) (cXC g (noX)) args s ({ frames := 1, cells := 0, slots := 0, locals := 23 } : Room).cells ({ frames := 1, cells := 0, slots := 0, locals := 23 } : Room).slots (gA g)) g μ z 0 0 41 [(0, .ref (x + 7)), (1, .int (nI w)), (2, .int (nI r)), (3, .int (nI q))] [] := by
    intro r hr hris q
    induction q with
    | zero =>
      intro hq hn
      refine v_iload_n 3 o dX3_stepToNextRow_41 rfl rfl ?_
      refine v_iload_n 2 o dX3_stepToNextRow_42 rfl rfl ?_
      refine v_icmp_le_n 67 o dX3_stepToNextRow_43 (by decide) (by decide) (by omega) (fun c43 => ?_) (fun c43 => absurd c43 (by omega))
      exact D r 0 hr hq hris hn
    | succ q ih =>
      intro hq hn
      have v1 := hv (q + 1) hq
      have v2 := hv r (by omega)
      refine v_iload_n 3 o dX3_stepToNextRow_41 rfl rfl ?_
      refine v_iload_n 2 o dX3_stepToNextRow_42 rfl rfl ?_
      refine v_icmp_le_n 67 o dX3_stepToNextRow_43 (by decide) (by omega) (by omega) (fun c43 => ?_) (fun c43 => ?_)
      · exact D r (q + 1) hr hq hris (hn.trans (if_neg (by omega)))
      · refine v_aload_n 0 o dX3_stepToNextRow_46 rfl rfl ?_
        refine v_get (v := .ref (x + 8)) o dX3_stepToNextRow_47 cf3 0 (by decide) fl_X3_9 hR.h7 rfl ?_
        refine v_iload_n 3 o dX3_stepToNextRow_50 rfl rfl ?_
        refine v_iald (nI (τ.1 0 (q + 1))) o dX3_stepToNextRow_51 (by omega) (by decide) hR.h8 rfl ?_
        refine v_aload_n 0 o dX3_stepToNextRow_52 rfl rfl ?_
        refine v_get (v := .ref (x + 8)) o dX3_stepToNextRow_53 cf3 0 (by decide) fl_X3_9 hR.h7 rfl ?_
        refine v_iload_n 2 o dX3_stepToNextRow_56 rfl rfl ?_
        refine v_iald (nI (τ.1 0 r)) o dX3_stepToNextRow_57 (by omega) (by decide) hR.h8 rfl ?_
        refine v_icmp_ge_n 67 o dX3_stepToNextRow_58 (by decide) (by omega) (by omega) (fun c58 => ?_) (fun c58 => ?_)
        · exact D r (q + 1) hr hq hris (hn.trans (if_neg (by omega)))
        · refine v_iinc (nI q) [(3, .int (nI q)), (0, .ref (x + 7)), (1, .int (nI w)), (2, .int (nI r))] o dX3_stepToNextRow_61 3 rfl ((iinc_m1 (q + 1)).trans (mI_s q)) (by decide) rfl ?_
          refine v_goto 41 o dX3_stepToNextRow_64 (by decide) ?_
          refine v_sub [(0, .ref (x + 7)), (1, .int (nI w)), (2, .int (nI r)), (3, .int (nI q))] [1, 2, 3, 0] rfl ?_
          exact ih (by omega) (hn.trans (if_pos (by omega)))
  have A : ∀ k, k < w → ris (τ.1 0) (w - 1) = ris (τ.1 0) k → V p l e { frames := 1, cells := 0, slots := 0, locals := 23 } s mi args below meth c (vx_MQ below (cQc g (fun r μ' z' => (∃ τ', RC g x B z0 μ0 σ τ' μ' ∧ ((nxF w (τ.1 0) = none ∧ r = some (.int (bI false))) ∨ (nxF w (τ.1 0) = some (τ'.1 0) ∧ r = some (.int (bI true))))) ∧ z = z')) (cXC g (noX)) args s ({ frames := 1, cells := 0, slots := 0, locals := 23 } : Room).cells ({ frames := 1, cells := 0, slots := 0, locals := 23 } : Room).slots (gA g)) g μ z 0 0 4 [(0, .ref (x + 7)), (1, .int (nI w)), (2, .int (mI k))] [] := by
    intro k
    induction k with
    | zero =>
      intro hk hn
      refine v_iload_n 2 o dX3_stepToNextRow_4 rfl rfl ?_
      refine v_if_lt 31 o dX3_stepToNextRow_5 (by decide) (fun c5 => ?_) (fun c5 => absurd c5 (not_not_intro (by decide)))
      refine v_iload_n 2 o dX3_stepToNextRow_31 rfl rfl ?_
      refine v_if_ge 37 o dX3_stepToNextRow_32 (by decide) (fun c32 => absurd c32 (by decide)) (fun c32 => ?_)
      refine v_iconst 0 o dX3_stepToNextRow_35 rfl ?_
      exact v_zret o dX3_stepToNextRow_36 hr (by decide) (Nat.le_of_ble_eq_true rfl) (Nat.le_of_ble_eq_true rfl) ⟨⟨_, hR, Or.inl ⟨by unfold nxF; rw [hn]; rfl, rfl⟩⟩, rfl⟩
    | succ k ih =>
      intro hk hn
      have v1 := hv (k + 1) hk
      have v2 := hv k (by omega)
      refine v_lv [(0, .ref (x + 7)), (1, .int (nI w)), (2, .int (nI k))] (by rw [mI_s]) ?_
      refine v_iload_n 2 o dX3_stepToNextRow_4 rfl rfl ?_
      refine v_if_lt_n 31 o dX3_stepToNextRow_5 (by decide) (by omega) (fun c5 => absurd c5 (by omega)) (fun c5 => ?_)
      refine v_aload_n 0 o dX3_stepToNextRow_8 rfl rfl ?_
      refine v_get (v := .ref (x + 8)) o dX3_stepToNextRow_9 cf3 0 (by decide) fl_X3_9 hR.h7 rfl ?_
      refine v_iload_n 2 o dX3_stepToNextRow_12 rfl rfl ?_
      refine v_iald (nI (τ.1 0 k)) o dX3_stepToNextRow_13 (by omega) (by decide) hR.h8 rfl ?_
      refine v_aload_n 0 o dX3_stepToNextRow_14 rfl rfl ?_
      refine v_get (v := .ref (x + 8)) o dX3_stepToNextRow_15 cf3 0 (by decide) fl_X3_9 hR.h7 rfl ?_
      refine v_iload_n 2 o dX3_stepToNextRow_18 rfl rfl ?_
      refine v_iconst 1 o dX3_stepToNextRow_19 rfl ?_
      refine v_iadd (nI (k + 1)) o dX3_stepToNextRow_20 (nI_add k 1) ?_
      refine v_iald (nI (τ.1 0 (k + 1))) o dX3_stepToNextRow_21 (by omega) (by decide) hR.h8 rfl ?_
      refine v_icmp_le_n 31 o dX3_stepToNextRow_22 (by decide) (by omega) (by omega) (fun c22 => ?_) (fun c22 => ?_)
      · refine v_iload_n 2 o dX3_stepToNextRow_31 rfl rfl ?_
        refine v_if_ge_n 37 o dX3_stepToNextRow_32 (by decide) (by omega) (fun c32 => ?_) (fun c32 => absurd c32 (by omega))
        refine v_iload_n 1 o dX3_stepToNextRow_37 rfl rfl ?_
        refine v_iconst 1 o dX3_stepToNextRow_38 rfl ?_
        refine v_isub (nI (w - 1)) o dX3_stepToNextRow_39 (pk_sub (by omega)) ?_
        refine v_istore_n [(3, .int (nI (w - 1))), (0, .ref (x + 7)), (1, .int (nI w)), (2, .int (nI k))] o dX3_stepToNextRow_40 rfl (by decide) rfl ?_
        refine v_sub [(0, .ref (x + 7)), (1, .int (nI w)), (2, .int (nI k)), (3, .int (nI (w - 1)))] [1, 2, 3, 0] rfl ?_
        exact Bq k hk (hn.trans (if_neg (by omega))) (w - 1) (by omega) rfl
      · refine v_iinc (mI k) [(2, .int (mI k)), (0, .ref (x + 7)), (1, .int (nI w))] o dX3_stepToNextRow_25 2 rfl (iinc_m1 k) (by decide) rfl ?_
        refine v_goto 4 o dX3_stepToNextRow_28 (by decide) ?_
        refine v_sub [(0, .ref (x + 7)), (1, .int (nI w)), (2, .int (mI k))] [1, 2, 0] rfl ?_
        exact ih (by omega) (hn.trans (if_pos (by omega)))
  refine v_iload_n 1 o dX3_stepToNextRow_0 rfl rfl ?_
  refine v_iconst 2 o dX3_stepToNextRow_1 rfl ?_
  refine v_isub (mI (w - 1)) o dX3_stepToNextRow_2 (by rw [← nI_m1 (w - 1)]; exact sub2 h1) ?_
  refine v_istore_n [(2, .int (mI (w - 1))), (0, .ref (x + 7)), (1, .int (nI w))] o dX3_stepToNextRow_3 rfl (by decide) rfl ?_
  refine v_sub [(0, .ref (x + 7)), (1, .int (nI w)), (2, .int (mI (w - 1)))] [1, 2, 0] rfl ?_
  exact A (w - 1) (by omega) rfl

