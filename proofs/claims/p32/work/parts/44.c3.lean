theorem cnt_add (f : Nat → Bool) (a : Nat) : ∀ b, cnt f (a + b) = cnt f a + cnt (fun k => f (a + k)) b
  | 0 => rfl
  | b + 1 => by
    show cnt f (a + b) + (if f (a + b) then 1 else 0) = cnt f a + (cnt (fun k => f (a + k)) b + (if f (a + b) then 1 else 0))
    rw [cnt_add f a b]
    omega
theorem cnt_blank {f : Nat → Bool} {a : Nat} : ∀ d, (∀ k, a ≤ k → k < a + d → f k = false) → cnt f (a + d) = cnt f a
  | 0, _ => rfl
  | d + 1, h => by
    show cnt f (a + d) + (if f (a + d) then 1 else 0) = cnt f a
    rw [h (a + d) (by omega) (by omega), cnt_blank d (fun k h1 h2 => h k h1 (by omega))]
    rfl
theorem cnt_congr {f f' : Nat → Bool} : ∀ n, (∀ k, k < n → f k = f' k) → cnt f n = cnt f' n
  | 0, _ => rfl
  | n + 1, h => by
    show cnt f n + _ = cnt f' n + _
    rw [cnt_congr n (fun k hk => h k (by omega)), h n (by omega)]
/-- the copies of a vault gone, from the place a0 on, of j places -/
abbrev drp (σ : Sg) (v a0 j : Nat) : Sg := (σ.1, fun k i => if k = 5 ∧ 72 * v + a0 ≤ i ∧ i < 72 * v + a0 + j then false else σ.2.1 k i, σ.2.2.1, σ.2.2.2)
theorem drp_0 (σ : Sg) (v a0 : Nat) : drp σ v a0 0 = σ := by
  have : (fun k i => if k = 5 ∧ 72 * v + a0 ≤ i ∧ i < 72 * v + a0 + 0 then false else σ.2.1 k i) = σ.2.1 := funext fun k => funext fun i => if_neg (by omega)
  show (σ.1, _, σ.2.2.1, σ.2.2.2) = σ
  rw [this]
theorem drp_at (σ : Sg) (v a0 j : Nat) : (drp σ v a0 j).2.1 5 (72 * v + (a0 + j)) = σ.2.1 5 (72 * v + (a0 + j)) := if_neg (by omega)
theorem drp_s (σ : Sg) (v a0 j : Nat) : uB (drp σ v a0 j) 5 (72 * v + (a0 + j)) false = drp σ v a0 (j + 1) := by
  have : u2 (drp σ v a0 j).2.1 5 (72 * v + (a0 + j)) false = (drp σ v a0 (j + 1)).2.1 := funext fun k => funext fun i => by
    unfold u2
    by_cases h : k = 5 ∧ i = 72 * v + (a0 + j)
    · rw [if_pos h]
      exact (if_pos (by omega)).symm
    · rw [if_neg h]
      show (if _ then _ else _) = if _ then _ else _
      by_cases h2 : k = 5 ∧ 72 * v + a0 ≤ i ∧ i < 72 * v + a0 + j
      · rw [if_pos h2, if_pos (by omega)]
      · rw [if_neg h2, if_neg (by omega)]
  show (σ.1, u2 (drp σ v a0 j).2.1 5 (72 * v + (a0 + j)) false, σ.2.2.1, σ.2.2.2) = _
  rw [this]
theorem clr_drp (σ : Sg) (v : Nat) : ∀ n, clr σ v n = drp σ v 0 n
  | 0 => (drp_0 σ v 0).symm
  | n + 1 => by
    show uB (clr σ v n) 5 (72 * v + n) false = _
    rw [clr_drp σ v n]
    have h := drp_s σ v 0 n
    rwa [Nat.zero_add] at h
set_option maxRecDepth 100000 in
set_option maxHeartbeats 4000000 in
theorem c_drop {l : Launch} (hl : l.stackTraces = false) {g : mG} {x z z0 : Nat} {B : Nat → Nat} {μ0 μ : mM} {σ τ : Sg} (hR : RC g x B z0 μ0 σ τ μ) (i : Nat) (hi : i < σ.1 3 0) (v : Nat) (hv : v < 4) : Ct l g yX0_dropCopies [Cond.code yX0_dropCopies cX0_dropCopies 7 (some .int)] { frames := 0, cells := 0, slots := 0, locals := 0 } [.ref (B i), .int (nI v)] μ z (wrC g x B z0 μ0 (some (.int (nI (cnt (fun q => σ.2.1 5 (72 * v + (12 * i + q))) (σ.1 0 i))))) (drp σ v (12 * i) (σ.1 0 i)) (τ) z) (noX) := by
  refine Ct.of hl (by decide +kernel) (Nat.le_of_ble_eq_true rfl) ?_
  intro p e s mi args below meth c o hnm hr hx
  have o : Ok p l s mi args meth c g cX0_dropCopies 7 RX0 := o
  refine v_lv [(0, .ref (B i)), (1, .int (nI v))] rfl ?_
  have h12 := hR.np i
  have L : ∀ (d j : Nat) (μq : mM), j + d = σ.1 0 i → RC g x B z0 μ0 (drp σ v (12 * i) j) τ μq → V p l e { frames := 0, cells := 0, slots := 0, locals := 0 } s mi args below meth c (vx_MQ below (cQc g (wrC g x B z0 μ0 (some (.int (nI (cnt (fun q => σ.2.1 5 (72 * v + (12 * i + q))) (σ.1 0 i))))) (drp σ v (12 * i) (σ.1 0 i)) (τ) z)) (cXC g (noX)) args s ({ frames := 0, cells := 0, slots := 0, locals := 0 } : Room).cells ({ frames := 0, cells := 0, slots := 0, locals := 0 } : Room).slots (gA g)) g μq z 0 0 14 [(0, .ref (B i)), (1, .int (nI v)), (2, .int (nI (cnt (fun q => σ.2.1 5 (72 * v + (12 * i + q))) j))), (3, .ref (B i + 1)), (4, .int (nI (σ.1 0 i))), (5, .int (nI j))] [] := by
    intro d
    induction d with
    | zero =>
      intro j μq hj hRq
      refine v_iload 5 o dX0_dropCopies_14 rfl ?_
      refine v_iload 4 o dX0_dropCopies_16 rfl ?_
      refine v_icmp_ge_n 59 o dX0_dropCopies_18 (by decide) (by omega) (by omega) (fun c18 => ?_) (fun c18 => absurd c18 (by omega))
      refine v_iload_n 2 o dX0_dropCopies_59 rfl rfl ?_
      exact v_iret o dX0_dropCopies_60 hr (Nat.le_of_ble_eq_true rfl) (Nat.le_of_ble_eq_true rfl) ⟨by rw [show j = σ.1 0 i by omega], (show j = σ.1 0 i by omega) ▸ hRq, rfl⟩
    | succ d ih =>
      intro j μq hjd hRq
      have hj : j < σ.1 0 i := by omega
      refine v_iload 5 o dX0_dropCopies_14 rfl ?_
      refine v_iload 4 o dX0_dropCopies_16 rfl ?_
      refine v_icmp_ge_n 59 o dX0_dropCopies_18 (by decide) (by omega) (by omega) (fun c18 => absurd c18 (by omega)) (fun c18 => ?_)
      refine v_aload_n 3 o dX0_dropCopies_21 rfl rfl ?_
      refine v_iload 5 o dX0_dropCopies_22 rfl ?_
      refine v_aald (t0 := 3) (.ref (pA B i j)) o dX0_dropCopies_24 rfl hj (by omega) (hRq.ps hi) (by simp only [if_pos (show j < σ.1 0 i from hj)]; rfl) ?_
      refine v_astore [(6, .ref (pA B i j)), (0, .ref (B i)), (1, .int (nI v)), (2, .int (nI (cnt (fun q => σ.2.1 5 (72 * v + (12 * i + q))) j))), (3, .ref (B i + 1)), (4, .int (nI (σ.1 0 i))), (5, .int (nI j))] o dX0_dropCopies_25 (by decide) rfl ?_
      refine v_iload_n 3 o dX0_dropCopies_27 rfl rfl ?_
      refine v_aload 0 o dX0_dropCopies_28 rfl ?_
      refine v_get (v := .ref (pA B i j + 1)) o dX0_dropCopies_30 cf2 4 (by decide) fl_X0_46 (hRq.p0 hi hj) rfl ?_
      refine v_iload_n 2 o dX0_dropCopies_33 rfl rfl ?_
      refine v_zald (bI ((drp σ v (12 * i) j).2.1 5 (72 * v + (12 * i + j)))) o dX0_dropCopies_34 (by omega) (by decide) (hRq.p1 hi hj) ((rs_lt (by omega)).trans rfl) ?_
      refine v_if_eq_b 42 o dX0_dropCopies_35 (by decide) (fun c35 => ?_) (fun c35 => ?_)
      · refine v_iconst 0 o dX0_dropCopies_42 rfl ?_
        refine v_iadd (nI (cnt (fun q => σ.2.1 5 (72 * v + (12 * i + q))) j)) o dX0_dropCopies_43 (nI_add (cnt (fun q => σ.2.1 5 (72 * v + (12 * i + q))) j) 0) ?_
        refine v_istore_n [(2, .int (nI (cnt (fun q => σ.2.1 5 (72 * v + (12 * i + q))) j))), (6, .ref (pA B i j)), (0, .ref (B i)), (1, .int (nI v)), (3, .ref (B i + 1)), (4, .int (nI (σ.1 0 i))), (5, .int (nI j))] o dX0_dropCopies_44 rfl (by decide) rfl ?_
        refine v_aload 1 o dX0_dropCopies_45 rfl ?_
        refine v_get (v := .ref (pA B i j + 1)) o dX0_dropCopies_47 cf2 4 (by decide) fl_X0_46 (hRq.p0 hi hj) rfl ?_
        refine v_iload_n 3 o dX0_dropCopies_50 rfl rfl ?_
        refine v_iconst 0 o dX0_dropCopies_51 rfl ?_
        refine v_top (bI false) rfl ?_
        refine v_zast o dX0_dropCopies_52 (by omega) (by decide) (nar_bI _) (hRq.p1 hi hj) (fun μ1 e1 => ?_)
        have hR1 := hRq.u_hc (k0 := v) hi hj (by omega) (v := false) e1
        refine v_iinc (nI (j + 1)) [(5, .int (nI (j + 1))), (2, .int (nI (cnt (fun q => σ.2.1 5 (72 * v + (12 * i + q))) j))), (6, .ref (pA B i j)), (0, .ref (B i)), (1, .int (nI v)), (3, .ref (B i + 1)), (4, .int (nI (σ.1 0 i)))] o dX0_dropCopies_53 6 rfl (iinc_n j 1) (by decide) rfl ?_
        refine v_goto 14 o dX0_dropCopies_56 (by decide) ?_
        refine v_sub [(0, .ref (B i)), (1, .int (nI v)), (2, .int (nI (cnt (fun q => σ.2.1 5 (72 * v + (12 * i + q))) j))), (3, .ref (B i + 1)), (4, .int (nI (σ.1 0 i))), (5, .int (nI (j + 1)))] [3, 4, 1, 5, 6, 0] rfl ?_
        refine v_lv [(0, .ref (B i)), (1, .int (nI v)), (2, .int (nI (cnt (fun q => σ.2.1 5 (72 * v + (12 * i + q))) (j + 1)))), (3, .ref (B i + 1)), (4, .int (nI (σ.1 0 i))), (5, .int (nI (j + 1)))] (by rw [cnt_f (f := (fun q => σ.2.1 5 (72 * v + (12 * i + q)))) ((drp_at σ v (12 * i) j).symm.trans c35)]) ?_
        exact ih (j + 1) _ (by omega) (by rw [← drp_s]; exact hR1)
      · refine v_iconst 1 o dX0_dropCopies_38 rfl ?_
        refine v_goto 43 o dX0_dropCopies_39 (by decide) ?_
        refine v_iadd (nI ((cnt (fun q => σ.2.1 5 (72 * v + (12 * i + q))) j) + 1)) o dX0_dropCopies_43 (nI_add (cnt (fun q => σ.2.1 5 (72 * v + (12 * i + q))) j) 1) ?_
        refine v_istore_n [(2, .int (nI ((cnt (fun q => σ.2.1 5 (72 * v + (12 * i + q))) j) + 1))), (6, .ref (pA B i j)), (0, .ref (B i)), (1, .int (nI v)), (3, .ref (B i + 1)), (4, .int (nI (σ.1 0 i))), (5, .int (nI j))] o dX0_dropCopies_44 rfl (by decide) rfl ?_
        refine v_aload 1 o dX0_dropCopies_45 rfl ?_
        refine v_get (v := .ref (pA B i j + 1)) o dX0_dropCopies_47 cf2 4 (by decide) fl_X0_46 (hRq.p0 hi hj) rfl ?_
        refine v_iload_n 3 o dX0_dropCopies_50 rfl rfl ?_
        refine v_iconst 0 o dX0_dropCopies_51 rfl ?_
        refine v_top (bI false) rfl ?_
        refine v_zast o dX0_dropCopies_52 (by omega) (by decide) (nar_bI _) (hRq.p1 hi hj) (fun μ2 e2 => ?_)
        have hR2 := hRq.u_hc (k0 := v) hi hj (by omega) (v := false) e2
        refine v_iinc (nI (j + 1)) [(5, .int (nI (j + 1))), (2, .int (nI ((cnt (fun q => σ.2.1 5 (72 * v + (12 * i + q))) j) + 1))), (6, .ref (pA B i j)), (0, .ref (B i)), (1, .int (nI v)), (3, .ref (B i + 1)), (4, .int (nI (σ.1 0 i)))] o dX0_dropCopies_53 6 rfl (iinc_n j 1) (by decide) rfl ?_
        refine v_goto 14 o dX0_dropCopies_56 (by decide) ?_
        refine v_sub [(0, .ref (B i)), (1, .int (nI v)), (2, .int (nI ((cnt (fun q => σ.2.1 5 (72 * v + (12 * i + q))) j) + 1))), (3, .ref (B i + 1)), (4, .int (nI (σ.1 0 i))), (5, .int (nI (j + 1)))] [3, 4, 1, 5, 6, 0] rfl ?_
        refine v_lv [(0, .ref (B i)), (1, .int (nI v)), (2, .int (nI (cnt (fun q => σ.2.1 5 (72 * v + (12 * i + q))) (j + 1)))), (3, .ref (B i + 1)), (4, .int (nI (σ.1 0 i))), (5, .int (nI (j + 1)))] (by rw [cnt_t (f := (fun q => σ.2.1 5 (72 * v + (12 * i + q)))) ((drp_at σ v (12 * i) j).symm.trans c35)]) ?_
        exact ih (j + 1) _ (by omega) (by rw [← drp_s]; exact hR2)
  refine v_iconst 0 o dX0_dropCopies_0 rfl ?_
  refine v_istore_n [(2, .int (nI 0)), (0, .ref (B i)), (1, .int (nI v))] o dX0_dropCopies_1 rfl (by decide) rfl ?_
  refine v_aload_n 1 o dX0_dropCopies_2 rfl rfl ?_
  refine v_get (v := .ref (B i + 1)) o dX0_dropCopies_3 cf0 0 (by decide) fl_X0_11 (hR.bk hi) rfl ?_
  refine v_astore_n [(3, .ref (B i + 1)), (2, .int (nI 0)), (0, .ref (B i)), (1, .int (nI v))] o dX0_dropCopies_6 rfl (by decide) rfl ?_
  refine v_aload_n 0 o dX0_dropCopies_7 rfl rfl ?_
  refine v_alen (t0 := 3) o dX0_dropCopies_8 rfl (hR.ps hi) ?_
  refine v_top (nI (σ.1 0 i)) rfl ?_
  refine v_istore [(4, .int (nI (σ.1 0 i))), (3, .ref (B i + 1)), (2, .int (nI 0)), (0, .ref (B i)), (1, .int (nI v))] o dX0_dropCopies_9 (by decide) rfl ?_
  refine v_iconst 0 o dX0_dropCopies_11 rfl ?_
  refine v_istore [(5, .int (nI 0)), (4, .int (nI (σ.1 0 i))), (3, .ref (B i + 1)), (2, .int (nI 0)), (0, .ref (B i)), (1, .int (nI v))] o dX0_dropCopies_12 (by decide) rfl ?_
  refine v_sub [(0, .ref (B i)), (1, .int (nI v)), (2, .int (nI 0)), (3, .ref (B i + 1)), (4, .int (nI (σ.1 0 i))), (5, .int (nI 0))] [4, 5, 3, 2, 1, 0] rfl ?_
  refine v_lv [(0, .ref (B i)), (1, .int (nI v)), (2, .int (nI (cnt (fun q => σ.2.1 5 (72 * v + (12 * i + q))) 0))), (3, .ref (B i + 1)), (4, .int (nI (σ.1 0 i))), (5, .int (nI 0))] rfl ?_
  exact L (σ.1 0 i) 0 _ (by omega) (by rw [drp_0]; exact hR)

set_option maxRecDepth 100000 in
set_option maxHeartbeats 4000000 in
theorem c_placesKeyed {l : Launch} (hl : l.stackTraces = false) {g : mG} {x z z0 : Nat} {B : Nat → Nat} {μ0 μ : mM} {σ τ : Sg} (hR : RC g x B z0 μ0 σ τ μ) (i : Nat) (hi : i < σ.1 3 0) (w : Nat) (hw : w < 5) (hG : (∀ k, σ.1 1 k ≤ 26) ∧ ∀ k, σ.1 2 k ≤ 26) : Ct l g yX0_placesKeyedBy [Cond.code yX0_placesKeyedBy cX0_placesKeyedBy 8 (some .int)] { frames := 0, cells := 0, slots := 0, locals := 0 } [.ref (B i), .int (nI w)] μ z (rdP (some (.int (nI (cnt (fun k => decide (0 < σ.1 2 (5 * (48 * i + k) + w))) (4 * σ.1 0 i))))) μ z) (noX) := by
  refine Ct.of hl (by decide +kernel) (Nat.le_of_ble_eq_true rfl) ?_
  intro p e s mi args below meth c o hnm hr hx
  have o : Ok p l s mi args meth c g cX0_placesKeyedBy 8 RX0 := o
  refine v_lv [(0, .ref (B i)), (1, .int (nI w))] rfl ?_
  have h12 := hR.np i
  have L : ∀ d j, j + d = σ.1 0 i → V p l e { frames := 0, cells := 0, slots := 0, locals := 0 } s mi args below meth c (vx_MQ below (cQc g (rdP (some (.int (nI (cnt (fun k => decide (0 < σ.1 2 (5 * (48 * i + k) + w))) (4 * σ.1 0 i))))) μ z)) (cXC g (noX)) args s ({ frames := 0, cells := 0, slots := 0, locals := 0 } : Room).cells ({ frames := 0, cells := 0, slots := 0, locals := 0 } : Room).slots (gA g)) g μ z 0 0 14 [(0, .ref (B i)), (1, .int (nI w)), (2, .int (nI (cnt (fun k => decide (0 < σ.1 2 (5 * (48 * i + k) + w))) (4 * j)))), (3, .ref (B i + 1)), (4, .int (nI (σ.1 0 i))), (5, .int (nI j))] [] := by
    intro d
    induction d with
    | zero =>
      intro j hj
      refine v_iload 5 o dX0_placesKeyedBy_14 rfl ?_
      refine v_iload 4 o dX0_placesKeyedBy_16 rfl ?_
      refine v_icmp_ge_n 70 o dX0_placesKeyedBy_18 (by decide) (by omega) (by omega) (fun c18 => ?_) (fun c18 => absurd c18 (by omega))
      refine v_iload_n 2 o dX0_placesKeyedBy_70 rfl rfl ?_
      exact v_iret o dX0_placesKeyedBy_71 hr (Nat.le_of_ble_eq_true rfl) (Nat.le_of_ble_eq_true rfl) ⟨by rw [show j = σ.1 0 i by omega], rfl, rfl⟩
    | succ d ih =>
      intro j hjd
      have hj : j < σ.1 0 i := by omega
      have M : ∀ da a, a + da = 4 → V p l e { frames := 0, cells := 0, slots := 0, locals := 0 } s mi args below meth c (vx_MQ below (cQc g (rdP (some (.int (nI (cnt (fun k => decide (0 < σ.1 2 (5 * (48 * i + k) + w))) (4 * σ.1 0 i))))) μ z)) (cXC g (noX)) args s ({ frames := 0, cells := 0, slots := 0, locals := 0 } : Room).cells ({ frames := 0, cells := 0, slots := 0, locals := 0 } : Room).slots (gA g)) g μ z 0 0 30 [(0, .ref (B i)), (1, .int (nI w)), (2, .int (nI (cnt (fun k => decide (0 < σ.1 2 (5 * (48 * i + k) + w))) (4 * j + a)))), (3, .ref (B i + 1)), (4, .int (nI (σ.1 0 i))), (5, .int (nI j)), (6, .ref (pA B i j)), (7, .int (nI a))] [] := by
        intro da
        induction da with
        | zero =>
          intro a ha
          refine v_iload 7 o dX0_placesKeyedBy_30 rfl ?_
          refine v_iconst 4 o dX0_placesKeyedBy_32 rfl ?_
          refine v_icmp_ge_n 64 o dX0_placesKeyedBy_33 (by decide) (by omega) (by decide) (fun c33 => ?_) (fun c33 => absurd c33 (by omega))
          refine v_iinc (nI (j + 1)) [(5, .int (nI (j + 1))), (0, .ref (B i)), (1, .int (nI w)), (2, .int (nI (cnt (fun k => decide (0 < σ.1 2 (5 * (48 * i + k) + w))) (4 * j + a)))), (3, .ref (B i + 1)), (4, .int (nI (σ.1 0 i))), (6, .ref (pA B i j)), (7, .int (nI a))] o dX0_placesKeyedBy_64 5 rfl (iinc_n j 1) (by decide) rfl ?_
          refine v_goto 14 o dX0_placesKeyedBy_67 (by decide) ?_
          refine v_sub [(0, .ref (B i)), (1, .int (nI w)), (2, .int (nI (cnt (fun k => decide (0 < σ.1 2 (5 * (48 * i + k) + w))) (4 * j + a)))), (3, .ref (B i + 1)), (4, .int (nI (σ.1 0 i))), (5, .int (nI (j + 1)))] [1, 2, 3, 4, 5, 0] rfl ?_
          refine v_lv [(0, .ref (B i)), (1, .int (nI w)), (2, .int (nI (cnt (fun k => decide (0 < σ.1 2 (5 * (48 * i + k) + w))) (4 * (j + 1))))), (3, .ref (B i + 1)), (4, .int (nI (σ.1 0 i))), (5, .int (nI (j + 1)))] (by rw [show 4 * j + a = 4 * (j + 1) by omega]) ?_
          exact ih (j + 1) (by omega)
        | succ da ia =>
          intro a ha4
          have ha : a < 4 := by omega
          have q2 := hG.2 (5 * (4 * (12 * i + j) + a) + w)
          have e2 : mI (σ.1 2 (5 * (4 * (12 * i + j) + a) + w)) = -1 ↔ σ.1 2 (5 * (4 * (12 * i + j) + a) + w) = 0 := mI_ne (by omega)
          have hF : (fun k => decide (0 < σ.1 2 (5 * (48 * i + k) + w))) (4 * j + a) = (decide (0 < σ.1 2 (5 * (4 * (12 * i + j) + a) + w))) := by
            show decide (0 < σ.1 2 (5 * (48 * i + (4 * j + a)) + w)) = _; rw [show 48 * i + (4 * j + a) = 4 * (12 * i + j) + a by omega]
          refine v_iload 7 o dX0_placesKeyedBy_30 rfl ?_
          refine v_iconst 4 o dX0_placesKeyedBy_32 rfl ?_
          refine v_icmp_ge_n 64 o dX0_placesKeyedBy_33 (by decide) (by omega) (by decide) (fun c33 => absurd c33 (by omega)) (fun c33 => ?_)
          refine v_iload_n 2 o dX0_placesKeyedBy_36 rfl rfl ?_
          refine v_aload 6 o dX0_placesKeyedBy_37 rfl ?_
          refine v_get (v := .ref (pA B i j + 4)) o dX0_placesKeyedBy_39 cf2 9 (by decide) fl_X0_50 (hR.p0 hi hj) rfl ?_
          refine v_iload_n 1 o dX0_placesKeyedBy_42 rfl rfl ?_
          refine v_aaldI (.ref (pA B i j + 4 + 1 + w)) o dX0_placesKeyedBy_43 (by omega) (by decide) (hR.p4 hi hj) (by simp only [if_pos (show w < 5 from (by omega))]; rfl) ?_
          refine v_iload 7 o dX0_placesKeyedBy_44 rfl ?_
          refine v_iald (mI (σ.1 2 (5 * (4 * (12 * i + j) + a) + w))) o dX0_placesKeyedBy_46 (by omega) (by decide) (hR.p5 hi hj (by omega)) ((rs_lt (by omega)).trans rfl) ?_
          refine v_iconst_i (-1) o dX0_placesKeyedBy_47 (by decide) ?_
          refine v_icmp_eq 55 o dX0_placesKeyedBy_48 (by decide) (fun c48 => ?_) (fun c48 => ?_)
          · refine v_iconst 0 o dX0_placesKeyedBy_55 rfl ?_
            refine v_iadd (nI (cnt (fun k => decide (0 < σ.1 2 (5 * (48 * i + k) + w))) (4 * j + a))) o dX0_placesKeyedBy_56 (nI_add (cnt (fun k => decide (0 < σ.1 2 (5 * (48 * i + k) + w))) (4 * j + a)) 0) ?_
            refine v_istore_n [(2, .int (nI (cnt (fun k => decide (0 < σ.1 2 (5 * (48 * i + k) + w))) (4 * j + a)))), (0, .ref (B i)), (1, .int (nI w)), (3, .ref (B i + 1)), (4, .int (nI (σ.1 0 i))), (5, .int (nI j)), (6, .ref (pA B i j)), (7, .int (nI a))] o dX0_placesKeyedBy_57 rfl (by decide) rfl ?_
            refine v_iinc (nI (a + 1)) [(7, .int (nI (a + 1))), (2, .int (nI (cnt (fun k => decide (0 < σ.1 2 (5 * (48 * i + k) + w))) (4 * j + a)))), (0, .ref (B i)), (1, .int (nI w)), (3, .ref (B i + 1)), (4, .int (nI (σ.1 0 i))), (5, .int (nI j)), (6, .ref (pA B i j))] o dX0_placesKeyedBy_58 7 rfl (iinc_n a 1) (by decide) rfl ?_
            refine v_goto 30 o dX0_placesKeyedBy_61 (by decide) ?_
            refine v_sub [(0, .ref (B i)), (1, .int (nI w)), (2, .int (nI (cnt (fun k => decide (0 < σ.1 2 (5 * (48 * i + k) + w))) (4 * j + a)))), (3, .ref (B i + 1)), (4, .int (nI (σ.1 0 i))), (5, .int (nI j)), (6, .ref (pA B i j)), (7, .int (nI (a + 1)))] [2, 3, 1, 4, 5, 6, 7, 0] rfl ?_
            refine v_lv [(0, .ref (B i)), (1, .int (nI w)), (2, .int (nI (cnt (fun k => decide (0 < σ.1 2 (5 * (48 * i + k) + w))) (4 * j + (a + 1))))), (3, .ref (B i + 1)), (4, .int (nI (σ.1 0 i))), (5, .int (nI j)), (6, .ref (pA B i j)), (7, .int (nI (a + 1)))] (by have f48 := e2.mp c48; rw [show 4 * j + (a + 1) = 4 * j + a + 1 from rfl, cnt_f (f := (fun k => decide (0 < σ.1 2 (5 * (48 * i + k) + w)))) (hF.trans (by simp; omega))]) ?_
            exact ia (a + 1) (by omega)
          · refine v_iconst 1 o dX0_placesKeyedBy_51 rfl ?_
            refine v_goto 56 o dX0_placesKeyedBy_52 (by decide) ?_
            refine v_iadd (nI ((cnt (fun k => decide (0 < σ.1 2 (5 * (48 * i + k) + w))) (4 * j + a)) + 1)) o dX0_placesKeyedBy_56 (nI_add (cnt (fun k => decide (0 < σ.1 2 (5 * (48 * i + k) + w))) (4 * j + a)) 1) ?_
            refine v_istore_n [(2, .int (nI ((cnt (fun k => decide (0 < σ.1 2 (5 * (48 * i + k) + w))) (4 * j + a)) + 1))), (0, .ref (B i)), (1, .int (nI w)), (3, .ref (B i + 1)), (4, .int (nI (σ.1 0 i))), (5, .int (nI j)), (6, .ref (pA B i j)), (7, .int (nI a))] o dX0_placesKeyedBy_57 rfl (by decide) rfl ?_
            refine v_iinc (nI (a + 1)) [(7, .int (nI (a + 1))), (2, .int (nI ((cnt (fun k => decide (0 < σ.1 2 (5 * (48 * i + k) + w))) (4 * j + a)) + 1))), (0, .ref (B i)), (1, .int (nI w)), (3, .ref (B i + 1)), (4, .int (nI (σ.1 0 i))), (5, .int (nI j)), (6, .ref (pA B i j))] o dX0_placesKeyedBy_58 7 rfl (iinc_n a 1) (by decide) rfl ?_
            refine v_goto 30 o dX0_placesKeyedBy_61 (by decide) ?_
            refine v_sub [(0, .ref (B i)), (1, .int (nI w)), (2, .int (nI ((cnt (fun k => decide (0 < σ.1 2 (5 * (48 * i + k) + w))) (4 * j + a)) + 1))), (3, .ref (B i + 1)), (4, .int (nI (σ.1 0 i))), (5, .int (nI j)), (6, .ref (pA B i j)), (7, .int (nI (a + 1)))] [2, 3, 1, 4, 5, 6, 7, 0] rfl ?_
            refine v_lv [(0, .ref (B i)), (1, .int (nI w)), (2, .int (nI (cnt (fun k => decide (0 < σ.1 2 (5 * (48 * i + k) + w))) (4 * j + (a + 1))))), (3, .ref (B i + 1)), (4, .int (nI (σ.1 0 i))), (5, .int (nI j)), (6, .ref (pA B i j)), (7, .int (nI (a + 1)))] (by have f48 := (not_congr e2).mp c48; rw [show 4 * j + (a + 1) = 4 * j + a + 1 from rfl, cnt_t (f := (fun k => decide (0 < σ.1 2 (5 * (48 * i + k) + w)))) (hF.trans (by simp; omega))]) ?_
            exact ia (a + 1) (by omega)
      refine v_iload 5 o dX0_placesKeyedBy_14 rfl ?_
      refine v_iload 4 o dX0_placesKeyedBy_16 rfl ?_
      refine v_icmp_ge_n 70 o dX0_placesKeyedBy_18 (by decide) (by omega) (by omega) (fun c18 => absurd c18 (by omega)) (fun c18 => ?_)
      refine v_aload_n 3 o dX0_placesKeyedBy_21 rfl rfl ?_
      refine v_iload 5 o dX0_placesKeyedBy_22 rfl ?_
      refine v_aald (t0 := 3) (.ref (pA B i j)) o dX0_placesKeyedBy_24 rfl hj (by omega) (hR.ps hi) (by simp only [if_pos (show j < σ.1 0 i from hj)]; rfl) ?_
      refine v_astore [(6, .ref (pA B i j)), (0, .ref (B i)), (1, .int (nI w)), (2, .int (nI (cnt (fun k => decide (0 < σ.1 2 (5 * (48 * i + k) + w))) (4 * j)))), (3, .ref (B i + 1)), (4, .int (nI (σ.1 0 i))), (5, .int (nI j))] o dX0_placesKeyedBy_25 (by decide) rfl ?_
      refine v_iconst 0 o dX0_placesKeyedBy_27 rfl ?_
      refine v_istore [(7, .int (nI 0)), (6, .ref (pA B i j)), (0, .ref (B i)), (1, .int (nI w)), (2, .int (nI (cnt (fun k => decide (0 < σ.1 2 (5 * (48 * i + k) + w))) (4 * j)))), (3, .ref (B i + 1)), (4, .int (nI (σ.1 0 i))), (5, .int (nI j))] o dX0_placesKeyedBy_28 (by decide) rfl ?_
      refine v_sub [(0, .ref (B i)), (1, .int (nI w)), (2, .int (nI (cnt (fun k => decide (0 < σ.1 2 (5 * (48 * i + k) + w))) (4 * j)))), (3, .ref (B i + 1)), (4, .int (nI (σ.1 0 i))), (5, .int (nI j)), (6, .ref (pA B i j)), (7, .int (nI 0))] [2, 3, 4, 5, 6, 7, 1, 0] rfl ?_
      refine v_lv [(0, .ref (B i)), (1, .int (nI w)), (2, .int (nI (cnt (fun k => decide (0 < σ.1 2 (5 * (48 * i + k) + w))) (4 * j + 0)))), (3, .ref (B i + 1)), (4, .int (nI (σ.1 0 i))), (5, .int (nI j)), (6, .ref (pA B i j)), (7, .int (nI 0))] rfl ?_
      exact M 4 0 rfl
  refine v_iconst 0 o dX0_placesKeyedBy_0 rfl ?_
  refine v_istore_n [(2, .int (nI 0)), (0, .ref (B i)), (1, .int (nI w))] o dX0_placesKeyedBy_1 rfl (by decide) rfl ?_
  refine v_aload_n 1 o dX0_placesKeyedBy_2 rfl rfl ?_
  refine v_get (v := .ref (B i + 1)) o dX0_placesKeyedBy_3 cf0 0 (by decide) fl_X0_11 (hR.bk hi) rfl ?_
  refine v_astore_n [(3, .ref (B i + 1)), (2, .int (nI 0)), (0, .ref (B i)), (1, .int (nI w))] o dX0_placesKeyedBy_6 rfl (by decide) rfl ?_
  refine v_aload_n 0 o dX0_placesKeyedBy_7 rfl rfl ?_
  refine v_alen (t0 := 3) o dX0_placesKeyedBy_8 rfl (hR.ps hi) ?_
  refine v_top (nI (σ.1 0 i)) rfl ?_
  refine v_istore [(4, .int (nI (σ.1 0 i))), (3, .ref (B i + 1)), (2, .int (nI 0)), (0, .ref (B i)), (1, .int (nI w))] o dX0_placesKeyedBy_9 (by decide) rfl ?_
  refine v_iconst 0 o dX0_placesKeyedBy_11 rfl ?_
  refine v_istore [(5, .int (nI 0)), (4, .int (nI (σ.1 0 i))), (3, .ref (B i + 1)), (2, .int (nI 0)), (0, .ref (B i)), (1, .int (nI w))] o dX0_placesKeyedBy_12 (by decide) rfl ?_
  refine v_sub [(0, .ref (B i)), (1, .int (nI w)), (2, .int (nI 0)), (3, .ref (B i + 1)), (4, .int (nI (σ.1 0 i))), (5, .int (nI 0))] [4, 5, 3, 2, 1, 0] rfl ?_
  refine v_lv [(0, .ref (B i)), (1, .int (nI w)), (2, .int (nI (cnt (fun k => decide (0 < σ.1 2 (5 * (48 * i + k) + w))) (4 * 0)))), (3, .ref (B i + 1)), (4, .int (nI (σ.1 0 i))), (5, .int (nI 0))] rfl ?_
  exact L (σ.1 0 i) 0 (by omega)

set_option maxRecDepth 100000 in
set_option maxHeartbeats 4000000 in
theorem c_goldKeyed {l : Launch} (hl : l.stackTraces = false) {g : mG} {x z z0 : Nat} {B : Nat → Nat} {μ0 μ : mM} {σ τ : Sg} (hR : RC g x B z0 μ0 σ τ μ) (i : Nat) (hi : i < σ.1 3 0) (w : Nat) (hw : w < 5) (hG : (∀ k, σ.1 1 k ≤ 26) ∧ ∀ k, σ.1 2 k ≤ 26) : Ct l g yX0_goldKeyedBy [Cond.code yX0_goldKeyedBy cX0_goldKeyedBy 9 (some .int)] { frames := 0, cells := 0, slots := 0, locals := 0 } [.ref (B i), .int (nI w)] μ z (rdP (some (.int (nI (cnt (fun k => allB σ w (48 * i + k)) (4 * σ.1 0 i))))) μ z) (noX) := by
  refine Ct.of hl (by decide +kernel) (Nat.le_of_ble_eq_true rfl) ?_
  intro p e s mi args below meth c o hnm hr hx
  have o : Ok p l s mi args meth c g cX0_goldKeyedBy 9 RX0 := o
  refine v_lv [(0, .ref (B i)), (1, .int (nI w))] rfl ?_
  have h12 := hR.np i
  have L : ∀ d j, j + d = σ.1 0 i → V p l e { frames := 0, cells := 0, slots := 0, locals := 0 } s mi args below meth c (vx_MQ below (cQc g (rdP (some (.int (nI (cnt (fun k => allB σ w (48 * i + k)) (4 * σ.1 0 i))))) μ z)) (cXC g (noX)) args s ({ frames := 0, cells := 0, slots := 0, locals := 0 } : Room).cells ({ frames := 0, cells := 0, slots := 0, locals := 0 } : Room).slots (gA g)) g μ z 0 0 14 [(0, .ref (B i)), (1, .int (nI w)), (2, .int (nI (cnt (fun k => allB σ w (48 * i + k)) (4 * j)))), (3, .ref (B i + 1)), (4, .int (nI (σ.1 0 i))), (5, .int (nI j))] [] := by
    intro d
    induction d with
    | zero =>
      intro j hj
      refine v_iload 5 o dX0_goldKeyedBy_14 rfl ?_
      refine v_iload 4 o dX0_goldKeyedBy_16 rfl ?_
      refine v_icmp_ge_n 94 o dX0_goldKeyedBy_18 (by decide) (by omega) (by omega) (fun c18 => ?_) (fun c18 => absurd c18 (by omega))
      refine v_iload_n 2 o dX0_goldKeyedBy_94 rfl rfl ?_
      exact v_iret o dX0_goldKeyedBy_95 hr (Nat.le_of_ble_eq_true rfl) (Nat.le_of_ble_eq_true rfl) ⟨by rw [show j = σ.1 0 i by omega], rfl, rfl⟩
    | succ d ih =>
      intro j hjd
      have hj : j < σ.1 0 i := by omega
      have M : ∀ da a, a + da = 4 → V p l e { frames := 0, cells := 0, slots := 0, locals := 0 } s mi args below meth c (vx_MQ below (cQc g (rdP (some (.int (nI (cnt (fun k => allB σ w (48 * i + k)) (4 * σ.1 0 i))))) μ z)) (cXC g (noX)) args s ({ frames := 0, cells := 0, slots := 0, locals := 0 } : Room).cells ({ frames := 0, cells := 0, slots := 0, locals := 0 } : Room).slots (gA g)) g μ z 0 0 30 [(0, .ref (B i)), (1, .int (nI w)), (2, .int (nI (cnt (fun k => allB σ w (48 * i + k)) (4 * j + a)))), (3, .ref (B i + 1)), (4, .int (nI (σ.1 0 i))), (5, .int (nI j)), (6, .ref (pA B i j)), (7, .int (nI a))] [] := by
        intro da
        induction da with
        | zero =>
          intro a ha
          refine v_iload 7 o dX0_goldKeyedBy_30 rfl ?_
          refine v_iconst 4 o dX0_goldKeyedBy_32 rfl ?_
          refine v_icmp_ge_n 88 o dX0_goldKeyedBy_33 (by decide) (by omega) (by decide) (fun c33 => ?_) (fun c33 => absurd c33 (by omega))
          refine v_iinc (nI (j + 1)) [(5, .int (nI (j + 1))), (0, .ref (B i)), (1, .int (nI w)), (2, .int (nI (cnt (fun k => allB σ w (48 * i + k)) (4 * j + a)))), (3, .ref (B i + 1)), (4, .int (nI (σ.1 0 i))), (6, .ref (pA B i j)), (7, .int (nI a))] o dX0_goldKeyedBy_88 5 rfl (iinc_n j 1) (by decide) rfl ?_
          refine v_goto 14 o dX0_goldKeyedBy_91 (by decide) ?_
          refine v_sub [(0, .ref (B i)), (1, .int (nI w)), (2, .int (nI (cnt (fun k => allB σ w (48 * i + k)) (4 * j + a)))), (3, .ref (B i + 1)), (4, .int (nI (σ.1 0 i))), (5, .int (nI (j + 1)))] [1, 2, 3, 4, 5, 0] rfl ?_
          refine v_lv [(0, .ref (B i)), (1, .int (nI w)), (2, .int (nI (cnt (fun k => allB σ w (48 * i + k)) (4 * (j + 1))))), (3, .ref (B i + 1)), (4, .int (nI (σ.1 0 i))), (5, .int (nI (j + 1)))] (by rw [show 4 * j + a = 4 * (j + 1) by omega]) ?_
          exact ih (j + 1) (by omega)
        | succ da ia =>
          intro a ha4
          have ha : a < 4 := by omega
          have q1 := hG.1 (4 * (12 * i + j) + a)
          have q2 := hG.2 (5 * (4 * (12 * i + j) + a) + w)
          have e1 : mI (σ.1 1 (4 * (12 * i + j) + a)) = -1 ↔ σ.1 1 (4 * (12 * i + j) + a) = 0 := mI_ne (by omega)
          have e2 : mI (σ.1 2 (5 * (4 * (12 * i + j) + a) + w)) = -1 ↔ σ.1 2 (5 * (4 * (12 * i + j) + a) + w) = 0 := mI_ne (by omega)
          have hF : (fun k => allB σ w (48 * i + k)) (4 * j + a) = (decide (0 < σ.1 1 (4 * (12 * i + j) + a)) && decide (0 < σ.1 2 (5 * (4 * (12 * i + j) + a) + w))) := by
            show allB σ w (48 * i + (4 * j + a)) = _; rw [show 48 * i + (4 * j + a) = 4 * (12 * i + j) + a by omega]; rfl
          refine v_iload 7 o dX0_goldKeyedBy_30 rfl ?_
          refine v_iconst 4 o dX0_goldKeyedBy_32 rfl ?_
          refine v_icmp_ge_n 88 o dX0_goldKeyedBy_33 (by decide) (by omega) (by decide) (fun c33 => absurd c33 (by omega)) (fun c33 => ?_)
          refine v_aload 6 o dX0_goldKeyedBy_36 rfl ?_
          refine v_get (v := .ref (pA B i j + 3)) o dX0_goldKeyedBy_38 cf2 8 (by decide) fl_X0_54 (hR.p0 hi hj) rfl ?_
          refine v_iload 7 o dX0_goldKeyedBy_41 rfl ?_
          refine v_iald (mI (σ.1 1 (4 * (12 * i + j) + a))) o dX0_goldKeyedBy_43 (by omega) (by decide) (hR.p3 hi hj) ((rs_lt (by omega)).trans rfl) ?_
          refine v_iconst_i (-1) o dX0_goldKeyedBy_44 (by decide) ?_
          refine v_icmp_eq 66 o dX0_goldKeyedBy_45 (by decide) (fun c45 => ?_) (fun c45 => ?_)
          · refine v_iconst 0 o dX0_goldKeyedBy_66 rfl ?_
            refine v_istore [(8, .int (nI 0)), (0, .ref (B i)), (1, .int (nI w)), (2, .int (nI (cnt (fun k => allB σ w (48 * i + k)) (4 * j + a)))), (3, .ref (B i + 1)), (4, .int (nI (σ.1 0 i))), (5, .int (nI j)), (6, .ref (pA B i j)), (7, .int (nI a))] o dX0_goldKeyedBy_67 (by decide) rfl ?_
            refine v_iload_n 3 o dX0_goldKeyedBy_69 rfl rfl ?_
            refine v_iload 0 o dX0_goldKeyedBy_70 rfl ?_
            refine v_if_eq_n 79 o dX0_goldKeyedBy_72 (by decide) (by decide) (fun c72 => ?_) (fun c72 => absurd c72 (by omega))
            refine v_iconst 0 o dX0_goldKeyedBy_79 rfl ?_
            refine v_iadd (nI (cnt (fun k => allB σ w (48 * i + k)) (4 * j + a))) o dX0_goldKeyedBy_80 (nI_add (cnt (fun k => allB σ w (48 * i + k)) (4 * j + a)) 0) ?_
            refine v_istore_n [(2, .int (nI (cnt (fun k => allB σ w (48 * i + k)) (4 * j + a)))), (8, .int (nI 0)), (0, .ref (B i)), (1, .int (nI w)), (3, .ref (B i + 1)), (4, .int (nI (σ.1 0 i))), (5, .int (nI j)), (6, .ref (pA B i j)), (7, .int (nI a))] o dX0_goldKeyedBy_81 rfl (by decide) rfl ?_
            refine v_iinc (nI (a + 1)) [(7, .int (nI (a + 1))), (2, .int (nI (cnt (fun k => allB σ w (48 * i + k)) (4 * j + a)))), (8, .int (nI 0)), (0, .ref (B i)), (1, .int (nI w)), (3, .ref (B i + 1)), (4, .int (nI (σ.1 0 i))), (5, .int (nI j)), (6, .ref (pA B i j))] o dX0_goldKeyedBy_82 8 rfl (iinc_n a 1) (by decide) rfl ?_
            refine v_goto 30 o dX0_goldKeyedBy_85 (by decide) ?_
            refine v_sub [(0, .ref (B i)), (1, .int (nI w)), (2, .int (nI (cnt (fun k => allB σ w (48 * i + k)) (4 * j + a)))), (3, .ref (B i + 1)), (4, .int (nI (σ.1 0 i))), (5, .int (nI j)), (6, .ref (pA B i j)), (7, .int (nI (a + 1)))] [3, 4, 1, 5, 6, 7, 8, 0] rfl ?_
            refine v_lv [(0, .ref (B i)), (1, .int (nI w)), (2, .int (nI (cnt (fun k => allB σ w (48 * i + k)) (4 * j + (a + 1))))), (3, .ref (B i + 1)), (4, .int (nI (σ.1 0 i))), (5, .int (nI j)), (6, .ref (pA B i j)), (7, .int (nI (a + 1)))] (by have f45 := e1.mp c45; rw [show 4 * j + (a + 1) = 4 * j + a + 1 from rfl, cnt_f (f := (fun k => allB σ w (48 * i + k))) (hF.trans (by simp; omega))]) ?_
            exact ia (a + 1) (by omega)
          · refine v_aload 6 o dX0_goldKeyedBy_48 rfl ?_
            refine v_get (v := .ref (pA B i j + 4)) o dX0_goldKeyedBy_50 cf2 9 (by decide) fl_X0_50 (hR.p0 hi hj) rfl ?_
            refine v_iload_n 1 o dX0_goldKeyedBy_53 rfl rfl ?_
            refine v_aaldI (.ref (pA B i j + 4 + 1 + w)) o dX0_goldKeyedBy_54 (by omega) (by decide) (hR.p4 hi hj) (by simp only [if_pos (show w < 5 from (by omega))]; rfl) ?_
            refine v_iload 7 o dX0_goldKeyedBy_55 rfl ?_
            refine v_iald (mI (σ.1 2 (5 * (4 * (12 * i + j) + a) + w))) o dX0_goldKeyedBy_57 (by omega) (by decide) (hR.p5 hi hj (by omega)) ((rs_lt (by omega)).trans rfl) ?_
            refine v_iconst_i (-1) o dX0_goldKeyedBy_58 (by decide) ?_
            refine v_icmp_eq 66 o dX0_goldKeyedBy_59 (by decide) (fun c59 => ?_) (fun c59 => ?_)
            · refine v_iconst 0 o dX0_goldKeyedBy_66 rfl ?_
              refine v_istore [(8, .int (nI 0)), (0, .ref (B i)), (1, .int (nI w)), (2, .int (nI (cnt (fun k => allB σ w (48 * i + k)) (4 * j + a)))), (3, .ref (B i + 1)), (4, .int (nI (σ.1 0 i))), (5, .int (nI j)), (6, .ref (pA B i j)), (7, .int (nI a))] o dX0_goldKeyedBy_67 (by decide) rfl ?_
              refine v_iload_n 3 o dX0_goldKeyedBy_69 rfl rfl ?_
              refine v_iload 0 o dX0_goldKeyedBy_70 rfl ?_
              refine v_if_eq_n 79 o dX0_goldKeyedBy_72 (by decide) (by decide) (fun c72 => ?_) (fun c72 => absurd c72 (by omega))
              refine v_iconst 0 o dX0_goldKeyedBy_79 rfl ?_
              refine v_iadd (nI (cnt (fun k => allB σ w (48 * i + k)) (4 * j + a))) o dX0_goldKeyedBy_80 (nI_add (cnt (fun k => allB σ w (48 * i + k)) (4 * j + a)) 0) ?_
              refine v_istore_n [(2, .int (nI (cnt (fun k => allB σ w (48 * i + k)) (4 * j + a)))), (8, .int (nI 0)), (0, .ref (B i)), (1, .int (nI w)), (3, .ref (B i + 1)), (4, .int (nI (σ.1 0 i))), (5, .int (nI j)), (6, .ref (pA B i j)), (7, .int (nI a))] o dX0_goldKeyedBy_81 rfl (by decide) rfl ?_
              refine v_iinc (nI (a + 1)) [(7, .int (nI (a + 1))), (2, .int (nI (cnt (fun k => allB σ w (48 * i + k)) (4 * j + a)))), (8, .int (nI 0)), (0, .ref (B i)), (1, .int (nI w)), (3, .ref (B i + 1)), (4, .int (nI (σ.1 0 i))), (5, .int (nI j)), (6, .ref (pA B i j))] o dX0_goldKeyedBy_82 8 rfl (iinc_n a 1) (by decide) rfl ?_
              refine v_goto 30 o dX0_goldKeyedBy_85 (by decide) ?_
              refine v_sub [(0, .ref (B i)), (1, .int (nI w)), (2, .int (nI (cnt (fun k => allB σ w (48 * i + k)) (4 * j + a)))), (3, .ref (B i + 1)), (4, .int (nI (σ.1 0 i))), (5, .int (nI j)), (6, .ref (pA B i j)), (7, .int (nI (a + 1)))] [3, 4, 1, 5, 6, 7, 8, 0] rfl ?_
              refine v_lv [(0, .ref (B i)), (1, .int (nI w)), (2, .int (nI (cnt (fun k => allB σ w (48 * i + k)) (4 * j + (a + 1))))), (3, .ref (B i + 1)), (4, .int (nI (σ.1 0 i))), (5, .int (nI j)), (6, .ref (pA B i j)), (7, .int (nI (a + 1)))] (by have f45 := (not_congr e1).mp c45; have f59 := e2.mp c59; rw [show 4 * j + (a + 1) = 4 * j + a + 1 from rfl, cnt_f (f := (fun k => allB σ w (48 * i + k))) (hF.trans (by simp; omega))]) ?_
              exact ia (a + 1) (by omega)
            · refine v_iconst 1 o dX0_goldKeyedBy_62 rfl ?_
              refine v_goto 67 o dX0_goldKeyedBy_63 (by decide) ?_
              refine v_istore [(8, .int (nI 1)), (0, .ref (B i)), (1, .int (nI w)), (2, .int (nI (cnt (fun k => allB σ w (48 * i + k)) (4 * j + a)))), (3, .ref (B i + 1)), (4, .int (nI (σ.1 0 i))), (5, .int (nI j)), (6, .ref (pA B i j)), (7, .int (nI a))] o dX0_goldKeyedBy_67 (by decide) rfl ?_
              refine v_iload_n 3 o dX0_goldKeyedBy_69 rfl rfl ?_
              refine v_iload 0 o dX0_goldKeyedBy_70 rfl ?_
              refine v_if_eq_n 79 o dX0_goldKeyedBy_72 (by decide) (by decide) (fun c72 => absurd c72 (by omega)) (fun c72 => ?_)
              refine v_iconst 1 o dX0_goldKeyedBy_75 rfl ?_
              refine v_goto 80 o dX0_goldKeyedBy_76 (by decide) ?_
              refine v_iadd (nI ((cnt (fun k => allB σ w (48 * i + k)) (4 * j + a)) + 1)) o dX0_goldKeyedBy_80 (nI_add (cnt (fun k => allB σ w (48 * i + k)) (4 * j + a)) 1) ?_
              refine v_istore_n [(2, .int (nI ((cnt (fun k => allB σ w (48 * i + k)) (4 * j + a)) + 1))), (8, .int (nI 1)), (0, .ref (B i)), (1, .int (nI w)), (3, .ref (B i + 1)), (4, .int (nI (σ.1 0 i))), (5, .int (nI j)), (6, .ref (pA B i j)), (7, .int (nI a))] o dX0_goldKeyedBy_81 rfl (by decide) rfl ?_
              refine v_iinc (nI (a + 1)) [(7, .int (nI (a + 1))), (2, .int (nI ((cnt (fun k => allB σ w (48 * i + k)) (4 * j + a)) + 1))), (8, .int (nI 1)), (0, .ref (B i)), (1, .int (nI w)), (3, .ref (B i + 1)), (4, .int (nI (σ.1 0 i))), (5, .int (nI j)), (6, .ref (pA B i j))] o dX0_goldKeyedBy_82 8 rfl (iinc_n a 1) (by decide) rfl ?_
              refine v_goto 30 o dX0_goldKeyedBy_85 (by decide) ?_
              refine v_sub [(0, .ref (B i)), (1, .int (nI w)), (2, .int (nI ((cnt (fun k => allB σ w (48 * i + k)) (4 * j + a)) + 1))), (3, .ref (B i + 1)), (4, .int (nI (σ.1 0 i))), (5, .int (nI j)), (6, .ref (pA B i j)), (7, .int (nI (a + 1)))] [3, 4, 1, 5, 6, 7, 8, 0] rfl ?_
              refine v_lv [(0, .ref (B i)), (1, .int (nI w)), (2, .int (nI (cnt (fun k => allB σ w (48 * i + k)) (4 * j + (a + 1))))), (3, .ref (B i + 1)), (4, .int (nI (σ.1 0 i))), (5, .int (nI j)), (6, .ref (pA B i j)), (7, .int (nI (a + 1)))] (by have f45 := (not_congr e1).mp c45; have f59 := (not_congr e2).mp c59; rw [show 4 * j + (a + 1) = 4 * j + a + 1 from rfl, cnt_t (f := (fun k => allB σ w (48 * i + k))) (hF.trans (by simp; omega))]) ?_
              exact ia (a + 1) (by omega)
      refine v_iload 5 o dX0_goldKeyedBy_14 rfl ?_
      refine v_iload 4 o dX0_goldKeyedBy_16 rfl ?_
      refine v_icmp_ge_n 94 o dX0_goldKeyedBy_18 (by decide) (by omega) (by omega) (fun c18 => absurd c18 (by omega)) (fun c18 => ?_)
      refine v_aload_n 3 o dX0_goldKeyedBy_21 rfl rfl ?_
      refine v_iload 5 o dX0_goldKeyedBy_22 rfl ?_
      refine v_aald (t0 := 3) (.ref (pA B i j)) o dX0_goldKeyedBy_24 rfl hj (by omega) (hR.ps hi) (by simp only [if_pos (show j < σ.1 0 i from hj)]; rfl) ?_
      refine v_astore [(6, .ref (pA B i j)), (0, .ref (B i)), (1, .int (nI w)), (2, .int (nI (cnt (fun k => allB σ w (48 * i + k)) (4 * j)))), (3, .ref (B i + 1)), (4, .int (nI (σ.1 0 i))), (5, .int (nI j))] o dX0_goldKeyedBy_25 (by decide) rfl ?_
      refine v_iconst 0 o dX0_goldKeyedBy_27 rfl ?_
      refine v_istore [(7, .int (nI 0)), (6, .ref (pA B i j)), (0, .ref (B i)), (1, .int (nI w)), (2, .int (nI (cnt (fun k => allB σ w (48 * i + k)) (4 * j)))), (3, .ref (B i + 1)), (4, .int (nI (σ.1 0 i))), (5, .int (nI j))] o dX0_goldKeyedBy_28 (by decide) rfl ?_
      refine v_sub [(0, .ref (B i)), (1, .int (nI w)), (2, .int (nI (cnt (fun k => allB σ w (48 * i + k)) (4 * j)))), (3, .ref (B i + 1)), (4, .int (nI (σ.1 0 i))), (5, .int (nI j)), (6, .ref (pA B i j)), (7, .int (nI 0))] [2, 3, 4, 5, 6, 7, 1, 0] rfl ?_
      refine v_lv [(0, .ref (B i)), (1, .int (nI w)), (2, .int (nI (cnt (fun k => allB σ w (48 * i + k)) (4 * j + 0)))), (3, .ref (B i + 1)), (4, .int (nI (σ.1 0 i))), (5, .int (nI j)), (6, .ref (pA B i j)), (7, .int (nI 0))] rfl ?_
      exact M 4 0 rfl
  refine v_iconst 0 o dX0_goldKeyedBy_0 rfl ?_
  refine v_istore_n [(2, .int (nI 0)), (0, .ref (B i)), (1, .int (nI w))] o dX0_goldKeyedBy_1 rfl (by decide) rfl ?_
  refine v_aload_n 1 o dX0_goldKeyedBy_2 rfl rfl ?_
  refine v_get (v := .ref (B i + 1)) o dX0_goldKeyedBy_3 cf0 0 (by decide) fl_X0_11 (hR.bk hi) rfl ?_
  refine v_astore_n [(3, .ref (B i + 1)), (2, .int (nI 0)), (0, .ref (B i)), (1, .int (nI w))] o dX0_goldKeyedBy_6 rfl (by decide) rfl ?_
  refine v_aload_n 0 o dX0_goldKeyedBy_7 rfl rfl ?_
  refine v_alen (t0 := 3) o dX0_goldKeyedBy_8 rfl (hR.ps hi) ?_
  refine v_top (nI (σ.1 0 i)) rfl ?_
  refine v_istore [(4, .int (nI (σ.1 0 i))), (3, .ref (B i + 1)), (2, .int (nI 0)), (0, .ref (B i)), (1, .int (nI w))] o dX0_goldKeyedBy_9 (by decide) rfl ?_
  refine v_iconst 0 o dX0_goldKeyedBy_11 rfl ?_
  refine v_istore [(5, .int (nI 0)), (4, .int (nI (σ.1 0 i))), (3, .ref (B i + 1)), (2, .int (nI 0)), (0, .ref (B i)), (1, .int (nI w))] o dX0_goldKeyedBy_12 (by decide) rfl ?_
  refine v_sub [(0, .ref (B i)), (1, .int (nI w)), (2, .int (nI 0)), (3, .ref (B i + 1)), (4, .int (nI (σ.1 0 i))), (5, .int (nI 0))] [4, 5, 3, 2, 1, 0] rfl ?_
  refine v_lv [(0, .ref (B i)), (1, .int (nI w)), (2, .int (nI (cnt (fun k => allB σ w (48 * i + k)) (4 * 0)))), (3, .ref (B i + 1)), (4, .int (nI (σ.1 0 i))), (5, .int (nI 0))] rfl ?_
  exact L (σ.1 0 i) 0 (by omega)

set_option maxRecDepth 100000 in
set_option maxHeartbeats 4000000 in
theorem c_goldRight {l : Launch} (hl : l.stackTraces = false) {g : mG} {x z z0 : Nat} {B : Nat → Nat} {μ0 μ : mM} {σ τ : Sg} (hR : RC g x B z0 μ0 σ τ μ) (i : Nat) (hi : i < σ.1 3 0) (w : Nat) (hw : w < 5) (hG : (∀ k, σ.1 1 k ≤ 26) ∧ ∀ k, σ.1 2 k ≤ 26) : Ct l g yX0_goldKeyedRightBy [Cond.code yX0_goldKeyedRightBy cX0_goldKeyedRightBy 9 (some .int)] { frames := 0, cells := 0, slots := 0, locals := 0 } [.ref (B i), .int (nI w)] μ z (rdP (some (.int (nI (cnt (fun k => rightB σ w (48 * i + k)) (4 * σ.1 0 i))))) μ z) (noX) := by
  refine Ct.of hl (by decide +kernel) (Nat.le_of_ble_eq_true rfl) ?_
  intro p e s mi args below meth c o hnm hr hx
  have o : Ok p l s mi args meth c g cX0_goldKeyedRightBy 9 RX0 := o
  refine v_lv [(0, .ref (B i)), (1, .int (nI w))] rfl ?_
  have h12 := hR.np i
  have L : ∀ d j, j + d = σ.1 0 i → V p l e { frames := 0, cells := 0, slots := 0, locals := 0 } s mi args below meth c (vx_MQ below (cQc g (rdP (some (.int (nI (cnt (fun k => rightB σ w (48 * i + k)) (4 * σ.1 0 i))))) μ z)) (cXC g (noX)) args s ({ frames := 0, cells := 0, slots := 0, locals := 0 } : Room).cells ({ frames := 0, cells := 0, slots := 0, locals := 0 } : Room).slots (gA g)) g μ z 0 0 14 [(0, .ref (B i)), (1, .int (nI w)), (2, .int (nI (cnt (fun k => rightB σ w (48 * i + k)) (4 * j)))), (3, .ref (B i + 1)), (4, .int (nI (σ.1 0 i))), (5, .int (nI j))] [] := by
    intro d
    induction d with
    | zero =>
      intro j hj
      refine v_iload 5 o dX0_goldKeyedRightBy_14 rfl ?_
      refine v_iload 4 o dX0_goldKeyedRightBy_16 rfl ?_
      refine v_icmp_ge_n 101 o dX0_goldKeyedRightBy_18 (by decide) (by omega) (by omega) (fun c18 => ?_) (fun c18 => absurd c18 (by omega))
      refine v_iload_n 2 o dX0_goldKeyedRightBy_101 rfl rfl ?_
      exact v_iret o dX0_goldKeyedRightBy_102 hr (Nat.le_of_ble_eq_true rfl) (Nat.le_of_ble_eq_true rfl) ⟨by rw [show j = σ.1 0 i by omega], rfl, rfl⟩
    | succ d ih =>
      intro j hjd
      have hj : j < σ.1 0 i := by omega
      have M : ∀ da a, a + da = 4 → V p l e { frames := 0, cells := 0, slots := 0, locals := 0 } s mi args below meth c (vx_MQ below (cQc g (rdP (some (.int (nI (cnt (fun k => rightB σ w (48 * i + k)) (4 * σ.1 0 i))))) μ z)) (cXC g (noX)) args s ({ frames := 0, cells := 0, slots := 0, locals := 0 } : Room).cells ({ frames := 0, cells := 0, slots := 0, locals := 0 } : Room).slots (gA g)) g μ z 0 0 30 [(0, .ref (B i)), (1, .int (nI w)), (2, .int (nI (cnt (fun k => rightB σ w (48 * i + k)) (4 * j + a)))), (3, .ref (B i + 1)), (4, .int (nI (σ.1 0 i))), (5, .int (nI j)), (6, .ref (pA B i j)), (7, .int (nI a))] [] := by
        intro da
        induction da with
        | zero =>
          intro a ha
          refine v_iload 7 o dX0_goldKeyedRightBy_30 rfl ?_
          refine v_iconst 4 o dX0_goldKeyedRightBy_32 rfl ?_
          refine v_icmp_ge_n 95 o dX0_goldKeyedRightBy_33 (by decide) (by omega) (by decide) (fun c33 => ?_) (fun c33 => absurd c33 (by omega))
          refine v_iinc (nI (j + 1)) [(5, .int (nI (j + 1))), (0, .ref (B i)), (1, .int (nI w)), (2, .int (nI (cnt (fun k => rightB σ w (48 * i + k)) (4 * j + a)))), (3, .ref (B i + 1)), (4, .int (nI (σ.1 0 i))), (6, .ref (pA B i j)), (7, .int (nI a))] o dX0_goldKeyedRightBy_95 5 rfl (iinc_n j 1) (by decide) rfl ?_
          refine v_goto 14 o dX0_goldKeyedRightBy_98 (by decide) ?_
          refine v_sub [(0, .ref (B i)), (1, .int (nI w)), (2, .int (nI (cnt (fun k => rightB σ w (48 * i + k)) (4 * j + a)))), (3, .ref (B i + 1)), (4, .int (nI (σ.1 0 i))), (5, .int (nI (j + 1)))] [1, 2, 3, 4, 5, 0] rfl ?_
          refine v_lv [(0, .ref (B i)), (1, .int (nI w)), (2, .int (nI (cnt (fun k => rightB σ w (48 * i + k)) (4 * (j + 1))))), (3, .ref (B i + 1)), (4, .int (nI (σ.1 0 i))), (5, .int (nI (j + 1)))] (by rw [show 4 * j + a = 4 * (j + 1) by omega]) ?_
          exact ih (j + 1) (by omega)
        | succ da ia =>
          intro a ha4
          have ha : a < 4 := by omega
          have q1 := hG.1 (4 * (12 * i + j) + a)
          have q2 := hG.2 (5 * (4 * (12 * i + j) + a) + w)
          have e1 : mI (σ.1 1 (4 * (12 * i + j) + a)) = -1 ↔ σ.1 1 (4 * (12 * i + j) + a) = 0 := mI_ne (by omega)
          have e3 : mI (σ.1 1 (4 * (12 * i + j) + a)) = mI (σ.1 2 (5 * (4 * (12 * i + j) + a) + w)) ↔ σ.1 1 (4 * (12 * i + j) + a) = σ.1 2 (5 * (4 * (12 * i + j) + a) + w) := mI_eq (by omega) (by omega)
          have hF : (fun k => rightB σ w (48 * i + k)) (4 * j + a) = (decide (0 < σ.1 1 (4 * (12 * i + j) + a)) && decide (σ.1 2 (5 * (4 * (12 * i + j) + a) + w) = σ.1 1 (4 * (12 * i + j) + a))) := by
            show rightB σ w (48 * i + (4 * j + a)) = _; rw [show 48 * i + (4 * j + a) = 4 * (12 * i + j) + a by omega]; rfl
          refine v_iload 7 o dX0_goldKeyedRightBy_30 rfl ?_
          refine v_iconst 4 o dX0_goldKeyedRightBy_32 rfl ?_
          refine v_icmp_ge_n 95 o dX0_goldKeyedRightBy_33 (by decide) (by omega) (by decide) (fun c33 => absurd c33 (by omega)) (fun c33 => ?_)
          refine v_aload 6 o dX0_goldKeyedRightBy_36 rfl ?_
          refine v_get (v := .ref (pA B i j + 3)) o dX0_goldKeyedRightBy_38 cf2 8 (by decide) fl_X0_54 (hR.p0 hi hj) rfl ?_
          refine v_iload 7 o dX0_goldKeyedRightBy_41 rfl ?_
          refine v_iald (mI (σ.1 1 (4 * (12 * i + j) + a))) o dX0_goldKeyedRightBy_43 (by omega) (by decide) (hR.p3 hi hj) ((rs_lt (by omega)).trans rfl) ?_
          refine v_iconst_i (-1) o dX0_goldKeyedRightBy_44 (by decide) ?_
          refine v_icmp_eq 73 o dX0_goldKeyedRightBy_45 (by decide) (fun c45 => ?_) (fun c45 => ?_)
          · refine v_iconst 0 o dX0_goldKeyedRightBy_73 rfl ?_
            refine v_istore [(8, .int (nI 0)), (0, .ref (B i)), (1, .int (nI w)), (2, .int (nI (cnt (fun k => rightB σ w (48 * i + k)) (4 * j + a)))), (3, .ref (B i + 1)), (4, .int (nI (σ.1 0 i))), (5, .int (nI j)), (6, .ref (pA B i j)), (7, .int (nI a))] o dX0_goldKeyedRightBy_74 (by decide) rfl ?_
            refine v_iload_n 3 o dX0_goldKeyedRightBy_76 rfl rfl ?_
            refine v_iload 0 o dX0_goldKeyedRightBy_77 rfl ?_
            refine v_if_eq_n 86 o dX0_goldKeyedRightBy_79 (by decide) (by decide) (fun c79 => ?_) (fun c79 => absurd c79 (by omega))
            refine v_iconst 0 o dX0_goldKeyedRightBy_86 rfl ?_
            refine v_iadd (nI (cnt (fun k => rightB σ w (48 * i + k)) (4 * j + a))) o dX0_goldKeyedRightBy_87 (nI_add (cnt (fun k => rightB σ w (48 * i + k)) (4 * j + a)) 0) ?_
            refine v_istore_n [(2, .int (nI (cnt (fun k => rightB σ w (48 * i + k)) (4 * j + a)))), (8, .int (nI 0)), (0, .ref (B i)), (1, .int (nI w)), (3, .ref (B i + 1)), (4, .int (nI (σ.1 0 i))), (5, .int (nI j)), (6, .ref (pA B i j)), (7, .int (nI a))] o dX0_goldKeyedRightBy_88 rfl (by decide) rfl ?_
            refine v_iinc (nI (a + 1)) [(7, .int (nI (a + 1))), (2, .int (nI (cnt (fun k => rightB σ w (48 * i + k)) (4 * j + a)))), (8, .int (nI 0)), (0, .ref (B i)), (1, .int (nI w)), (3, .ref (B i + 1)), (4, .int (nI (σ.1 0 i))), (5, .int (nI j)), (6, .ref (pA B i j))] o dX0_goldKeyedRightBy_89 8 rfl (iinc_n a 1) (by decide) rfl ?_
            refine v_goto 30 o dX0_goldKeyedRightBy_92 (by decide) ?_
            refine v_sub [(0, .ref (B i)), (1, .int (nI w)), (2, .int (nI (cnt (fun k => rightB σ w (48 * i + k)) (4 * j + a)))), (3, .ref (B i + 1)), (4, .int (nI (σ.1 0 i))), (5, .int (nI j)), (6, .ref (pA B i j)), (7, .int (nI (a + 1)))] [3, 4, 1, 5, 6, 7, 8, 0] rfl ?_
            refine v_lv [(0, .ref (B i)), (1, .int (nI w)), (2, .int (nI (cnt (fun k => rightB σ w (48 * i + k)) (4 * j + (a + 1))))), (3, .ref (B i + 1)), (4, .int (nI (σ.1 0 i))), (5, .int (nI j)), (6, .ref (pA B i j)), (7, .int (nI (a + 1)))] (by have f45 := e1.mp c45; rw [show 4 * j + (a + 1) = 4 * j + a + 1 from rfl, cnt_f (f := (fun k => rightB σ w (48 * i + k))) (hF.trans (by simp; omega))]) ?_
            exact ia (a + 1) (by omega)
          · refine v_aload 6 o dX0_goldKeyedRightBy_48 rfl ?_
            refine v_get (v := .ref (pA B i j + 3)) o dX0_goldKeyedRightBy_50 cf2 8 (by decide) fl_X0_54 (hR.p0 hi hj) rfl ?_
            refine v_iload 7 o dX0_goldKeyedRightBy_53 rfl ?_
            refine v_iald (mI (σ.1 1 (4 * (12 * i + j) + a))) o dX0_goldKeyedRightBy_55 (by omega) (by decide) (hR.p3 hi hj) ((rs_lt (by omega)).trans rfl) ?_
            refine v_aload 6 o dX0_goldKeyedRightBy_56 rfl ?_
            refine v_get (v := .ref (pA B i j + 4)) o dX0_goldKeyedRightBy_58 cf2 9 (by decide) fl_X0_50 (hR.p0 hi hj) rfl ?_
            refine v_iload_n 1 o dX0_goldKeyedRightBy_61 rfl rfl ?_
            refine v_aaldI (.ref (pA B i j + 4 + 1 + w)) o dX0_goldKeyedRightBy_62 (by omega) (by decide) (hR.p4 hi hj) (by simp only [if_pos (show w < 5 from (by omega))]; rfl) ?_
            refine v_iload 7 o dX0_goldKeyedRightBy_63 rfl ?_
            refine v_iald (mI (σ.1 2 (5 * (4 * (12 * i + j) + a) + w))) o dX0_goldKeyedRightBy_65 (by omega) (by decide) (hR.p5 hi hj (by omega)) ((rs_lt (by omega)).trans rfl) ?_
            refine v_icmp_ne 73 o dX0_goldKeyedRightBy_66 (by decide) (fun c66 => ?_) (fun c66 => ?_)
            · refine v_iconst 0 o dX0_goldKeyedRightBy_73 rfl ?_
              refine v_istore [(8, .int (nI 0)), (0, .ref (B i)), (1, .int (nI w)), (2, .int (nI (cnt (fun k => rightB σ w (48 * i + k)) (4 * j + a)))), (3, .ref (B i + 1)), (4, .int (nI (σ.1 0 i))), (5, .int (nI j)), (6, .ref (pA B i j)), (7, .int (nI a))] o dX0_goldKeyedRightBy_74 (by decide) rfl ?_
              refine v_iload_n 3 o dX0_goldKeyedRightBy_76 rfl rfl ?_
              refine v_iload 0 o dX0_goldKeyedRightBy_77 rfl ?_
              refine v_if_eq_n 86 o dX0_goldKeyedRightBy_79 (by decide) (by decide) (fun c79 => ?_) (fun c79 => absurd c79 (by omega))
              refine v_iconst 0 o dX0_goldKeyedRightBy_86 rfl ?_
              refine v_iadd (nI (cnt (fun k => rightB σ w (48 * i + k)) (4 * j + a))) o dX0_goldKeyedRightBy_87 (nI_add (cnt (fun k => rightB σ w (48 * i + k)) (4 * j + a)) 0) ?_
              refine v_istore_n [(2, .int (nI (cnt (fun k => rightB σ w (48 * i + k)) (4 * j + a)))), (8, .int (nI 0)), (0, .ref (B i)), (1, .int (nI w)), (3, .ref (B i + 1)), (4, .int (nI (σ.1 0 i))), (5, .int (nI j)), (6, .ref (pA B i j)), (7, .int (nI a))] o dX0_goldKeyedRightBy_88 rfl (by decide) rfl ?_
              refine v_iinc (nI (a + 1)) [(7, .int (nI (a + 1))), (2, .int (nI (cnt (fun k => rightB σ w (48 * i + k)) (4 * j + a)))), (8, .int (nI 0)), (0, .ref (B i)), (1, .int (nI w)), (3, .ref (B i + 1)), (4, .int (nI (σ.1 0 i))), (5, .int (nI j)), (6, .ref (pA B i j))] o dX0_goldKeyedRightBy_89 8 rfl (iinc_n a 1) (by decide) rfl ?_
              refine v_goto 30 o dX0_goldKeyedRightBy_92 (by decide) ?_
              refine v_sub [(0, .ref (B i)), (1, .int (nI w)), (2, .int (nI (cnt (fun k => rightB σ w (48 * i + k)) (4 * j + a)))), (3, .ref (B i + 1)), (4, .int (nI (σ.1 0 i))), (5, .int (nI j)), (6, .ref (pA B i j)), (7, .int (nI (a + 1)))] [3, 4, 1, 5, 6, 7, 8, 0] rfl ?_
              refine v_lv [(0, .ref (B i)), (1, .int (nI w)), (2, .int (nI (cnt (fun k => rightB σ w (48 * i + k)) (4 * j + (a + 1))))), (3, .ref (B i + 1)), (4, .int (nI (σ.1 0 i))), (5, .int (nI j)), (6, .ref (pA B i j)), (7, .int (nI (a + 1)))] (by have f45 := (not_congr e1).mp c45; have f66 := (not_congr e3).mp c66; rw [show 4 * j + (a + 1) = 4 * j + a + 1 from rfl, cnt_f (f := (fun k => rightB σ w (48 * i + k))) (hF.trans (by simp; omega))]) ?_
              exact ia (a + 1) (by omega)
            · refine v_iconst 1 o dX0_goldKeyedRightBy_69 rfl ?_
              refine v_goto 74 o dX0_goldKeyedRightBy_70 (by decide) ?_
              refine v_istore [(8, .int (nI 1)), (0, .ref (B i)), (1, .int (nI w)), (2, .int (nI (cnt (fun k => rightB σ w (48 * i + k)) (4 * j + a)))), (3, .ref (B i + 1)), (4, .int (nI (σ.1 0 i))), (5, .int (nI j)), (6, .ref (pA B i j)), (7, .int (nI a))] o dX0_goldKeyedRightBy_74 (by decide) rfl ?_
              refine v_iload_n 3 o dX0_goldKeyedRightBy_76 rfl rfl ?_
              refine v_iload 0 o dX0_goldKeyedRightBy_77 rfl ?_
              refine v_if_eq_n 86 o dX0_goldKeyedRightBy_79 (by decide) (by decide) (fun c79 => absurd c79 (by omega)) (fun c79 => ?_)
              refine v_iconst 1 o dX0_goldKeyedRightBy_82 rfl ?_
              refine v_goto 87 o dX0_goldKeyedRightBy_83 (by decide) ?_
              refine v_iadd (nI ((cnt (fun k => rightB σ w (48 * i + k)) (4 * j + a)) + 1)) o dX0_goldKeyedRightBy_87 (nI_add (cnt (fun k => rightB σ w (48 * i + k)) (4 * j + a)) 1) ?_
              refine v_istore_n [(2, .int (nI ((cnt (fun k => rightB σ w (48 * i + k)) (4 * j + a)) + 1))), (8, .int (nI 1)), (0, .ref (B i)), (1, .int (nI w)), (3, .ref (B i + 1)), (4, .int (nI (σ.1 0 i))), (5, .int (nI j)), (6, .ref (pA B i j)), (7, .int (nI a))] o dX0_goldKeyedRightBy_88 rfl (by decide) rfl ?_
              refine v_iinc (nI (a + 1)) [(7, .int (nI (a + 1))), (2, .int (nI ((cnt (fun k => rightB σ w (48 * i + k)) (4 * j + a)) + 1))), (8, .int (nI 1)), (0, .ref (B i)), (1, .int (nI w)), (3, .ref (B i + 1)), (4, .int (nI (σ.1 0 i))), (5, .int (nI j)), (6, .ref (pA B i j))] o dX0_goldKeyedRightBy_89 8 rfl (iinc_n a 1) (by decide) rfl ?_
              refine v_goto 30 o dX0_goldKeyedRightBy_92 (by decide) ?_
              refine v_sub [(0, .ref (B i)), (1, .int (nI w)), (2, .int (nI ((cnt (fun k => rightB σ w (48 * i + k)) (4 * j + a)) + 1))), (3, .ref (B i + 1)), (4, .int (nI (σ.1 0 i))), (5, .int (nI j)), (6, .ref (pA B i j)), (7, .int (nI (a + 1)))] [3, 4, 1, 5, 6, 7, 8, 0] rfl ?_
              refine v_lv [(0, .ref (B i)), (1, .int (nI w)), (2, .int (nI (cnt (fun k => rightB σ w (48 * i + k)) (4 * j + (a + 1))))), (3, .ref (B i + 1)), (4, .int (nI (σ.1 0 i))), (5, .int (nI j)), (6, .ref (pA B i j)), (7, .int (nI (a + 1)))] (by have f45 := (not_congr e1).mp c45; have f66 := e3.mp c66; rw [show 4 * j + (a + 1) = 4 * j + a + 1 from rfl, cnt_t (f := (fun k => rightB σ w (48 * i + k))) (hF.trans (by simp; omega))]) ?_
              exact ia (a + 1) (by omega)
      refine v_iload 5 o dX0_goldKeyedRightBy_14 rfl ?_
      refine v_iload 4 o dX0_goldKeyedRightBy_16 rfl ?_
      refine v_icmp_ge_n 101 o dX0_goldKeyedRightBy_18 (by decide) (by omega) (by omega) (fun c18 => absurd c18 (by omega)) (fun c18 => ?_)
      refine v_aload_n 3 o dX0_goldKeyedRightBy_21 rfl rfl ?_
      refine v_iload 5 o dX0_goldKeyedRightBy_22 rfl ?_
      refine v_aald (t0 := 3) (.ref (pA B i j)) o dX0_goldKeyedRightBy_24 rfl hj (by omega) (hR.ps hi) (by simp only [if_pos (show j < σ.1 0 i from hj)]; rfl) ?_
      refine v_astore [(6, .ref (pA B i j)), (0, .ref (B i)), (1, .int (nI w)), (2, .int (nI (cnt (fun k => rightB σ w (48 * i + k)) (4 * j)))), (3, .ref (B i + 1)), (4, .int (nI (σ.1 0 i))), (5, .int (nI j))] o dX0_goldKeyedRightBy_25 (by decide) rfl ?_
      refine v_iconst 0 o dX0_goldKeyedRightBy_27 rfl ?_
      refine v_istore [(7, .int (nI 0)), (6, .ref (pA B i j)), (0, .ref (B i)), (1, .int (nI w)), (2, .int (nI (cnt (fun k => rightB σ w (48 * i + k)) (4 * j)))), (3, .ref (B i + 1)), (4, .int (nI (σ.1 0 i))), (5, .int (nI j))] o dX0_goldKeyedRightBy_28 (by decide) rfl ?_
      refine v_sub [(0, .ref (B i)), (1, .int (nI w)), (2, .int (nI (cnt (fun k => rightB σ w (48 * i + k)) (4 * j)))), (3, .ref (B i + 1)), (4, .int (nI (σ.1 0 i))), (5, .int (nI j)), (6, .ref (pA B i j)), (7, .int (nI 0))] [2, 3, 4, 5, 6, 7, 1, 0] rfl ?_
      refine v_lv [(0, .ref (B i)), (1, .int (nI w)), (2, .int (nI (cnt (fun k => rightB σ w (48 * i + k)) (4 * j + 0)))), (3, .ref (B i + 1)), (4, .int (nI (σ.1 0 i))), (5, .int (nI j)), (6, .ref (pA B i j)), (7, .int (nI 0))] rfl ?_
      exact M 4 0 rfl
  refine v_iconst 0 o dX0_goldKeyedRightBy_0 rfl ?_
  refine v_istore_n [(2, .int (nI 0)), (0, .ref (B i)), (1, .int (nI w))] o dX0_goldKeyedRightBy_1 rfl (by decide) rfl ?_
  refine v_aload_n 1 o dX0_goldKeyedRightBy_2 rfl rfl ?_
  refine v_get (v := .ref (B i + 1)) o dX0_goldKeyedRightBy_3 cf0 0 (by decide) fl_X0_11 (hR.bk hi) rfl ?_
  refine v_astore_n [(3, .ref (B i + 1)), (2, .int (nI 0)), (0, .ref (B i)), (1, .int (nI w))] o dX0_goldKeyedRightBy_6 rfl (by decide) rfl ?_
  refine v_aload_n 0 o dX0_goldKeyedRightBy_7 rfl rfl ?_
  refine v_alen (t0 := 3) o dX0_goldKeyedRightBy_8 rfl (hR.ps hi) ?_
  refine v_top (nI (σ.1 0 i)) rfl ?_
  refine v_istore [(4, .int (nI (σ.1 0 i))), (3, .ref (B i + 1)), (2, .int (nI 0)), (0, .ref (B i)), (1, .int (nI w))] o dX0_goldKeyedRightBy_9 (by decide) rfl ?_
  refine v_iconst 0 o dX0_goldKeyedRightBy_11 rfl ?_
  refine v_istore [(5, .int (nI 0)), (4, .int (nI (σ.1 0 i))), (3, .ref (B i + 1)), (2, .int (nI 0)), (0, .ref (B i)), (1, .int (nI w))] o dX0_goldKeyedRightBy_12 (by decide) rfl ?_
  refine v_sub [(0, .ref (B i)), (1, .int (nI w)), (2, .int (nI 0)), (3, .ref (B i + 1)), (4, .int (nI (σ.1 0 i))), (5, .int (nI 0))] [4, 5, 3, 2, 1, 0] rfl ?_
  refine v_lv [(0, .ref (B i)), (1, .int (nI w)), (2, .int (nI (cnt (fun k => rightB σ w (48 * i + k)) (4 * 0)))), (3, .ref (B i + 1)), (4, .int (nI (σ.1 0 i))), (5, .int (nI 0))] rfl ?_
  exact L (σ.1 0 i) 0 (by omega)

