/-- blank off the pages -/
def Off (σ : Sg) (f : Nat → Bool) : Prop := ∀ b p a, b < 6 → p < 12 → a < 4 → ¬ (b < σ.1 3 0 ∧ p < σ.1 0 b) → f (4 * (12 * b + p) + a) = false
theorem Off.z {σ : Sg} {f : Nat → Bool} (h : Off σ f) {i k : Nat} (hi : i < 6) (hk : k < 48) (hn : ¬ (i < σ.1 3 0 ∧ k / 4 < σ.1 0 i)) : f (48 * i + k) = false := by
  have h1 := h i (k / 4) (k % 4) hi (by omega) (by omega) hn
  rwa [show 4 * (12 * i + k / 4) + k % 4 = 48 * i + k by omega] at h1
theorem Off.bk {σ : Sg} {f : Nat → Bool} (h : Off σ f) {i : Nat} (hi : i < 6) (h12 : σ.1 0 i ≤ 12) : cnt f (48 * i) + cnt (fun k => f (48 * i + k)) (4 * σ.1 0 i) = cnt f (48 * (i + 1)) := by
  rw [show 48 * (i + 1) = 48 * i + 48 by omega, cnt_add f (48 * i) 48, show 48 = 4 * σ.1 0 i + (48 - 4 * σ.1 0 i) by omega, cnt_blank (f := fun k => f ((4 * σ.1 0 i + (48 - 4 * σ.1 0 i)) * i + k)) (a := 4 * σ.1 0 i) (48 - 4 * σ.1 0 i) (fun k h1 h2 => by
    rw [show 4 * σ.1 0 i + (48 - 4 * σ.1 0 i) = 48 by omega]
    exact h.z hi (by omega) (by omega))]
theorem Off.tl {σ : Sg} {f : Nat → Bool} (h : Off σ f) {i : Nat} (hi : i ≤ 6) (hn : σ.1 3 0 ≤ i) : cnt f (48 * i) = cnt f 288 := by
  have h1 := cnt_blank (f := f) (a := 48 * i) (288 - 48 * i) (fun k h1 h2 => by
    have h2 := h.z (i := k / 48) (k := k % 48) (by omega) (by omega) (by omega)
    rwa [show 48 * (k / 48) + k % 48 = k by omega] at h2)
  rw [← h1, show 48 * i + (288 - 48 * i) = 288 by omega]
theorem Off.key {σ : Sg} (hI : Inv σ) {w : Nat} (hw : w < 5) : Off σ (fun k => decide (0 < σ.1 2 (5 * k + w))) := fun b p a hb hp ha hn => by
  have h := ((hI.2.2.2.2.2.2 b p hb hp hn).2.2 a ha).2 w hw
  show decide (0 < σ.1 2 (5 * (4 * (12 * b + p) + a) + w)) = false
  rw [h]
  rfl
theorem Off.all {σ : Sg} (hI : Inv σ) (w : Nat) : Off σ (allB σ w) := fun b p a hb hp ha hn => by
  have h := ((hI.2.2.2.2.2.2 b p hb hp hn).2.2 a ha).1
  unfold allB
  rw [h]
  rfl
theorem Off.right {σ : Sg} (hI : Inv σ) (w : Nat) : Off σ (rightB σ w) := fun b p a hb hp ha hn => by
  have h := ((hI.2.2.2.2.2.2 b p hb hp hn).2.2 a ha).1
  unfold rightB
  rw [h]
  rfl
set_option maxRecDepth 100000 in
set_option maxHeartbeats 4000000 in
theorem c_trustIn {l : Launch} (hl : l.stackTraces = false) {g : mG} {x z z0 : Nat} {B : Nat → Nat} {μ0 μ : mM} {σ τ : Sg} (hR : RC g x B z0 μ0 σ τ μ) (hI : Inv σ) (w : Nat) (hw : w < 5) : Ct l g yX5_trustIn [Cond.code yX5_trustIn cX5_trustIn 8 (some .int)] { frames := 1, cells := 0, slots := 0, locals := 28 } [.ref x, .int (nI w)] μ z (rdP (some (.int (nI (trustN σ w)))) μ z) (noX) := by
  refine Ct.of hl (by decide +kernel) (Nat.le_of_ble_eq_true rfl) ?_
  intro p e s mi args below meth c o hnm hr hx
  have o : Ok p l s mi args meth c g cX5_trustIn 8 RX5 := o
  refine v_lv [(0, .ref x), (1, .int (nI w))] rfl ?_
  have h6 := hR.nb
  have T : ∀ d i, i + d = 6 → σ.1 3 0 ≤ i → V p l e { frames := 1, cells := 0, slots := 0, locals := 28 } s mi args below meth c (vx_MQ below (cQc g (rdP (some (.int (nI (trustN σ w)))) μ z)) (cXC g (noX)) args s ({ frames := 1, cells := 0, slots := 0, locals := 28 } : Room).cells ({ frames := 1, cells := 0, slots := 0, locals := 28 } : Room).slots (gA g)) g μ z 0 0 18 [(0, .ref x), (1, .int (nI w)), (2, .int (nI (cnt (allB σ w) 288))), (3, .int (nI (cnt (rightB σ w) 288))), (4, .ref (x + 1)), (5, .int (nI 6)), (6, .int (nI i))] [] := by
    intro d
    induction d with
    | zero =>
      intro i hi6 hn
      have ha := cnt_le (allB σ w) 288; have hb := right_le σ w 288
      refine v_iload 6 o dX5_trustIn_18 rfl ?_
      refine v_iload 5 o dX5_trustIn_20 rfl ?_
      refine v_icmp_ge_n 61 o dX5_trustIn_22 (by decide) (by omega) (by decide) (fun c22 => ?_) (fun c22 => absurd c22 (by omega))
      refine v_iload_n 2 o dX5_trustIn_61 rfl rfl ?_
      refine v_if_ne_n 70 o dX5_trustIn_62 (by decide) (by omega) (fun c62 => ?_) (fun c62 => ?_)
      · refine v_bipush 100 o dX5_trustIn_70 (by decide) ?_
        refine v_iload_n 3 o dX5_trustIn_72 rfl rfl ?_
        refine v_imul (nI (100 * (cnt (rightB σ w) 288))) o dX5_trustIn_73 (pk_mul 100 (cnt (rightB σ w) 288)) ?_
        refine v_iload_n 2 o dX5_trustIn_74 rfl rfl ?_
        refine v_idiv (nI (100 * cnt (rightB σ w) 288 / cnt (allB σ w) 288)) o dX5_trustIn_75 (fun q => c62 ((nI_eq (by omega) (by decide : 0 < 2 ^ 31)).mp q)) (pk_div (by omega) (by omega) (by omega)) ?_
        exact v_iret o dX5_trustIn_76 hr (Nat.le_of_ble_eq_true rfl) (Nat.le_of_ble_eq_true rfl) ⟨by rw [show trustN σ w = 100 * cnt (rightB σ w) 288 / cnt (allB σ w) 288 from if_neg c62], rfl, rfl⟩
      · refine v_bipush 50 o dX5_trustIn_65 (by decide) ?_
        refine v_goto 76 o dX5_trustIn_67 (by decide) ?_
        exact v_iret o dX5_trustIn_76 hr (Nat.le_of_ble_eq_true rfl) (Nat.le_of_ble_eq_true rfl) ⟨by rw [show trustN σ w = 50 from if_pos c62], rfl, rfl⟩
    | succ d ih =>
      intro i hid hge
      have hi6 : i < 6 := by omega
      have hn : ¬ i < σ.1 3 0 := by omega
      refine v_iload 6 o dX5_trustIn_18 rfl ?_
      refine v_iload 5 o dX5_trustIn_20 rfl ?_
      refine v_icmp_ge_n 61 o dX5_trustIn_22 (by decide) (by omega) (by decide) (fun c22 => absurd c22 (by omega)) (fun c22 => ?_)
      refine v_aload 4 o dX5_trustIn_25 rfl ?_
      refine v_iload 6 o dX5_trustIn_27 rfl ?_
      refine v_aald (t0 := 4) .null o dX5_trustIn_29 rfl hi6 (by decide) hR.h1 (by simp only [if_neg (show ¬ i < σ.1 3 0 from hn)]; rfl) ?_
      refine v_anstore [(7, .null), (0, .ref x), (1, .int (nI w)), (2, .int (nI (cnt (allB σ w) 288))), (3, .int (nI (cnt (rightB σ w) 288))), (4, .ref (x + 1)), (5, .int (nI 6)), (6, .int (nI i))] o dX5_trustIn_30 (by decide) rfl ?_
      refine v_anload 0 o dX5_trustIn_32 rfl ?_
      refine v_ifnullN 55 o dX5_trustIn_34 (by decide) ?_
      refine v_iinc (nI (i + 1)) [(6, .int (nI (i + 1))), (7, .null), (0, .ref x), (1, .int (nI w)), (2, .int (nI (cnt (allB σ w) 288))), (3, .int (nI (cnt (rightB σ w) 288))), (4, .ref (x + 1)), (5, .int (nI 6))] o dX5_trustIn_55 7 rfl (iinc_n i 1) (by decide) rfl ?_
      refine v_goto 18 o dX5_trustIn_58 (by decide) ?_
      refine v_sub [(0, .ref x), (1, .int (nI w)), (2, .int (nI (cnt (allB σ w) 288))), (3, .int (nI (cnt (rightB σ w) 288))), (4, .ref (x + 1)), (5, .int (nI 6)), (6, .int (nI (i + 1)))] [2, 3, 4, 5, 6, 7, 0] rfl ?_
      exact ih (i + 1) (by omega) (by omega)
  have L : ∀ d i, i + d = σ.1 3 0 → V p l e { frames := 1, cells := 0, slots := 0, locals := 28 } s mi args below meth c (vx_MQ below (cQc g (rdP (some (.int (nI (trustN σ w)))) μ z)) (cXC g (noX)) args s ({ frames := 1, cells := 0, slots := 0, locals := 28 } : Room).cells ({ frames := 1, cells := 0, slots := 0, locals := 28 } : Room).slots (gA g)) g μ z 0 0 18 [(0, .ref x), (1, .int (nI w)), (2, .int (nI (cnt (allB σ w) (48 * i)))), (3, .int (nI (cnt (rightB σ w) (48 * i)))), (4, .ref (x + 1)), (5, .int (nI 6)), (6, .int (nI i))] [] := by
    intro d
    induction d with
    | zero =>
      intro i hie
      refine v_lv [(0, .ref x), (1, .int (nI w)), (2, .int (nI (cnt (allB σ w) 288))), (3, .int (nI (cnt (rightB σ w) 288))), (4, .ref (x + 1)), (5, .int (nI 6)), (6, .int (nI i))] (by rw [(Off.all hI w).tl (by omega) (by omega), (Off.right hI w).tl (by omega) (by omega)]) ?_
      exact T (6 - i) i (by omega) (by omega)
    | succ d ih =>
      intro i hid
      have hi : i < σ.1 3 0 := by omega
      refine v_iload 6 o dX5_trustIn_18 rfl ?_
      refine v_iload 5 o dX5_trustIn_20 rfl ?_
      refine v_icmp_ge_n 61 o dX5_trustIn_22 (by decide) (by omega) (by decide) (fun c22 => absurd c22 (by omega)) (fun c22 => ?_)
      refine v_aload 4 o dX5_trustIn_25 rfl ?_
      refine v_iload 6 o dX5_trustIn_27 rfl ?_
      refine v_aald (t0 := 4) (.ref (B i)) o dX5_trustIn_29 rfl (by omega) (by decide) hR.h1 (by simp only [if_pos (show i < σ.1 3 0 from hi)]; rfl) ?_
      refine v_astore [(7, .ref (B i)), (0, .ref x), (1, .int (nI w)), (2, .int (nI (cnt (allB σ w) (48 * i)))), (3, .int (nI (cnt (rightB σ w) (48 * i)))), (4, .ref (x + 1)), (5, .int (nI 6)), (6, .int (nI i))] o dX5_trustIn_30 (by decide) rfl ?_
      refine v_aload 0 o dX5_trustIn_32 rfl ?_
      refine v_ifnull o dX5_trustIn_34 ?_
      refine v_iload_n 3 o dX5_trustIn_37 rfl rfl ?_
      refine v_aload 0 o dX5_trustIn_38 rfl ?_
      refine v_iload_n 2 o dX5_trustIn_40 rfl rfl ?_
      refine v_callVr (v := .int (nI (cnt (fun k => allB σ w (48 * i + k)) (4 * σ.1 0 i)))) [.int (nI w)] [.int (nI (cnt (allB σ w) (48 * i)))] o dX5_trustIn_41 cw_X5_281 im_X0_goldKeyedBy se_X0_goldKeyedBy cf0 (hR.bk hi) (c_goldKeyed hl hR i hi w (by omega) ⟨hI.2.2.1, hI.2.2.2.1⟩) rfl rfl (by decide) ⟨rfl, rfl⟩ (by decide) (Nat.le_of_ble_eq_true rfl) ?_
      refine v_iadd (nI (cnt (allB σ w) (48 * i) + (cnt (fun k => allB σ w (48 * i + k)) (4 * σ.1 0 i)))) o dX5_trustIn_44 (nI_add (cnt (allB σ w) (48 * i)) (cnt (fun k => allB σ w (48 * i + k)) (4 * σ.1 0 i))) ?_
      refine v_istore_n [(2, .int (nI (cnt (allB σ w) (48 * i) + (cnt (fun k => allB σ w (48 * i + k)) (4 * σ.1 0 i))))), (7, .ref (B i)), (0, .ref x), (1, .int (nI w)), (3, .int (nI (cnt (rightB σ w) (48 * i)))), (4, .ref (x + 1)), (5, .int (nI 6)), (6, .int (nI i))] o dX5_trustIn_45 rfl (by decide) rfl ?_
      refine v_iload_n 4 o dX5_trustIn_46 rfl rfl ?_
      refine v_aload 1 o dX5_trustIn_47 rfl ?_
      refine v_iload_n 3 o dX5_trustIn_49 rfl rfl ?_
      refine v_callVr (v := .int (nI (cnt (fun k => rightB σ w (48 * i + k)) (4 * σ.1 0 i)))) [.int (nI w)] [.int (nI (cnt (rightB σ w) (48 * i)))] o dX5_trustIn_50 cw_X5_284 im_X0_goldKeyedRightBy se_X0_goldKeyedRightBy cf0 (hR.bk hi) (c_goldRight hl hR i hi w (by omega) ⟨hI.2.2.1, hI.2.2.2.1⟩) rfl rfl (by decide) ⟨rfl, rfl⟩ (by decide) (Nat.le_of_ble_eq_true rfl) ?_
      refine v_iadd (nI (cnt (rightB σ w) (48 * i) + (cnt (fun k => rightB σ w (48 * i + k)) (4 * σ.1 0 i)))) o dX5_trustIn_53 (nI_add (cnt (rightB σ w) (48 * i)) (cnt (fun k => rightB σ w (48 * i + k)) (4 * σ.1 0 i))) ?_
      refine v_istore_n [(3, .int (nI (cnt (rightB σ w) (48 * i) + (cnt (fun k => rightB σ w (48 * i + k)) (4 * σ.1 0 i))))), (2, .int (nI (cnt (allB σ w) (48 * i) + (cnt (fun k => allB σ w (48 * i + k)) (4 * σ.1 0 i))))), (7, .ref (B i)), (0, .ref x), (1, .int (nI w)), (4, .ref (x + 1)), (5, .int (nI 6)), (6, .int (nI i))] o dX5_trustIn_54 rfl (by decide) rfl ?_
      refine v_iinc (nI (i + 1)) [(6, .int (nI (i + 1))), (3, .int (nI (cnt (rightB σ w) (48 * i) + (cnt (fun k => rightB σ w (48 * i + k)) (4 * σ.1 0 i))))), (2, .int (nI (cnt (allB σ w) (48 * i) + (cnt (fun k => allB σ w (48 * i + k)) (4 * σ.1 0 i))))), (7, .ref (B i)), (0, .ref x), (1, .int (nI w)), (4, .ref (x + 1)), (5, .int (nI 6))] o dX5_trustIn_55 7 rfl (iinc_n i 1) (by decide) rfl ?_
      refine v_goto 18 o dX5_trustIn_58 (by decide) ?_
      refine v_sub [(0, .ref x), (1, .int (nI w)), (2, .int (nI (cnt (allB σ w) (48 * i) + (cnt (fun k => allB σ w (48 * i + k)) (4 * σ.1 0 i))))), (3, .int (nI (cnt (rightB σ w) (48 * i) + (cnt (fun k => rightB σ w (48 * i + k)) (4 * σ.1 0 i))))), (4, .ref (x + 1)), (5, .int (nI 6)), (6, .int (nI (i + 1)))] [4, 5, 2, 1, 6, 7, 0] rfl ?_
      refine v_lv [(0, .ref x), (1, .int (nI w)), (2, .int (nI (cnt (allB σ w) (48 * (i + 1))))), (3, .int (nI (cnt (rightB σ w) (48 * (i + 1))))), (4, .ref (x + 1)), (5, .int (nI 6)), (6, .int (nI (i + 1)))] (by rw [(Off.all hI w).bk (by omega) (hR.np i), (Off.right hI w).bk (by omega) (hR.np i)]) ?_
      exact ih (i + 1) (by omega)
  refine v_iconst 0 o dX5_trustIn_0 rfl ?_
  refine v_istore_n [(2, .int (nI 0)), (0, .ref x), (1, .int (nI w))] o dX5_trustIn_1 rfl (by decide) rfl ?_
  refine v_iconst 0 o dX5_trustIn_2 rfl ?_
  refine v_istore_n [(3, .int (nI 0)), (2, .int (nI 0)), (0, .ref x), (1, .int (nI w))] o dX5_trustIn_3 rfl (by decide) rfl ?_
  refine v_aload_n 2 o dX5_trustIn_4 rfl rfl ?_
  refine v_get (v := .ref (x + 1)) o dX5_trustIn_5 cf5 0 (by decide) fl_X5_11 hR.h0 rfl ?_
  refine v_astore [(4, .ref (x + 1)), (3, .int (nI 0)), (2, .int (nI 0)), (0, .ref x), (1, .int (nI w))] o dX5_trustIn_8 (by decide) rfl ?_
  refine v_aload 0 o dX5_trustIn_10 rfl ?_
  refine v_alen (t0 := 4) o dX5_trustIn_12 rfl hR.h1 ?_
  refine v_top (nI 6) rfl ?_
  refine v_istore [(5, .int (nI 6)), (4, .ref (x + 1)), (3, .int (nI 0)), (2, .int (nI 0)), (0, .ref x), (1, .int (nI w))] o dX5_trustIn_13 (by decide) rfl ?_
  refine v_iconst 0 o dX5_trustIn_15 rfl ?_
  refine v_istore [(6, .int (nI 0)), (5, .int (nI 6)), (4, .ref (x + 1)), (3, .int (nI 0)), (2, .int (nI 0)), (0, .ref x), (1, .int (nI w))] o dX5_trustIn_16 (by decide) rfl ?_
  refine v_sub [(0, .ref x), (1, .int (nI w)), (2, .int (nI 0)), (3, .int (nI 0)), (4, .ref (x + 1)), (5, .int (nI 6)), (6, .int (nI 0))] [5, 6, 4, 3, 2, 1, 0] rfl ?_
  refine v_lv [(0, .ref x), (1, .int (nI w)), (2, .int (nI (cnt (allB σ w) (48 * 0)))), (3, .int (nI (cnt (rightB σ w) (48 * 0)))), (4, .ref (x + 1)), (5, .int (nI 6)), (6, .int (nI 0))] rfl ?_
  exact L (σ.1 3 0) 0 (by omega)

set_option maxRecDepth 100000 in
set_option maxHeartbeats 4000000 in
theorem c_needCopy_t {l : Launch} (hl : l.stackTraces = false) {g : mG} {x z z0 : Nat} {B : Nat → Nat} {μ0 μ : mM} {σ τ : Sg} (hR : RC g x B z0 μ0 σ τ μ) (i j : Nat) (hi : i < σ.1 3 0) (hj : j < σ.1 0 i) (v : Nat) (hv : v < 4) (h : σ.2.1 5 (72 * v + (12 * i + j)) = true) : Ct l g yX5_needCopy [Cond.code yX5_needCopy cX5_needCopy 2 none] { frames := 0, cells := 0, slots := 0, locals := 0 } [.ref (pA B i j), .int (nI v)] μ z (rdP none μ z) (noX) := by
  refine Ct.of hl (by decide +kernel) (Nat.le_of_ble_eq_true rfl) ?_
  intro p e s mi args below meth c o hnm hr hx
  have o : Ok p l s mi args meth c g cX5_needCopy 2 RX5 := o
  refine v_lv [(0, .ref (pA B i j)), (1, .int (nI v))] rfl ?_
  refine v_aload_n 0 o dX5_needCopy_0 rfl rfl ?_
  refine v_get (v := .ref (pA B i j + 1)) o dX5_needCopy_1 cf2 4 (by decide) fl_X5_266 (hR.p0 hi hj) rfl ?_
  refine v_iload_n 1 o dX5_needCopy_4 rfl rfl ?_
  refine v_zald (bI (σ.2.1 5 (72 * v + (12 * i + j)))) o dX5_needCopy_5 (by omega) (by decide) (hR.p1 hi hj) ((rs_lt (by omega)).trans rfl) ?_
  refine v_if_ne_b 20 o dX5_needCopy_6 (by decide) (fun c6 => ?_) (fun c6 => absurd c6 (by simp [h]))
  exact v_vret o dX5_needCopy_20 hr (Nat.le_of_ble_eq_true rfl) (Nat.le_of_ble_eq_true rfl) ⟨rfl, rfl, rfl⟩

set_option maxRecDepth 100000 in
set_option maxHeartbeats 4000000 in
theorem c_needCopy_f {l : Launch} (hl : l.stackTraces = false) {g : mG} {x z z0 : Nat} {B : Nat → Nat} {μ0 μ : mM} {σ τ : Sg} (hR : RC g x B z0 μ0 σ τ μ) (i j : Nat) (hi : i < σ.1 3 0) (hj : j < σ.1 0 i) (v : Nat) (hv : v < 4) (h : σ.2.1 5 (72 * v + (12 * i + j)) = false) : Ct l g yX5_needCopy [Cond.code yX5_needCopy cX5_needCopy 2 none] { frames := 6, cells := 1, slots := 6, locals := 82 } [.ref (pA B i j), .int (nI v)] μ z (noP) (thX "java/lang/IllegalStateException" μ z) := by
  refine Ct.of hl (by decide +kernel) (Nat.le_of_ble_eq_true rfl) ?_
  intro p e s mi args below meth c o hnm hr hx
  have o : Ok p l s mi args meth c g cX5_needCopy 2 RX5 := o
  refine v_lv [(0, .ref (pA B i j)), (1, .int (nI v))] rfl ?_
  refine v_aload_n 0 o dX5_needCopy_0 rfl rfl ?_
  refine v_get (v := .ref (pA B i j + 1)) o dX5_needCopy_1 cf2 4 (by decide) fl_X5_266 (hR.p0 hi hj) rfl ?_
  refine v_iload_n 1 o dX5_needCopy_4 rfl rfl ?_
  refine v_zald (bI (σ.2.1 5 (72 * v + (12 * i + j)))) o dX5_needCopy_5 (by omega) (by decide) (hR.p1 hi hj) ((rs_lt (by omega)).trans rfl) ?_
  refine v_if_ne_b 20 o dX5_needCopy_6 (by decide) (fun c6 => absurd c6 (by simp [h])) (fun c6 => ?_)
  exact v_throwW (E := "java/lang/IllegalStateException") (text := "the vault has no copy of the page") o hx dX5_needCopy_9 dX5_needCopy_12 dX5_needCopy_13 dX5_needCopy_16 dX5_needCopy_19 (by decide +kernel) (by decide +kernel) tw_ISE (by decide) (Nat.le_of_ble_eq_true rfl) (by decide) (by decide) (by decide) (by decide) (fun z' hz => ⟨rfl, rfl, hz⟩)

set_option maxRecDepth 100000 in
set_option maxHeartbeats 4000000 in
theorem c_standing_t {l : Launch} (hl : l.stackTraces = false) {g : mG} {x z z0 : Nat} {B : Nat → Nat} {μ0 μ : mM} {σ τ : Sg} (hR : RC g x B z0 μ0 σ τ μ) (v : Nat) (hv : v < 4) (h : σ.2.1 6 v = false) : Ct l g yX5_needStandingVault [Cond.code yX5_needStandingVault cX5_needStandingVault 2 none] { frames := 1, cells := 0, slots := 0, locals := 20 } [.ref x, .int (nI v)] μ z (rdP none μ z) (noX) := by
  refine Ct.of hl (by decide +kernel) (Nat.le_of_ble_eq_true rfl) ?_
  intro p e s mi args below meth c o hnm hr hx
  have o : Ok p l s mi args meth c g cX5_needStandingVault 2 RX5 := o
  refine v_lv [(0, .ref x), (1, .int (nI v))] rfl ?_
  refine v_iload_n 1 o dX5_needStandingVault_0 rfl rfl ?_
  refine v_callS [.int (nI v)] [] o dX5_needStandingVault_1 cw_X5_127 st_X5_needVault (c_needVault_t hl v (by omega)) rfl rfl (by decide) (by decide) (Nat.le_of_ble_eq_true rfl) ?_ (fun _ _ _ _ h => h.elim)
  rintro _ _ _ _ ⟨rfl, rfl, hz9⟩
  subst hz9
  refine v_st [] rfl ?_
  refine v_aload_n 0 o dX5_needStandingVault_4 rfl rfl ?_
  refine v_get (v := .ref (x + 2)) o dX5_needStandingVault_5 cf5 3 (by decide) fl_X5_15 hR.h0 rfl ?_
  refine v_iload_n 1 o dX5_needStandingVault_8 rfl rfl ?_
  refine v_zald (bI (σ.2.1 6 v)) o dX5_needStandingVault_9 (by omega) (by decide) hR.h2 rfl ?_
  refine v_if_eq_b 24 o dX5_needStandingVault_10 (by decide) (fun c10 => ?_) (fun c10 => absurd c10 (by simp [h]))
  exact v_vret o dX5_needStandingVault_24 hr (Nat.le_of_ble_eq_true rfl) (Nat.le_of_ble_eq_true rfl) ⟨rfl, rfl, rfl⟩

set_option maxRecDepth 100000 in
set_option maxHeartbeats 4000000 in
theorem c_standing_f {l : Launch} (hl : l.stackTraces = false) {g : mG} {x z z0 : Nat} {B : Nat → Nat} {μ0 μ : mM} {σ τ : Sg} (hR : RC g x B z0 μ0 σ τ μ) (v : Nat) (hv : v < 4) (h : σ.2.1 6 v = true) : Ct l g yX5_needStandingVault [Cond.code yX5_needStandingVault cX5_needStandingVault 2 none] { frames := 6, cells := 1, slots := 6, locals := 82 } [.ref x, .int (nI v)] μ z (noP) (thX "java/lang/IllegalStateException" μ z) := by
  refine Ct.of hl (by decide +kernel) (Nat.le_of_ble_eq_true rfl) ?_
  intro p e s mi args below meth c o hnm hr hx
  have o : Ok p l s mi args meth c g cX5_needStandingVault 2 RX5 := o
  refine v_lv [(0, .ref x), (1, .int (nI v))] rfl ?_
  refine v_iload_n 1 o dX5_needStandingVault_0 rfl rfl ?_
  refine v_callS [.int (nI v)] [] o dX5_needStandingVault_1 cw_X5_127 st_X5_needVault (c_needVault_t hl v (by omega)) rfl rfl (by decide) (by decide) (Nat.le_of_ble_eq_true rfl) ?_ (fun _ _ _ _ h => h.elim)
  rintro _ _ _ _ ⟨rfl, rfl, hz9⟩
  subst hz9
  refine v_st [] rfl ?_
  refine v_aload_n 0 o dX5_needStandingVault_4 rfl rfl ?_
  refine v_get (v := .ref (x + 2)) o dX5_needStandingVault_5 cf5 3 (by decide) fl_X5_15 hR.h0 rfl ?_
  refine v_iload_n 1 o dX5_needStandingVault_8 rfl rfl ?_
  refine v_zald (bI (σ.2.1 6 v)) o dX5_needStandingVault_9 (by omega) (by decide) hR.h2 rfl ?_
  refine v_if_eq_b 24 o dX5_needStandingVault_10 (by decide) (fun c10 => absurd c10 (by simp [h])) (fun c10 => ?_)
  exact v_throwW (E := "java/lang/IllegalStateException") (text := "the vault is burnt") o hx dX5_needStandingVault_13 dX5_needStandingVault_16 dX5_needStandingVault_17 dX5_needStandingVault_20 dX5_needStandingVault_23 (by decide +kernel) (by decide +kernel) tw_ISE (by decide) (Nat.le_of_ble_eq_true rfl) (by decide) (by decide) (by decide) (by decide) (fun z' hz => ⟨rfl, rfl, hz⟩)

set_option maxRecDepth 100000 in
set_option maxHeartbeats 4000000 in
theorem c_standing_v {l : Launch} (hl : l.stackTraces = false) {g : mG} {x z z0 : Nat} {B : Nat → Nat} {μ0 μ : mM} {σ τ : Sg} (hR : RC g x B z0 μ0 σ τ μ) (v : Int32) (h : okI v 4 = false) : Ct l g yX5_needStandingVault [Cond.code yX5_needStandingVault cX5_needStandingVault 2 none] { frames := 7, cells := 1, slots := 6, locals := 102 } [.ref x, .int v] μ z (noP) (thX "java/lang/IndexOutOfBoundsException" μ z) := by
  refine Ct.of hl (by decide +kernel) (Nat.le_of_ble_eq_true rfl) ?_
  intro p e s mi args below meth c o hnm hr hx
  have o : Ok p l s mi args meth c g cX5_needStandingVault 2 RX5 := o
  refine v_lv [(0, .ref x), (1, .int v)] rfl ?_
  refine v_iload_n 1 o dX5_needStandingVault_0 rfl rfl ?_
  refine v_callS [.int v] [] o dX5_needStandingVault_1 cw_X5_127 st_X5_needVault (c_needVault_f hl v h) rfl rfl (by decide) (by decide) (Nat.le_of_ble_eq_true rfl) (fun _ _ _ _ h => h.elim) ?_
  rintro _ _ z9 hz ⟨rfl, rfl, -⟩
  exact v_out o hx (by decide) (by decide) ⟨rfl, rfl, hz⟩

set_option maxRecDepth 100000 in
set_option maxHeartbeats 4000000 in
theorem c_toOrder_t {l : Launch} (hl : l.stackTraces = false) {g : mG} {x z z0 : Nat} {B : Nat → Nat} {μ0 μ : mM} {σ τ : Sg} (hR : RC g x B z0 μ0 σ τ μ) (i k : Nat) (hi : i < σ.1 3 0) (hk : k < σ.1 0 i) (h7 : σ.1 0 i ≤ 7) : Ct l g yX5_bookToOrder [Cond.code yX5_bookToOrder cX5_bookToOrder 4 (some (.object "ScanningHouse$Book"))] { frames := 1, cells := 0, slots := 0, locals := 22 } [.ref x, .int (nI i), .int (nI k)] μ z (rdP (some (.ref (B i))) μ z) (noX) := by
  refine Ct.of hl (by decide +kernel) (Nat.le_of_ble_eq_true rfl) ?_
  intro p e s mi args below meth c o hnm hr hx
  have o : Ok p l s mi args meth c g cX5_bookToOrder 4 RX5 := o
  refine v_lv [(0, .ref x), (1, .int (nI i)), (2, .int (nI k))] rfl ?_
  refine v_aload_n 0 o dX5_bookToOrder_0 rfl rfl ?_
  refine v_iload_n 1 o dX5_bookToOrder_1 rfl rfl ?_
  refine v_callVr (v := .ref (B i)) [.int (nI i)] [] o dX5_bookToOrder_2 cw_X5_79 im_X5_bookAt se_X5_bookAt cf5 hR.h0 (c_bookAt_t hl hR i hi) rfl rfl (by decide) ⟨rfl, rfl⟩ (by decide) (Nat.le_of_ble_eq_true rfl) ?_
  refine v_astore_n [(3, .ref (B i)), (0, .ref x), (1, .int (nI i)), (2, .int (nI k))] o dX5_bookToOrder_5 rfl (by decide) rfl ?_
  refine v_iload_n 3 o dX5_bookToOrder_6 rfl rfl ?_
  refine v_if_lt_n 19 o dX5_bookToOrder_7 (by decide) (by omega) (fun c7 => absurd c7 (by omega)) (fun c7 => ?_)
  refine v_iload_n 3 o dX5_bookToOrder_10 rfl rfl ?_
  refine v_aload_n 0 o dX5_bookToOrder_11 rfl rfl ?_
  refine v_get (v := .ref (B i + 1)) o dX5_bookToOrder_12 cf0 0 (by decide) fl_X5_152 (hR.bk hi) rfl ?_
  refine v_alen (t0 := 3) o dX5_bookToOrder_15 rfl (hR.ps hi) ?_
  refine v_top (nI (σ.1 0 i)) rfl ?_
  refine v_icmp_lt_n 30 o dX5_bookToOrder_16 (by decide) (by omega) (by omega) (fun c16 => ?_) (fun c16 => absurd c16 (by omega))
  refine v_aload_n 0 o dX5_bookToOrder_30 rfl rfl ?_
  refine v_get (v := .ref (B i + 1)) o dX5_bookToOrder_31 cf0 0 (by decide) fl_X5_152 (hR.bk hi) rfl ?_
  refine v_alen (t0 := 3) o dX5_bookToOrder_34 rfl (hR.ps hi) ?_
  refine v_top (nI (σ.1 0 i)) rfl ?_
  refine v_bipush 7 o dX5_bookToOrder_35 (by decide) ?_
  refine v_icmp_le_n 51 o dX5_bookToOrder_37 (by decide) (by omega) (by decide) (fun c37 => ?_) (fun c37 => absurd c37 (by omega))
  refine v_aload_n 0 o dX5_bookToOrder_51 rfl rfl ?_
  exact v_aret o dX5_bookToOrder_52 hr (Nat.le_of_ble_eq_true rfl) (Nat.le_of_ble_eq_true rfl) ⟨rfl, rfl, rfl⟩

set_option maxRecDepth 100000 in
set_option maxHeartbeats 4000000 in
theorem c_toOrder_b {l : Launch} (hl : l.stackTraces = false) {g : mG} {x z z0 : Nat} {B : Nat → Nat} {μ0 μ : mM} {σ τ : Sg} (hR : RC g x B z0 μ0 σ τ μ) (b q : Int32) (h : isB σ b = false) : Ct l g yX5_bookToOrder [Cond.code yX5_bookToOrder cX5_bookToOrder 4 (some (.object "ScanningHouse$Book"))] { frames := 7, cells := 1, slots := 6, locals := 104 } [.ref x, .int b, .int q] μ z (noP) (thX "java/lang/IndexOutOfBoundsException" μ z) := by
  refine Ct.of hl (by decide +kernel) (Nat.le_of_ble_eq_true rfl) ?_
  intro p e s mi args below meth c o hnm hr hx
  have o : Ok p l s mi args meth c g cX5_bookToOrder 4 RX5 := o
  refine v_lv [(0, .ref x), (1, .int b), (2, .int q)] rfl ?_
  refine v_aload_n 0 o dX5_bookToOrder_0 rfl rfl ?_
  refine v_iload_n 1 o dX5_bookToOrder_1 rfl rfl ?_
  refine v_callV [.int b] [] o dX5_bookToOrder_2 cw_X5_79 im_X5_bookAt se_X5_bookAt cf5 hR.h0 (c_bookAt_f hl hR b h) rfl rfl (by decide) (by decide) (Nat.le_of_ble_eq_true rfl) (fun _ _ _ _ h => h.elim) ?_
  rintro _ _ z9 hz ⟨rfl, rfl, -⟩
  exact v_out o hx (by decide) (by decide) ⟨rfl, rfl, hz⟩

set_option maxRecDepth 100000 in
set_option maxHeartbeats 4000000 in
theorem c_toOrder_q {l : Launch} (hl : l.stackTraces = false) {g : mG} {x z z0 : Nat} {B : Nat → Nat} {μ0 μ : mM} {σ τ : Sg} (hR : RC g x B z0 μ0 σ τ μ) (i : Nat) (q : Int32) (hi : i < σ.1 3 0) (h : okI q (σ.1 0 i) = false) : Ct l g yX5_bookToOrder [Cond.code yX5_bookToOrder cX5_bookToOrder 4 (some (.object "ScanningHouse$Book"))] { frames := 6, cells := 1, slots := 6, locals := 82 } [.ref x, .int (nI i), .int q] μ z (noP) (thX "java/lang/IndexOutOfBoundsException" μ z) := by
  refine Ct.of hl (by decide +kernel) (Nat.le_of_ble_eq_true rfl) ?_
  intro p e s mi args below meth c o hnm hr hx
  have o : Ok p l s mi args meth c g cX5_bookToOrder 4 RX5 := o
  refine v_lv [(0, .ref x), (1, .int (nI i)), (2, .int q)] rfl ?_
  have h12 := hR.np i
  refine v_aload_n 0 o dX5_bookToOrder_0 rfl rfl ?_
  refine v_iload_n 1 o dX5_bookToOrder_1 rfl rfl ?_
  refine v_callVr (v := .ref (B i)) [.int (nI i)] [] o dX5_bookToOrder_2 cw_X5_79 im_X5_bookAt se_X5_bookAt cf5 hR.h0 (c_bookAt_t hl hR i hi) rfl rfl (by decide) ⟨rfl, rfl⟩ (by decide) (Nat.le_of_ble_eq_true rfl) ?_
  refine v_astore_n [(3, .ref (B i)), (0, .ref x), (1, .int (nI i)), (2, .int q)] o dX5_bookToOrder_5 rfl (by decide) rfl ?_
  refine v_iload_n 3 o dX5_bookToOrder_6 rfl rfl ?_
  refine v_if_lt 19 o dX5_bookToOrder_7 (by decide) (fun c7 => ?_) (fun c7 => ?_)
  · exact v_throwW (E := "java/lang/IndexOutOfBoundsException") (text := "there is no such place in the order") o hx dX5_bookToOrder_19 dX5_bookToOrder_22 dX5_bookToOrder_23 dX5_bookToOrder_26 dX5_bookToOrder_29 (by decide +kernel) (by decide +kernel) tw_IOOBE (by decide) (Nat.le_of_ble_eq_true rfl) (by decide) (by decide) (by decide) (by decide) (fun z' hz => ⟨rfl, rfl, hz⟩)
  · refine v_iload_n 3 o dX5_bookToOrder_10 rfl rfl ?_
    refine v_aload_n 0 o dX5_bookToOrder_11 rfl rfl ?_
    refine v_get (v := .ref (B i + 1)) o dX5_bookToOrder_12 cf0 0 (by decide) fl_X5_152 (hR.bk hi) rfl ?_
    refine v_alen (t0 := 3) o dX5_bookToOrder_15 rfl (hR.ps hi) ?_
    refine v_top (nI (σ.1 0 i)) rfl ?_
    refine v_icmp_lt 30 o dX5_bookToOrder_16 (by decide) (fun c16 => absurd c16 (Int32.not_lt.mpr ((okI_f h (by omega)).resolve_left c7))) (fun c16 => ?_)
    exact v_throwW (E := "java/lang/IndexOutOfBoundsException") (text := "there is no such place in the order") o hx dX5_bookToOrder_19 dX5_bookToOrder_22 dX5_bookToOrder_23 dX5_bookToOrder_26 dX5_bookToOrder_29 (by decide +kernel) (by decide +kernel) tw_IOOBE (by decide) (Nat.le_of_ble_eq_true rfl) (by decide) (by decide) (by decide) (by decide) (fun z' hz => ⟨rfl, rfl, hz⟩)

set_option maxRecDepth 100000 in
set_option maxHeartbeats 4000000 in
theorem c_toOrder_7 {l : Launch} (hl : l.stackTraces = false) {g : mG} {x z z0 : Nat} {B : Nat → Nat} {μ0 μ : mM} {σ τ : Sg} (hR : RC g x B z0 μ0 σ τ μ) (i k : Nat) (hi : i < σ.1 3 0) (hk : k < σ.1 0 i) (h7 : ¬ σ.1 0 i ≤ 7) : Ct l g yX5_bookToOrder [Cond.code yX5_bookToOrder cX5_bookToOrder 4 (some (.object "ScanningHouse$Book"))] { frames := 6, cells := 1, slots := 6, locals := 82 } [.ref x, .int (nI i), .int (nI k)] μ z (noP) (thX "java/lang/IllegalStateException" μ z) := by
  refine Ct.of hl (by decide +kernel) (Nat.le_of_ble_eq_true rfl) ?_
  intro p e s mi args below meth c o hnm hr hx
  have o : Ok p l s mi args meth c g cX5_bookToOrder 4 RX5 := o
  refine v_lv [(0, .ref x), (1, .int (nI i)), (2, .int (nI k))] rfl ?_
  have h12 := hR.np i
  refine v_aload_n 0 o dX5_bookToOrder_0 rfl rfl ?_
  refine v_iload_n 1 o dX5_bookToOrder_1 rfl rfl ?_
  refine v_callVr (v := .ref (B i)) [.int (nI i)] [] o dX5_bookToOrder_2 cw_X5_79 im_X5_bookAt se_X5_bookAt cf5 hR.h0 (c_bookAt_t hl hR i hi) rfl rfl (by decide) ⟨rfl, rfl⟩ (by decide) (Nat.le_of_ble_eq_true rfl) ?_
  refine v_astore_n [(3, .ref (B i)), (0, .ref x), (1, .int (nI i)), (2, .int (nI k))] o dX5_bookToOrder_5 rfl (by decide) rfl ?_
  refine v_iload_n 3 o dX5_bookToOrder_6 rfl rfl ?_
  refine v_if_lt_n 19 o dX5_bookToOrder_7 (by decide) (by omega) (fun c7 => absurd c7 (by omega)) (fun c7 => ?_)
  refine v_iload_n 3 o dX5_bookToOrder_10 rfl rfl ?_
  refine v_aload_n 0 o dX5_bookToOrder_11 rfl rfl ?_
  refine v_get (v := .ref (B i + 1)) o dX5_bookToOrder_12 cf0 0 (by decide) fl_X5_152 (hR.bk hi) rfl ?_
  refine v_alen (t0 := 3) o dX5_bookToOrder_15 rfl (hR.ps hi) ?_
  refine v_top (nI (σ.1 0 i)) rfl ?_
  refine v_icmp_lt_n 30 o dX5_bookToOrder_16 (by decide) (by omega) (by omega) (fun c16 => ?_) (fun c16 => absurd c16 (by omega))
  refine v_aload_n 0 o dX5_bookToOrder_30 rfl rfl ?_
  refine v_get (v := .ref (B i + 1)) o dX5_bookToOrder_31 cf0 0 (by decide) fl_X5_152 (hR.bk hi) rfl ?_
  refine v_alen (t0 := 3) o dX5_bookToOrder_34 rfl (hR.ps hi) ?_
  refine v_top (nI (σ.1 0 i)) rfl ?_
  refine v_bipush 7 o dX5_bookToOrder_35 (by decide) ?_
  refine v_icmp_le_n 51 o dX5_bookToOrder_37 (by decide) (by omega) (by decide) (fun c37 => absurd c37 (by omega)) (fun c37 => ?_)
  exact v_throwW (E := "java/lang/IllegalStateException") (text := "the book has too many pages to be put in order") o hx dX5_bookToOrder_40 dX5_bookToOrder_43 dX5_bookToOrder_44 dX5_bookToOrder_47 dX5_bookToOrder_50 (by decide +kernel) (by decide +kernel) tw_ISE (by decide) (Nat.le_of_ble_eq_true rfl) (by decide) (by decide) (by decide) (by decide) (fun z' hz => ⟨rfl, rfl, hz⟩)

