/-- the first j nodes are told unlike or not -/
def FU (σ : Sg) (v i : Nat) (τ : Sg) (j : Nat) : Prop := ∀ k, k < j → τ.2.1 0 (k + 1) = (seenB σ v i k && neB σ v i k)
theorem FU.s {σ τ : Sg} {v i j : Nat} {a : Bool} (h : FU σ v i τ j) (ha : (seenB σ v i j && neB σ v i j) = a) : FU σ v i (uB τ 0 (j + 1) a) (j + 1) := fun k hk => by
  by_cases q : k = j
  · subst q
    show u2 τ.2.1 0 (k + 1) a 0 (k + 1) = _
    rw [u2_s, ha]
  · show u2 τ.2.1 0 (j + 1) a 0 (k + 1) = _
    rw [u2_i (by omega), h k (by omega)]
theorem sn_0 (σ : Sg) (v i : Nat) : seenB σ v i 0 = true := by rw [seenB_s σ v i 0 (by decide)]; rfl
theorem sn_s {σ τ : Sg} {v i j : Nat} (h : FU σ v i τ j) (hj : j < 31) (h0 : ¬ j = 0) : seenB σ v i j = τ.2.1 0 ((j + 1) / 2) := by
  rw [seenB_s σ v i j hj, decide_eq_false h0, Bool.false_or, ← h ((j - 1) / 2) (by omega), show (j - 1) / 2 + 1 = (j + 1) / 2 by omega]
theorem told_t {f : Nat → Bool} {k : Nat} (h : f k = true) (hk : 15 ≤ k) : toldF f (k + 1) = toldF f k ||| (nI 1 <<< (nI (k - 15) &&& 31)) := by
  show (if f k && decide (15 ≤ k) then _ else _) = _
  rw [h, decide_eq_true hk]
  rfl
theorem told_f {f : Nat → Bool} {k : Nat} (h : f k = false) : toldF f (k + 1) = toldF f k := by
  show (if f k && decide (15 ≤ k) then _ else _) = _
  rw [h]
  rfl
theorem told_n {f : Nat → Bool} {k : Nat} (h : ¬ 15 ≤ k) : toldF f (k + 1) = toldF f k := by
  show (if f k && decide (15 ≤ k) then _ else _) = _
  rw [decide_eq_false h, Bool.and_false]
  rfl
set_option maxRecDepth 100000 in
set_option maxHeartbeats 4000000 in
theorem c_unlike {l : Launch} (hl : l.stackTraces = false) {g : mG} {x z z0 : Nat} {B : Nat → Nat} {μ0 μ : mM} {σ τ : Sg} (hR : RC g x B z0 μ0 σ τ μ) (i v : Nat) (hJ : JT σ v i τ) : Ct l g yX4_findUnlikeLeaves [Cond.code yX4_findUnlikeLeaves cX4_findUnlikeLeaves 5 (some .int)] { frames := 0, cells := 0, slots := 0, locals := 0 } [.ref (x + 3)] μ z (fun r μ' z' => r = some (.int (toldF (fun k => seenB σ v i k && neB σ v i k) 31)) ∧ (∃ τ', RC g x B z0 μ0 (uN σ 3 2 (cnt (seenB σ v i) 31)) τ' μ') ∧ z = z') (noX) := by
  refine Ct.of hl (by decide +kernel) (Nat.le_of_ble_eq_true rfl) ?_
  intro p e s mi args below meth c o hnm hr hx
  have o : Ok p l s mi args meth c g cX4_findUnlikeLeaves 5 RX4 := o
  refine v_lv [(0, .ref (x + 3))] rfl ?_
  have L : ∀ (d j : Nat) (τq : Sg) (μq : mM), j + d = 31 → RC g x B z0 μ0 σ τq μq → FU σ v i τq j → τq.2.2.2 = τ.2.2.2 → V p l e { frames := 0, cells := 0, slots := 0, locals := 0 } s mi args below meth c (vx_MQ below (cQc g (fun r μ' z' => r = some (.int (toldF (fun k => seenB σ v i k && neB σ v i k) 31)) ∧ (∃ τ', RC g x B z0 μ0 (uN σ 3 2 (cnt (seenB σ v i) 31)) τ' μ') ∧ z = z')) (cXC g (noX)) args s ({ frames := 0, cells := 0, slots := 0, locals := 0 } : Room).cells ({ frames := 0, cells := 0, slots := 0, locals := 0 } : Room).slots (gA g)) g μq z 0 0 6 [(0, .ref (x + 3)), (1, .int (toldF (fun k => seenB σ v i k && neB σ v i k) j)), (2, .int (nI (cnt (seenB σ v i) j))), (3, .int (nI (j + 1)))] [] := by
    intro d
    induction d with
    | zero =>
      intro j τq μq hj hRq hF hL
      obtain rfl : j = 31 := by omega
      have hcs := cnt_le (seenB σ v i) 31
      refine v_iload_n 3 o dX4_findUnlikeLeaves_6 rfl rfl ?_
      refine v_bipush 32 o dX4_findUnlikeLeaves_7 (by decide) ?_
      refine v_icmp_ge_n 110 o dX4_findUnlikeLeaves_9 (by decide) (by decide) (by decide) (fun c9 => ?_) (fun c9 => absurd c9 (by omega))
      refine v_aload_n 0 o dX4_findUnlikeLeaves_110 rfl rfl ?_
      refine v_iload_n 2 o dX4_findUnlikeLeaves_111 rfl rfl ?_
      refine v_put _ o dX4_findUnlikeLeaves_112 cf4 3 (by decide) (by decide) fl_X4_36 hRq.h3 rfl rfl (Nat.le_of_ble_eq_true rfl) rfl (fun μ1 e1 => ?_)
      have hR1 := hRq.u_looked (v := cnt (seenB σ v i) 31) e1
      refine v_iload_n 1 o dX4_findUnlikeLeaves_115 rfl rfl ?_
      exact v_iret o dX4_findUnlikeLeaves_116 hr (Nat.le_of_ble_eq_true rfl) (Nat.le_of_ble_eq_true rfl) ⟨rfl, ⟨_, hR1⟩, rfl⟩
    | succ d ih =>
      intro j τq μq hjd hRq hF hL
      have hj : j < 31 := by omega
      have hcs := cnt_le (seenB σ v i) j
      have j1 : τq.2.2.2 0 (j + 1) = trn (leafB σ i) 4 j := by rw [hL]; exact (hJ (j + 1) (by omega) (by omega)).1
      have j2 : τq.2.2.2 1 (j + 1) = trn (leafV σ v i) 4 j := by rw [hL]; exact (hJ (j + 1) (by omega) (by omega)).2
      refine v_iload_n 3 o dX4_findUnlikeLeaves_6 rfl rfl ?_
      refine v_bipush 32 o dX4_findUnlikeLeaves_7 (by decide) ?_
      refine v_icmp_ge_n 110 o dX4_findUnlikeLeaves_9 (by decide) (by omega) (by decide) (fun c9 => absurd c9 (by omega)) (fun c9 => ?_)
      refine v_iload_n 3 o dX4_findUnlikeLeaves_12 rfl rfl ?_
      refine v_iconst 1 o dX4_findUnlikeLeaves_13 rfl ?_
      refine v_icmp_eq_n 28 o dX4_findUnlikeLeaves_14 (by decide) (by omega) (by decide) (fun c14 => ?_) (fun c14 => ?_)
      · refine v_iconst 1 o dX4_findUnlikeLeaves_28 rfl ?_
        refine v_goto 33 o dX4_findUnlikeLeaves_29 (by decide) ?_
        refine v_istore [(4, .int (nI 1)), (0, .ref (x + 3)), (1, .int (toldF (fun k => seenB σ v i k && neB σ v i k) j)), (2, .int (nI (cnt (seenB σ v i) j))), (3, .int (nI (j + 1)))] o dX4_findUnlikeLeaves_33 (by decide) rfl ?_
        refine v_aload_n 1 o dX4_findUnlikeLeaves_35 rfl rfl ?_
        refine v_get (v := .ref (x + 6)) o dX4_findUnlikeLeaves_36 cf4 2 (by decide) fl_X4_16 hRq.h3 rfl ?_
        refine v_iload_n 4 o dX4_findUnlikeLeaves_39 rfl rfl ?_
        refine v_iload 0 o dX4_findUnlikeLeaves_40 rfl ?_
        refine v_if_eq_n 65 o dX4_findUnlikeLeaves_42 (by decide) (by decide) (fun c42 => absurd c42 (by omega)) (fun c42 => ?_)
        refine v_aload_n 1 o dX4_findUnlikeLeaves_45 rfl rfl ?_
        refine v_get (v := .ref (x + 4)) o dX4_findUnlikeLeaves_46 cf4 0 (by decide) fl_X4_9 hRq.h3 rfl ?_
        refine v_iload_n 4 o dX4_findUnlikeLeaves_49 rfl rfl ?_
        refine v_lald (τq.2.2.2 0 (j + 1)) o dX4_findUnlikeLeaves_50 (by omega) (by decide) hRq.h4 rfl ?_
        refine v_aload_n 1 o dX4_findUnlikeLeaves_51 rfl rfl ?_
        refine v_get (v := .ref (x + 5)) o dX4_findUnlikeLeaves_52 cf4 1 (by decide) fl_X4_13 hRq.h3 rfl ?_
        refine v_iload_n 4 o dX4_findUnlikeLeaves_55 rfl rfl ?_
        refine v_lald (τq.2.2.2 1 (j + 1)) o dX4_findUnlikeLeaves_56 (by omega) (by decide) hRq.h5 rfl ?_
        refine v_lcmp o dX4_findUnlikeLeaves_57 ?_
        refine v_if_eq_c 65 o dX4_findUnlikeLeaves_58 (by decide) (fun c58 => ?_) (fun c58 => ?_)
        · refine v_iconst 0 o dX4_findUnlikeLeaves_65 rfl ?_
          refine v_top (bI false) rfl ?_
          refine v_zast o dX4_findUnlikeLeaves_66 (by omega) (by decide) (nar_bI _) hRq.h6 (fun μ2 e2 => ?_)
          have hR2 := hRq.u_fu (k0 := j + 1) (v := false) e2
          have s1 : seenB σ v i j = true := by rw [show j = 0 by omega]; exact sn_0 σ v i
          have s2 : neB σ v i j = false := decide_eq_false (fun q => q (j1.symm.trans (c58.trans j2)))
          have s3 : (seenB σ v i j && neB σ v i j) = false := by rw [s1, s2]; rfl
          refine v_iload_n 3 o dX4_findUnlikeLeaves_67 rfl rfl ?_
          refine v_iload 0 o dX4_findUnlikeLeaves_68 rfl ?_
          refine v_if_eq_n 77 o dX4_findUnlikeLeaves_70 (by decide) (by decide) (fun c70 => absurd c70 (by omega)) (fun c70 => ?_)
          refine v_iconst 1 o dX4_findUnlikeLeaves_73 rfl ?_
          refine v_goto 78 o dX4_findUnlikeLeaves_74 (by decide) ?_
          refine v_iadd (nI (cnt (seenB σ v i) j + 1)) o dX4_findUnlikeLeaves_78 (nI_add (cnt (seenB σ v i) j) 1) ?_
          refine v_istore_n [(2, .int (nI (cnt (seenB σ v i) j + 1))), (4, .int (nI 1)), (0, .ref (x + 3)), (1, .int (toldF (fun k => seenB σ v i k && neB σ v i k) j)), (3, .int (nI (j + 1)))] o dX4_findUnlikeLeaves_79 rfl (by decide) rfl ?_
          refine v_aload_n 2 o dX4_findUnlikeLeaves_80 rfl rfl ?_
          refine v_get (v := .ref (x + 6)) o dX4_findUnlikeLeaves_81 cf4 2 (by decide) fl_X4_16 hR2.h3 rfl ?_
          refine v_iload_n 4 o dX4_findUnlikeLeaves_84 rfl rfl ?_
          refine v_zald (bI false) o dX4_findUnlikeLeaves_85 (by omega) (by decide) hR2.h6 (congrArg bI u2_s) ?_
          refine v_if_eq_b 104 o dX4_findUnlikeLeaves_86 (by decide) (fun c86 => ?_) (fun c86 => absurd c86 (by simp_all))
          refine v_iinc (nI (j + 1 + 1)) [(3, .int (nI (j + 1 + 1))), (2, .int (nI (cnt (seenB σ v i) j + 1))), (4, .int (nI 1)), (0, .ref (x + 3)), (1, .int (toldF (fun k => seenB σ v i k && neB σ v i k) j))] o dX4_findUnlikeLeaves_104 4 rfl (iinc_n (j + 1) 1) (by decide) rfl ?_
          refine v_goto 6 o dX4_findUnlikeLeaves_107 (by decide) ?_
          refine v_sub [(0, .ref (x + 3)), (1, .int (toldF (fun k => seenB σ v i k && neB σ v i k) j)), (2, .int (nI (cnt (seenB σ v i) j + 1))), (3, .int (nI (j + 1 + 1)))] [3, 4, 1, 0] rfl ?_
          refine v_lv [(0, .ref (x + 3)), (1, .int (toldF (fun k => seenB σ v i k && neB σ v i k) (j + 1))), (2, .int (nI (cnt (seenB σ v i) (j + 1)))), (3, .int (nI (j + 1 + 1)))] (by rw [told_f (f := (fun k => seenB σ v i k && neB σ v i k)) (k := j) s3, cnt_t (f := seenB σ v i) (n := j) s1]) ?_
          exact ih (j + 1) _ _ (by omega) hR2 (hF.s s3) hL
        · refine v_iconst 1 o dX4_findUnlikeLeaves_61 rfl ?_
          refine v_goto 66 o dX4_findUnlikeLeaves_62 (by decide) ?_
          refine v_top (bI true) rfl ?_
          refine v_zast o dX4_findUnlikeLeaves_66 (by omega) (by decide) (nar_bI _) hRq.h6 (fun μ3 e3 => ?_)
          have hR3 := hRq.u_fu (k0 := j + 1) (v := true) e3
          have s1 : seenB σ v i j = true := by rw [show j = 0 by omega]; exact sn_0 σ v i
          have s2 : neB σ v i j = true := decide_eq_true (fun q => c58 (j1.trans (q.trans j2.symm)))
          have s3 : (seenB σ v i j && neB σ v i j) = true := by rw [s1, s2]; rfl
          refine v_iload_n 3 o dX4_findUnlikeLeaves_67 rfl rfl ?_
          refine v_iload 0 o dX4_findUnlikeLeaves_68 rfl ?_
          refine v_if_eq_n 77 o dX4_findUnlikeLeaves_70 (by decide) (by decide) (fun c70 => absurd c70 (by omega)) (fun c70 => ?_)
          refine v_iconst 1 o dX4_findUnlikeLeaves_73 rfl ?_
          refine v_goto 78 o dX4_findUnlikeLeaves_74 (by decide) ?_
          refine v_iadd (nI (cnt (seenB σ v i) j + 1)) o dX4_findUnlikeLeaves_78 (nI_add (cnt (seenB σ v i) j) 1) ?_
          refine v_istore_n [(2, .int (nI (cnt (seenB σ v i) j + 1))), (4, .int (nI 1)), (0, .ref (x + 3)), (1, .int (toldF (fun k => seenB σ v i k && neB σ v i k) j)), (3, .int (nI (j + 1)))] o dX4_findUnlikeLeaves_79 rfl (by decide) rfl ?_
          refine v_aload_n 2 o dX4_findUnlikeLeaves_80 rfl rfl ?_
          refine v_get (v := .ref (x + 6)) o dX4_findUnlikeLeaves_81 cf4 2 (by decide) fl_X4_16 hR3.h3 rfl ?_
          refine v_iload_n 4 o dX4_findUnlikeLeaves_84 rfl rfl ?_
          refine v_zald (bI true) o dX4_findUnlikeLeaves_85 (by omega) (by decide) hR3.h6 (congrArg bI u2_s) ?_
          refine v_if_eq_b 104 o dX4_findUnlikeLeaves_86 (by decide) (fun c86 => absurd c86 (by simp_all)) (fun c86 => ?_)
          refine v_iload_n 4 o dX4_findUnlikeLeaves_89 rfl rfl ?_
          refine v_bipush 16 o dX4_findUnlikeLeaves_90 (by decide) ?_
          refine v_icmp_lt_n 104 o dX4_findUnlikeLeaves_92 (by decide) (by omega) (by decide) (fun c92 => ?_) (fun c92 => ?_)
          · refine v_iinc (nI (j + 1 + 1)) [(3, .int (nI (j + 1 + 1))), (2, .int (nI (cnt (seenB σ v i) j + 1))), (4, .int (nI 1)), (0, .ref (x + 3)), (1, .int (toldF (fun k => seenB σ v i k && neB σ v i k) j))] o dX4_findUnlikeLeaves_104 4 rfl (iinc_n (j + 1) 1) (by decide) rfl ?_
            refine v_goto 6 o dX4_findUnlikeLeaves_107 (by decide) ?_
            refine v_sub [(0, .ref (x + 3)), (1, .int (toldF (fun k => seenB σ v i k && neB σ v i k) j)), (2, .int (nI (cnt (seenB σ v i) j + 1))), (3, .int (nI (j + 1 + 1)))] [3, 4, 1, 0] rfl ?_
            refine v_lv [(0, .ref (x + 3)), (1, .int (toldF (fun k => seenB σ v i k && neB σ v i k) (j + 1))), (2, .int (nI (cnt (seenB σ v i) (j + 1)))), (3, .int (nI (j + 1 + 1)))] (by rw [told_n (f := (fun k => seenB σ v i k && neB σ v i k)) (k := j) (by omega), cnt_t (f := seenB σ v i) (n := j) s1]) ?_
            exact ih (j + 1) _ _ (by omega) hR3 (hF.s s3) hL
          · refine v_iload_n 3 o dX4_findUnlikeLeaves_95 rfl rfl ?_
            refine v_iconst 1 o dX4_findUnlikeLeaves_96 rfl ?_
            refine v_iload_n 4 o dX4_findUnlikeLeaves_97 rfl rfl ?_
            refine v_bipush 16 o dX4_findUnlikeLeaves_98 (by decide) ?_
            refine v_isub (nI (j - 15)) o dX4_findUnlikeLeaves_100 ((pk_sub (by omega)).trans (congrArg nI (by omega))) ?_
            refine v_ishl ((nI 1) <<< ((nI (j - 15)) &&& 31)) o dX4_findUnlikeLeaves_101 rfl ?_
            refine v_ior ((toldF (fun k => seenB σ v i k && neB σ v i k) j) ||| ((nI 1) <<< ((nI (j - 15)) &&& 31))) o dX4_findUnlikeLeaves_102 rfl ?_
            refine v_istore_n [(1, .int ((toldF (fun k => seenB σ v i k && neB σ v i k) j) ||| ((nI 1) <<< ((nI (j - 15)) &&& 31)))), (2, .int (nI (cnt (seenB σ v i) j + 1))), (4, .int (nI 1)), (0, .ref (x + 3)), (3, .int (nI (j + 1)))] o dX4_findUnlikeLeaves_103 rfl (by decide) rfl ?_
            refine v_iinc (nI (j + 1 + 1)) [(3, .int (nI (j + 1 + 1))), (1, .int ((toldF (fun k => seenB σ v i k && neB σ v i k) j) ||| ((nI 1) <<< ((nI (j - 15)) &&& 31)))), (2, .int (nI (cnt (seenB σ v i) j + 1))), (4, .int (nI 1)), (0, .ref (x + 3))] o dX4_findUnlikeLeaves_104 4 rfl (iinc_n (j + 1) 1) (by decide) rfl ?_
            refine v_goto 6 o dX4_findUnlikeLeaves_107 (by decide) ?_
            refine v_sub [(0, .ref (x + 3)), (1, .int ((toldF (fun k => seenB σ v i k && neB σ v i k) j) ||| ((nI 1) <<< ((nI (j - 15)) &&& 31)))), (2, .int (nI (cnt (seenB σ v i) j + 1))), (3, .int (nI (j + 1 + 1)))] [4, 1, 2, 0] rfl ?_
            refine v_lv [(0, .ref (x + 3)), (1, .int (toldF (fun k => seenB σ v i k && neB σ v i k) (j + 1))), (2, .int (nI (cnt (seenB σ v i) (j + 1)))), (3, .int (nI (j + 1 + 1)))] (by rw [told_t (f := (fun k => seenB σ v i k && neB σ v i k)) (k := j) s3 (by omega), cnt_t (f := seenB σ v i) (n := j) s1]) ?_
            exact ih (j + 1) _ _ (by omega) hR3 (hF.s s3) hL
      · refine v_aload_n 0 o dX4_findUnlikeLeaves_17 rfl rfl ?_
        refine v_get (v := .ref (x + 6)) o dX4_findUnlikeLeaves_18 cf4 2 (by decide) fl_X4_16 hRq.h3 rfl ?_
        refine v_iload_n 3 o dX4_findUnlikeLeaves_21 rfl rfl ?_
        refine v_iconst 2 o dX4_findUnlikeLeaves_22 rfl ?_
        refine v_idiv (nI ((j + 1) / 2)) o dX4_findUnlikeLeaves_23 (by decide) (pk_div (by omega) (by decide) (by decide)) ?_
        refine v_zald (bI (τq.2.1 0 ((j + 1) / 2))) o dX4_findUnlikeLeaves_24 (by omega) (by decide) hRq.h6 rfl ?_
        refine v_if_eq_b 32 o dX4_findUnlikeLeaves_25 (by decide) (fun c25 => ?_) (fun c25 => ?_)
        · refine v_iconst 0 o dX4_findUnlikeLeaves_32 rfl ?_
          refine v_istore [(4, .int (nI 0)), (0, .ref (x + 3)), (1, .int (toldF (fun k => seenB σ v i k && neB σ v i k) j)), (2, .int (nI (cnt (seenB σ v i) j))), (3, .int (nI (j + 1)))] o dX4_findUnlikeLeaves_33 (by decide) rfl ?_
          refine v_aload_n 1 o dX4_findUnlikeLeaves_35 rfl rfl ?_
          refine v_get (v := .ref (x + 6)) o dX4_findUnlikeLeaves_36 cf4 2 (by decide) fl_X4_16 hRq.h3 rfl ?_
          refine v_iload_n 4 o dX4_findUnlikeLeaves_39 rfl rfl ?_
          refine v_iload 0 o dX4_findUnlikeLeaves_40 rfl ?_
          refine v_if_eq_n 65 o dX4_findUnlikeLeaves_42 (by decide) (by decide) (fun c42 => ?_) (fun c42 => absurd c42 (by omega))
          refine v_iconst 0 o dX4_findUnlikeLeaves_65 rfl ?_
          refine v_top (bI false) rfl ?_
          refine v_zast o dX4_findUnlikeLeaves_66 (by omega) (by decide) (nar_bI _) hRq.h6 (fun μ4 e4 => ?_)
          have hR4 := hRq.u_fu (k0 := j + 1) (v := false) e4
          have s1 : seenB σ v i j = false := (sn_s hF hj (by omega)).trans c25
          have s3 : (seenB σ v i j && neB σ v i j) = false := by rw [s1]; rfl
          refine v_iload_n 3 o dX4_findUnlikeLeaves_67 rfl rfl ?_
          refine v_iload 0 o dX4_findUnlikeLeaves_68 rfl ?_
          refine v_if_eq_n 77 o dX4_findUnlikeLeaves_70 (by decide) (by decide) (fun c70 => ?_) (fun c70 => absurd c70 (by omega))
          refine v_iconst 0 o dX4_findUnlikeLeaves_77 rfl ?_
          refine v_iadd (nI (cnt (seenB σ v i) j)) o dX4_findUnlikeLeaves_78 (nI_add (cnt (seenB σ v i) j) 0) ?_
          refine v_istore_n [(2, .int (nI (cnt (seenB σ v i) j))), (4, .int (nI 0)), (0, .ref (x + 3)), (1, .int (toldF (fun k => seenB σ v i k && neB σ v i k) j)), (3, .int (nI (j + 1)))] o dX4_findUnlikeLeaves_79 rfl (by decide) rfl ?_
          refine v_aload_n 2 o dX4_findUnlikeLeaves_80 rfl rfl ?_
          refine v_get (v := .ref (x + 6)) o dX4_findUnlikeLeaves_81 cf4 2 (by decide) fl_X4_16 hR4.h3 rfl ?_
          refine v_iload_n 4 o dX4_findUnlikeLeaves_84 rfl rfl ?_
          refine v_zald (bI false) o dX4_findUnlikeLeaves_85 (by omega) (by decide) hR4.h6 (congrArg bI u2_s) ?_
          refine v_if_eq_b 104 o dX4_findUnlikeLeaves_86 (by decide) (fun c86 => ?_) (fun c86 => absurd c86 (by simp_all))
          refine v_iinc (nI (j + 1 + 1)) [(3, .int (nI (j + 1 + 1))), (2, .int (nI (cnt (seenB σ v i) j))), (4, .int (nI 0)), (0, .ref (x + 3)), (1, .int (toldF (fun k => seenB σ v i k && neB σ v i k) j))] o dX4_findUnlikeLeaves_104 4 rfl (iinc_n (j + 1) 1) (by decide) rfl ?_
          refine v_goto 6 o dX4_findUnlikeLeaves_107 (by decide) ?_
          refine v_sub [(0, .ref (x + 3)), (1, .int (toldF (fun k => seenB σ v i k && neB σ v i k) j)), (2, .int (nI (cnt (seenB σ v i) j))), (3, .int (nI (j + 1 + 1)))] [3, 4, 1, 0] rfl ?_
          refine v_lv [(0, .ref (x + 3)), (1, .int (toldF (fun k => seenB σ v i k && neB σ v i k) (j + 1))), (2, .int (nI (cnt (seenB σ v i) (j + 1)))), (3, .int (nI (j + 1 + 1)))] (by rw [told_f (f := (fun k => seenB σ v i k && neB σ v i k)) (k := j) s3, cnt_f (f := seenB σ v i) (n := j) s1]) ?_
          exact ih (j + 1) _ _ (by omega) hR4 (hF.s s3) hL
        · refine v_iconst 1 o dX4_findUnlikeLeaves_28 rfl ?_
          refine v_goto 33 o dX4_findUnlikeLeaves_29 (by decide) ?_
          refine v_istore [(4, .int (nI 1)), (0, .ref (x + 3)), (1, .int (toldF (fun k => seenB σ v i k && neB σ v i k) j)), (2, .int (nI (cnt (seenB σ v i) j))), (3, .int (nI (j + 1)))] o dX4_findUnlikeLeaves_33 (by decide) rfl ?_
          refine v_aload_n 1 o dX4_findUnlikeLeaves_35 rfl rfl ?_
          refine v_get (v := .ref (x + 6)) o dX4_findUnlikeLeaves_36 cf4 2 (by decide) fl_X4_16 hRq.h3 rfl ?_
          refine v_iload_n 4 o dX4_findUnlikeLeaves_39 rfl rfl ?_
          refine v_iload 0 o dX4_findUnlikeLeaves_40 rfl ?_
          refine v_if_eq_n 65 o dX4_findUnlikeLeaves_42 (by decide) (by decide) (fun c42 => absurd c42 (by omega)) (fun c42 => ?_)
          refine v_aload_n 1 o dX4_findUnlikeLeaves_45 rfl rfl ?_
          refine v_get (v := .ref (x + 4)) o dX4_findUnlikeLeaves_46 cf4 0 (by decide) fl_X4_9 hRq.h3 rfl ?_
          refine v_iload_n 4 o dX4_findUnlikeLeaves_49 rfl rfl ?_
          refine v_lald (τq.2.2.2 0 (j + 1)) o dX4_findUnlikeLeaves_50 (by omega) (by decide) hRq.h4 rfl ?_
          refine v_aload_n 1 o dX4_findUnlikeLeaves_51 rfl rfl ?_
          refine v_get (v := .ref (x + 5)) o dX4_findUnlikeLeaves_52 cf4 1 (by decide) fl_X4_13 hRq.h3 rfl ?_
          refine v_iload_n 4 o dX4_findUnlikeLeaves_55 rfl rfl ?_
          refine v_lald (τq.2.2.2 1 (j + 1)) o dX4_findUnlikeLeaves_56 (by omega) (by decide) hRq.h5 rfl ?_
          refine v_lcmp o dX4_findUnlikeLeaves_57 ?_
          refine v_if_eq_c 65 o dX4_findUnlikeLeaves_58 (by decide) (fun c58 => ?_) (fun c58 => ?_)
          · refine v_iconst 0 o dX4_findUnlikeLeaves_65 rfl ?_
            refine v_top (bI false) rfl ?_
            refine v_zast o dX4_findUnlikeLeaves_66 (by omega) (by decide) (nar_bI _) hRq.h6 (fun μ5 e5 => ?_)
            have hR5 := hRq.u_fu (k0 := j + 1) (v := false) e5
            have s1 : seenB σ v i j = true := (sn_s hF hj (by omega)).trans c25
            have s2 : neB σ v i j = false := decide_eq_false (fun q => q (j1.symm.trans (c58.trans j2)))
            have s3 : (seenB σ v i j && neB σ v i j) = false := by rw [s1, s2]; rfl
            refine v_iload_n 3 o dX4_findUnlikeLeaves_67 rfl rfl ?_
            refine v_iload 0 o dX4_findUnlikeLeaves_68 rfl ?_
            refine v_if_eq_n 77 o dX4_findUnlikeLeaves_70 (by decide) (by decide) (fun c70 => absurd c70 (by omega)) (fun c70 => ?_)
            refine v_iconst 1 o dX4_findUnlikeLeaves_73 rfl ?_
            refine v_goto 78 o dX4_findUnlikeLeaves_74 (by decide) ?_
            refine v_iadd (nI (cnt (seenB σ v i) j + 1)) o dX4_findUnlikeLeaves_78 (nI_add (cnt (seenB σ v i) j) 1) ?_
            refine v_istore_n [(2, .int (nI (cnt (seenB σ v i) j + 1))), (4, .int (nI 1)), (0, .ref (x + 3)), (1, .int (toldF (fun k => seenB σ v i k && neB σ v i k) j)), (3, .int (nI (j + 1)))] o dX4_findUnlikeLeaves_79 rfl (by decide) rfl ?_
            refine v_aload_n 2 o dX4_findUnlikeLeaves_80 rfl rfl ?_
            refine v_get (v := .ref (x + 6)) o dX4_findUnlikeLeaves_81 cf4 2 (by decide) fl_X4_16 hR5.h3 rfl ?_
            refine v_iload_n 4 o dX4_findUnlikeLeaves_84 rfl rfl ?_
            refine v_zald (bI false) o dX4_findUnlikeLeaves_85 (by omega) (by decide) hR5.h6 (congrArg bI u2_s) ?_
            refine v_if_eq_b 104 o dX4_findUnlikeLeaves_86 (by decide) (fun c86 => ?_) (fun c86 => absurd c86 (by simp_all))
            refine v_iinc (nI (j + 1 + 1)) [(3, .int (nI (j + 1 + 1))), (2, .int (nI (cnt (seenB σ v i) j + 1))), (4, .int (nI 1)), (0, .ref (x + 3)), (1, .int (toldF (fun k => seenB σ v i k && neB σ v i k) j))] o dX4_findUnlikeLeaves_104 4 rfl (iinc_n (j + 1) 1) (by decide) rfl ?_
            refine v_goto 6 o dX4_findUnlikeLeaves_107 (by decide) ?_
            refine v_sub [(0, .ref (x + 3)), (1, .int (toldF (fun k => seenB σ v i k && neB σ v i k) j)), (2, .int (nI (cnt (seenB σ v i) j + 1))), (3, .int (nI (j + 1 + 1)))] [3, 4, 1, 0] rfl ?_
            refine v_lv [(0, .ref (x + 3)), (1, .int (toldF (fun k => seenB σ v i k && neB σ v i k) (j + 1))), (2, .int (nI (cnt (seenB σ v i) (j + 1)))), (3, .int (nI (j + 1 + 1)))] (by rw [told_f (f := (fun k => seenB σ v i k && neB σ v i k)) (k := j) s3, cnt_t (f := seenB σ v i) (n := j) s1]) ?_
            exact ih (j + 1) _ _ (by omega) hR5 (hF.s s3) hL
          · refine v_iconst 1 o dX4_findUnlikeLeaves_61 rfl ?_
            refine v_goto 66 o dX4_findUnlikeLeaves_62 (by decide) ?_
            refine v_top (bI true) rfl ?_
            refine v_zast o dX4_findUnlikeLeaves_66 (by omega) (by decide) (nar_bI _) hRq.h6 (fun μ6 e6 => ?_)
            have hR6 := hRq.u_fu (k0 := j + 1) (v := true) e6
            have s1 : seenB σ v i j = true := (sn_s hF hj (by omega)).trans c25
            have s2 : neB σ v i j = true := decide_eq_true (fun q => c58 (j1.trans (q.trans j2.symm)))
            have s3 : (seenB σ v i j && neB σ v i j) = true := by rw [s1, s2]; rfl
            refine v_iload_n 3 o dX4_findUnlikeLeaves_67 rfl rfl ?_
            refine v_iload 0 o dX4_findUnlikeLeaves_68 rfl ?_
            refine v_if_eq_n 77 o dX4_findUnlikeLeaves_70 (by decide) (by decide) (fun c70 => absurd c70 (by omega)) (fun c70 => ?_)
            refine v_iconst 1 o dX4_findUnlikeLeaves_73 rfl ?_
            refine v_goto 78 o dX4_findUnlikeLeaves_74 (by decide) ?_
            refine v_iadd (nI (cnt (seenB σ v i) j + 1)) o dX4_findUnlikeLeaves_78 (nI_add (cnt (seenB σ v i) j) 1) ?_
            refine v_istore_n [(2, .int (nI (cnt (seenB σ v i) j + 1))), (4, .int (nI 1)), (0, .ref (x + 3)), (1, .int (toldF (fun k => seenB σ v i k && neB σ v i k) j)), (3, .int (nI (j + 1)))] o dX4_findUnlikeLeaves_79 rfl (by decide) rfl ?_
            refine v_aload_n 2 o dX4_findUnlikeLeaves_80 rfl rfl ?_
            refine v_get (v := .ref (x + 6)) o dX4_findUnlikeLeaves_81 cf4 2 (by decide) fl_X4_16 hR6.h3 rfl ?_
            refine v_iload_n 4 o dX4_findUnlikeLeaves_84 rfl rfl ?_
            refine v_zald (bI true) o dX4_findUnlikeLeaves_85 (by omega) (by decide) hR6.h6 (congrArg bI u2_s) ?_
            refine v_if_eq_b 104 o dX4_findUnlikeLeaves_86 (by decide) (fun c86 => absurd c86 (by simp_all)) (fun c86 => ?_)
            refine v_iload_n 4 o dX4_findUnlikeLeaves_89 rfl rfl ?_
            refine v_bipush 16 o dX4_findUnlikeLeaves_90 (by decide) ?_
            refine v_icmp_lt_n 104 o dX4_findUnlikeLeaves_92 (by decide) (by omega) (by decide) (fun c92 => ?_) (fun c92 => ?_)
            · refine v_iinc (nI (j + 1 + 1)) [(3, .int (nI (j + 1 + 1))), (2, .int (nI (cnt (seenB σ v i) j + 1))), (4, .int (nI 1)), (0, .ref (x + 3)), (1, .int (toldF (fun k => seenB σ v i k && neB σ v i k) j))] o dX4_findUnlikeLeaves_104 4 rfl (iinc_n (j + 1) 1) (by decide) rfl ?_
              refine v_goto 6 o dX4_findUnlikeLeaves_107 (by decide) ?_
              refine v_sub [(0, .ref (x + 3)), (1, .int (toldF (fun k => seenB σ v i k && neB σ v i k) j)), (2, .int (nI (cnt (seenB σ v i) j + 1))), (3, .int (nI (j + 1 + 1)))] [3, 4, 1, 0] rfl ?_
              refine v_lv [(0, .ref (x + 3)), (1, .int (toldF (fun k => seenB σ v i k && neB σ v i k) (j + 1))), (2, .int (nI (cnt (seenB σ v i) (j + 1)))), (3, .int (nI (j + 1 + 1)))] (by rw [told_n (f := (fun k => seenB σ v i k && neB σ v i k)) (k := j) (by omega), cnt_t (f := seenB σ v i) (n := j) s1]) ?_
              exact ih (j + 1) _ _ (by omega) hR6 (hF.s s3) hL
            · refine v_iload_n 3 o dX4_findUnlikeLeaves_95 rfl rfl ?_
              refine v_iconst 1 o dX4_findUnlikeLeaves_96 rfl ?_
              refine v_iload_n 4 o dX4_findUnlikeLeaves_97 rfl rfl ?_
              refine v_bipush 16 o dX4_findUnlikeLeaves_98 (by decide) ?_
              refine v_isub (nI (j - 15)) o dX4_findUnlikeLeaves_100 ((pk_sub (by omega)).trans (congrArg nI (by omega))) ?_
              refine v_ishl ((nI 1) <<< ((nI (j - 15)) &&& 31)) o dX4_findUnlikeLeaves_101 rfl ?_
              refine v_ior ((toldF (fun k => seenB σ v i k && neB σ v i k) j) ||| ((nI 1) <<< ((nI (j - 15)) &&& 31))) o dX4_findUnlikeLeaves_102 rfl ?_
              refine v_istore_n [(1, .int ((toldF (fun k => seenB σ v i k && neB σ v i k) j) ||| ((nI 1) <<< ((nI (j - 15)) &&& 31)))), (2, .int (nI (cnt (seenB σ v i) j + 1))), (4, .int (nI 1)), (0, .ref (x + 3)), (3, .int (nI (j + 1)))] o dX4_findUnlikeLeaves_103 rfl (by decide) rfl ?_
              refine v_iinc (nI (j + 1 + 1)) [(3, .int (nI (j + 1 + 1))), (1, .int ((toldF (fun k => seenB σ v i k && neB σ v i k) j) ||| ((nI 1) <<< ((nI (j - 15)) &&& 31)))), (2, .int (nI (cnt (seenB σ v i) j + 1))), (4, .int (nI 1)), (0, .ref (x + 3))] o dX4_findUnlikeLeaves_104 4 rfl (iinc_n (j + 1) 1) (by decide) rfl ?_
              refine v_goto 6 o dX4_findUnlikeLeaves_107 (by decide) ?_
              refine v_sub [(0, .ref (x + 3)), (1, .int ((toldF (fun k => seenB σ v i k && neB σ v i k) j) ||| ((nI 1) <<< ((nI (j - 15)) &&& 31)))), (2, .int (nI (cnt (seenB σ v i) j + 1))), (3, .int (nI (j + 1 + 1)))] [4, 1, 2, 0] rfl ?_
              refine v_lv [(0, .ref (x + 3)), (1, .int (toldF (fun k => seenB σ v i k && neB σ v i k) (j + 1))), (2, .int (nI (cnt (seenB σ v i) (j + 1)))), (3, .int (nI (j + 1 + 1)))] (by rw [told_t (f := (fun k => seenB σ v i k && neB σ v i k)) (k := j) s3 (by omega), cnt_t (f := seenB σ v i) (n := j) s1]) ?_
              exact ih (j + 1) _ _ (by omega) hR6 (hF.s s3) hL
  refine v_iconst 0 o dX4_findUnlikeLeaves_0 rfl ?_
  refine v_istore_n [(1, .int (nI 0)), (0, .ref (x + 3))] o dX4_findUnlikeLeaves_1 rfl (by decide) rfl ?_
  refine v_iconst 0 o dX4_findUnlikeLeaves_2 rfl ?_
  refine v_istore_n [(2, .int (nI 0)), (1, .int (nI 0)), (0, .ref (x + 3))] o dX4_findUnlikeLeaves_3 rfl (by decide) rfl ?_
  refine v_iconst 1 o dX4_findUnlikeLeaves_4 rfl ?_
  refine v_istore_n [(3, .int (nI 1)), (2, .int (nI 0)), (1, .int (nI 0)), (0, .ref (x + 3))] o dX4_findUnlikeLeaves_5 rfl (by decide) rfl ?_
  refine v_sub [(0, .ref (x + 3)), (1, .int (nI 0)), (2, .int (nI 0)), (3, .int (nI 1))] [3, 2, 1, 0] rfl ?_
  refine v_lv [(0, .ref (x + 3)), (1, .int (toldF (fun k => seenB σ v i k && neB σ v i k) 0)), (2, .int (nI (cnt (seenB σ v i) 0))), (3, .int (nI 1))] rfl ?_
  exact L 31 0 _ _ rfl hR (fun k hk => absurd hk (Nat.not_lt_zero k)) rfl

