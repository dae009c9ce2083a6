theorem cnt_mono {f h : Nat → Bool} (q : ∀ k, f k = true → h k = true) : ∀ n, cnt f n ≤ cnt h n
  | 0 => Nat.le_refl 0
  | n + 1 => by
    have := cnt_mono q n
    unfold cnt
    have h1 := q n
    cases hf : f n with
    | false => simp; split <;> omega
    | true => rw [h1 hf]; simp; omega
theorem right_le (σ : Sg) (w n : Nat) : cnt (rightB σ w) n ≤ cnt (allB σ w) n := cnt_mono (fun k h => by
  unfold rightB at h
  unfold allB
  simp at h ⊢
  omega) n
theorem trustN_le (σ : Sg) (w : Nat) : trustN σ w ≤ 100 := by
  unfold trustN
  have h1 := right_le σ w 288
  split
  · omega
  · exact Nat.div_le_of_le_mul (by omega)
theorem mI_add (a b : Nat) : mI a + nI b = mI (a + b) := by
  unfold mI
  rw [← nI_add]
  rw [Int32.sub_eq_add_neg, Int32.sub_eq_add_neg, Int32.add_assoc, Int32.add_assoc, Int32.add_comm (-1) (nI b)]
theorem mI_leI {a b : Nat} (ha : a < 2 ^ 30) (hb : b < 2 ^ 30) : mI a ≤ mI b ↔ a ≤ b := by
  rw [Int32.le_iff_toInt_le, mI_toInt ha, mI_toInt hb]
  omega
theorem mI_leN {a b : Nat} (ha : a < 2 ^ 30) (hb : b < 2 ^ 30) : mI a ≤ nI b ↔ a ≤ b + 1 := by
  rw [Int32.le_iff_toInt_le, mI_toInt ha, nI_toInt (by omega)]
  omega
theorem mI_le0 {a : Nat} (ha : a < 2 ^ 30) : mI a ≤ 0 ↔ a ≤ 1 := mI_leN (b := 0) ha (by decide)
theorem wgt_le (σ : Sg) (k x : Nat) : ∀ n, wgt σ k x n ≤ 101 * n
  | 0 => Nat.le_refl 0
  | n + 1 => by
    have := wgt_le σ k x n
    have := trustN_le σ n
    unfold wgt
    split
    · split <;> omega
    · omega
theorem bst_le (σ : Sg) (k : Nat) : ∀ n, (bst σ k n).1 ≤ n ∧ (bst σ k n).2 ≤ 505
  | 0 => ⟨Nat.le_refl 0, Nat.zero_le _⟩
  | n + 1 => by
    have := bst_le σ k n
    have := wgt_le σ k (n + 1) 5
    unfold bst
    split
    · exact ⟨Nat.le_refl _, by omega⟩
    · exact ⟨by omega, by omega⟩
theorem sumW_le (σ : Sg) (k : Nat) : ∀ n, sumW σ k n ≤ 505 * n
  | 0 => Nat.le_refl 0
  | n + 1 => by
    have := sumW_le σ k n
    have := wgt_le σ k (n + 1) 5
    unfold sumW
    omega
theorem maxW_le (σ : Sg) (k : Nat) : ∀ n, maxW σ k n ≤ sumW σ k n
  | 0 => Nat.le_refl 0
  | n + 1 => by
    have := maxW_le σ k n
    unfold maxW sumW
    split <;> omega
def tst (σ : Sg) : Nat → Sg
  | 0 => σ
  | n + 1 => uN (tst σ n) 4 n (trustN σ n)
theorem tst_k (σ : Sg) {k : Nat} (h : k ≠ 4) : ∀ n, (tst σ n).1 k = σ.1 k
  | 0 => rfl
  | n + 1 => by
    funext i
    show u2 (tst σ n).1 4 n (trustN σ n) k i = _
    rw [u2_k h, tst_k σ h n]
theorem tst_r (σ : Sg) : ∀ n, (tst σ n).2 = σ.2
  | 0 => rfl
  | n + 1 => tst_r σ n
theorem tst_4 (σ : Sg) : ∀ n w, w < n → (tst σ n).1 4 w = trustN σ w
  | 0, w, h => by omega
  | n + 1, w, h => by
    show u2 (tst σ n).1 4 n (trustN σ n) 4 w = _
    by_cases e : w = n
    · subst e
      exact u2_s
    · rw [u2_i e]
      exact tst_4 σ n w (by omega)
theorem trustN_congr {σ τ : Sg} (h1 : τ.1 1 = σ.1 1) (h2 : τ.1 2 = σ.1 2) (w : Nat) : trustN τ w = trustN σ w := by
  have e1 : allB τ w = allB σ w := by funext k; unfold allB; rw [h1, h2]
  have e2 : rightB τ w = rightB σ w := by funext k; unfold rightB; rw [h1, h2]
  unfold trustN
  rw [e1, e2]
theorem wgt_congr {σ τ : Sg} (h1 : τ.1 1 = σ.1 1) (h2 : τ.1 2 = σ.1 2) (k x : Nat) : ∀ n, wgt τ k x n = wgt σ k x n
  | 0 => rfl
  | n + 1 => by
    unfold wgt
    rw [wgt_congr h1 h2 k x n, h2, trustN_congr h1 h2]
theorem bst_congr {σ τ : Sg} (h1 : τ.1 1 = σ.1 1) (h2 : τ.1 2 = σ.1 2) (k : Nat) : ∀ n, bst τ k n = bst σ k n
  | 0 => rfl
  | n + 1 => by
    unfold bst
    rw [bst_congr h1 h2 k n, wgt_congr h1 h2]
theorem sumW_congr {σ τ : Sg} (h1 : τ.1 1 = σ.1 1) (h2 : τ.1 2 = σ.1 2) (k : Nat) : ∀ n, sumW τ k n = sumW σ k n
  | 0 => rfl
  | n + 1 => by
    unfold sumW
    rw [sumW_congr h1 h2 k n, wgt_congr h1 h2]
theorem maxW_congr {σ τ : Sg} (h1 : τ.1 1 = σ.1 1) (h2 : τ.1 2 = σ.1 2) (k : Nat) : ∀ n, maxW τ k n = maxW σ k n
  | 0 => rfl
  | n + 1 => by
    unfold maxW
    rw [maxW_congr h1 h2 k n, wgt_congr h1 h2]
/-- alike but for what is laid out anew each time -/
def scr (σ τ : Sg) : Prop := (∀ k, k ≠ 4 → k ≠ 5 → σ.1 k = τ.1 k) ∧ (∀ k, k ≠ 7 → σ.2.1 k = τ.2.1 k) ∧ σ.2.2.1 = τ.2.2.1 ∧ ∀ k, k < 2 → σ.2.2.2 k = τ.2.2.2 k
theorem scr.rf {σ : Sg} : scr σ σ := ⟨fun _ _ _ => rfl, fun _ _ => rfl, rfl, fun _ _ => rfl⟩
theorem scr.inv {σ τ : Sg} (h : scr τ σ) (hI : Inv σ) : Inv τ := by
  unfold Inv Blk
  rw [h.1 3 (by decide) (by decide), h.1 0 (by decide) (by decide), h.1 1 (by decide) (by decide), h.1 2 (by decide) (by decide), h.2.1 2 (by decide), h.2.1 3 (by decide), h.2.1 4 (by decide), h.2.1 5 (by decide), h.2.1 0 (by decide), h.2.1 1 (by decide), h.2.2.1, h.2.2.2 0 (by decide), h.2.2.2 1 (by decide)]
  exact hI
theorem scr_tst (σ : Sg) (n : Nat) : scr (tst σ n) σ := ⟨fun k h _ => tst_k σ h n, fun k _ => by rw [tst_r], by rw [tst_r], fun k _ => by rw [tst_r]⟩
def wrS (g : mG) (m : Nat) (μ0 : mM) (v : Option Value) (σ' : Sg) (z : Nat) : Option Value → mM → Nat → Prop := fun r μ' z' => r = v ∧ (∃ τ, scr τ σ' ∧ RM g m μ0 τ μ') ∧ z = z'
theorem wrS.of {g : mG} {m : Nat} {μ0 : mM} {v : Option Value} {σ' : Sg} {z : Nat} {r : Option Value} {μ' : mM} {z' : Nat} (h : wrM g m μ0 v σ' z r μ' z') : wrS g m μ0 v σ' z r μ' z' := ⟨h.1, ⟨_, scr.rf, h.2.1⟩, h.2.2⟩
set_option maxRecDepth 100000 in
set_option maxHeartbeats 4000000 in
theorem m_trustOf {l : Launch} (hl : l.stackTraces = false) {g : mG} {m z : Nat} {μ0 μ : mM} {σ : Sg} (hR : RM g m μ0 σ μ) (hI : Inv σ) (w : Nat) (hw : w < 5) : Ct l g yX6_trustOf [Cond.code yX6_trustOf cX6_trustOf 6 (some .int)] { frames := 0, cells := 0, slots := 0, locals := 0 } [.ref m, .int (nI w)] μ z (rdP (some (.int (nI (trustN σ w)))) μ z) noX := by
  refine Ct.of hl (by decide +kernel) (Nat.le_of_ble_eq_true rfl) ?_
  intro p e s mi args below meth c o hnm hr hx
  have o : Ok p l s mi args meth c g cX6_trustOf 6 RX6 := o
  refine v_lv [(0, .ref m), (1, .int (nI w))] rfl ?_
  have L : ∀ d j, j + d = 288 → V p l e { frames := 0, cells := 0, slots := 0, locals := 0 } s mi args below meth c (vx_MQ below (cQc g (rdP (some (.int (nI (trustN σ w)))) μ z)) (cXC g noX) args s ({ frames := 0, cells := 0, slots := 0, locals := 0 } : Room).cells ({ frames := 0, cells := 0, slots := 0, locals := 0 } : Room).slots (gA g)) g μ z 0 0 7 [(0, .ref m), (1, .int (nI w)), (2, .int (nI (cnt (allB σ w) j))), (3, .int (nI (cnt (rightB σ w) j))), (4, .int (nI j))] [] := by
    intro d
    induction d with
    | zero =>
      intro j hj
      have hg := hI.2.2.1 j; have hk := hI.2.2.2.1 (5 * j + w); have ha := cnt_le (allB σ w) j; have hb := right_le σ w j
      refine v_iload 4 o dX6_trustOf_7 rfl ?_
      refine v_sipush 288 o dX6_trustOf_9 (by decide) ?_
      refine v_icmp_ge_n 87 o dX6_trustOf_12 (by decide) (by omega) (by decide) (fun c12 => ?_) (fun c12 => absurd c12 (by omega))
      refine v_iload_n 2 o dX6_trustOf_87 rfl rfl ?_
      refine v_if_ne_n 96 o dX6_trustOf_88 (by decide) (by omega) (fun c88 => ?_) (fun c88 => ?_)
      · refine v_bipush 100 o dX6_trustOf_96 (by decide) ?_
        refine v_iload_n 3 o dX6_trustOf_98 rfl rfl ?_
        refine v_imul (nI (100 * (cnt (rightB σ w) j))) o dX6_trustOf_99 (pk_mul 100 (cnt (rightB σ w) j)) ?_
        refine v_iload_n 2 o dX6_trustOf_100 rfl rfl ?_
        refine v_idiv (nI (100 * cnt (rightB σ w) j / cnt (allB σ w) j)) o dX6_trustOf_101 (fun q => c88 ((nI_eq (by omega) (by decide : 0 < 2 ^ 31)).mp q)) (pk_div (by omega) (by omega) (by omega)) ?_
        have ej : j = 288 := by omega
        exact v_iret o dX6_trustOf_102 hr (Nat.le_of_ble_eq_true rfl) (Nat.le_of_ble_eq_true rfl) ⟨by rw [show trustN σ w = 100 * cnt (rightB σ w) j / cnt (allB σ w) j from by unfold trustN; rw [← ej, if_neg c88]], rfl, rfl⟩
      · refine v_bipush 50 o dX6_trustOf_91 (by decide) ?_
        refine v_goto 102 o dX6_trustOf_93 (by decide) ?_
        have ej : j = 288 := by omega
        exact v_iret o dX6_trustOf_102 hr (Nat.le_of_ble_eq_true rfl) (Nat.le_of_ble_eq_true rfl) ⟨by rw [show trustN σ w = 50 from by unfold trustN; rw [← ej, if_pos c88]], rfl, rfl⟩
    | succ d ih =>
      intro j hj
      have hg := hI.2.2.1 j; have hk := hI.2.2.2.1 (5 * j + w); have ha := cnt_le (allB σ w) j; have hb := right_le σ w j
      refine v_iload 4 o dX6_trustOf_7 rfl ?_
      refine v_sipush 288 o dX6_trustOf_9 (by decide) ?_
      refine v_icmp_ge_n 87 o dX6_trustOf_12 (by decide) (by omega) (by decide) (fun c12 => absurd c12 (by omega)) (fun c12 => ?_)
      refine v_aload_n 0 o dX6_trustOf_15 rfl rfl ?_
      refine v_get (v := .ref (m + 22)) o dX6_trustOf_16 cf6 25 (by decide) fl_X6_75 hR.o rfl ?_
      refine v_iconst 5 o dX6_trustOf_19 rfl ?_
      refine v_iload 4 o dX6_trustOf_20 rfl ?_
      refine v_imul (nI (5 * j)) o dX6_trustOf_22 (pk_mul 5 j) ?_
      refine v_iload_n 1 o dX6_trustOf_23 rfl rfl ?_
      refine v_iadd (nI (5 * j + w)) o dX6_trustOf_24 (nI_add (5 * j) w) ?_
      refine v_iald (nI (σ.1 2 (5 * j + w))) o dX6_trustOf_25 (by omega) (by decide) hR.a22 rfl ?_
      refine v_istore [(5, .int (nI (σ.1 2 (5 * j + w)))), (0, .ref m), (1, .int (nI w)), (2, .int (nI (cnt (allB σ w) j))), (3, .int (nI (cnt (rightB σ w) j))), (4, .int (nI j))] o dX6_trustOf_26 (by decide) rfl ?_
      refine v_iload_n 3 o dX6_trustOf_28 rfl rfl ?_
      refine v_aload_n 1 o dX6_trustOf_29 rfl rfl ?_
      refine v_get (v := .ref (m + 21)) o dX6_trustOf_30 cf6 24 (by decide) fl_X6_72 hR.o rfl ?_
      refine v_iload 5 o dX6_trustOf_33 rfl ?_
      refine v_iald (nI (σ.1 1 j)) o dX6_trustOf_35 (by omega) (by decide) hR.a21 rfl ?_
      refine v_if_le_n 48 o dX6_trustOf_36 (by decide) (by omega) (fun c36 => ?_) (fun c36 => ?_)
      · refine v_iconst 0 o dX6_trustOf_48 rfl ?_
        refine v_iadd (nI (cnt (allB σ w) j)) o dX6_trustOf_49 (nI_add (cnt (allB σ w) j) 0) ?_
        refine v_istore_n [(2, .int (nI (cnt (allB σ w) j))), (5, .int (nI (σ.1 2 (5 * j + w)))), (0, .ref m), (1, .int (nI w)), (3, .int (nI (cnt (rightB σ w) j))), (4, .int (nI j))] o dX6_trustOf_50 rfl (by decide) rfl ?_
        refine v_iload_n 4 o dX6_trustOf_51 rfl rfl ?_
        refine v_aload_n 2 o dX6_trustOf_52 rfl rfl ?_
        refine v_get (v := .ref (m + 21)) o dX6_trustOf_53 cf6 24 (by decide) fl_X6_72 hR.o rfl ?_
        refine v_iload 5 o dX6_trustOf_56 rfl ?_
        refine v_iald (nI (σ.1 1 j)) o dX6_trustOf_58 (by omega) (by decide) hR.a21 rfl ?_
        refine v_if_le_n 78 o dX6_trustOf_59 (by decide) (by omega) (fun c59 => ?_) (fun c59 => ?_)
        · refine v_iconst 0 o dX6_trustOf_78 rfl ?_
          refine v_iadd (nI (cnt (rightB σ w) j)) o dX6_trustOf_79 (nI_add (cnt (rightB σ w) j) 0) ?_
          refine v_istore_n [(3, .int (nI (cnt (rightB σ w) j))), (2, .int (nI (cnt (allB σ w) j))), (5, .int (nI (σ.1 2 (5 * j + w)))), (0, .ref m), (1, .int (nI w)), (4, .int (nI j))] o dX6_trustOf_80 rfl (by decide) rfl ?_
          refine v_iinc (nI (j + 1)) [(4, .int (nI (j + 1))), (3, .int (nI (cnt (rightB σ w) j))), (2, .int (nI (cnt (allB σ w) j))), (5, .int (nI (σ.1 2 (5 * j + w)))), (0, .ref m), (1, .int (nI w))] o dX6_trustOf_81 5 rfl (iinc_n j 1) (by decide) rfl ?_
          refine v_goto 7 o dX6_trustOf_84 (by decide) ?_
          refine v_sub [(0, .ref m), (1, .int (nI w)), (2, .int (nI (cnt (allB σ w) j))), (3, .int (nI (cnt (rightB σ w) j))), (4, .int (nI (j + 1)))] [4, 5, 2, 1, 0] rfl ?_
          refine v_lv [(0, .ref m), (1, .int (nI w)), (2, .int (nI (cnt (allB σ w) (j + 1)))), (3, .int (nI (cnt (rightB σ w) (j + 1)))), (4, .int (nI (j + 1)))] (by rw [cnt_f (f := allB σ w) (n := j) (by simp [allB, Nat.not_lt.mpr c36]), cnt_f (f := rightB σ w) (n := j) (by simp [rightB, Nat.not_lt.mpr c59])]) ?_
          exact ih (j + 1) (by omega)
        · refine v_iload 1 o dX6_trustOf_62 rfl ?_
          refine v_aload_n 2 o dX6_trustOf_64 rfl rfl ?_
          refine v_get (v := .ref (m + 21)) o dX6_trustOf_65 cf6 24 (by decide) fl_X6_72 hR.o rfl ?_
          refine v_iload 5 o dX6_trustOf_68 rfl ?_
          refine v_iald (nI (σ.1 1 j)) o dX6_trustOf_70 (by omega) (by decide) hR.a21 rfl ?_
          refine v_icmp_ne_n 78 o dX6_trustOf_71 (by decide) (by omega) (by omega) (fun c71 => ?_) (fun c71 => ?_)
          · refine v_iconst 0 o dX6_trustOf_78 rfl ?_
            refine v_iadd (nI (cnt (rightB σ w) j)) o dX6_trustOf_79 (nI_add (cnt (rightB σ w) j) 0) ?_
            refine v_istore_n [(3, .int (nI (cnt (rightB σ w) j))), (2, .int (nI (cnt (allB σ w) j))), (5, .int (nI (σ.1 2 (5 * j + w)))), (0, .ref m), (1, .int (nI w)), (4, .int (nI j))] o dX6_trustOf_80 rfl (by decide) rfl ?_
            refine v_iinc (nI (j + 1)) [(4, .int (nI (j + 1))), (3, .int (nI (cnt (rightB σ w) j))), (2, .int (nI (cnt (allB σ w) j))), (5, .int (nI (σ.1 2 (5 * j + w)))), (0, .ref m), (1, .int (nI w))] o dX6_trustOf_81 5 rfl (iinc_n j 1) (by decide) rfl ?_
            refine v_goto 7 o dX6_trustOf_84 (by decide) ?_
            refine v_sub [(0, .ref m), (1, .int (nI w)), (2, .int (nI (cnt (allB σ w) j))), (3, .int (nI (cnt (rightB σ w) j))), (4, .int (nI (j + 1)))] [4, 5, 2, 1, 0] rfl ?_
            refine v_lv [(0, .ref m), (1, .int (nI w)), (2, .int (nI (cnt (allB σ w) (j + 1)))), (3, .int (nI (cnt (rightB σ w) (j + 1)))), (4, .int (nI (j + 1)))] (by rw [cnt_f (f := allB σ w) (n := j) (by simp [allB, Nat.not_lt.mpr c36]), cnt_f (f := rightB σ w) (n := j) (by simp [rightB, Nat.not_le.mp c59, c71])]) ?_
            exact ih (j + 1) (by omega)
          · refine v_iconst 1 o dX6_trustOf_74 rfl ?_
            refine v_goto 79 o dX6_trustOf_75 (by decide) ?_
            refine v_iadd (nI (cnt (rightB σ w) j + 1)) o dX6_trustOf_79 (nI_add (cnt (rightB σ w) j) 1) ?_
            refine v_istore_n [(3, .int (nI (cnt (rightB σ w) j + 1))), (2, .int (nI (cnt (allB σ w) j))), (5, .int (nI (σ.1 2 (5 * j + w)))), (0, .ref m), (1, .int (nI w)), (4, .int (nI j))] o dX6_trustOf_80 rfl (by decide) rfl ?_
            refine v_iinc (nI (j + 1)) [(4, .int (nI (j + 1))), (3, .int (nI (cnt (rightB σ w) j + 1))), (2, .int (nI (cnt (allB σ w) j))), (5, .int (nI (σ.1 2 (5 * j + w)))), (0, .ref m), (1, .int (nI w))] o dX6_trustOf_81 5 rfl (iinc_n j 1) (by decide) rfl ?_
            refine v_goto 7 o dX6_trustOf_84 (by decide) ?_
            refine v_sub [(0, .ref m), (1, .int (nI w)), (2, .int (nI (cnt (allB σ w) j))), (3, .int (nI (cnt (rightB σ w) j + 1))), (4, .int (nI (j + 1)))] [4, 5, 2, 1, 0] rfl ?_
            refine v_lv [(0, .ref m), (1, .int (nI w)), (2, .int (nI (cnt (allB σ w) (j + 1)))), (3, .int (nI (cnt (rightB σ w) (j + 1)))), (4, .int (nI (j + 1)))] (by rw [cnt_f (f := allB σ w) (n := j) (by simp [allB, Nat.not_lt.mpr c36]), cnt_t (f := rightB σ w) (n := j) (by simp [rightB, Nat.not_le.mp c59, c71])]) ?_
            exact ih (j + 1) (by omega)
      · refine v_iload 0 o dX6_trustOf_39 rfl ?_
        refine v_if_le_n 48 o dX6_trustOf_41 (by decide) (by omega) (fun c41 => ?_) (fun c41 => ?_)
        · refine v_iconst 0 o dX6_trustOf_48 rfl ?_
          refine v_iadd (nI (cnt (allB σ w) j)) o dX6_trustOf_49 (nI_add (cnt (allB σ w) j) 0) ?_
          refine v_istore_n [(2, .int (nI (cnt (allB σ w) j))), (5, .int (nI (σ.1 2 (5 * j + w)))), (0, .ref m), (1, .int (nI w)), (3, .int (nI (cnt (rightB σ w) j))), (4, .int (nI j))] o dX6_trustOf_50 rfl (by decide) rfl ?_
          refine v_iload_n 4 o dX6_trustOf_51 rfl rfl ?_
          refine v_aload_n 2 o dX6_trustOf_52 rfl rfl ?_
          refine v_get (v := .ref (m + 21)) o dX6_trustOf_53 cf6 24 (by decide) fl_X6_72 hR.o rfl ?_
          refine v_iload 5 o dX6_trustOf_56 rfl ?_
          refine v_iald (nI (σ.1 1 j)) o dX6_trustOf_58 (by omega) (by decide) hR.a21 rfl ?_
          refine v_if_le_n 78 o dX6_trustOf_59 (by decide) (by omega) (fun c59 => ?_) (fun c59 => ?_)
          · refine v_iconst 0 o dX6_trustOf_78 rfl ?_
            refine v_iadd (nI (cnt (rightB σ w) j)) o dX6_trustOf_79 (nI_add (cnt (rightB σ w) j) 0) ?_
            refine v_istore_n [(3, .int (nI (cnt (rightB σ w) j))), (2, .int (nI (cnt (allB σ w) j))), (5, .int (nI (σ.1 2 (5 * j + w)))), (0, .ref m), (1, .int (nI w)), (4, .int (nI j))] o dX6_trustOf_80 rfl (by decide) rfl ?_
            refine v_iinc (nI (j + 1)) [(4, .int (nI (j + 1))), (3, .int (nI (cnt (rightB σ w) j))), (2, .int (nI (cnt (allB σ w) j))), (5, .int (nI (σ.1 2 (5 * j + w)))), (0, .ref m), (1, .int (nI w))] o dX6_trustOf_81 5 rfl (iinc_n j 1) (by decide) rfl ?_
            refine v_goto 7 o dX6_trustOf_84 (by decide) ?_
            refine v_sub [(0, .ref m), (1, .int (nI w)), (2, .int (nI (cnt (allB σ w) j))), (3, .int (nI (cnt (rightB σ w) j))), (4, .int (nI (j + 1)))] [4, 5, 2, 1, 0] rfl ?_
            refine v_lv [(0, .ref m), (1, .int (nI w)), (2, .int (nI (cnt (allB σ w) (j + 1)))), (3, .int (nI (cnt (rightB σ w) (j + 1)))), (4, .int (nI (j + 1)))] (by rw [cnt_f (f := allB σ w) (n := j) (by simp [allB, Nat.not_le.mp c36, Nat.not_lt.mpr c41]), cnt_f (f := rightB σ w) (n := j) (by simp [rightB, Nat.not_lt.mpr c59])]) ?_
            exact ih (j + 1) (by omega)
          · refine v_iload 1 o dX6_trustOf_62 rfl ?_
            refine v_aload_n 2 o dX6_trustOf_64 rfl rfl ?_
            refine v_get (v := .ref (m + 21)) o dX6_trustOf_65 cf6 24 (by decide) fl_X6_72 hR.o rfl ?_
            refine v_iload 5 o dX6_trustOf_68 rfl ?_
            refine v_iald (nI (σ.1 1 j)) o dX6_trustOf_70 (by omega) (by decide) hR.a21 rfl ?_
            refine v_icmp_ne_n 78 o dX6_trustOf_71 (by decide) (by omega) (by omega) (fun c71 => ?_) (fun c71 => ?_)
            · refine v_iconst 0 o dX6_trustOf_78 rfl ?_
              refine v_iadd (nI (cnt (rightB σ w) j)) o dX6_trustOf_79 (nI_add (cnt (rightB σ w) j) 0) ?_
              refine v_istore_n [(3, .int (nI (cnt (rightB σ w) j))), (2, .int (nI (cnt (allB σ w) j))), (5, .int (nI (σ.1 2 (5 * j + w)))), (0, .ref m), (1, .int (nI w)), (4, .int (nI j))] o dX6_trustOf_80 rfl (by decide) rfl ?_
              refine v_iinc (nI (j + 1)) [(4, .int (nI (j + 1))), (3, .int (nI (cnt (rightB σ w) j))), (2, .int (nI (cnt (allB σ w) j))), (5, .int (nI (σ.1 2 (5 * j + w)))), (0, .ref m), (1, .int (nI w))] o dX6_trustOf_81 5 rfl (iinc_n j 1) (by decide) rfl ?_
              refine v_goto 7 o dX6_trustOf_84 (by decide) ?_
              refine v_sub [(0, .ref m), (1, .int (nI w)), (2, .int (nI (cnt (allB σ w) j))), (3, .int (nI (cnt (rightB σ w) j))), (4, .int (nI (j + 1)))] [4, 5, 2, 1, 0] rfl ?_
              refine v_lv [(0, .ref m), (1, .int (nI w)), (2, .int (nI (cnt (allB σ w) (j + 1)))), (3, .int (nI (cnt (rightB σ w) (j + 1)))), (4, .int (nI (j + 1)))] (by rw [cnt_f (f := allB σ w) (n := j) (by simp [allB, Nat.not_le.mp c36, Nat.not_lt.mpr c41]), cnt_f (f := rightB σ w) (n := j) (by simp [rightB, Nat.not_le.mp c59, c71])]) ?_
              exact ih (j + 1) (by omega)
            · refine v_iconst 1 o dX6_trustOf_74 rfl ?_
              refine v_goto 79 o dX6_trustOf_75 (by decide) ?_
              refine v_iadd (nI (cnt (rightB σ w) j + 1)) o dX6_trustOf_79 (nI_add (cnt (rightB σ w) j) 1) ?_
              refine v_istore_n [(3, .int (nI (cnt (rightB σ w) j + 1))), (2, .int (nI (cnt (allB σ w) j))), (5, .int (nI (σ.1 2 (5 * j + w)))), (0, .ref m), (1, .int (nI w)), (4, .int (nI j))] o dX6_trustOf_80 rfl (by decide) rfl ?_
              refine v_iinc (nI (j + 1)) [(4, .int (nI (j + 1))), (3, .int (nI (cnt (rightB σ w) j + 1))), (2, .int (nI (cnt (allB σ w) j))), (5, .int (nI (σ.1 2 (5 * j + w)))), (0, .ref m), (1, .int (nI w))] o dX6_trustOf_81 5 rfl (iinc_n j 1) (by decide) rfl ?_
              refine v_goto 7 o dX6_trustOf_84 (by decide) ?_
              refine v_sub [(0, .ref m), (1, .int (nI w)), (2, .int (nI (cnt (allB σ w) j))), (3, .int (nI (cnt (rightB σ w) j + 1))), (4, .int (nI (j + 1)))] [4, 5, 2, 1, 0] rfl ?_
              refine v_lv [(0, .ref m), (1, .int (nI w)), (2, .int (nI (cnt (allB σ w) (j + 1)))), (3, .int (nI (cnt (rightB σ w) (j + 1)))), (4, .int (nI (j + 1)))] (by rw [cnt_f (f := allB σ w) (n := j) (by simp [allB, Nat.not_le.mp c36, Nat.not_lt.mpr c41]), cnt_t (f := rightB σ w) (n := j) (by simp [rightB, Nat.not_le.mp c59, c71])]) ?_
              exact ih (j + 1) (by omega)
        · refine v_iconst 1 o dX6_trustOf_44 rfl ?_
          refine v_goto 49 o dX6_trustOf_45 (by decide) ?_
          refine v_iadd (nI (cnt (allB σ w) j + 1)) o dX6_trustOf_49 (nI_add (cnt (allB σ w) j) 1) ?_
          refine v_istore_n [(2, .int (nI (cnt (allB σ w) j + 1))), (5, .int (nI (σ.1 2 (5 * j + w)))), (0, .ref m), (1, .int (nI w)), (3, .int (nI (cnt (rightB σ w) j))), (4, .int (nI j))] o dX6_trustOf_50 rfl (by decide) rfl ?_
          refine v_iload_n 4 o dX6_trustOf_51 rfl rfl ?_
          refine v_aload_n 2 o dX6_trustOf_52 rfl rfl ?_
          refine v_get (v := .ref (m + 21)) o dX6_trustOf_53 cf6 24 (by decide) fl_X6_72 hR.o rfl ?_
          refine v_iload 5 o dX6_trustOf_56 rfl ?_
          refine v_iald (nI (σ.1 1 j)) o dX6_trustOf_58 (by omega) (by decide) hR.a21 rfl ?_
          refine v_if_le_n 78 o dX6_trustOf_59 (by decide) (by omega) (fun c59 => ?_) (fun c59 => ?_)
          · refine v_iconst 0 o dX6_trustOf_78 rfl ?_
            refine v_iadd (nI (cnt (rightB σ w) j)) o dX6_trustOf_79 (nI_add (cnt (rightB σ w) j) 0) ?_
            refine v_istore_n [(3, .int (nI (cnt (rightB σ w) j))), (2, .int (nI (cnt (allB σ w) j + 1))), (5, .int (nI (σ.1 2 (5 * j + w)))), (0, .ref m), (1, .int (nI w)), (4, .int (nI j))] o dX6_trustOf_80 rfl (by decide) rfl ?_
            refine v_iinc (nI (j + 1)) [(4, .int (nI (j + 1))), (3, .int (nI (cnt (rightB σ w) j))), (2, .int (nI (cnt (allB σ w) j + 1))), (5, .int (nI (σ.1 2 (5 * j + w)))), (0, .ref m), (1, .int (nI w))] o dX6_trustOf_81 5 rfl (iinc_n j 1) (by decide) rfl ?_
            refine v_goto 7 o dX6_trustOf_84 (by decide) ?_
            refine v_sub [(0, .ref m), (1, .int (nI w)), (2, .int (nI (cnt (allB σ w) j + 1))), (3, .int (nI (cnt (rightB σ w) j))), (4, .int (nI (j + 1)))] [4, 5, 2, 1, 0] rfl ?_
            refine v_lv [(0, .ref m), (1, .int (nI w)), (2, .int (nI (cnt (allB σ w) (j + 1)))), (3, .int (nI (cnt (rightB σ w) (j + 1)))), (4, .int (nI (j + 1)))] (by rw [cnt_t (f := allB σ w) (n := j) (by simp [allB, Nat.not_le.mp c36, Nat.not_le.mp c41]), cnt_f (f := rightB σ w) (n := j) (by simp [rightB, Nat.not_lt.mpr c59])]) ?_
            exact ih (j + 1) (by omega)
          · refine v_iload 1 o dX6_trustOf_62 rfl ?_
            refine v_aload_n 2 o dX6_trustOf_64 rfl rfl ?_
            refine v_get (v := .ref (m + 21)) o dX6_trustOf_65 cf6 24 (by decide) fl_X6_72 hR.o rfl ?_
            refine v_iload 5 o dX6_trustOf_68 rfl ?_
            refine v_iald (nI (σ.1 1 j)) o dX6_trustOf_70 (by omega) (by decide) hR.a21 rfl ?_
            refine v_icmp_ne_n 78 o dX6_trustOf_71 (by decide) (by omega) (by omega) (fun c71 => ?_) (fun c71 => ?_)
            · refine v_iconst 0 o dX6_trustOf_78 rfl ?_
              refine v_iadd (nI (cnt (rightB σ w) j)) o dX6_trustOf_79 (nI_add (cnt (rightB σ w) j) 0) ?_
              refine v_istore_n [(3, .int (nI (cnt (rightB σ w) j))), (2, .int (nI (cnt (allB σ w) j + 1))), (5, .int (nI (σ.1 2 (5 * j + w)))), (0, .ref m), (1, .int (nI w)), (4, .int (nI j))] o dX6_trustOf_80 rfl (by decide) rfl ?_
              refine v_iinc (nI (j + 1)) [(4, .int (nI (j + 1))), (3, .int (nI (cnt (rightB σ w) j))), (2, .int (nI (cnt (allB σ w) j + 1))), (5, .int (nI (σ.1 2 (5 * j + w)))), (0, .ref m), (1, .int (nI w))] o dX6_trustOf_81 5 rfl (iinc_n j 1) (by decide) rfl ?_
              refine v_goto 7 o dX6_trustOf_84 (by decide) ?_
              refine v_sub [(0, .ref m), (1, .int (nI w)), (2, .int (nI (cnt (allB σ w) j + 1))), (3, .int (nI (cnt (rightB σ w) j))), (4, .int (nI (j + 1)))] [4, 5, 2, 1, 0] rfl ?_
              refine v_lv [(0, .ref m), (1, .int (nI w)), (2, .int (nI (cnt (allB σ w) (j + 1)))), (3, .int (nI (cnt (rightB σ w) (j + 1)))), (4, .int (nI (j + 1)))] (by rw [cnt_t (f := allB σ w) (n := j) (by simp [allB, Nat.not_le.mp c36, Nat.not_le.mp c41]), cnt_f (f := rightB σ w) (n := j) (by simp [rightB, Nat.not_le.mp c59, c71])]) ?_
              exact ih (j + 1) (by omega)
            · refine v_iconst 1 o dX6_trustOf_74 rfl ?_
              refine v_goto 79 o dX6_trustOf_75 (by decide) ?_
              refine v_iadd (nI (cnt (rightB σ w) j + 1)) o dX6_trustOf_79 (nI_add (cnt (rightB σ w) j) 1) ?_
              refine v_istore_n [(3, .int (nI (cnt (rightB σ w) j + 1))), (2, .int (nI (cnt (allB σ w) j + 1))), (5, .int (nI (σ.1 2 (5 * j + w)))), (0, .ref m), (1, .int (nI w)), (4, .int (nI j))] o dX6_trustOf_80 rfl (by decide) rfl ?_
              refine v_iinc (nI (j + 1)) [(4, .int (nI (j + 1))), (3, .int (nI (cnt (rightB σ w) j + 1))), (2, .int (nI (cnt (allB σ w) j + 1))), (5, .int (nI (σ.1 2 (5 * j + w)))), (0, .ref m), (1, .int (nI w))] o dX6_trustOf_81 5 rfl (iinc_n j 1) (by decide) rfl ?_
              refine v_goto 7 o dX6_trustOf_84 (by decide) ?_
              refine v_sub [(0, .ref m), (1, .int (nI w)), (2, .int (nI (cnt (allB σ w) j + 1))), (3, .int (nI (cnt (rightB σ w) j + 1))), (4, .int (nI (j + 1)))] [4, 5, 2, 1, 0] rfl ?_
              refine v_lv [(0, .ref m), (1, .int (nI w)), (2, .int (nI (cnt (allB σ w) (j + 1)))), (3, .int (nI (cnt (rightB σ w) (j + 1)))), (4, .int (nI (j + 1)))] (by rw [cnt_t (f := allB σ w) (n := j) (by simp [allB, Nat.not_le.mp c36, Nat.not_le.mp c41]), cnt_t (f := rightB σ w) (n := j) (by simp [rightB, Nat.not_le.mp c59, c71])]) ?_
              exact ih (j + 1) (by omega)
  refine v_iconst 0 o dX6_trustOf_0 rfl ?_
  refine v_istore_n [(2, .int (nI 0)), (0, .ref m), (1, .int (nI w))] o dX6_trustOf_1 rfl (by decide) rfl ?_
  refine v_iconst 0 o dX6_trustOf_2 rfl ?_
  refine v_istore_n [(3, .int (nI 0)), (2, .int (nI 0)), (0, .ref m), (1, .int (nI w))] o dX6_trustOf_3 rfl (by decide) rfl ?_
  refine v_iconst 0 o dX6_trustOf_4 rfl ?_
  refine v_istore [(4, .int (nI 0)), (3, .int (nI 0)), (2, .int (nI 0)), (0, .ref m), (1, .int (nI w))] o dX6_trustOf_5 (by decide) rfl ?_
  refine v_sub [(0, .ref m), (1, .int (nI w)), (2, .int (nI 0)), (3, .int (nI 0)), (4, .int (nI 0))] [3, 4, 2, 1, 0] rfl ?_
  refine v_lv [(0, .ref m), (1, .int (nI w)), (2, .int (nI (cnt (allB σ w) 0))), (3, .int (nI (cnt (rightB σ w) 0))), (4, .int (nI 0))] rfl ?_
  exact L (288) 0 (by omega)

set_option maxRecDepth 100000 in
set_option maxHeartbeats 4000000 in
theorem m_trust {l : Launch} (hl : l.stackTraces = false) {g : mG} {m z : Nat} {μ0 μ : mM} {σ : Sg} (hR : RM g m μ0 σ μ) (hI : Inv σ) (y : Int32) : Ct l g yX6_trust [Cond.code yX6_trust cX6_trust 2 (some .int)] { frames := 1, cells := 0, slots := 0, locals := 25 } [.ref m, .int y] μ z (wrM g m μ0 (some (.int (sp_trust σ y).1)) (sp_trust σ y).2 z) noX := by
  cases hY : inR y (nI 0) (nI 4) with
  | false =>
    refine Ct.of hl (by decide +kernel) (Nat.le_of_ble_eq_true rfl) ?_
    intro p e s mi args below meth c o hnm hr hx
    have o : Ok p l s mi args meth c g cX6_trust 2 RX6 := o
    refine v_lv [(0, .ref m), (1, .int y)] rfl ?_
    refine v_aload_n 0 o dX6_trust_0 rfl rfl ?_
    refine v_iload_n 1 o dX6_trust_1 rfl rfl ?_
    refine v_iconst 0 o dX6_trust_2 rfl ?_
    refine v_iconst 4 o dX6_trust_3 rfl ?_
    refine v_callSr (v := .int (bI (inR y (nI 0) (nI 4)))) [.int y, .int (nI 0), .int (nI 4)] [.ref m] o dX6_trust_4 cw_X6_97 st_X6_in (m_in hl hR y (nI 0) (nI 4)) rfl rfl (by decide) ⟨rfl, rfl⟩ (by decide) (Nat.le_of_ble_eq_true rfl) ?_
    refine v_top (bI false) (by rw [hY]) ?_
    refine v_if_eq_b 14 o dX6_trust_7 (by decide) (fun c7 => ?_) (fun c7 => absurd c7 (by simp_all))
    refine v_iconst 1 o dX6_trust_14 rfl ?_
    refine v_callV [.int (nI 1)] [] o dX6_trust_15 cw_X6_109 im_X6_goesWell se_X6_goesWell cf6 hR.o (m_goesWell hl hR 1 (by first | decide | omega)) rfl rfl (by decide) (by decide) (Nat.le_of_ble_eq_true rfl) ?_ (fun _ _ _ _ h => h.elim)
    rintro _ μ1 _ _ ⟨rfl, hR1, rfl⟩
    refine v_st [.int (bI false)] rfl ?_
    refine v_if_eq_b 29 o dX6_trust_18 (by decide) (fun c18 => ?_) (fun c18 => absurd c18 (by simp_all))
    refine v_iconst 0 o dX6_trust_29 rfl ?_
    have e9 : sp_trust σ y = (nI 0, uN σ 3 1 1) := by simp [sp_trust, th, hY]
    exact v_iret o dX6_trust_30 hr (Nat.le_of_ble_eq_true rfl) (Nat.le_of_ble_eq_true rfl) (by rw [e9]; exact ⟨rfl, hR1, rfl⟩)
  | true =>
    obtain ⟨u, hua, hub, rfl⟩ := inR_nat (a := 0) (b := 4) hY (by decide) (by decide)
    have tu : tn (nI u) = u := tn_nI (by omega)
    refine Ct.of hl (by decide +kernel) (Nat.le_of_ble_eq_true rfl) ?_
    intro p e s mi args below meth c o hnm hr hx
    have o : Ok p l s mi args meth c g cX6_trust 2 RX6 := o
    refine v_lv [(0, .ref m), (1, .int (nI u))] rfl ?_
    refine v_aload_n 0 o dX6_trust_0 rfl rfl ?_
    refine v_iload_n 1 o dX6_trust_1 rfl rfl ?_
    refine v_iconst 0 o dX6_trust_2 rfl ?_
    refine v_iconst 4 o dX6_trust_3 rfl ?_
    refine v_callSr (v := .int (bI (inR (nI u) (nI 0) (nI 4)))) [.int (nI u), .int (nI 0), .int (nI 4)] [.ref m] o dX6_trust_4 cw_X6_97 st_X6_in (m_in hl hR (nI u) (nI 0) (nI 4)) rfl rfl (by decide) ⟨rfl, rfl⟩ (by decide) (Nat.le_of_ble_eq_true rfl) ?_
    refine v_top (bI true) (by rw [hY]) ?_
    refine v_if_eq_b 14 o dX6_trust_7 (by decide) (fun c7 => absurd c7 (by simp_all)) (fun c7 => ?_)
    refine v_iconst 0 o dX6_trust_10 rfl ?_
    refine v_goto 15 o dX6_trust_11 (by decide) ?_
    refine v_callV [.int (nI 0)] [] o dX6_trust_15 cw_X6_109 im_X6_goesWell se_X6_goesWell cf6 hR.o (m_goesWell hl hR 0 (by first | decide | omega)) rfl rfl (by decide) (by decide) (Nat.le_of_ble_eq_true rfl) ?_ (fun _ _ _ _ h => h.elim)
    rintro _ μ2 _ _ ⟨rfl, hR2, rfl⟩
    refine v_st [.int (bI true)] rfl ?_
    refine v_if_eq_b 29 o dX6_trust_18 (by decide) (fun c18 => absurd c18 (by simp_all)) (fun c18 => ?_)
    refine v_aload_n 0 o dX6_trust_21 rfl rfl ?_
    refine v_iload_n 1 o dX6_trust_22 rfl rfl ?_
    refine v_callVr (v := .int (nI (trustN σ u))) [.int (nI u)] [] o dX6_trust_23 cw_X6_165 im_X6_trustOf se_X6_trustOf cf6 hR2.o (m_trustOf hl hR2 (hI) u (by omega)) rfl rfl (by decide) ⟨rfl, rfl⟩ (by decide) (Nat.le_of_ble_eq_true rfl) ?_
    refine v_goto 30 o dX6_trust_26 (by decide) ?_
    have e9 : sp_trust σ (nI u) = (nI (trustN σ u), uN σ 3 1 0) := by simp [sp_trust, th, hY, tu]
    exact v_iret o dX6_trust_30 hr (Nat.le_of_ble_eq_true rfl) (Nat.le_of_ble_eq_true rfl) (by rw [e9]; exact ⟨rfl, hR2, rfl⟩)

set_option maxRecDepth 100000 in
set_option maxHeartbeats 4000000 in
theorem m_pay {l : Launch} (hl : l.stackTraces = false) {g : mG} {m z : Nat} {μ0 μ : mM} {σ : Sg} (hR : RM g m μ0 σ μ) (hI : Inv σ) (y : Int32) : Ct l g yX6_pay [Cond.code yX6_pay cX6_pay 4 (some .int)] { frames := 1, cells := 0, slots := 0, locals := 25 } [.ref m, .int y] μ z (wrM g m μ0 (some (.int (sp_pay σ y).1)) (sp_pay σ y).2 z) noX := by
  cases hY : inR y (nI 0) (nI 4) with
  | false =>
    refine Ct.of hl (by decide +kernel) (Nat.le_of_ble_eq_true rfl) ?_
    intro p e s mi args below meth c o hnm hr hx
    have o : Ok p l s mi args meth c g cX6_pay 4 RX6 := o
    refine v_lv [(0, .ref m), (1, .int y)] rfl ?_
    refine v_aload_n 0 o dX6_pay_0 rfl rfl ?_
    refine v_iload_n 1 o dX6_pay_1 rfl rfl ?_
    refine v_iconst 0 o dX6_pay_2 rfl ?_
    refine v_iconst 4 o dX6_pay_3 rfl ?_
    refine v_callSr (v := .int (bI (inR y (nI 0) (nI 4)))) [.int y, .int (nI 0), .int (nI 4)] [.ref m] o dX6_pay_4 cw_X6_97 st_X6_in (m_in hl hR y (nI 0) (nI 4)) rfl rfl (by decide) ⟨rfl, rfl⟩ (by decide) (Nat.le_of_ble_eq_true rfl) ?_
    refine v_top (bI false) (by rw [hY]) ?_
    refine v_if_eq_b 14 o dX6_pay_7 (by decide) (fun c7 => ?_) (fun c7 => absurd c7 (by simp_all))
    refine v_iconst 1 o dX6_pay_14 rfl ?_
    refine v_callV [.int (nI 1)] [] o dX6_pay_15 cw_X6_109 im_X6_goesWell se_X6_goesWell cf6 hR.o (m_goesWell hl hR 1 (by first | decide | omega)) rfl rfl (by decide) (by decide) (Nat.le_of_ble_eq_true rfl) ?_ (fun _ _ _ _ h => h.elim)
    rintro _ μ1 _ _ ⟨rfl, hR1, rfl⟩
    refine v_st [.int (bI false)] rfl ?_
    refine v_if_ne_b 23 o dX6_pay_18 (by decide) (fun c18 => absurd c18 (by simp_all)) (fun c18 => ?_)
    refine v_iconst 0 o dX6_pay_21 rfl ?_
    have e9 : sp_pay σ y = (nI 0, uN σ 3 1 1) := by simp [sp_pay, th, hY]
    exact v_iret o dX6_pay_22 hr (Nat.le_of_ble_eq_true rfl) (Nat.le_of_ble_eq_true rfl) (by rw [e9]; exact ⟨rfl, hR1, rfl⟩)
  | true =>
    obtain ⟨u, hua, hub, rfl⟩ := inR_nat (a := 0) (b := 4) hY (by decide) (by decide)
    have tu : tn (nI u) = u := tn_nI (by omega)
    refine Ct.of hl (by decide +kernel) (Nat.le_of_ble_eq_true rfl) ?_
    intro p e s mi args below meth c o hnm hr hx
    have o : Ok p l s mi args meth c g cX6_pay 4 RX6 := o
    refine v_lv [(0, .ref m), (1, .int (nI u))] rfl ?_
    have L : ∀ (d j : Nat) (μq : mM), j + d = 288 → RM g m μ0 (uN σ 3 1 0) μq → V p l e { frames := 1, cells := 0, slots := 0, locals := 25 } s mi args below meth c (vx_MQ below (cQc g (wrM g m μ0 (some (.int (sp_pay σ (nI u)).1)) (sp_pay σ (nI u)).2 z)) (cXC g noX) args s ({ frames := 1, cells := 0, slots := 0, locals := 25 } : Room).cells ({ frames := 1, cells := 0, slots := 0, locals := 25 } : Room).slots (gA g)) g μq z 0 0 27 [(0, .ref m), (1, .int (nI u)), (2, .int (nI (cnt (fun k => decide (0 < σ.1 2 (5 * k + u))) j))), (3, .int (nI j))] [] := by
      intro d
      induction d with
      | zero =>
        intro j μq hj hRq
        have hk := hI.2.2.2.1 (5 * j + u); have hcj := cnt_le (fun k => decide (0 < σ.1 2 (5 * k + u))) j
        refine v_iload_n 3 o dX6_pay_27 rfl rfl ?_
        refine v_sipush 288 o dX6_pay_28 (by decide) ?_
        refine v_icmp_ge_n 61 o dX6_pay_31 (by decide) (by omega) (by decide) (fun c31 => ?_) (fun c31 => absurd c31 (by omega))
        refine v_iload_n 2 o dX6_pay_61 rfl rfl ?_
        refine v_aload_n 0 o dX6_pay_62 rfl rfl ?_
        refine v_iload_n 1 o dX6_pay_63 rfl rfl ?_
        refine v_callVr (v := .int (nI (trustN σ u))) [.int (nI u)] [.int (nI (cnt (fun k => decide (0 < σ.1 2 (5 * k + u))) j))] o dX6_pay_64 cw_X6_165 im_X6_trustOf se_X6_trustOf cf6 hRq.o (m_trustOf hl hRq (hI) u (by omega)) rfl rfl (by decide) ⟨rfl, rfl⟩ (by decide) (Nat.le_of_ble_eq_true rfl) ?_
        refine v_imul (nI ((cnt (fun k => decide (0 < σ.1 2 (5 * k + u))) j) * (trustN σ u))) o dX6_pay_67 (pk_mul (cnt (fun k => decide (0 < σ.1 2 (5 * k + u))) j) (trustN σ u)) ?_
        refine v_bipush 10 o dX6_pay_68 (by decide) ?_
        refine v_idiv (nI (((cnt (fun k => decide (0 < σ.1 2 (5 * k + u))) j) * (trustN σ u)) / 10)) o dX6_pay_70 (by decide) (pk_div (by have := Nat.mul_le_mul hcj (trustN_le σ u); omega) (by decide) (by decide)) ?_
        have e9 : sp_pay σ (nI u) = (nI (((cnt (fun k => decide (0 < σ.1 2 (5 * k + u))) j) * (trustN σ u)) / 10), uN σ 3 1 0) := by simp [sp_pay, th, hY, tu, (show j = 288 by omega)]
        exact v_iret o dX6_pay_71 hr (Nat.le_of_ble_eq_true rfl) (Nat.le_of_ble_eq_true rfl) (by rw [e9]; exact ⟨rfl, hRq, rfl⟩)
      | succ d ih =>
        intro j μq hj hRq
        have hk := hI.2.2.2.1 (5 * j + u); have hcj := cnt_le (fun k => decide (0 < σ.1 2 (5 * k + u))) j
        refine v_iload_n 3 o dX6_pay_27 rfl rfl ?_
        refine v_sipush 288 o dX6_pay_28 (by decide) ?_
        refine v_icmp_ge_n 61 o dX6_pay_31 (by decide) (by omega) (by decide) (fun c31 => absurd c31 (by omega)) (fun c31 => ?_)
        refine v_iload_n 2 o dX6_pay_34 rfl rfl ?_
        refine v_aload_n 0 o dX6_pay_35 rfl rfl ?_
        refine v_get (v := .ref (m + 22)) o dX6_pay_36 cf6 25 (by decide) fl_X6_75 hRq.o rfl ?_
        refine v_iconst 5 o dX6_pay_39 rfl ?_
        refine v_iload_n 3 o dX6_pay_40 rfl rfl ?_
        refine v_imul (nI (5 * j)) o dX6_pay_41 (pk_mul 5 j) ?_
        refine v_iload_n 1 o dX6_pay_42 rfl rfl ?_
        refine v_iadd (nI (5 * j + u)) o dX6_pay_43 (nI_add (5 * j) u) ?_
        refine v_iald (nI (σ.1 2 (5 * j + u))) o dX6_pay_44 (by omega) (by decide) hRq.a22 rfl ?_
        refine v_if_le_n 52 o dX6_pay_45 (by decide) (by omega) (fun c45 => ?_) (fun c45 => ?_)
        · refine v_iconst 0 o dX6_pay_52 rfl ?_
          refine v_iadd (nI (cnt (fun k => decide (0 < σ.1 2 (5 * k + u))) j)) o dX6_pay_53 (nI_add (cnt (fun k => decide (0 < σ.1 2 (5 * k + u))) j) 0) ?_
          refine v_istore_n [(2, .int (nI (cnt (fun k => decide (0 < σ.1 2 (5 * k + u))) j))), (0, .ref m), (1, .int (nI u)), (3, .int (nI j))] o dX6_pay_54 rfl (by decide) rfl ?_
          refine v_iinc (nI (j + 1)) [(3, .int (nI (j + 1))), (2, .int (nI (cnt (fun k => decide (0 < σ.1 2 (5 * k + u))) j))), (0, .ref m), (1, .int (nI u))] o dX6_pay_55 3 rfl (iinc_n j 1) (by decide) rfl ?_
          refine v_goto 27 o dX6_pay_58 (by decide) ?_
          refine v_sub [(0, .ref m), (1, .int (nI u)), (2, .int (nI (cnt (fun k => decide (0 < σ.1 2 (5 * k + u))) j))), (3, .int (nI (j + 1)))] [2, 3, 1, 0] rfl ?_
          refine v_lv [(0, .ref m), (1, .int (nI u)), (2, .int (nI (cnt (fun k => decide (0 < σ.1 2 (5 * k + u))) (j + 1)))), (3, .int (nI (j + 1)))] (by rw [cnt_f (f := (fun k => decide (0 < σ.1 2 (5 * k + u)))) (n := j) (by simp [Nat.not_lt.mpr c45])]) ?_
          exact ih (j + 1) _ (by omega) hRq
        · refine v_iconst 1 o dX6_pay_48 rfl ?_
          refine v_goto 53 o dX6_pay_49 (by decide) ?_
          refine v_iadd (nI ((cnt (fun k => decide (0 < σ.1 2 (5 * k + u))) j) + 1)) o dX6_pay_53 (nI_add (cnt (fun k => decide (0 < σ.1 2 (5 * k + u))) j) 1) ?_
          refine v_istore_n [(2, .int (nI ((cnt (fun k => decide (0 < σ.1 2 (5 * k + u))) j) + 1))), (0, .ref m), (1, .int (nI u)), (3, .int (nI j))] o dX6_pay_54 rfl (by decide) rfl ?_
          refine v_iinc (nI (j + 1)) [(3, .int (nI (j + 1))), (2, .int (nI ((cnt (fun k => decide (0 < σ.1 2 (5 * k + u))) j) + 1))), (0, .ref m), (1, .int (nI u))] o dX6_pay_55 3 rfl (iinc_n j 1) (by decide) rfl ?_
          refine v_goto 27 o dX6_pay_58 (by decide) ?_
          refine v_sub [(0, .ref m), (1, .int (nI u)), (2, .int (nI ((cnt (fun k => decide (0 < σ.1 2 (5 * k + u))) j) + 1))), (3, .int (nI (j + 1)))] [2, 3, 1, 0] rfl ?_
          refine v_lv [(0, .ref m), (1, .int (nI u)), (2, .int (nI (cnt (fun k => decide (0 < σ.1 2 (5 * k + u))) (j + 1)))), (3, .int (nI (j + 1)))] (by rw [cnt_t (f := (fun k => decide (0 < σ.1 2 (5 * k + u)))) (n := j) (by simp [Nat.not_le.mp c45])]) ?_
          exact ih (j + 1) _ (by omega) hRq
    refine v_aload_n 0 o dX6_pay_0 rfl rfl ?_
    refine v_iload_n 1 o dX6_pay_1 rfl rfl ?_
    refine v_iconst 0 o dX6_pay_2 rfl ?_
    refine v_iconst 4 o dX6_pay_3 rfl ?_
    refine v_callSr (v := .int (bI (inR (nI u) (nI 0) (nI 4)))) [.int (nI u), .int (nI 0), .int (nI 4)] [.ref m] o dX6_pay_4 cw_X6_97 st_X6_in (m_in hl hR (nI u) (nI 0) (nI 4)) rfl rfl (by decide) ⟨rfl, rfl⟩ (by decide) (Nat.le_of_ble_eq_true rfl) ?_
    refine v_top (bI true) (by rw [hY]) ?_
    refine v_if_eq_b 14 o dX6_pay_7 (by decide) (fun c7 => absurd c7 (by simp_all)) (fun c7 => ?_)
    refine v_iconst 0 o dX6_pay_10 rfl ?_
    refine v_goto 15 o dX6_pay_11 (by decide) ?_
    refine v_callV [.int (nI 0)] [] o dX6_pay_15 cw_X6_109 im_X6_goesWell se_X6_goesWell cf6 hR.o (m_goesWell hl hR 0 (by first | decide | omega)) rfl rfl (by decide) (by decide) (Nat.le_of_ble_eq_true rfl) ?_ (fun _ _ _ _ h => h.elim)
    rintro _ μ2 _ _ ⟨rfl, hR2, rfl⟩
    refine v_st [.int (bI true)] rfl ?_
    refine v_if_ne_b 23 o dX6_pay_18 (by decide) (fun c18 => ?_) (fun c18 => absurd c18 (by simp_all))
    refine v_iconst 0 o dX6_pay_23 rfl ?_
    refine v_istore_n [(2, .int (nI 0)), (0, .ref m), (1, .int (nI u))] o dX6_pay_24 rfl (by decide) rfl ?_
    refine v_iconst 0 o dX6_pay_25 rfl ?_
    refine v_istore_n [(3, .int (nI 0)), (2, .int (nI 0)), (0, .ref m), (1, .int (nI u))] o dX6_pay_26 rfl (by decide) rfl ?_
    refine v_sub [(0, .ref m), (1, .int (nI u)), (2, .int (nI 0)), (3, .int (nI 0))] [2, 3, 1, 0] rfl ?_
    refine v_lv [(0, .ref m), (1, .int (nI u)), (2, .int (nI (cnt (fun k => decide (0 < σ.1 2 (5 * k + u))) 0))), (3, .int (nI 0))] rfl ?_
    exact L 288 0 _ (by omega) hR2

set_option maxRecDepth 100000 in
set_option maxHeartbeats 4000000 in
theorem m_weigh {l : Launch} (hl : l.stackTraces = false) {g : mG} {m z : Nat} {μ0 μ : mM} {σ : Sg} (hR : RM g m μ0 σ μ) (hI : Inv σ) : Ct l g yX6_weigh [Cond.code yX6_weigh cX6_weigh 2 none] { frames := 1, cells := 0, slots := 0, locals := 25 } [.ref m] μ z (wrM g m μ0 none (tst σ 5) z) noX := by
  refine Ct.of hl (by decide +kernel) (Nat.le_of_ble_eq_true rfl) ?_
  intro p e s mi args below meth c o hnm hr hx
  have o : Ok p l s mi args meth c g cX6_weigh 2 RX6 := o
  refine v_lv [(0, .ref m)] rfl ?_
  have hIt : ∀ j, Inv (tst σ j) := fun j => (scr_tst σ j).inv hI
  have L : ∀ (d j : Nat) (μq : mM), j + d = 5 → RM g m μ0 (tst σ j) μq → V p l e { frames := 1, cells := 0, slots := 0, locals := 25 } s mi args below meth c (vx_MQ below (cQc g (wrM g m μ0 none (tst σ 5) z)) (cXC g noX) args s ({ frames := 1, cells := 0, slots := 0, locals := 25 } : Room).cells ({ frames := 1, cells := 0, slots := 0, locals := 25 } : Room).slots (gA g)) g μq z 0 0 2 [(0, .ref m), (1, .int (nI j))] [] := by
    intro d
    induction d with
    | zero =>
      intro j μq hj hRq
      refine v_iload_n 1 o dX6_weigh_2 rfl rfl ?_
      refine v_iconst 5 o dX6_weigh_3 rfl ?_
      refine v_icmp_ge_n 24 o dX6_weigh_4 (by decide) (by omega) (by decide) (fun c4 => ?_) (fun c4 => absurd c4 (by omega))
      exact v_vret o dX6_weigh_24 hr (Nat.le_of_ble_eq_true rfl) (Nat.le_of_ble_eq_true rfl) ⟨rfl, by rw [← show j = 5 by omega]; exact hRq, rfl⟩
    | succ d ih =>
      intro j μq hj hRq
      refine v_iload_n 1 o dX6_weigh_2 rfl rfl ?_
      refine v_iconst 5 o dX6_weigh_3 rfl ?_
      refine v_icmp_ge_n 24 o dX6_weigh_4 (by decide) (by omega) (by decide) (fun c4 => absurd c4 (by omega)) (fun c4 => ?_)
      refine v_aload_n 0 o dX6_weigh_7 rfl rfl ?_
      refine v_get (v := .ref (m + 23)) o dX6_weigh_8 cf6 26 (by decide) fl_X6_78 hRq.o rfl ?_
      refine v_iload_n 1 o dX6_weigh_11 rfl rfl ?_
      refine v_aload_n 0 o dX6_weigh_12 rfl rfl ?_
      refine v_iload_n 1 o dX6_weigh_13 rfl rfl ?_
      refine v_callVr (v := .int (nI (trustN (tst σ j) j))) [.int (nI j)] [.int (nI j), .ref (m + 23)] o dX6_weigh_14 cw_X6_165 im_X6_trustOf se_X6_trustOf cf6 hRq.o (m_trustOf hl hRq (hIt j) j (by omega)) rfl rfl (by decide) ⟨rfl, rfl⟩ (by decide) (Nat.le_of_ble_eq_true rfl) ?_
      refine v_top (nI (trustN σ j)) (by rw [trustN_congr (tst_k σ (by decide) j) (tst_k σ (by decide) j)]) ?_
      refine v_iast o dX6_weigh_17 (by omega) (by decide) hRq.a23 (fun μ1 e1 => ?_)
      have hR1 := hRq.p23 (i0 := j) (v := trustN σ j) e1
      refine v_iinc (nI (j + 1)) [(1, .int (nI (j + 1))), (0, .ref m)] o dX6_weigh_18 1 rfl (iinc_n j 1) (by decide) rfl ?_
      refine v_goto 2 o dX6_weigh_21 (by decide) ?_
      refine v_sub [(0, .ref m), (1, .int (nI (j + 1)))] [1, 0] rfl ?_
      exact ih (j + 1) _ (by omega) hR1
  refine v_iconst 0 o dX6_weigh_0 rfl ?_
  refine v_istore_n [(1, .int (nI 0)), (0, .ref m)] o dX6_weigh_1 rfl (by decide) rfl ?_
  refine v_sub [(0, .ref m), (1, .int (nI 0))] [1, 0] rfl ?_
  exact L 5 0 _ (by omega) hR

set_option maxRecDepth 100000 in
set_option maxHeartbeats 4000000 in
theorem m_weight {l : Launch} (hl : l.stackTraces = false) {g : mG} {m z : Nat} {μ0 μ : mM} {σ : Sg} (hR : RM g m μ0 σ μ) (hI : Inv σ) (hT : ∀ w, w < 5 → σ.1 4 w = trustN σ w) (k x : Nat) (hk : k < 288) (hx : x ≤ 26) : Ct l g yX6_weight [Cond.code yX6_weight cX6_weight 5 (some .int)] { frames := 0, cells := 0, slots := 0, locals := 0 } [.ref m, .int (nI k), .int (nI x)] μ z (rdP (some (.int (mI (wgt σ k x 5)))) μ z) noX := by
  refine Ct.of hl (by decide +kernel) (Nat.le_of_ble_eq_true rfl) ?_
  intro p e s mi args below meth c o hnm hr hx
  have o : Ok p l s mi args meth c g cX6_weight 5 RX6 := o
  refine v_lv [(0, .ref m), (1, .int (nI k)), (2, .int (nI x))] rfl ?_
  have L : ∀ d j, j + d = 5 → V p l e { frames := 0, cells := 0, slots := 0, locals := 0 } s mi args below meth c (vx_MQ below (cQc g (rdP (some (.int (mI (wgt σ k x 5)))) μ z)) (cXC g noX) args s ({ frames := 0, cells := 0, slots := 0, locals := 0 } : Room).cells ({ frames := 0, cells := 0, slots := 0, locals := 0 } : Room).slots (gA g)) g μ z 0 0 5 [(0, .ref m), (1, .int (nI k)), (2, .int (nI x)), (3, .int (mI (wgt σ k x j))), (4, .int (nI j))] [] := by
    intro d
    induction d with
    | zero =>
      intro j hj
      have hkk := hI.2.2.2.1 (5 * k + j); have hwl := wgt_le σ k x j
      refine v_iload 4 o dX6_weight_5 rfl ?_
      refine v_iconst 5 o dX6_weight_7 rfl ?_
      refine v_icmp_ge_n 57 o dX6_weight_8 (by decide) (by omega) (by decide) (fun c8 => ?_) (fun c8 => absurd c8 (by omega))
      refine v_iload_n 3 o dX6_weight_57 rfl rfl ?_
      exact v_iret o dX6_weight_58 hr (Nat.le_of_ble_eq_true rfl) (Nat.le_of_ble_eq_true rfl) ⟨by rw [show j = 5 by omega], rfl, rfl⟩
    | succ d ih =>
      intro j hj
      have hkk := hI.2.2.2.1 (5 * k + j); have hwl := wgt_le σ k x j
      refine v_iload 4 o dX6_weight_5 rfl ?_
      refine v_iconst 5 o dX6_weight_7 rfl ?_
      refine v_icmp_ge_n 57 o dX6_weight_8 (by decide) (by omega) (by decide) (fun c8 => absurd c8 (by omega)) (fun c8 => ?_)
      refine v_iload_n 3 o dX6_weight_11 rfl rfl ?_
      refine v_aload_n 0 o dX6_weight_12 rfl rfl ?_
      refine v_get (v := .ref (m + 22)) o dX6_weight_13 cf6 25 (by decide) fl_X6_75 hR.o rfl ?_
      refine v_iconst 5 o dX6_weight_16 rfl ?_
      refine v_iload_n 1 o dX6_weight_17 rfl rfl ?_
      refine v_imul (nI (5 * k)) o dX6_weight_18 (pk_mul 5 k) ?_
      refine v_iload 4 o dX6_weight_19 rfl ?_
      refine v_iadd (nI (5 * k + j)) o dX6_weight_21 (nI_add (5 * k) j) ?_
      refine v_iald (nI (σ.1 2 (5 * k + j))) o dX6_weight_22 (by omega) (by decide) hR.a22 rfl ?_
      refine v_iload_n 2 o dX6_weight_23 rfl rfl ?_
      refine v_icmp_ne_n 48 o dX6_weight_24 (by decide) (by omega) (by omega) (fun c24 => ?_) (fun c24 => ?_)
      · refine v_iconst 0 o dX6_weight_48 rfl ?_
        refine v_iadd ((mI (wgt σ k x j)) + (nI 0)) o dX6_weight_49 rfl ?_
        refine v_istore_n [(3, .int ((mI (wgt σ k x j)) + (nI 0))), (0, .ref m), (1, .int (nI k)), (2, .int (nI x)), (4, .int (nI j))] o dX6_weight_50 rfl (by decide) rfl ?_
        refine v_iinc (nI (j + 1)) [(4, .int (nI (j + 1))), (3, .int ((mI (wgt σ k x j)) + (nI 0))), (0, .ref m), (1, .int (nI k)), (2, .int (nI x))] o dX6_weight_51 4 rfl (iinc_n j 1) (by decide) rfl ?_
        refine v_goto 5 o dX6_weight_54 (by decide) ?_
        refine v_sub [(0, .ref m), (1, .int (nI k)), (2, .int (nI x)), (3, .int ((mI (wgt σ k x j)) + (nI 0))), (4, .int (nI (j + 1)))] [2, 3, 4, 1, 0] rfl ?_
        refine v_lv [(0, .ref m), (1, .int (nI k)), (2, .int (nI x)), (3, .int (mI (wgt σ k x (j + 1)))), (4, .int (nI (j + 1)))] (by rw [show wgt σ k x (j + 1) = wgt σ k x j from if_neg c24, show nI 0 = 0 from rfl, Int32.add_zero]) ?_
        exact ih (j + 1) (by omega)
      · refine v_aload_n 0 o dX6_weight_27 rfl rfl ?_
        refine v_get (v := .ref (m + 23)) o dX6_weight_28 cf6 26 (by decide) fl_X6_78 hR.o rfl ?_
        refine v_iload 4 o dX6_weight_31 rfl ?_
        refine v_iald (nI (σ.1 4 j)) o dX6_weight_33 (by omega) (by decide) hR.a23 rfl ?_
        refine v_iload_n 3 o dX6_weight_34 rfl rfl ?_
        refine v_iconst_i (-1) o dX6_weight_35 (by decide) ?_
        refine v_icmp_ne 43 o dX6_weight_36 (by decide) (fun c36 => ?_) (fun c36 => ?_)
        · refine v_iconst 0 o dX6_weight_43 rfl ?_
          refine v_iadd (nI (σ.1 4 j + 0)) o dX6_weight_44 (nI_add _ _) ?_
          refine v_goto 49 o dX6_weight_45 (by decide) ?_
          refine v_iadd ((mI (wgt σ k x j)) + (nI (σ.1 4 j + 0))) o dX6_weight_49 rfl ?_
          refine v_istore_n [(3, .int ((mI (wgt σ k x j)) + (nI (σ.1 4 j + 0)))), (0, .ref m), (1, .int (nI k)), (2, .int (nI x)), (4, .int (nI j))] o dX6_weight_50 rfl (by decide) rfl ?_
          refine v_iinc (nI (j + 1)) [(4, .int (nI (j + 1))), (3, .int ((mI (wgt σ k x j)) + (nI (σ.1 4 j + 0)))), (0, .ref m), (1, .int (nI k)), (2, .int (nI x))] o dX6_weight_51 4 rfl (iinc_n j 1) (by decide) rfl ?_
          refine v_goto 5 o dX6_weight_54 (by decide) ?_
          refine v_sub [(0, .ref m), (1, .int (nI k)), (2, .int (nI x)), (3, .int ((mI (wgt σ k x j)) + (nI (σ.1 4 j + 0)))), (4, .int (nI (j + 1)))] [2, 3, 4, 1, 0] rfl ?_
          refine v_lv [(0, .ref m), (1, .int (nI k)), (2, .int (nI x)), (3, .int (mI (wgt σ k x (j + 1)))), (4, .int (nI (j + 1)))] (by rw [mI_add, show wgt σ k x (j + 1) = wgt σ k x j + (σ.1 4 j + 0) from by rw [← Nat.add_assoc, hT j (by omega)]; show (if _ then _ else _) = _; rw [if_pos c24, if_neg (fun q => c36 ((mI_ne (by omega)).mpr q))]]) ?_
          exact ih (j + 1) (by omega)
        · refine v_iconst 1 o dX6_weight_39 rfl ?_
          refine v_goto 44 o dX6_weight_40 (by decide) ?_
          refine v_iadd (nI (σ.1 4 j + 1)) o dX6_weight_44 (nI_add _ _) ?_
          refine v_goto 49 o dX6_weight_45 (by decide) ?_
          refine v_iadd ((mI (wgt σ k x j)) + (nI (σ.1 4 j + 1))) o dX6_weight_49 rfl ?_
          refine v_istore_n [(3, .int ((mI (wgt σ k x j)) + (nI (σ.1 4 j + 1)))), (0, .ref m), (1, .int (nI k)), (2, .int (nI x)), (4, .int (nI j))] o dX6_weight_50 rfl (by decide) rfl ?_
          refine v_iinc (nI (j + 1)) [(4, .int (nI (j + 1))), (3, .int ((mI (wgt σ k x j)) + (nI (σ.1 4 j + 1)))), (0, .ref m), (1, .int (nI k)), (2, .int (nI x))] o dX6_weight_51 4 rfl (iinc_n j 1) (by decide) rfl ?_
          refine v_goto 5 o dX6_weight_54 (by decide) ?_
          refine v_sub [(0, .ref m), (1, .int (nI k)), (2, .int (nI x)), (3, .int ((mI (wgt σ k x j)) + (nI (σ.1 4 j + 1)))), (4, .int (nI (j + 1)))] [2, 3, 4, 1, 0] rfl ?_
          refine v_lv [(0, .ref m), (1, .int (nI k)), (2, .int (nI x)), (3, .int (mI (wgt σ k x (j + 1)))), (4, .int (nI (j + 1)))] (by rw [mI_add, show wgt σ k x (j + 1) = wgt σ k x j + (σ.1 4 j + 1) from by rw [← Nat.add_assoc, hT j (by omega)]; show (if _ then _ else _) = _; rw [if_pos c24, if_pos ((mI_ne (by omega)).mp c36)]]) ?_
          exact ih (j + 1) (by omega)
  refine v_iconst_i (-1) o dX6_weight_0 (by decide) ?_
  refine v_istore_n [(3, .int (-1)), (0, .ref m), (1, .int (nI k)), (2, .int (nI x))] o dX6_weight_1 rfl (by decide) rfl ?_
  refine v_iconst 0 o dX6_weight_2 rfl ?_
  refine v_istore [(4, .int (nI 0)), (3, .int (-1)), (0, .ref m), (1, .int (nI k)), (2, .int (nI x))] o dX6_weight_3 (by decide) rfl ?_
  refine v_sub [(0, .ref m), (1, .int (nI k)), (2, .int (nI x)), (3, .int (-1)), (4, .int (nI 0))] [2, 3, 4, 1, 0] rfl ?_
  refine v_lv [(0, .ref m), (1, .int (nI k)), (2, .int (nI x)), (3, .int (mI (wgt σ k x 0))), (4, .int (nI 0))] rfl ?_
  exact L (5) 0 (by omega)

