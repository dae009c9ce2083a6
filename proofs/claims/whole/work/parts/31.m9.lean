theorem scr.tr {σ τ ρ : Sg} (h : scr σ τ) (q : scr τ ρ) : scr σ ρ := ⟨fun k a b => (h.1 k a b).trans (q.1 k a b), fun k a => (h.2.1 k a).trans (q.2.1 k a), h.2.2.1.trans q.2.2.1, fun k a => (h.2.2.2 k a).trans (q.2.2.2 k a)⟩
theorem scr.L {σ τ : Sg} (h : scr τ σ) (k i : Nat) (v : Int64) (hk : 2 ≤ k) : scr (uL τ k i v) σ := ⟨h.1, h.2.1, h.2.2.1, fun k2 h2 => by
  rw [← h.2.2.2 k2 h2]
  funext x
  exact u2_k (by omega)⟩
theorem scr.B {σ τ : Sg} (h : scr τ σ) (i : Nat) (v : Bool) : scr (uB τ 7 i v) σ := ⟨h.1, fun k2 h2 => by
  rw [← h.2.1 k2 h2]
  funext x
  exact u2_k (by omega), h.2.2.1, h.2.2.2⟩
theorem scr.N {σ τ : Sg} (h : scr τ σ) (k i v : Nat) : scr (uN τ k i v) (uN σ k i v) := ⟨fun k2 h2 h3 => by
  funext x
  show u2 τ.1 k i v k2 x = u2 σ.1 k i v k2 x
  unfold u2
  rw [h.1 k2 h2 h3], h.2.1, h.2.2.1, h.2.2.2⟩
/-- leaves below j are laid -/
def ly1 (σ : Sg) (v b j : Nat) (τ : Sg) : Prop := scr τ σ ∧ ∀ k, k < j → τ.2.2.2 2 (15 + k) = leafB σ b k ∧ τ.2.2.2 3 (15 + k) = leafV σ v b k
theorem ly1_0 {σ : Sg} {v b : Nat} : ly1 σ v b 0 σ := ⟨scr.rf, fun k h => absurd h (by omega)⟩
theorem ly1_s {σ τ : Sg} {v b j : Nat} {x y : Int64} (h : ly1 σ v b j τ) (hx : x = leafB σ b j) (hy : y = leafV σ v b j) : ly1 σ v b (j + 1) (uL (uL τ 2 (15 + j) x) 3 (15 + j) y) := by
  refine ⟨(h.1.L 2 _ _ (by decide)).L 3 _ _ (by decide), fun k hk => ?_⟩
  by_cases e : k = j
  · subst e
    refine ⟨?_, ?_⟩
    · show u2 (u2 τ.2.2.2 2 (15 + k) x) 3 (15 + k) y 2 (15 + k) = _
      rw [u2_k (by decide), u2_s, hx]
    · show u2 (u2 τ.2.2.2 2 (15 + k) x) 3 (15 + k) y 3 (15 + k) = _
      rw [u2_s, hy]
  · have h2 := h.2 k (by omega)
    refine ⟨?_, ?_⟩
    · show u2 (u2 τ.2.2.2 2 (15 + j) x) 3 (15 + j) y 2 (15 + k) = _
      rw [u2_k (by decide), u2_i (by omega)]
      exact h2.1
    · show u2 (u2 τ.2.2.2 2 (15 + j) x) 3 (15 + j) y 3 (15 + k) = _
      rw [u2_i (by omega), u2_k (by decide)]
      exact h2.2
/-- nodes from j on are laid -/
def ly2 (σ : Sg) (v b j : Nat) (τ : Sg) : Prop := scr τ σ ∧ ∀ k, j ≤ k → k < 31 → τ.2.2.2 2 k = trn (leafB σ b) 4 k ∧ τ.2.2.2 3 k = trn (leafV σ v b) 4 k
theorem trn_leaf (f : Nat → Int64) {k : Nat} (h : 15 ≤ k) : ∀ d, trn f d k = f (k - 15)
  | 0 => rfl
  | d + 1 => if_pos h
theorem trn_up (f : Nat → Int64) : ∀ d k, 15 < (k + 1) * 2 ^ d → trn f (d + 1) k = trn f d k
  | 0, k, h => trn_leaf f (by omega) 1
  | d + 1, k, h => by
    by_cases e : 15 ≤ k
    · rw [trn_leaf f e, trn_leaf f e]
    · have e1 : trn f (d + 2) k = 31 * trn f (d + 1) (2 * k + 1) + trn f (d + 1) (2 * k + 2) := if_neg e
      have e2 : trn f (d + 1) k = 31 * trn f d (2 * k + 1) + trn f d (2 * k + 2) := if_neg e
      have h2 : 15 < (k + 1) * (2 * 2 ^ d) := by rw [← Nat.pow_succ']; exact h
      have h3 : (2 * k + 1 + 1) * 2 ^ d = (k + 1) * (2 * 2 ^ d) := by
        rw [← Nat.mul_assoc]
        congr 1
        omega
      have h4 : (2 * k + 1 + 1) * 2 ^ d ≤ (2 * k + 2 + 1) * 2 ^ d := Nat.mul_le_mul_right _ (by omega)
      rw [e1, e2, trn_up f d (2 * k + 1) (by omega), trn_up f d (2 * k + 2) (by omega)]
theorem iinc_m1 (n : Nat) : nI n + Int32.ofInt (-1) = mI n := by
  unfold mI
  rw [Int32.sub_eq_add_neg]
  rfl
theorem trn_node (f : Nat → Int64) {k : Nat} (h : k < 15) : trn f 4 k = 31 * trn f 4 (2 * k + 1) + trn f 4 (2 * k + 2) := by
  have e : trn f 4 k = 31 * trn f 3 (2 * k + 1) + trn f 3 (2 * k + 2) := if_neg (by omega)
  rw [e, ← trn_up f 3 (2 * k + 1) (by omega), ← trn_up f 3 (2 * k + 2) (by omega)]
theorem ly2_0 {σ τ : Sg} {v b : Nat} (h : ly1 σ v b 16 τ) : ly2 σ v b 15 τ := ⟨h.1, fun k h1 h2 => by
  have h3 := h.2 (k - 15) (by omega)
  rw [show 15 + (k - 15) = k by omega] at h3
  rw [trn_leaf _ h1, trn_leaf _ h1]
  exact h3⟩
theorem ly2_s {σ τ : Sg} {v b j : Nat} {x y : Int64} (h : ly2 σ v b (j + 1) τ) (hj : j < 15) (hx : x = 31 * τ.2.2.2 2 (2 * j + 1) + τ.2.2.2 2 (2 * j + 2)) (hy : y = 31 * τ.2.2.2 3 (2 * j + 1) + τ.2.2.2 3 (2 * j + 2)) : ly2 σ v b j (uL (uL τ 2 j x) 3 j y) := by
  refine ⟨(h.1.L 2 _ _ (by decide)).L 3 _ _ (by decide), fun k h1 h2 => ?_⟩
  by_cases e : k = j
  · subst e
    have a1 := h.2 (2 * k + 1) (by omega) (by omega)
    have a2 := h.2 (2 * k + 2) (by omega) (by omega)
    refine ⟨?_, ?_⟩
    · show u2 (u2 τ.2.2.2 2 k x) 3 k y 2 k = _
      rw [u2_k (by decide), u2_s, hx, trn_node _ hj, a1.1, a2.1]
    · show u2 (u2 τ.2.2.2 2 k x) 3 k y 3 k = _
      rw [u2_s, hy, trn_node _ hj, a1.2, a2.2]
  · have a1 := h.2 k (by omega) h2
    refine ⟨?_, ?_⟩
    · show u2 (u2 τ.2.2.2 2 j x) 3 j y 2 k = _
      rw [u2_k (by decide), u2_i e]
      exact a1.1
    · show u2 (u2 τ.2.2.2 2 j x) 3 j y 3 k = _
      rw [u2_i e, u2_k (by decide)]
      exact a1.2
theorem seenF_up (ne : Nat → Bool) : ∀ d k, k + 1 < 2 ^ (d + 1) → seenF ne (d + 1) k = seenF ne d k
  | 0, k, h => by
    have : k = 0 := by omega
    subst this
    rfl
  | d + 1, k, h => by
    show (decide (k = 0) || (seenF ne (d + 1) ((k - 1) / 2) && ne ((k - 1) / 2))) = (decide (k = 0) || (seenF ne d ((k - 1) / 2) && ne ((k - 1) / 2)))
    by_cases e : k = 0
    · subst e
      rfl
    · rw [seenF_up ne d ((k - 1) / 2) (by rw [Nat.pow_succ] at h; omega)]
theorem seenB_s (σ : Sg) (v b k : Nat) (h : k < 31) : seenB σ v b k = (decide (k = 0) || (seenB σ v b ((k - 1) / 2) && neB σ v b ((k - 1) / 2))) := by
  unfold seenB
  show (decide (k = 0) || (seenF _ 4 ((k - 1) / 2) && _)) = _
  rw [seenF_up _ 4 ((k - 1) / 2) (by omega)]
theorem mI_half {j : Nat} (h : j < 2 ^ 30) : mI j / nI 2 = nI ((j - 1) / 2) := by
  cases j with
  | zero => decide
  | succ j =>
    rw [mI_s, pk_div (by omega) (by decide) (by decide)]
    rfl
set_option maxRecDepth 100000 in
set_option maxHeartbeats 4000000 in
theorem m_layTrees {l : Launch} (hl : l.stackTraces = false) {g : mG} {m z : Nat} {μ0 μ : mM} {σ : Sg} (hR : RM g m μ0 σ μ) (hI : Inv σ) (v b : Nat) (hv : v < 4) (hb : b < 6) : Ct l g yX6_layTrees [Cond.code yX6_layTrees cX6_layTrees 6 none] { frames := 1, cells := 0, slots := 0, locals := 21 } [.ref m, .int (nI v), .int (nI b)] μ z (fun r μ' z' => r = none ∧ (∃ τ, ly2 σ v b 0 τ ∧ RM g m μ0 τ μ') ∧ z = z') noX := by
  refine Ct.of hl (by decide +kernel) (Nat.le_of_ble_eq_true rfl) ?_
  intro p e s mi args below meth c o hnm hr hx
  have o : Ok p l s mi args meth c g cX6_layTrees 6 RX6 := o
  refine v_lv [(0, .ref m), (1, .int (nI v)), (2, .int (nI b))] rfl ?_
  have h12 := hI.2.1 b
  have L2 : ∀ (j : Nat) (τ : Sg) (μq : mM), j ≤ 15 → ly2 σ v b j τ → RM g m μ0 τ μq → V p l e { frames := 1, cells := 0, slots := 0, locals := 21 } s mi args below meth c (vx_MQ below (cQc g (fun r μ' z' => r = none ∧ (∃ τ, ly2 σ v b 0 τ ∧ RM g m μ0 τ μ') ∧ z = z')) (cXC g noX) args s ({ frames := 1, cells := 0, slots := 0, locals := 21 } : Room).cells ({ frames := 1, cells := 0, slots := 0, locals := 21 } : Room).slots (gA g)) g μq z 0 0 128 [(0, .ref m), (1, .int (nI v)), (2, .int (nI b)), (3, .int (mI j))] [] := by
    intro j
    induction j with
    | zero =>
      intro τ μq hj hL hRq
      refine v_iload_n 3 o dX6_layTrees_128 rfl rfl ?_
      refine v_if_lt 200 o dX6_layTrees_129 (by decide) (fun c129 => ?_) (fun c129 => absurd c129 (not_not_intro (by decide)))
      exact v_vret o dX6_layTrees_200 hr (Nat.le_of_ble_eq_true rfl) (Nat.le_of_ble_eq_true rfl) ⟨rfl, ⟨_, hL, hRq⟩, rfl⟩
    | succ j ih =>
      intro τ μq hj hL hRq
      refine v_lv [(0, .ref m), (1, .int (nI v)), (2, .int (nI b)), (3, .int (nI j))] (by rw [mI_s]) ?_
      refine v_iload_n 3 o dX6_layTrees_128 rfl rfl ?_
      refine v_if_lt_n 200 o dX6_layTrees_129 (by decide) (by omega) (fun c129 => absurd c129 (Nat.not_lt_zero _)) (fun c129 => ?_)
      refine v_aload_n 0 o dX6_layTrees_132 rfl rfl ?_
      refine v_get (v := .ref (m + 18)) o dX6_layTrees_133 cf6 20 (by decide) fl_X6_63 hRq.o rfl ?_
      refine v_iload_n 3 o dX6_layTrees_136 rfl rfl ?_
      refine v_ldc2 (31) o dX6_layTrees_137 ct_X6_133 ?_
      refine v_aload_n 0 o dX6_layTrees_140 rfl rfl ?_
      refine v_get (v := .ref (m + 18)) o dX6_layTrees_141 cf6 20 (by decide) fl_X6_63 hRq.o rfl ?_
      refine v_iconst 2 o dX6_layTrees_144 rfl ?_
      refine v_iload_n 3 o dX6_layTrees_145 rfl rfl ?_
      refine v_imul (nI (2 * j)) o dX6_layTrees_146 (pk_mul 2 j) ?_
      refine v_iconst 1 o dX6_layTrees_147 rfl ?_
      refine v_iadd (nI (2 * j + 1)) o dX6_layTrees_148 (nI_add (2 * j) 1) ?_
      refine v_lald (τ.2.2.2 2 (2 * j + 1)) o dX6_layTrees_149 (by omega) (by decide) hRq.a18 rfl ?_
      refine v_lmul (31 * (τ.2.2.2 2 (2 * j + 1))) o dX6_layTrees_150 rfl ?_
      refine v_aload_n 0 o dX6_layTrees_151 rfl rfl ?_
      refine v_get (v := .ref (m + 18)) o dX6_layTrees_152 cf6 20 (by decide) fl_X6_63 hRq.o rfl ?_
      refine v_iconst 2 o dX6_layTrees_155 rfl ?_
      refine v_iload_n 3 o dX6_layTrees_156 rfl rfl ?_
      refine v_imul (nI (2 * j)) o dX6_layTrees_157 (pk_mul 2 j) ?_
      refine v_iconst 2 o dX6_layTrees_158 rfl ?_
      refine v_iadd (nI (2 * j + 2)) o dX6_layTrees_159 (nI_add (2 * j) 2) ?_
      refine v_lald (τ.2.2.2 2 (2 * j + 2)) o dX6_layTrees_160 (by omega) (by decide) hRq.a18 rfl ?_
      refine v_ladd ((31 * (τ.2.2.2 2 (2 * j + 1))) + (τ.2.2.2 2 (2 * j + 2))) o dX6_layTrees_161 rfl ?_
      refine v_last o dX6_layTrees_162 (by omega) (by decide) hRq.a18 (fun μ1 e1 => ?_)
      have hR1 := hRq.p18 (i0 := j) (v := (31 * (τ.2.2.2 2 (2 * j + 1))) + (τ.2.2.2 2 (2 * j + 2))) e1
      refine v_aload_n 0 o dX6_layTrees_163 rfl rfl ?_
      refine v_get (v := .ref (m + 19)) o dX6_layTrees_164 cf6 21 (by decide) fl_X6_66 hR1.o rfl ?_
      refine v_iload_n 3 o dX6_layTrees_167 rfl rfl ?_
      refine v_ldc2 (31) o dX6_layTrees_168 ct_X6_133 ?_
      refine v_aload_n 0 o dX6_layTrees_171 rfl rfl ?_
      refine v_get (v := .ref (m + 19)) o dX6_layTrees_172 cf6 21 (by decide) fl_X6_66 hR1.o rfl ?_
      refine v_iconst 2 o dX6_layTrees_175 rfl ?_
      refine v_iload_n 3 o dX6_layTrees_176 rfl rfl ?_
      refine v_imul (nI (2 * j)) o dX6_layTrees_177 (pk_mul 2 j) ?_
      refine v_iconst 1 o dX6_layTrees_178 rfl ?_
      refine v_iadd (nI (2 * j + 1)) o dX6_layTrees_179 (nI_add (2 * j) 1) ?_
      refine v_lald (τ.2.2.2 3 (2 * j + 1)) o dX6_layTrees_180 (by omega) (by decide) hR1.a19 rfl ?_
      refine v_lmul (31 * (τ.2.2.2 3 (2 * j + 1))) o dX6_layTrees_181 rfl ?_
      refine v_aload_n 0 o dX6_layTrees_182 rfl rfl ?_
      refine v_get (v := .ref (m + 19)) o dX6_layTrees_183 cf6 21 (by decide) fl_X6_66 hR1.o rfl ?_
      refine v_iconst 2 o dX6_layTrees_186 rfl ?_
      refine v_iload_n 3 o dX6_layTrees_187 rfl rfl ?_
      refine v_imul (nI (2 * j)) o dX6_layTrees_188 (pk_mul 2 j) ?_
      refine v_iconst 2 o dX6_layTrees_189 rfl ?_
      refine v_iadd (nI (2 * j + 2)) o dX6_layTrees_190 (nI_add (2 * j) 2) ?_
      refine v_lald (τ.2.2.2 3 (2 * j + 2)) o dX6_layTrees_191 (by omega) (by decide) hR1.a19 rfl ?_
      refine v_ladd ((31 * (τ.2.2.2 3 (2 * j + 1))) + (τ.2.2.2 3 (2 * j + 2))) o dX6_layTrees_192 rfl ?_
      refine v_last o dX6_layTrees_193 (by omega) (by decide) hR1.a19 (fun μ2 e2 => ?_)
      have hR2 := hR1.p19 (i0 := j) (v := (31 * (τ.2.2.2 3 (2 * j + 1))) + (τ.2.2.2 3 (2 * j + 2))) e2
      refine v_iinc (mI j) [(3, .int (mI j)), (0, .ref m), (1, .int (nI v)), (2, .int (nI b))] o dX6_layTrees_194 3 rfl (iinc_m1 j) (by decide) rfl ?_
      refine v_goto 128 o dX6_layTrees_197 (by decide) ?_
      refine v_sub [(0, .ref m), (1, .int (nI v)), (2, .int (nI b)), (3, .int (mI j))] [1, 2, 3, 0] rfl ?_
      exact ih _ _ (by omega) (ly2_s hL (by omega) rfl (by first | rfl | simp [uL, u2_k])) hR2
  have L1 : ∀ (d j : Nat) (τ : Sg) (μq : mM), j + d = 16 → ly1 σ v b j τ → RM g m μ0 τ μq → V p l e { frames := 1, cells := 0, slots := 0, locals := 21 } s mi args below meth c (vx_MQ below (cQc g (fun r μ' z' => r = none ∧ (∃ τ, ly2 σ v b 0 τ ∧ RM g m μ0 τ μ') ∧ z = z')) (cXC g noX) args s ({ frames := 1, cells := 0, slots := 0, locals := 21 } : Room).cells ({ frames := 1, cells := 0, slots := 0, locals := 21 } : Room).slots (gA g)) g μq z 0 0 2 [(0, .ref m), (1, .int (nI v)), (2, .int (nI b)), (3, .int (nI j))] [] := by
    intro d
    induction d with
    | zero =>
      intro j τ μq hj hL hRq
      have hp : τ.1 0 b = σ.1 0 b := congrFun (hL.1.1 0 (by decide) (by decide)) b
      refine v_iload_n 3 o dX6_layTrees_2 rfl rfl ?_
      refine v_bipush 16 o dX6_layTrees_3 (by decide) ?_
      refine v_icmp_ge_n 125 o dX6_layTrees_5 (by decide) (by omega) (by decide) (fun c5 => ?_) (fun c5 => absurd c5 (by omega))
      refine v_bipush 14 o dX6_layTrees_125 (by decide) ?_
      refine v_istore_n [(3, .int (nI 14)), (0, .ref m), (1, .int (nI v)), (2, .int (nI b))] o dX6_layTrees_127 rfl (by decide) rfl ?_
      refine v_sub [(0, .ref m), (1, .int (nI v)), (2, .int (nI b)), (3, .int (nI 14))] [1, 2, 3, 0] rfl ?_
      refine v_lv [(0, .ref m), (1, .int (nI v)), (2, .int (nI b)), (3, .int (mI 15))] (by rw [show mI 15 = nI 14 from mI_s 14]) ?_
      exact L2 15 _ _ (by decide) (ly2_0 (by rw [← show j = 16 by omega]; exact hL)) hRq
    | succ d ih =>
      intro j τ μq hj hL hRq
      have hp : τ.1 0 b = σ.1 0 b := congrFun (hL.1.1 0 (by decide) (by decide)) b
      refine v_iload_n 3 o dX6_layTrees_2 rfl rfl ?_
      refine v_bipush 16 o dX6_layTrees_3 (by decide) ?_
      refine v_icmp_ge_n 125 o dX6_layTrees_5 (by decide) (by omega) (by decide) (fun c5 => absurd c5 (by omega)) (fun c5 => ?_)
      refine v_bipush 12 o dX6_layTrees_8 (by decide) ?_
      refine v_iload_n 2 o dX6_layTrees_10 rfl rfl ?_
      refine v_imul (nI (12 * b)) o dX6_layTrees_11 (pk_mul 12 b) ?_
      refine v_iload_n 3 o dX6_layTrees_12 rfl rfl ?_
      refine v_iadd (nI (12 * b + j)) o dX6_layTrees_13 (nI_add (12 * b) j) ?_
      refine v_istore [(4, .int (nI (12 * b + j))), (0, .ref m), (1, .int (nI v)), (2, .int (nI b)), (3, .int (nI j))] o dX6_layTrees_14 (by decide) rfl ?_
      refine v_iload_n 4 o dX6_layTrees_16 rfl rfl ?_
      refine v_aload_n 1 o dX6_layTrees_17 rfl rfl ?_
      refine v_get (v := .ref (m + 1)) o dX6_layTrees_18 cf6 2 (by decide) fl_X6_7 hRq.o rfl ?_
      refine v_iload_n 3 o dX6_layTrees_21 rfl rfl ?_
      refine v_iald (nI (τ.1 0 b)) o dX6_layTrees_22 (by omega) (by decide) hRq.a1 rfl ?_
      refine v_icmp_ge_n 30 o dX6_layTrees_23 (by decide) (by omega) (by omega) (fun c23 => ?_) (fun c23 => ?_)
      · refine v_iconst 0 o dX6_layTrees_30 rfl ?_
        refine v_istore [(5, .int (nI 0)), (4, .int (nI (12 * b + j))), (0, .ref m), (1, .int (nI v)), (2, .int (nI b)), (3, .int (nI j))] o dX6_layTrees_31 (by decide) rfl ?_
        refine v_aload_n 2 o dX6_layTrees_33 rfl rfl ?_
        refine v_get (v := .ref (m + 18)) o dX6_layTrees_34 cf6 20 (by decide) fl_X6_63 hRq.o rfl ?_
        refine v_bipush 15 o dX6_layTrees_37 (by decide) ?_
        refine v_iload_n 5 o dX6_layTrees_39 rfl rfl ?_
        refine v_iadd (nI (15 + j)) o dX6_layTrees_40 (nI_add 15 j) ?_
        refine v_iload 0 o dX6_layTrees_41 rfl ?_
        refine v_if_eq_n 69 o dX6_layTrees_43 (by decide) (by decide) (fun c43 => ?_) (fun c43 => absurd c43 (by omega))
        refine v_lconst 0 o dX6_layTrees_69 (by decide) ?_
        refine v_last o dX6_layTrees_70 (by omega) (by decide) hRq.a18 (fun μ3 e3 => ?_)
        have hR3 := hRq.p18 (i0 := 15 + j) (v := 0) e3
        refine v_aload_n 2 o dX6_layTrees_71 rfl rfl ?_
        refine v_get (v := .ref (m + 19)) o dX6_layTrees_72 cf6 21 (by decide) fl_X6_66 hR3.o rfl ?_
        refine v_bipush 15 o dX6_layTrees_75 (by decide) ?_
        refine v_iload_n 5 o dX6_layTrees_77 rfl rfl ?_
        refine v_iadd (nI (15 + j)) o dX6_layTrees_78 (nI_add 15 j) ?_
        refine v_iload 0 o dX6_layTrees_79 rfl ?_
        refine v_if_eq_n 117 o dX6_layTrees_81 (by decide) (by decide) (fun c81 => ?_) (fun c81 => absurd c81 (by omega))
        refine v_lconst 0 o dX6_layTrees_117 (by decide) ?_
        refine v_last o dX6_layTrees_118 (by omega) (by decide) hR3.a19 (fun μ4 e4 => ?_)
        have hR4 := hR3.p19 (i0 := 15 + j) (v := 0) e4
        refine v_iinc (nI (j + 1)) [(3, .int (nI (j + 1))), (5, .int (nI 0)), (4, .int (nI (12 * b + j))), (0, .ref m), (1, .int (nI v)), (2, .int (nI b))] o dX6_layTrees_119 5 rfl (iinc_n j 1) (by decide) rfl ?_
        refine v_goto 2 o dX6_layTrees_122 (by decide) ?_
        refine v_sub [(0, .ref m), (1, .int (nI v)), (2, .int (nI b)), (3, .int (nI (j + 1)))] [3, 4, 5, 0] rfl ?_
        exact ih (j + 1) _ _ (by omega) (ly1_s hL (by simp [leafB, ← hL.1.2.1 2 (by decide), ← hL.1.2.2.2 0 (by decide), show ¬ j < σ.1 0 b by omega]) (by simp [leafV, ← hL.1.2.1 5 (by decide), ← hL.1.2.2.2 1 (by decide), show ¬ j < σ.1 0 b by omega])) hR4
      · refine v_iconst 1 o dX6_layTrees_26 rfl ?_
        refine v_goto 31 o dX6_layTrees_27 (by decide) ?_
        refine v_istore [(5, .int (nI 1)), (4, .int (nI (12 * b + j))), (0, .ref m), (1, .int (nI v)), (2, .int (nI b)), (3, .int (nI j))] o dX6_layTrees_31 (by decide) rfl ?_
        refine v_aload_n 2 o dX6_layTrees_33 rfl rfl ?_
        refine v_get (v := .ref (m + 18)) o dX6_layTrees_34 cf6 20 (by decide) fl_X6_63 hRq.o rfl ?_
        refine v_bipush 15 o dX6_layTrees_37 (by decide) ?_
        refine v_iload_n 5 o dX6_layTrees_39 rfl rfl ?_
        refine v_iadd (nI (15 + j)) o dX6_layTrees_40 (nI_add 15 j) ?_
        refine v_iload 0 o dX6_layTrees_41 rfl ?_
        refine v_if_eq_n 69 o dX6_layTrees_43 (by decide) (by decide) (fun c43 => absurd c43 (by omega)) (fun c43 => ?_)
        refine v_aload_n 2 o dX6_layTrees_46 rfl rfl ?_
        refine v_get (v := .ref (m + 9)) o dX6_layTrees_47 cf6 11 (by decide) fl_X6_35 hRq.o rfl ?_
        refine v_iload 1 o dX6_layTrees_50 rfl ?_
        refine v_zald (bI (τ.2.1 2 (12 * b + j))) o dX6_layTrees_52 (by omega) (by decide) hRq.a9 rfl ?_
        refine v_if_eq_b 69 o dX6_layTrees_53 (by decide) (fun c53 => ?_) (fun c53 => ?_)
        · refine v_lconst 0 o dX6_layTrees_69 (by decide) ?_
          refine v_last o dX6_layTrees_70 (by omega) (by decide) hRq.a18 (fun μ5 e5 => ?_)
          have hR5 := hRq.p18 (i0 := 15 + j) (v := 0) e5
          refine v_aload_n 2 o dX6_layTrees_71 rfl rfl ?_
          refine v_get (v := .ref (m + 19)) o dX6_layTrees_72 cf6 21 (by decide) fl_X6_66 hR5.o rfl ?_
          refine v_bipush 15 o dX6_layTrees_75 (by decide) ?_
          refine v_iload_n 5 o dX6_layTrees_77 rfl rfl ?_
          refine v_iadd (nI (15 + j)) o dX6_layTrees_78 (nI_add 15 j) ?_
          refine v_iload 0 o dX6_layTrees_79 rfl ?_
          refine v_if_eq_n 117 o dX6_layTrees_81 (by decide) (by decide) (fun c81 => absurd c81 (by omega)) (fun c81 => ?_)
          refine v_aload_n 2 o dX6_layTrees_84 rfl rfl ?_
          refine v_get (v := .ref (m + 15)) o dX6_layTrees_85 cf6 17 (by decide) fl_X6_54 hR5.o rfl ?_
          refine v_bipush 72 o dX6_layTrees_88 (by decide) ?_
          refine v_iload_n 3 o dX6_layTrees_90 rfl rfl ?_
          refine v_imul (nI (72 * v)) o dX6_layTrees_91 (pk_mul 72 v) ?_
          refine v_iload 1 o dX6_layTrees_92 rfl ?_
          refine v_iadd (nI (72 * v + (12 * b + j))) o dX6_layTrees_94 (nI_add (72 * v) (12 * b + j)) ?_
          refine v_zald (bI (τ.2.1 5 (72 * v + (12 * b + j)))) o dX6_layTrees_95 (by omega) (by decide) hR5.a15 rfl ?_
          refine v_if_eq_b 117 o dX6_layTrees_96 (by decide) (fun c96 => ?_) (fun c96 => ?_)
          · refine v_lconst 0 o dX6_layTrees_117 (by decide) ?_
            refine v_last o dX6_layTrees_118 (by omega) (by decide) hR5.a19 (fun μ6 e6 => ?_)
            have hR6 := hR5.p19 (i0 := 15 + j) (v := 0) e6
            refine v_iinc (nI (j + 1)) [(3, .int (nI (j + 1))), (5, .int (nI 1)), (4, .int (nI (12 * b + j))), (0, .ref m), (1, .int (nI v)), (2, .int (nI b))] o dX6_layTrees_119 5 rfl (iinc_n j 1) (by decide) rfl ?_
            refine v_goto 2 o dX6_layTrees_122 (by decide) ?_
            refine v_sub [(0, .ref m), (1, .int (nI v)), (2, .int (nI b)), (3, .int (nI (j + 1)))] [3, 4, 5, 0] rfl ?_
            exact ih (j + 1) _ _ (by omega) (ly1_s hL (by simp [leafB, ← hL.1.2.1 2 (by decide), ← hL.1.2.2.2 0 (by decide), show j < σ.1 0 b by omega, c53]) (by simp [leafV, ← hL.1.2.1 5 (by decide), ← hL.1.2.2.2 1 (by decide), show j < σ.1 0 b by omega, c96])) hR6
          · refine v_aload_n 2 o dX6_layTrees_99 rfl rfl ?_
            refine v_get (v := .ref (m + 16)) o dX6_layTrees_100 cf6 18 (by decide) fl_X6_57 hR5.o rfl ?_
            refine v_bipush 72 o dX6_layTrees_103 (by decide) ?_
            refine v_iload_n 3 o dX6_layTrees_105 rfl rfl ?_
            refine v_imul (nI (72 * v)) o dX6_layTrees_106 (pk_mul 72 v) ?_
            refine v_iload 1 o dX6_layTrees_107 rfl ?_
            refine v_iadd (nI (72 * v + (12 * b + j))) o dX6_layTrees_109 (nI_add (72 * v) (12 * b + j)) ?_
            refine v_lald (τ.2.2.2 1 (72 * v + (12 * b + j))) o dX6_layTrees_110 (by omega) (by decide) hR5.a16 rfl ?_
            refine v_callSr (v := .long (prf (τ.2.2.2 1 (72 * v + (12 * b + j))))) [.long (τ.2.2.2 1 (72 * v + (12 * b + j)))] [.int (nI (15 + j)), .ref (m + 19)] o dX6_layTrees_111 cw_X6_123 st_X6_proof (m_proof hl hR5 (τ.2.2.2 1 (72 * v + (12 * b + j)))) rfl rfl (by decide) ⟨rfl, rfl⟩ (by decide) (Nat.le_of_ble_eq_true rfl) ?_
            refine v_goto 118 o dX6_layTrees_114 (by decide) ?_
            refine v_last o dX6_layTrees_118 (by omega) (by decide) hR5.a19 (fun μ7 e7 => ?_)
            have hR7 := hR5.p19 (i0 := 15 + j) (v := prf (τ.2.2.2 1 (72 * v + (12 * b + j)))) e7
            refine v_iinc (nI (j + 1)) [(3, .int (nI (j + 1))), (5, .int (nI 1)), (4, .int (nI (12 * b + j))), (0, .ref m), (1, .int (nI v)), (2, .int (nI b))] o dX6_layTrees_119 5 rfl (iinc_n j 1) (by decide) rfl ?_
            refine v_goto 2 o dX6_layTrees_122 (by decide) ?_
            refine v_sub [(0, .ref m), (1, .int (nI v)), (2, .int (nI b)), (3, .int (nI (j + 1)))] [3, 4, 5, 0] rfl ?_
            exact ih (j + 1) _ _ (by omega) (ly1_s hL (by simp [leafB, ← hL.1.2.1 2 (by decide), ← hL.1.2.2.2 0 (by decide), show j < σ.1 0 b by omega, c53]) (by simp [leafV, ← hL.1.2.1 5 (by decide), ← hL.1.2.2.2 1 (by decide), show j < σ.1 0 b by omega, c96])) hR7
        · refine v_aload_n 2 o dX6_layTrees_56 rfl rfl ?_
          refine v_get (v := .ref (m + 12)) o dX6_layTrees_57 cf6 14 (by decide) fl_X6_44 hRq.o rfl ?_
          refine v_iload 1 o dX6_layTrees_60 rfl ?_
          refine v_lald (τ.2.2.2 0 (12 * b + j)) o dX6_layTrees_62 (by omega) (by decide) hRq.a12 rfl ?_
          refine v_callSr (v := .long (prf (τ.2.2.2 0 (12 * b + j)))) [.long (τ.2.2.2 0 (12 * b + j))] [.int (nI (15 + j)), .ref (m + 18)] o dX6_layTrees_63 cw_X6_123 st_X6_proof (m_proof hl hRq (τ.2.2.2 0 (12 * b + j))) rfl rfl (by decide) ⟨rfl, rfl⟩ (by decide) (Nat.le_of_ble_eq_true rfl) ?_
          refine v_goto 70 o dX6_layTrees_66 (by decide) ?_
          refine v_last o dX6_layTrees_70 (by omega) (by decide) hRq.a18 (fun μ8 e8 => ?_)
          have hR8 := hRq.p18 (i0 := 15 + j) (v := prf (τ.2.2.2 0 (12 * b + j))) e8
          refine v_aload_n 2 o dX6_layTrees_71 rfl rfl ?_
          refine v_get (v := .ref (m + 19)) o dX6_layTrees_72 cf6 21 (by decide) fl_X6_66 hR8.o rfl ?_
          refine v_bipush 15 o dX6_layTrees_75 (by decide) ?_
          refine v_iload_n 5 o dX6_layTrees_77 rfl rfl ?_
          refine v_iadd (nI (15 + j)) o dX6_layTrees_78 (nI_add 15 j) ?_
          refine v_iload 0 o dX6_layTrees_79 rfl ?_
          refine v_if_eq_n 117 o dX6_layTrees_81 (by decide) (by decide) (fun c81 => absurd c81 (by omega)) (fun c81 => ?_)
          refine v_aload_n 2 o dX6_layTrees_84 rfl rfl ?_
          refine v_get (v := .ref (m + 15)) o dX6_layTrees_85 cf6 17 (by decide) fl_X6_54 hR8.o rfl ?_
          refine v_bipush 72 o dX6_layTrees_88 (by decide) ?_
          refine v_iload_n 3 o dX6_layTrees_90 rfl rfl ?_
          refine v_imul (nI (72 * v)) o dX6_layTrees_91 (pk_mul 72 v) ?_
          refine v_iload 1 o dX6_layTrees_92 rfl ?_
          refine v_iadd (nI (72 * v + (12 * b + j))) o dX6_layTrees_94 (nI_add (72 * v) (12 * b + j)) ?_
          refine v_zald (bI (τ.2.1 5 (72 * v + (12 * b + j)))) o dX6_layTrees_95 (by omega) (by decide) hR8.a15 rfl ?_
          refine v_if_eq_b 117 o dX6_layTrees_96 (by decide) (fun c96 => ?_) (fun c96 => ?_)
          · refine v_lconst 0 o dX6_layTrees_117 (by decide) ?_
            refine v_last o dX6_layTrees_118 (by omega) (by decide) hR8.a19 (fun μ9 e9 => ?_)
            have hR9 := hR8.p19 (i0 := 15 + j) (v := 0) e9
            refine v_iinc (nI (j + 1)) [(3, .int (nI (j + 1))), (5, .int (nI 1)), (4, .int (nI (12 * b + j))), (0, .ref m), (1, .int (nI v)), (2, .int (nI b))] o dX6_layTrees_119 5 rfl (iinc_n j 1) (by decide) rfl ?_
            refine v_goto 2 o dX6_layTrees_122 (by decide) ?_
            refine v_sub [(0, .ref m), (1, .int (nI v)), (2, .int (nI b)), (3, .int (nI (j + 1)))] [3, 4, 5, 0] rfl ?_
            exact ih (j + 1) _ _ (by omega) (ly1_s hL (by simp [leafB, ← hL.1.2.1 2 (by decide), ← hL.1.2.2.2 0 (by decide), show j < σ.1 0 b by omega, c53]) (by simp [leafV, ← hL.1.2.1 5 (by decide), ← hL.1.2.2.2 1 (by decide), show j < σ.1 0 b by omega, c96])) hR9
          · refine v_aload_n 2 o dX6_layTrees_99 rfl rfl ?_
            refine v_get (v := .ref (m + 16)) o dX6_layTrees_100 cf6 18 (by decide) fl_X6_57 hR8.o rfl ?_
            refine v_bipush 72 o dX6_layTrees_103 (by decide) ?_
            refine v_iload_n 3 o dX6_layTrees_105 rfl rfl ?_
            refine v_imul (nI (72 * v)) o dX6_layTrees_106 (pk_mul 72 v) ?_
            refine v_iload 1 o dX6_layTrees_107 rfl ?_
            refine v_iadd (nI (72 * v + (12 * b + j))) o dX6_layTrees_109 (nI_add (72 * v) (12 * b + j)) ?_
            refine v_lald (τ.2.2.2 1 (72 * v + (12 * b + j))) o dX6_layTrees_110 (by omega) (by decide) hR8.a16 rfl ?_
            refine v_callSr (v := .long (prf (τ.2.2.2 1 (72 * v + (12 * b + j))))) [.long (τ.2.2.2 1 (72 * v + (12 * b + j)))] [.int (nI (15 + j)), .ref (m + 19)] o dX6_layTrees_111 cw_X6_123 st_X6_proof (m_proof hl hR8 (τ.2.2.2 1 (72 * v + (12 * b + j)))) rfl rfl (by decide) ⟨rfl, rfl⟩ (by decide) (Nat.le_of_ble_eq_true rfl) ?_
            refine v_goto 118 o dX6_layTrees_114 (by decide) ?_
            refine v_last o dX6_layTrees_118 (by omega) (by decide) hR8.a19 (fun μ10 e10 => ?_)
            have hR10 := hR8.p19 (i0 := 15 + j) (v := prf (τ.2.2.2 1 (72 * v + (12 * b + j)))) e10
            refine v_iinc (nI (j + 1)) [(3, .int (nI (j + 1))), (5, .int (nI 1)), (4, .int (nI (12 * b + j))), (0, .ref m), (1, .int (nI v)), (2, .int (nI b))] o dX6_layTrees_119 5 rfl (iinc_n j 1) (by decide) rfl ?_
            refine v_goto 2 o dX6_layTrees_122 (by decide) ?_
            refine v_sub [(0, .ref m), (1, .int (nI v)), (2, .int (nI b)), (3, .int (nI (j + 1)))] [3, 4, 5, 0] rfl ?_
            exact ih (j + 1) _ _ (by omega) (ly1_s hL (by simp [leafB, ← hL.1.2.1 2 (by decide), ← hL.1.2.2.2 0 (by decide), show j < σ.1 0 b by omega, c53]) (by simp [leafV, ← hL.1.2.1 5 (by decide), ← hL.1.2.2.2 1 (by decide), show j < σ.1 0 b by omega, c96])) hR10
  refine v_iconst 0 o dX6_layTrees_0 rfl ?_
  refine v_istore_n [(3, .int (nI 0)), (0, .ref m), (1, .int (nI v)), (2, .int (nI b))] o dX6_layTrees_1 rfl (by decide) rfl ?_
  refine v_sub [(0, .ref m), (1, .int (nI v)), (2, .int (nI b)), (3, .int (nI 0))] [1, 2, 3, 0] rfl ?_
  exact L1 16 0 _ _ (by omega) ly1_0 hR

