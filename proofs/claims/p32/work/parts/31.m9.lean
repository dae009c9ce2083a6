theorem scr.tr {σ τ ρ : Sg} (h : scr σ τ) (q : scr τ ρ) : scr σ ρ := ⟨fun k a b => (h.1 k a b).trans (q.1 k a b), fun k a => (h.2.1 k a).trans (q.2.1 k a), h.2.2.1.trans q.2.2.1, fun k a => (h.2.2.2 k a).trans (q.2.2.2 k a)⟩
theorem scr.L {σ τ : Sg} (h : scr τ σ) (k i : Nat) (v : Int64) (hk : 2 ≤ k) : scr (uL τ k i v) σ := ⟨h.1, h.2.1, h.2.2.1, fun k2 h2 => by
  rw [← h.2.2.2 k2 h2]
  funext x
  exact u2_k (by omega)⟩
theorem scr.B {σ τ : Sg} (h : scr τ σ) (i : Nat) (v : Bool) : scr (uB τ 7 i v) σ := ⟨h.1, fun k2 h2 => by
  rw [← h.2.1 k2 h2]
  funext x
  exact u2_k (by omega), h.2.2.1, h.2.2.2⟩
theorem scr.N {σ τ : Sg} (h : scr τ σ) (k i v : Nat) : scr (uN τ k i v) (uN σ k i v) := ⟨fun k2 h2 h3 => by
  funext x
  show u2 τ.1 k i v k2 x = u2 σ.1 k i v k2 x
  unfold u2
  rw [h.1 k2 h2 h3], h.2.1, h.2.2.1, h.2.2.2⟩
/-- leaves below j are laid -/
def ly1 (σ : Sg) (v b j : Nat) (τ : Sg) : Prop := scr τ σ ∧ ∀ k, k < j → τ.2.2.2 2 (15 + k) = leafB σ b k ∧ τ.2.2.2 3 (15 + k) = leafV σ v b k
theorem ly1_0 {σ : Sg} {v b : Nat} : ly1 σ v b 0 σ := ⟨scr.rf, fun k h => absurd h (by omega)⟩
theorem ly1_s {σ τ : Sg} {v b j : Nat} {x y : Int64} (h : ly1 σ v b j τ) (hx : x = leafB σ b j) (hy : y = leafV σ v b j) : ly1 σ v b (j + 1) (uL (uL τ 2 (15 + j) x) 3 (15 + j) y) := by
  refine ⟨(h.1.L 2 _ _ (by decide)).L 3 _ _ (by decide), fun k hk => ?_⟩
  by_cases e : k = j
  · subst e
    refine ⟨?_, ?_⟩
    · show u2 (u2 τ.2.2.2 2 (15 + k) x) 3 (15 + k) y 2 (15 + k) = _
      rw [u2_k (by decide), u2_s, hx]
    · show u2 (u2 τ.2.2.2 2 (15 + k) x) 3 (15 + k) y 3 (15 + k) = _
      rw [u2_s, hy]
  · have h2 := h.2 k (by omega)
    refine ⟨?_, ?_⟩
    · show u2 (u2 τ.2.2.2 2 (15 + j) x) 3 (15 + j) y 2 (15 + k) = _
      rw [u2_k (by decide), u2_i (by omega)]
      exact h2.1
    · show u2 (u2 τ.2.2.2 2 (15 + j) x) 3 (15 + j) y 3 (15 + k) = _
      rw [u2_i (by omega), u2_k (by decide)]
      exact h2.2
/-- nodes from j on are laid -/
def ly2 (σ : Sg) (v b j : Nat) (τ : Sg) : Prop := scr τ σ ∧ ∀ k, j ≤ k → k < 31 → τ.2.2.2 2 k = trn (leafB σ b) 4 k ∧ τ.2.2.2 3 k = trn (leafV σ v b) 4 k
theorem trn_leaf (f : Nat → Int64) {k : Nat} (h : 15 ≤ k) : ∀ d, trn f d k = f (k - 15)
  | 0 => rfl
  | d + 1 => if_pos h
theorem trn_up (f : Nat → Int64) : ∀ d k, 15 < (k + 1) * 2 ^ d → trn f (d + 1) k = trn f d k
  | 0, k, h => trn_leaf f (by omega) 1
  | d + 1, k, h => by
    by_cases e : 15 ≤ k
    · rw [trn_leaf f e, trn_leaf f e]
    · have e1 : trn f (d + 2) k = 31 * trn f (d + 1) (2 * k + 1) + trn f (d + 1) (2 * k + 2) := if_neg e
      have e2 : trn f (d + 1) k = 31 * trn f d (2 * k + 1) + trn f d (2 * k + 2) := if_neg e
      have h2 : 15 < (k + 1) * (2 * 2 ^ d) := by rw [← Nat.pow_succ']; exact h
      have h3 : (2 * k + 1 + 1) * 2 ^ d = (k + 1) * (2 * 2 ^ d) := by
        rw [← Nat.mul_assoc]
        congr 1
        omega
      have h4 : (2 * k + 1 + 1) * 2 ^ d ≤ (2 * k + 2 + 1) * 2 ^ d := Nat.mul_le_mul_right _ (by omega)
      rw [e1, e2, trn_up f d (2 * k + 1) (by omega), trn_up f d (2 * k + 2) (by omega)]
theorem iinc_m1 (n : Nat) : nI n + Int32.ofInt (-1) = mI n := by
  unfold mI
  rw [Int32.sub_eq_add_neg]
  rfl
theorem trn_node (f : Nat → Int64) {k : Nat} (h : k < 15) : trn f 4 k = 31 * trn f 4 (2 * k + 1) + trn f 4 (2 * k + 2) := by
  have e : trn f 4 k = 31 * trn f 3 (2 * k + 1) + trn f 3 (2 * k + 2) := if_neg (by omega)
  rw [e, ← trn_up f 3 (2 * k + 1) (by omega), ← trn_up f 3 (2 * k + 2) (by omega)]
theorem ly2_0 {σ τ : Sg} {v b : Nat} (h : ly1 σ v b 16 τ) : ly2 σ v b 15 τ := ⟨h.1, fun k h1 h2 => by
  have h3 := h.2 (k - 15) (by omega)
  rw [show 15 + (k - 15) = k by omega] at h3
  rw [trn_leaf _ h1, trn_leaf _ h1]
  exact h3⟩
theorem ly2_s {σ τ : Sg} {v b j : Nat} {x y : Int64} (h : ly2 σ v b (j + 1) τ) (hj : j < 15) (hx : x = 31 * τ.2.2.2 2 (2 * j + 1) + τ.2.2.2 2 (2 * j + 2)) (hy : y = 31 * τ.2.2.2 3 (2 * j + 1) + τ.2.2.2 3 (2 * j + 2)) : ly2 σ v b j (uL (uL τ 2 j x) 3 j y) := by
  refine ⟨(h.1.L 2 _ _ (by decide)).L 3 _ _ (by decide), fun k h1 h2 => ?_⟩
  by_cases e : k = j
  · subst e
    have a1 := h.2 (2 * k + 1) (by omega) (by omega)
    have a2 := h.2 (2 * k + 2) (by omega) (by omega)
    refine ⟨?_, ?_⟩
    · show u2 (u2 τ.2.2.2 2 k x) 3 k y 2 k = _
      rw [u2_k (by decide), u2_s, hx, trn_node _ hj, a1.1, a2.1]
    · show u2 (u2 τ.2.2.2 2 k x) 3 k y 3 k = _
      rw [u2_s, hy, trn_node _ hj, a1.2, a2.2]
  · have a1 := h.2 k (by omega) h2
    refine ⟨?_, ?_⟩
    · show u2 (u2 τ.2.2.2 2 j x) 3 j y 2 k = _
      rw [u2_k (by decide), u2_i e]
      exact a1.1
    · show u2 (u2 τ.2.2.2 2 j x) 3 j y 3 k = _
      rw [u2_i e, u2_k (by decide)]
      exact a1.2
theorem seenF_up (ne : Nat → Bool) : ∀ d k, k + 1 < 2 ^ (d + 1) → seenF ne (d + 1) k = seenF ne d k
  | 0, k, h => by
    have : k = 0 := by omega
    subst this
    rfl
  | d + 1, k, h => by
    show (decide (k = 0) || (seenF ne (d + 1) ((k - 1) / 2) && ne ((k - 1) / 2))) = (decide (k = 0) || (seenF ne d ((k - 1) / 2) && ne ((k - 1) / 2)))
    by_cases e : k = 0
    · subst e
      rfl
    · rw [seenF_up ne d ((k - 1) / 2) (by rw [Nat.pow_succ] at h; omega)]
theorem seenB_s (σ : Sg) (v b k : Nat) (h : k < 31) : seenB σ v b k = (decide (k = 0) || (seenB σ v b ((k - 1) / 2) && neB σ v b ((k - 1) / 2))) := by
  unfold seenB
  show (decide (k = 0) || (seenF _ 4 ((k - 1) / 2) && _)) = _
  rw [seenF_up _ 4 ((k - 1) / 2) (by omega)]
theorem mI_half {j : Nat} (h : j < 2 ^ 30) : mI j / nI 2 = nI ((j - 1) / 2) := by
  cases j with
  | zero => decide
  | succ j =>
    rw [mI_s, pk_div (by omega) (by decide) (by decide)]
    rfl
