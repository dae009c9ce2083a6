theorem clr_B (σ : Sg) (v : Nat) : ∀ n a, n ≤ a → (clr σ v n).2.1 5 (72 * v + a) = σ.2.1 5 (72 * v + a)
  | 0, _, _ => rfl
  | n + 1, a, h => by
    show u2 (clr σ v n).2.1 5 (72 * v + n) false 5 (72 * v + a) = _
    rw [u2_i (by omega)]
    exact clr_B σ v n a (by omega)
theorem putv_I (σ : Sg) (a : Nat) (its : Int64) (v : Nat) : (putv σ a its v).2.2.1 = σ.2.2.1 := by
  unfold putv
  split <;> rfl
theorem puts_I (σ : Sg) (a : Nat) (its : Int64) : ∀ v, (puts σ a its v).2.2.1 = σ.2.2.1
  | 0 => rfl
  | v + 1 => (putv_I _ a its v).trans (puts_I σ a its v)
theorem nxt_le (σ : Sg) : ∀ n, nxt σ n ≤ n
  | 0 => Nat.le_refl 0
  | n + 1 => by
    have := nxt_le σ n
    unfold nxt
    split <;> omega
theorem mI_pos {n : Nat} (h : ¬ n = 0) : mI n = nI (n - 1) := by
  obtain ⟨k, rfl⟩ : ∃ k, n = k + 1 := ⟨n - 1, by omega⟩
  exact mI_s k
