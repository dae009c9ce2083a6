theorem mnd_N (σ : Sg) (v b : Nat) : ∀ n, (mnd σ v b n).2.1 = σ.1
  | 0 => rfl
  | n + 1 => by
    unfold mnd
    split
    · exact mnd_N σ v b n
    · exact mnd_N σ v b n
theorem mnd_le (σ : Sg) (v b : Nat) : ∀ n, (mnd σ v b n).1 ≤ n
  | 0 => Nat.le_refl 0
  | n + 1 => by
    have := mnd_le σ v b n
    unfold mnd
    split
    · show _ + 1 ≤ _
      omega
    · omega
