theorem cnt_mono {f h : Nat → Bool} (q : ∀ k, f k = true → h k = true) : ∀ n, cnt f n ≤ cnt h n
  | 0 => Nat.le_refl 0
  | n + 1 => by
    have := cnt_mono q n
    unfold cnt
    have h1 := q n
    cases hf : f n with
    | false => simp; split <;> omega
    | true => rw [h1 hf]; simp; omega
theorem right_le (σ : Sg) (w n : Nat) : cnt (rightB σ w) n ≤ cnt (allB σ w) n := cnt_mono (fun k h => by
  unfold rightB at h
  unfold allB
  simp at h ⊢
  omega) n
theorem trustN_le (σ : Sg) (w : Nat) : trustN σ w ≤ 100 := by
  unfold trustN
  have h1 := right_le σ w 288
  split
  · omega
  · exact Nat.div_le_of_le_mul (by omega)
theorem mI_add (a b : Nat) : mI a + nI b = mI (a + b) := by
  unfold mI
  rw [← nI_add]
  rw [Int32.sub_eq_add_neg, Int32.sub_eq_add_neg, Int32.add_assoc, Int32.add_assoc, Int32.add_comm (-1) (nI b)]
theorem mI_leI {a b : Nat} (ha : a < 2 ^ 30) (hb : b < 2 ^ 30) : mI a ≤ mI b ↔ a ≤ b := by
  rw [Int32.le_iff_toInt_le, mI_toInt ha, mI_toInt hb]
  omega
theorem mI_leN {a b : Nat} (ha : a < 2 ^ 30) (hb : b < 2 ^ 30) : mI a ≤ nI b ↔ a ≤ b + 1 := by
  rw [Int32.le_iff_toInt_le, mI_toInt ha, nI_toInt (by omega)]
  omega
theorem mI_le0 {a : Nat} (ha : a < 2 ^ 30) : mI a ≤ 0 ↔ a ≤ 1 := mI_leN (b := 0) ha (by decide)
theorem wgt_le (σ : Sg) (k x : Nat) : ∀ n, wgt σ k x n ≤ 101 * n
  | 0 => Nat.le_refl 0
  | n + 1 => by
    have := wgt_le σ k x n
    have := trustN_le σ n
    unfold wgt
    split
    · split <;> omega
    · omega
theorem bst_le (σ : Sg) (k : Nat) : ∀ n, (bst σ k n).1 ≤ n ∧ (bst σ k n).2 ≤ 505
  | 0 => ⟨Nat.le_refl 0, Nat.zero_le _⟩
  | n + 1 => by
    have := bst_le σ k n
    have := wgt_le σ k (n + 1) 5
    unfold bst
    split
    · exact ⟨Nat.le_refl _, by omega⟩
    · exact ⟨by omega, by omega⟩
theorem sumW_le (σ : Sg) (k : Nat) : ∀ n, sumW σ k n ≤ 505 * n
  | 0 => Nat.le_refl 0
  | n + 1 => by
    have := sumW_le σ k n
    have := wgt_le σ k (n + 1) 5
    unfold sumW
    omega
theorem maxW_le (σ : Sg) (k : Nat) : ∀ n, maxW σ k n ≤ sumW σ k n
  | 0 => Nat.le_refl 0
  | n + 1 => by
    have := maxW_le σ k n
    unfold maxW sumW
    split <;> omega
def tst (σ : Sg) : Nat → Sg
  | 0 => σ
  | n + 1 => uN (tst σ n) 4 n (trustN σ n)
theorem tst_k (σ : Sg) {k : Nat} (h : k ≠ 4) : ∀ n, (tst σ n).1 k = σ.1 k
  | 0 => rfl
  | n + 1 => by
    funext i
    show u2 (tst σ n).1 4 n (trustN σ n) k i = _
    rw [u2_k h, tst_k σ h n]
theorem tst_r (σ : Sg) : ∀ n, (tst σ n).2 = σ.2
  | 0 => rfl
  | n + 1 => tst_r σ n
theorem tst_4 (σ : Sg) : ∀ n w, w < n → (tst σ n).1 4 w = trustN σ w
  | 0, w, h => by omega
  | n + 1, w, h => by
    show u2 (tst σ n).1 4 n (trustN σ n) 4 w = _
    by_cases e : w = n
    · subst e
      exact u2_s
    · rw [u2_i e]
      exact tst_4 σ n w (by omega)
theorem trustN_congr {σ τ : Sg} (h1 : τ.1 1 = σ.1 1) (h2 : τ.1 2 = σ.1 2) (w : Nat) : trustN τ w = trustN σ w := by
  have e1 : allB τ w = allB σ w := by funext k; unfold allB; rw [h1, h2]
  have e2 : rightB τ w = rightB σ w := by funext k; unfold rightB; rw [h1, h2]
  unfold trustN
  rw [e1, e2]
theorem wgt_congr {σ τ : Sg} (h1 : τ.1 1 = σ.1 1) (h2 : τ.1 2 = σ.1 2) (k x : Nat) : ∀ n, wgt τ k x n = wgt σ k x n
  | 0 => rfl
  | n + 1 => by
    unfold wgt
    rw [wgt_congr h1 h2 k x n, h2, trustN_congr h1 h2]
theorem bst_congr {σ τ : Sg} (h1 : τ.1 1 = σ.1 1) (h2 : τ.1 2 = σ.1 2) (k : Nat) : ∀ n, bst τ k n = bst σ k n
  | 0 => rfl
  | n + 1 => by
    unfold bst
    rw [bst_congr h1 h2 k n, wgt_congr h1 h2]
theorem sumW_congr {σ τ : Sg} (h1 : τ.1 1 = σ.1 1) (h2 : τ.1 2 = σ.1 2) (k : Nat) : ∀ n, sumW τ k n = sumW σ k n
  | 0 => rfl
  | n + 1 => by
    unfold sumW
    rw [sumW_congr h1 h2 k n, wgt_congr h1 h2]
theorem maxW_congr {σ τ : Sg} (h1 : τ.1 1 = σ.1 1) (h2 : τ.1 2 = σ.1 2) (k : Nat) : ∀ n, maxW τ k n = maxW σ k n
  | 0 => rfl
  | n + 1 => by
    unfold maxW
    rw [maxW_congr h1 h2 k n, wgt_congr h1 h2]
/-- alike but for what is laid out anew each time -/
def scr (σ τ : Sg) : Prop := (∀ k, k ≠ 4 → k ≠ 5 → σ.1 k = τ.1 k) ∧ (∀ k, k ≠ 7 → σ.2.1 k = τ.2.1 k) ∧ σ.2.2.1 = τ.2.2.1 ∧ ∀ k, k < 2 → σ.2.2.2 k = τ.2.2.2 k
theorem scr.rf {σ : Sg} : scr σ σ := ⟨fun _ _ _ => rfl, fun _ _ => rfl, rfl, fun _ _ => rfl⟩
theorem scr.inv {σ τ : Sg} (h : scr τ σ) (hI : Inv σ) : Inv τ := by
  unfold Inv Blk
  rw [h.1 3 (by decide) (by decide), h.1 0 (by decide) (by decide), h.1 1 (by decide) (by decide), h.1 2 (by decide) (by decide), h.2.1 2 (by decide), h.2.1 3 (by decide), h.2.1 4 (by decide), h.2.1 5 (by decide), h.2.1 0 (by decide), h.2.1 1 (by decide), h.2.2.1, h.2.2.2 0 (by decide), h.2.2.2 1 (by decide)]
  exact hI
theorem scr_tst (σ : Sg) (n : Nat) : scr (tst σ n) σ := ⟨fun k h _ => tst_k σ h n, fun k _ => by rw [tst_r], by rw [tst_r], fun k _ => by rw [tst_r]⟩
