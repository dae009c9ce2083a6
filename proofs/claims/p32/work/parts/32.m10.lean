def chk (σ : Sg) (v b j : Nat) (τ : Sg) : Prop := scr τ (uN (uN σ 3 1 0) 3 2 (cnt (seenB σ v b) j)) ∧ (∀ k, k < 31 → τ.2.2.2 2 k = trn (leafB σ b) 4 k ∧ τ.2.2.2 3 k = trn (leafV σ v b) 4 k) ∧ ∀ k, k < j → τ.2.1 7 k = seenB σ v b k
theorem chk_0 {σ τ : Sg} {v b : Nat} (h : ly2 (uN σ 3 1 0) v b 0 τ) : chk σ v b 0 (uN τ 3 2 0) := ⟨h.1.N 3 2 0, fun k hk => h.2 k (Nat.zero_le _) hk, fun k hk => absurd hk (by omega)⟩
theorem chk_l {σ τ : Sg} {v b j : Nat} (h : chk σ v b j τ) : τ.1 3 2 = cnt (seenB σ v b) j := (congrFun (h.1.1 3 (by decide) (by decide)) 2).trans (u2_s (f := (uN σ 3 1 0).1) (k := 3) (i := 2) (v := cnt (seenB σ v b) j))
theorem u2_u2 {α : Type} (f : Nat → Nat → α) (k i : Nat) (v w : α) : u2 (u2 f k i v) k i w = u2 f k i w := by
  funext a b
  unfold u2
  split <;> rfl
theorem chk_s {σ τ : Sg} {v b j n : Nat} {x : Bool} (h : chk σ v b j τ) (hx : x = seenB σ v b j) (hn : n = cnt (seenB σ v b) (j + 1)) : chk σ v b (j + 1) (uN (uB τ 7 j x) 3 2 n) := by
  refine ⟨?_, h.2.1, fun k hk => ?_⟩
  · have h1 := (h.1.B j x).N 3 2 n
    rw [hn] at h1 ⊢
    have e : uN (uN (uN σ 3 1 0) 3 2 (cnt (seenB σ v b) j)) 3 2 (cnt (seenB σ v b) (j + 1)) = uN (uN σ 3 1 0) 3 2 (cnt (seenB σ v b) (j + 1)) := by
      unfold uN
      rw [u2_u2]
    rw [e] at h1
    exact h1
  · show u2 τ.2.1 7 j x 7 k = _
    by_cases e : k = j
    · subst e
      rw [u2_s, hx]
    · rw [u2_i e]
      exact h.2.2 k (by omega)
theorem chk_ne {σ τ : Sg} {v b j k : Nat} (h : chk σ v b j τ) (hk : k < 31) : neB σ v b k = decide (τ.2.2.2 2 k ≠ τ.2.2.2 3 k) := by
  unfold neB
  rw [(h.2.1 k hk).1, (h.2.1 k hk).2]
theorem or_0 (x : Int32) : x ||| nI 0 = x := by
  show x ||| 0 = x
  simp
theorem sh16 {j : Nat} (h : 15 ≤ j) : nI j - nI 16 + nI 1 = nI (j - 15) := by
  obtain ⟨k, rfl⟩ : ∃ k, j = k + 15 := ⟨j - 15, by omega⟩
  rw [Nat.add_sub_cancel, ← nI_add, Int32.sub_eq_add_neg, Int32.add_assoc, Int32.add_assoc]
  show nI k + (nI 15 + (-nI 16 + nI 1)) = nI k
  rw [show nI 15 + (-nI 16 + nI 1) = 0 by decide, Int32.add_zero]
theorem toldF_t {f : Nat → Bool} {k : Nat} (h : f k = true) (h2 : 15 ≤ k) : toldF f (k + 1) = toldF f k ||| (nI 1 <<< (nI (k - 15) &&& 31)) := by
  show (if (f k && decide (15 ≤ k)) = true then _ else _) = _
  rw [h, decide_eq_true h2]
  rfl
theorem toldF_f {f : Nat → Bool} {k : Nat} (h : f k = true → ¬ 15 ≤ k) : toldF f (k + 1) = toldF f k := by
  rw [toldF]
  exact if_neg (by
    rw [Bool.and_eq_true, decide_eq_true_eq]
    exact fun q => h q.1 q.2)
