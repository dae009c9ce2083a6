theorem Inv.bk {σ : Sg} (hI : Inv σ) (h6 : ¬ σ.1 3 0 = 6) {nn : Nat} (h1 : 1 ≤ nn) (h12 : nn ≤ 12) (a b c d : Int32) : Inv (uN (uI (uI (uI (uI (uN (th σ 0) 0 (σ.1 3 0) nn) 0 (σ.1 3 0) a) 1 (σ.1 3 0) b) 2 (σ.1 3 0) c) 3 (σ.1 3 0) d) 3 0 (σ.1 3 0 + 1)) := by
  obtain ⟨i1, i2, i3, i4, i5, i6, i7⟩ := hI
  have e30 : (uN (uI (uI (uI (uI (uN (th σ 0) 0 (σ.1 3 0) nn) 0 (σ.1 3 0) a) 1 (σ.1 3 0) b) 2 (σ.1 3 0) c) 3 (σ.1 3 0) d) 3 0 (σ.1 3 0 + 1)).1 3 0 = σ.1 3 0 + 1 := by simp [uN, uI, u2, th]
  have e0 : ∀ k, (uN (uI (uI (uI (uI (uN (th σ 0) 0 (σ.1 3 0) nn) 0 (σ.1 3 0) a) 1 (σ.1 3 0) b) 2 (σ.1 3 0) c) 3 (σ.1 3 0) d) 3 0 (σ.1 3 0 + 1)).1 0 k = if k = σ.1 3 0 then nn else σ.1 0 k := fun k => by simp [uN, uI, u2, th]
  refine ⟨by rw [e30]; omega, fun k => ?_, i3, i4, fun k hk => ?_, fun k hk hk6 => ?_, fun k p hk hp hn => ?_⟩
  · rw [e0]
    split
    · exact h12
    · exact i2 k
  · rw [e30] at hk
    rw [e0]
    split
    · exact h1
    · exact i5 k (by omega)
  · rw [e30] at hk
    exact i6 k (by omega) hk6
  · rw [e30, e0] at hn
    refine i7 k p hk hp (fun w => hn ?_)
    rw [if_neg (by omega)]
    exact ⟨by omega, w.2⟩
theorem I_book {σ : Sg} (hI : Inv σ) (many wide strong wished died : Int32) : Inv (sp_book σ many wide strong wished died).2 := by
  unfold sp_book
  split
  · rename_i hA
    split
    · exact hI
    · rename_i h6
      simp only [Bool.and_eq_true] at hA
      obtain ⟨k, hk1, hk12, rfl⟩ := inR_nat hA.1.1.1.1 (by decide) (by decide)
      rw [tn_nI (by omega)]
      exact hI.bk h6 hk1 hk12 _ _ _ _
  · exact hI
