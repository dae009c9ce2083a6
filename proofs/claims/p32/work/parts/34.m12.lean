theorem isP_x {σ : Sg} {i : Nat} {x : Int32} (hI : Inv σ) (hi : i < σ.1 3 0) : isP σ (nI i) x = inR x (nI 0) (mI (σ.1 0 i)) := by
  unfold isP
  have h6 := hI.1
  rw [isB_nI hI hi, tn_nI (by omega)]
  rfl
theorem ordN_some {σ : Sg} {i : Nat} {L : List Nat} (h : ordL σ i = some L) (j : Nat) : ordN σ i j = rowAt L j + 1 := by
  unfold ordN
  rw [h]
theorem ordN_none {σ : Sg} {i : Nat} (h : ordL σ i = none) (j : Nat) : ordN σ i j = 0 := by
  unfold ordN
  rw [h]
theorem ordL_len {σ : Sg} {i : Nat} {L : List Nat} (h : ordL σ i = some L) : L.length = σ.1 0 i := by
  have := dfs_len _ _ _ h
  rw [this]
  exact Nat.zero_add _
