/-! numbers in their ranges -/
def inR (x a b : Int32) : Bool := decide (a ≤ x) && decide (x ≤ b)
def okI (x : Int32) (n : Nat) : Bool := inR x (nI 0) (mI n)
theorem mI_toInt {n : Nat} (h : n < 2 ^ 30) : (mI n).toInt = (n : Int) - 1 := by
  have h1 := pk_sub_toInt (a := n) (b := 1) (by omega) (by decide)
  exact h1
theorem okI_nI {i n : Nat} (h : i < n) (hn : n < 2 ^ 30) : okI (nI i) n = true := by
  unfold okI inR
  rw [decide_eq_true, decide_eq_true]
  · rfl
  · rw [Int32.le_iff_toInt_le, mI_toInt hn, nI_toInt (by omega)]
    omega
  · exact nI_le (Nat.zero_le _) (by omega)
theorem inR_iff {x a b : Int32} : inR x a b = true ↔ a.toInt ≤ x.toInt ∧ x.toInt ≤ b.toInt := by
  unfold inR
  rw [Bool.and_eq_true, decide_eq_true_eq, decide_eq_true_eq, Int32.le_iff_toInt_le, Int32.le_iff_toInt_le]
theorem inR_f {x a b : Int32} (h : ¬ (a.toInt ≤ x.toInt ∧ x.toInt ≤ b.toInt)) : inR x a b = false := by
  cases q : inR x a b with
  | false => rfl
  | true => exact absurd (inR_iff.mp q) h
theorem okI_t {x : Int32} {n : Nat} (h : okI x n = true) (hn : n < 2 ^ 30) : ∃ i, i < n ∧ x = nI i := by
  have h1 := inR_iff.mp h
  rw [mI_toInt hn, show (nI 0).toInt = 0 from rfl] at h1
  exact vp_in_of (vp_in_iff.mpr ⟨h1.1, by omega⟩) (by omega)
theorem okI_f {x : Int32} {n : Nat} (h : okI x n = false) (hn : n < 2 ^ 30) : x < 0 ∨ nI n ≤ x := by
  by_cases h0 : x < 0
  · exact Or.inl h0
  · refine Or.inr ?_
    have h1 : ¬ (0 ≤ x.toInt ∧ x.toInt ≤ (n : Int) - 1) := fun q => by
      have h2 : okI x n = true := inR_iff.mpr (by rw [mI_toInt hn, show (nI 0).toInt = 0 from rfl]; exact q)
      rw [h] at h2
      cases h2
    rw [Int32.lt_iff_toInt_lt, show (0 : Int32).toInt = 0 from rfl] at h0
    rw [Int32.le_iff_toInt_le, nI_toInt (by omega)]
    omega
theorem okI_ne {x : Int32} {i n : Nat} (h : okI x n = false) (hi : i < n) (hn : n < 2 ^ 30) : x ≠ nI i := fun q => by
  rw [q, okI_nI hi hn] at h
  cases h
abbrev tn (x : Int32) : Nat := x.toNatClampNeg
theorem tn_nI {n : Nat} (h : n < 2 ^ 31) : tn (nI n) = n := nI_clamp h
def isB (σ : Sg) (b : Int32) : Bool := okI b (σ.1 3 0)
def isP (σ : Sg) (b p : Int32) : Bool := isB σ b && okI p (σ.1 0 (tn b))
def isV (v : Int32) : Bool := inR v (nI 0) (nI 3)
def isL (σ : Sg) (b p a : Int32) : Bool := isP σ b p && inR a (nI 0) (nI 3)
/-- how many of the first n are so -/
def cnt (f : Nat → Bool) : Nat → Nat
  | 0 => 0
  | n + 1 => cnt f n + (if f n then 1 else 0)
theorem cnt_le (f : Nat → Bool) : ∀ n, cnt f n ≤ n
  | 0 => Nat.le_refl 0
  | n + 1 => by
    have := cnt_le f n
    unfold cnt
    split <;> omega
/-- what always holds of the state -/
def Blk (σ : Sg) : Prop := (∀ b, σ.1 3 0 ≤ b → b < 6 → σ.2.2.1 4 b = 0 ∧ σ.2.1 0 b = false ∧ σ.2.1 1 b = false) ∧
  (∀ b p, b < 6 → p < 12 → ¬ (b < σ.1 3 0 ∧ p < σ.1 0 b) → (σ.2.1 2 (12 * b + p) = false ∧ σ.2.1 3 (12 * b + p) = false ∧ σ.2.1 4 (12 * b + p) = false ∧ σ.2.2.2 0 (12 * b + p) = 0 ∧ σ.2.2.1 5 (12 * b + p) = 0 ∧ σ.2.2.1 6 (12 * b + p) = 0) ∧ (∀ v, v < 4 → σ.2.1 5 (72 * v + (12 * b + p)) = false ∧ σ.2.2.2 1 (72 * v + (12 * b + p)) = 0) ∧ ∀ a, a < 4 → σ.1 1 (4 * (12 * b + p) + a) = 0 ∧ ∀ w, w < 5 → σ.1 2 (5 * (4 * (12 * b + p) + a) + w) = 0)
def Inv (σ : Sg) : Prop := σ.1 3 0 ≤ 6 ∧ (∀ b, σ.1 0 b ≤ 12) ∧ (∀ i, σ.1 1 i ≤ 26) ∧ (∀ i, σ.1 2 i ≤ 26) ∧ (∀ b, b < σ.1 3 0 → 1 ≤ σ.1 0 b) ∧ Blk σ
theorem isB_t {σ : Sg} {b : Int32} (hI : Inv σ) (h : isB σ b = true) : ∃ i, i < σ.1 3 0 ∧ b = nI i := okI_t h (by have := hI.1; omega)
theorem isB_nI {σ : Sg} {i : Nat} (hI : Inv σ) (h : i < σ.1 3 0) : isB σ (nI i) = true := okI_nI h (by have := hI.1; omega)
theorem isP_t {σ : Sg} {b p : Int32} (hI : Inv σ) (h : isP σ b p = true) : ∃ i j, i < σ.1 3 0 ∧ j < σ.1 0 i ∧ b = nI i ∧ p = nI j := by
  unfold isP at h
  rw [Bool.and_eq_true] at h
  obtain ⟨i, hi, rfl⟩ := isB_t hI h.1
  have h6 := hI.1
  have h2 := h.2
  rw [tn_nI (by omega)] at h2
  obtain ⟨j, hj, rfl⟩ := okI_t h2 (by have := hI.2.1 i; omega)
  exact ⟨i, j, hi, hj, rfl, rfl⟩
theorem isP_nI {σ : Sg} {i j : Nat} (hI : Inv σ) (h : i < σ.1 3 0) (hj : j < σ.1 0 i) : isP σ (nI i) (nI j) = true := by
  unfold isP
  have h6 := hI.1
  have h12 := hI.2.1 i
  rw [isB_nI hI h, tn_nI (by omega), okI_nI hj (by omega)]
  rfl
theorem isV_ok (v : Int32) : isV v = okI v 4 := by
  unfold isV okI
  rw [mI_s]
theorem isV_t {v : Int32} (h : isV v = true) : ∃ i, i < 4 ∧ v = nI i := okI_t (by rw [← isV_ok]; exact h) (by decide)
theorem isV_nI {i : Nat} (h : i < 4) : isV (nI i) = true := by rw [isV_ok]; exact okI_nI h (by decide)
theorem isL_t {σ : Sg} {b p a : Int32} (hI : Inv σ) (h : isL σ b p a = true) : ∃ i j k, i < σ.1 3 0 ∧ j < σ.1 0 i ∧ k < 4 ∧ b = nI i ∧ p = nI j ∧ a = nI k := by
  unfold isL at h
  rw [Bool.and_eq_true] at h
  obtain ⟨i, j, hi, hj, hb, hp⟩ := isP_t hI h.1
  obtain ⟨k, hk, ha⟩ := isV_t h.2
  exact ⟨i, j, k, hi, hj, hk, hb, hp, ha⟩
theorem inR_lo {x a b : Int32} (h : x < a) : inR x a b = false := inR_f fun q => by
  rw [Int32.lt_iff_toInt_lt] at h
  omega
theorem inR_hi {x a b : Int32} (h : b < x) : inR x a b = false := inR_f fun q => by
  rw [Int32.lt_iff_toInt_lt] at h
  omega
theorem inR_ok {x a b : Int32} (h1 : ¬ x < a) (h2 : ¬ b < x) : inR x a b = true := inR_iff.mpr (by
  rw [Int32.lt_iff_toInt_lt] at h1 h2
  omega)
theorem isP_f {σ : Sg} {b p : Int32} (h : isB σ b = false) : isP σ b p = false := by unfold isP; rw [h]; rfl
/-- an answer, and the reference's object with a new state -/
def wrM (g : mG) (m : Nat) (μ0 : mM) (v : Option Value) (σ' : Sg) (z : Nat) : Option Value → mM → Nat → Prop := fun r μ' z' => r = v ∧ RM g m μ0 σ' μ' ∧ z = z'
theorem inR_nat {x : Int32} {a b : Nat} (h : inR x (nI a) (nI b) = true) (ha : a < 2 ^ 30) (hb : b < 2 ^ 30) : ∃ k, a ≤ k ∧ k ≤ b ∧ x = nI k := by
  have h1 := inR_iff.mp h
  rw [nI_toInt (by omega), nI_toInt (by omega)] at h1
  obtain ⟨k, hk, hx⟩ := vp_in_of (x := x) (n := b + 1) (vp_in_iff.mpr ⟨by omega, by omega⟩) (by omega)
  refine ⟨k, ?_, by omega, hx⟩
  have h2 := h1.1
  rw [hx, nI_toInt (by omega)] at h2
  omega
theorem bI_tn : bI true = nI 1 := rfl
theorem bI_fn : bI false = nI 0 := rfl
