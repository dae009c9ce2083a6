/-! THE STATE: numbers, truths, ints and longs, by what they are and their place -/
abbrev Sg : Type := (Nat → Nat → Nat) × (Nat → Nat → Bool) × (Nat → Nat → Int32) × (Nat → Nat → Int64)
def u2 {α : Type} (f : Nat → Nat → α) (k i : Nat) (v : α) : Nat → Nat → α := fun a b => if a = k ∧ b = i then v else f a b
def uN (σ : Sg) (k i v : Nat) : Sg := (u2 σ.1 k i v, σ.2)
def uB (σ : Sg) (k i : Nat) (v : Bool) : Sg := (σ.1, u2 σ.2.1 k i v, σ.2.2)
def uI (σ : Sg) (k i : Nat) (v : Int32) : Sg := (σ.1, σ.2.1, u2 σ.2.2.1 k i v, σ.2.2.2)
def uL (σ : Sg) (k i : Nat) (v : Int64) : Sg := (σ.1, σ.2.1, σ.2.2.1, u2 σ.2.2.2 k i v)
theorem u2_s {α : Type} {f : Nat → Nat → α} {k i : Nat} {v : α} : u2 f k i v k i = v := if_pos ⟨rfl, rfl⟩
theorem u2_k {α : Type} {f : Nat → Nat → α} {k i a b : Nat} {v : α} (h : a ≠ k) : u2 f k i v a b = f a b := if_neg fun q => h q.1
theorem u2_i {α : Type} {f : Nat → Nat → α} {k i a b : Nat} {v : α} (h : b ≠ i) : u2 f k i v a b = f a b := if_neg fun q => h q.2
theorem u2_fk {α β : Type} {f : Nat → Nat → α} {k i a : Nat} {v : α} (h : a ≠ k) (c : α → β) : (fun b => c (u2 f k i v a b)) = fun b => c (f a b) := funext fun b => by rw [u2_k h]
theorem u2_fs {α β : Type} {f : Nat → Nat → α} {k i : Nat} {v : α} (c : α → β) : (fun b => c (u2 f k i v k b)) = fun b => if b = i then c v else c (f k b) := funext fun b => by
  by_cases h : b = i
  · subst h
    rw [u2_s, if_pos rfl]
  · rw [u2_i h, if_neg h]
def mI (n : Nat) : Int32 := nI n - 1
theorem mI_s (n : Nat) : mI (n + 1) = nI n := nI_pred n
theorem mI_0 : mI 0 = -1 := by decide
theorem nI_m1 (n : Nat) : nI n - nI 1 = mI n := rfl

def oM (m : Nat) (σ : Sg) : List Value := [.int (nI (σ.1 3 1)), .int (nI (σ.1 3 0)), .ref (m + 1), .ref (m + 2), .ref (m + 3), .ref (m + 4), .ref (m + 5), .ref (m + 6), .ref (m + 7), .ref (m + 8), .int (σ.2.2.1 8 0), .ref (m + 9), .ref (m + 10), .ref (m + 11), .ref (m + 12), .ref (m + 13), .ref (m + 14), .ref (m + 15), .ref (m + 16), .ref (m + 17), .ref (m + 18), .ref (m + 19), .ref (m + 20), .int (nI (σ.1 3 2)), .ref (m + 21), .ref (m + 22), .ref (m + 23), .int (σ.2.2.1 8 1), .ref (m + 24), .ref (m + 25)]
def cM (g : mG) (m : Nat) (σ : Sg) (k : Nat) : va_E := match k with
  | 0 => .inr (6, oM m σ)
  | 1 => .inl (g.2.1 0, aI 6 (fun i => nI (σ.1 0 i)))
  | 2 => .inl (g.2.1 0, aI 6 (fun i => σ.2.2.1 0 i))
  | 3 => .inl (g.2.1 0, aI 6 (fun i => σ.2.2.1 1 i))
  | 4 => .inl (g.2.1 0, aI 6 (fun i => σ.2.2.1 2 i))
  | 5 => .inl (g.2.1 0, aI 6 (fun i => σ.2.2.1 3 i))
  | 6 => .inl (g.2.1 0, aI 6 (fun i => σ.2.2.1 4 i))
  | 7 => .inl (g.2.1 1, aI 6 (fun i => bI (σ.2.1 0 i)))
  | 8 => .inl (g.2.1 1, aI 6 (fun i => bI (σ.2.1 1 i)))
  | 9 => .inl (g.2.1 1, aI 72 (fun i => bI (σ.2.1 2 i)))
  | 10 => .inl (g.2.1 1, aI 72 (fun i => bI (σ.2.1 3 i)))
  | 11 => .inl (g.2.1 1, aI 72 (fun i => bI (σ.2.1 4 i)))
  | 12 => .inl (g.2.1 2, aL 72 (fun i => σ.2.2.2 0 i))
  | 13 => .inl (g.2.1 0, aI 72 (fun i => σ.2.2.1 5 i))
  | 14 => .inl (g.2.1 0, aI 72 (fun i => σ.2.2.1 6 i))
  | 15 => .inl (g.2.1 1, aI 288 (fun i => bI (σ.2.1 5 i)))
  | 16 => .inl (g.2.1 2, aL 288 (fun i => σ.2.2.2 1 i))
  | 17 => .inl (g.2.1 1, aI 4 (fun i => bI (σ.2.1 6 i)))
  | 18 => .inl (g.2.1 2, aL 31 (fun i => σ.2.2.2 2 i))
  | 19 => .inl (g.2.1 2, aL 31 (fun i => σ.2.2.2 3 i))
  | 20 => .inl (g.2.1 1, aI 31 (fun i => bI (σ.2.1 7 i)))
  | 21 => .inl (g.2.1 0, aI 288 (fun i => nI (σ.1 1 i)))
  | 22 => .inl (g.2.1 0, aI 1440 (fun i => nI (σ.1 2 i)))
  | 23 => .inl (g.2.1 0, aI 5 (fun i => nI (σ.1 4 i)))
  | 24 => .inl (g.2.1 0, aI 4 (fun i => σ.2.2.1 7 i))
  | _ => .inl (g.2.1 0, aI 12 (fun i => mI (σ.1 5 i)))
/-- the reference's object at m holds σ; all else is as in μ0 -/
def RM (g : mG) (m : Nat) (μ0 : mM) (σ : Sg) (μ : mM) : Prop := (∀ k, k < 26 → μ (m + k) = some (cM g m σ k)) ∧ ∀ a, ¬ (m ≤ a ∧ a < m + 26) → μ a = μ0 a
theorem RM.put {g : mG} {m : Nat} {μ0 μ : mM} {σ σ' : Sg} {e : va_E} (h : RM g m μ0 σ μ) (k : Nat) (hk : k < 26) (he : e = cM g m σ' k) (ho : ∀ j, j < 26 → j ≠ k → cM g m σ' j = cM g m σ j) : RM g m μ0 σ' (up μ (m + k) e) := by
  refine ⟨fun j hj => ?_, fun a ha => ?_⟩
  · by_cases q : j = k
    · subst q
      rw [up_s, he]
    · rw [up_n (by omega), ho j hj q]
      exact h.1 j hj
  · rw [up_n (by omega)]
    exact h.2 a ha
theorem lt26 {P : Nat → Prop} (h : ∀ i : Fin 26, P i.val) : ∀ j, j < 26 → P j := fun j hj => h ⟨j, hj⟩
theorem RM.o {g : mG} {m : Nat} {μ0 μ : mM} {σ : Sg} (h : RM g m μ0 σ μ) : μ m = some (.inr (6, oM m σ)) := h.1 0 (by decide)
theorem RM.a1 {g : mG} {m : Nat} {μ0 μ : mM} {σ : Sg} (h : RM g m μ0 σ μ) : μ (m + 1) = some (.inl (g.2.1 0, aI 6 (fun i => nI (σ.1 0 i)))) := h.1 1 (by decide)
theorem RM.a2 {g : mG} {m : Nat} {μ0 μ : mM} {σ : Sg} (h : RM g m μ0 σ μ) : μ (m + 2) = some (.inl (g.2.1 0, aI 6 (fun i => σ.2.2.1 0 i))) := h.1 2 (by decide)
theorem RM.a3 {g : mG} {m : Nat} {μ0 μ : mM} {σ : Sg} (h : RM g m μ0 σ μ) : μ (m + 3) = some (.inl (g.2.1 0, aI 6 (fun i => σ.2.2.1 1 i))) := h.1 3 (by decide)
theorem RM.a4 {g : mG} {m : Nat} {μ0 μ : mM} {σ : Sg} (h : RM g m μ0 σ μ) : μ (m + 4) = some (.inl (g.2.1 0, aI 6 (fun i => σ.2.2.1 2 i))) := h.1 4 (by decide)
theorem RM.a5 {g : mG} {m : Nat} {μ0 μ : mM} {σ : Sg} (h : RM g m μ0 σ μ) : μ (m + 5) = some (.inl (g.2.1 0, aI 6 (fun i => σ.2.2.1 3 i))) := h.1 5 (by decide)
theorem RM.a6 {g : mG} {m : Nat} {μ0 μ : mM} {σ : Sg} (h : RM g m μ0 σ μ) : μ (m + 6) = some (.inl (g.2.1 0, aI 6 (fun i => σ.2.2.1 4 i))) := h.1 6 (by decide)
theorem RM.a7 {g : mG} {m : Nat} {μ0 μ : mM} {σ : Sg} (h : RM g m μ0 σ μ) : μ (m + 7) = some (.inl (g.2.1 1, aI 6 (fun i => bI (σ.2.1 0 i)))) := h.1 7 (by decide)
theorem RM.a8 {g : mG} {m : Nat} {μ0 μ : mM} {σ : Sg} (h : RM g m μ0 σ μ) : μ (m + 8) = some (.inl (g.2.1 1, aI 6 (fun i => bI (σ.2.1 1 i)))) := h.1 8 (by decide)
theorem RM.a9 {g : mG} {m : Nat} {μ0 μ : mM} {σ : Sg} (h : RM g m μ0 σ μ) : μ (m + 9) = some (.inl (g.2.1 1, aI 72 (fun i => bI (σ.2.1 2 i)))) := h.1 9 (by decide)
theorem RM.a10 {g : mG} {m : Nat} {μ0 μ : mM} {σ : Sg} (h : RM g m μ0 σ μ) : μ (m + 10) = some (.inl (g.2.1 1, aI 72 (fun i => bI (σ.2.1 3 i)))) := h.1 10 (by decide)
theorem RM.a11 {g : mG} {m : Nat} {μ0 μ : mM} {σ : Sg} (h : RM g m μ0 σ μ) : μ (m + 11) = some (.inl (g.2.1 1, aI 72 (fun i => bI (σ.2.1 4 i)))) := h.1 11 (by decide)
theorem RM.a12 {g : mG} {m : Nat} {μ0 μ : mM} {σ : Sg} (h : RM g m μ0 σ μ) : μ (m + 12) = some (.inl (g.2.1 2, aL 72 (fun i => σ.2.2.2 0 i))) := h.1 12 (by decide)
theorem RM.a13 {g : mG} {m : Nat} {μ0 μ : mM} {σ : Sg} (h : RM g m μ0 σ μ) : μ (m + 13) = some (.inl (g.2.1 0, aI 72 (fun i => σ.2.2.1 5 i))) := h.1 13 (by decide)
theorem RM.a14 {g : mG} {m : Nat} {μ0 μ : mM} {σ : Sg} (h : RM g m μ0 σ μ) : μ (m + 14) = some (.inl (g.2.1 0, aI 72 (fun i => σ.2.2.1 6 i))) := h.1 14 (by decide)
theorem RM.a15 {g : mG} {m : Nat} {μ0 μ : mM} {σ : Sg} (h : RM g m μ0 σ μ) : μ (m + 15) = some (.inl (g.2.1 1, aI 288 (fun i => bI (σ.2.1 5 i)))) := h.1 15 (by decide)
theorem RM.a16 {g : mG} {m : Nat} {μ0 μ : mM} {σ : Sg} (h : RM g m μ0 σ μ) : μ (m + 16) = some (.inl (g.2.1 2, aL 288 (fun i => σ.2.2.2 1 i))) := h.1 16 (by decide)
theorem RM.a17 {g : mG} {m : Nat} {μ0 μ : mM} {σ : Sg} (h : RM g m μ0 σ μ) : μ (m + 17) = some (.inl (g.2.1 1, aI 4 (fun i => bI (σ.2.1 6 i)))) := h.1 17 (by decide)
theorem RM.a18 {g : mG} {m : Nat} {μ0 μ : mM} {σ : Sg} (h : RM g m μ0 σ μ) : μ (m + 18) = some (.inl (g.2.1 2, aL 31 (fun i => σ.2.2.2 2 i))) := h.1 18 (by decide)
theorem RM.a19 {g : mG} {m : Nat} {μ0 μ : mM} {σ : Sg} (h : RM g m μ0 σ μ) : μ (m + 19) = some (.inl (g.2.1 2, aL 31 (fun i => σ.2.2.2 3 i))) := h.1 19 (by decide)
theorem RM.a20 {g : mG} {m : Nat} {μ0 μ : mM} {σ : Sg} (h : RM g m μ0 σ μ) : μ (m + 20) = some (.inl (g.2.1 1, aI 31 (fun i => bI (σ.2.1 7 i)))) := h.1 20 (by decide)
theorem RM.a21 {g : mG} {m : Nat} {μ0 μ : mM} {σ : Sg} (h : RM g m μ0 σ μ) : μ (m + 21) = some (.inl (g.2.1 0, aI 288 (fun i => nI (σ.1 1 i)))) := h.1 21 (by decide)
theorem RM.a22 {g : mG} {m : Nat} {μ0 μ : mM} {σ : Sg} (h : RM g m μ0 σ μ) : μ (m + 22) = some (.inl (g.2.1 0, aI 1440 (fun i => nI (σ.1 2 i)))) := h.1 22 (by decide)
theorem RM.a23 {g : mG} {m : Nat} {μ0 μ : mM} {σ : Sg} (h : RM g m μ0 σ μ) : μ (m + 23) = some (.inl (g.2.1 0, aI 5 (fun i => nI (σ.1 4 i)))) := h.1 23 (by decide)
theorem RM.a24 {g : mG} {m : Nat} {μ0 μ : mM} {σ : Sg} (h : RM g m μ0 σ μ) : μ (m + 24) = some (.inl (g.2.1 0, aI 4 (fun i => σ.2.2.1 7 i))) := h.1 24 (by decide)
theorem RM.a25 {g : mG} {m : Nat} {μ0 μ : mM} {σ : Sg} (h : RM g m μ0 σ μ) : μ (m + 25) = some (.inl (g.2.1 0, aI 12 (fun i => mI (σ.1 5 i)))) := h.1 25 (by decide)
theorem cM_congr {g : mG} {m : Nat} {σ σ' : Sg} (j : Nat) (hj : j < 26) (h0 : j = 0 → oM m σ' = oM m σ) (h1 : j = 1 → (fun i => nI (σ'.1 0 i)) = (fun i => nI (σ.1 0 i))) (h2 : j = 2 → (fun i => σ'.2.2.1 0 i) = (fun i => σ.2.2.1 0 i)) (h3 : j = 3 → (fun i => σ'.2.2.1 1 i) = (fun i => σ.2.2.1 1 i)) (h4 : j = 4 → (fun i => σ'.2.2.1 2 i) = (fun i => σ.2.2.1 2 i)) (h5 : j = 5 → (fun i => σ'.2.2.1 3 i) = (fun i => σ.2.2.1 3 i)) (h6 : j = 6 → (fun i => σ'.2.2.1 4 i) = (fun i => σ.2.2.1 4 i)) (h7 : j = 7 → (fun i => bI (σ'.2.1 0 i)) = (fun i => bI (σ.2.1 0 i))) (h8 : j = 8 → (fun i => bI (σ'.2.1 1 i)) = (fun i => bI (σ.2.1 1 i))) (h9 : j = 9 → (fun i => bI (σ'.2.1 2 i)) = (fun i => bI (σ.2.1 2 i))) (h10 : j = 10 → (fun i => bI (σ'.2.1 3 i)) = (fun i => bI (σ.2.1 3 i))) (h11 : j = 11 → (fun i => bI (σ'.2.1 4 i)) = (fun i => bI (σ.2.1 4 i))) (h12 : j = 12 → (fun i => σ'.2.2.2 0 i) = (fun i => σ.2.2.2 0 i)) (h13 : j = 13 → (fun i => σ'.2.2.1 5 i) = (fun i => σ.2.2.1 5 i)) (h14 : j = 14 → (fun i => σ'.2.2.1 6 i) = (fun i => σ.2.2.1 6 i)) (h15 : j = 15 → (fun i => bI (σ'.2.1 5 i)) = (fun i => bI (σ.2.1 5 i))) (h16 : j = 16 → (fun i => σ'.2.2.2 1 i) = (fun i => σ.2.2.2 1 i)) (h17 : j = 17 → (fun i => bI (σ'.2.1 6 i)) = (fun i => bI (σ.2.1 6 i))) (h18 : j = 18 → (fun i => σ'.2.2.2 2 i) = (fun i => σ.2.2.2 2 i)) (h19 : j = 19 → (fun i => σ'.2.2.2 3 i) = (fun i => σ.2.2.2 3 i)) (h20 : j = 20 → (fun i => bI (σ'.2.1 7 i)) = (fun i => bI (σ.2.1 7 i))) (h21 : j = 21 → (fun i => nI (σ'.1 1 i)) = (fun i => nI (σ.1 1 i))) (h22 : j = 22 → (fun i => nI (σ'.1 2 i)) = (fun i => nI (σ.1 2 i))) (h23 : j = 23 → (fun i => nI (σ'.1 4 i)) = (fun i => nI (σ.1 4 i))) (h24 : j = 24 → (fun i => σ'.2.2.1 7 i) = (fun i => σ.2.2.1 7 i)) (h25 : j = 25 → (fun i => mI (σ'.1 5 i)) = (fun i => mI (σ.1 5 i))) : cM g m σ' j = cM g m σ j := by
  rcases (show j = 0 ∨ j = 1 ∨ j = 2 ∨ j = 3 ∨ j = 4 ∨ j = 5 ∨ j = 6 ∨ j = 7 ∨ j = 8 ∨ j = 9 ∨ j = 10 ∨ j = 11 ∨ j = 12 ∨ j = 13 ∨ j = 14 ∨ j = 15 ∨ j = 16 ∨ j = 17 ∨ j = 18 ∨ j = 19 ∨ j = 20 ∨ j = 21 ∨ j = 22 ∨ j = 23 ∨ j = 24 ∨ j = 25 by omega) with rfl | rfl | rfl | rfl | rfl | rfl | rfl | rfl | rfl | rfl | rfl | rfl | rfl | rfl | rfl | rfl | rfl | rfl | rfl | rfl | rfl | rfl | rfl | rfl | rfl | rfl
  · show (Sum.inr (6, oM m σ') : va_E) = Sum.inr (6, oM m σ)
    rw [h0 rfl]
  · show (Sum.inl (g.2.1 0, aI 6 (fun i => nI (σ'.1 0 i))) : va_E) = Sum.inl (g.2.1 0, aI 6 (fun i => nI (σ.1 0 i)))
    rw [h1 rfl]
  · show (Sum.inl (g.2.1 0, aI 6 (fun i => σ'.2.2.1 0 i)) : va_E) = Sum.inl (g.2.1 0, aI 6 (fun i => σ.2.2.1 0 i))
    rw [h2 rfl]
  · show (Sum.inl (g.2.1 0, aI 6 (fun i => σ'.2.2.1 1 i)) : va_E) = Sum.inl (g.2.1 0, aI 6 (fun i => σ.2.2.1 1 i))
    rw [h3 rfl]
  · show (Sum.inl (g.2.1 0, aI 6 (fun i => σ'.2.2.1 2 i)) : va_E) = Sum.inl (g.2.1 0, aI 6 (fun i => σ.2.2.1 2 i))
    rw [h4 rfl]
  · show (Sum.inl (g.2.1 0, aI 6 (fun i => σ'.2.2.1 3 i)) : va_E) = Sum.inl (g.2.1 0, aI 6 (fun i => σ.2.2.1 3 i))
    rw [h5 rfl]
  · show (Sum.inl (g.2.1 0, aI 6 (fun i => σ'.2.2.1 4 i)) : va_E) = Sum.inl (g.2.1 0, aI 6 (fun i => σ.2.2.1 4 i))
    rw [h6 rfl]
  · show (Sum.inl (g.2.1 1, aI 6 (fun i => bI (σ'.2.1 0 i))) : va_E) = Sum.inl (g.2.1 1, aI 6 (fun i => bI (σ.2.1 0 i)))
    rw [h7 rfl]
  · show (Sum.inl (g.2.1 1, aI 6 (fun i => bI (σ'.2.1 1 i))) : va_E) = Sum.inl (g.2.1 1, aI 6 (fun i => bI (σ.2.1 1 i)))
    rw [h8 rfl]
  · show (Sum.inl (g.2.1 1, aI 72 (fun i => bI (σ'.2.1 2 i))) : va_E) = Sum.inl (g.2.1 1, aI 72 (fun i => bI (σ.2.1 2 i)))
    rw [h9 rfl]
  · show (Sum.inl (g.2.1 1, aI 72 (fun i => bI (σ'.2.1 3 i))) : va_E) = Sum.inl (g.2.1 1, aI 72 (fun i => bI (σ.2.1 3 i)))
    rw [h10 rfl]
  · show (Sum.inl (g.2.1 1, aI 72 (fun i => bI (σ'.2.1 4 i))) : va_E) = Sum.inl (g.2.1 1, aI 72 (fun i => bI (σ.2.1 4 i)))
    rw [h11 rfl]
  · show (Sum.inl (g.2.1 2, aL 72 (fun i => σ'.2.2.2 0 i)) : va_E) = Sum.inl (g.2.1 2, aL 72 (fun i => σ.2.2.2 0 i))
    rw [h12 rfl]
  · show (Sum.inl (g.2.1 0, aI 72 (fun i => σ'.2.2.1 5 i)) : va_E) = Sum.inl (g.2.1 0, aI 72 (fun i => σ.2.2.1 5 i))
    rw [h13 rfl]
  · show (Sum.inl (g.2.1 0, aI 72 (fun i => σ'.2.2.1 6 i)) : va_E) = Sum.inl (g.2.1 0, aI 72 (fun i => σ.2.2.1 6 i))
    rw [h14 rfl]
  · show (Sum.inl (g.2.1 1, aI 288 (fun i => bI (σ'.2.1 5 i))) : va_E) = Sum.inl (g.2.1 1, aI 288 (fun i => bI (σ.2.1 5 i)))
    rw [h15 rfl]
  · show (Sum.inl (g.2.1 2, aL 288 (fun i => σ'.2.2.2 1 i)) : va_E) = Sum.inl (g.2.1 2, aL 288 (fun i => σ.2.2.2 1 i))
    rw [h16 rfl]
  · show (Sum.inl (g.2.1 1, aI 4 (fun i => bI (σ'.2.1 6 i))) : va_E) = Sum.inl (g.2.1 1, aI 4 (fun i => bI (σ.2.1 6 i)))
    rw [h17 rfl]
  · show (Sum.inl (g.2.1 2, aL 31 (fun i => σ'.2.2.2 2 i)) : va_E) = Sum.inl (g.2.1 2, aL 31 (fun i => σ.2.2.2 2 i))
    rw [h18 rfl]
  · show (Sum.inl (g.2.1 2, aL 31 (fun i => σ'.2.2.2 3 i)) : va_E) = Sum.inl (g.2.1 2, aL 31 (fun i => σ.2.2.2 3 i))
    rw [h19 rfl]
  · show (Sum.inl (g.2.1 1, aI 31 (fun i => bI (σ'.2.1 7 i))) : va_E) = Sum.inl (g.2.1 1, aI 31 (fun i => bI (σ.2.1 7 i)))
    rw [h20 rfl]
  · show (Sum.inl (g.2.1 0, aI 288 (fun i => nI (σ'.1 1 i))) : va_E) = Sum.inl (g.2.1 0, aI 288 (fun i => nI (σ.1 1 i)))
    rw [h21 rfl]
  · show (Sum.inl (g.2.1 0, aI 1440 (fun i => nI (σ'.1 2 i))) : va_E) = Sum.inl (g.2.1 0, aI 1440 (fun i => nI (σ.1 2 i)))
    rw [h22 rfl]
  · show (Sum.inl (g.2.1 0, aI 5 (fun i => nI (σ'.1 4 i))) : va_E) = Sum.inl (g.2.1 0, aI 5 (fun i => nI (σ.1 4 i)))
    rw [h23 rfl]
  · show (Sum.inl (g.2.1 0, aI 4 (fun i => σ'.2.2.1 7 i)) : va_E) = Sum.inl (g.2.1 0, aI 4 (fun i => σ.2.2.1 7 i))
    rw [h24 rfl]
  · show (Sum.inl (g.2.1 0, aI 12 (fun i => mI (σ'.1 5 i))) : va_E) = Sum.inl (g.2.1 0, aI 12 (fun i => mI (σ.1 5 i)))
    rw [h25 rfl]
theorem RM.p1 {g : mG} {m : Nat} {μ0 μ μ1 : mM} {σ : Sg} (h : RM g m μ0 σ μ) {i0 : Nat} {v : Nat} (e : μ1 = up μ (m + 1) (.inl (g.2.1 0, aI 6 (upd (fun i => nI (σ.1 0 i)) i0 (nI v))))) : RM g m μ0 (uN σ 0 i0 v) μ1 := by
  subst e
  refine h.put 1 (by decide) ?_ (fun j hj hne => cM_congr j hj (fun _ => rfl) (fun q => absurd q hne) (fun _ => rfl) (fun _ => rfl) (fun _ => rfl) (fun _ => rfl) (fun _ => rfl) (fun _ => rfl) (fun _ => rfl) (fun _ => rfl) (fun _ => rfl) (fun _ => rfl) (fun _ => rfl) (fun _ => rfl) (fun _ => rfl) (fun _ => rfl) (fun _ => rfl) (fun _ => rfl) (fun _ => rfl) (fun _ => rfl) (fun _ => rfl) (fun _ => funext fun b => congrArg nI (u2_k (f := σ.1) (k := 0) (i := i0) (a := 1) (b := b) (v := v) (by decide))) (fun _ => funext fun b => congrArg nI (u2_k (f := σ.1) (k := 0) (i := i0) (a := 2) (b := b) (v := v) (by decide))) (fun _ => funext fun b => congrArg nI (u2_k (f := σ.1) (k := 0) (i := i0) (a := 4) (b := b) (v := v) (by decide))) (fun _ => rfl) (fun _ => funext fun b => congrArg mI (u2_k (f := σ.1) (k := 0) (i := i0) (a := 5) (b := b) (v := v) (by decide))))
  show _ = (Sum.inl (g.2.1 0, aI 6 (fun i => nI ((uN σ 0 i0 v).1 0 i))) : va_E)
  have e9 : (fun i => nI ((uN σ 0 i0 v).1 0 i)) = upd (fun i => nI (σ.1 0 i)) i0 (nI v) := u2_fs (f := σ.1) (k := 0) (i := i0) (v := v) nI
  rw [e9]
theorem RM.p2 {g : mG} {m : Nat} {μ0 μ μ1 : mM} {σ : Sg} (h : RM g m μ0 σ μ) {i0 : Nat} {v : Int32} (e : μ1 = up μ (m + 2) (.inl (g.2.1 0, aI 6 (upd (fun i => σ.2.2.1 0 i) i0 (v))))) : RM g m μ0 (uI σ 0 i0 v) μ1 := by
  subst e
  refine h.put 2 (by decide) ?_ (fun j hj hne => cM_congr j hj (fun _ => rfl) (fun _ => rfl) (fun q => absurd q hne) (fun _ => funext fun b => congrArg (fun x => x) (u2_k (f := σ.2.2.1) (k := 0) (i := i0) (a := 1) (b := b) (v := v) (by decide))) (fun _ => funext fun b => congrArg (fun x => x) (u2_k (f := σ.2.2.1) (k := 0) (i := i0) (a := 2) (b := b) (v := v) (by decide))) (fun _ => funext fun b => congrArg (fun x => x) (u2_k (f := σ.2.2.1) (k := 0) (i := i0) (a := 3) (b := b) (v := v) (by decide))) (fun _ => funext fun b => congrArg (fun x => x) (u2_k (f := σ.2.2.1) (k := 0) (i := i0) (a := 4) (b := b) (v := v) (by decide))) (fun _ => rfl) (fun _ => rfl) (fun _ => rfl) (fun _ => rfl) (fun _ => rfl) (fun _ => rfl) (fun _ => funext fun b => congrArg (fun x => x) (u2_k (f := σ.2.2.1) (k := 0) (i := i0) (a := 5) (b := b) (v := v) (by decide))) (fun _ => funext fun b => congrArg (fun x => x) (u2_k (f := σ.2.2.1) (k := 0) (i := i0) (a := 6) (b := b) (v := v) (by decide))) (fun _ => rfl) (fun _ => rfl) (fun _ => rfl) (fun _ => rfl) (fun _ => rfl) (fun _ => rfl) (fun _ => rfl) (fun _ => rfl) (fun _ => rfl) (fun _ => funext fun b => congrArg (fun x => x) (u2_k (f := σ.2.2.1) (k := 0) (i := i0) (a := 7) (b := b) (v := v) (by decide))) (fun _ => rfl))
  show _ = (Sum.inl (g.2.1 0, aI 6 (fun i => (uI σ 0 i0 v).2.2.1 0 i)) : va_E)
  have e9 : (fun i => (uI σ 0 i0 v).2.2.1 0 i) = upd (fun i => σ.2.2.1 0 i) i0 (v) := u2_fs (f := σ.2.2.1) (k := 0) (i := i0) (v := v) (fun x => x)
  rw [e9]
theorem RM.p3 {g : mG} {m : Nat} {μ0 μ μ1 : mM} {σ : Sg} (h : RM g m μ0 σ μ) {i0 : Nat} {v : Int32} (e : μ1 = up μ (m + 3) (.inl (g.2.1 0, aI 6 (upd (fun i => σ.2.2.1 1 i) i0 (v))))) : RM g m μ0 (uI σ 1 i0 v) μ1 := by
  subst e
  refine h.put 3 (by decide) ?_ (fun j hj hne => cM_congr j hj (fun _ => rfl) (fun _ => rfl) (fun _ => funext fun b => congrArg (fun x => x) (u2_k (f := σ.2.2.1) (k := 1) (i := i0) (a := 0) (b := b) (v := v) (by decide))) (fun q => absurd q hne) (fun _ => funext fun b => congrArg (fun x => x) (u2_k (f := σ.2.2.1) (k := 1) (i := i0) (a := 2) (b := b) (v := v) (by decide))) (fun _ => funext fun b => congrArg (fun x => x) (u2_k (f := σ.2.2.1) (k := 1) (i := i0) (a := 3) (b := b) (v := v) (by decide))) (fun _ => funext fun b => congrArg (fun x => x) (u2_k (f := σ.2.2.1) (k := 1) (i := i0) (a := 4) (b := b) (v := v) (by decide))) (fun _ => rfl) (fun _ => rfl) (fun _ => rfl) (fun _ => rfl) (fun _ => rfl) (fun _ => rfl) (fun _ => funext fun b => congrArg (fun x => x) (u2_k (f := σ.2.2.1) (k := 1) (i := i0) (a := 5) (b := b) (v := v) (by decide))) (fun _ => funext fun b => congrArg (fun x => x) (u2_k (f := σ.2.2.1) (k := 1) (i := i0) (a := 6) (b := b) (v := v) (by decide))) (fun _ => rfl) (fun _ => rfl) (fun _ => rfl) (fun _ => rfl) (fun _ => rfl) (fun _ => rfl) (fun _ => rfl) (fun _ => rfl) (fun _ => rfl) (fun _ => funext fun b => congrArg (fun x => x) (u2_k (f := σ.2.2.1) (k := 1) (i := i0) (a := 7) (b := b) (v := v) (by decide))) (fun _ => rfl))
  show _ = (Sum.inl (g.2.1 0, aI 6 (fun i => (uI σ 1 i0 v).2.2.1 1 i)) : va_E)
  have e9 : (fun i => (uI σ 1 i0 v).2.2.1 1 i) = upd (fun i => σ.2.2.1 1 i) i0 (v) := u2_fs (f := σ.2.2.1) (k := 1) (i := i0) (v := v) (fun x => x)
  rw [e9]
theorem RM.p4 {g : mG} {m : Nat} {μ0 μ μ1 : mM} {σ : Sg} (h : RM g m μ0 σ μ) {i0 : Nat} {v : Int32} (e : μ1 = up μ (m + 4) (.inl (g.2.1 0, aI 6 (upd (fun i => σ.2.2.1 2 i) i0 (v))))) : RM g m μ0 (uI σ 2 i0 v) μ1 := by
  subst e
  refine h.put 4 (by decide) ?_ (fun j hj hne => cM_congr j hj (fun _ => rfl) (fun _ => rfl) (fun _ => funext fun b => congrArg (fun x => x) (u2_k (f := σ.2.2.1) (k := 2) (i := i0) (a := 0) (b := b) (v := v) (by decide))) (fun _ => funext fun b => congrArg (fun x => x) (u2_k (f := σ.2.2.1) (k := 2) (i := i0) (a := 1) (b := b) (v := v) (by decide))) (fun q => absurd q hne) (fun _ => funext fun b => congrArg (fun x => x) (u2_k (f := σ.2.2.1) (k := 2) (i := i0) (a := 3) (b := b) (v := v) (by decide))) (fun _ => funext fun b => congrArg (fun x => x) (u2_k (f := σ.2.2.1) (k := 2) (i := i0) (a := 4) (b := b) (v := v) (by decide))) (fun _ => rfl) (fun _ => rfl) (fun _ => rfl) (fun _ => rfl) (fun _ => rfl) (fun _ => rfl) (fun _ => funext fun b => congrArg (fun x => x) (u2_k (f := σ.2.2.1) (k := 2) (i := i0) (a := 5) (b := b) (v := v) (by decide))) (fun _ => funext fun b => congrArg (fun x => x) (u2_k (f := σ.2.2.1) (k := 2) (i := i0) (a := 6) (b := b) (v := v) (by decide))) (fun _ => rfl) (fun _ => rfl) (fun _ => rfl) (fun _ => rfl) (fun _ => rfl) (fun _ => rfl) (fun _ => rfl) (fun _ => rfl) (fun _ => rfl) (fun _ => funext fun b => congrArg (fun x => x) (u2_k (f := σ.2.2.1) (k := 2) (i := i0) (a := 7) (b := b) (v := v) (by decide))) (fun _ => rfl))
  show _ = (Sum.inl (g.2.1 0, aI 6 (fun i => (uI σ 2 i0 v).2.2.1 2 i)) : va_E)
  have e9 : (fun i => (uI σ 2 i0 v).2.2.1 2 i) = upd (fun i => σ.2.2.1 2 i) i0 (v) := u2_fs (f := σ.2.2.1) (k := 2) (i := i0) (v := v) (fun x => x)
  rw [e9]
theorem RM.p5 {g : mG} {m : Nat} {μ0 μ μ1 : mM} {σ : Sg} (h : RM g m μ0 σ μ) {i0 : Nat} {v : Int32} (e : μ1 = up μ (m + 5) (.inl (g.2.1 0, aI 6 (upd (fun i => σ.2.2.1 3 i) i0 (v))))) : RM g m μ0 (uI σ 3 i0 v) μ1 := by
  subst e
  refine h.put 5 (by decide) ?_ (fun j hj hne => cM_congr j hj (fun _ => rfl) (fun _ => rfl) (fun _ => funext fun b => congrArg (fun x => x) (u2_k (f := σ.2.2.1) (k := 3) (i := i0) (a := 0) (b := b) (v := v) (by decide))) (fun _ => funext fun b => congrArg (fun x => x) (u2_k (f := σ.2.2.1) (k := 3) (i := i0) (a := 1) (b := b) (v := v) (by decide))) (fun _ => funext fun b => congrArg (fun x => x) (u2_k (f := σ.2.2.1) (k := 3) (i := i0) (a := 2) (b := b) (v := v) (by decide))) (fun q => absurd q hne) (fun _ => funext fun b => congrArg (fun x => x) (u2_k (f := σ.2.2.1) (k := 3) (i := i0) (a := 4) (b := b) (v := v) (by decide))) (fun _ => rfl) (fun _ => rfl) (fun _ => rfl) (fun _ => rfl) (fun _ => rfl) (fun _ => rfl) (fun _ => funext fun b => congrArg (fun x => x) (u2_k (f := σ.2.2.1) (k := 3) (i := i0) (a := 5) (b := b) (v := v) (by decide))) (fun _ => funext fun b => congrArg (fun x => x) (u2_k (f := σ.2.2.1) (k := 3) (i := i0) (a := 6) (b := b) (v := v) (by decide))) (fun _ => rfl) (fun _ => rfl) (fun _ => rfl) (fun _ => rfl) (fun _ => rfl) (fun _ => rfl) (fun _ => rfl) (fun _ => rfl) (fun _ => rfl) (fun _ => funext fun b => congrArg (fun x => x) (u2_k (f := σ.2.2.1) (k := 3) (i := i0) (a := 7) (b := b) (v := v) (by decide))) (fun _ => rfl))
  show _ = (Sum.inl (g.2.1 0, aI 6 (fun i => (uI σ 3 i0 v).2.2.1 3 i)) : va_E)
  have e9 : (fun i => (uI σ 3 i0 v).2.2.1 3 i) = upd (fun i => σ.2.2.1 3 i) i0 (v) := u2_fs (f := σ.2.2.1) (k := 3) (i := i0) (v := v) (fun x => x)
  rw [e9]
theorem RM.p6 {g : mG} {m : Nat} {μ0 μ μ1 : mM} {σ : Sg} (h : RM g m μ0 σ μ) {i0 : Nat} {v : Int32} (e : μ1 = up μ (m + 6) (.inl (g.2.1 0, aI 6 (upd (fun i => σ.2.2.1 4 i) i0 (v))))) : RM g m μ0 (uI σ 4 i0 v) μ1 := by
  subst e
  refine h.put 6 (by decide) ?_ (fun j hj hne => cM_congr j hj (fun _ => rfl) (fun _ => rfl) (fun _ => funext fun b => congrArg (fun x => x) (u2_k (f := σ.2.2.1) (k := 4) (i := i0) (a := 0) (b := b) (v := v) (by decide))) (fun _ => funext fun b => congrArg (fun x => x) (u2_k (f := σ.2.2.1) (k := 4) (i := i0) (a := 1) (b := b) (v := v) (by decide))) (fun _ => funext fun b => congrArg (fun x => x) (u2_k (f := σ.2.2.1) (k := 4) (i := i0) (a := 2) (b := b) (v := v) (by decide))) (fun _ => funext fun b => congrArg (fun x => x) (u2_k (f := σ.2.2.1) (k := 4) (i := i0) (a := 3) (b := b) (v := v) (by decide))) (fun q => absurd q hne) (fun _ => rfl) (fun _ => rfl) (fun _ => rfl) (fun _ => rfl) (fun _ => rfl) (fun _ => rfl) (fun _ => funext fun b => congrArg (fun x => x) (u2_k (f := σ.2.2.1) (k := 4) (i := i0) (a := 5) (b := b) (v := v) (by decide))) (fun _ => funext fun b => congrArg (fun x => x) (u2_k (f := σ.2.2.1) (k := 4) (i := i0) (a := 6) (b := b) (v := v) (by decide))) (fun _ => rfl) (fun _ => rfl) (fun _ => rfl) (fun _ => rfl) (fun _ => rfl) (fun _ => rfl) (fun _ => rfl) (fun _ => rfl) (fun _ => rfl) (fun _ => funext fun b => congrArg (fun x => x) (u2_k (f := σ.2.2.1) (k := 4) (i := i0) (a := 7) (b := b) (v := v) (by decide))) (fun _ => rfl))
  show _ = (Sum.inl (g.2.1 0, aI 6 (fun i => (uI σ 4 i0 v).2.2.1 4 i)) : va_E)
  have e9 : (fun i => (uI σ 4 i0 v).2.2.1 4 i) = upd (fun i => σ.2.2.1 4 i) i0 (v) := u2_fs (f := σ.2.2.1) (k := 4) (i := i0) (v := v) (fun x => x)
  rw [e9]
theorem RM.p7 {g : mG} {m : Nat} {μ0 μ μ1 : mM} {σ : Sg} (h : RM g m μ0 σ μ) {i0 : Nat} {v : Bool} (e : μ1 = up μ (m + 7) (.inl (g.2.1 1, aI 6 (upd (fun i => bI (σ.2.1 0 i)) i0 (bI v))))) : RM g m μ0 (uB σ 0 i0 v) μ1 := by
  subst e
  refine h.put 7 (by decide) ?_ (fun j hj hne => cM_congr j hj (fun _ => rfl) (fun _ => rfl) (fun _ => rfl) (fun _ => rfl) (fun _ => rfl) (fun _ => rfl) (fun _ => rfl) (fun q => absurd q hne) (fun _ => funext fun b => congrArg bI (u2_k (f := σ.2.1) (k := 0) (i := i0) (a := 1) (b := b) (v := v) (by decide))) (fun _ => funext fun b => congrArg bI (u2_k (f := σ.2.1) (k := 0) (i := i0) (a := 2) (b := b) (v := v) (by decide))) (fun _ => funext fun b => congrArg bI (u2_k (f := σ.2.1) (k := 0) (i := i0) (a := 3) (b := b) (v := v) (by decide))) (fun _ => funext fun b => congrArg bI (u2_k (f := σ.2.1) (k := 0) (i := i0) (a := 4) (b := b) (v := v) (by decide))) (fun _ => rfl) (fun _ => rfl) (fun _ => rfl) (fun _ => funext fun b => congrArg bI (u2_k (f := σ.2.1) (k := 0) (i := i0) (a := 5) (b := b) (v := v) (by decide))) (fun _ => rfl) (fun _ => funext fun b => congrArg bI (u2_k (f := σ.2.1) (k := 0) (i := i0) (a := 6) (b := b) (v := v) (by decide))) (fun _ => rfl) (fun _ => rfl) (fun _ => funext fun b => congrArg bI (u2_k (f := σ.2.1) (k := 0) (i := i0) (a := 7) (b := b) (v := v) (by decide))) (fun _ => rfl) (fun _ => rfl) (fun _ => rfl) (fun _ => rfl) (fun _ => rfl))
  show _ = (Sum.inl (g.2.1 1, aI 6 (fun i => bI ((uB σ 0 i0 v).2.1 0 i))) : va_E)
  have e9 : (fun i => bI ((uB σ 0 i0 v).2.1 0 i)) = upd (fun i => bI (σ.2.1 0 i)) i0 (bI v) := u2_fs (f := σ.2.1) (k := 0) (i := i0) (v := v) bI
  rw [e9]
theorem RM.p8 {g : mG} {m : Nat} {μ0 μ μ1 : mM} {σ : Sg} (h : RM g m μ0 σ μ) {i0 : Nat} {v : Bool} (e : μ1 = up μ (m + 8) (.inl (g.2.1 1, aI 6 (upd (fun i => bI (σ.2.1 1 i)) i0 (bI v))))) : RM g m μ0 (uB σ 1 i0 v) μ1 := by
  subst e
  refine h.put 8 (by decide) ?_ (fun j hj hne => cM_congr j hj (fun _ => rfl) (fun _ => rfl) (fun _ => rfl) (fun _ => rfl) (fun _ => rfl) (fun _ => rfl) (fun _ => rfl) (fun _ => funext fun b => congrArg bI (u2_k (f := σ.2.1) (k := 1) (i := i0) (a := 0) (b := b) (v := v) (by decide))) (fun q => absurd q hne) (fun _ => funext fun b => congrArg bI (u2_k (f := σ.2.1) (k := 1) (i := i0) (a := 2) (b := b) (v := v) (by decide))) (fun _ => funext fun b => congrArg bI (u2_k (f := σ.2.1) (k := 1) (i := i0) (a := 3) (b := b) (v := v) (by decide))) (fun _ => funext fun b => congrArg bI (u2_k (f := σ.2.1) (k := 1) (i := i0) (a := 4) (b := b) (v := v) (by decide))) (fun _ => rfl) (fun _ => rfl) (fun _ => rfl) (fun _ => funext fun b => congrArg bI (u2_k (f := σ.2.1) (k := 1) (i := i0) (a := 5) (b := b) (v := v) (by decide))) (fun _ => rfl) (fun _ => funext fun b => congrArg bI (u2_k (f := σ.2.1) (k := 1) (i := i0) (a := 6) (b := b) (v := v) (by decide))) (fun _ => rfl) (fun _ => rfl) (fun _ => funext fun b => congrArg bI (u2_k (f := σ.2.1) (k := 1) (i := i0) (a := 7) (b := b) (v := v) (by decide))) (fun _ => rfl) (fun _ => rfl) (fun _ => rfl) (fun _ => rfl) (fun _ => rfl))
  show _ = (Sum.inl (g.2.1 1, aI 6 (fun i => bI ((uB σ 1 i0 v).2.1 1 i))) : va_E)
  have e9 : (fun i => bI ((uB σ 1 i0 v).2.1 1 i)) = upd (fun i => bI (σ.2.1 1 i)) i0 (bI v) := u2_fs (f := σ.2.1) (k := 1) (i := i0) (v := v) bI
  rw [e9]
theorem RM.p9 {g : mG} {m : Nat} {μ0 μ μ1 : mM} {σ : Sg} (h : RM g m μ0 σ μ) {i0 : Nat} {v : Bool} (e : μ1 = up μ (m + 9) (.inl (g.2.1 1, aI 72 (upd (fun i => bI (σ.2.1 2 i)) i0 (bI v))))) : RM g m μ0 (uB σ 2 i0 v) μ1 := by
  subst e
  refine h.put 9 (by decide) ?_ (fun j hj hne => cM_congr j hj (fun _ => rfl) (fun _ => rfl) (fun _ => rfl) (fun _ => rfl) (fun _ => rfl) (fun _ => rfl) (fun _ => rfl) (fun _ => funext fun b => congrArg bI (u2_k (f := σ.2.1) (k := 2) (i := i0) (a := 0) (b := b) (v := v) (by decide))) (fun _ => funext fun b => congrArg bI (u2_k (f := σ.2.1) (k := 2) (i := i0) (a := 1) (b := b) (v := v) (by decide))) (fun q => absurd q hne) (fun _ => funext fun b => congrArg bI (u2_k (f := σ.2.1) (k := 2) (i := i0) (a := 3) (b := b) (v := v) (by decide))) (fun _ => funext fun b => congrArg bI (u2_k (f := σ.2.1) (k := 2) (i := i0) (a := 4) (b := b) (v := v) (by decide))) (fun _ => rfl) (fun _ => rfl) (fun _ => rfl) (fun _ => funext fun b => congrArg bI (u2_k (f := σ.2.1) (k := 2) (i := i0) (a := 5) (b := b) (v := v) (by decide))) (fun _ => rfl) (fun _ => funext fun b => congrArg bI (u2_k (f := σ.2.1) (k := 2) (i := i0) (a := 6) (b := b) (v := v) (by decide))) (fun _ => rfl) (fun _ => rfl) (fun _ => funext fun b => congrArg bI (u2_k (f := σ.2.1) (k := 2) (i := i0) (a := 7) (b := b) (v := v) (by decide))) (fun _ => rfl) (fun _ => rfl) (fun _ => rfl) (fun _ => rfl) (fun _ => rfl))
  show _ = (Sum.inl (g.2.1 1, aI 72 (fun i => bI ((uB σ 2 i0 v).2.1 2 i))) : va_E)
  have e9 : (fun i => bI ((uB σ 2 i0 v).2.1 2 i)) = upd (fun i => bI (σ.2.1 2 i)) i0 (bI v) := u2_fs (f := σ.2.1) (k := 2) (i := i0) (v := v) bI
  rw [e9]
theorem RM.p10 {g : mG} {m : Nat} {μ0 μ μ1 : mM} {σ : Sg} (h : RM g m μ0 σ μ) {i0 : Nat} {v : Bool} (e : μ1 = up μ (m + 10) (.inl (g.2.1 1, aI 72 (upd (fun i => bI (σ.2.1 3 i)) i0 (bI v))))) : RM g m μ0 (uB σ 3 i0 v) μ1 := by
  subst e
  refine h.put 10 (by decide) ?_ (fun j hj hne => cM_congr j hj (fun _ => rfl) (fun _ => rfl) (fun _ => rfl) (fun _ => rfl) (fun _ => rfl) (fun _ => rfl) (fun _ => rfl) (fun _ => funext fun b => congrArg bI (u2_k (f := σ.2.1) (k := 3) (i := i0) (a := 0) (b := b) (v := v) (by decide))) (fun _ => funext fun b => congrArg bI (u2_k (f := σ.2.1) (k := 3) (i := i0) (a := 1) (b := b) (v := v) (by decide))) (fun _ => funext fun b => congrArg bI (u2_k (f := σ.2.1) (k := 3) (i := i0) (a := 2) (b := b) (v := v) (by decide))) (fun q => absurd q hne) (fun _ => funext fun b => congrArg bI (u2_k (f := σ.2.1) (k := 3) (i := i0) (a := 4) (b := b) (v := v) (by decide))) (fun _ => rfl) (fun _ => rfl) (fun _ => rfl) (fun _ => funext fun b => congrArg bI (u2_k (f := σ.2.1) (k := 3) (i := i0) (a := 5) (b := b) (v := v) (by decide))) (fun _ => rfl) (fun _ => funext fun b => congrArg bI (u2_k (f := σ.2.1) (k := 3) (i := i0) (a := 6) (b := b) (v := v) (by decide))) (fun _ => rfl) (fun _ => rfl) (fun _ => funext fun b => congrArg bI (u2_k (f := σ.2.1) (k := 3) (i := i0) (a := 7) (b := b) (v := v) (by decide))) (fun _ => rfl) (fun _ => rfl) (fun _ => rfl) (fun _ => rfl) (fun _ => rfl))
  show _ = (Sum.inl (g.2.1 1, aI 72 (fun i => bI ((uB σ 3 i0 v).2.1 3 i))) : va_E)
  have e9 : (fun i => bI ((uB σ 3 i0 v).2.1 3 i)) = upd (fun i => bI (σ.2.1 3 i)) i0 (bI v) := u2_fs (f := σ.2.1) (k := 3) (i := i0) (v := v) bI
  rw [e9]
theorem RM.p11 {g : mG} {m : Nat} {μ0 μ μ1 : mM} {σ : Sg} (h : RM g m μ0 σ μ) {i0 : Nat} {v : Bool} (e : μ1 = up μ (m + 11) (.inl (g.2.1 1, aI 72 (upd (fun i => bI (σ.2.1 4 i)) i0 (bI v))))) : RM g m μ0 (uB σ 4 i0 v) μ1 := by
  subst e
  refine h.put 11 (by decide) ?_ (fun j hj hne => cM_congr j hj (fun _ => rfl) (fun _ => rfl) (fun _ => rfl) (fun _ => rfl) (fun _ => rfl) (fun _ => rfl) (fun _ => rfl) (fun _ => funext fun b => congrArg bI (u2_k (f := σ.2.1) (k := 4) (i := i0) (a := 0) (b := b) (v := v) (by decide))) (fun _ => funext fun b => congrArg bI (u2_k (f := σ.2.1) (k := 4) (i := i0) (a := 1) (b := b) (v := v) (by decide))) (fun _ => funext fun b => congrArg bI (u2_k (f := σ.2.1) (k := 4) (i := i0) (a := 2) (b := b) (v := v) (by decide))) (fun _ => funext fun b => congrArg bI (u2_k (f := σ.2.1) (k := 4) (i := i0) (a := 3) (b := b) (v := v) (by decide))) (fun q => absurd q hne) (fun _ => rfl) (fun _ => rfl) (fun _ => rfl) (fun _ => funext fun b => congrArg bI (u2_k (f := σ.2.1) (k := 4) (i := i0) (a := 5) (b := b) (v := v) (by decide))) (fun _ => rfl) (fun _ => funext fun b => congrArg bI (u2_k (f := σ.2.1) (k := 4) (i := i0) (a := 6) (b := b) (v := v) (by decide))) (fun _ => rfl) (fun _ => rfl) (fun _ => funext fun b => congrArg bI (u2_k (f := σ.2.1) (k := 4) (i := i0) (a := 7) (b := b) (v := v) (by decide))) (fun _ => rfl) (fun _ => rfl) (fun _ => rfl) (fun _ => rfl) (fun _ => rfl))
  show _ = (Sum.inl (g.2.1 1, aI 72 (fun i => bI ((uB σ 4 i0 v).2.1 4 i))) : va_E)
  have e9 : (fun i => bI ((uB σ 4 i0 v).2.1 4 i)) = upd (fun i => bI (σ.2.1 4 i)) i0 (bI v) := u2_fs (f := σ.2.1) (k := 4) (i := i0) (v := v) bI
  rw [e9]
theorem RM.p12 {g : mG} {m : Nat} {μ0 μ μ1 : mM} {σ : Sg} (h : RM g m μ0 σ μ) {i0 : Nat} {v : Int64} (e : μ1 = up μ (m + 12) (.inl (g.2.1 2, aL 72 (vp_updL (fun i => σ.2.2.2 0 i) i0 (v))))) : RM g m μ0 (uL σ 0 i0 v) μ1 := by
  subst e
  refine h.put 12 (by decide) ?_ (fun j hj hne => cM_congr j hj (fun _ => rfl) (fun _ => rfl) (fun _ => rfl) (fun _ => rfl) (fun _ => rfl) (fun _ => rfl) (fun _ => rfl) (fun _ => rfl) (fun _ => rfl) (fun _ => rfl) (fun _ => rfl) (fun _ => rfl) (fun q => absurd q hne) (fun _ => rfl) (fun _ => rfl) (fun _ => rfl) (fun _ => funext fun b => congrArg (fun x => x) (u2_k (f := σ.2.2.2) (k := 0) (i := i0) (a := 1) (b := b) (v := v) (by decide))) (fun _ => rfl) (fun _ => funext fun b => congrArg (fun x => x) (u2_k (f := σ.2.2.2) (k := 0) (i := i0) (a := 2) (b := b) (v := v) (by decide))) (fun _ => funext fun b => congrArg (fun x => x) (u2_k (f := σ.2.2.2) (k := 0) (i := i0) (a := 3) (b := b) (v := v) (by decide))) (fun _ => rfl) (fun _ => rfl) (fun _ => rfl) (fun _ => rfl) (fun _ => rfl) (fun _ => rfl))
  show _ = (Sum.inl (g.2.1 2, aL 72 (fun i => (uL σ 0 i0 v).2.2.2 0 i)) : va_E)
  have e9 : (fun i => (uL σ 0 i0 v).2.2.2 0 i) = vp_updL (fun i => σ.2.2.2 0 i) i0 (v) := u2_fs (f := σ.2.2.2) (k := 0) (i := i0) (v := v) (fun x => x)
  rw [e9]
theorem RM.p13 {g : mG} {m : Nat} {μ0 μ μ1 : mM} {σ : Sg} (h : RM g m μ0 σ μ) {i0 : Nat} {v : Int32} (e : μ1 = up μ (m + 13) (.inl (g.2.1 0, aI 72 (upd (fun i => σ.2.2.1 5 i) i0 (v))))) : RM g m μ0 (uI σ 5 i0 v) μ1 := by
  subst e
  refine h.put 13 (by decide) ?_ (fun j hj hne => cM_congr j hj (fun _ => rfl) (fun _ => rfl) (fun _ => funext fun b => congrArg (fun x => x) (u2_k (f := σ.2.2.1) (k := 5) (i := i0) (a := 0) (b := b) (v := v) (by decide))) (fun _ => funext fun b => congrArg (fun x => x) (u2_k (f := σ.2.2.1) (k := 5) (i := i0) (a := 1) (b := b) (v := v) (by decide))) (fun _ => funext fun b => congrArg (fun x => x) (u2_k (f := σ.2.2.1) (k := 5) (i := i0) (a := 2) (b := b) (v := v) (by decide))) (fun _ => funext fun b => congrArg (fun x => x) (u2_k (f := σ.2.2.1) (k := 5) (i := i0) (a := 3) (b := b) (v := v) (by decide))) (fun _ => funext fun b => congrArg (fun x => x) (u2_k (f := σ.2.2.1) (k := 5) (i := i0) (a := 4) (b := b) (v := v) (by decide))) (fun _ => rfl) (fun _ => rfl) (fun _ => rfl) (fun _ => rfl) (fun _ => rfl) (fun _ => rfl) (fun q => absurd q hne) (fun _ => funext fun b => congrArg (fun x => x) (u2_k (f := σ.2.2.1) (k := 5) (i := i0) (a := 6) (b := b) (v := v) (by decide))) (fun _ => rfl) (fun _ => rfl) (fun _ => rfl) (fun _ => rfl) (fun _ => rfl) (fun _ => rfl) (fun _ => rfl) (fun _ => rfl) (fun _ => rfl) (fun _ => funext fun b => congrArg (fun x => x) (u2_k (f := σ.2.2.1) (k := 5) (i := i0) (a := 7) (b := b) (v := v) (by decide))) (fun _ => rfl))
  show _ = (Sum.inl (g.2.1 0, aI 72 (fun i => (uI σ 5 i0 v).2.2.1 5 i)) : va_E)
  have e9 : (fun i => (uI σ 5 i0 v).2.2.1 5 i) = upd (fun i => σ.2.2.1 5 i) i0 (v) := u2_fs (f := σ.2.2.1) (k := 5) (i := i0) (v := v) (fun x => x)
  rw [e9]
theorem RM.p14 {g : mG} {m : Nat} {μ0 μ μ1 : mM} {σ : Sg} (h : RM g m μ0 σ μ) {i0 : Nat} {v : Int32} (e : μ1 = up μ (m + 14) (.inl (g.2.1 0, aI 72 (upd (fun i => σ.2.2.1 6 i) i0 (v))))) : RM g m μ0 (uI σ 6 i0 v) μ1 := by
  subst e
  refine h.put 14 (by decide) ?_ (fun j hj hne => cM_congr j hj (fun _ => rfl) (fun _ => rfl) (fun _ => funext fun b => congrArg (fun x => x) (u2_k (f := σ.2.2.1) (k := 6) (i := i0) (a := 0) (b := b) (v := v) (by decide))) (fun _ => funext fun b => congrArg (fun x => x) (u2_k (f := σ.2.2.1) (k := 6) (i := i0) (a := 1) (b := b) (v := v) (by decide))) (fun _ => funext fun b => congrArg (fun x => x) (u2_k (f := σ.2.2.1) (k := 6) (i := i0) (a := 2) (b := b) (v := v) (by decide))) (fun _ => funext fun b => congrArg (fun x => x) (u2_k (f := σ.2.2.1) (k := 6) (i := i0) (a := 3) (b := b) (v := v) (by decide))) (fun _ => funext fun b => congrArg (fun x => x) (u2_k (f := σ.2.2.1) (k := 6) (i := i0) (a := 4) (b := b) (v := v) (by decide))) (fun _ => rfl) (fun _ => rfl) (fun _ => rfl) (fun _ => rfl) (fun _ => rfl) (fun _ => rfl) (fun _ => funext fun b => congrArg (fun x => x) (u2_k (f := σ.2.2.1) (k := 6) (i := i0) (a := 5) (b := b) (v := v) (by decide))) (fun q => absurd q hne) (fun _ => rfl) (fun _ => rfl) (fun _ => rfl) (fun _ => rfl) (fun _ => rfl) (fun _ => rfl) (fun _ => rfl) (fun _ => rfl) (fun _ => rfl) (fun _ => funext fun b => congrArg (fun x => x) (u2_k (f := σ.2.2.1) (k := 6) (i := i0) (a := 7) (b := b) (v := v) (by decide))) (fun _ => rfl))
  show _ = (Sum.inl (g.2.1 0, aI 72 (fun i => (uI σ 6 i0 v).2.2.1 6 i)) : va_E)
  have e9 : (fun i => (uI σ 6 i0 v).2.2.1 6 i) = upd (fun i => σ.2.2.1 6 i) i0 (v) := u2_fs (f := σ.2.2.1) (k := 6) (i := i0) (v := v) (fun x => x)
  rw [e9]
theorem RM.p15 {g : mG} {m : Nat} {μ0 μ μ1 : mM} {σ : Sg} (h : RM g m μ0 σ μ) {i0 : Nat} {v : Bool} (e : μ1 = up μ (m + 15) (.inl (g.2.1 1, aI 288 (upd (fun i => bI (σ.2.1 5 i)) i0 (bI v))))) : RM g m μ0 (uB σ 5 i0 v) μ1 := by
  subst e
  refine h.put 15 (by decide) ?_ (fun j hj hne => cM_congr j hj (fun _ => rfl) (fun _ => rfl) (fun _ => rfl) (fun _ => rfl) (fun _ => rfl) (fun _ => rfl) (fun _ => rfl) (fun _ => funext fun b => congrArg bI (u2_k (f := σ.2.1) (k := 5) (i := i0) (a := 0) (b := b) (v := v) (by decide))) (fun _ => funext fun b => congrArg bI (u2_k (f := σ.2.1) (k := 5) (i := i0) (a := 1) (b := b) (v := v) (by decide))) (fun _ => funext fun b => congrArg bI (u2_k (f := σ.2.1) (k := 5) (i := i0) (a := 2) (b := b) (v := v) (by decide))) (fun _ => funext fun b => congrArg bI (u2_k (f := σ.2.1) (k := 5) (i := i0) (a := 3) (b := b) (v := v) (by decide))) (fun _ => funext fun b => congrArg bI (u2_k (f := σ.2.1) (k := 5) (i := i0) (a := 4) (b := b) (v := v) (by decide))) (fun _ => rfl) (fun _ => rfl) (fun _ => rfl) (fun q => absurd q hne) (fun _ => rfl) (fun _ => funext fun b => congrArg bI (u2_k (f := σ.2.1) (k := 5) (i := i0) (a := 6) (b := b) (v := v) (by decide))) (fun _ => rfl) (fun _ => rfl) (fun _ => funext fun b => congrArg bI (u2_k (f := σ.2.1) (k := 5) (i := i0) (a := 7) (b := b) (v := v) (by decide))) (fun _ => rfl) (fun _ => rfl) (fun _ => rfl) (fun _ => rfl) (fun _ => rfl))
  show _ = (Sum.inl (g.2.1 1, aI 288 (fun i => bI ((uB σ 5 i0 v).2.1 5 i))) : va_E)
  have e9 : (fun i => bI ((uB σ 5 i0 v).2.1 5 i)) = upd (fun i => bI (σ.2.1 5 i)) i0 (bI v) := u2_fs (f := σ.2.1) (k := 5) (i := i0) (v := v) bI
  rw [e9]
theorem RM.p16 {g : mG} {m : Nat} {μ0 μ μ1 : mM} {σ : Sg} (h : RM g m μ0 σ μ) {i0 : Nat} {v : Int64} (e : μ1 = up μ (m + 16) (.inl (g.2.1 2, aL 288 (vp_updL (fun i => σ.2.2.2 1 i) i0 (v))))) : RM g m μ0 (uL σ 1 i0 v) μ1 := by
  subst e
  refine h.put 16 (by decide) ?_ (fun j hj hne => cM_congr j hj (fun _ => rfl) (fun _ => rfl) (fun _ => rfl) (fun _ => rfl) (fun _ => rfl) (fun _ => rfl) (fun _ => rfl) (fun _ => rfl) (fun _ => rfl) (fun _ => rfl) (fun _ => rfl) (fun _ => rfl) (fun _ => funext fun b => congrArg (fun x => x) (u2_k (f := σ.2.2.2) (k := 1) (i := i0) (a := 0) (b := b) (v := v) (by decide))) (fun _ => rfl) (fun _ => rfl) (fun _ => rfl) (fun q => absurd q hne) (fun _ => rfl) (fun _ => funext fun b => congrArg (fun x => x) (u2_k (f := σ.2.2.2) (k := 1) (i := i0) (a := 2) (b := b) (v := v) (by decide))) (fun _ => funext fun b => congrArg (fun x => x) (u2_k (f := σ.2.2.2) (k := 1) (i := i0) (a := 3) (b := b) (v := v) (by decide))) (fun _ => rfl) (fun _ => rfl) (fun _ => rfl) (fun _ => rfl) (fun _ => rfl) (fun _ => rfl))
  show _ = (Sum.inl (g.2.1 2, aL 288 (fun i => (uL σ 1 i0 v).2.2.2 1 i)) : va_E)
  have e9 : (fun i => (uL σ 1 i0 v).2.2.2 1 i) = vp_updL (fun i => σ.2.2.2 1 i) i0 (v) := u2_fs (f := σ.2.2.2) (k := 1) (i := i0) (v := v) (fun x => x)
  rw [e9]
theorem RM.p17 {g : mG} {m : Nat} {μ0 μ μ1 : mM} {σ : Sg} (h : RM g m μ0 σ μ) {i0 : Nat} {v : Bool} (e : μ1 = up μ (m + 17) (.inl (g.2.1 1, aI 4 (upd (fun i => bI (σ.2.1 6 i)) i0 (bI v))))) : RM g m μ0 (uB σ 6 i0 v) μ1 := by
  subst e
  refine h.put 17 (by decide) ?_ (fun j hj hne => cM_congr j hj (fun _ => rfl) (fun _ => rfl) (fun _ => rfl) (fun _ => rfl) (fun _ => rfl) (fun _ => rfl) (fun _ => rfl) (fun _ => funext fun b => congrArg bI (u2_k (f := σ.2.1) (k := 6) (i := i0) (a := 0) (b := b) (v := v) (by decide))) (fun _ => funext fun b => congrArg bI (u2_k (f := σ.2.1) (k := 6) (i := i0) (a := 1) (b := b) (v := v) (by decide))) (fun _ => funext fun b => congrArg bI (u2_k (f := σ.2.1) (k := 6) (i := i0) (a := 2) (b := b) (v := v) (by decide))) (fun _ => funext fun b => congrArg bI (u2_k (f := σ.2.1) (k := 6) (i := i0) (a := 3) (b := b) (v := v) (by decide))) (fun _ => funext fun b => congrArg bI (u2_k (f := σ.2.1) (k := 6) (i := i0) (a := 4) (b := b) (v := v) (by decide))) (fun _ => rfl) (fun _ => rfl) (fun _ => rfl) (fun _ => funext fun b => congrArg bI (u2_k (f := σ.2.1) (k := 6) (i := i0) (a := 5) (b := b) (v := v) (by decide))) (fun _ => rfl) (fun q => absurd q hne) (fun _ => rfl) (fun _ => rfl) (fun _ => funext fun b => congrArg bI (u2_k (f := σ.2.1) (k := 6) (i := i0) (a := 7) (b := b) (v := v) (by decide))) (fun _ => rfl) (fun _ => rfl) (fun _ => rfl) (fun _ => rfl) (fun _ => rfl))
  show _ = (Sum.inl (g.2.1 1, aI 4 (fun i => bI ((uB σ 6 i0 v).2.1 6 i))) : va_E)
  have e9 : (fun i => bI ((uB σ 6 i0 v).2.1 6 i)) = upd (fun i => bI (σ.2.1 6 i)) i0 (bI v) := u2_fs (f := σ.2.1) (k := 6) (i := i0) (v := v) bI
  rw [e9]
theorem RM.p18 {g : mG} {m : Nat} {μ0 μ μ1 : mM} {σ : Sg} (h : RM g m μ0 σ μ) {i0 : Nat} {v : Int64} (e : μ1 = up μ (m + 18) (.inl (g.2.1 2, aL 31 (vp_updL (fun i => σ.2.2.2 2 i) i0 (v))))) : RM g m μ0 (uL σ 2 i0 v) μ1 := by
  subst e
  refine h.put 18 (by decide) ?_ (fun j hj hne => cM_congr j hj (fun _ => rfl) (fun _ => rfl) (fun _ => rfl) (fun _ => rfl) (fun _ => rfl) (fun _ => rfl) (fun _ => rfl) (fun _ => rfl) (fun _ => rfl) (fun _ => rfl) (fun _ => rfl) (fun _ => rfl) (fun _ => funext fun b => congrArg (fun x => x) (u2_k (f := σ.2.2.2) (k := 2) (i := i0) (a := 0) (b := b) (v := v) (by decide))) (fun _ => rfl) (fun _ => rfl) (fun _ => rfl) (fun _ => funext fun b => congrArg (fun x => x) (u2_k (f := σ.2.2.2) (k := 2) (i := i0) (a := 1) (b := b) (v := v) (by decide))) (fun _ => rfl) (fun q => absurd q hne) (fun _ => funext fun b => congrArg (fun x => x) (u2_k (f := σ.2.2.2) (k := 2) (i := i0) (a := 3) (b := b) (v := v) (by decide))) (fun _ => rfl) (fun _ => rfl) (fun _ => rfl) (fun _ => rfl) (fun _ => rfl) (fun _ => rfl))
  show _ = (Sum.inl (g.2.1 2, aL 31 (fun i => (uL σ 2 i0 v).2.2.2 2 i)) : va_E)
  have e9 : (fun i => (uL σ 2 i0 v).2.2.2 2 i) = vp_updL (fun i => σ.2.2.2 2 i) i0 (v) := u2_fs (f := σ.2.2.2) (k := 2) (i := i0) (v := v) (fun x => x)
  rw [e9]
theorem RM.p19 {g : mG} {m : Nat} {μ0 μ μ1 : mM} {σ : Sg} (h : RM g m μ0 σ μ) {i0 : Nat} {v : Int64} (e : μ1 = up μ (m + 19) (.inl (g.2.1 2, aL 31 (vp_updL (fun i => σ.2.2.2 3 i) i0 (v))))) : RM g m μ0 (uL σ 3 i0 v) μ1 := by
  subst e
  refine h.put 19 (by decide) ?_ (fun j hj hne => cM_congr j hj (fun _ => rfl) (fun _ => rfl) (fun _ => rfl) (fun _ => rfl) (fun _ => rfl) (fun _ => rfl) (fun _ => rfl) (fun _ => rfl) (fun _ => rfl) (fun _ => rfl) (fun _ => rfl) (fun _ => rfl) (fun _ => funext fun b => congrArg (fun x => x) (u2_k (f := σ.2.2.2) (k := 3) (i := i0) (a := 0) (b := b) (v := v) (by decide))) (fun _ => rfl) (fun _ => rfl) (fun _ => rfl) (fun _ => funext fun b => congrArg (fun x => x) (u2_k (f := σ.2.2.2) (k := 3) (i := i0) (a := 1) (b := b) (v := v) (by decide))) (fun _ => rfl) (fun _ => funext fun b => congrArg (fun x => x) (u2_k (f := σ.2.2.2) (k := 3) (i := i0) (a := 2) (b := b) (v := v) (by decide))) (fun q => absurd q hne) (fun _ => rfl) (fun _ => rfl) (fun _ => rfl) (fun _ => rfl) (fun _ => rfl) (fun _ => rfl))
  show _ = (Sum.inl (g.2.1 2, aL 31 (fun i => (uL σ 3 i0 v).2.2.2 3 i)) : va_E)
  have e9 : (fun i => (uL σ 3 i0 v).2.2.2 3 i) = vp_updL (fun i => σ.2.2.2 3 i) i0 (v) := u2_fs (f := σ.2.2.2) (k := 3) (i := i0) (v := v) (fun x => x)
  rw [e9]
theorem RM.p20 {g : mG} {m : Nat} {μ0 μ μ1 : mM} {σ : Sg} (h : RM g m μ0 σ μ) {i0 : Nat} {v : Bool} (e : μ1 = up μ (m + 20) (.inl (g.2.1 1, aI 31 (upd (fun i => bI (σ.2.1 7 i)) i0 (bI v))))) : RM g m μ0 (uB σ 7 i0 v) μ1 := by
  subst e
  refine h.put 20 (by decide) ?_ (fun j hj hne => cM_congr j hj (fun _ => rfl) (fun _ => rfl) (fun _ => rfl) (fun _ => rfl) (fun _ => rfl) (fun _ => rfl) (fun _ => rfl) (fun _ => funext fun b => congrArg bI (u2_k (f := σ.2.1) (k := 7) (i := i0) (a := 0) (b := b) (v := v) (by decide))) (fun _ => funext fun b => congrArg bI (u2_k (f := σ.2.1) (k := 7) (i := i0) (a := 1) (b := b) (v := v) (by decide))) (fun _ => funext fun b => congrArg bI (u2_k (f := σ.2.1) (k := 7) (i := i0) (a := 2) (b := b) (v := v) (by decide))) (fun _ => funext fun b => congrArg bI (u2_k (f := σ.2.1) (k := 7) (i := i0) (a := 3) (b := b) (v := v) (by decide))) (fun _ => funext fun b => congrArg bI (u2_k (f := σ.2.1) (k := 7) (i := i0) (a := 4) (b := b) (v := v) (by decide))) (fun _ => rfl) (fun _ => rfl) (fun _ => rfl) (fun _ => funext fun b => congrArg bI (u2_k (f := σ.2.1) (k := 7) (i := i0) (a := 5) (b := b) (v := v) (by decide))) (fun _ => rfl) (fun _ => funext fun b => congrArg bI (u2_k (f := σ.2.1) (k := 7) (i := i0) (a := 6) (b := b) (v := v) (by decide))) (fun _ => rfl) (fun _ => rfl) (fun q => absurd q hne) (fun _ => rfl) (fun _ => rfl) (fun _ => rfl) (fun _ => rfl) (fun _ => rfl))
  show _ = (Sum.inl (g.2.1 1, aI 31 (fun i => bI ((uB σ 7 i0 v).2.1 7 i))) : va_E)
  have e9 : (fun i => bI ((uB σ 7 i0 v).2.1 7 i)) = upd (fun i => bI (σ.2.1 7 i)) i0 (bI v) := u2_fs (f := σ.2.1) (k := 7) (i := i0) (v := v) bI
  rw [e9]
theorem RM.p21 {g : mG} {m : Nat} {μ0 μ μ1 : mM} {σ : Sg} (h : RM g m μ0 σ μ) {i0 : Nat} {v : Nat} (e : μ1 = up μ (m + 21) (.inl (g.2.1 0, aI 288 (upd (fun i => nI (σ.1 1 i)) i0 (nI v))))) : RM g m μ0 (uN σ 1 i0 v) μ1 := by
  subst e
  refine h.put 21 (by decide) ?_ (fun j hj hne => cM_congr j hj (fun _ => rfl) (fun _ => funext fun b => congrArg nI (u2_k (f := σ.1) (k := 1) (i := i0) (a := 0) (b := b) (v := v) (by decide))) (fun _ => rfl) (fun _ => rfl) (fun _ => rfl) (fun _ => rfl) (fun _ => rfl) (fun _ => rfl) (fun _ => rfl) (fun _ => rfl) (fun _ => rfl) (fun _ => rfl) (fun _ => rfl) (fun _ => rfl) (fun _ => rfl) (fun _ => rfl) (fun _ => rfl) (fun _ => rfl) (fun _ => rfl) (fun _ => rfl) (fun _ => rfl) (fun q => absurd q hne) (fun _ => funext fun b => congrArg nI (u2_k (f := σ.1) (k := 1) (i := i0) (a := 2) (b := b) (v := v) (by decide))) (fun _ => funext fun b => congrArg nI (u2_k (f := σ.1) (k := 1) (i := i0) (a := 4) (b := b) (v := v) (by decide))) (fun _ => rfl) (fun _ => funext fun b => congrArg mI (u2_k (f := σ.1) (k := 1) (i := i0) (a := 5) (b := b) (v := v) (by decide))))
  show _ = (Sum.inl (g.2.1 0, aI 288 (fun i => nI ((uN σ 1 i0 v).1 1 i))) : va_E)
  have e9 : (fun i => nI ((uN σ 1 i0 v).1 1 i)) = upd (fun i => nI (σ.1 1 i)) i0 (nI v) := u2_fs (f := σ.1) (k := 1) (i := i0) (v := v) nI
  rw [e9]
theorem RM.p22 {g : mG} {m : Nat} {μ0 μ μ1 : mM} {σ : Sg} (h : RM g m μ0 σ μ) {i0 : Nat} {v : Nat} (e : μ1 = up μ (m + 22) (.inl (g.2.1 0, aI 1440 (upd (fun i => nI (σ.1 2 i)) i0 (nI v))))) : RM g m μ0 (uN σ 2 i0 v) μ1 := by
  subst e
  refine h.put 22 (by decide) ?_ (fun j hj hne => cM_congr j hj (fun _ => rfl) (fun _ => funext fun b => congrArg nI (u2_k (f := σ.1) (k := 2) (i := i0) (a := 0) (b := b) (v := v) (by decide))) (fun _ => rfl) (fun _ => rfl) (fun _ => rfl) (fun _ => rfl) (fun _ => rfl) (fun _ => rfl) (fun _ => rfl) (fun _ => rfl) (fun _ => rfl) (fun _ => rfl) (fun _ => rfl) (fun _ => rfl) (fun _ => rfl) (fun _ => rfl) (fun _ => rfl) (fun _ => rfl) (fun _ => rfl) (fun _ => rfl) (fun _ => rfl) (fun _ => funext fun b => congrArg nI (u2_k (f := σ.1) (k := 2) (i := i0) (a := 1) (b := b) (v := v) (by decide))) (fun q => absurd q hne) (fun _ => funext fun b => congrArg nI (u2_k (f := σ.1) (k := 2) (i := i0) (a := 4) (b := b) (v := v) (by decide))) (fun _ => rfl) (fun _ => funext fun b => congrArg mI (u2_k (f := σ.1) (k := 2) (i := i0) (a := 5) (b := b) (v := v) (by decide))))
  show _ = (Sum.inl (g.2.1 0, aI 1440 (fun i => nI ((uN σ 2 i0 v).1 2 i))) : va_E)
  have e9 : (fun i => nI ((uN σ 2 i0 v).1 2 i)) = upd (fun i => nI (σ.1 2 i)) i0 (nI v) := u2_fs (f := σ.1) (k := 2) (i := i0) (v := v) nI
  rw [e9]
theorem RM.p23 {g : mG} {m : Nat} {μ0 μ μ1 : mM} {σ : Sg} (h : RM g m μ0 σ μ) {i0 : Nat} {v : Nat} (e : μ1 = up μ (m + 23) (.inl (g.2.1 0, aI 5 (upd (fun i => nI (σ.1 4 i)) i0 (nI v))))) : RM g m μ0 (uN σ 4 i0 v) μ1 := by
  subst e
  refine h.put 23 (by decide) ?_ (fun j hj hne => cM_congr j hj (fun _ => rfl) (fun _ => funext fun b => congrArg nI (u2_k (f := σ.1) (k := 4) (i := i0) (a := 0) (b := b) (v := v) (by decide))) (fun _ => rfl) (fun _ => rfl) (fun _ => rfl) (fun _ => rfl) (fun _ => rfl) (fun _ => rfl) (fun _ => rfl) (fun _ => rfl) (fun _ => rfl) (fun _ => rfl) (fun _ => rfl) (fun _ => rfl) (fun _ => rfl) (fun _ => rfl) (fun _ => rfl) (fun _ => rfl) (fun _ => rfl) (fun _ => rfl) (fun _ => rfl) (fun _ => funext fun b => congrArg nI (u2_k (f := σ.1) (k := 4) (i := i0) (a := 1) (b := b) (v := v) (by decide))) (fun _ => funext fun b => congrArg nI (u2_k (f := σ.1) (k := 4) (i := i0) (a := 2) (b := b) (v := v) (by decide))) (fun q => absurd q hne) (fun _ => rfl) (fun _ => funext fun b => congrArg mI (u2_k (f := σ.1) (k := 4) (i := i0) (a := 5) (b := b) (v := v) (by decide))))
  show _ = (Sum.inl (g.2.1 0, aI 5 (fun i => nI ((uN σ 4 i0 v).1 4 i))) : va_E)
  have e9 : (fun i => nI ((uN σ 4 i0 v).1 4 i)) = upd (fun i => nI (σ.1 4 i)) i0 (nI v) := u2_fs (f := σ.1) (k := 4) (i := i0) (v := v) nI
  rw [e9]
theorem RM.p24 {g : mG} {m : Nat} {μ0 μ μ1 : mM} {σ : Sg} (h : RM g m μ0 σ μ) {i0 : Nat} {v : Int32} (e : μ1 = up μ (m + 24) (.inl (g.2.1 0, aI 4 (upd (fun i => σ.2.2.1 7 i) i0 (v))))) : RM g m μ0 (uI σ 7 i0 v) μ1 := by
  subst e
  refine h.put 24 (by decide) ?_ (fun j hj hne => cM_congr j hj (fun _ => rfl) (fun _ => rfl) (fun _ => funext fun b => congrArg (fun x => x) (u2_k (f := σ.2.2.1) (k := 7) (i := i0) (a := 0) (b := b) (v := v) (by decide))) (fun _ => funext fun b => congrArg (fun x => x) (u2_k (f := σ.2.2.1) (k := 7) (i := i0) (a := 1) (b := b) (v := v) (by decide))) (fun _ => funext fun b => congrArg (fun x => x) (u2_k (f := σ.2.2.1) (k := 7) (i := i0) (a := 2) (b := b) (v := v) (by decide))) (fun _ => funext fun b => congrArg (fun x => x) (u2_k (f := σ.2.2.1) (k := 7) (i := i0) (a := 3) (b := b) (v := v) (by decide))) (fun _ => funext fun b => congrArg (fun x => x) (u2_k (f := σ.2.2.1) (k := 7) (i := i0) (a := 4) (b := b) (v := v) (by decide))) (fun _ => rfl) (fun _ => rfl) (fun _ => rfl) (fun _ => rfl) (fun _ => rfl) (fun _ => rfl) (fun _ => funext fun b => congrArg (fun x => x) (u2_k (f := σ.2.2.1) (k := 7) (i := i0) (a := 5) (b := b) (v := v) (by decide))) (fun _ => funext fun b => congrArg (fun x => x) (u2_k (f := σ.2.2.1) (k := 7) (i := i0) (a := 6) (b := b) (v := v) (by decide))) (fun _ => rfl) (fun _ => rfl) (fun _ => rfl) (fun _ => rfl) (fun _ => rfl) (fun _ => rfl) (fun _ => rfl) (fun _ => rfl) (fun _ => rfl) (fun q => absurd q hne) (fun _ => rfl))
  show _ = (Sum.inl (g.2.1 0, aI 4 (fun i => (uI σ 7 i0 v).2.2.1 7 i)) : va_E)
  have e9 : (fun i => (uI σ 7 i0 v).2.2.1 7 i) = upd (fun i => σ.2.2.1 7 i) i0 (v) := u2_fs (f := σ.2.2.1) (k := 7) (i := i0) (v := v) (fun x => x)
  rw [e9]
theorem RM.p25 {g : mG} {m : Nat} {μ0 μ μ1 : mM} {σ : Sg} (h : RM g m μ0 σ μ) {i0 : Nat} {v : Nat} (e : μ1 = up μ (m + 25) (.inl (g.2.1 0, aI 12 (upd (fun i => mI (σ.1 5 i)) i0 (mI v))))) : RM g m μ0 (uN σ 5 i0 v) μ1 := by
  subst e
  refine h.put 25 (by decide) ?_ (fun j hj hne => cM_congr j hj (fun _ => rfl) (fun _ => funext fun b => congrArg nI (u2_k (f := σ.1) (k := 5) (i := i0) (a := 0) (b := b) (v := v) (by decide))) (fun _ => rfl) (fun _ => rfl) (fun _ => rfl) (fun _ => rfl) (fun _ => rfl) (fun _ => rfl) (fun _ => rfl) (fun _ => rfl) (fun _ => rfl) (fun _ => rfl) (fun _ => rfl) (fun _ => rfl) (fun _ => rfl) (fun _ => rfl) (fun _ => rfl) (fun _ => rfl) (fun _ => rfl) (fun _ => rfl) (fun _ => rfl) (fun _ => funext fun b => congrArg nI (u2_k (f := σ.1) (k := 5) (i := i0) (a := 1) (b := b) (v := v) (by decide))) (fun _ => funext fun b => congrArg nI (u2_k (f := σ.1) (k := 5) (i := i0) (a := 2) (b := b) (v := v) (by decide))) (fun _ => funext fun b => congrArg nI (u2_k (f := σ.1) (k := 5) (i := i0) (a := 4) (b := b) (v := v) (by decide))) (fun _ => rfl) (fun q => absurd q hne))
  show _ = (Sum.inl (g.2.1 0, aI 12 (fun i => mI ((uN σ 5 i0 v).1 5 i))) : va_E)
  have e9 : (fun i => mI ((uN σ 5 i0 v).1 5 i)) = upd (fun i => mI (σ.1 5 i)) i0 (mI v) := u2_fs (f := σ.1) (k := 5) (i := i0) (v := v) mI
  rw [e9]
theorem RM.s_thrown {g : mG} {m : Nat} {μ0 μ μ1 : mM} {σ : Sg} (h : RM g m μ0 σ μ) {v : Nat} (e : μ1 = up μ m (.inr (6, (oM m σ).set 0 (.int (nI v))))) : RM g m μ0 (uN σ 3 1 v) μ1 := by
  subst e
  refine h.put 0 (by decide) ?_ (fun j hj hne => cM_congr j hj (fun q => absurd q hne) (fun _ => funext fun b => congrArg nI (u2_k (f := σ.1) (k := 3) (i := 1) (a := 0) (b := b) (v := v) (by decide))) (fun _ => rfl) (fun _ => rfl) (fun _ => rfl) (fun _ => rfl) (fun _ => rfl) (fun _ => rfl) (fun _ => rfl) (fun _ => rfl) (fun _ => rfl) (fun _ => rfl) (fun _ => rfl) (fun _ => rfl) (fun _ => rfl) (fun _ => rfl) (fun _ => rfl) (fun _ => rfl) (fun _ => rfl) (fun _ => rfl) (fun _ => rfl) (fun _ => funext fun b => congrArg nI (u2_k (f := σ.1) (k := 3) (i := 1) (a := 1) (b := b) (v := v) (by decide))) (fun _ => funext fun b => congrArg nI (u2_k (f := σ.1) (k := 3) (i := 1) (a := 2) (b := b) (v := v) (by decide))) (fun _ => funext fun b => congrArg nI (u2_k (f := σ.1) (k := 3) (i := 1) (a := 4) (b := b) (v := v) (by decide))) (fun _ => rfl) (fun _ => funext fun b => congrArg mI (u2_k (f := σ.1) (k := 3) (i := 1) (a := 5) (b := b) (v := v) (by decide))))
  rfl
theorem RM.s_books {g : mG} {m : Nat} {μ0 μ μ1 : mM} {σ : Sg} (h : RM g m μ0 σ μ) {v : Nat} (e : μ1 = up μ m (.inr (6, (oM m σ).set 1 (.int (nI v))))) : RM g m μ0 (uN σ 3 0 v) μ1 := by
  subst e
  refine h.put 0 (by decide) ?_ (fun j hj hne => cM_congr j hj (fun q => absurd q hne) (fun _ => funext fun b => congrArg nI (u2_k (f := σ.1) (k := 3) (i := 0) (a := 0) (b := b) (v := v) (by decide))) (fun _ => rfl) (fun _ => rfl) (fun _ => rfl) (fun _ => rfl) (fun _ => rfl) (fun _ => rfl) (fun _ => rfl) (fun _ => rfl) (fun _ => rfl) (fun _ => rfl) (fun _ => rfl) (fun _ => rfl) (fun _ => rfl) (fun _ => rfl) (fun _ => rfl) (fun _ => rfl) (fun _ => rfl) (fun _ => rfl) (fun _ => rfl) (fun _ => funext fun b => congrArg nI (u2_k (f := σ.1) (k := 3) (i := 0) (a := 1) (b := b) (v := v) (by decide))) (fun _ => funext fun b => congrArg nI (u2_k (f := σ.1) (k := 3) (i := 0) (a := 2) (b := b) (v := v) (by decide))) (fun _ => funext fun b => congrArg nI (u2_k (f := σ.1) (k := 3) (i := 0) (a := 4) (b := b) (v := v) (by decide))) (fun _ => rfl) (fun _ => funext fun b => congrArg mI (u2_k (f := σ.1) (k := 3) (i := 0) (a := 5) (b := b) (v := v) (by decide))))
  rfl
theorem RM.s_drift {g : mG} {m : Nat} {μ0 μ μ1 : mM} {σ : Sg} (h : RM g m μ0 σ μ) {v : Int32} (e : μ1 = up μ m (.inr (6, (oM m σ).set 10 (.int v)))) : RM g m μ0 (uI σ 8 0 v) μ1 := by
  subst e
  refine h.put 0 (by decide) ?_ (fun j hj hne => cM_congr j hj (fun q => absurd q hne) (fun _ => rfl) (fun _ => funext fun b => congrArg (fun x => x) (u2_k (f := σ.2.2.1) (k := 8) (i := 0) (a := 0) (b := b) (v := v) (by decide))) (fun _ => funext fun b => congrArg (fun x => x) (u2_k (f := σ.2.2.1) (k := 8) (i := 0) (a := 1) (b := b) (v := v) (by decide))) (fun _ => funext fun b => congrArg (fun x => x) (u2_k (f := σ.2.2.1) (k := 8) (i := 0) (a := 2) (b := b) (v := v) (by decide))) (fun _ => funext fun b => congrArg (fun x => x) (u2_k (f := σ.2.2.1) (k := 8) (i := 0) (a := 3) (b := b) (v := v) (by decide))) (fun _ => funext fun b => congrArg (fun x => x) (u2_k (f := σ.2.2.1) (k := 8) (i := 0) (a := 4) (b := b) (v := v) (by decide))) (fun _ => rfl) (fun _ => rfl) (fun _ => rfl) (fun _ => rfl) (fun _ => rfl) (fun _ => rfl) (fun _ => funext fun b => congrArg (fun x => x) (u2_k (f := σ.2.2.1) (k := 8) (i := 0) (a := 5) (b := b) (v := v) (by decide))) (fun _ => funext fun b => congrArg (fun x => x) (u2_k (f := σ.2.2.1) (k := 8) (i := 0) (a := 6) (b := b) (v := v) (by decide))) (fun _ => rfl) (fun _ => rfl) (fun _ => rfl) (fun _ => rfl) (fun _ => rfl) (fun _ => rfl) (fun _ => rfl) (fun _ => rfl) (fun _ => rfl) (fun _ => funext fun b => congrArg (fun x => x) (u2_k (f := σ.2.2.1) (k := 8) (i := 0) (a := 7) (b := b) (v := v) (by decide))) (fun _ => rfl))
  rfl
theorem RM.s_looked {g : mG} {m : Nat} {μ0 μ μ1 : mM} {σ : Sg} (h : RM g m μ0 σ μ) {v : Nat} (e : μ1 = up μ m (.inr (6, (oM m σ).set 23 (.int (nI v))))) : RM g m μ0 (uN σ 3 2 v) μ1 := by
  subst e
  refine h.put 0 (by decide) ?_ (fun j hj hne => cM_congr j hj (fun q => absurd q hne) (fun _ => funext fun b => congrArg nI (u2_k (f := σ.1) (k := 3) (i := 2) (a := 0) (b := b) (v := v) (by decide))) (fun _ => rfl) (fun _ => rfl) (fun _ => rfl) (fun _ => rfl) (fun _ => rfl) (fun _ => rfl) (fun _ => rfl) (fun _ => rfl) (fun _ => rfl) (fun _ => rfl) (fun _ => rfl) (fun _ => rfl) (fun _ => rfl) (fun _ => rfl) (fun _ => rfl) (fun _ => rfl) (fun _ => rfl) (fun _ => rfl) (fun _ => rfl) (fun _ => funext fun b => congrArg nI (u2_k (f := σ.1) (k := 3) (i := 2) (a := 1) (b := b) (v := v) (by decide))) (fun _ => funext fun b => congrArg nI (u2_k (f := σ.1) (k := 3) (i := 2) (a := 2) (b := b) (v := v) (by decide))) (fun _ => funext fun b => congrArg nI (u2_k (f := σ.1) (k := 3) (i := 2) (a := 4) (b := b) (v := v) (by decide))) (fun _ => rfl) (fun _ => funext fun b => congrArg mI (u2_k (f := σ.1) (k := 3) (i := 2) (a := 5) (b := b) (v := v) (by decide))))
  rfl
theorem RM.s_year {g : mG} {m : Nat} {μ0 μ μ1 : mM} {σ : Sg} (h : RM g m μ0 σ μ) {v : Int32} (e : μ1 = up μ m (.inr (6, (oM m σ).set 27 (.int v)))) : RM g m μ0 (uI σ 8 1 v) μ1 := by
  subst e
  refine h.put 0 (by decide) ?_ (fun j hj hne => cM_congr j hj (fun q => absurd q hne) (fun _ => rfl) (fun _ => funext fun b => congrArg (fun x => x) (u2_k (f := σ.2.2.1) (k := 8) (i := 1) (a := 0) (b := b) (v := v) (by decide))) (fun _ => funext fun b => congrArg (fun x => x) (u2_k (f := σ.2.2.1) (k := 8) (i := 1) (a := 1) (b := b) (v := v) (by decide))) (fun _ => funext fun b => congrArg (fun x => x) (u2_k (f := σ.2.2.1) (k := 8) (i := 1) (a := 2) (b := b) (v := v) (by decide))) (fun _ => funext fun b => congrArg (fun x => x) (u2_k (f := σ.2.2.1) (k := 8) (i := 1) (a := 3) (b := b) (v := v) (by decide))) (fun _ => funext fun b => congrArg (fun x => x) (u2_k (f := σ.2.2.1) (k := 8) (i := 1) (a := 4) (b := b) (v := v) (by decide))) (fun _ => rfl) (fun _ => rfl) (fun _ => rfl) (fun _ => rfl) (fun _ => rfl) (fun _ => rfl) (fun _ => funext fun b => congrArg (fun x => x) (u2_k (f := σ.2.2.1) (k := 8) (i := 1) (a := 5) (b := b) (v := v) (by decide))) (fun _ => funext fun b => congrArg (fun x => x) (u2_k (f := σ.2.2.1) (k := 8) (i := 1) (a := 6) (b := b) (v := v) (by decide))) (fun _ => rfl) (fun _ => rfl) (fun _ => rfl) (fun _ => rfl) (fun _ => rfl) (fun _ => rfl) (fun _ => rfl) (fun _ => rfl) (fun _ => rfl) (fun _ => funext fun b => congrArg (fun x => x) (u2_k (f := σ.2.2.1) (k := 8) (i := 1) (a := 7) (b := b) (v := v) (by decide))) (fun _ => rfl))
  rfl
