/-! THE CLASS: how its object at x, and its books at B 0, B 1 .., hold the state; τ is what is laid out anew each time -/
def pA (B : Nat → Nat) (i j : Nat) : Nat := B i + 2 + 10 * j
def rs {α : Type} (n : Nat) (d : α) (f : Nat → α) : Nat → α := fun k => if k < n then f k else d
theorem rs_lt {α : Type} {n k : Nat} {d : α} {f : Nat → α} (h : k < n) : rs n d f k = f k := if_pos h
def cP (g : mG) (B : Nat → Nat) (σ : Sg) (i j c : Nat) : va_E := match c with
  | 0 => .inr (2, [.int (bI (σ.2.1 2 (12 * i + j))), .int (bI (σ.2.1 3 (12 * i + j))), .int (bI (σ.2.1 4 (12 * i + j))), .long (σ.2.2.2 0 (12 * i + j)), .ref (pA B i j + 1), .ref (pA B i j + 2), .int (σ.2.2.1 5 (12 * i + j)), .int (σ.2.2.1 6 (12 * i + j)), .ref (pA B i j + 3), .ref (pA B i j + 4)])
  | 1 => .inl (g.2.1 1, aI 4 (rs 4 0 (fun v => bI (σ.2.1 5 (72 * v + (12 * i + j))))))
  | 2 => .inl (g.2.1 2, aL 4 (rs 4 0 (fun v => σ.2.2.2 1 (72 * v + (12 * i + j)))))
  | 3 => .inl (g.2.1 0, aI 4 (rs 4 0 (fun a => mI (σ.1 1 (4 * (12 * i + j) + a)))))
  | 4 => .inl (g.2.1 5, aQ 5 (fun k => if k < 5 then some (pA B i j + 4 + 1 + k) else none))
  | k + 5 => .inl (g.2.1 0, aI 4 (rs 4 0 (fun a => mI (σ.1 2 (5 * (4 * (12 * i + j) + a) + k)))))
def cBk (B : Nat → Nat) (σ : Sg) (i : Nat) : List Value := [.ref (B i + 1), .int (σ.2.2.1 0 i), .int (σ.2.2.1 2 i), .int (σ.2.2.1 1 i), .int (σ.2.2.1 3 i), .int (σ.2.2.1 4 i), .int (bI (σ.2.1 0 i)), .int (bI (σ.2.1 1 i))]
def cPs (g : mG) (B : Nat → Nat) (σ : Sg) (i : Nat) : va_E := .inl (g.2.1 3, aQ (σ.1 0 i) (fun j => if j < σ.1 0 i then some (pA B i j) else none))
def cHs (g : mG) (x : Nat) (B : Nat → Nat) (σ τ : Sg) (k : Nat) : va_E := match k with
  | 0 => .inr (5, [.ref (x + 1), .int (nI (σ.1 3 0)), .int (σ.2.2.1 8 0), .ref (x + 2), .ref (x + 3), .ref (x + 7), .ref (x + 9), .int (σ.2.2.1 8 1), .ref (x + 11)])
  | 1 => .inl (g.2.1 4, aQ 6 (fun i => if i < σ.1 3 0 then some (B i) else none))
  | 2 => .inl (g.2.1 1, aI 4 (fun v => bI (σ.2.1 6 v)))
  | 3 => .inr (4, [.ref (x + 4), .ref (x + 5), .ref (x + 6), .int (nI (σ.1 3 2))])
  | 4 => .inl (g.2.1 2, aL 32 (fun i => τ.2.2.2 0 i))
  | 5 => .inl (g.2.1 2, aL 32 (fun i => τ.2.2.2 1 i))
  | 6 => .inl (g.2.1 1, aI 32 (fun i => bI (τ.2.1 0 i)))
  | 7 => .inr (3, [.ref (x + 8)])
  | 8 => .inl (g.2.1 0, aI 7 (fun i => nI (τ.1 0 i)))
  | 9 => .inr (1, [.ref (x + 10), .int (τ.2.2.1 0 0)])
  | 10 => .inl (g.2.1 0, aI 26 (fun i => nI (τ.1 1 i)))
  | _ => .inl (g.2.1 0, aI 4 (fun i => σ.2.2.1 7 i))
/-- what does not change but by a new book: how many books and pages there are, and where -/
def RCs (x : Nat) (B : Nat → Nat) (z0 : Nat) (σ : Sg) : Prop := x + 12 ≤ z0 ∧ σ.1 3 0 ≤ 6 ∧ (∀ i, σ.1 0 i ≤ 12) ∧ (∀ i, i < σ.1 3 0 → x + 12 ≤ B i) ∧ ∀ i k, i < k → k < σ.1 3 0 → B i + 2 + 10 * σ.1 0 i ≤ B k
def RC (g : mG) (x : Nat) (B : Nat → Nat) (z0 : Nat) (μ0 : mM) (σ τ : Sg) (μ : mM) : Prop :=
  (∀ k, k < 12 → μ (x + k) = some (cHs g x B σ τ k)) ∧
  (∀ i, i < σ.1 3 0 → μ (B i) = some (.inr (0, cBk B σ i)) ∧ μ (B i + 1) = some (cPs g B σ i) ∧ ∀ j, j < σ.1 0 i → ∀ c, c < 10 → μ (pA B i j + c) = some (cP g B σ i j c)) ∧
  RCs x B z0 σ ∧ (∀ i, i < σ.1 3 0 → ∀ a, B i ≤ a → a < B i + 2 + 10 * σ.1 0 i → a < z0 → μ0 a = none) ∧ ∀ a e, ¬ (x ≤ a ∧ a < x + 12) → a < z0 → μ0 a = some e → μ a = some e
section RCX
variable {g : mG} {x : Nat} {B : Nat → Nat} {z0 : Nat} {μ0 μ : mM} {σ τ : Sg}
theorem RC.h0 (h : RC g x B z0 μ0 σ τ μ) : μ x = some (.inr (5, [.ref (x + 1), .int (nI (σ.1 3 0)), .int (σ.2.2.1 8 0), .ref (x + 2), .ref (x + 3), .ref (x + 7), .ref (x + 9), .int (σ.2.2.1 8 1), .ref (x + 11)])) := h.1 0 (by decide)
theorem RC.h1 (h : RC g x B z0 μ0 σ τ μ) : μ (x + 1) = some (.inl (g.2.1 4, aQ 6 (fun i => if i < σ.1 3 0 then some (B i) else none))) := h.1 1 (by decide)
theorem RC.h2 (h : RC g x B z0 μ0 σ τ μ) : μ (x + 2) = some (.inl (g.2.1 1, aI 4 (fun v => bI (σ.2.1 6 v)))) := h.1 2 (by decide)
theorem RC.h3 (h : RC g x B z0 μ0 σ τ μ) : μ (x + 3) = some (.inr (4, [.ref (x + 4), .ref (x + 5), .ref (x + 6), .int (nI (σ.1 3 2))])) := h.1 3 (by decide)
theorem RC.h4 (h : RC g x B z0 μ0 σ τ μ) : μ (x + 4) = some (.inl (g.2.1 2, aL 32 (fun i => τ.2.2.2 0 i))) := h.1 4 (by decide)
theorem RC.h5 (h : RC g x B z0 μ0 σ τ μ) : μ (x + 5) = some (.inl (g.2.1 2, aL 32 (fun i => τ.2.2.2 1 i))) := h.1 5 (by decide)
theorem RC.h6 (h : RC g x B z0 μ0 σ τ μ) : μ (x + 6) = some (.inl (g.2.1 1, aI 32 (fun i => bI (τ.2.1 0 i)))) := h.1 6 (by decide)
theorem RC.h7 (h : RC g x B z0 μ0 σ τ μ) : μ (x + 7) = some (.inr (3, [.ref (x + 8)])) := h.1 7 (by decide)
theorem RC.h8 (h : RC g x B z0 μ0 σ τ μ) : μ (x + 8) = some (.inl (g.2.1 0, aI 7 (fun i => nI (τ.1 0 i)))) := h.1 8 (by decide)
theorem RC.h9 (h : RC g x B z0 μ0 σ τ μ) : μ (x + 9) = some (.inr (1, [.ref (x + 10), .int (τ.2.2.1 0 0)])) := h.1 9 (by decide)
theorem RC.h10 (h : RC g x B z0 μ0 σ τ μ) : μ (x + 10) = some (.inl (g.2.1 0, aI 26 (fun i => nI (τ.1 1 i)))) := h.1 10 (by decide)
theorem RC.h11 (h : RC g x B z0 μ0 σ τ μ) : μ (x + 11) = some (.inl (g.2.1 0, aI 4 (fun i => σ.2.2.1 7 i))) := h.1 11 (by decide)
theorem RC.bk (h : RC g x B z0 μ0 σ τ μ) {i : Nat} (hi : i < σ.1 3 0) : μ (B i) = some (.inr (0, cBk B σ i)) := (h.2.1 i hi).1
theorem RC.ps (h : RC g x B z0 μ0 σ τ μ) {i : Nat} (hi : i < σ.1 3 0) : μ (B i + 1) = some (.inl (g.2.1 3, aQ (σ.1 0 i) (fun j => if j < σ.1 0 i then some (pA B i j) else none))) := (h.2.1 i hi).2.1
theorem RC.p0 (h : RC g x B z0 μ0 σ τ μ) {i j : Nat} (hi : i < σ.1 3 0) (hj : j < σ.1 0 i) : μ (pA B i j) = some (.inr (2, [.int (bI (σ.2.1 2 (12 * i + j))), .int (bI (σ.2.1 3 (12 * i + j))), .int (bI (σ.2.1 4 (12 * i + j))), .long (σ.2.2.2 0 (12 * i + j)), .ref (pA B i j + 1), .ref (pA B i j + 2), .int (σ.2.2.1 5 (12 * i + j)), .int (σ.2.2.1 6 (12 * i + j)), .ref (pA B i j + 3), .ref (pA B i j + 4)])) := (h.2.1 i hi).2.2 j hj 0 (by decide)
theorem RC.p1 (h : RC g x B z0 μ0 σ τ μ) {i j : Nat} (hi : i < σ.1 3 0) (hj : j < σ.1 0 i) : μ (pA B i j + 1) = some (.inl (g.2.1 1, aI 4 (rs 4 0 (fun v => bI (σ.2.1 5 (72 * v + (12 * i + j))))))) := (h.2.1 i hi).2.2 j hj 1 (by decide)
theorem RC.p2 (h : RC g x B z0 μ0 σ τ μ) {i j : Nat} (hi : i < σ.1 3 0) (hj : j < σ.1 0 i) : μ (pA B i j + 2) = some (.inl (g.2.1 2, aL 4 (rs 4 0 (fun v => σ.2.2.2 1 (72 * v + (12 * i + j)))))) := (h.2.1 i hi).2.2 j hj 2 (by decide)
theorem RC.p3 (h : RC g x B z0 μ0 σ τ μ) {i j : Nat} (hi : i < σ.1 3 0) (hj : j < σ.1 0 i) : μ (pA B i j + 3) = some (.inl (g.2.1 0, aI 4 (rs 4 0 (fun a => mI (σ.1 1 (4 * (12 * i + j) + a)))))) := (h.2.1 i hi).2.2 j hj 3 (by decide)
theorem RC.p4 (h : RC g x B z0 μ0 σ τ μ) {i j : Nat} (hi : i < σ.1 3 0) (hj : j < σ.1 0 i) : μ (pA B i j + 4) = some (.inl (g.2.1 5, aQ 5 (fun k => if k < 5 then some (pA B i j + 4 + 1 + k) else none))) := (h.2.1 i hi).2.2 j hj 4 (by decide)
theorem RC.p5 (h : RC g x B z0 μ0 σ τ μ) {i j k : Nat} (hi : i < σ.1 3 0) (hj : j < σ.1 0 i) (hk : k < 5) : μ (pA B i j + 4 + 1 + k) = some (.inl (g.2.1 0, aI 4 (rs 4 0 (fun a => mI (σ.1 2 (5 * (4 * (12 * i + j) + a) + k)))))) := by
  rw [show pA B i j + 4 + 1 + k = pA B i j + (k + 5) by omega]
  exact (h.2.1 i hi).2.2 j hj (k + 5) (by omega)
/-- a cell of the house's own -/
theorem RC.setH {σ' τ' : Sg} {e : va_E} (h : RC g x B z0 μ0 σ τ μ) (k : Nat) (hk : k < 12) (hN : σ'.1 3 0 = σ.1 3 0) (hN0 : σ'.1 0 = σ.1 0) (he : e = cHs g x B σ' τ' k) (hH : ∀ j, j < 12 → j ≠ k → cHs g x B σ' τ' j = cHs g x B σ τ j) (hB : ∀ i, i < σ.1 3 0 → cBk B σ' i = cBk B σ i ∧ ∀ j, j < σ.1 0 i → ∀ c, c < 10 → cP g B σ' i j c = cP g B σ i j c) : RC g x B z0 μ0 σ' τ' (up μ (x + k) e) := by
  obtain ⟨h1, h2, ⟨s1, s2, s3, s4, s5⟩, h5, h4⟩ := h
  refine ⟨fun j hj => ?_, fun i hi => ?_, ⟨s1, by rw [hN]; exact s2, by rw [hN0]; exact s3, by rw [hN]; exact s4, by rw [hN, hN0]; exact s5⟩, by rw [hN, hN0]; exact h5, fun a v ha hz hv => ?_⟩
  · by_cases q : j = k
    · subst q
      rw [up_s, he]
    · rw [up_n (by omega), hH j hj q]
      exact h1 j hj
  · rw [hN] at hi
    have hz := s4 i hi
    obtain ⟨b1, b2, b3⟩ := h2 i hi
    refine ⟨?_, ?_, fun j hj c hc => ?_⟩
    · rw [up_n (by omega), (hB i hi).1]
      exact b1
    · rw [up_n (by omega)]
      unfold cPs
      rw [hN0]
      exact b2
    · rw [hN0] at hj
      rw [up_n (by unfold pA; omega), (hB i hi).2 j hj c hc]
      exact b3 j hj c hc
  · rw [up_n (by omega)]
    exact h4 a v ha hz hv
/-- a book's own cell -/
theorem RC.setB {σ' : Sg} {fs : List Value} (h : RC g x B z0 μ0 σ τ μ) {i : Nat} (hi : i < σ.1 3 0) (hN : σ'.1 3 0 = σ.1 3 0) (hN0 : σ'.1 0 = σ.1 0) (he : fs = cBk B σ' i) (hH : ∀ j, j < 12 → cHs g x B σ' τ j = cHs g x B σ τ j) (hB : ∀ k, k < σ.1 3 0 → k ≠ i → cBk B σ' k = cBk B σ k) (hP : ∀ k, k < σ.1 3 0 → ∀ j, j < σ.1 0 k → ∀ c, c < 10 → cP g B σ' k j c = cP g B σ k j c) : RC g x B z0 μ0 σ' τ (up μ (B i) (.inr (0, fs))) := by
  obtain ⟨h1, h2, ⟨s1, s2, s3, s4, s5⟩, h5, h4⟩ := h
  have hzi := s4 i hi
  refine ⟨fun j hj => ?_, fun k hk => ?_, ⟨s1, by rw [hN]; exact s2, by rw [hN0]; exact s3, by rw [hN]; exact s4, by rw [hN, hN0]; exact s5⟩, by rw [hN, hN0]; exact h5, fun a v ha hz hv => ?_⟩
  · rw [up_n (by omega), hH j hj]
    exact h1 j hj
  · rw [hN] at hk
    obtain ⟨b1, b2, b3⟩ := h2 k hk
    have hsep : k = i ∨ B k + 2 + 10 * σ.1 0 k ≤ B i ∨ B i + 2 + 10 * σ.1 0 i ≤ B k := by
      rcases Nat.lt_trichotomy k i with q | q | q
      · exact Or.inr (Or.inl (s5 k i q hi))
      · exact Or.inl q
      · exact Or.inr (Or.inr (s5 i k q hk))
    refine ⟨?_, ?_, fun j hj c hc => ?_⟩
    · by_cases q : k = i
      · subst q
        rw [up_s, he]
      · rw [up_n (by omega), hB k hk q]
        exact b1
    · rw [up_n (by rcases hsep with rfl | q | q <;> omega)]
      unfold cPs
      rw [hN0]
      exact b2
    · rw [hN0] at hj
      rw [up_n (by unfold pA; rcases hsep with rfl | q | q <;> omega), hP k hk j hj c hc]
      exact b3 j hj c hc
  · have hne : a ≠ B i := fun q => by
      have := h5 i hi a (by omega) (by omega) hz
      rw [hv] at this
      cases this
    rw [up_n hne]
    exact h4 a v ha hz hv
/-- a page's cell -/
theorem RC.setP {σ' : Sg} {e : va_E} (h : RC g x B z0 μ0 σ τ μ) {i j : Nat} (c : Nat) (hi : i < σ.1 3 0) (hj : j < σ.1 0 i) (hc : c < 10) (hN : σ'.1 3 0 = σ.1 3 0) (hN0 : σ'.1 0 = σ.1 0) (he : e = cP g B σ' i j c) (hH : ∀ q, q < 12 → cHs g x B σ' τ q = cHs g x B σ τ q) (hB : ∀ k, k < σ.1 3 0 → cBk B σ' k = cBk B σ k) (hP : ∀ k, k < 6 → ∀ q, q < 12 → ∀ d, d < 10 → ¬ (k = i ∧ q = j ∧ d = c) → cP g B σ' k q d = cP g B σ k q d) : RC g x B z0 μ0 σ' τ (up μ (pA B i j + c) e) := by
  obtain ⟨h1, h2, ⟨s1, s2, s3, s4, s5⟩, h5, h4⟩ := h
  have hzi := s4 i hi
  refine ⟨fun q hq => ?_, fun k hk => ?_, ⟨s1, by rw [hN]; exact s2, by rw [hN0]; exact s3, by rw [hN]; exact s4, by rw [hN, hN0]; exact s5⟩, by rw [hN, hN0]; exact h5, fun a v ha hz hv => ?_⟩
  · rw [up_n (by unfold pA; omega), hH q hq]
    exact h1 q hq
  · rw [hN] at hk
    obtain ⟨b1, b2, b3⟩ := h2 k hk
    have hsep : k = i ∨ B k + 2 + 10 * σ.1 0 k ≤ B i ∨ B i + 2 + 10 * σ.1 0 i ≤ B k := by
      rcases Nat.lt_trichotomy k i with q | q | q
      · exact Or.inr (Or.inl (s5 k i q hi))
      · exact Or.inl q
      · exact Or.inr (Or.inr (s5 i k q hk))
    have hzk := s4 k hk
    refine ⟨?_, ?_, fun q hq d hd => ?_⟩
    · rw [up_n (by unfold pA; rcases hsep with rfl | r | r <;> omega), hB k hk]
      exact b1
    · rw [up_n (by unfold pA; rcases hsep with rfl | r | r <;> omega)]
      unfold cPs
      rw [hN0]
      exact b2
    · rw [hN0] at hq
      by_cases w : k = i ∧ q = j ∧ d = c
      · obtain ⟨rfl, rfl, rfl⟩ := w
        rw [up_s, he]
      · have hne : pA B k q + d ≠ pA B i j + c := by
          unfold pA
          rcases hsep with rfl | r | r
          · intro e1
            exact w ⟨rfl, by omega, by omega⟩
          · omega
          · omega
        rw [up_n hne, hP k (by omega) q (Nat.lt_of_lt_of_le hq (s3 k)) d hd w]
        exact b3 q hq d hd
  · have hne : a ≠ pA B i j + c := fun q => by
      unfold pA at q
      have := h5 i hi a (by omega) (by omega) hz
      rw [hv] at this
      cases this
    rw [up_n hne]
    exact h4 a v ha hz hv
end RCX
