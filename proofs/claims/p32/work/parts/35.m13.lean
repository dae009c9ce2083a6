/-! things in the making: an object at m, and cells behind it -/
def CP (g : mG) (ci m : Nat) (μ0 : mM) (fs : List Value) (cs : List va_E) (μ : mM) : Prop := μ m = some (.inr (ci, fs)) ∧ (∀ k e, cs[k]? = some e → μ (m + 1 + k) = some e) ∧ ∀ a, ¬ (m ≤ a ∧ a < m + 1 + cs.length) → μ a = μ0 a
theorem CP.new {g : mG} {ci m : Nat} {μ0 μ : mM} {fs : List Value} {cs : List va_E} (h : CP g ci m μ0 fs cs μ) (e : va_E) : CP g ci m μ0 fs (cs ++ [e]) (up μ (m + 1 + cs.length) e) := by
  refine ⟨?_, fun k x hx => ?_, fun a ha => ?_⟩
  · rw [up_n (by omega)]
    exact h.1
  · by_cases q : k < cs.length
    · rw [List.getElem?_append_left q] at hx
      rw [up_n (by omega)]
      exact h.2.1 k x hx
    · rw [List.getElem?_append_right (by omega)] at hx
      have h0 : k - cs.length < 1 := (List.getElem?_eq_some_iff.mp hx).1
      rw [show k - cs.length = 0 by omega] at hx
      cases hx
      rw [show k = cs.length by omega, up_s]
  · rw [List.length_append, List.length_singleton] at ha
    rw [up_n (by omega)]
    exact h.2.2 a (by omega)
theorem CP.put {g : mG} {ci m : Nat} {μ0 μ μ1 : mM} {fs fs' : List Value} {cs : List va_E} (h : CP g ci m μ0 fs cs μ) (e : μ1 = up μ m (.inr (ci, fs'))) : CP g ci m μ0 fs' cs μ1 := by
  subst e
  refine ⟨up_s, fun k x hx => ?_, fun a ha => ?_⟩
  · rw [up_n (by omega)]
    exact h.2.1 k x hx
  · rw [up_n (by omega)]
    exact h.2.2 a ha
theorem CP.ast {g : mG} {ci m : Nat} {μ0 μ μ1 : mM} {fs : List Value} {cs cs' : List va_E} {x : va_E} (h : CP g ci m μ0 fs cs μ) (k : Nat) (hk : k < cs.length) (hs : cs.set k x = cs') (e : μ1 = up μ (m + 1 + k) x) : CP g ci m μ0 fs cs' μ1 := by
  subst e
  subst hs
  refine ⟨?_, fun j y hy => ?_, fun a ha => ?_⟩
  · rw [up_n (by omega)]
    exact h.1
  · by_cases q : j = k
    · subst q
      rw [List.getElem?_set_self hk] at hy
      cases hy
      exact up_s
    · rw [List.getElem?_set_ne (Ne.symm q)] at hy
      rw [up_n (by omega)]
      exact h.2.1 j y hy
  · rw [List.length_set] at ha
    rw [up_n (by omega)]
    exact h.2.2 a ha
def σ0 : Sg := (fun k _ => if k = 5 then 1 else 0, fun _ _ => false, fun k i => if k = 8 ∧ i = 1 then nI 2000 else if k = 7 ∧ i < 4 then nI 70 else 0, fun _ _ => 0)
theorem Inv_0 : Inv σ0 := ⟨Nat.zero_le _, fun _ => Nat.zero_le _, fun _ => Nat.zero_le _, fun _ => Nat.zero_le _, fun b h => absurd h (Nat.not_lt_zero _), ⟨fun b _ h => ⟨rfl, rfl, rfl⟩, fun b p _ _ _ => ⟨⟨rfl, rfl, rfl, rfl, rfl, rfl⟩, fun _ _ => ⟨rfl, rfl⟩, fun _ _ => ⟨rfl, fun _ _ => rfl⟩⟩⟩⟩
