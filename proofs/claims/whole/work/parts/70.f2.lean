/-- between two rounds: the house at x, the reference at x + 12, the out array at x + 38 -/
def LWS (g : mG) (x : Nat) (σ : Sg) (μ : mM) (z : Nat) : Prop := Inv σ ∧ RM g (x + 12) μ σ μ ∧ (∃ B τ, RC g x B (x + 39) μ σ τ μ) ∧ (∃ f, μ (x + 38) = some (.inl (g.2.1 2, aL 1 f))) ∧ x + 39 ≤ z
theorem RM.keep {g : mG} {m : Nat} {μ0 μ μ1 : mM} {σ : Sg} (h : RM g m μ0 σ μ) (hk : ∀ k, k < 26 → μ1 (m + k) = μ (m + k)) : RM g m μ1 σ μ1 := ⟨fun k hk2 => (hk k hk2).trans (h.1 k hk2), fun _ _ => rfl⟩
theorem RC.keep {g : mG} {x : Nat} {B : Nat → Nat} {z0 : Nat} {μ0 μ μ1 : mM} {σ τ : Sg} (h : RC g x B z0 μ0 σ τ μ) (hk : ∀ q, (q < x + 12 ∨ z0 ≤ q) → μ1 q = μ q) : RC g x B z0 μ1 σ τ μ1 := by
  obtain ⟨a1, a2, a3, a4⟩ := h
  refine ⟨fun k hk2 => (hk _ (by omega)).trans (a1 k hk2), fun i hi => ?_, a3, fun _ _ _ => rfl⟩
  have hz := a3.2.2.2.1 i hi
  obtain ⟨b1, b2, b3⟩ := a2 i hi
  exact ⟨(hk _ (by omega)).trans b1, (hk _ (by omega)).trans b2, fun j hj c hc => (hk _ (by unfold pA; omega)).trans (b3 j hj c hc)⟩
/-- after the class's call: the reference's object is as it was, the out array holds the answer -/
theorem LWS.cls {g : mG} {x : Nat} {σ σ' τ' : Sg} {B' : Nat → Nat} {μ μ1 : mM} {f' : Nat → Int64} (hM : RM g (x + 12) μ σ μ) (hR : RC g x B' (x + 39) (up μ (x + 38) (.inl (g.2.1 2, aL 1 f'))) σ' τ' μ1) : RM g (x + 12) μ1 σ μ1 ∧ μ1 (x + 38) = some (.inl (g.2.1 2, aL 1 f')) :=
  ⟨hM.keep (fun k hk => (hR.2.2.2 _ (by omega) (by omega)).trans (up_n (by omega))), (hR.2.2.2 _ (by omega) (by omega)).trans up_s⟩
theorem LWS.cls0 {g : mG} {x : Nat} {σ σ' τ' : Sg} {B' : Nat → Nat} {μ μ1 : mM} {f : Nat → Int64} (hM : RM g (x + 12) μ σ μ) (hf : μ (x + 38) = some (.inl (g.2.1 2, aL 1 f))) (hR : RC g x B' (x + 39) μ σ' τ' μ1) : RM g (x + 12) μ1 σ μ1 ∧ μ1 (x + 38) = some (.inl (g.2.1 2, aL 1 f)) :=
  ⟨hM.keep (fun k hk => hR.2.2.2 _ (by omega) (by omega)), (hR.2.2.2 _ (by omega) (by omega)).trans hf⟩
/-- after the reference's call too -/
theorem LWS.ref {g : mG} {x z : Nat} {σ' σ2 τ' : Sg} {B' : Nat → Nat} {μb μ1 μ2 : mM} {f : Nat → Int64} (hI : Inv σ') (hs : scr σ2 σ') (hR : RC g x B' (x + 39) μb σ' τ' μ1) (hf : μ1 (x + 38) = some (.inl (g.2.1 2, aL 1 f))) (hM : RM g (x + 12) μ1 σ2 μ2) (hz : x + 39 ≤ z) : LWS g x σ2 μ2 z ∧ μ2 (x + 38) = some (.inl (g.2.1 2, aL 1 f)) := by
  have hf2 : μ2 (x + 38) = some (.inl (g.2.1 2, aL 1 f)) := (hM.2 _ (by omega)).trans hf
  exact ⟨⟨hs.inv hI, hM.keep (fun _ _ => rfl), ⟨B', τ', (hR.keep (fun q hq => hM.2 q (by omega))).scr hs⟩, ⟨f, hf2⟩, hz⟩, hf2⟩
