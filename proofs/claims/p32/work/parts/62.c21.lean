theorem pg0_cP {g : mG} {B : Nat → Nat} {σ : Sg} {i j : Nat} (h : (σ.2.1 2 (12 * i + j) = false ∧ σ.2.1 3 (12 * i + j) = false ∧ σ.2.1 4 (12 * i + j) = false ∧ σ.2.2.2 0 (12 * i + j) = 0 ∧ σ.2.2.1 5 (12 * i + j) = 0 ∧ σ.2.2.1 6 (12 * i + j) = 0) ∧ (∀ v, v < 4 → σ.2.1 5 (72 * v + (12 * i + j)) = false ∧ σ.2.2.2 1 (72 * v + (12 * i + j)) = 0) ∧ ∀ a, a < 4 → σ.1 1 (4 * (12 * i + j) + a) = 0 ∧ ∀ w, w < 5 → σ.1 2 (5 * (4 * (12 * i + j) + a) + w) = 0) (c : Nat) (hc : c < 10) : pg0 g (pA B i j) c = cP g B σ i j c := by
  obtain ⟨⟨a1, a2, a3, a4, a5, a6⟩, h5, h6⟩ := h
  have e4 : ∀ f : Nat → Int32, (∀ a, a < 4 → f a = -1) → (fun i : Nat => if i < 4 then (-1 : Int32) else 0) = rs 4 0 f := fun f hf => funext fun k => by
    unfold rs
    by_cases q : k < 4
    · rw [if_pos q, if_pos q, hf k q]
    · rw [if_neg q, if_neg q]
  rcases (show c = 0 ∨ c = 1 ∨ c = 2 ∨ c = 3 ∨ c = 4 ∨ ∃ k, k < 5 ∧ c = k + 5 by
    rcases Nat.lt_or_ge c 5 with q | q
    · omega
    · exact Or.inr (Or.inr (Or.inr (Or.inr (Or.inr ⟨c - 5, by omega, by omega⟩))))) with rfl | rfl | rfl | rfl | rfl | ⟨k, hk, rfl⟩
  · unfold cP
    rw [a1, a2, a3, a4, a5, a6]
    rfl
  · show (Sum.inl (g.2.1 1, aI 4 (fun _ => 0)) : va_E) = Sum.inl (g.2.1 1, aI 4 _)
    refine congrArg (fun q => (Sum.inl (g.2.1 1, aI 4 q) : va_E)) (funext fun k => ?_)
    unfold rs
    by_cases q : k < 4
    · rw [if_pos q]
      show (0 : Int32) = bI (σ.2.1 5 (72 * k + (12 * i + j)))
      rw [(h5 k q).1]
      rfl
    · rw [if_neg q]
  · show (Sum.inl (g.2.1 2, aL 4 (fun _ => 0)) : va_E) = Sum.inl (g.2.1 2, aL 4 _)
    refine congrArg (fun q => (Sum.inl (g.2.1 2, aL 4 q) : va_E)) (funext fun k => ?_)
    unfold rs
    by_cases q : k < 4
    · rw [if_pos q]
      exact (h5 k q).2.symm
    · rw [if_neg q]
  · show (Sum.inl (g.2.1 0, aI 4 (fun i => if i < 4 then -1 else 0)) : va_E) = Sum.inl (g.2.1 0, aI 4 _)
    rw [e4 (fun a => mI (σ.1 1 (4 * (12 * i + j) + a))) (fun a ha => by show mI _ = _; rw [(h6 a ha).1]; exact mI_0)]
  · rfl
  · have e : pg0 g (pA B i j) (k + 5) = Sum.inl (g.2.1 0, aI 4 (fun i => if i < 4 then -1 else 0)) := by
      rcases (show k = 0 ∨ k = 1 ∨ k = 2 ∨ k = 3 ∨ k = 4 by omega) with rfl | rfl | rfl | rfl | rfl <;> rfl
    rw [e]
    show _ = Sum.inl (g.2.1 0, aI 4 _)
    rw [e4 (fun a => mI (σ.1 2 (5 * (4 * (12 * i + j) + a) + k))) (fun a ha => by show mI _ = _; rw [(h6 a ha).2 k hk]; exact mI_0)]
theorem RC.add {g : mG} {x : Nat} {B : Nat → Nat} {z0 z n : Nat} {μ0 μ μ' : mM} {σ σ' τ : Sg} (h : RC g x B z0 μ0 σ τ μ) (hI : Inv σ) (h6 : σ.1 3 0 < 6) (hn : n ≤ 12) (hz : z0 ≤ z) (hlt : ∀ a e, μ a = some e → a < z)
    (e3 : σ'.1 3 0 = σ.1 3 0 + 1) (e32 : σ'.1 3 2 = σ.1 3 2) (e0 : σ'.1 0 (σ.1 3 0) = n) (e0' : ∀ i, i ≠ σ.1 3 0 → σ'.1 0 i = σ.1 0 i) (e1 : σ'.1 1 = σ.1 1) (e2 : σ'.1 2 = σ.1 2) (eb : σ'.2.1 = σ.2.1) (el : σ'.2.2.2 = σ.2.2.2) (ei : ∀ k, 4 ≤ k → σ'.2.2.1 k = σ.2.2.1 k) (ei' : ∀ k i, i ≠ σ.1 3 0 → σ'.2.2.1 k i = σ.2.2.1 k i ∨ 4 ≤ k)
    {fs : List Value} (hfs : fs = [.ref (z + 1), .int (σ'.2.2.1 0 (σ.1 3 0)), .int (σ'.2.2.1 2 (σ.1 3 0)), .int (σ'.2.2.1 1 (σ.1 3 0)), .int (σ'.2.2.1 3 (σ.1 3 0)), .int 0, .int 0, .int 0])
    {μ9 : mM} (hB : BI g z n μ fs n μ9) {μ8 : mM} (e8 : μ8 = up μ9 (x + 1) (.inl (g.2.1 4, aQ 6 (va_up (fun i => if i < σ.1 3 0 then some (B i) else none) (σ.1 3 0) (some z)))))
    (e7 : μ' = up μ8 x (.inr (5, ([.ref (x + 1), .int (nI (σ.1 3 0)), .int (σ.2.2.1 8 0), .ref (x + 2), .ref (x + 3), .ref (x + 7), .ref (x + 9), .int (σ.2.2.1 8 1), .ref (x + 11)] : List Value).set 1 (.int (nI (σ.1 3 0 + 1)))))) : RC g x (fun i => if i = σ.1 3 0 then z else B i) z0 μ0 σ' τ μ' := by
  have hlast : ∀ i, i < σ.1 3 0 → B i + 2 + 10 * σ.1 0 i ≤ z := fun i hi => by
    rcases Nat.eq_zero_or_pos (σ.1 0 i) with q | q
    · have := hlt _ _ (h.ps hi)
      omega
    · have := hlt _ _ ((h.2.1 i hi).2.2 (σ.1 0 i - 1) (by omega) 9 (by decide))
      unfold pA at this
      omega
  have hx12 : x + 12 ≤ z := Nat.le_trans h.2.2.1.1 hz
  obtain ⟨h1, h2, ⟨s1, s2, s3, s4, s5⟩, h5, h4⟩ := h
  have hfr : ∀ q, q ≠ x → q ≠ x + 1 → ¬ (z ≤ q ∧ q < z + 2 + 10 * n) → μ' q = μ q := fun q a b c => by
    rw [e7, up_n a, e8, up_n b]
    exact hB.2.2.2 q c
  have hbk : ∀ q, z ≤ q → μ' q = μ9 q := fun q a => by
    rw [e7, up_n (by omega), e8, up_n (by omega)]
  refine ⟨fun k hk => ?_, fun i hi => ?_, ⟨s1, by rw [e3]; omega, fun i => ?_, fun i hi => ?_, fun i k hik hk => ?_⟩, fun i hi q q1 q2 q3 => ?_, fun q v hq hqz hv => ?_⟩
  · by_cases k0 : k = 0
    · subst k0
      rw [e7]
      refine up_s.trans ?_
      show _ = some (Sum.inr (5, ([.ref (x + 1), .int (nI (σ'.1 3 0)), .int (σ'.2.2.1 8 0), .ref (x + 2), .ref (x + 3), .ref (x + 7), .ref (x + 9), .int (σ'.2.2.1 8 1), .ref (x + 11)] : List Value)) : va_E)
      rw [e3, ei 8 (by decide)]
      rfl
    · by_cases k1 : k = 1
      · subst k1
        rw [e7, up_n (by omega), e8, up_s]
        refine congrArg (fun q => some (Sum.inl (g.2.1 4, aQ 6 q))) (funext fun i => ?_)
        show (if i = σ.1 3 0 then some z else if i < σ.1 3 0 then some (B i) else none) = if i < σ'.1 3 0 then some (if i = σ.1 3 0 then z else B i) else none
        rw [e3]
        by_cases q : i = σ.1 3 0
        · rw [if_pos q, if_pos (by omega), if_pos q]
        · rw [if_neg q]
          by_cases w : i < σ.1 3 0
          · rw [if_pos w, if_pos (by omega), if_neg q]
          · rw [if_neg w, if_neg (by omega)]
      · rw [hfr (x + k) (by omega) (by omega) (by omega), h1 k hk]
        rcases (show k = 2 ∨ k = 3 ∨ k = 4 ∨ k = 5 ∨ k = 6 ∨ k = 7 ∨ k = 8 ∨ k = 9 ∨ k = 10 ∨ k = 11 by omega) with rfl | rfl | rfl | rfl | rfl | rfl | rfl | rfl | rfl | rfl <;> first | rfl | simp only [cHs, e32, eb, ei 7 (by decide)]
  · rw [e3] at hi
    by_cases q : i = σ.1 3 0
    · subst q
      have hblk := hI.2.2.2.2.2.1 (σ.1 3 0) (Nat.le_refl _) h6
      have hbp := fun j (hj : j < 12) => hI.2.2.2.2.2.2 (σ.1 3 0) j h6 hj (fun w => absurd w.1 (Nat.lt_irrefl _))
      have hBz : (fun i => if i = σ.1 3 0 then z else B i) (σ.1 3 0) = z := if_pos rfl
      refine ⟨?_, ?_, fun j hj c hc => ?_⟩
      · rw [hBz, hbk z (Nat.le_refl _), hB.1, hfs]
        unfold cBk
        rw [hBz, ei 4 (by decide), eb, hblk.1, hblk.2.1, hblk.2.2]
        rfl
      · rw [hBz, hbk (z + 1) (by omega), hB.2.1]
        unfold cPs pA
        rw [hBz, e0]
      · rw [e0] at hj
        unfold pA
        rw [hBz, hbk _ (by omega), hB.2.2.1 j hj c hc]
        have e9 := pg0_cP (g := g) (B := fun i => if i = σ.1 3 0 then z else B i) (σ := σ') (i := σ.1 3 0) (j := j) (by rw [eb, el, ei 5 (by decide), ei 6 (by decide), e1, e2]; exact hbp j (by omega)) c hc
        unfold pA at e9
        rw [hBz] at e9
        rw [e9]
    · have hi2 : i < σ.1 3 0 := by omega
      obtain ⟨b1, b2, b3⟩ := h2 i hi2
      have hBi : (fun i => if i = σ.1 3 0 then z else B i) i = B i := if_neg q
      have hz1 := s4 i hi2
      have hz2 := hlast i hi2
      have ii : ∀ k, σ'.2.2.1 k i = σ.2.2.1 k i := fun k => by
        rcases ei' k i q with w | w
        · exact w
        · rw [ei k w]
      refine ⟨?_, ?_, fun j hj c hc => ?_⟩
      · rw [hBi, hfr (B i) (by omega) (by omega) (by omega), b1]
        unfold cBk
        rw [hBi, eb, ii 0, ii 1, ii 2, ii 3, ii 4]
      · rw [hBi, hfr (B i + 1) (by omega) (by omega) (by omega), b2]
        unfold cPs pA
        rw [hBi, e0' i q]
      · rw [e0' i q] at hj
        have hpa : pA (fun i => if i = σ.1 3 0 then z else B i) i j = pA B i j := by
          unfold pA
          rw [hBi]
        rw [hpa, hfr (pA B i j + c) (by unfold pA; omega) (by unfold pA; omega) (by unfold pA; omega), b3 j hj c hc]
        have e9 : cP g (fun i => if i = σ.1 3 0 then z else B i) σ i j c = cP g B σ i j c := by
          rcases (show c = 0 ∨ c = 1 ∨ c = 2 ∨ c = 3 ∨ c = 4 ∨ ∃ k, c = k + 5 by
            rcases Nat.lt_or_ge c 5 with v | v
            · omega
            · exact Or.inr (Or.inr (Or.inr (Or.inr (Or.inr ⟨c - 5, by omega⟩))))) with rfl | rfl | rfl | rfl | rfl | ⟨k, rfl⟩ <;> first | rfl | (unfold cP; rw [hpa])
        rw [← e9]
        exact congrArg some (cP_congr c hc (fun _ => ⟨by rw [eb], by rw [eb], by rw [eb], by rw [el], by rw [ei 5 (by decide)], by rw [ei 6 (by decide)]⟩) (fun _ v _ => by rw [eb]) (fun _ v _ => by rw [el]) (fun _ a _ => by rw [e1]) (fun k _ a _ => by rw [e2])).symm
  · by_cases q : i = σ.1 3 0
    · rw [q, e0]
      exact hn
    · rw [e0' i q]
      exact s3 i
  · rw [e3] at hi
    show x + 12 ≤ if i = σ.1 3 0 then z else B i
    by_cases q : i = σ.1 3 0
    · rw [if_pos q]
      exact hx12
    · rw [if_neg q]
      exact s4 i (by omega)
  · rw [e3] at hk
    show (if i = σ.1 3 0 then z else B i) + 2 + 10 * σ'.1 0 i ≤ if k = σ.1 3 0 then z else B k
    rw [if_neg (show ¬ i = σ.1 3 0 by omega), e0' i (by omega)]
    by_cases q : k = σ.1 3 0
    · rw [if_pos q]
      exact hlast i (by omega)
    · rw [if_neg q]
      exact s5 i k hik (by omega)
  · rw [e3] at hi
    by_cases w : i = σ.1 3 0
    · have q1' : (if i = σ.1 3 0 then z else B i) ≤ q := q1
      rw [if_pos w] at q1'
      omega
    · have q1' : (if i = σ.1 3 0 then z else B i) ≤ q := q1
      have q2' : q < (if i = σ.1 3 0 then z else B i) + 2 + 10 * σ'.1 0 i := q2
      rw [if_neg w] at q1' q2'
      rw [e0' i w] at q2'
      exact h5 i (by omega) q q1' q2' q3
  · rw [hfr q (by omega) (by omega) (by omega)]
    exact h4 q v hq hqz hv
section VLT
variable {p : Program} {l : Launch} {e : Env} {R : Room} {s : State} {m : MethodId} {args : Array Value} {below : List Frame} {meth : Method} {c : Code} {Q : State → Prop} {g : mG} {μ : mM} {z k n pc : Nat} {lv : List (Nat × Value)} {st : List Value}
theorem v_lt (kk : (∀ a e, μ a = some e → a < z) → V p l e R s m args below meth c Q g μ z k n pc lv st) : V p l e R s m args below meth c Q g μ z k n pc lv st := fun H locs ls a1 a2 a3 => kk (fun a e h => a1.lt h) H locs ls a1 a2 a3
end VLT
