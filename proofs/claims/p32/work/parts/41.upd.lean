theorem rs_congr {α : Type} {n : Nat} {d : α} {f f' : Nat → α} (h : ∀ k, k < n → f k = f' k) : rs n d f = rs n d f' := funext fun k => by
  unfold rs
  split
  · exact h k (by assumption)
  · rfl
theorem rs_upd {n k0 : Nat} {d w : Int32} {f f' : Nat → Int32} (h0 : k0 < n) (hw : w = f' k0) (h : ∀ k, k < n → k ≠ k0 → f' k = f k) : upd (rs n d f) k0 w = rs n d f' := funext fun k => by
  unfold upd rs
  by_cases q : k = k0
  · subst q
    rw [if_pos rfl, if_pos h0, hw]
  · rw [if_neg q]
    by_cases r : k < n
    · rw [if_pos r, if_pos r, h k r q]
    · rw [if_neg r, if_neg r]
theorem rs_updL {n k0 : Nat} {d w : Int64} {f f' : Nat → Int64} (h0 : k0 < n) (hw : w = f' k0) (h : ∀ k, k < n → k ≠ k0 → f' k = f k) : vp_updL (rs n d f) k0 w = rs n d f' := funext fun k => by
  unfold vp_updL rs
  by_cases q : k = k0
  · subst q
    rw [if_pos rfl, if_pos h0, hw]
  · rw [if_neg q]
    by_cases r : k < n
    · rw [if_pos r, if_pos r, h k r q]
    · rw [if_neg r, if_neg r]
theorem cP_congr {g : mG} {B : Nat → Nat} {σ σ' : Sg} {i j : Nat} (c : Nat) (hc : c < 10) (h0 : c = 0 → σ'.2.1 2 (12 * i + j) = σ.2.1 2 (12 * i + j) ∧ σ'.2.1 3 (12 * i + j) = σ.2.1 3 (12 * i + j) ∧ σ'.2.1 4 (12 * i + j) = σ.2.1 4 (12 * i + j) ∧ σ'.2.2.2 0 (12 * i + j) = σ.2.2.2 0 (12 * i + j) ∧ σ'.2.2.1 5 (12 * i + j) = σ.2.2.1 5 (12 * i + j) ∧ σ'.2.2.1 6 (12 * i + j) = σ.2.2.1 6 (12 * i + j))
    (h1 : c = 1 → ∀ v, v < 4 → σ'.2.1 5 (72 * v + (12 * i + j)) = σ.2.1 5 (72 * v + (12 * i + j))) (h2 : c = 2 → ∀ v, v < 4 → σ'.2.2.2 1 (72 * v + (12 * i + j)) = σ.2.2.2 1 (72 * v + (12 * i + j)))
    (h3 : c = 3 → ∀ a, a < 4 → σ'.1 1 (4 * (12 * i + j) + a) = σ.1 1 (4 * (12 * i + j) + a)) (h5 : ∀ k, c = k + 5 → ∀ a, a < 4 → σ'.1 2 (5 * (4 * (12 * i + j) + a) + k) = σ.1 2 (5 * (4 * (12 * i + j) + a) + k)) : cP g B σ' i j c = cP g B σ i j c := by
  match c, h0, h1, h2, h3, h5 with
  | 0, h0, _, _, _, _ =>
    obtain ⟨a1, a2, a3, a4, a5, a6⟩ := h0 rfl
    unfold cP
    rw [a1, a2, a3, a4, a5, a6]
  | 1, _, h1, _, _, _ =>
    unfold cP
    rw [rs_congr (f := fun v => bI (σ'.2.1 5 (72 * v + (12 * i + j)))) (fun v hv => congrArg bI (h1 rfl v hv))]
  | 2, _, _, h2, _, _ =>
    unfold cP
    rw [rs_congr (f := fun v => σ'.2.2.2 1 (72 * v + (12 * i + j))) (fun v hv => h2 rfl v hv)]
  | 3, _, _, _, h3, _ =>
    unfold cP
    rw [rs_congr (f := fun a => mI (σ'.1 1 (4 * (12 * i + j) + a))) (fun a ha => congrArg mI (h3 rfl a ha))]
  | 4, _, _, _, _, _ => rfl
  | k + 5, _, _, _, _, h5 =>
    show (Sum.inl _ : va_E) = Sum.inl _
    rw [rs_congr (f := fun a => mI (σ'.1 2 (5 * (4 * (12 * i + j) + a) + k))) (fun a ha => congrArg mI (h5 k rfl a ha))]
section RCU
variable {g : mG} {x : Nat} {B : Nat → Nat} {z0 : Nat} {μ0 μ μ1 : mM} {σ τ : Sg}
/-- what lies below z0, but the house, may be told anew -/
theorem RC.u_strength (h : RC g x B z0 μ0 σ τ μ) {i : Nat} (hi : i < σ.1 3 0) {v : Int32} (e : μ1 = up μ (B i) (.inr (0, (cBk B σ i).set 3 (.int v)))) : RC g x B z0 μ0 (uI σ 1 i v) τ μ1 := by
  subst e
  exact h.setB hi rfl rfl (by simp [cBk, uI, u2]) (fun q hq => by rcases (show q = 0 ∨ q = 1 ∨ q = 2 ∨ q = 3 ∨ q = 4 ∨ q = 5 ∨ q = 6 ∨ q = 7 ∨ q = 8 ∨ q = 9 ∨ q = 10 ∨ q = 11 by omega) with rfl | rfl | rfl | rfl | rfl | rfl | rfl | rfl | rfl | rfl | rfl | rfl <;> rfl) (fun k hk hne => by simp [cBk, uI, u2, hne]) (fun k hk j hj c hc => cP_congr c hc (fun _ => ⟨rfl, rfl, rfl, rfl, rfl, rfl⟩) (fun _ _ _ => rfl) (fun _ _ _ => rfl) (fun _ _ _ => rfl) (fun _ _ _ _ => rfl))
theorem RC.u_death (h : RC g x B z0 μ0 σ τ μ) {i : Nat} (hi : i < σ.1 3 0) {v : Int32} (e : μ1 = up μ (B i) (.inr (0, (cBk B σ i).set 4 (.int v)))) : RC g x B z0 μ0 (uI σ 3 i v) τ μ1 := by
  subst e
  exact h.setB hi rfl rfl (by simp [cBk, uI, u2]) (fun q hq => by rcases (show q = 0 ∨ q = 1 ∨ q = 2 ∨ q = 3 ∨ q = 4 ∨ q = 5 ∨ q = 6 ∨ q = 7 ∨ q = 8 ∨ q = 9 ∨ q = 10 ∨ q = 11 by omega) with rfl | rfl | rfl | rfl | rfl | rfl | rfl | rfl | rfl | rfl | rfl | rfl <;> rfl) (fun k hk hne => by simp [cBk, uI, u2, hne]) (fun k hk j hj c hc => cP_congr c hc (fun _ => ⟨rfl, rfl, rfl, rfl, rfl, rfl⟩) (fun _ _ _ => rfl) (fun _ _ _ => rfl) (fun _ _ _ => rfl) (fun _ _ _ _ => rfl))
theorem RC.u_shotsTaken (h : RC g x B z0 μ0 σ τ μ) {i : Nat} (hi : i < σ.1 3 0) {v : Int32} (e : μ1 = up μ (B i) (.inr (0, (cBk B σ i).set 5 (.int v)))) : RC g x B z0 μ0 (uI σ 4 i v) τ μ1 := by
  subst e
  exact h.setB hi rfl rfl (by simp [cBk, uI, u2]) (fun q hq => by rcases (show q = 0 ∨ q = 1 ∨ q = 2 ∨ q = 3 ∨ q = 4 ∨ q = 5 ∨ q = 6 ∨ q = 7 ∨ q = 8 ∨ q = 9 ∨ q = 10 ∨ q = 11 by omega) with rfl | rfl | rfl | rfl | rfl | rfl | rfl | rfl | rfl | rfl | rfl | rfl <;> rfl) (fun k hk hne => by simp [cBk, uI, u2, hne]) (fun k hk j hj c hc => cP_congr c hc (fun _ => ⟨rfl, rfl, rfl, rfl, rfl, rfl⟩) (fun _ _ _ => rfl) (fun _ _ _ => rfl) (fun _ _ _ => rfl) (fun _ _ _ _ => rfl))
theorem RC.u_searched (h : RC g x B z0 μ0 σ τ μ) {i : Nat} (hi : i < σ.1 3 0) {v : Bool} (e : μ1 = up μ (B i) (.inr (0, (cBk B σ i).set 6 (.int (bI v))))) : RC g x B z0 μ0 (uB σ 0 i v) τ μ1 := by
  subst e
  exact h.setB hi rfl rfl (by simp [cBk, uB, u2]) (fun q hq => by rcases (show q = 0 ∨ q = 1 ∨ q = 2 ∨ q = 3 ∨ q = 4 ∨ q = 5 ∨ q = 6 ∨ q = 7 ∨ q = 8 ∨ q = 9 ∨ q = 10 ∨ q = 11 by omega) with rfl | rfl | rfl | rfl | rfl | rfl | rfl | rfl | rfl | rfl | rfl | rfl <;> rfl) (fun k hk hne => by simp [cBk, uB, u2, hne]) (fun k hk j hj c hc => cP_congr c hc (fun _ => ⟨rfl, rfl, rfl, rfl, rfl, rfl⟩) (fun _ _ _ => rfl) (fun _ _ _ => rfl) (fun _ _ _ => rfl) (fun _ _ _ _ => rfl))
theorem RC.u_takenDown (h : RC g x B z0 μ0 σ τ μ) {i : Nat} (hi : i < σ.1 3 0) {v : Bool} (e : μ1 = up μ (B i) (.inr (0, (cBk B σ i).set 7 (.int (bI v))))) : RC g x B z0 μ0 (uB σ 1 i v) τ μ1 := by
  subst e
  exact h.setB hi rfl rfl (by simp [cBk, uB, u2]) (fun q hq => by rcases (show q = 0 ∨ q = 1 ∨ q = 2 ∨ q = 3 ∨ q = 4 ∨ q = 5 ∨ q = 6 ∨ q = 7 ∨ q = 8 ∨ q = 9 ∨ q = 10 ∨ q = 11 by omega) with rfl | rfl | rfl | rfl | rfl | rfl | rfl | rfl | rfl | rfl | rfl | rfl <;> rfl) (fun k hk hne => by simp [cBk, uB, u2, hne]) (fun k hk j hj c hc => cP_congr c hc (fun _ => ⟨rfl, rfl, rfl, rfl, rfl, rfl⟩) (fun _ _ _ => rfl) (fun _ _ _ => rfl) (fun _ _ _ => rfl) (fun _ _ _ _ => rfl))
theorem RC.u_hasShot (h : RC g x B z0 μ0 σ τ μ) {i j : Nat} (hi : i < σ.1 3 0) (hj : j < σ.1 0 i) {v : Bool} (e : μ1 = up μ (pA B i j) (.inr (2, ([.int (bI (σ.2.1 2 (12 * i + j))), .int (bI (σ.2.1 3 (12 * i + j))), .int (bI (σ.2.1 4 (12 * i + j))), .long (σ.2.2.2 0 (12 * i + j)), .ref (pA B i j + 1), .ref (pA B i j + 2), .int (σ.2.2.1 5 (12 * i + j)), .int (σ.2.2.1 6 (12 * i + j)), .ref (pA B i j + 3), .ref (pA B i j + 4)] : List Value).set 0 (.int (bI v))))) : RC g x B z0 μ0 (uB σ 2 (12 * i + j) v) τ μ1 := by
  subst e
  have h12 := h.2.2.1.2.2.1 i
  exact h.setP 0 hi hj (by decide) rfl rfl (by simp [cP, uB, u2]) (fun q hq => by rcases (show q = 0 ∨ q = 1 ∨ q = 2 ∨ q = 3 ∨ q = 4 ∨ q = 5 ∨ q = 6 ∨ q = 7 ∨ q = 8 ∨ q = 9 ∨ q = 10 ∨ q = 11 by omega) with rfl | rfl | rfl | rfl | rfl | rfl | rfl | rfl | rfl | rfl | rfl | rfl <;> rfl) (fun _ _ => rfl) (fun k hk q hq d hd hne => cP_congr d hd (fun hd0 => ⟨u2_i (by omega), rfl, rfl, rfl, rfl, rfl⟩) (fun _ _ _ => rfl) (fun _ _ _ => rfl) (fun _ _ _ => rfl) (fun _ _ _ _ => rfl))
theorem RC.u_blurred (h : RC g x B z0 μ0 σ τ μ) {i j : Nat} (hi : i < σ.1 3 0) (hj : j < σ.1 0 i) {v : Bool} (e : μ1 = up μ (pA B i j) (.inr (2, ([.int (bI (σ.2.1 2 (12 * i + j))), .int (bI (σ.2.1 3 (12 * i + j))), .int (bI (σ.2.1 4 (12 * i + j))), .long (σ.2.2.2 0 (12 * i + j)), .ref (pA B i j + 1), .ref (pA B i j + 2), .int (σ.2.2.1 5 (12 * i + j)), .int (σ.2.2.1 6 (12 * i + j)), .ref (pA B i j + 3), .ref (pA B i j + 4)] : List Value).set 1 (.int (bI v))))) : RC g x B z0 μ0 (uB σ 3 (12 * i + j) v) τ μ1 := by
  subst e
  have h12 := h.2.2.1.2.2.1 i
  exact h.setP 0 hi hj (by decide) rfl rfl (by simp [cP, uB, u2]) (fun q hq => by rcases (show q = 0 ∨ q = 1 ∨ q = 2 ∨ q = 3 ∨ q = 4 ∨ q = 5 ∨ q = 6 ∨ q = 7 ∨ q = 8 ∨ q = 9 ∨ q = 10 ∨ q = 11 by omega) with rfl | rfl | rfl | rfl | rfl | rfl | rfl | rfl | rfl | rfl | rfl | rfl <;> rfl) (fun _ _ => rfl) (fun k hk q hq d hd hne => cP_congr d hd (fun hd0 => ⟨rfl, u2_i (by omega), rfl, rfl, rfl, rfl⟩) (fun _ _ _ => rfl) (fun _ _ _ => rfl) (fun _ _ _ => rfl) (fun _ _ _ _ => rfl))
theorem RC.u_faulty (h : RC g x B z0 μ0 σ τ μ) {i j : Nat} (hi : i < σ.1 3 0) (hj : j < σ.1 0 i) {v : Bool} (e : μ1 = up μ (pA B i j) (.inr (2, ([.int (bI (σ.2.1 2 (12 * i + j))), .int (bI (σ.2.1 3 (12 * i + j))), .int (bI (σ.2.1 4 (12 * i + j))), .long (σ.2.2.2 0 (12 * i + j)), .ref (pA B i j + 1), .ref (pA B i j + 2), .int (σ.2.2.1 5 (12 * i + j)), .int (σ.2.2.1 6 (12 * i + j)), .ref (pA B i j + 3), .ref (pA B i j + 4)] : List Value).set 2 (.int (bI v))))) : RC g x B z0 μ0 (uB σ 4 (12 * i + j) v) τ μ1 := by
  subst e
  have h12 := h.2.2.1.2.2.1 i
  exact h.setP 0 hi hj (by decide) rfl rfl (by simp [cP, uB, u2]) (fun q hq => by rcases (show q = 0 ∨ q = 1 ∨ q = 2 ∨ q = 3 ∨ q = 4 ∨ q = 5 ∨ q = 6 ∨ q = 7 ∨ q = 8 ∨ q = 9 ∨ q = 10 ∨ q = 11 by omega) with rfl | rfl | rfl | rfl | rfl | rfl | rfl | rfl | rfl | rfl | rfl | rfl <;> rfl) (fun _ _ => rfl) (fun k hk q hq d hd hne => cP_congr d hd (fun hd0 => ⟨rfl, rfl, u2_i (by omega), rfl, rfl, rfl⟩) (fun _ _ _ => rfl) (fun _ _ _ => rfl) (fun _ _ _ => rfl) (fun _ _ _ _ => rfl))
theorem RC.u_image (h : RC g x B z0 μ0 σ τ μ) {i j : Nat} (hi : i < σ.1 3 0) (hj : j < σ.1 0 i) {v : Int64} (e : μ1 = up μ (pA B i j) (.inr (2, ([.int (bI (σ.2.1 2 (12 * i + j))), .int (bI (σ.2.1 3 (12 * i + j))), .int (bI (σ.2.1 4 (12 * i + j))), .long (σ.2.2.2 0 (12 * i + j)), .ref (pA B i j + 1), .ref (pA B i j + 2), .int (σ.2.2.1 5 (12 * i + j)), .int (σ.2.2.1 6 (12 * i + j)), .ref (pA B i j + 3), .ref (pA B i j + 4)] : List Value).set 3 (.long v)))) : RC g x B z0 μ0 (uL σ 0 (12 * i + j) v) τ μ1 := by
  subst e
  have h12 := h.2.2.1.2.2.1 i
  exact h.setP 0 hi hj (by decide) rfl rfl (by simp [cP, uL, u2]) (fun q hq => by rcases (show q = 0 ∨ q = 1 ∨ q = 2 ∨ q = 3 ∨ q = 4 ∨ q = 5 ∨ q = 6 ∨ q = 7 ∨ q = 8 ∨ q = 9 ∨ q = 10 ∨ q = 11 by omega) with rfl | rfl | rfl | rfl | rfl | rfl | rfl | rfl | rfl | rfl | rfl | rfl <;> rfl) (fun _ _ => rfl) (fun k hk q hq d hd hne => cP_congr d hd (fun hd0 => ⟨rfl, rfl, rfl, u2_i (by omega), rfl, rfl⟩) (fun _ _ _ => rfl) (fun _ _ _ => rfl) (fun _ _ _ => rfl) (fun _ _ _ _ => rfl))
theorem RC.u_firstWord (h : RC g x B z0 μ0 σ τ μ) {i j : Nat} (hi : i < σ.1 3 0) (hj : j < σ.1 0 i) {v : Int32} (e : μ1 = up μ (pA B i j) (.inr (2, ([.int (bI (σ.2.1 2 (12 * i + j))), .int (bI (σ.2.1 3 (12 * i + j))), .int (bI (σ.2.1 4 (12 * i + j))), .long (σ.2.2.2 0 (12 * i + j)), .ref (pA B i j + 1), .ref (pA B i j + 2), .int (σ.2.2.1 5 (12 * i + j)), .int (σ.2.2.1 6 (12 * i + j)), .ref (pA B i j + 3), .ref (pA B i j + 4)] : List Value).set 6 (.int v)))) : RC g x B z0 μ0 (uI σ 5 (12 * i + j) v) τ μ1 := by
  subst e
  have h12 := h.2.2.1.2.2.1 i
  exact h.setP 0 hi hj (by decide) rfl rfl (by simp [cP, uI, u2]) (fun q hq => by rcases (show q = 0 ∨ q = 1 ∨ q = 2 ∨ q = 3 ∨ q = 4 ∨ q = 5 ∨ q = 6 ∨ q = 7 ∨ q = 8 ∨ q = 9 ∨ q = 10 ∨ q = 11 by omega) with rfl | rfl | rfl | rfl | rfl | rfl | rfl | rfl | rfl | rfl | rfl | rfl <;> rfl) (fun _ _ => rfl) (fun k hk q hq d hd hne => cP_congr d hd (fun hd0 => ⟨rfl, rfl, rfl, rfl, u2_i (by omega), rfl⟩) (fun _ _ _ => rfl) (fun _ _ _ => rfl) (fun _ _ _ => rfl) (fun _ _ _ _ => rfl))
theorem RC.u_catchword (h : RC g x B z0 μ0 σ τ μ) {i j : Nat} (hi : i < σ.1 3 0) (hj : j < σ.1 0 i) {v : Int32} (e : μ1 = up μ (pA B i j) (.inr (2, ([.int (bI (σ.2.1 2 (12 * i + j))), .int (bI (σ.2.1 3 (12 * i + j))), .int (bI (σ.2.1 4 (12 * i + j))), .long (σ.2.2.2 0 (12 * i + j)), .ref (pA B i j + 1), .ref (pA B i j + 2), .int (σ.2.2.1 5 (12 * i + j)), .int (σ.2.2.1 6 (12 * i + j)), .ref (pA B i j + 3), .ref (pA B i j + 4)] : List Value).set 7 (.int v)))) : RC g x B z0 μ0 (uI σ 6 (12 * i + j) v) τ μ1 := by
  subst e
  have h12 := h.2.2.1.2.2.1 i
  exact h.setP 0 hi hj (by decide) rfl rfl (by simp [cP, uI, u2]) (fun q hq => by rcases (show q = 0 ∨ q = 1 ∨ q = 2 ∨ q = 3 ∨ q = 4 ∨ q = 5 ∨ q = 6 ∨ q = 7 ∨ q = 8 ∨ q = 9 ∨ q = 10 ∨ q = 11 by omega) with rfl | rfl | rfl | rfl | rfl | rfl | rfl | rfl | rfl | rfl | rfl | rfl <;> rfl) (fun _ _ => rfl) (fun k hk q hq d hd hne => cP_congr d hd (fun hd0 => ⟨rfl, rfl, rfl, rfl, rfl, u2_i (by omega)⟩) (fun _ _ _ => rfl) (fun _ _ _ => rfl) (fun _ _ _ => rfl) (fun _ _ _ _ => rfl))
theorem RC.u_hc (h : RC g x B z0 μ0 σ τ μ) {i j k0 : Nat} (hi : i < σ.1 3 0) (hj : j < σ.1 0 i) (hk : k0 < 4) {v : Bool} (e : μ1 = up μ (pA B i j + 1) (.inl (g.2.1 1, aI 4 (upd (rs 4 0 (fun v => bI (σ.2.1 5 (72 * v + (12 * i + j))))) k0 (bI v))))) : RC g x B z0 μ0 (uB σ 5 (72 * k0 + (12 * i + j)) v) τ μ1 := by
  subst e
  have h12 := h.2.2.1.2.2.1 i
  have h6 := h.2.2.1.2.1
  refine h.setP 1 hi hj (by decide) rfl rfl ?_ (fun q hq => by rcases (show q = 0 ∨ q = 1 ∨ q = 2 ∨ q = 3 ∨ q = 4 ∨ q = 5 ∨ q = 6 ∨ q = 7 ∨ q = 8 ∨ q = 9 ∨ q = 10 ∨ q = 11 by omega) with rfl | rfl | rfl | rfl | rfl | rfl | rfl | rfl | rfl | rfl | rfl | rfl <;> rfl) (fun _ _ => rfl) (fun k hk q hq d hd hne => cP_congr d hd (fun _ => ⟨rfl, rfl, rfl, rfl, rfl, rfl⟩) (fun hd1 v hv => u2_i (by omega)) (fun _ _ _ => rfl) (fun _ _ _ => rfl) (fun _ _ _ _ => rfl))
  show (Sum.inl (g.2.1 1, aI 4 _) : va_E) = Sum.inl (g.2.1 1, aI 4 _)
  rw [rs_upd (f' := fun v1 => bI ((uB σ 5 (72 * k0 + (12 * i + j)) v).2.1 5 (72 * v1 + (12 * i + j)))) hk (congrArg bI u2_s.symm) (fun k _ hne => congrArg bI (u2_i (by omega)))]
theorem RC.u_cp (h : RC g x B z0 μ0 σ τ μ) {i j k0 : Nat} (hi : i < σ.1 3 0) (hj : j < σ.1 0 i) (hk : k0 < 4) {v : Int64} (e : μ1 = up μ (pA B i j + 2) (.inl (g.2.1 2, aL 4 (vp_updL (rs 4 0 (fun v => σ.2.2.2 1 (72 * v + (12 * i + j)))) k0 v)))) : RC g x B z0 μ0 (uL σ 1 (72 * k0 + (12 * i + j)) v) τ μ1 := by
  subst e
  have h12 := h.2.2.1.2.2.1 i
  have h6 := h.2.2.1.2.1
  refine h.setP 2 hi hj (by decide) rfl rfl ?_ (fun q hq => by rcases (show q = 0 ∨ q = 1 ∨ q = 2 ∨ q = 3 ∨ q = 4 ∨ q = 5 ∨ q = 6 ∨ q = 7 ∨ q = 8 ∨ q = 9 ∨ q = 10 ∨ q = 11 by omega) with rfl | rfl | rfl | rfl | rfl | rfl | rfl | rfl | rfl | rfl | rfl | rfl <;> rfl) (fun _ _ => rfl) (fun k hk q hq d hd hne => cP_congr d hd (fun _ => ⟨rfl, rfl, rfl, rfl, rfl, rfl⟩) (fun _ _ _ => rfl) (fun hd1 v hv => u2_i (by omega)) (fun _ _ _ => rfl) (fun _ _ _ _ => rfl))
  show (Sum.inl (g.2.1 2, aL 4 _) : va_E) = Sum.inl (g.2.1 2, aL 4 _)
  rw [rs_updL (f' := fun v1 => (uL σ 1 (72 * k0 + (12 * i + j)) v).2.2.2 1 (72 * v1 + (12 * i + j))) hk u2_s.symm (fun k _ hne => u2_i (by omega))]
theorem RC.u_gd (h : RC g x B z0 μ0 σ τ μ) {i j k0 : Nat} (hi : i < σ.1 3 0) (hj : j < σ.1 0 i) (hk : k0 < 4) {v : Nat} (e : μ1 = up μ (pA B i j + 3) (.inl (g.2.1 0, aI 4 (upd (rs 4 0 (fun a => mI (σ.1 1 (4 * (12 * i + j) + a)))) k0 (mI v))))) : RC g x B z0 μ0 (uN σ 1 (4 * (12 * i + j) + k0) v) τ μ1 := by
  subst e
  have h12 := h.2.2.1.2.2.1 i
  have h6 := h.2.2.1.2.1
  refine h.setP 3 hi hj (by decide) rfl rfl ?_ (fun q hq => by rcases (show q = 0 ∨ q = 1 ∨ q = 2 ∨ q = 3 ∨ q = 4 ∨ q = 5 ∨ q = 6 ∨ q = 7 ∨ q = 8 ∨ q = 9 ∨ q = 10 ∨ q = 11 by omega) with rfl | rfl | rfl | rfl | rfl | rfl | rfl | rfl | rfl | rfl | rfl | rfl <;> rfl) (fun _ _ => rfl) (fun k hk q hq d hd hne => cP_congr d hd (fun _ => ⟨rfl, rfl, rfl, rfl, rfl, rfl⟩) (fun _ _ _ => rfl) (fun _ _ _ => rfl) (fun hd1 a ha => u2_i (by omega)) (fun _ _ _ _ => rfl))
  show (Sum.inl (g.2.1 0, aI 4 _) : va_E) = Sum.inl (g.2.1 0, aI 4 _)
  rw [rs_upd (f' := fun a => mI ((uN σ 1 (4 * (12 * i + j) + k0) v).1 1 (4 * (12 * i + j) + a))) hk (congrArg mI u2_s.symm) (fun k _ hne => congrArg mI (u2_i (by omega)))]
theorem RC.u_ky (h : RC g x B z0 μ0 σ τ μ) {i j w k0 : Nat} (hi : i < σ.1 3 0) (hj : j < σ.1 0 i) (hw : w < 5) (hk : k0 < 4) {v : Nat} (e : μ1 = up μ (pA B i j + 4 + 1 + w) (.inl (g.2.1 0, aI 4 (upd (rs 4 0 (fun a => mI (σ.1 2 (5 * (4 * (12 * i + j) + a) + w)))) k0 (mI v))))) : RC g x B z0 μ0 (uN σ 2 (5 * (4 * (12 * i + j) + k0) + w) v) τ μ1 := by
  subst e
  have h12 := h.2.2.1.2.2.1 i
  have h6 := h.2.2.1.2.1
  rw [show pA B i j + 4 + 1 + w = pA B i j + (w + 5) by omega]
  refine h.setP (w + 5) hi hj (by omega) rfl rfl ?_ (fun q hq => by rcases (show q = 0 ∨ q = 1 ∨ q = 2 ∨ q = 3 ∨ q = 4 ∨ q = 5 ∨ q = 6 ∨ q = 7 ∨ q = 8 ∨ q = 9 ∨ q = 10 ∨ q = 11 by omega) with rfl | rfl | rfl | rfl | rfl | rfl | rfl | rfl | rfl | rfl | rfl | rfl <;> rfl) (fun _ _ => rfl) (fun k hk q hq d hd hne => cP_congr d hd (fun _ => ⟨rfl, rfl, rfl, rfl, rfl, rfl⟩) (fun _ _ _ => rfl) (fun _ _ _ => rfl) (fun _ _ _ => rfl) (fun k1 hd1 a ha => u2_i (by omega)))
  show (Sum.inl (g.2.1 0, aI 4 _) : va_E) = Sum.inl (g.2.1 0, aI 4 _)
  rw [rs_upd (f' := fun a => mI ((uN σ 2 (5 * (4 * (12 * i + j) + k0) + w) v).1 2 (5 * (4 * (12 * i + j) + a) + w))) hk (congrArg mI u2_s.symm) (fun k _ hne => congrArg mI (u2_i (by omega)))]
theorem RC.u_drift (h : RC g x B z0 μ0 σ τ μ) {v : Int32} (e : μ1 = up μ x (.inr (5, ([.ref (x + 1), .int (nI (σ.1 3 0)), .int (σ.2.2.1 8 0), .ref (x + 2), .ref (x + 3), .ref (x + 7), .ref (x + 9), .int (σ.2.2.1 8 1), .ref (x + 11)] : List Value).set 2 (.int v)))) : RC g x B z0 μ0 (uI σ 8 0 v) τ μ1 := by
  subst e
  exact h.setH 0 (by decide) rfl rfl rfl (fun q hq hne => by rcases (show q = 0 ∨ q = 1 ∨ q = 2 ∨ q = 3 ∨ q = 4 ∨ q = 5 ∨ q = 6 ∨ q = 7 ∨ q = 8 ∨ q = 9 ∨ q = 10 ∨ q = 11 by omega) with rfl | rfl | rfl | rfl | rfl | rfl | rfl | rfl | rfl | rfl | rfl | rfl <;> first | exact absurd rfl hne | rfl) (fun i hi => ⟨rfl, fun j hj c hc => cP_congr c hc (fun _ => ⟨rfl, rfl, rfl, rfl, rfl, rfl⟩) (fun _ _ _ => rfl) (fun _ _ _ => rfl) (fun _ _ _ => rfl) (fun _ _ _ _ => rfl)⟩)
theorem RC.u_year (h : RC g x B z0 μ0 σ τ μ) {v : Int32} (e : μ1 = up μ x (.inr (5, ([.ref (x + 1), .int (nI (σ.1 3 0)), .int (σ.2.2.1 8 0), .ref (x + 2), .ref (x + 3), .ref (x + 7), .ref (x + 9), .int (σ.2.2.1 8 1), .ref (x + 11)] : List Value).set 7 (.int v)))) : RC g x B z0 μ0 (uI σ 8 1 v) τ μ1 := by
  subst e
  exact h.setH 0 (by decide) rfl rfl rfl (fun q hq hne => by rcases (show q = 0 ∨ q = 1 ∨ q = 2 ∨ q = 3 ∨ q = 4 ∨ q = 5 ∨ q = 6 ∨ q = 7 ∨ q = 8 ∨ q = 9 ∨ q = 10 ∨ q = 11 by omega) with rfl | rfl | rfl | rfl | rfl | rfl | rfl | rfl | rfl | rfl | rfl | rfl <;> first | exact absurd rfl hne | rfl) (fun i hi => ⟨rfl, fun j hj c hc => cP_congr c hc (fun _ => ⟨rfl, rfl, rfl, rfl, rfl, rfl⟩) (fun _ _ _ => rfl) (fun _ _ _ => rfl) (fun _ _ _ => rfl) (fun _ _ _ _ => rfl)⟩)
theorem RC.u_looked (h : RC g x B z0 μ0 σ τ μ) {v : Nat} (e : μ1 = up μ (x + 3) (.inr (4, ([.ref (x + 4), .ref (x + 5), .ref (x + 6), .int (nI (σ.1 3 2))] : List Value).set 3 (.int (nI v))))) : RC g x B z0 μ0 (uN σ 3 2 v) τ μ1 := by
  subst e
  exact h.setH 3 (by decide) rfl rfl rfl (fun q hq hne => by rcases (show q = 0 ∨ q = 1 ∨ q = 2 ∨ q = 3 ∨ q = 4 ∨ q = 5 ∨ q = 6 ∨ q = 7 ∨ q = 8 ∨ q = 9 ∨ q = 10 ∨ q = 11 by omega) with rfl | rfl | rfl | rfl | rfl | rfl | rfl | rfl | rfl | rfl | rfl | rfl <;> first | exact absurd rfl hne | rfl) (fun i hi => ⟨rfl, fun j hj c hc => cP_congr c hc (fun _ => ⟨rfl, rfl, rfl, rfl, rfl, rfl⟩) (fun _ _ _ => rfl) (fun _ _ _ => rfl) (fun _ _ _ => rfl) (fun _ _ _ _ => rfl)⟩)
theorem RC.u_kl (h : RC g x B z0 μ0 σ τ μ) {v : Int32} (e : μ1 = up μ (x + 9) (.inr (1, ([.ref (x + 10), .int (τ.2.2.1 0 0)] : List Value).set 1 (.int v)))) : RC g x B z0 μ0 σ (uI τ 0 0 v) μ1 := by
  subst e
  exact h.setH 9 (by decide) rfl rfl rfl (fun q hq hne => by rcases (show q = 0 ∨ q = 1 ∨ q = 2 ∨ q = 3 ∨ q = 4 ∨ q = 5 ∨ q = 6 ∨ q = 7 ∨ q = 8 ∨ q = 9 ∨ q = 10 ∨ q = 11 by omega) with rfl | rfl | rfl | rfl | rfl | rfl | rfl | rfl | rfl | rfl | rfl | rfl <;> first | exact absurd rfl hne | rfl) (fun i hi => ⟨rfl, fun j hj c hc => rfl⟩)
theorem RC.u_burnt (h : RC g x B z0 μ0 σ τ μ) {k0 : Nat} {v : Bool} (e : μ1 = up μ (x + 2) (.inl (g.2.1 1, aI 4 (upd (fun i => bI (σ.2.1 6 i)) k0 (bI v))))) : RC g x B z0 μ0 (uB σ 6 k0 v) τ μ1 := by
  subst e
  refine h.setH 2 (by decide) rfl rfl ?_ (fun q hq hne => by rcases (show q = 0 ∨ q = 1 ∨ q = 2 ∨ q = 3 ∨ q = 4 ∨ q = 5 ∨ q = 6 ∨ q = 7 ∨ q = 8 ∨ q = 9 ∨ q = 10 ∨ q = 11 by omega) with rfl | rfl | rfl | rfl | rfl | rfl | rfl | rfl | rfl | rfl | rfl | rfl <;> first | exact absurd rfl hne | rfl) (fun i hi => ⟨rfl, fun j hj c hc => cP_congr c hc (fun _ => ⟨rfl, rfl, rfl, rfl, rfl, rfl⟩) (fun _ _ _ => rfl) (fun _ _ _ => rfl) (fun _ _ _ => rfl) (fun _ _ _ _ => rfl)⟩)
  show _ = (Sum.inl (g.2.1 1, aI 4 (fun i => bI ((uB σ 6 k0 v).2.1 6 i))) : va_E)
  have e9 : (fun i => bI ((uB σ 6 k0 v).2.1 6 i)) = upd (fun i => bI (σ.2.1 6 i)) k0 (bI v) := u2_fs (f := σ.2.1) (k := 6) (i := k0) (v := v) bI
  rw [e9]
theorem RC.u_terms (h : RC g x B z0 μ0 σ τ μ) {k0 : Nat} {v : Int32} (e : μ1 = up μ (x + 11) (.inl (g.2.1 0, aI 4 (upd (fun i => σ.2.2.1 7 i) k0 (v))))) : RC g x B z0 μ0 (uI σ 7 k0 v) τ μ1 := by
  subst e
  refine h.setH 11 (by decide) rfl rfl ?_ (fun q hq hne => by rcases (show q = 0 ∨ q = 1 ∨ q = 2 ∨ q = 3 ∨ q = 4 ∨ q = 5 ∨ q = 6 ∨ q = 7 ∨ q = 8 ∨ q = 9 ∨ q = 10 ∨ q = 11 by omega) with rfl | rfl | rfl | rfl | rfl | rfl | rfl | rfl | rfl | rfl | rfl | rfl <;> first | exact absurd rfl hne | rfl) (fun i hi => ⟨rfl, fun j hj c hc => cP_congr c hc (fun _ => ⟨rfl, rfl, rfl, rfl, rfl, rfl⟩) (fun _ _ _ => rfl) (fun _ _ _ => rfl) (fun _ _ _ => rfl) (fun _ _ _ _ => rfl)⟩)
  show _ = (Sum.inl (g.2.1 0, aI 4 (fun i => (uI σ 7 k0 v).2.2.1 7 i)) : va_E)
  have e9 : (fun i => (uI σ 7 k0 v).2.2.1 7 i) = upd (fun i => σ.2.2.1 7 i) k0 (v) := u2_fs (f := σ.2.2.1) (k := 7) (i := k0) (v := v) (fun x => x)
  rw [e9]
theorem RC.u_tb (h : RC g x B z0 μ0 σ τ μ) {k0 : Nat} {v : Int64} (e : μ1 = up μ (x + 4) (.inl (g.2.1 2, aL 32 (vp_updL (fun i => τ.2.2.2 0 i) k0 (v))))) : RC g x B z0 μ0 σ (uL τ 0 k0 v) μ1 := by
  subst e
  refine h.setH 4 (by decide) rfl rfl ?_ (fun q hq hne => by rcases (show q = 0 ∨ q = 1 ∨ q = 2 ∨ q = 3 ∨ q = 4 ∨ q = 5 ∨ q = 6 ∨ q = 7 ∨ q = 8 ∨ q = 9 ∨ q = 10 ∨ q = 11 by omega) with rfl | rfl | rfl | rfl | rfl | rfl | rfl | rfl | rfl | rfl | rfl | rfl <;> first | exact absurd rfl hne | rfl) (fun i hi => ⟨rfl, fun j hj c hc => rfl⟩)
  show _ = (Sum.inl (g.2.1 2, aL 32 (fun i => (uL τ 0 k0 v).2.2.2 0 i)) : va_E)
  have e9 : (fun i => (uL τ 0 k0 v).2.2.2 0 i) = vp_updL (fun i => τ.2.2.2 0 i) k0 (v) := u2_fs (f := τ.2.2.2) (k := 0) (i := k0) (v := v) (fun x => x)
  rw [e9]
theorem RC.u_tv (h : RC g x B z0 μ0 σ τ μ) {k0 : Nat} {v : Int64} (e : μ1 = up μ (x + 5) (.inl (g.2.1 2, aL 32 (vp_updL (fun i => τ.2.2.2 1 i) k0 (v))))) : RC g x B z0 μ0 σ (uL τ 1 k0 v) μ1 := by
  subst e
  refine h.setH 5 (by decide) rfl rfl ?_ (fun q hq hne => by rcases (show q = 0 ∨ q = 1 ∨ q = 2 ∨ q = 3 ∨ q = 4 ∨ q = 5 ∨ q = 6 ∨ q = 7 ∨ q = 8 ∨ q = 9 ∨ q = 10 ∨ q = 11 by omega) with rfl | rfl | rfl | rfl | rfl | rfl | rfl | rfl | rfl | rfl | rfl | rfl <;> first | exact absurd rfl hne | rfl) (fun i hi => ⟨rfl, fun j hj c hc => rfl⟩)
  show _ = (Sum.inl (g.2.1 2, aL 32 (fun i => (uL τ 1 k0 v).2.2.2 1 i)) : va_E)
  have e9 : (fun i => (uL τ 1 k0 v).2.2.2 1 i) = vp_updL (fun i => τ.2.2.2 1 i) k0 (v) := u2_fs (f := τ.2.2.2) (k := 1) (i := k0) (v := v) (fun x => x)
  rw [e9]
theorem RC.u_fu (h : RC g x B z0 μ0 σ τ μ) {k0 : Nat} {v : Bool} (e : μ1 = up μ (x + 6) (.inl (g.2.1 1, aI 32 (upd (fun i => bI (τ.2.1 0 i)) k0 (bI v))))) : RC g x B z0 μ0 σ (uB τ 0 k0 v) μ1 := by
  subst e
  refine h.setH 6 (by decide) rfl rfl ?_ (fun q hq hne => by rcases (show q = 0 ∨ q = 1 ∨ q = 2 ∨ q = 3 ∨ q = 4 ∨ q = 5 ∨ q = 6 ∨ q = 7 ∨ q = 8 ∨ q = 9 ∨ q = 10 ∨ q = 11 by omega) with rfl | rfl | rfl | rfl | rfl | rfl | rfl | rfl | rfl | rfl | rfl | rfl <;> first | exact absurd rfl hne | rfl) (fun i hi => ⟨rfl, fun j hj c hc => rfl⟩)
  show _ = (Sum.inl (g.2.1 1, aI 32 (fun i => bI ((uB τ 0 k0 v).2.1 0 i))) : va_E)
  have e9 : (fun i => bI ((uB τ 0 k0 v).2.1 0 i)) = upd (fun i => bI (τ.2.1 0 i)) k0 (bI v) := u2_fs (f := τ.2.1) (k := 0) (i := k0) (v := v) bI
  rw [e9]
theorem RC.u_row (h : RC g x B z0 μ0 σ τ μ) {k0 : Nat} {v : Nat} (e : μ1 = up μ (x + 8) (.inl (g.2.1 0, aI 7 (upd (fun i => nI (τ.1 0 i)) k0 (nI v))))) : RC g x B z0 μ0 σ (uN τ 0 k0 v) μ1 := by
  subst e
  refine h.setH 8 (by decide) rfl rfl ?_ (fun q hq hne => by rcases (show q = 0 ∨ q = 1 ∨ q = 2 ∨ q = 3 ∨ q = 4 ∨ q = 5 ∨ q = 6 ∨ q = 7 ∨ q = 8 ∨ q = 9 ∨ q = 10 ∨ q = 11 by omega) with rfl | rfl | rfl | rfl | rfl | rfl | rfl | rfl | rfl | rfl | rfl | rfl <;> first | exact absurd rfl hne | rfl) (fun i hi => ⟨rfl, fun j hj c hc => rfl⟩)
  show _ = (Sum.inl (g.2.1 0, aI 7 (fun i => nI ((uN τ 0 k0 v).1 0 i))) : va_E)
  have e9 : (fun i => nI ((uN τ 0 k0 v).1 0 i)) = upd (fun i => nI (τ.1 0 i)) k0 (nI v) := u2_fs (f := τ.1) (k := 0) (i := k0) (v := v) nI
  rw [e9]
theorem RC.u_wt (h : RC g x B z0 μ0 σ τ μ) {k0 : Nat} {v : Nat} (e : μ1 = up μ (x + 10) (.inl (g.2.1 0, aI 26 (upd (fun i => nI (τ.1 1 i)) k0 (nI v))))) : RC g x B z0 μ0 σ (uN τ 1 k0 v) μ1 := by
  subst e
  refine h.setH 10 (by decide) rfl rfl ?_ (fun q hq hne => by rcases (show q = 0 ∨ q = 1 ∨ q = 2 ∨ q = 3 ∨ q = 4 ∨ q = 5 ∨ q = 6 ∨ q = 7 ∨ q = 8 ∨ q = 9 ∨ q = 10 ∨ q = 11 by omega) with rfl | rfl | rfl | rfl | rfl | rfl | rfl | rfl | rfl | rfl | rfl | rfl <;> first | exact absurd rfl hne | rfl) (fun i hi => ⟨rfl, fun j hj c hc => rfl⟩)
  show _ = (Sum.inl (g.2.1 0, aI 26 (fun i => nI ((uN τ 1 k0 v).1 1 i))) : va_E)
  have e9 : (fun i => nI ((uN τ 1 k0 v).1 1 i)) = upd (fun i => nI (τ.1 1 i)) k0 (nI v) := u2_fs (f := τ.1) (k := 1) (i := k0) (v := v) nI
  rw [e9]
end RCU
