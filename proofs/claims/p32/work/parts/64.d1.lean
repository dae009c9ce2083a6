/-! WHAT ALWAYS HOLDS keeps holding -/
theorem u2_n {α : Type} {f : Nat → Nat → α} {k i a b : Nat} {v : α} (h : ¬ (a = k ∧ b = i)) : u2 f k i v a b = f a b := if_neg h
def On (σ : Sg) (a : Nat) : Prop := a / 12 < σ.1 3 0 ∧ a % 12 < σ.1 0 (a / 12)
theorem On.at {σ : Sg} {b p : Nat} (h : On σ (12 * b + p)) (hp : p < 12) : b < σ.1 3 0 ∧ p < σ.1 0 b := by
  unfold On at h
  rwa [show (12 * b + p) / 12 = b by omega, show (12 * b + p) % 12 = p by omega] at h
theorem On.of {σ : Sg} (hI : Inv σ) {b p : Nat} (hb : b < σ.1 3 0) (hp : p < σ.1 0 b) : On σ (12 * b + p) := by
  have := hI.2.1 b
  unfold On
  rw [show (12 * b + p) / 12 = b by omega, show (12 * b + p) % 12 = p by omega]
  exact ⟨hb, hp⟩
theorem Inv.t {σ : Sg} (h : Inv σ) (k : Nat) : Inv (th σ k) := h
theorem Inv.N3 {σ : Sg} (h : Inv σ) (v : Nat) : Inv (uN σ 3 2 v) := h
theorem Inv.B {σ : Sg} (h : Inv σ) (k i : Nat) (v : Bool) (hk : (k = 0 ∨ k = 1 → i < σ.1 3 0) ∧ (k = 2 ∨ k = 3 ∨ k = 4 → On σ i) ∧ (k = 5 → ∃ v0 a, i = 72 * v0 + a ∧ a < 72 ∧ On σ a)) : Inv (uB σ k i v) := by
  obtain ⟨h1, h2, h3, h4, h5, h6, h7⟩ := h
  refine ⟨h1, h2, h3, h4, h5, fun b hb hb6 => ?_, fun b p hb hp hn => ?_⟩
  · have q := h6 b hb hb6
    have hb' : σ.1 3 0 ≤ b := hb
    refine ⟨q.1, (u2_n (fun w => ?_)).trans q.2.1, (u2_n (fun w => ?_)).trans q.2.2⟩
    · have := hk.1 (Or.inl w.1.symm)
      omega
    · have := hk.1 (Or.inr w.1.symm)
      omega
  · have q := h7 b p hb hp hn
    refine ⟨⟨(u2_n (fun w => ?_)).trans q.1.1, (u2_n (fun w => ?_)).trans q.1.2.1, (u2_n (fun w => ?_)).trans q.1.2.2.1, q.1.2.2.2⟩, fun v1 hv1 => ⟨(u2_n (fun w => ?_)).trans (q.2.1 v1 hv1).1, (q.2.1 v1 hv1).2⟩, q.2.2⟩
    · exact hn ((w.2 ▸ hk.2.1 (Or.inl w.1.symm) : On σ (12 * b + p)).at hp)
    · exact hn ((w.2 ▸ hk.2.1 (Or.inr (Or.inl w.1.symm)) : On σ (12 * b + p)).at hp)
    · exact hn ((w.2 ▸ hk.2.1 (Or.inr (Or.inr w.1.symm)) : On σ (12 * b + p)).at hp)
    · obtain ⟨v0, a, e, ha, ho⟩ := hk.2.2 w.1.symm
      have e2 : a = 12 * b + p := by have := w.2; omega
      exact hn ((e2 ▸ ho : On σ (12 * b + p)).at hp)
theorem Inv.I {σ : Sg} (h : Inv σ) (k i : Nat) (v : Int32) (hk : (k = 4 → i < σ.1 3 0) ∧ (k = 5 ∨ k = 6 → On σ i)) : Inv (uI σ k i v) := by
  obtain ⟨h1, h2, h3, h4, h5, h6, h7⟩ := h
  refine ⟨h1, h2, h3, h4, h5, fun b hb hb6 => ?_, fun b p hb hp hn => ?_⟩
  · have q := h6 b hb hb6
    have hb' : σ.1 3 0 ≤ b := hb
    refine ⟨(u2_n (fun w => ?_)).trans q.1, q.2⟩
    have := hk.1 w.1.symm
    omega
  · have q := h7 b p hb hp hn
    refine ⟨⟨q.1.1, q.1.2.1, q.1.2.2.1, q.1.2.2.2.1, (u2_n (fun w => ?_)).trans q.1.2.2.2.2.1, (u2_n (fun w => ?_)).trans q.1.2.2.2.2.2⟩, q.2⟩
    · exact hn ((w.2 ▸ hk.2 (Or.inl w.1.symm) : On σ (12 * b + p)).at hp)
    · exact hn ((w.2 ▸ hk.2 (Or.inr w.1.symm) : On σ (12 * b + p)).at hp)
theorem Inv.L {σ : Sg} (h : Inv σ) (k i : Nat) (v : Int64) (hk : (k = 0 → On σ i) ∧ (k = 1 → ∃ v0 a, i = 72 * v0 + a ∧ a < 72 ∧ On σ a)) : Inv (uL σ k i v) := by
  obtain ⟨h1, h2, h3, h4, h5, h6, h7⟩ := h
  refine ⟨h1, h2, h3, h4, h5, h6, fun b p hb hp hn => ?_⟩
  have q := h7 b p hb hp hn
  refine ⟨⟨q.1.1, q.1.2.1, q.1.2.2.1, (u2_n (fun w => ?_)).trans q.1.2.2.2.1, q.1.2.2.2.2⟩, fun v1 hv1 => ⟨(q.2.1 v1 hv1).1, (u2_n (fun w => ?_)).trans (q.2.1 v1 hv1).2⟩, q.2.2⟩
  · exact hn ((w.2 ▸ hk.1 w.1.symm : On σ (12 * b + p)).at hp)
  · obtain ⟨v0, a, e, ha, ho⟩ := hk.2 w.1.symm
    have e2 : a = 12 * b + p := by have := w.2; omega
    exact hn ((e2 ▸ ho : On σ (12 * b + p)).at hp)
theorem Inv.N1 {σ : Sg} (h : Inv σ) {a b : Nat} (v : Nat) (ha : On σ a) (hb : b < 4) (hv : v ≤ 26) : Inv (uN σ 1 (4 * a + b) v) := by
  obtain ⟨h1, h2, h3, h4, h5, h6, h7⟩ := h
  refine ⟨h1, h2, fun i => ?_, h4, h5, h6, fun b0 p hb0 hp hn => ?_⟩
  · show u2 σ.1 1 (4 * a + b) v 1 i ≤ 26
    unfold u2
    split
    · exact hv
    · exact h3 i
  · have q := h7 b0 p hb0 hp hn
    refine ⟨q.1, q.2.1, fun a1 ha1 => ⟨(u2_n (fun w => ?_)).trans (q.2.2 a1 ha1).1, (q.2.2 a1 ha1).2⟩⟩
    have e2 : a = 12 * b0 + p := by have := w.2; omega
    exact hn ((e2 ▸ ha : On σ (12 * b0 + p)).at hp)
theorem Inv.N2 {σ : Sg} (h : Inv σ) {a b w : Nat} (v : Nat) (ha : On σ a) (hb : b < 4) (hw : w < 5) (hv : v ≤ 26) : Inv (uN σ 2 (5 * (4 * a + b) + w) v) := by
  obtain ⟨h1, h2, h3, h4, h5, h6, h7⟩ := h
  refine ⟨h1, h2, h3, fun i => ?_, h5, h6, fun b0 p hb0 hp hn => ?_⟩
  · show u2 σ.1 2 (5 * (4 * a + b) + w) v 2 i ≤ 26
    unfold u2
    split
    · exact hv
    · exact h4 i
  · have q := h7 b0 p hb0 hp hn
    refine ⟨q.1, q.2.1, fun a1 ha1 => ⟨(q.2.2 a1 ha1).1, fun w1 hw1 => (u2_n (fun z => ?_)).trans ((q.2.2 a1 ha1).2 w1 hw1)⟩⟩
    have e2 : a = 12 * b0 + p := by have := z.2; omega
    exact hn ((e2 ▸ ha : On σ (12 * b0 + p)).at hp)
theorem I_next {σ : Sg} (hI : Inv σ) : Inv (sp_next σ).2 := hI
theorem I_calibrate {σ : Sg} (hI : Inv σ) : Inv (sp_calibrate σ).2 := (hI.t 0).I 8 0 _ ⟨fun q => (by cases q), fun q => (by rcases q with q | q <;> cases q)⟩
theorem I_looked {σ : Sg} (hI : Inv σ) : Inv (sp_looked σ).2 := hI
theorem pg_on {σ : Sg} (hI : Inv σ) {b q : Int32} (hP : isP σ b q = true) : tn b < σ.1 3 0 ∧ tn q < σ.1 0 (tn b) ∧ On σ (12 * tn b + tn q) ∧ 12 * tn b + tn q < 72 := by
  obtain ⟨i, j, hi, hj, rfl, rfl⟩ := isP_t hI hP
  have h6 := hI.1
  have h12 := hI.2.1 i
  rw [tn_nI (by omega), tn_nI (by omega)]
  exact ⟨hi, hj, On.of hI hi hj, by omega⟩
theorem bk_on {σ : Sg} (hI : Inv σ) {b : Int32} (hB : isB σ b = true) : tn b < σ.1 3 0 := by
  obtain ⟨i, hi, rfl⟩ := isB_t hI hB
  have h6 := hI.1
  rw [tn_nI (by omega)]
  exact hi
theorem I_look {σ : Sg} (hI : Inv σ) (b q : Int32) : Inv (sp_look σ b q).2 := by
  unfold sp_look
  split
  · rename_i hP
    have ho := pg_on hI hP
    split
    · exact (hI.t 0).B 4 _ _ ⟨fun q => (by rcases q with q | q <;> cases q), fun _ => ho.2.2.1, fun q => (by cases q)⟩
    · exact hI
  · exact hI
theorem I_rot {σ : Sg} (hI : Inv σ) (v b q bit : Int32) : Inv (sp_rot σ v b q bit).2 := by
  unfold sp_rot
  split
  · rename_i hP
    have ho := pg_on hI (by rw [Bool.and_eq_true] at hP; exact hP.2)
    split
    · split
      · exact (hI.t 0).L 1 _ _ ⟨fun q => (by cases q), fun _ => ⟨tn v, _, rfl, ho.2.2.2, ho.2.2.1⟩⟩
      · exact hI
    · exact hI
  · exact hI
theorem I_build {σ : Sg} (hI : Inv σ) (v : Int32) : Inv (sp_build σ v) := by
  unfold sp_build
  split
  · split
    · exact (hI.t 0).B 6 _ _ ⟨fun q => (by rcases q with q | q <;> cases q), fun q => (by rcases q with q | q | q <;> cases q), fun q => (by cases q)⟩
    · exact hI
  · exact hI
theorem Inv_drp {σ : Sg} (hI : Inv σ) (v n : Nat) : Inv (drp σ v 0 n) := by
  obtain ⟨h1, h2, h3, h4, h5, h6, h7⟩ := hI
  refine ⟨h1, h2, h3, h4, h5, h6, fun b p hb hp hn => ?_⟩
  have q := h7 b p hb hp hn
  refine ⟨q.1, fun v1 hv1 => ⟨?_, (q.2.1 v1 hv1).2⟩, q.2.2⟩
  show (if _ then false else σ.2.1 5 (72 * v1 + (12 * b + p))) = false
  split
  · rfl
  · exact (q.2.1 v1 hv1).1
theorem I_burn {σ : Sg} (hI : Inv σ) (v : Int32) : Inv (sp_burn σ v).2 := by
  unfold sp_burn
  split
  · split
    · exact hI
    · refine Inv.B ?_ 6 _ _ ⟨fun q => (by rcases q with q | q <;> cases q), fun q => (by rcases q with q | q | q <;> cases q), fun q => (by cases q)⟩
      rw [clr_drp]
      exact Inv_drp (hI.t 0) _ _
  · exact hI
theorem I_check {σ : Sg} (hI : Inv σ) (v b : Int32) : Inv (sp_check σ v b).2 := by
  unfold sp_check
  split
  · exact (hI.t 0).N3 _
  · exact hI
theorem Inv_mn1 {σ : Sg} (hI : Inv σ) {v a : Nat} (ha : a < 72) (ho : On σ a) : Inv (mn1 σ v a) := by
  unfold mn1
  split
  · refine (hI.B 5 _ _ ⟨fun q => (by rcases q with q | q <;> cases q), fun q => (by rcases q with q | q | q <;> cases q), fun _ => ⟨v, a, rfl, ha, ho⟩⟩).L 1 _ _ ⟨fun q => (by cases q), fun _ => ⟨v, a, rfl, ha, ho⟩⟩
  · exact hI
theorem Inv_mnd {σ : Sg} (hI : Inv σ) {v b : Nat} (hb : b < σ.1 3 0) : ∀ n, n ≤ σ.1 0 b → Inv (mnd σ v b n).2
  | 0, _ => hI
  | n + 1, hn => by
    rw [mnd_st]
    have h6 := hI.1
    have h12 := hI.2.1 b
    refine Inv_mn1 (Inv_mnd hI hb n (by omega)) (by omega) ?_
    unfold On
    rw [mnd_N]
    exact On.of hI hb (by omega)
theorem I_mend {σ : Sg} (hI : Inv σ) (v b : Int32) : Inv (sp_mend σ v b).2 := by
  unfold sp_mend
  split
  · rename_i hP
    have ho := bk_on hI (by rw [Bool.and_eq_true] at hP; exact hP.2)
    split
    · exact hI
    · exact Inv_mnd (hI.t 0) ho _ (Nat.le_refl _)
  · exact hI
theorem I_copy {σ : Sg} (hI : Inv σ) (v b q : Int32) : Inv (sp_copy σ v b q).2 := by
  unfold sp_copy
  split
  · split <;> exact hI
  · exact hI
theorem I_isLost {σ : Sg} (hI : Inv σ) (b q : Int32) : Inv (sp_isLost σ b q).2 := by
  unfold sp_isLost
  split <;> exact hI
theorem I_words {σ : Sg} (hI : Inv σ) (b q f t : Int32) : Inv (sp_words σ b q f t) := by
  unfold sp_words
  split
  · rename_i hP
    have ho := pg_on hI hP
    split
    · exact ((hI.t 0).I 5 _ _ ⟨fun q => (by cases q), fun _ => ho.2.2.1⟩).I 6 _ _ ⟨fun q => (by cases q), fun _ => ho.2.2.1⟩
    · exact hI
  · exact hI
theorem I_order {σ : Sg} (hI : Inv σ) (b x : Int32) : Inv (sp_order σ b x).2 := by
  unfold sp_order
  split
  · split <;> exact hI
  · exact hI
theorem lt_tn {letter : Int32} (h : inR letter (nI 0) (nI 25) = true) : tn letter + 1 ≤ 26 := by
  obtain ⟨k, -, hk, rfl⟩ := inR_nat h (by decide) (by decide)
  rw [tn_nI (by omega)]
  omega
theorem isL_on {σ : Sg} (hI : Inv σ) {b q a : Int32} (h : isL σ b q a = true) : On σ (12 * tn b + tn q) ∧ tn a < 4 := by
  obtain ⟨i, j, k, hi, hj, hk, rfl, rfl, rfl⟩ := isL_t hI h
  have h6 := hI.1
  have h12 := hI.2.1 i
  rw [tn_nI (by omega), tn_nI (by omega), tn_nI (by omega)]
  exact ⟨On.of hI hi hj, hk⟩
theorem I_gold {σ : Sg} (hI : Inv σ) (b q a letter : Int32) : Inv (sp_gold σ b q a letter).2 := by
  unfold sp_gold
  split
  · rename_i hL
    have ho := isL_on hI hL
    split
    · rename_i hl
      exact (hI.t 0).N1 _ ho.1 ho.2 (lt_tn hl)
    · exact hI
  · exact hI
theorem I_key {σ : Sg} (hI : Inv σ) (w b q a letter : Int32) : Inv (sp_key σ w b q a letter).2 := by
  unfold sp_key
  split
  · rename_i hL
    rw [Bool.and_eq_true] at hL
    have ho := isL_on hI hL.2
    obtain ⟨u, -, hu, rfl⟩ := inR_nat hL.1 (by decide) (by decide)
    split
    · rename_i hl
      rw [tn_nI (show u < 2 ^ 31 by omega)]
      exact (hI.t 0).N2 _ ho.1 ho.2 (by omega) (lt_tn hl)
    · exact hI
  · exact hI
theorem I_trust {σ : Sg} (hI : Inv σ) (w : Int32) : Inv (sp_trust σ w).2 := by
  unfold sp_trust
  split <;> exact hI
theorem I_pay {σ : Sg} (hI : Inv σ) (w : Int32) : Inv (sp_pay σ w).2 := by
  unfold sp_pay
  split <;> exact hI
theorem I_read {σ : Sg} (hI : Inv σ) (b q a : Int32) : Inv (sp_read σ b q a).2 := by
  unfold sp_read
  split
  · split <;> exact hI
  · exact hI
theorem I_doubt {σ : Sg} (hI : Inv σ) (b q a : Int32) : Inv (sp_doubt σ b q a).2 := by
  unfold sp_doubt
  split
  · split <;> exact hI
  · exact hI
theorem I_pass {σ : Sg} (hI : Inv σ) (y : Int32) : Inv (sp_pass σ y).2 := by
  unfold sp_pass
  split
  · split
    · exact hI
    · exact (hI.t 0).I 8 1 _ ⟨fun q => (by cases q), fun q => (by rcases q with q | q <;> cases q)⟩
  · exact hI
theorem I_term {σ : Sg} (hI : Inv σ) (v y : Int32) : Inv (sp_term σ v y).2 := by
  unfold sp_term
  split
  · split
    · exact (hI.t 0).I 7 _ _ ⟨fun q => (by cases q), fun q => (by rcases q with q | q <;> cases q)⟩
    · exact hI
  · exact hI
theorem I_died {σ : Sg} (hI : Inv σ) (b y : Int32) : Inv (sp_died σ b y) := by
  unfold sp_died
  split
  · split
    · split
      · exact (hI.t 0).I 3 _ _ ⟨fun q => (by cases q), fun q => (by rcases q with q | q <;> cases q)⟩
      · exact hI
    · exact hI
  · exact hI
theorem I_search {σ : Sg} (hI : Inv σ) (b : Int32) : Inv (sp_search σ b).2 := by
  unfold sp_search
  split
  · rename_i hB
    exact (hI.t 0).B 0 _ _ ⟨fun _ => bk_on hI hB, fun q => (by rcases q with q | q | q <;> cases q), fun q => (by cases q)⟩
  · exact hI
theorem I_takeDown {σ : Sg} (hI : Inv σ) (b : Int32) (w : Bool) : Inv (sp_takeDown σ b w).2 := by
  unfold sp_takeDown
  split
  · rename_i hB
    exact (hI.t 0).B 1 _ _ ⟨fun _ => bk_on hI hB, fun q => (by rcases q with q | q | q <;> cases q), fun q => (by cases q)⟩
  · exact hI
theorem I_whyNot {σ : Sg} (hI : Inv σ) (b q v : Int32) : Inv (sp_whyNot σ b q v).2 := by
  unfold sp_whyNot
  split <;> exact hI
theorem I_about {σ : Sg} (hI : Inv σ) (b w : Int32) : Inv (sp_about σ b w).2 := by
  unfold sp_about
  split
  · split <;> exact hI
  · exact hI
theorem Inv_puts {σ : Sg} (hI : Inv σ) {a : Nat} (its : Int64) (ha : a < 72) (ho : On σ a) : ∀ n, Inv (puts σ a its n)
  | 0 => hI
  | n + 1 => by
    show Inv (putv (puts σ a its n) a its n)
    have hp := Inv_puts hI its ha ho n
    have ho2 : On (puts σ a its n) a := by
      unfold On
      rw [puts_N]
      exact ho
    unfold putv
    split
    · exact hp
    · exact (hp.B 5 _ _ ⟨fun q => (by rcases q with q | q <;> cases q), fun q => (by rcases q with q | q | q <;> cases q), fun _ => ⟨n, a, rfl, ha, ho2⟩⟩).L 1 _ _ ⟨fun q => (by cases q), fun _ => ⟨n, a, rfl, ha, ho2⟩⟩
theorem I_shot {σ : Sg} (hI : Inv σ) (b q angle : Int32) (its : Int64) : Inv (sp_shot σ b q angle its).2 := by
  unfold sp_shot
  split
  · rename_i hP
    have ho := pg_on hI hP
    split
    · split
      · refine Inv_puts ?_ its ho.2.2.2 ?_ 4
        · refine Inv.I ?_ 8 _ _ ⟨fun q => (by cases q), fun q => (by rcases q with q | q <;> cases q)⟩
          refine Inv.L ?_ 0 _ _ ⟨fun _ => ho.2.2.1, fun q => (by cases q)⟩
          refine Inv.B ?_ 3 _ _ ⟨fun q => (by rcases q with q | q <;> cases q), fun _ => ho.2.2.1, fun q => (by cases q)⟩
          refine Inv.B ?_ 4 _ _ ⟨fun q => (by rcases q with q | q <;> cases q), fun _ => ho.2.2.1, fun q => (by cases q)⟩
          refine Inv.B ?_ 2 _ _ ⟨fun q => (by rcases q with q | q <;> cases q), fun _ => ho.2.2.1, fun q => (by cases q)⟩
          refine Inv.I ?_ 4 _ _ ⟨fun _ => ho.1, fun q => (by rcases q with q | q <;> cases q)⟩
          exact (hI.t 0).I 1 _ _ ⟨fun q => (by cases q), fun q => (by rcases q with q | q <;> cases q)⟩
        · exact ho.2.2.1
      · exact hI
    · exact hI
  · exact hI

