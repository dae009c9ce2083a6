/-! TWO OBJECTS: each in a heap of which the other's cells are to stay -/
def ownS (x : Nat) (B : Nat → Nat) (σ : Sg) (a : Nat) : Prop := (x ≤ a ∧ a < x + 12) ∨ ∃ i, i < σ.1 3 0 ∧ B i ≤ a ∧ a < B i + 2 + 10 * σ.1 0 i
noncomputable def msk (P : Nat → Prop) (μ : mM) : mM := fun a => @ite _ (P a) (Classical.propDecidable _) (μ a) none
theorem msk_t {P : Nat → Prop} {μ : mM} {a : Nat} (h : P a) : msk P μ a = μ a := by
  unfold msk
  exact if_pos h
theorem msk_f {P : Nat → Prop} {μ : mM} {a : Nat} (h : ¬ P a) : msk P μ a = none := by
  unfold msk
  exact if_neg h
theorem msk_e {P : Nat → Prop} {μ : mM} {a : Nat} {e : va_E} (h : msk P μ a = some e) : μ a = some e := by
  by_cases q : P a
  · rw [msk_t q] at h
    exact h
  · rw [msk_f q] at h
    cases h
theorem RC.known {g : mG} {x z : Nat} {B : Nat → Nat} {μ0 μ : mM} {σ τ : Sg} (h : RC g x B z μ0 σ τ μ) {a : Nat} (ha : ownS x B σ a) : ∃ e, μ a = some e := by
  rcases ha with ⟨h1, h2⟩ | ⟨i, hi, h1, h2⟩
  · have := h.1 (a - x) (by omega)
    rw [show x + (a - x) = a by omega] at this
    exact ⟨_, this⟩
  · by_cases c0 : a = B i
    · rw [c0]
      exact ⟨_, h.bk hi⟩
    · by_cases c1 : a = B i + 1
      · rw [c1]
        exact ⟨_, h.ps hi⟩
      · have := (h.2.1 i hi).2.2 ((a - B i - 2) / 10) (by omega) ((a - B i - 2) % 10) (by omega)
        unfold pA at this
        rw [show B i + 2 + 10 * ((a - B i - 2) / 10) + (a - B i - 2) % 10 = a by omega] at this
        exact ⟨_, this⟩
def TW (g : mG) (xo xp z : Nat) (μ : mM) (σ ρ : Sg) : Prop := ∃ Bo τo Bp τp, (xo + 12 ≤ xp ∨ xp + 12 ≤ xo) ∧ RC g xo Bo z (msk (ownS xp Bp ρ) μ) σ τo μ ∧ RC g xp Bp z (msk (ownS xo Bo σ) μ) ρ τp μ
theorem TW.sym {g : mG} {xo xp z : Nat} {μ : mM} {σ ρ : Sg} (h : TW g xo xp z μ σ ρ) : TW g xp xo z μ ρ σ := by
  obtain ⟨Bo, τo, Bp, τp, hx, h1, h2⟩ := h
  exact ⟨Bp, τp, Bo, τo, hx.symm, h2, h1⟩
theorem TW.o {g : mG} {xo xp z : Nat} {μ : mM} {σ ρ : Sg} (h : TW g xo xp z μ σ ρ) (hlt : ∀ a e, μ a = some e → a < z) : ∃ B τ μ0, RC g xo B z μ0 σ τ μ ∧ ∀ B' τ' σ' μ' z', (∀ a e, μ' a = some e → a < z') → RC g xo B' z μ0 σ' τ' μ' → TW g xo xp z' μ' σ' ρ := by
  obtain ⟨Bo, τo, Bp, τp, hx, hO, hP⟩ := h
  refine ⟨Bo, τo, _, hO, fun B' τ' σ' μ' z' hlt' hO' => ?_⟩
  have F1 : ∀ a, ownS xp Bp ρ a → ∃ e, μ a = some e ∧ a < z := fun a ha => by
    obtain ⟨e, he⟩ := hP.known ha
    exact ⟨e, he, hlt a e he⟩
  have F3 : ∀ a, ownS xp Bp ρ a → ¬ (xo ≤ a ∧ a < xo + 12) := fun a ha hr => by
    obtain ⟨e, he, hz⟩ := F1 a ha
    rcases ha with h1 | ⟨i, hi, h1, h2⟩
    · omega
    · have := hP.2.2.2.1 i hi a h1 h2 hz
      rw [msk_t (Or.inl hr), he] at this
      cases this
  have F4 : ∀ a, ownS xp Bp ρ a → μ' a = μ a := fun a ha => by
    obtain ⟨e, he, hz⟩ := F1 a ha
    rw [he]
    exact hO'.2.2.2.2 a e (F3 a ha) hz (by rw [msk_t ha, he])
  have F5 : ∀ a, ownS xo B' σ' a → ¬ ownS xp Bp ρ a := fun a ha hb => by
    obtain ⟨e, he, hz⟩ := F1 a hb
    rcases ha with h1 | ⟨i, hi, h1, h2⟩
    · exact F3 a hb h1
    · have := hO'.2.2.2.1 i hi a h1 h2 hz
      rw [msk_t hb, he] at this
      cases this
  have hzo : xo + 12 ≤ z' := by
    have := hlt' _ _ hO'.h11
    omega
  have hxp : ∀ k, k < 12 → ownS xp Bp ρ (xp + k) := fun k hk => Or.inl ⟨by omega, by omega⟩
  have hzp : xp + 12 ≤ z' := by
    have := hlt' (xp + 11) _ ((F4 _ (hxp 11 (by decide))).trans hP.h11)
    omega
  have hbp : ∀ i, i < ρ.1 3 0 → ∀ a, Bp i ≤ a → a < Bp i + 2 + 10 * ρ.1 0 i → ownS xp Bp ρ a := fun i hi a h1 h2 => Or.inr ⟨i, hi, h1, h2⟩
  refine ⟨B', τ', Bp, τp, hx, ?_, ?_⟩
  · obtain ⟨a1, a2, ⟨-, s2, s3, s4, s5⟩, a5, a6⟩ := hO'
    exact ⟨a1, a2, ⟨hzo, s2, s3, s4, s5⟩, fun i hi a h1 h2 _ => msk_f (F5 a (Or.inr ⟨i, hi, h1, h2⟩)), fun a e _ _ he => msk_e he⟩
  · obtain ⟨a1, a2, ⟨-, s2, s3, s4, s5⟩, a5, a6⟩ := hP
    refine ⟨fun k hk => (F4 _ (hxp k hk)).trans (a1 k hk), fun i hi => ?_, ⟨hzp, s2, s3, s4, s5⟩, fun i hi a h1 h2 _ => msk_f (fun w => F5 a w (Or.inr ⟨i, hi, h1, h2⟩)), fun a e _ _ he => msk_e he⟩
    obtain ⟨b1, b2, b3⟩ := a2 i hi
    refine ⟨(F4 _ (hbp i hi _ (by omega) (by omega))).trans b1, (F4 _ (hbp i hi _ (by omega) (by omega))).trans b2, fun j hj c hc => (F4 _ (hbp i hi _ ?_ ?_)).trans (b3 j hj c hc)⟩
    · unfold pA
      omega
    · unfold pA
      omega
theorem ro0 {σ : Sg} {p : Int32 × Sg} (h : ∃ k, p.2 = th σ k) (h0 : σ.1 3 1 = 0) : th p.2 0 = σ := by
  obtain ⟨k, hk⟩ := h
  rw [hk, th_norm h0]
theorem ro0l {σ : Sg} {p : Int64 × Sg} (h : ∃ k, p.2 = th σ k) (h0 : σ.1 3 1 = 0) : th p.2 0 = σ := by
  obtain ⟨k, hk⟩ := h
  rw [hk, th_norm h0]
set_option maxRecDepth 100000 in
set_option maxHeartbeats 4000000 in
theorem l_areAlike {l : Launch} (hl : l.stackTraces = false) {g : mG} {xo xp z : Nat} {μ : mM} {σ : Sg} (hT : TW g xo xp z μ σ σ) (hI : Inv σ) (h0 : σ.1 3 1 = 0) (v : Int32) : Ct l g yL_areAlike [Cond.code yL_areAlike cL_areAlike 6 (some .boolean)] { frames := 9, cells := 200, slots := 1200, locals := 175 } [.ref xo, .ref xp, .int v] μ z (fun r μ' z' => r = some (.int 1) ∧ TW g xo xp z' μ' σ σ) (noX) := by
  refine Ct.of hl (by decide +kernel) (Nat.le_of_ble_eq_true rfl) ?_
  intro p e s mi args below meth c o hnm hr hx
  have o : Ok p l s mi args meth c g cL_areAlike 6 RL := o
  refine v_lv [(0, .ref xo), (1, .ref xp), (2, .int v)] rfl ?_
  refine v_lt (fun hlt => ?_)
  have L : ∀ (d k : Nat) (μq : mM) (zq : Nat) (u : Unit), k + d = 6 → TW g xo xp zq μq σ σ → (∀ a e, μq a = some e → a < zq) → V p l e { frames := 9, cells := 200, slots := 1200, locals := 175 } s mi args below meth c (vx_MQ below (cQc g (fun r μ' z' => r = some (.int 1) ∧ TW g xo xp z' μ' σ σ)) (cXC g noX) args s ({ frames := 9, cells := 200, slots := 1200, locals := 175 } : Room).cells ({ frames := 9, cells := 200, slots := 1200, locals := 175 } : Room).slots (gA g)) g μq zq (10 + 20 * k) (60 + 120 * k) 31 [(3, .int (nI 1)), (4, .int (nI k)), (0, .ref xo), (1, .ref xp), (2, .int v)] [] := by
    intro d
    induction d with
    | zero =>
      intro k μq zq _ hk hTq hltq
      obtain rfl : k = 6 := by omega
      refine v_iload 1 o dL_areAlike_31 rfl ?_
      refine v_bipush 6 o dL_areAlike_33 (by decide) ?_
      refine v_icmp_ge_n 229 o dL_areAlike_35 (by decide) (by decide) (by decide) (fun c35 => ?_) (fun c35 => absurd c35 (by omega))
      refine v_iload_n 0 o dL_areAlike_229 rfl rfl ?_
      exact v_zret o dL_areAlike_230 hr (by decide) (Nat.le_of_ble_eq_true rfl) (Nat.le_of_ble_eq_true rfl) ⟨rfl, hTq⟩
    | succ d ih =>
      intro k μq zq _ hk hTq hltq
      refine v_iload 1 o dL_areAlike_31 rfl ?_
      refine v_bipush 6 o dL_areAlike_33 (by decide) ?_
      refine v_icmp_ge_n 229 o dL_areAlike_35 (by decide) (by omega) (by decide) (fun c35 => absurd c35 (by omega)) (fun c35 => ?_)
      refine v_iload_n 0 o dL_areAlike_38 rfl rfl ?_
      refine v_if_eq_n 229 o dL_areAlike_39 (by decide) (by decide) (fun c39 => absurd c39 (by decide)) (fun c39 => ?_)
      refine v_iload_n 4 o dL_areAlike_42 rfl rfl ?_
      refine v_iconst 3 o dL_areAlike_43 rfl ?_
      refine v_iload 1 o dL_areAlike_44 rfl ?_
      refine v_imul (nI (3 * k)) o dL_areAlike_46 (pk_mul 3 k) ?_
      refine v_iadd (v + (nI (3 * k))) o dL_areAlike_47 rfl ?_
      refine v_bipush 6 o dL_areAlike_48 (by decide) ?_
      refine v_callSr (v := .int (nI (lwN (v + (nI (3 * k))) 6))) [.int (v + (nI (3 * k))), .int (nI 6)] [] o dL_areAlike_50 cw_L_111 st_L_low (l_low hl (v + (nI (3 * k))) 6 (by decide) (by decide)) rfl rfl (by decide) ⟨rfl, rfl⟩ ⟨by show (10 + 20 * k) ≤ 200; omega, by show (60 + 120 * k) ≤ 1200; omega⟩ (Nat.le_of_ble_eq_true rfl) ?_
      refine v_istore [(5, .int (nI (lwN (v + (nI (3 * k))) 6))), (3, .int (nI 1)), (4, .int (nI k)), (0, .ref xo), (1, .ref xp), (2, .int v)] o dL_areAlike_53 (by decide) rfl ?_
      refine v_aload_n 3 o dL_areAlike_55 rfl rfl ?_
      refine v_iload 2 o dL_areAlike_56 rfl ?_
      refine v_iconst 3 o dL_areAlike_58 rfl ?_
      refine v_callSr (v := .int (nI (lwN (nI k) 3))) [.int (nI k), .int (nI 3)] [.ref xo] o dL_areAlike_59 cw_L_111 st_L_low (l_low hl (nI k) 3 (by decide) (by decide)) rfl rfl (by decide) ⟨rfl, rfl⟩ ⟨by show (10 + 20 * k) ≤ 200; omega, by show (60 + 120 * k) ≤ 1200; omega⟩ (Nat.le_of_ble_eq_true rfl) ?_
      refine v_iload_n 5 o dL_areAlike_62 rfl rfl ?_
      refine v_bipush 6 o dL_areAlike_63 (by decide) ?_
      refine v_callSr (v := .int (nI (lwN v 6))) [.int v, .int (nI 6)] [.int (nI (lwN (nI k) 3)), .ref xo] o dL_areAlike_65 cw_L_111 st_L_low (l_low hl v 6 (by decide) (by decide)) rfl rfl (by decide) ⟨rfl, rfl⟩ ⟨by show (10 + 20 * k) ≤ 200; omega, by show (60 + 120 * k) ≤ 1200; omega⟩ (Nat.le_of_ble_eq_true rfl) ?_
      obtain ⟨B5, τ5, m5, hR5, hF5⟩ := (hTq).o hltq
      refine v_callSW [.ref xo, .int (nI (lwN (nI k) 3)), .int (nI (lwN v 6))] [] o dL_areAlike_68 cwh_L_186 (l_about hl hR5 hI (nI (lwN (nI k) 3)) (nI (lwN v 6))) rfl rfl ⟨Nat.le_of_ble_eq_true rfl, Nat.le_of_ble_eq_true rfl⟩ ⟨by show (10 + 20 * k) + 1 ≤ 200; omega, by show (60 + 120 * k) + 6 ≤ 1200; omega⟩ (Nat.le_of_ble_eq_true rfl) ?_ (fun _ _ _ _ h => h.elim)
      rintro r9 μ5 z5 hz5 ⟨rfl, C5, κ5, hQ5⟩
      rw [ro0 (p := (sp_about σ (nI (lwN (nI k) 3)) (nI (lwN v 6)))) (ro_about σ (nI (lwN (nI k) 3)) (nI (lwN v 6))) h0] at hQ5
      refine v_lt (fun hlt5 => ?_)
      have hT5 := hF5 _ _ _ _ _ hlt5 hQ5
      refine v_st [.int (wa (sp_about σ (nI (lwN (nI k) 3)) (nI (lwN v 6))))] rfl ?_
      refine v_aload_n 4 o dL_areAlike_71 rfl rfl ?_
      refine v_iload 2 o dL_areAlike_72 rfl ?_
      refine v_iconst 3 o dL_areAlike_74 rfl ?_
      refine v_callSr (v := .int (nI (lwN (nI k) 3))) [.int (nI k), .int (nI 3)] [.ref xp, .int (wa (sp_about σ (nI (lwN (nI k) 3)) (nI (lwN v 6))))] o dL_areAlike_75 cw_L_111 st_L_low (l_low hl (nI k) 3 (by decide) (by decide)) rfl rfl (by decide) ⟨rfl, rfl⟩ ⟨by show (10 + 20 * k) + 1 ≤ 200; omega, by show (60 + 120 * k) + 6 ≤ 1200; omega⟩ (Nat.le_of_ble_eq_true rfl) ?_
      refine v_iload_n 5 o dL_areAlike_78 rfl rfl ?_
      refine v_bipush 6 o dL_areAlike_79 (by decide) ?_
      refine v_callSr (v := .int (nI (lwN v 6))) [.int v, .int (nI 6)] [.int (nI (lwN (nI k) 3)), .ref xp, .int (wa (sp_about σ (nI (lwN (nI k) 3)) (nI (lwN v 6))))] o dL_areAlike_81 cw_L_111 st_L_low (l_low hl v 6 (by decide) (by decide)) rfl rfl (by decide) ⟨rfl, rfl⟩ ⟨by show (10 + 20 * k) + 1 ≤ 200; omega, by show (60 + 120 * k) + 6 ≤ 1200; omega⟩ (Nat.le_of_ble_eq_true rfl) ?_
      obtain ⟨B6, τ6, m6, hR6, hF6⟩ := (hT5.sym).o hlt5
      refine v_callSW [.ref xp, .int (nI (lwN (nI k) 3)), .int (nI (lwN v 6))] [.int (wa (sp_about σ (nI (lwN (nI k) 3)) (nI (lwN v 6))))] o dL_areAlike_84 cwh_L_186 (l_about hl hR6 hI (nI (lwN (nI k) 3)) (nI (lwN v 6))) rfl rfl ⟨Nat.le_of_ble_eq_true rfl, Nat.le_of_ble_eq_true rfl⟩ ⟨by show (10 + 20 * k) + 1 + 1 ≤ 200; omega, by show (60 + 120 * k) + 6 + 6 ≤ 1200; omega⟩ (Nat.le_of_ble_eq_true rfl) ?_ (fun _ _ _ _ h => h.elim)
      rintro r9 μ6 z6 hz6 ⟨rfl, C6, κ6, hQ6⟩
      rw [ro0 (p := (sp_about σ (nI (lwN (nI k) 3)) (nI (lwN v 6)))) (ro_about σ (nI (lwN (nI k) 3)) (nI (lwN v 6))) h0] at hQ6
      refine v_lt (fun hlt6 => ?_)
      have hT6 := (hF6 _ _ _ _ _ hlt6 hQ6).sym
      refine v_st [.int (wa (sp_about σ (nI (lwN (nI k) 3)) (nI (lwN v 6)))), .int (wa (sp_about σ (nI (lwN (nI k) 3)) (nI (lwN v 6))))] rfl ?_
      refine v_icmp_ne 221 o dL_areAlike_87 (by decide) (fun c87 => absurd c87 (not_not_intro rfl)) (fun c87 => ?_)
      refine v_aload_n 3 o dL_areAlike_90 rfl rfl ?_
      refine v_iload 2 o dL_areAlike_91 rfl ?_
      refine v_iconst 3 o dL_areAlike_93 rfl ?_
      refine v_callSr (v := .int (nI (lwN (nI k) 3))) [.int (nI k), .int (nI 3)] [.ref xo] o dL_areAlike_94 cw_L_111 st_L_low (l_low hl (nI k) 3 (by decide) (by decide)) rfl rfl (by decide) ⟨rfl, rfl⟩ ⟨by show (10 + 20 * k) + 1 + 1 ≤ 200; omega, by show (60 + 120 * k) + 6 + 6 ≤ 1200; omega⟩ (Nat.le_of_ble_eq_true rfl) ?_
      refine v_iload 0 o dL_areAlike_97 rfl ?_
      refine v_iload_n 5 o dL_areAlike_99 rfl rfl ?_
      refine v_iconst 4 o dL_areAlike_100 rfl ?_
      refine v_callSr (v := .int (nI (lwN v 4))) [.int v, .int (nI 4)] [.int (nI (lwN (v + (nI (3 * k))) 6)), .int (nI (lwN (nI k) 3)), .ref xo] o dL_areAlike_101 cw_L_111 st_L_low (l_low hl v 4 (by decide) (by decide)) rfl rfl (by decide) ⟨rfl, rfl⟩ ⟨by show (10 + 20 * k) + 1 + 1 ≤ 200; omega, by show (60 + 120 * k) + 6 + 6 ≤ 1200; omega⟩ (Nat.le_of_ble_eq_true rfl) ?_
      obtain ⟨B7, τ7, m7, hR7, hF7⟩ := (hT6).o hlt6
      refine v_callSW [.ref xo, .int (nI (lwN (nI k) 3)), .int (nI (lwN (v + (nI (3 * k))) 6)), .int (nI (lwN v 4))] [] o dL_areAlike_104 cwh_L_184 (l_whyNot hl hR7 hI (nI (lwN (nI k) 3)) (nI (lwN (v + (nI (3 * k))) 6)) (nI (lwN v 4))) rfl rfl ⟨Nat.le_of_ble_eq_true rfl, Nat.le_of_ble_eq_true rfl⟩ ⟨by show (10 + 20 * k) + 1 + 1 + 1 ≤ 200; omega, by show (60 + 120 * k) + 6 + 6 + 6 ≤ 1200; omega⟩ (Nat.le_of_ble_eq_true rfl) ?_ (fun _ _ _ _ h => h.elim)
      rintro r9 μ7 z7 hz7 ⟨rfl, C7, κ7, hQ7⟩
      rw [ro0 (p := (sp_whyNot σ (nI (lwN (nI k) 3)) (nI (lwN (v + (nI (3 * k))) 6)) (nI (lwN v 4)))) (ro_whyNot σ (nI (lwN (nI k) 3)) (nI (lwN (v + (nI (3 * k))) 6)) (nI (lwN v 4))) h0] at hQ7
      refine v_lt (fun hlt7 => ?_)
      have hT7 := hF7 _ _ _ _ _ hlt7 hQ7
      refine v_st [.int (wa (sp_whyNot σ (nI (lwN (nI k) 3)) (nI (lwN (v + (nI (3 * k))) 6)) (nI (lwN v 4))))] rfl ?_
      refine v_aload_n 4 o dL_areAlike_107 rfl rfl ?_
      refine v_iload 2 o dL_areAlike_108 rfl ?_
      refine v_iconst 3 o dL_areAlike_110 rfl ?_
      refine v_callSr (v := .int (nI (lwN (nI k) 3))) [.int (nI k), .int (nI 3)] [.ref xp, .int (wa (sp_whyNot σ (nI (lwN (nI k) 3)) (nI (lwN (v + (nI (3 * k))) 6)) (nI (lwN v 4))))] o dL_areAlike_111 cw_L_111 st_L_low (l_low hl (nI k) 3 (by decide) (by decide)) rfl rfl (by decide) ⟨rfl, rfl⟩ ⟨by show (10 + 20 * k) + 1 + 1 + 1 ≤ 200; omega, by show (60 + 120 * k) + 6 + 6 + 6 ≤ 1200; omega⟩ (Nat.le_of_ble_eq_true rfl) ?_
      refine v_iload 0 o dL_areAlike_114 rfl ?_
      refine v_iload_n 5 o dL_areAlike_116 rfl rfl ?_
      refine v_iconst 4 o dL_areAlike_117 rfl ?_
      refine v_callSr (v := .int (nI (lwN v 4))) [.int v, .int (nI 4)] [.int (nI (lwN (v + (nI (3 * k))) 6)), .int (nI (lwN (nI k) 3)), .ref xp, .int (wa (sp_whyNot σ (nI (lwN (nI k) 3)) (nI (lwN (v + (nI (3 * k))) 6)) (nI (lwN v 4))))] o dL_areAlike_118 cw_L_111 st_L_low (l_low hl v 4 (by decide) (by decide)) rfl rfl (by decide) ⟨rfl, rfl⟩ ⟨by show (10 + 20 * k) + 1 + 1 + 1 ≤ 200; omega, by show (60 + 120 * k) + 6 + 6 + 6 ≤ 1200; omega⟩ (Nat.le_of_ble_eq_true rfl) ?_
      obtain ⟨B8, τ8, m8, hR8, hF8⟩ := (hT7.sym).o hlt7
      refine v_callSW [.ref xp, .int (nI (lwN (nI k) 3)), .int (nI (lwN (v + (nI (3 * k))) 6)), .int (nI (lwN v 4))] [.int (wa (sp_whyNot σ (nI (lwN (nI k) 3)) (nI (lwN (v + (nI (3 * k))) 6)) (nI (lwN v 4))))] o dL_areAlike_121 cwh_L_184 (l_whyNot hl hR8 hI (nI (lwN (nI k) 3)) (nI (lwN (v + (nI (3 * k))) 6)) (nI (lwN v 4))) rfl rfl ⟨Nat.le_of_ble_eq_true rfl, Nat.le_of_ble_eq_true rfl⟩ ⟨by show (10 + 20 * k) + 1 + 1 + 1 + 1 ≤ 200; omega, by show (60 + 120 * k) + 6 + 6 + 6 + 6 ≤ 1200; omega⟩ (Nat.le_of_ble_eq_true rfl) ?_ (fun _ _ _ _ h => h.elim)
      rintro r9 μ8 z8 hz8 ⟨rfl, C8, κ8, hQ8⟩
      rw [ro0 (p := (sp_whyNot σ (nI (lwN (nI k) 3)) (nI (lwN (v + (nI (3 * k))) 6)) (nI (lwN v 4)))) (ro_whyNot σ (nI (lwN (nI k) 3)) (nI (lwN (v + (nI (3 * k))) 6)) (nI (lwN v 4))) h0] at hQ8
      refine v_lt (fun hlt8 => ?_)
      have hT8 := (hF8 _ _ _ _ _ hlt8 hQ8).sym
      refine v_st [.int (wa (sp_whyNot σ (nI (lwN (nI k) 3)) (nI (lwN (v + (nI (3 * k))) 6)) (nI (lwN v 4)))), .int (wa (sp_whyNot σ (nI (lwN (nI k) 3)) (nI (lwN (v + (nI (3 * k))) 6)) (nI (lwN v 4))))] rfl ?_
      refine v_icmp_ne 221 o dL_areAlike_124 (by decide) (fun c124 => absurd c124 (not_not_intro rfl)) (fun c124 => ?_)
      refine v_aload_n 3 o dL_areAlike_127 rfl rfl ?_
      refine v_iload_n 5 o dL_areAlike_128 rfl rfl ?_
      refine v_iconst 4 o dL_areAlike_129 rfl ?_
      refine v_callSr (v := .int (nI (lwN v 4))) [.int v, .int (nI 4)] [.ref xo] o dL_areAlike_130 cw_L_111 st_L_low (l_low hl v 4 (by decide) (by decide)) rfl rfl (by decide) ⟨rfl, rfl⟩ ⟨by show (10 + 20 * k) + 1 + 1 + 1 + 1 ≤ 200; omega, by show (60 + 120 * k) + 6 + 6 + 6 + 6 ≤ 1200; omega⟩ (Nat.le_of_ble_eq_true rfl) ?_
      refine v_iload 2 o dL_areAlike_133 rfl ?_
      refine v_iconst 3 o dL_areAlike_135 rfl ?_
      refine v_callSr (v := .int (nI (lwN (nI k) 3))) [.int (nI k), .int (nI 3)] [.int (nI (lwN v 4)), .ref xo] o dL_areAlike_136 cw_L_111 st_L_low (l_low hl (nI k) 3 (by decide) (by decide)) rfl rfl (by decide) ⟨rfl, rfl⟩ ⟨by show (10 + 20 * k) + 1 + 1 + 1 + 1 ≤ 200; omega, by show (60 + 120 * k) + 6 + 6 + 6 + 6 ≤ 1200; omega⟩ (Nat.le_of_ble_eq_true rfl) ?_
      refine v_iload 0 o dL_areAlike_139 rfl ?_
      obtain ⟨B9, τ9, m9, hR9, hF9⟩ := (hT8).o hlt8
      refine v_callSW [.ref xo, .int (nI (lwN v 4)), .int (nI (lwN (nI k) 3)), .int (nI (lwN (v + (nI (3 * k))) 6))] [] o dL_areAlike_141 cwh_L_151 (l_copy hl hR9 hI (nI (lwN v 4)) (nI (lwN (nI k) 3)) (nI (lwN (v + (nI (3 * k))) 6))) rfl rfl ⟨Nat.le_of_ble_eq_true rfl, Nat.le_of_ble_eq_true rfl⟩ ⟨by show (10 + 20 * k) + 1 + 1 + 1 + 1 + 1 ≤ 200; omega, by show (60 + 120 * k) + 6 + 6 + 6 + 6 + 6 ≤ 1200; omega⟩ (Nat.le_of_ble_eq_true rfl) ?_ (fun _ _ _ _ h => h.elim)
      rintro r9 μ9 z9 hz9 ⟨rfl, C9, κ9, hQ9⟩
      rw [ro0l (p := (sp_copy σ (nI (lwN v 4)) (nI (lwN (nI k) 3)) (nI (lwN (v + (nI (3 * k))) 6)))) (ro_copy σ (nI (lwN v 4)) (nI (lwN (nI k) 3)) (nI (lwN (v + (nI (3 * k))) 6))) h0] at hQ9
      refine v_lt (fun hlt9 => ?_)
      have hT9 := hF9 _ _ _ _ _ hlt9 hQ9
      refine v_st [.long (wl (sp_copy σ (nI (lwN v 4)) (nI (lwN (nI k) 3)) (nI (lwN (v + (nI (3 * k))) 6))))] rfl ?_
      refine v_aload_n 4 o dL_areAlike_144 rfl rfl ?_
      refine v_iload_n 5 o dL_areAlike_145 rfl rfl ?_
      refine v_iconst 4 o dL_areAlike_146 rfl ?_
      refine v_callSr (v := .int (nI (lwN v 4))) [.int v, .int (nI 4)] [.ref xp, .long (wl (sp_copy σ (nI (lwN v 4)) (nI (lwN (nI k) 3)) (nI (lwN (v + (nI (3 * k))) 6))))] o dL_areAlike_147 cw_L_111 st_L_low (l_low hl v 4 (by decide) (by decide)) rfl rfl (by decide) ⟨rfl, rfl⟩ ⟨by show (10 + 20 * k) + 1 + 1 + 1 + 1 + 1 ≤ 200; omega, by show (60 + 120 * k) + 6 + 6 + 6 + 6 + 6 ≤ 1200; omega⟩ (Nat.le_of_ble_eq_true rfl) ?_
      refine v_iload 2 o dL_areAlike_150 rfl ?_
      refine v_iconst 3 o dL_areAlike_152 rfl ?_
      refine v_callSr (v := .int (nI (lwN (nI k) 3))) [.int (nI k), .int (nI 3)] [.int (nI (lwN v 4)), .ref xp, .long (wl (sp_copy σ (nI (lwN v 4)) (nI (lwN (nI k) 3)) (nI (lwN (v + (nI (3 * k))) 6))))] o dL_areAlike_153 cw_L_111 st_L_low (l_low hl (nI k) 3 (by decide) (by decide)) rfl rfl (by decide) ⟨rfl, rfl⟩ ⟨by show (10 + 20 * k) + 1 + 1 + 1 + 1 + 1 ≤ 200; omega, by show (60 + 120 * k) + 6 + 6 + 6 + 6 + 6 ≤ 1200; omega⟩ (Nat.le_of_ble_eq_true rfl) ?_
      refine v_iload 0 o dL_areAlike_156 rfl ?_
      obtain ⟨B10, τ10, m10, hR10, hF10⟩ := (hT9.sym).o hlt9
      refine v_callSW [.ref xp, .int (nI (lwN v 4)), .int (nI (lwN (nI k) 3)), .int (nI (lwN (v + (nI (3 * k))) 6))] [.long (wl (sp_copy σ (nI (lwN v 4)) (nI (lwN (nI k) 3)) (nI (lwN (v + (nI (3 * k))) 6))))] o dL_areAlike_158 cwh_L_151 (l_copy hl hR10 hI (nI (lwN v 4)) (nI (lwN (nI k) 3)) (nI (lwN (v + (nI (3 * k))) 6))) rfl rfl ⟨Nat.le_of_ble_eq_true rfl, Nat.le_of_ble_eq_true rfl⟩ ⟨by show (10 + 20 * k) + 1 + 1 + 1 + 1 + 1 + 1 ≤ 200; omega, by show (60 + 120 * k) + 6 + 6 + 6 + 6 + 6 + 6 ≤ 1200; omega⟩ (Nat.le_of_ble_eq_true rfl) ?_ (fun _ _ _ _ h => h.elim)
      rintro r9 μ10 z10 hz10 ⟨rfl, C10, κ10, hQ10⟩
      rw [ro0l (p := (sp_copy σ (nI (lwN v 4)) (nI (lwN (nI k) 3)) (nI (lwN (v + (nI (3 * k))) 6)))) (ro_copy σ (nI (lwN v 4)) (nI (lwN (nI k) 3)) (nI (lwN (v + (nI (3 * k))) 6))) h0] at hQ10
      refine v_lt (fun hlt10 => ?_)
      have hT10 := (hF10 _ _ _ _ _ hlt10 hQ10).sym
      refine v_st [.long (wl (sp_copy σ (nI (lwN v 4)) (nI (lwN (nI k) 3)) (nI (lwN (v + (nI (3 * k))) 6)))), .long (wl (sp_copy σ (nI (lwN v 4)) (nI (lwN (nI k) 3)) (nI (lwN (v + (nI (3 * k))) 6))))] rfl ?_
      refine v_lcmp o dL_areAlike_161 ?_
      refine v_if_ne_c 221 o dL_areAlike_162 (by decide) (fun c162 => absurd c162 (not_not_intro rfl)) (fun c162 => ?_)
      refine v_aload_n 3 o dL_areAlike_165 rfl rfl ?_
      refine v_iload 2 o dL_areAlike_166 rfl ?_
      obtain ⟨B11, τ11, m11, hR11, hF11⟩ := (hT10).o hlt10
      refine v_callSW [.ref xo, .int (nI k)] [] o dL_areAlike_168 cwh_L_166 (l_pay hl hR11 hI (nI k)) rfl rfl ⟨Nat.le_of_ble_eq_true rfl, Nat.le_of_ble_eq_true rfl⟩ ⟨by show (10 + 20 * k) + 1 + 1 + 1 + 1 + 1 + 1 + 1 ≤ 200; omega, by show (60 + 120 * k) + 6 + 6 + 6 + 6 + 6 + 6 + 6 ≤ 1200; omega⟩ (Nat.le_of_ble_eq_true rfl) ?_ (fun _ _ _ _ h => h.elim)
      rintro r9 μ11 z11 hz11 ⟨rfl, C11, κ11, hQ11⟩
      rw [ro0 (p := (sp_pay σ (nI k))) (ro_pay σ (nI k)) h0] at hQ11
      refine v_lt (fun hlt11 => ?_)
      have hT11 := hF11 _ _ _ _ _ hlt11 hQ11
      refine v_st [.int (wa (sp_pay σ (nI k)))] rfl ?_
      refine v_aload_n 4 o dL_areAlike_171 rfl rfl ?_
      refine v_iload 2 o dL_areAlike_172 rfl ?_
      obtain ⟨B12, τ12, m12, hR12, hF12⟩ := (hT11.sym).o hlt11
      refine v_callSW [.ref xp, .int (nI k)] [.int (wa (sp_pay σ (nI k)))] o dL_areAlike_174 cwh_L_166 (l_pay hl hR12 hI (nI k)) rfl rfl ⟨Nat.le_of_ble_eq_true rfl, Nat.le_of_ble_eq_true rfl⟩ ⟨by show (10 + 20 * k) + 1 + 1 + 1 + 1 + 1 + 1 + 1 + 1 ≤ 200; omega, by show (60 + 120 * k) + 6 + 6 + 6 + 6 + 6 + 6 + 6 + 6 ≤ 1200; omega⟩ (Nat.le_of_ble_eq_true rfl) ?_ (fun _ _ _ _ h => h.elim)
      rintro r9 μ12 z12 hz12 ⟨rfl, C12, κ12, hQ12⟩
      rw [ro0 (p := (sp_pay σ (nI k))) (ro_pay σ (nI k)) h0] at hQ12
      refine v_lt (fun hlt12 => ?_)
      have hT12 := (hF12 _ _ _ _ _ hlt12 hQ12).sym
      refine v_st [.int (wa (sp_pay σ (nI k))), .int (wa (sp_pay σ (nI k)))] rfl ?_
      refine v_icmp_ne 221 o dL_areAlike_177 (by decide) (fun c177 => absurd c177 (not_not_intro rfl)) (fun c177 => ?_)
      refine v_aload_n 3 o dL_areAlike_180 rfl rfl ?_
      refine v_iload 2 o dL_areAlike_181 rfl ?_
      refine v_iconst 3 o dL_areAlike_183 rfl ?_
      refine v_callSr (v := .int (nI (lwN (nI k) 3))) [.int (nI k), .int (nI 3)] [.ref xo] o dL_areAlike_184 cw_L_111 st_L_low (l_low hl (nI k) 3 (by decide) (by decide)) rfl rfl (by decide) ⟨rfl, rfl⟩ ⟨by show (10 + 20 * k) + 1 + 1 + 1 + 1 + 1 + 1 + 1 + 1 ≤ 200; omega, by show (60 + 120 * k) + 6 + 6 + 6 + 6 + 6 + 6 + 6 + 6 ≤ 1200; omega⟩ (Nat.le_of_ble_eq_true rfl) ?_
      refine v_iload 0 o dL_areAlike_187 rfl ?_
      refine v_iload_n 5 o dL_areAlike_189 rfl rfl ?_
      refine v_iconst 4 o dL_areAlike_190 rfl ?_
      refine v_callSr (v := .int (nI (lwN v 4))) [.int v, .int (nI 4)] [.int (nI (lwN (v + (nI (3 * k))) 6)), .int (nI (lwN (nI k) 3)), .ref xo] o dL_areAlike_191 cw_L_111 st_L_low (l_low hl v 4 (by decide) (by decide)) rfl rfl (by decide) ⟨rfl, rfl⟩ ⟨by show (10 + 20 * k) + 1 + 1 + 1 + 1 + 1 + 1 + 1 + 1 ≤ 200; omega, by show (60 + 120 * k) + 6 + 6 + 6 + 6 + 6 + 6 + 6 + 6 ≤ 1200; omega⟩ (Nat.le_of_ble_eq_true rfl) ?_
      obtain ⟨B13, τ13, m13, hR13, hF13⟩ := (hT12).o hlt12
      refine v_callSW [.ref xo, .int (nI (lwN (nI k) 3)), .int (nI (lwN (v + (nI (3 * k))) 6)), .int (nI (lwN v 4))] [] o dL_areAlike_194 cwh_L_168 (l_read hl hR13 hI (nI (lwN (nI k) 3)) (nI (lwN (v + (nI (3 * k))) 6)) (nI (lwN v 4))) rfl rfl ⟨Nat.le_of_ble_eq_true rfl, Nat.le_of_ble_eq_true rfl⟩ ⟨by show (10 + 20 * k) + 1 + 1 + 1 + 1 + 1 + 1 + 1 + 1 + 1 ≤ 200; omega, by show (60 + 120 * k) + 6 + 6 + 6 + 6 + 6 + 6 + 6 + 6 + 6 ≤ 1200; omega⟩ (Nat.le_of_ble_eq_true rfl) ?_ (fun _ _ _ _ h => h.elim)
      rintro r9 μ13 z13 hz13 ⟨rfl, C13, κ13, hQ13⟩
      rw [ro0 (p := (sp_read σ (nI (lwN (nI k) 3)) (nI (lwN (v + (nI (3 * k))) 6)) (nI (lwN v 4)))) (ro_read σ (nI (lwN (nI k) 3)) (nI (lwN (v + (nI (3 * k))) 6)) (nI (lwN v 4))) h0] at hQ13
      refine v_lt (fun hlt13 => ?_)
      have hT13 := hF13 _ _ _ _ _ hlt13 hQ13
      refine v_st [.int (wa (sp_read σ (nI (lwN (nI k) 3)) (nI (lwN (v + (nI (3 * k))) 6)) (nI (lwN v 4))))] rfl ?_
      refine v_aload_n 4 o dL_areAlike_197 rfl rfl ?_
      refine v_iload 2 o dL_areAlike_198 rfl ?_
      refine v_iconst 3 o dL_areAlike_200 rfl ?_
      refine v_callSr (v := .int (nI (lwN (nI k) 3))) [.int (nI k), .int (nI 3)] [.ref xp, .int (wa (sp_read σ (nI (lwN (nI k) 3)) (nI (lwN (v + (nI (3 * k))) 6)) (nI (lwN v 4))))] o dL_areAlike_201 cw_L_111 st_L_low (l_low hl (nI k) 3 (by decide) (by decide)) rfl rfl (by decide) ⟨rfl, rfl⟩ ⟨by show (10 + 20 * k) + 1 + 1 + 1 + 1 + 1 + 1 + 1 + 1 + 1 ≤ 200; omega, by show (60 + 120 * k) + 6 + 6 + 6 + 6 + 6 + 6 + 6 + 6 + 6 ≤ 1200; omega⟩ (Nat.le_of_ble_eq_true rfl) ?_
      refine v_iload 0 o dL_areAlike_204 rfl ?_
      refine v_iload_n 5 o dL_areAlike_206 rfl rfl ?_
      refine v_iconst 4 o dL_areAlike_207 rfl ?_
      refine v_callSr (v := .int (nI (lwN v 4))) [.int v, .int (nI 4)] [.int (nI (lwN (v + (nI (3 * k))) 6)), .int (nI (lwN (nI k) 3)), .ref xp, .int (wa (sp_read σ (nI (lwN (nI k) 3)) (nI (lwN (v + (nI (3 * k))) 6)) (nI (lwN v 4))))] o dL_areAlike_208 cw_L_111 st_L_low (l_low hl v 4 (by decide) (by decide)) rfl rfl (by decide) ⟨rfl, rfl⟩ ⟨by show (10 + 20 * k) + 1 + 1 + 1 + 1 + 1 + 1 + 1 + 1 + 1 ≤ 200; omega, by show (60 + 120 * k) + 6 + 6 + 6 + 6 + 6 + 6 + 6 + 6 + 6 ≤ 1200; omega⟩ (Nat.le_of_ble_eq_true rfl) ?_
      obtain ⟨B14, τ14, m14, hR14, hF14⟩ := (hT13.sym).o hlt13
      refine v_callSW [.ref xp, .int (nI (lwN (nI k) 3)), .int (nI (lwN (v + (nI (3 * k))) 6)), .int (nI (lwN v 4))] [.int (wa (sp_read σ (nI (lwN (nI k) 3)) (nI (lwN (v + (nI (3 * k))) 6)) (nI (lwN v 4))))] o dL_areAlike_211 cwh_L_168 (l_read hl hR14 hI (nI (lwN (nI k) 3)) (nI (lwN (v + (nI (3 * k))) 6)) (nI (lwN v 4))) rfl rfl ⟨Nat.le_of_ble_eq_true rfl, Nat.le_of_ble_eq_true rfl⟩ ⟨by show (10 + 20 * k) + 1 + 1 + 1 + 1 + 1 + 1 + 1 + 1 + 1 + 1 ≤ 200; omega, by show (60 + 120 * k) + 6 + 6 + 6 + 6 + 6 + 6 + 6 + 6 + 6 + 6 ≤ 1200; omega⟩ (Nat.le_of_ble_eq_true rfl) ?_ (fun _ _ _ _ h => h.elim)
      rintro r9 μ14 z14 hz14 ⟨rfl, C14, κ14, hQ14⟩
      rw [ro0 (p := (sp_read σ (nI (lwN (nI k) 3)) (nI (lwN (v + (nI (3 * k))) 6)) (nI (lwN v 4)))) (ro_read σ (nI (lwN (nI k) 3)) (nI (lwN (v + (nI (3 * k))) 6)) (nI (lwN v 4))) h0] at hQ14
      refine v_lt (fun hlt14 => ?_)
      have hT14 := (hF14 _ _ _ _ _ hlt14 hQ14).sym
      refine v_st [.int (wa (sp_read σ (nI (lwN (nI k) 3)) (nI (lwN (v + (nI (3 * k))) 6)) (nI (lwN v 4)))), .int (wa (sp_read σ (nI (lwN (nI k) 3)) (nI (lwN (v + (nI (3 * k))) 6)) (nI (lwN v 4))))] rfl ?_
      refine v_icmp_ne 221 o dL_areAlike_214 (by decide) (fun c214 => absurd c214 (not_not_intro rfl)) (fun c214 => ?_)
      refine v_iconst 1 o dL_areAlike_217 rfl ?_
      refine v_goto 222 o dL_areAlike_218 (by decide) ?_
      refine v_istore_n [(3, .int (nI 1)), (5, .int (nI (lwN (v + (nI (3 * k))) 6))), (4, .int (nI k)), (0, .ref xo), (1, .ref xp), (2, .int v)] o dL_areAlike_222 rfl (by decide) rfl ?_
      refine v_iinc (nI (k + 1)) [(4, .int (nI (k + 1))), (3, .int (nI 1)), (5, .int (nI (lwN (v + (nI (3 * k))) 6))), (0, .ref xo), (1, .ref xp), (2, .int v)] o dL_areAlike_223 2 rfl (iinc_n k 1) (by decide) rfl ?_
      refine v_goto 31 o dL_areAlike_226 (by decide) ?_
      refine v_sub [(3, .int (nI 1)), (4, .int (nI (k + 1))), (0, .ref xo), (1, .ref xp), (2, .int v)] [1, 0, 3, 4, 5] rfl ?_
      exact v_widen (10 + 20 * (k + 1)) (60 + 120 * (k + 1)) (by show (10 + 20 * k) + 1 + 1 + 1 + 1 + 1 + 1 + 1 + 1 + 1 + 1 ≤ 10 + 20 * (k + 1); omega) (by show (60 + 120 * k) + 6 + 6 + 6 + 6 + 6 + 6 + 6 + 6 + 6 + 6 ≤ 60 + 120 * (k + 1); omega) (ih (k + 1) _ _ () (by omega) hT14 hlt14)
  refine v_aload_n 0 o dL_areAlike_0 rfl rfl ?_
  obtain ⟨B1, τ1, m1, hR1, hF1⟩ := (hT).o hlt
  refine v_callV [] [] o dL_areAlike_1 cw_L_119 im_X5_next se_X5_next cf5 hR1.h0 (k_next hl hR1 ) rfl rfl ⟨Nat.le_of_ble_eq_true rfl, Nat.le_of_ble_eq_true rfl⟩ ⟨by show 0 + 0 ≤ 200; omega, by show 0 + 0 ≤ 1200; omega⟩ (Nat.le_of_ble_eq_true rfl) ?_ (fun _ _ _ _ h => h.elim)
  rintro r9 μ1 z1 hz1 ⟨rfl, h31, C1, κ1, hQ1⟩
  have hQ1 := hQ1.thk 0
  rw [ro0 (p := (sp_next σ)) (ro_next σ ) h0] at hQ1
  refine v_lt (fun hlt1 => ?_)
  have hT1 := hF1 _ _ _ _ _ hlt1 hQ1
  refine v_st [.int ((sp_next σ).1)] rfl ?_
  refine v_aload_n 1 o dL_areAlike_4 rfl rfl ?_
  obtain ⟨B2, τ2, m2, hR2, hF2⟩ := (hT1.sym).o hlt1
  refine v_callV [] [.int ((sp_next σ).1)] o dL_areAlike_5 cw_L_119 im_X5_next se_X5_next cf5 hR2.h0 (k_next hl hR2 ) rfl rfl ⟨Nat.le_of_ble_eq_true rfl, Nat.le_of_ble_eq_true rfl⟩ ⟨by show 0 + 0 + 0 ≤ 200; omega, by show 0 + 0 + 0 ≤ 1200; omega⟩ (Nat.le_of_ble_eq_true rfl) ?_ (fun _ _ _ _ h => h.elim)
  rintro r9 μ2 z2 hz2 ⟨rfl, h31, C2, κ2, hQ2⟩
  have hQ2 := hQ2.thk 0
  rw [ro0 (p := (sp_next σ)) (ro_next σ ) h0] at hQ2
  refine v_lt (fun hlt2 => ?_)
  have hT2 := (hF2 _ _ _ _ _ hlt2 hQ2).sym
  refine v_st [.int ((sp_next σ).1), .int ((sp_next σ).1)] rfl ?_
  refine v_icmp_ne 26 o dL_areAlike_8 (by decide) (fun c8 => absurd c8 (not_not_intro rfl)) (fun c8 => ?_)
  refine v_aload_n 0 o dL_areAlike_11 rfl rfl ?_
  obtain ⟨B3, τ3, m3, hR3, hF3⟩ := (hT2).o hlt2
  refine v_callV [] [] o dL_areAlike_12 cw_L_134 im_X5_looked se_X5_looked cf5 hR3.h0 (k_looked hl hR3 ) rfl rfl ⟨Nat.le_of_ble_eq_true rfl, Nat.le_of_ble_eq_true rfl⟩ ⟨by show 0 + 0 + 0 + 0 ≤ 200; omega, by show 0 + 0 + 0 + 0 ≤ 1200; omega⟩ (Nat.le_of_ble_eq_true rfl) ?_ (fun _ _ _ _ h => h.elim)
  rintro r9 μ3 z3 hz3 ⟨rfl, h31, C3, κ3, hQ3⟩
  have hQ3 := hQ3.thk 0
  rw [ro0 (p := (sp_looked σ)) (ro_looked σ ) h0] at hQ3
  refine v_lt (fun hlt3 => ?_)
  have hT3 := hF3 _ _ _ _ _ hlt3 hQ3
  refine v_st [.int ((sp_looked σ).1)] rfl ?_
  refine v_aload_n 1 o dL_areAlike_15 rfl rfl ?_
  obtain ⟨B4, τ4, m4, hR4, hF4⟩ := (hT3.sym).o hlt3
  refine v_callV [] [.int ((sp_looked σ).1)] o dL_areAlike_16 cw_L_134 im_X5_looked se_X5_looked cf5 hR4.h0 (k_looked hl hR4 ) rfl rfl ⟨Nat.le_of_ble_eq_true rfl, Nat.le_of_ble_eq_true rfl⟩ ⟨by show 0 + 0 + 0 + 0 + 0 ≤ 200; omega, by show 0 + 0 + 0 + 0 + 0 ≤ 1200; omega⟩ (Nat.le_of_ble_eq_true rfl) ?_ (fun _ _ _ _ h => h.elim)
  rintro r9 μ4 z4 hz4 ⟨rfl, h31, C4, κ4, hQ4⟩
  have hQ4 := hQ4.thk 0
  rw [ro0 (p := (sp_looked σ)) (ro_looked σ ) h0] at hQ4
  refine v_lt (fun hlt4 => ?_)
  have hT4 := (hF4 _ _ _ _ _ hlt4 hQ4).sym
  refine v_st [.int ((sp_looked σ).1), .int ((sp_looked σ).1)] rfl ?_
  refine v_icmp_ne 26 o dL_areAlike_19 (by decide) (fun c19 => absurd c19 (not_not_intro rfl)) (fun c19 => ?_)
  refine v_iconst 1 o dL_areAlike_22 rfl ?_
  refine v_goto 27 o dL_areAlike_23 (by decide) ?_
  refine v_istore_n [(3, .int (nI 1)), (0, .ref xo), (1, .ref xp), (2, .int v)] o dL_areAlike_27 rfl (by decide) rfl ?_
  refine v_iconst 0 o dL_areAlike_28 rfl ?_
  refine v_istore [(4, .int (nI 0)), (3, .int (nI 1)), (0, .ref xo), (1, .ref xp), (2, .int v)] o dL_areAlike_29 (by decide) rfl ?_
  refine v_sub [(3, .int (nI 1)), (4, .int (nI 0)), (0, .ref xo), (1, .ref xp), (2, .int v)] [1, 0, 2, 3, 4] rfl ?_
  exact v_widen 10 60 (by show 0 + 0 + 0 + 0 + 0 ≤ 10; omega) (by show 0 + 0 + 0 + 0 + 0 ≤ 60; omega) (L 6 0 _ _ () (by omega) hT4 hlt4)
