theorem clX_no {Es : List String} {σ : Sg} {σ' : Sg} {μ μ' : mM} {E : String} {z' : Nat} (h : clX Es σ σ' μ E μ' z') (h0 : σ'.1 3 1 = 0) : False := by
  obtain ⟨⟨k, hk, -⟩, -⟩ := h
  rw [hk, th_31] at h0
  omega
theorem ab_ok {σ : Sg} (h : JW σ) {b : Nat} (hb : b < σ.1 3 0) {w : Int32} (hw : inR w (nI 0) (nI 5) = true) : (sp_about σ (nI b) w).2.1 3 1 = 0 := by
  obtain ⟨e, hI, -⟩ := h
  rw [about_is hI hb hw]
  exact th_31 σ 0
theorem JW.I {σ : Sg} (h : JW σ) : Inv σ := by
  obtain ⟨e, hI, -⟩ := h
  exact hI
theorem JW.z {σ : Sg} (h : JW σ) : σ.1 3 1 = 0 := by
  obtain ⟨e, -, h0, -⟩ := h
  exact h0
theorem q_b4w (σ : Sg) : wa (sp_burn σ (nI 4)) = -99999999 := by
  rw [q_b4]
  exact wa_t (p := (nI 0, th σ 1)) (k := 0) rfl
set_option maxRecDepth 100000 in
set_option maxHeartbeats 4000000 in
theorem l_isBookSo {l : Launch} (hl : l.stackTraces = false) {g : mG} {x z z0 : Nat} {B : Nat → Nat} {μ0 μ : mM} {σ τ : Sg} (hR : RC g x B z0 μ0 σ τ μ) (hW : JW σ) (b : Nat) (hb : b < σ.1 3 0) (v : Int32) : Ct l g yL_isBookSo [Cond.code yL_isBookSo cL_isBookSo 8 (some .boolean)] { frames := 11, cells := 400, slots := 2400, locals := 267 } [.ref x, .int (nI b), .int v] μ z (fun r μ' z' => r = some (.int 1) ∧ ∃ σ' B' τ', JW σ' ∧ σ'.1 3 0 = σ.1 3 0 ∧ RC g x B' z0 μ0 σ' τ' μ') (noX) := by
  have hv4 : lwN v 4 < 4 := lwN_lt (by decide)
  have h6b := hW.I.1
  obtain ⟨σ1, σ2, e1, e2, hW1, hW2, hn1, hn2, htd, hnt, hlk, hcase⟩ := q_m hW hv4 hb
  obtain ⟨σ3, -, e3, -, hW3, -, hn3, -⟩ := q_m hW2 hv4 (show b < σ2.1 3 0 by rw [hn2]; exact hb)
  rw [hn2] at hn3
  refine Ct.of hl (by decide +kernel) (Nat.le_of_ble_eq_true rfl) ?_
  intro p e s mi args below meth c o hnm hr hx
  have o : Ok p l s mi args meth c g cL_isBookSo 8 RL := o
  refine v_lv [(0, .ref x), (1, .int (nI b)), (2, .int v)] rfl ?_
  have K285 : ∀ (μq : mM) (zq : Nat) (Bq : Nat → Nat) (τq : Sg), RC g x Bq z0 μ0 σ2 τq μq → V p l e { frames := 11, cells := 400, slots := 2400, locals := 267 } s mi args below meth c (vx_MQ below (cQc g (fun r μ' z' => r = some (.int 1) ∧ ∃ σ' B' τ', JW σ' ∧ σ'.1 3 0 = σ.1 3 0 ∧ RC g x B' z0 μ0 σ' τ' μ')) (cXC g noX) args s ({ frames := 11, cells := 400, slots := 2400, locals := 267 } : Room).cells ({ frames := 11, cells := 400, slots := 2400, locals := 267 } : Room).slots (gA g)) g μq zq 300 1800 285 [(0, .ref x), (1, .int (nI b)), (2, .int v), (3, .int (nI 1)), (4, .int (nI (lwN v 4))), (5, .int (wa (sp_mend σ (nI (lwN v 4)) (nI b)))), (6, .int (nI (tldN σ1 (lwN v 4) b))), (7, .int (nI 12))] [] := by
    intro μq zq Bq τq hRq
    have hlk1 := lkN_1 σ1 (lwN v 4) b
    have hlk31 := lkN_31 σ1 (lwN v 4) b
    have htl := tldN_lt σ1 (lwN v 4) b
    have htk := tld_lk σ1 (lwN v 4) b
    by_cases hT0 : 0 < tldN σ1 (lwN v 4) b <;> rcases hcase with hc | ⟨hc, hm2, hbit⟩
    · refine v_iload_n 3 o dL_isBookSo_285 rfl rfl ?_
      refine v_if_eq_n 351 o dL_isBookSo_286 (by decide) (by decide) (fun c286 => absurd c286 (by decide)) (fun c286 => ?_)
      refine v_aload_n 0 o dL_isBookSo_289 rfl rfl ?_
      refine v_callV [] [] o dL_isBookSo_290 cw_L_134 im_X5_looked se_X5_looked cf5 hRq.h0 (k_looked hl hRq ) rfl rfl ⟨Nat.le_of_ble_eq_true rfl, Nat.le_of_ble_eq_true rfl⟩ ⟨by show 300 + 0 ≤ 400; omega, by show 1800 + 0 ≤ 2400; omega⟩ (Nat.le_of_ble_eq_true rfl) ?_ (fun _ _ _ _ h => h.elim)
      rintro r9 μ1 z1 hz1 ⟨rfl, h31, C1, κ1, hQ1⟩
      have hQ1 := hQ1.thk 0
      rw [ro0 (p := (sp_looked σ2)) (ro_looked σ2 ) hW2.z] at hQ1
      refine v_st [.int ((sp_looked σ2).1)] rfl ?_
      refine v_top (nI (lkN σ1 (lwN v 4) b)) hlk ?_
      refine v_iconst 1 o dL_isBookSo_293 rfl ?_
      refine v_icmp_lt_n 351 o dL_isBookSo_294 (by decide) (by omega) (by decide) (fun c294 => absurd c294 (by omega)) (fun c294 => ?_)
      refine v_aload_n 0 o dL_isBookSo_297 rfl rfl ?_
      refine v_callV [] [] o dL_isBookSo_298 cw_L_134 im_X5_looked se_X5_looked cf5 hQ1.h0 (k_looked hl hQ1 ) rfl rfl ⟨Nat.le_of_ble_eq_true rfl, Nat.le_of_ble_eq_true rfl⟩ ⟨by show 300 + 0 + 0 ≤ 400; omega, by show 1800 + 0 + 0 ≤ 2400; omega⟩ (Nat.le_of_ble_eq_true rfl) ?_ (fun _ _ _ _ h => h.elim)
      rintro r9 μ2 z2 hz2 ⟨rfl, h31, C2, κ2, hQ2⟩
      have hQ2 := hQ2.thk 0
      rw [ro0 (p := (sp_looked σ2)) (ro_looked σ2 ) hW2.z] at hQ2
      refine v_st [.int ((sp_looked σ2).1)] rfl ?_
      refine v_top (nI (lkN σ1 (lwN v 4) b)) hlk ?_
      refine v_bipush 31 o dL_isBookSo_301 (by decide) ?_
      refine v_icmp_gt_n 351 o dL_isBookSo_303 (by decide) (by omega) (by decide) (fun c303 => absurd c303 (by omega)) (fun c303 => ?_)
      refine v_iload 6 o dL_isBookSo_306 rfl ?_
      refine v_if_le_n 315 o dL_isBookSo_308 (by decide) (by omega) (fun c308 => absurd c308 (by omega)) (fun c308 => ?_)
      refine v_iconst 1 o dL_isBookSo_311 rfl ?_
      refine v_goto 316 o dL_isBookSo_312 (by decide) ?_
      refine v_aload_n 0 o dL_isBookSo_316 rfl rfl ?_
      refine v_callV [] [.int (nI 1)] o dL_isBookSo_317 cw_L_134 im_X5_looked se_X5_looked cf5 hQ2.h0 (k_looked hl hQ2 ) rfl rfl ⟨Nat.le_of_ble_eq_true rfl, Nat.le_of_ble_eq_true rfl⟩ ⟨by show 300 + 0 + 0 + 0 ≤ 400; omega, by show 1800 + 0 + 0 + 0 ≤ 2400; omega⟩ (Nat.le_of_ble_eq_true rfl) ?_ (fun _ _ _ _ h => h.elim)
      rintro r9 μ3 z3 hz3 ⟨rfl, h31, C3, κ3, hQ3⟩
      have hQ3 := hQ3.thk 0
      rw [ro0 (p := (sp_looked σ2)) (ro_looked σ2 ) hW2.z] at hQ3
      refine v_st [.int ((sp_looked σ2).1), .int (nI 1)] rfl ?_
      refine v_top (nI (lkN σ1 (lwN v 4) b)) hlk ?_
      refine v_iconst 1 o dL_isBookSo_320 rfl ?_
      refine v_icmp_le_n 328 o dL_isBookSo_321 (by decide) (by omega) (by decide) (fun c321 => absurd c321 (by omega)) (fun c321 => ?_)
      refine v_iconst 1 o dL_isBookSo_324 rfl ?_
      refine v_goto 329 o dL_isBookSo_325 (by decide) ?_
      refine v_icmp_ne_n 351 o dL_isBookSo_329 (by decide) (by decide) (by decide) (fun c329 => absurd c329 (by omega)) (fun c329 => ?_)
      refine v_iload 5 o dL_isBookSo_332 rfl ?_
      refine v_if_lt 347 o dL_isBookSo_334 (by decide) (fun c334 => ?_) (fun c334 => absurd c334 (not_not_intro hc))
      refine v_iconst 1 o dL_isBookSo_347 rfl ?_
      refine v_goto 352 o dL_isBookSo_348 (by decide) ?_
      exact v_zret o dL_isBookSo_352 hr (by decide) (Nat.le_of_ble_eq_true rfl) (Nat.le_of_ble_eq_true rfl) ⟨rfl, σ2, _, _, hW2, hn2, hQ3⟩
    · refine v_iload_n 3 o dL_isBookSo_285 rfl rfl ?_
      refine v_if_eq_n 351 o dL_isBookSo_286 (by decide) (by decide) (fun c286 => absurd c286 (by decide)) (fun c286 => ?_)
      refine v_aload_n 0 o dL_isBookSo_289 rfl rfl ?_
      refine v_callV [] [] o dL_isBookSo_290 cw_L_134 im_X5_looked se_X5_looked cf5 hRq.h0 (k_looked hl hRq ) rfl rfl ⟨Nat.le_of_ble_eq_true rfl, Nat.le_of_ble_eq_true rfl⟩ ⟨by show 300 + 0 ≤ 400; omega, by show 1800 + 0 ≤ 2400; omega⟩ (Nat.le_of_ble_eq_true rfl) ?_ (fun _ _ _ _ h => h.elim)
      rintro r9 μ4 z4 hz4 ⟨rfl, h31, C4, κ4, hQ4⟩
      have hQ4 := hQ4.thk 0
      rw [ro0 (p := (sp_looked σ2)) (ro_looked σ2 ) hW2.z] at hQ4
      refine v_st [.int ((sp_looked σ2).1)] rfl ?_
      refine v_top (nI (lkN σ1 (lwN v 4) b)) hlk ?_
      refine v_iconst 1 o dL_isBookSo_293 rfl ?_
      refine v_icmp_lt_n 351 o dL_isBookSo_294 (by decide) (by omega) (by decide) (fun c294 => absurd c294 (by omega)) (fun c294 => ?_)
      refine v_aload_n 0 o dL_isBookSo_297 rfl rfl ?_
      refine v_callV [] [] o dL_isBookSo_298 cw_L_134 im_X5_looked se_X5_looked cf5 hQ4.h0 (k_looked hl hQ4 ) rfl rfl ⟨Nat.le_of_ble_eq_true rfl, Nat.le_of_ble_eq_true rfl⟩ ⟨by show 300 + 0 + 0 ≤ 400; omega, by show 1800 + 0 + 0 ≤ 2400; omega⟩ (Nat.le_of_ble_eq_true rfl) ?_ (fun _ _ _ _ h => h.elim)
      rintro r9 μ5 z5 hz5 ⟨rfl, h31, C5, κ5, hQ5⟩
      have hQ5 := hQ5.thk 0
      rw [ro0 (p := (sp_looked σ2)) (ro_looked σ2 ) hW2.z] at hQ5
      refine v_st [.int ((sp_looked σ2).1)] rfl ?_
      refine v_top (nI (lkN σ1 (lwN v 4) b)) hlk ?_
      refine v_bipush 31 o dL_isBookSo_301 (by decide) ?_
      refine v_icmp_gt_n 351 o dL_isBookSo_303 (by decide) (by omega) (by decide) (fun c303 => absurd c303 (by omega)) (fun c303 => ?_)
      refine v_iload 6 o dL_isBookSo_306 rfl ?_
      refine v_if_le_n 315 o dL_isBookSo_308 (by decide) (by omega) (fun c308 => absurd c308 (by omega)) (fun c308 => ?_)
      refine v_iconst 1 o dL_isBookSo_311 rfl ?_
      refine v_goto 316 o dL_isBookSo_312 (by decide) ?_
      refine v_aload_n 0 o dL_isBookSo_316 rfl rfl ?_
      refine v_callV [] [.int (nI 1)] o dL_isBookSo_317 cw_L_134 im_X5_looked se_X5_looked cf5 hQ5.h0 (k_looked hl hQ5 ) rfl rfl ⟨Nat.le_of_ble_eq_true rfl, Nat.le_of_ble_eq_true rfl⟩ ⟨by show 300 + 0 + 0 + 0 ≤ 400; omega, by show 1800 + 0 + 0 + 0 ≤ 2400; omega⟩ (Nat.le_of_ble_eq_true rfl) ?_ (fun _ _ _ _ h => h.elim)
      rintro r9 μ6 z6 hz6 ⟨rfl, h31, C6, κ6, hQ6⟩
      have hQ6 := hQ6.thk 0
      rw [ro0 (p := (sp_looked σ2)) (ro_looked σ2 ) hW2.z] at hQ6
      refine v_st [.int ((sp_looked σ2).1), .int (nI 1)] rfl ?_
      refine v_top (nI (lkN σ1 (lwN v 4) b)) hlk ?_
      refine v_iconst 1 o dL_isBookSo_320 rfl ?_
      refine v_icmp_le_n 328 o dL_isBookSo_321 (by decide) (by omega) (by decide) (fun c321 => absurd c321 (by omega)) (fun c321 => ?_)
      refine v_iconst 1 o dL_isBookSo_324 rfl ?_
      refine v_goto 329 o dL_isBookSo_325 (by decide) ?_
      refine v_icmp_ne_n 351 o dL_isBookSo_329 (by decide) (by decide) (by decide) (fun c329 => absurd c329 (by omega)) (fun c329 => ?_)
      refine v_iload 5 o dL_isBookSo_332 rfl ?_
      refine v_if_lt 347 o dL_isBookSo_334 (by decide) (fun c334 => absurd c334 hc) (fun c334 => ?_)
      refine v_aload_n 0 o dL_isBookSo_337 rfl rfl ?_
      refine v_iload 4 o dL_isBookSo_338 rfl ?_
      refine v_iload_n 1 o dL_isBookSo_340 rfl rfl ?_
      refine v_callSW [.ref x, .int (nI (lwN v 4)), .int (nI b)] [] o dL_isBookSo_341 cwh_L_149 (l_mend hl hQ6 hW2.I (nI (lwN v 4)) (nI b)) rfl rfl ⟨Nat.le_of_ble_eq_true rfl, Nat.le_of_ble_eq_true rfl⟩ ⟨by show 300 + 0 + 0 + 0 + 1 ≤ 400; omega, by show 1800 + 0 + 0 + 0 + 6 ≤ 2400; omega⟩ (Nat.le_of_ble_eq_true rfl) ?_ (fun _ _ _ _ h => h.elim)
      rintro r9 μ7 z7 hz7 ⟨rfl, C7, κ7, hQ7⟩
      rw [e3] at hQ7
      refine v_st [.int (wa (sp_mend σ2 (nI (lwN v 4)) (nI b)))] rfl ?_
      refine v_if_ne 351 o dL_isBookSo_344 (by decide) (fun c344 => absurd c344 (not_not_intro hm2)) (fun c344 => ?_)
      refine v_iconst 1 o dL_isBookSo_347 rfl ?_
      refine v_goto 352 o dL_isBookSo_348 (by decide) ?_
      exact v_zret o dL_isBookSo_352 hr (by decide) (Nat.le_of_ble_eq_true rfl) (Nat.le_of_ble_eq_true rfl) ⟨rfl, σ3, _, _, hW3, hn3, hQ7⟩
    · refine v_iload_n 3 o dL_isBookSo_285 rfl rfl ?_
      refine v_if_eq_n 351 o dL_isBookSo_286 (by decide) (by decide) (fun c286 => absurd c286 (by decide)) (fun c286 => ?_)
      refine v_aload_n 0 o dL_isBookSo_289 rfl rfl ?_
      refine v_callV [] [] o dL_isBookSo_290 cw_L_134 im_X5_looked se_X5_looked cf5 hRq.h0 (k_looked hl hRq ) rfl rfl ⟨Nat.le_of_ble_eq_true rfl, Nat.le_of_ble_eq_true rfl⟩ ⟨by show 300 + 0 ≤ 400; omega, by show 1800 + 0 ≤ 2400; omega⟩ (Nat.le_of_ble_eq_true rfl) ?_ (fun _ _ _ _ h => h.elim)
      rintro r9 μ8 z8 hz8 ⟨rfl, h31, C8, κ8, hQ8⟩
      have hQ8 := hQ8.thk 0
      rw [ro0 (p := (sp_looked σ2)) (ro_looked σ2 ) hW2.z] at hQ8
      refine v_st [.int ((sp_looked σ2).1)] rfl ?_
      refine v_top (nI (lkN σ1 (lwN v 4) b)) hlk ?_
      refine v_iconst 1 o dL_isBookSo_293 rfl ?_
      refine v_icmp_lt_n 351 o dL_isBookSo_294 (by decide) (by omega) (by decide) (fun c294 => absurd c294 (by omega)) (fun c294 => ?_)
      refine v_aload_n 0 o dL_isBookSo_297 rfl rfl ?_
      refine v_callV [] [] o dL_isBookSo_298 cw_L_134 im_X5_looked se_X5_looked cf5 hQ8.h0 (k_looked hl hQ8 ) rfl rfl ⟨Nat.le_of_ble_eq_true rfl, Nat.le_of_ble_eq_true rfl⟩ ⟨by show 300 + 0 + 0 ≤ 400; omega, by show 1800 + 0 + 0 ≤ 2400; omega⟩ (Nat.le_of_ble_eq_true rfl) ?_ (fun _ _ _ _ h => h.elim)
      rintro r9 μ9 z9 hz9 ⟨rfl, h31, C9, κ9, hQ9⟩
      have hQ9 := hQ9.thk 0
      rw [ro0 (p := (sp_looked σ2)) (ro_looked σ2 ) hW2.z] at hQ9
      refine v_st [.int ((sp_looked σ2).1)] rfl ?_
      refine v_top (nI (lkN σ1 (lwN v 4) b)) hlk ?_
      refine v_bipush 31 o dL_isBookSo_301 (by decide) ?_
      refine v_icmp_gt_n 351 o dL_isBookSo_303 (by decide) (by omega) (by decide) (fun c303 => absurd c303 (by omega)) (fun c303 => ?_)
      refine v_iload 6 o dL_isBookSo_306 rfl ?_
      refine v_if_le_n 315 o dL_isBookSo_308 (by decide) (by omega) (fun c308 => ?_) (fun c308 => absurd c308 (by omega))
      refine v_iconst 0 o dL_isBookSo_315 rfl ?_
      refine v_aload_n 0 o dL_isBookSo_316 rfl rfl ?_
      refine v_callV [] [.int (nI 0)] o dL_isBookSo_317 cw_L_134 im_X5_looked se_X5_looked cf5 hQ9.h0 (k_looked hl hQ9 ) rfl rfl ⟨Nat.le_of_ble_eq_true rfl, Nat.le_of_ble_eq_true rfl⟩ ⟨by show 300 + 0 + 0 + 0 ≤ 400; omega, by show 1800 + 0 + 0 + 0 ≤ 2400; omega⟩ (Nat.le_of_ble_eq_true rfl) ?_ (fun _ _ _ _ h => h.elim)
      rintro r9 μ10 z10 hz10 ⟨rfl, h31, C10, κ10, hQ10⟩
      have hQ10 := hQ10.thk 0
      rw [ro0 (p := (sp_looked σ2)) (ro_looked σ2 ) hW2.z] at hQ10
      refine v_st [.int ((sp_looked σ2).1), .int (nI 0)] rfl ?_
      refine v_top (nI (lkN σ1 (lwN v 4) b)) hlk ?_
      refine v_iconst 1 o dL_isBookSo_320 rfl ?_
      refine v_icmp_le_n 328 o dL_isBookSo_321 (by decide) (by omega) (by decide) (fun c321 => ?_) (fun c321 => absurd c321 (by omega))
      refine v_iconst 0 o dL_isBookSo_328 rfl ?_
      refine v_icmp_ne_n 351 o dL_isBookSo_329 (by decide) (by decide) (by decide) (fun c329 => absurd c329 (by omega)) (fun c329 => ?_)
      refine v_iload 5 o dL_isBookSo_332 rfl ?_
      refine v_if_lt 347 o dL_isBookSo_334 (by decide) (fun c334 => ?_) (fun c334 => absurd c334 (not_not_intro hc))
      refine v_iconst 1 o dL_isBookSo_347 rfl ?_
      refine v_goto 352 o dL_isBookSo_348 (by decide) ?_
      exact v_zret o dL_isBookSo_352 hr (by decide) (Nat.le_of_ble_eq_true rfl) (Nat.le_of_ble_eq_true rfl) ⟨rfl, σ2, _, _, hW2, hn2, hQ10⟩
    · refine v_iload_n 3 o dL_isBookSo_285 rfl rfl ?_
      refine v_if_eq_n 351 o dL_isBookSo_286 (by decide) (by decide) (fun c286 => absurd c286 (by decide)) (fun c286 => ?_)
      refine v_aload_n 0 o dL_isBookSo_289 rfl rfl ?_
      refine v_callV [] [] o dL_isBookSo_290 cw_L_134 im_X5_looked se_X5_looked cf5 hRq.h0 (k_looked hl hRq ) rfl rfl ⟨Nat.le_of_ble_eq_true rfl, Nat.le_of_ble_eq_true rfl⟩ ⟨by show 300 + 0 ≤ 400; omega, by show 1800 + 0 ≤ 2400; omega⟩ (Nat.le_of_ble_eq_true rfl) ?_ (fun _ _ _ _ h => h.elim)
      rintro r9 μ11 z11 hz11 ⟨rfl, h31, C11, κ11, hQ11⟩
      have hQ11 := hQ11.thk 0
      rw [ro0 (p := (sp_looked σ2)) (ro_looked σ2 ) hW2.z] at hQ11
      refine v_st [.int ((sp_looked σ2).1)] rfl ?_
      refine v_top (nI (lkN σ1 (lwN v 4) b)) hlk ?_
      refine v_iconst 1 o dL_isBookSo_293 rfl ?_
      refine v_icmp_lt_n 351 o dL_isBookSo_294 (by decide) (by omega) (by decide) (fun c294 => absurd c294 (by omega)) (fun c294 => ?_)
      refine v_aload_n 0 o dL_isBookSo_297 rfl rfl ?_
      refine v_callV [] [] o dL_isBookSo_298 cw_L_134 im_X5_looked se_X5_looked cf5 hQ11.h0 (k_looked hl hQ11 ) rfl rfl ⟨Nat.le_of_ble_eq_true rfl, Nat.le_of_ble_eq_true rfl⟩ ⟨by show 300 + 0 + 0 ≤ 400; omega, by show 1800 + 0 + 0 ≤ 2400; omega⟩ (Nat.le_of_ble_eq_true rfl) ?_ (fun _ _ _ _ h => h.elim)
      rintro r9 μ12 z12 hz12 ⟨rfl, h31, C12, κ12, hQ12⟩
      have hQ12 := hQ12.thk 0
      rw [ro0 (p := (sp_looked σ2)) (ro_looked σ2 ) hW2.z] at hQ12
      refine v_st [.int ((sp_looked σ2).1)] rfl ?_
      refine v_top (nI (lkN σ1 (lwN v 4) b)) hlk ?_
      refine v_bipush 31 o dL_isBookSo_301 (by decide) ?_
      refine v_icmp_gt_n 351 o dL_isBookSo_303 (by decide) (by omega) (by decide) (fun c303 => absurd c303 (by omega)) (fun c303 => ?_)
      refine v_iload 6 o dL_isBookSo_306 rfl ?_
      refine v_if_le_n 315 o dL_isBookSo_308 (by decide) (by omega) (fun c308 => ?_) (fun c308 => absurd c308 (by omega))
      refine v_iconst 0 o dL_isBookSo_315 rfl ?_
      refine v_aload_n 0 o dL_isBookSo_316 rfl rfl ?_
      refine v_callV [] [.int (nI 0)] o dL_isBookSo_317 cw_L_134 im_X5_looked se_X5_looked cf5 hQ12.h0 (k_looked hl hQ12 ) rfl rfl ⟨Nat.le_of_ble_eq_true rfl, Nat.le_of_ble_eq_true rfl⟩ ⟨by show 300 + 0 + 0 + 0 ≤ 400; omega, by show 1800 + 0 + 0 + 0 ≤ 2400; omega⟩ (Nat.le_of_ble_eq_true rfl) ?_ (fun _ _ _ _ h => h.elim)
      rintro r9 μ13 z13 hz13 ⟨rfl, h31, C13, κ13, hQ13⟩
      have hQ13 := hQ13.thk 0
      rw [ro0 (p := (sp_looked σ2)) (ro_looked σ2 ) hW2.z] at hQ13
      refine v_st [.int ((sp_looked σ2).1), .int (nI 0)] rfl ?_
      refine v_top (nI (lkN σ1 (lwN v 4) b)) hlk ?_
      refine v_iconst 1 o dL_isBookSo_320 rfl ?_
      refine v_icmp_le_n 328 o dL_isBookSo_321 (by decide) (by omega) (by decide) (fun c321 => ?_) (fun c321 => absurd c321 (by omega))
      refine v_iconst 0 o dL_isBookSo_328 rfl ?_
      refine v_icmp_ne_n 351 o dL_isBookSo_329 (by decide) (by decide) (by decide) (fun c329 => absurd c329 (by omega)) (fun c329 => ?_)
      refine v_iload 5 o dL_isBookSo_332 rfl ?_
      refine v_if_lt 347 o dL_isBookSo_334 (by decide) (fun c334 => absurd c334 hc) (fun c334 => ?_)
      refine v_aload_n 0 o dL_isBookSo_337 rfl rfl ?_
      refine v_iload 4 o dL_isBookSo_338 rfl ?_
      refine v_iload_n 1 o dL_isBookSo_340 rfl rfl ?_
      refine v_callSW [.ref x, .int (nI (lwN v 4)), .int (nI b)] [] o dL_isBookSo_341 cwh_L_149 (l_mend hl hQ13 hW2.I (nI (lwN v 4)) (nI b)) rfl rfl ⟨Nat.le_of_ble_eq_true rfl, Nat.le_of_ble_eq_true rfl⟩ ⟨by show 300 + 0 + 0 + 0 + 1 ≤ 400; omega, by show 1800 + 0 + 0 + 0 + 6 ≤ 2400; omega⟩ (Nat.le_of_ble_eq_true rfl) ?_ (fun _ _ _ _ h => h.elim)
      rintro r9 μ14 z14 hz14 ⟨rfl, C14, κ14, hQ14⟩
      rw [e3] at hQ14
      refine v_st [.int (wa (sp_mend σ2 (nI (lwN v 4)) (nI b)))] rfl ?_
      refine v_if_ne 351 o dL_isBookSo_344 (by decide) (fun c344 => absurd c344 (not_not_intro hm2)) (fun c344 => ?_)
      refine v_iconst 1 o dL_isBookSo_347 rfl ?_
      refine v_goto 352 o dL_isBookSo_348 (by decide) ?_
      exact v_zret o dL_isBookSo_352 hr (by decide) (Nat.le_of_ble_eq_true rfl) (Nat.le_of_ble_eq_true rfl) ⟨rfl, σ3, _, _, hW3, hn3, hQ14⟩
  have L2 : ∀ (d k : Nat) (μq : mM) (zq : Nat) (Bq : Nat → Nat) (τq : Sg), k + d = 12 → RC g x Bq z0 μ0 σ2 τq μq → V p l e { frames := 11, cells := 400, slots := 2400, locals := 267 } s mi args below meth c (vx_MQ below (cQc g (fun r μ' z' => r = some (.int 1) ∧ ∃ σ' B' τ', JW σ' ∧ σ'.1 3 0 = σ.1 3 0 ∧ RC g x B' z0 μ0 σ' τ' μ')) (cXC g noX) args s ({ frames := 11, cells := 400, slots := 2400, locals := 267 } : Room).cells ({ frames := 11, cells := 400, slots := 2400, locals := 267 } : Room).slots (gA g)) g μq zq (200 + 5 * k) (1200 + 30 * k) 236 [(0, .ref x), (1, .int (nI b)), (2, .int v), (3, .int (nI 1)), (4, .int (nI (lwN v 4))), (5, .int (wa (sp_mend σ (nI (lwN v 4)) (nI b)))), (6, .int (nI (tldN σ1 (lwN v 4) b))), (7, .int (nI k))] [] := by
    intro d
    induction d with
    | zero =>
      intro k μq zq Bq τq hk hRq
      obtain rfl : k = 12 := by omega
      refine v_iload 7 o dL_isBookSo_236 rfl ?_
      refine v_bipush 12 o dL_isBookSo_238 (by decide) ?_
      refine v_icmp_ge_n 285 o dL_isBookSo_240 (by decide) (by decide) (by decide) (fun c240 => ?_) (fun c240 => absurd c240 (by omega))
      exact v_widen 300 1800 (Nat.le_of_ble_eq_true rfl) (Nat.le_of_ble_eq_true rfl) (K285 _ _ _ _ hRq)
    | succ d ih =>
      intro k μq zq Bq τq hk hRq
      have hk12 : k < 12 := by omega
      rcases hcase with hc | ⟨hc, hm2, hbit⟩
      · refine v_iload 7 o dL_isBookSo_236 rfl ?_
        refine v_bipush 12 o dL_isBookSo_238 (by decide) ?_
        refine v_icmp_ge_n 285 o dL_isBookSo_240 (by decide) (by omega) (by decide) (fun c240 => absurd c240 (by omega)) (fun c240 => ?_)
        refine v_iload_n 3 o dL_isBookSo_243 rfl rfl ?_
        refine v_if_eq_n 285 o dL_isBookSo_244 (by decide) (by decide) (fun c244 => absurd c244 (by decide)) (fun c244 => ?_)
        refine v_iload 5 o dL_isBookSo_247 rfl ?_
        refine v_if_lt 273 o dL_isBookSo_249 (by decide) (fun c249 => ?_) (fun c249 => absurd c249 (not_not_intro hc))
        refine v_iconst 1 o dL_isBookSo_273 rfl ?_
        refine v_goto 278 o dL_isBookSo_274 (by decide) ?_
        refine v_istore_n [(3, .int (nI 1)), (0, .ref x), (1, .int (nI b)), (2, .int v), (4, .int (nI (lwN v 4))), (5, .int (wa (sp_mend σ (nI (lwN v 4)) (nI b)))), (6, .int (nI (tldN σ1 (lwN v 4) b))), (7, .int (nI k))] o dL_isBookSo_278 rfl (by decide) rfl ?_
        refine v_iinc (nI (k + 1)) [(7, .int (nI (k + 1))), (3, .int (nI 1)), (0, .ref x), (1, .int (nI b)), (2, .int v), (4, .int (nI (lwN v 4))), (5, .int (wa (sp_mend σ (nI (lwN v 4)) (nI b)))), (6, .int (nI (tldN σ1 (lwN v 4) b)))] o dL_isBookSo_279 7 rfl (iinc_n k 1) (by decide) rfl ?_
        refine v_goto 236 o dL_isBookSo_282 (by decide) ?_
        refine v_sub [(0, .ref x), (1, .int (nI b)), (2, .int v), (3, .int (nI 1)), (4, .int (nI (lwN v 4))), (5, .int (wa (sp_mend σ (nI (lwN v 4)) (nI b)))), (6, .int (nI (tldN σ1 (lwN v 4) b))), (7, .int (nI (k + 1)))] [2, 3, 4, 1, 5, 6, 7, 0] rfl ?_
        exact v_widen (200 + 5 * (k + 1)) (1200 + 30 * (k + 1)) (by show (200 + 5 * k) ≤ 200 + 5 * (k + 1); omega) (by show (1200 + 30 * k) ≤ 1200 + 30 * (k + 1); omega) (ih (k + 1) _ _ _ _ (by omega) hRq)
      · rcases hbit k hk12 with hz | ⟨hz, hlo⟩
        · refine v_iload 7 o dL_isBookSo_236 rfl ?_
          refine v_bipush 12 o dL_isBookSo_238 (by decide) ?_
          refine v_icmp_ge_n 285 o dL_isBookSo_240 (by decide) (by omega) (by decide) (fun c240 => absurd c240 (by omega)) (fun c240 => ?_)
          refine v_iload_n 3 o dL_isBookSo_243 rfl rfl ?_
          refine v_if_eq_n 285 o dL_isBookSo_244 (by decide) (by decide) (fun c244 => absurd c244 (by decide)) (fun c244 => ?_)
          refine v_iload 5 o dL_isBookSo_247 rfl ?_
          refine v_if_lt 273 o dL_isBookSo_249 (by decide) (fun c249 => absurd c249 hc) (fun c249 => ?_)
          refine v_iload 6 o dL_isBookSo_252 rfl ?_
          refine v_iload 7 o dL_isBookSo_254 rfl ?_
          refine v_ishr ((nI (tldN σ1 (lwN v 4) b)) >>> ((nI k) &&& 31)) o dL_isBookSo_256 rfl ?_
          refine v_iconst 1 o dL_isBookSo_257 rfl ?_
          refine v_iand (((nI (tldN σ1 (lwN v 4) b)) >>> ((nI k) &&& 31)) &&& (nI 1)) o dL_isBookSo_258 rfl ?_
          refine v_if_eq 273 o dL_isBookSo_259 (by decide) (fun c259 => ?_) (fun c259 => absurd c259 (not_not_intro hz))
          refine v_iconst 1 o dL_isBookSo_273 rfl ?_
          refine v_goto 278 o dL_isBookSo_274 (by decide) ?_
          refine v_istore_n [(3, .int (nI 1)), (0, .ref x), (1, .int (nI b)), (2, .int v), (4, .int (nI (lwN v 4))), (5, .int (wa (sp_mend σ (nI (lwN v 4)) (nI b)))), (6, .int (nI (tldN σ1 (lwN v 4) b))), (7, .int (nI k))] o dL_isBookSo_278 rfl (by decide) rfl ?_
          refine v_iinc (nI (k + 1)) [(7, .int (nI (k + 1))), (3, .int (nI 1)), (0, .ref x), (1, .int (nI b)), (2, .int v), (4, .int (nI (lwN v 4))), (5, .int (wa (sp_mend σ (nI (lwN v 4)) (nI b)))), (6, .int (nI (tldN σ1 (lwN v 4) b)))] o dL_isBookSo_279 7 rfl (iinc_n k 1) (by decide) rfl ?_
          refine v_goto 236 o dL_isBookSo_282 (by decide) ?_
          refine v_sub [(0, .ref x), (1, .int (nI b)), (2, .int v), (3, .int (nI 1)), (4, .int (nI (lwN v 4))), (5, .int (wa (sp_mend σ (nI (lwN v 4)) (nI b)))), (6, .int (nI (tldN σ1 (lwN v 4) b))), (7, .int (nI (k + 1)))] [2, 3, 4, 1, 5, 6, 7, 0] rfl ?_
          exact v_widen (200 + 5 * (k + 1)) (1200 + 30 * (k + 1)) (by show (200 + 5 * k) ≤ 200 + 5 * (k + 1); omega) (by show (1200 + 30 * k) ≤ 1200 + 30 * (k + 1); omega) (ih (k + 1) _ _ _ _ (by omega) hRq)
        · refine v_iload 7 o dL_isBookSo_236 rfl ?_
          refine v_bipush 12 o dL_isBookSo_238 (by decide) ?_
          refine v_icmp_ge_n 285 o dL_isBookSo_240 (by decide) (by omega) (by decide) (fun c240 => absurd c240 (by omega)) (fun c240 => ?_)
          refine v_iload_n 3 o dL_isBookSo_243 rfl rfl ?_
          refine v_if_eq_n 285 o dL_isBookSo_244 (by decide) (by decide) (fun c244 => absurd c244 (by decide)) (fun c244 => ?_)
          refine v_iload 5 o dL_isBookSo_247 rfl ?_
          refine v_if_lt 273 o dL_isBookSo_249 (by decide) (fun c249 => absurd c249 hc) (fun c249 => ?_)
          refine v_iload 6 o dL_isBookSo_252 rfl ?_
          refine v_iload 7 o dL_isBookSo_254 rfl ?_
          refine v_ishr ((nI (tldN σ1 (lwN v 4) b)) >>> ((nI k) &&& 31)) o dL_isBookSo_256 rfl ?_
          refine v_iconst 1 o dL_isBookSo_257 rfl ?_
          refine v_iand (((nI (tldN σ1 (lwN v 4) b)) >>> ((nI k) &&& 31)) &&& (nI 1)) o dL_isBookSo_258 rfl ?_
          refine v_if_eq 273 o dL_isBookSo_259 (by decide) (fun c259 => absurd c259 hz) (fun c259 => ?_)
          refine v_aload_n 0 o dL_isBookSo_262 rfl rfl ?_
          refine v_iload_n 1 o dL_isBookSo_263 rfl rfl ?_
          refine v_iload 7 o dL_isBookSo_264 rfl ?_
          refine v_callSW [.ref x, .int (nI b), .int (nI k)] [] o dL_isBookSo_266 cwh_L_154 (l_isLost hl hRq hW2.I (nI b) (nI k)) rfl rfl ⟨Nat.le_of_ble_eq_true rfl, Nat.le_of_ble_eq_true rfl⟩ ⟨by show (200 + 5 * k) + 1 ≤ 400; omega, by show (1200 + 30 * k) + 6 ≤ 2400; omega⟩ (Nat.le_of_ble_eq_true rfl) ?_ (fun _ _ _ _ h => h.elim)
          rintro r9 μ15 z15 hz15 ⟨rfl, C15, κ15, hQ15⟩
          rw [ro0 (p := (sp_isLost σ2 (nI b) (nI k))) (ro_isLost σ2 (nI b) (nI k)) hW2.z] at hQ15
          refine v_st [.int (wa (sp_isLost σ2 (nI b) (nI k)))] rfl ?_
          refine v_iconst 1 o dL_isBookSo_269 rfl ?_
          refine v_icmp_ne 277 o dL_isBookSo_270 (by decide) (fun c270 => absurd c270 (not_not_intro hlo)) (fun c270 => ?_)
          refine v_iconst 1 o dL_isBookSo_273 rfl ?_
          refine v_goto 278 o dL_isBookSo_274 (by decide) ?_
          refine v_istore_n [(3, .int (nI 1)), (0, .ref x), (1, .int (nI b)), (2, .int v), (4, .int (nI (lwN v 4))), (5, .int (wa (sp_mend σ (nI (lwN v 4)) (nI b)))), (6, .int (nI (tldN σ1 (lwN v 4) b))), (7, .int (nI k))] o dL_isBookSo_278 rfl (by decide) rfl ?_
          refine v_iinc (nI (k + 1)) [(7, .int (nI (k + 1))), (3, .int (nI 1)), (0, .ref x), (1, .int (nI b)), (2, .int v), (4, .int (nI (lwN v 4))), (5, .int (wa (sp_mend σ (nI (lwN v 4)) (nI b)))), (6, .int (nI (tldN σ1 (lwN v 4) b)))] o dL_isBookSo_279 7 rfl (iinc_n k 1) (by decide) rfl ?_
          refine v_goto 236 o dL_isBookSo_282 (by decide) ?_
          refine v_sub [(0, .ref x), (1, .int (nI b)), (2, .int v), (3, .int (nI 1)), (4, .int (nI (lwN v 4))), (5, .int (wa (sp_mend σ (nI (lwN v 4)) (nI b)))), (6, .int (nI (tldN σ1 (lwN v 4) b))), (7, .int (nI (k + 1)))] [2, 3, 4, 1, 5, 6, 7, 0] rfl ?_
          exact v_widen (200 + 5 * (k + 1)) (1200 + 30 * (k + 1)) (by show (200 + 5 * k) + 1 ≤ 200 + 5 * (k + 1); omega) (by show (1200 + 30 * k) + 6 ≤ 1200 + 30 * (k + 1); omega) (ih (k + 1) _ _ _ _ (by omega) hQ15)
  have K215 : ∀ (μq : mM) (zq : Nat) (Bq : Nat → Nat) (τq : Sg), RC g x Bq z0 μ0 σ τq μq → V p l e { frames := 11, cells := 400, slots := 2400, locals := 267 } s mi args below meth c (vx_MQ below (cQc g (fun r μ' z' => r = some (.int 1) ∧ ∃ σ' B' τ', JW σ' ∧ σ'.1 3 0 = σ.1 3 0 ∧ RC g x B' z0 μ0 σ' τ' μ')) (cXC g noX) args s ({ frames := 11, cells := 400, slots := 2400, locals := 267 } : Room).cells ({ frames := 11, cells := 400, slots := 2400, locals := 267 } : Room).slots (gA g)) g μq zq 190 1140 215 [(0, .ref x), (1, .int (nI b)), (2, .int v), (3, .int (nI 1)), (4, .int (nI (lwN v 4))), (5, .int (nI 12))] [] := by
    intro μq zq Bq τq hRq
    refine v_aload_n 0 o dL_isBookSo_215 rfl rfl ?_
    refine v_iload 4 o dL_isBookSo_216 rfl ?_
    refine v_iload_n 1 o dL_isBookSo_218 rfl rfl ?_
    refine v_callSW [.ref x, .int (nI (lwN v 4)), .int (nI b)] [] o dL_isBookSo_219 cwh_L_149 (l_mend hl hRq hW.I (nI (lwN v 4)) (nI b)) rfl rfl ⟨Nat.le_of_ble_eq_true rfl, Nat.le_of_ble_eq_true rfl⟩ ⟨by show 190 + 1 ≤ 400; omega, by show 1140 + 6 ≤ 2400; omega⟩ (Nat.le_of_ble_eq_true rfl) ?_ (fun _ _ _ _ h => h.elim)
    rintro r9 μ16 z16 hz16 ⟨rfl, C16, κ16, hQ16⟩
    rw [e1] at hQ16
    refine v_st [.int (wa (sp_mend σ (nI (lwN v 4)) (nI b)))] rfl ?_
    refine v_istore [(5, .int (wa (sp_mend σ (nI (lwN v 4)) (nI b)))), (0, .ref x), (1, .int (nI b)), (2, .int v), (3, .int (nI 1)), (4, .int (nI (lwN v 4)))] o dL_isBookSo_222 (by decide) rfl ?_
    refine v_aload_n 1 o dL_isBookSo_224 rfl rfl ?_
    refine v_iload 5 o dL_isBookSo_225 rfl ?_
    refine v_iload_n 2 o dL_isBookSo_227 rfl rfl ?_
    refine v_callV [.int (nI (lwN v 4)), .int (nI b)] [] o dL_isBookSo_228 cw_L_41 im_X5_check se_X5_check cf5 hQ16.h0 (k_check hl hQ16 hW1.I (nI (lwN v 4)) (nI b)) rfl rfl ⟨Nat.le_of_ble_eq_true rfl, Nat.le_of_ble_eq_true rfl⟩ ⟨by show 190 + 1 + 1 ≤ 400; omega, by show 1140 + 6 + 6 ≤ 2400; omega⟩ (Nat.le_of_ble_eq_true rfl) ?_ (fun _ _ _ _ h => (clX_no h hnt).elim)
    rintro r9 μ17 z17 hz17 ⟨rfl, h31, C17, κ17, hQ17⟩
    have hQ17 := hQ17.thk 0
    rw [e2] at hQ17
    refine v_st [.int ((sp_check σ1 (nI (lwN v 4)) (nI b)).1)] rfl ?_
    refine v_top (nI (tldN σ1 (lwN v 4) b)) htd ?_
    refine v_istore [(6, .int (nI (tldN σ1 (lwN v 4) b))), (5, .int (wa (sp_mend σ (nI (lwN v 4)) (nI b)))), (0, .ref x), (1, .int (nI b)), (2, .int v), (3, .int (nI 1)), (4, .int (nI (lwN v 4)))] o dL_isBookSo_231 (by decide) rfl ?_
    refine v_iconst 0 o dL_isBookSo_233 rfl ?_
    refine v_istore [(7, .int (nI 0)), (6, .int (nI (tldN σ1 (lwN v 4) b))), (5, .int (wa (sp_mend σ (nI (lwN v 4)) (nI b)))), (0, .ref x), (1, .int (nI b)), (2, .int v), (3, .int (nI 1)), (4, .int (nI (lwN v 4)))] o dL_isBookSo_234 (by decide) rfl ?_
    refine v_sub [(0, .ref x), (1, .int (nI b)), (2, .int v), (3, .int (nI 1)), (4, .int (nI (lwN v 4))), (5, .int (wa (sp_mend σ (nI (lwN v 4)) (nI b)))), (6, .int (nI (tldN σ1 (lwN v 4) b))), (7, .int (nI 0))] [3, 4, 5, 6, 7, 2, 1, 0] rfl ?_
    exact v_widen 200 1200 (by show 190 + 1 + 1 ≤ 200; omega) (by show 1140 + 6 + 6 ≤ 1200; omega) (L2 12 0 _ _ _ _ (by omega) hQ17)
  have L1 : ∀ (d k : Nat) (μq : mM) (zq : Nat) (Bq : Nat → Nat) (τq : Sg), k + d = 12 → RC g x Bq z0 μ0 σ τq μq → V p l e { frames := 11, cells := 400, slots := 2400, locals := 267 } s mi args below meth c (vx_MQ below (cQc g (fun r μ' z' => r = some (.int 1) ∧ ∃ σ' B' τ', JW σ' ∧ σ'.1 3 0 = σ.1 3 0 ∧ RC g x B' z0 μ0 σ' τ' μ')) (cXC g noX) args s ({ frames := 11, cells := 400, slots := 2400, locals := 267 } : Room).cells ({ frames := 11, cells := 400, slots := 2400, locals := 267 } : Room).slots (gA g)) g μq zq (20 + 10 * k) (120 + 60 * k) 81 [(0, .ref x), (1, .int (nI b)), (2, .int v), (3, .int (nI 1)), (4, .int (nI (lwN v 4))), (5, .int (nI k))] [] := by
    intro d
    induction d with
    | zero =>
      intro k μq zq Bq τq hk hRq
      obtain rfl : k = 12 := by omega
      refine v_iload 5 o dL_isBookSo_81 rfl ?_
      refine v_bipush 12 o dL_isBookSo_83 (by decide) ?_
      refine v_icmp_ge_n 215 o dL_isBookSo_85 (by decide) (by decide) (by decide) (fun c85 => ?_) (fun c85 => absurd c85 (by omega))
      exact v_widen 190 1140 (Nat.le_of_ble_eq_true rfl) (Nat.le_of_ble_eq_true rfl) (K215 _ _ _ _ hRq)
    | succ d ih =>
      intro k μq zq Bq τq hk hRq
      have hk12 : k < 12 := by omega
      refine v_iload 5 o dL_isBookSo_81 rfl ?_
      refine v_bipush 12 o dL_isBookSo_83 (by decide) ?_
      refine v_icmp_ge_n 215 o dL_isBookSo_85 (by decide) (by omega) (by decide) (fun c85 => absurd c85 (by omega)) (fun c85 => ?_)
      refine v_iload_n 3 o dL_isBookSo_88 rfl rfl ?_
      refine v_if_eq_n 215 o dL_isBookSo_89 (by decide) (by decide) (fun c89 => absurd c89 (by decide)) (fun c89 => ?_)
      refine v_aload_n 0 o dL_isBookSo_92 rfl rfl ?_
      refine v_iload_n 1 o dL_isBookSo_93 rfl rfl ?_
      refine v_iload 5 o dL_isBookSo_94 rfl ?_
      refine v_callSW [.ref x, .int (nI b), .int (nI k)] [] o dL_isBookSo_96 cwh_L_154 (l_isLost hl hRq hW.I (nI b) (nI k)) rfl rfl ⟨Nat.le_of_ble_eq_true rfl, Nat.le_of_ble_eq_true rfl⟩ ⟨by show (20 + 10 * k) + 1 ≤ 400; omega, by show (120 + 60 * k) + 6 ≤ 2400; omega⟩ (Nat.le_of_ble_eq_true rfl) ?_ (fun _ _ _ _ h => h.elim)
      rintro r9 μ18 z18 hz18 ⟨rfl, C18, κ18, hQ18⟩
      rw [ro0 (p := (sp_isLost σ (nI b) (nI k))) (ro_isLost σ (nI b) (nI k)) hW.z] at hQ18
      refine v_st [.int (wa (sp_isLost σ (nI b) (nI k)))] rfl ?_
      refine v_istore [(6, .int (wa (sp_isLost σ (nI b) (nI k)))), (0, .ref x), (1, .int (nI b)), (2, .int v), (3, .int (nI 1)), (4, .int (nI (lwN v 4))), (5, .int (nI k))] o dL_isBookSo_99 (by decide) rfl ?_
      refine v_aload_n 1 o dL_isBookSo_101 rfl rfl ?_
      refine v_iload_n 2 o dL_isBookSo_102 rfl rfl ?_
      refine v_iload 6 o dL_isBookSo_103 rfl ?_
      refine v_iload_n 3 o dL_isBookSo_105 rfl rfl ?_
      refine v_iconst 4 o dL_isBookSo_106 rfl ?_
      refine v_callSr (v := .int (nI (lwN v 4))) [.int v, .int (nI 4)] [.int (nI k), .int (nI b), .ref x] o dL_isBookSo_107 cw_L_111 st_L_low (l_low hl v 4 (by decide) (by decide)) rfl rfl (by decide) ⟨rfl, rfl⟩ ⟨by show (20 + 10 * k) + 1 ≤ 400; omega, by show (120 + 60 * k) + 6 ≤ 2400; omega⟩ (Nat.le_of_ble_eq_true rfl) ?_
      refine v_callSW [.ref x, .int (nI b), .int (nI k), .int (nI (lwN v 4))] [] o dL_isBookSo_110 cwh_L_184 (l_whyNot hl hQ18 hW.I (nI b) (nI k) (nI (lwN v 4))) rfl rfl ⟨Nat.le_of_ble_eq_true rfl, Nat.le_of_ble_eq_true rfl⟩ ⟨by show (20 + 10 * k) + 1 + 1 ≤ 400; omega, by show (120 + 60 * k) + 6 + 6 ≤ 2400; omega⟩ (Nat.le_of_ble_eq_true rfl) ?_ (fun _ _ _ _ h => h.elim)
      rintro r9 μ19 z19 hz19 ⟨rfl, C19, κ19, hQ19⟩
      rw [ro0 (p := (sp_whyNot σ (nI b) (nI k) (nI (lwN v 4)))) (ro_whyNot σ (nI b) (nI k) (nI (lwN v 4))) hW.z] at hQ19
      refine v_st [.int (wa (sp_whyNot σ (nI b) (nI k) (nI (lwN v 4))))] rfl ?_
      refine v_istore [(7, .int (wa (sp_whyNot σ (nI b) (nI k) (nI (lwN v 4))))), (6, .int (wa (sp_isLost σ (nI b) (nI k)))), (0, .ref x), (1, .int (nI b)), (2, .int v), (3, .int (nI 1)), (4, .int (nI (lwN v 4))), (5, .int (nI k))] o dL_isBookSo_113 (by decide) rfl ?_
      rcases q_w hW hb hk12 hv4 with hw | ⟨hw1, hw2⟩ | ⟨hw1, w, hw3, hw4, hw2⟩ | ⟨hw1, w, hw3, hw2⟩
      · refine v_iload 1 o dL_isBookSo_115 rfl ?_
        refine v_if_lt 163 o dL_isBookSo_117 (by decide) (fun c117 => ?_) (fun c117 => absurd c117 (not_not_intro hw))
        refine v_iconst 1 o dL_isBookSo_163 rfl ?_
        refine v_goto 168 o dL_isBookSo_164 (by decide) ?_
        refine v_istore_n [(3, .int (nI 1)), (7, .int (wa (sp_whyNot σ (nI b) (nI k) (nI (lwN v 4))))), (6, .int (wa (sp_isLost σ (nI b) (nI k)))), (0, .ref x), (1, .int (nI b)), (2, .int v), (4, .int (nI (lwN v 4))), (5, .int (nI k))] o dL_isBookSo_168 rfl (by decide) rfl ?_
        refine v_iload_n 0 o dL_isBookSo_169 rfl rfl ?_
        refine v_if_eq_n 207 o dL_isBookSo_170 (by decide) (by decide) (fun c170 => absurd c170 (by decide)) (fun c170 => ?_)
        refine v_aload_n 3 o dL_isBookSo_173 rfl rfl ?_
        refine v_iload_n 4 o dL_isBookSo_174 rfl rfl ?_
        refine v_iload 7 o dL_isBookSo_175 rfl ?_
        refine v_callSW [.ref x, .int (nI b), .int (nI k)] [] o dL_isBookSo_177 cwh_L_158 (l_order hl hQ19 hW.I (nI b) (nI k)) rfl rfl ⟨Nat.le_of_ble_eq_true rfl, Nat.le_of_ble_eq_true rfl⟩ ⟨by show (20 + 10 * k) + 1 + 1 + 1 ≤ 400; omega, by show (120 + 60 * k) + 6 + 6 + 6 ≤ 2400; omega⟩ (Nat.le_of_ble_eq_true rfl) ?_ (fun _ _ _ _ h => h.elim)
        rintro r9 μ20 z20 hz20 ⟨rfl, C20, κ20, hQ20⟩
        rw [ro0 (p := (sp_order σ (nI b) (nI k))) (ro_order σ (nI b) (nI k)) hW.z] at hQ20
        refine v_st [.int (wa (sp_order σ (nI b) (nI k)))] rfl ?_
        refine v_aload_n 3 o dL_isBookSo_180 rfl rfl ?_
        refine v_iload_n 4 o dL_isBookSo_181 rfl rfl ?_
        refine v_iload 7 o dL_isBookSo_182 rfl ?_
        refine v_callSW [.ref x, .int (nI b), .int (nI k)] [.int (wa (sp_order σ (nI b) (nI k)))] o dL_isBookSo_184 cwh_L_188 (l_orderAnew hl hQ20 hW.I (nI b) (nI k)) rfl rfl ⟨Nat.le_of_ble_eq_true rfl, Nat.le_of_ble_eq_true rfl⟩ ⟨by show (20 + 10 * k) + 1 + 1 + 1 + 1 ≤ 400; omega, by show (120 + 60 * k) + 6 + 6 + 6 + 6 ≤ 2400; omega⟩ (Nat.le_of_ble_eq_true rfl) ?_ (fun _ _ _ _ h => h.elim)
        rintro r9 μ21 z21 hz21 ⟨rfl, C21, κ21, hQ21⟩
        rw [ro0 (p := (sp_order σ (nI b) (nI k))) (ro_order σ (nI b) (nI k)) hW.z] at hQ21
        refine v_st [.int (wa (sp_order σ (nI b) (nI k))), .int (wa (sp_order σ (nI b) (nI k)))] rfl ?_
        refine v_icmp_ne 207 o dL_isBookSo_187 (by decide) (fun c187 => absurd c187 (not_not_intro rfl)) (fun c187 => ?_)
        refine v_aload_n 3 o dL_isBookSo_190 rfl rfl ?_
        refine v_iload_n 4 o dL_isBookSo_191 rfl rfl ?_
        refine v_iload 7 o dL_isBookSo_192 rfl ?_
        refine v_iconst 0 o dL_isBookSo_194 rfl ?_
        refine v_callSW [.ref x, .int (nI b), .int (nI k), .int (nI 0)] [] o dL_isBookSo_195 cwh_L_171 (l_doubt hl hQ21 hW.I (nI b) (nI k) (nI 0)) rfl rfl ⟨Nat.le_of_ble_eq_true rfl, Nat.le_of_ble_eq_true rfl⟩ ⟨by show (20 + 10 * k) + 1 + 1 + 1 + 1 + 1 ≤ 400; omega, by show (120 + 60 * k) + 6 + 6 + 6 + 6 + 6 ≤ 2400; omega⟩ (Nat.le_of_ble_eq_true rfl) ?_ (fun _ _ _ _ h => h.elim)
        rintro r9 μ22 z22 hz22 ⟨rfl, C22, κ22, hQ22⟩
        rw [ro0 (p := (sp_doubt σ (nI b) (nI k) (nI 0))) (ro_doubt σ (nI b) (nI k) (nI 0)) hW.z] at hQ22
        refine v_st [.int (wa (sp_doubt σ (nI b) (nI k) (nI 0)))] rfl ?_
        refine v_bipush 100 o dL_isBookSo_198 (by decide) ?_
        refine v_icmp_gt 207 o dL_isBookSo_200 (by decide) (fun c200 => absurd c200 (q_6 _ _ _)) (fun c200 => ?_)
        refine v_iconst 1 o dL_isBookSo_203 rfl ?_
        refine v_goto 208 o dL_isBookSo_204 (by decide) ?_
        refine v_istore_n [(3, .int (nI 1)), (7, .int (wa (sp_whyNot σ (nI b) (nI k) (nI (lwN v 4))))), (6, .int (wa (sp_isLost σ (nI b) (nI k)))), (0, .ref x), (1, .int (nI b)), (2, .int v), (4, .int (nI (lwN v 4))), (5, .int (nI k))] o dL_isBookSo_208 rfl (by decide) rfl ?_
        refine v_iinc (nI (k + 1)) [(5, .int (nI (k + 1))), (3, .int (nI 1)), (7, .int (wa (sp_whyNot σ (nI b) (nI k) (nI (lwN v 4))))), (6, .int (wa (sp_isLost σ (nI b) (nI k)))), (0, .ref x), (1, .int (nI b)), (2, .int v), (4, .int (nI (lwN v 4)))] o dL_isBookSo_209 7 rfl (iinc_n k 1) (by decide) rfl ?_
        refine v_goto 81 o dL_isBookSo_212 (by decide) ?_
        refine v_sub [(0, .ref x), (1, .int (nI b)), (2, .int v), (3, .int (nI 1)), (4, .int (nI (lwN v 4))), (5, .int (nI (k + 1)))] [4, 5, 6, 1, 7, 0] rfl ?_
        exact v_widen (20 + 10 * (k + 1)) (120 + 60 * (k + 1)) (by show (20 + 10 * k) + 1 + 1 + 1 + 1 + 1 ≤ 20 + 10 * (k + 1); omega) (by show (120 + 60 * k) + 6 + 6 + 6 + 6 + 6 ≤ 120 + 60 * (k + 1); omega) (ih (k + 1) _ _ _ _ (by omega) hQ22)
      · refine v_lv [(7, .int (nI 5)), (6, .int (nI 1)), (0, .ref x), (1, .int (nI b)), (2, .int v), (3, .int (nI 1)), (4, .int (nI (lwN v 4))), (5, .int (nI k))] (by rw [hw1, hw2]) ?_
        refine v_iload 1 o dL_isBookSo_115 rfl ?_
        refine v_if_lt_n 163 o dL_isBookSo_117 (by decide) (by decide) (fun c117 => absurd c117 (by omega)) (fun c117 => ?_)
        refine v_iload 1 o dL_isBookSo_120 rfl ?_
        refine v_iconst 1 o dL_isBookSo_122 rfl ?_
        refine v_icmp_ne_n 130 o dL_isBookSo_123 (by decide) (by decide) (by decide) (fun c123 => absurd c123 (by omega)) (fun c123 => ?_)
        refine v_iconst 1 o dL_isBookSo_126 rfl ?_
        refine v_goto 131 o dL_isBookSo_127 (by decide) ?_
        refine v_iload 0 o dL_isBookSo_131 rfl ?_
        refine v_iconst 5 o dL_isBookSo_133 rfl ?_
        refine v_icmp_ne_n 141 o dL_isBookSo_134 (by decide) (by decide) (by decide) (fun c134 => absurd c134 (by omega)) (fun c134 => ?_)
        refine v_iconst 1 o dL_isBookSo_137 rfl ?_
        refine v_goto 142 o dL_isBookSo_138 (by decide) ?_
        refine v_icmp_eq_n 163 o dL_isBookSo_142 (by decide) (by decide) (by decide) (fun c142 => ?_) (fun c142 => absurd c142 (by omega))
        refine v_iconst 1 o dL_isBookSo_163 rfl ?_
        refine v_goto 168 o dL_isBookSo_164 (by decide) ?_
        refine v_istore_n [(3, .int (nI 1)), (7, .int (nI 5)), (6, .int (nI 1)), (0, .ref x), (1, .int (nI b)), (2, .int v), (4, .int (nI (lwN v 4))), (5, .int (nI k))] o dL_isBookSo_168 rfl (by decide) rfl ?_
        refine v_iload_n 0 o dL_isBookSo_169 rfl rfl ?_
        refine v_if_eq_n 207 o dL_isBookSo_170 (by decide) (by decide) (fun c170 => absurd c170 (by decide)) (fun c170 => ?_)
        refine v_aload_n 3 o dL_isBookSo_173 rfl rfl ?_
        refine v_iload_n 4 o dL_isBookSo_174 rfl rfl ?_
        refine v_iload 7 o dL_isBookSo_175 rfl ?_
        refine v_callSW [.ref x, .int (nI b), .int (nI k)] [] o dL_isBookSo_177 cwh_L_158 (l_order hl hQ19 hW.I (nI b) (nI k)) rfl rfl ⟨Nat.le_of_ble_eq_true rfl, Nat.le_of_ble_eq_true rfl⟩ ⟨by show (20 + 10 * k) + 1 + 1 + 1 ≤ 400; omega, by show (120 + 60 * k) + 6 + 6 + 6 ≤ 2400; omega⟩ (Nat.le_of_ble_eq_true rfl) ?_ (fun _ _ _ _ h => h.elim)
        rintro r9 μ23 z23 hz23 ⟨rfl, C23, κ23, hQ23⟩
        rw [ro0 (p := (sp_order σ (nI b) (nI k))) (ro_order σ (nI b) (nI k)) hW.z] at hQ23
        refine v_st [.int (wa (sp_order σ (nI b) (nI k)))] rfl ?_
        refine v_aload_n 3 o dL_isBookSo_180 rfl rfl ?_
        refine v_iload_n 4 o dL_isBookSo_181 rfl rfl ?_
        refine v_iload 7 o dL_isBookSo_182 rfl ?_
        refine v_callSW [.ref x, .int (nI b), .int (nI k)] [.int (wa (sp_order σ (nI b) (nI k)))] o dL_isBookSo_184 cwh_L_188 (l_orderAnew hl hQ23 hW.I (nI b) (nI k)) rfl rfl ⟨Nat.le_of_ble_eq_true rfl, Nat.le_of_ble_eq_true rfl⟩ ⟨by show (20 + 10 * k) + 1 + 1 + 1 + 1 ≤ 400; omega, by show (120 + 60 * k) + 6 + 6 + 6 + 6 ≤ 2400; omega⟩ (Nat.le_of_ble_eq_true rfl) ?_ (fun _ _ _ _ h => h.elim)
        rintro r9 μ24 z24 hz24 ⟨rfl, C24, κ24, hQ24⟩
        rw [ro0 (p := (sp_order σ (nI b) (nI k))) (ro_order σ (nI b) (nI k)) hW.z] at hQ24
        refine v_st [.int (wa (sp_order σ (nI b) (nI k))), .int (wa (sp_order σ (nI b) (nI k)))] rfl ?_
        refine v_icmp_ne 207 o dL_isBookSo_187 (by decide) (fun c187 => absurd c187 (not_not_intro rfl)) (fun c187 => ?_)
        refine v_aload_n 3 o dL_isBookSo_190 rfl rfl ?_
        refine v_iload_n 4 o dL_isBookSo_191 rfl rfl ?_
        refine v_iload 7 o dL_isBookSo_192 rfl ?_
        refine v_iconst 0 o dL_isBookSo_194 rfl ?_
        refine v_callSW [.ref x, .int (nI b), .int (nI k), .int (nI 0)] [] o dL_isBookSo_195 cwh_L_171 (l_doubt hl hQ24 hW.I (nI b) (nI k) (nI 0)) rfl rfl ⟨Nat.le_of_ble_eq_true rfl, Nat.le_of_ble_eq_true rfl⟩ ⟨by show (20 + 10 * k) + 1 + 1 + 1 + 1 + 1 ≤ 400; omega, by show (120 + 60 * k) + 6 + 6 + 6 + 6 + 6 ≤ 2400; omega⟩ (Nat.le_of_ble_eq_true rfl) ?_ (fun _ _ _ _ h => h.elim)
        rintro r9 μ25 z25 hz25 ⟨rfl, C25, κ25, hQ25⟩
        rw [ro0 (p := (sp_doubt σ (nI b) (nI k) (nI 0))) (ro_doubt σ (nI b) (nI k) (nI 0)) hW.z] at hQ25
        refine v_st [.int (wa (sp_doubt σ (nI b) (nI k) (nI 0)))] rfl ?_
        refine v_bipush 100 o dL_isBookSo_198 (by decide) ?_
        refine v_icmp_gt 207 o dL_isBookSo_200 (by decide) (fun c200 => absurd c200 (q_6 _ _ _)) (fun c200 => ?_)
        refine v_iconst 1 o dL_isBookSo_203 rfl ?_
        refine v_goto 208 o dL_isBookSo_204 (by decide) ?_
        refine v_istore_n [(3, .int (nI 1)), (7, .int (nI 5)), (6, .int (nI 1)), (0, .ref x), (1, .int (nI b)), (2, .int v), (4, .int (nI (lwN v 4))), (5, .int (nI k))] o dL_isBookSo_208 rfl (by decide) rfl ?_
        refine v_iinc (nI (k + 1)) [(5, .int (nI (k + 1))), (3, .int (nI 1)), (7, .int (nI 5)), (6, .int (nI 1)), (0, .ref x), (1, .int (nI b)), (2, .int v), (4, .int (nI (lwN v 4)))] o dL_isBookSo_209 7 rfl (iinc_n k 1) (by decide) rfl ?_
        refine v_goto 81 o dL_isBookSo_212 (by decide) ?_
        refine v_sub [(0, .ref x), (1, .int (nI b)), (2, .int v), (3, .int (nI 1)), (4, .int (nI (lwN v 4))), (5, .int (nI (k + 1)))] [4, 5, 6, 1, 7, 0] rfl ?_
        exact v_widen (20 + 10 * (k + 1)) (120 + 60 * (k + 1)) (by show (20 + 10 * k) + 1 + 1 + 1 + 1 + 1 ≤ 20 + 10 * (k + 1); omega) (by show (120 + 60 * k) + 6 + 6 + 6 + 6 + 6 ≤ 120 + 60 * (k + 1); omega) (ih (k + 1) _ _ _ _ (by omega) hQ25)
      · refine v_lv [(7, .int (nI w)), (6, .int (nI 1)), (0, .ref x), (1, .int (nI b)), (2, .int v), (3, .int (nI 1)), (4, .int (nI (lwN v 4))), (5, .int (nI k))] (by rw [hw1, hw2]) ?_
        refine v_iload 1 o dL_isBookSo_115 rfl ?_
        refine v_if_lt_n 163 o dL_isBookSo_117 (by decide) (by decide) (fun c117 => absurd c117 (by omega)) (fun c117 => ?_)
        refine v_iload 1 o dL_isBookSo_120 rfl ?_
        refine v_iconst 1 o dL_isBookSo_122 rfl ?_
        refine v_icmp_ne_n 130 o dL_isBookSo_123 (by decide) (by decide) (by decide) (fun c123 => absurd c123 (by omega)) (fun c123 => ?_)
        refine v_iconst 1 o dL_isBookSo_126 rfl ?_
        refine v_goto 131 o dL_isBookSo_127 (by decide) ?_
        refine v_iload 0 o dL_isBookSo_131 rfl ?_
        refine v_iconst 5 o dL_isBookSo_133 rfl ?_
        refine v_icmp_ne_n 141 o dL_isBookSo_134 (by decide) (by omega) (by decide) (fun c134 => ?_) (fun c134 => absurd c134 (by omega))
        refine v_iconst 0 o dL_isBookSo_141 rfl ?_
        refine v_icmp_eq_n 163 o dL_isBookSo_142 (by decide) (by decide) (by decide) (fun c142 => absurd c142 (by omega)) (fun c142 => ?_)
        refine v_iload 1 o dL_isBookSo_145 rfl ?_
        refine v_iconst 1 o dL_isBookSo_147 rfl ?_
        refine v_icmp_ne_n 167 o dL_isBookSo_148 (by decide) (by decide) (by decide) (fun c148 => absurd c148 (by omega)) (fun c148 => ?_)
        refine v_iload 0 o dL_isBookSo_151 rfl ?_
        refine v_iconst 1 o dL_isBookSo_153 rfl ?_
        refine v_icmp_le_n 167 o dL_isBookSo_154 (by decide) (by omega) (by decide) (fun c154 => absurd c154 (by omega)) (fun c154 => ?_)
        refine v_iload 0 o dL_isBookSo_157 rfl ?_
        refine v_iconst 5 o dL_isBookSo_159 rfl ?_
        refine v_icmp_ge_n 167 o dL_isBookSo_160 (by decide) (by omega) (by decide) (fun c160 => absurd c160 (by omega)) (fun c160 => ?_)
        refine v_iconst 1 o dL_isBookSo_163 rfl ?_
        refine v_goto 168 o dL_isBookSo_164 (by decide) ?_
        refine v_istore_n [(3, .int (nI 1)), (7, .int (nI w)), (6, .int (nI 1)), (0, .ref x), (1, .int (nI b)), (2, .int v), (4, .int (nI (lwN v 4))), (5, .int (nI k))] o dL_isBookSo_168 rfl (by decide) rfl ?_
        refine v_iload_n 0 o dL_isBookSo_169 rfl rfl ?_
        refine v_if_eq_n 207 o dL_isBookSo_170 (by decide) (by decide) (fun c170 => absurd c170 (by decide)) (fun c170 => ?_)
        refine v_aload_n 3 o dL_isBookSo_173 rfl rfl ?_
        refine v_iload_n 4 o dL_isBookSo_174 rfl rfl ?_
        refine v_iload 7 o dL_isBookSo_175 rfl ?_
        refine v_callSW [.ref x, .int (nI b), .int (nI k)] [] o dL_isBookSo_177 cwh_L_158 (l_order hl hQ19 hW.I (nI b) (nI k)) rfl rfl ⟨Nat.le_of_ble_eq_true rfl, Nat.le_of_ble_eq_true rfl⟩ ⟨by show (20 + 10 * k) + 1 + 1 + 1 ≤ 400; omega, by show (120 + 60 * k) + 6 + 6 + 6 ≤ 2400; omega⟩ (Nat.le_of_ble_eq_true rfl) ?_ (fun _ _ _ _ h => h.elim)
        rintro r9 μ26 z26 hz26 ⟨rfl, C26, κ26, hQ26⟩
        rw [ro0 (p := (sp_order σ (nI b) (nI k))) (ro_order σ (nI b) (nI k)) hW.z] at hQ26
        refine v_st [.int (wa (sp_order σ (nI b) (nI k)))] rfl ?_
        refine v_aload_n 3 o dL_isBookSo_180 rfl rfl ?_
        refine v_iload_n 4 o dL_isBookSo_181 rfl rfl ?_
        refine v_iload 7 o dL_isBookSo_182 rfl ?_
        refine v_callSW [.ref x, .int (nI b), .int (nI k)] [.int (wa (sp_order σ (nI b) (nI k)))] o dL_isBookSo_184 cwh_L_188 (l_orderAnew hl hQ26 hW.I (nI b) (nI k)) rfl rfl ⟨Nat.le_of_ble_eq_true rfl, Nat.le_of_ble_eq_true rfl⟩ ⟨by show (20 + 10 * k) + 1 + 1 + 1 + 1 ≤ 400; omega, by show (120 + 60 * k) + 6 + 6 + 6 + 6 ≤ 2400; omega⟩ (Nat.le_of_ble_eq_true rfl) ?_ (fun _ _ _ _ h => h.elim)
        rintro r9 μ27 z27 hz27 ⟨rfl, C27, κ27, hQ27⟩
        rw [ro0 (p := (sp_order σ (nI b) (nI k))) (ro_order σ (nI b) (nI k)) hW.z] at hQ27
        refine v_st [.int (wa (sp_order σ (nI b) (nI k))), .int (wa (sp_order σ (nI b) (nI k)))] rfl ?_
        refine v_icmp_ne 207 o dL_isBookSo_187 (by decide) (fun c187 => absurd c187 (not_not_intro rfl)) (fun c187 => ?_)
        refine v_aload_n 3 o dL_isBookSo_190 rfl rfl ?_
        refine v_iload_n 4 o dL_isBookSo_191 rfl rfl ?_
        refine v_iload 7 o dL_isBookSo_192 rfl ?_
        refine v_iconst 0 o dL_isBookSo_194 rfl ?_
        refine v_callSW [.ref x, .int (nI b), .int (nI k), .int (nI 0)] [] o dL_isBookSo_195 cwh_L_171 (l_doubt hl hQ27 hW.I (nI b) (nI k) (nI 0)) rfl rfl ⟨Nat.le_of_ble_eq_true rfl, Nat.le_of_ble_eq_true rfl⟩ ⟨by show (20 + 10 * k) + 1 + 1 + 1 + 1 + 1 ≤ 400; omega, by show (120 + 60 * k) + 6 + 6 + 6 + 6 + 6 ≤ 2400; omega⟩ (Nat.le_of_ble_eq_true rfl) ?_ (fun _ _ _ _ h => h.elim)
        rintro r9 μ28 z28 hz28 ⟨rfl, C28, κ28, hQ28⟩
        rw [ro0 (p := (sp_doubt σ (nI b) (nI k) (nI 0))) (ro_doubt σ (nI b) (nI k) (nI 0)) hW.z] at hQ28
        refine v_st [.int (wa (sp_doubt σ (nI b) (nI k) (nI 0)))] rfl ?_
        refine v_bipush 100 o dL_isBookSo_198 (by decide) ?_
        refine v_icmp_gt 207 o dL_isBookSo_200 (by decide) (fun c200 => absurd c200 (q_6 _ _ _)) (fun c200 => ?_)
        refine v_iconst 1 o dL_isBookSo_203 rfl ?_
        refine v_goto 208 o dL_isBookSo_204 (by decide) ?_
        refine v_istore_n [(3, .int (nI 1)), (7, .int (nI w)), (6, .int (nI 1)), (0, .ref x), (1, .int (nI b)), (2, .int v), (4, .int (nI (lwN v 4))), (5, .int (nI k))] o dL_isBookSo_208 rfl (by decide) rfl ?_
        refine v_iinc (nI (k + 1)) [(5, .int (nI (k + 1))), (3, .int (nI 1)), (7, .int (nI w)), (6, .int (nI 1)), (0, .ref x), (1, .int (nI b)), (2, .int v), (4, .int (nI (lwN v 4)))] o dL_isBookSo_209 7 rfl (iinc_n k 1) (by decide) rfl ?_
        refine v_goto 81 o dL_isBookSo_212 (by decide) ?_
        refine v_sub [(0, .ref x), (1, .int (nI b)), (2, .int v), (3, .int (nI 1)), (4, .int (nI (lwN v 4))), (5, .int (nI (k + 1)))] [4, 5, 6, 1, 7, 0] rfl ?_
        exact v_widen (20 + 10 * (k + 1)) (120 + 60 * (k + 1)) (by show (20 + 10 * k) + 1 + 1 + 1 + 1 + 1 ≤ 20 + 10 * (k + 1); omega) (by show (120 + 60 * k) + 6 + 6 + 6 + 6 + 6 ≤ 120 + 60 * (k + 1); omega) (ih (k + 1) _ _ _ _ (by omega) hQ28)
      · refine v_lv [(7, .int (nI w)), (6, .int (nI 0)), (0, .ref x), (1, .int (nI b)), (2, .int v), (3, .int (nI 1)), (4, .int (nI (lwN v 4))), (5, .int (nI k))] (by rw [hw1, hw2]) ?_
        refine v_iload 1 o dL_isBookSo_115 rfl ?_
        refine v_if_lt_n 163 o dL_isBookSo_117 (by decide) (by decide) (fun c117 => absurd c117 (by omega)) (fun c117 => ?_)
        refine v_iload 1 o dL_isBookSo_120 rfl ?_
        refine v_iconst 1 o dL_isBookSo_122 rfl ?_
        refine v_icmp_ne_n 130 o dL_isBookSo_123 (by decide) (by decide) (by decide) (fun c123 => ?_) (fun c123 => absurd c123 (by omega))
        refine v_iconst 0 o dL_isBookSo_130 rfl ?_
        refine v_iload 0 o dL_isBookSo_131 rfl ?_
        refine v_iconst 5 o dL_isBookSo_133 rfl ?_
        refine v_icmp_ne_n 141 o dL_isBookSo_134 (by decide) (by omega) (by decide) (fun c134 => ?_) (fun c134 => absurd c134 (by omega))
        refine v_iconst 0 o dL_isBookSo_141 rfl ?_
        refine v_icmp_eq_n 163 o dL_isBookSo_142 (by decide) (by decide) (by decide) (fun c142 => ?_) (fun c142 => absurd c142 (by omega))
        refine v_iconst 1 o dL_isBookSo_163 rfl ?_
        refine v_goto 168 o dL_isBookSo_164 (by decide) ?_
        refine v_istore_n [(3, .int (nI 1)), (7, .int (nI w)), (6, .int (nI 0)), (0, .ref x), (1, .int (nI b)), (2, .int v), (4, .int (nI (lwN v 4))), (5, .int (nI k))] o dL_isBookSo_168 rfl (by decide) rfl ?_
        refine v_iload_n 0 o dL_isBookSo_169 rfl rfl ?_
        refine v_if_eq_n 207 o dL_isBookSo_170 (by decide) (by decide) (fun c170 => absurd c170 (by decide)) (fun c170 => ?_)
        refine v_aload_n 3 o dL_isBookSo_173 rfl rfl ?_
        refine v_iload_n 4 o dL_isBookSo_174 rfl rfl ?_
        refine v_iload 7 o dL_isBookSo_175 rfl ?_
        refine v_callSW [.ref x, .int (nI b), .int (nI k)] [] o dL_isBookSo_177 cwh_L_158 (l_order hl hQ19 hW.I (nI b) (nI k)) rfl rfl ⟨Nat.le_of_ble_eq_true rfl, Nat.le_of_ble_eq_true rfl⟩ ⟨by show (20 + 10 * k) + 1 + 1 + 1 ≤ 400; omega, by show (120 + 60 * k) + 6 + 6 + 6 ≤ 2400; omega⟩ (Nat.le_of_ble_eq_true rfl) ?_ (fun _ _ _ _ h => h.elim)
        rintro r9 μ29 z29 hz29 ⟨rfl, C29, κ29, hQ29⟩
        rw [ro0 (p := (sp_order σ (nI b) (nI k))) (ro_order σ (nI b) (nI k)) hW.z] at hQ29
        refine v_st [.int (wa (sp_order σ (nI b) (nI k)))] rfl ?_
        refine v_aload_n 3 o dL_isBookSo_180 rfl rfl ?_
        refine v_iload_n 4 o dL_isBookSo_181 rfl rfl ?_
        refine v_iload 7 o dL_isBookSo_182 rfl ?_
        refine v_callSW [.ref x, .int (nI b), .int (nI k)] [.int (wa (sp_order σ (nI b) (nI k)))] o dL_isBookSo_184 cwh_L_188 (l_orderAnew hl hQ29 hW.I (nI b) (nI k)) rfl rfl ⟨Nat.le_of_ble_eq_true rfl, Nat.le_of_ble_eq_true rfl⟩ ⟨by show (20 + 10 * k) + 1 + 1 + 1 + 1 ≤ 400; omega, by show (120 + 60 * k) + 6 + 6 + 6 + 6 ≤ 2400; omega⟩ (Nat.le_of_ble_eq_true rfl) ?_ (fun _ _ _ _ h => h.elim)
        rintro r9 μ30 z30 hz30 ⟨rfl, C30, κ30, hQ30⟩
        rw [ro0 (p := (sp_order σ (nI b) (nI k))) (ro_order σ (nI b) (nI k)) hW.z] at hQ30
        refine v_st [.int (wa (sp_order σ (nI b) (nI k))), .int (wa (sp_order σ (nI b) (nI k)))] rfl ?_
        refine v_icmp_ne 207 o dL_isBookSo_187 (by decide) (fun c187 => absurd c187 (not_not_intro rfl)) (fun c187 => ?_)
        refine v_aload_n 3 o dL_isBookSo_190 rfl rfl ?_
        refine v_iload_n 4 o dL_isBookSo_191 rfl rfl ?_
        refine v_iload 7 o dL_isBookSo_192 rfl ?_
        refine v_iconst 0 o dL_isBookSo_194 rfl ?_
        refine v_callSW [.ref x, .int (nI b), .int (nI k), .int (nI 0)] [] o dL_isBookSo_195 cwh_L_171 (l_doubt hl hQ30 hW.I (nI b) (nI k) (nI 0)) rfl rfl ⟨Nat.le_of_ble_eq_true rfl, Nat.le_of_ble_eq_true rfl⟩ ⟨by show (20 + 10 * k) + 1 + 1 + 1 + 1 + 1 ≤ 400; omega, by show (120 + 60 * k) + 6 + 6 + 6 + 6 + 6 ≤ 2400; omega⟩ (Nat.le_of_ble_eq_true rfl) ?_ (fun _ _ _ _ h => h.elim)
        rintro r9 μ31 z31 hz31 ⟨rfl, C31, κ31, hQ31⟩
        rw [ro0 (p := (sp_doubt σ (nI b) (nI k) (nI 0))) (ro_doubt σ (nI b) (nI k) (nI 0)) hW.z] at hQ31
        refine v_st [.int (wa (sp_doubt σ (nI b) (nI k) (nI 0)))] rfl ?_
        refine v_bipush 100 o dL_isBookSo_198 (by decide) ?_
        refine v_icmp_gt 207 o dL_isBookSo_200 (by decide) (fun c200 => absurd c200 (q_6 _ _ _)) (fun c200 => ?_)
        refine v_iconst 1 o dL_isBookSo_203 rfl ?_
        refine v_goto 208 o dL_isBookSo_204 (by decide) ?_
        refine v_istore_n [(3, .int (nI 1)), (7, .int (nI w)), (6, .int (nI 0)), (0, .ref x), (1, .int (nI b)), (2, .int v), (4, .int (nI (lwN v 4))), (5, .int (nI k))] o dL_isBookSo_208 rfl (by decide) rfl ?_
        refine v_iinc (nI (k + 1)) [(5, .int (nI (k + 1))), (3, .int (nI 1)), (7, .int (nI w)), (6, .int (nI 0)), (0, .ref x), (1, .int (nI b)), (2, .int v), (4, .int (nI (lwN v 4)))] o dL_isBookSo_209 7 rfl (iinc_n k 1) (by decide) rfl ?_
        refine v_goto 81 o dL_isBookSo_212 (by decide) ?_
        refine v_sub [(0, .ref x), (1, .int (nI b)), (2, .int v), (3, .int (nI 1)), (4, .int (nI (lwN v 4))), (5, .int (nI (k + 1)))] [4, 5, 6, 1, 7, 0] rfl ?_
        exact v_widen (20 + 10 * (k + 1)) (120 + 60 * (k + 1)) (by show (20 + 10 * k) + 1 + 1 + 1 + 1 + 1 ≤ 20 + 10 * (k + 1); omega) (by show (120 + 60 * k) + 6 + 6 + 6 + 6 + 6 ≤ 120 + 60 * (k + 1); omega) (ih (k + 1) _ _ _ _ (by omega) hQ31)
  refine v_aload_n 0 o dL_isBookSo_0 rfl rfl ?_
  refine v_iload_n 1 o dL_isBookSo_1 rfl rfl ?_
  refine v_iconst 0 o dL_isBookSo_2 rfl ?_
  refine v_callV [.int (nI b), .int (nI 0)] [] o dL_isBookSo_3 cw_L_108 im_X5_about se_X5_about cf5 hR.h0 (k_about hl hR hW.I (nI b) (nI 0)) rfl rfl ⟨Nat.le_of_ble_eq_true rfl, Nat.le_of_ble_eq_true rfl⟩ ⟨by show 0 + 1 ≤ 400; omega, by show 0 + 6 ≤ 2400; omega⟩ (Nat.le_of_ble_eq_true rfl) ?_ (fun _ _ _ _ h => (clX_no h (ab_ok hW hb (by decide))).elim)
  rintro r9 μ32 z32 hz32 ⟨rfl, h31, C32, κ32, hQ32⟩
  have hQ32 := hQ32.thk 0
  rw [ro0 (p := (sp_about σ (nI b) (nI 0))) (ro_about σ (nI b) (nI 0)) hW.z] at hQ32
  refine v_st [.int ((sp_about σ (nI b) (nI 0)).1)] rfl ?_
  refine v_if_lt 69 o dL_isBookSo_6 (by decide) (fun c6 => absurd c6 (q_1 hW hb)) (fun c6 => ?_)
  refine v_aload_n 0 o dL_isBookSo_9 rfl rfl ?_
  refine v_iload_n 1 o dL_isBookSo_10 rfl rfl ?_
  refine v_iconst 1 o dL_isBookSo_11 rfl ?_
  refine v_callV [.int (nI b), .int (nI 1)] [] o dL_isBookSo_12 cw_L_108 im_X5_about se_X5_about cf5 hQ32.h0 (k_about hl hQ32 hW.I (nI b) (nI 1)) rfl rfl ⟨Nat.le_of_ble_eq_true rfl, Nat.le_of_ble_eq_true rfl⟩ ⟨by show 0 + 1 + 1 ≤ 400; omega, by show 0 + 6 + 6 ≤ 2400; omega⟩ (Nat.le_of_ble_eq_true rfl) ?_ (fun _ _ _ _ h => (clX_no h (ab_ok hW hb (by decide))).elim)
  rintro r9 μ33 z33 hz33 ⟨rfl, h31, C33, κ33, hQ33⟩
  have hQ33 := hQ33.thk 0
  rw [ro0 (p := (sp_about σ (nI b) (nI 1))) (ro_about σ (nI b) (nI 1)) hW.z] at hQ33
  refine v_st [.int ((sp_about σ (nI b) (nI 1)).1)] rfl ?_
  refine v_bipush 12 o dL_isBookSo_15 (by decide) ?_
  refine v_icmp_gt 69 o dL_isBookSo_17 (by decide) (fun c17 => absurd c17 (q_2 hW hb)) (fun c17 => ?_)
  refine v_aload_n 0 o dL_isBookSo_20 rfl rfl ?_
  refine v_iload_n 1 o dL_isBookSo_21 rfl rfl ?_
  refine v_iconst 2 o dL_isBookSo_22 rfl ?_
  refine v_callV [.int (nI b), .int (nI 2)] [] o dL_isBookSo_23 cw_L_108 im_X5_about se_X5_about cf5 hQ33.h0 (k_about hl hQ33 hW.I (nI b) (nI 2)) rfl rfl ⟨Nat.le_of_ble_eq_true rfl, Nat.le_of_ble_eq_true rfl⟩ ⟨by show 0 + 1 + 1 + 1 ≤ 400; omega, by show 0 + 6 + 6 + 6 ≤ 2400; omega⟩ (Nat.le_of_ble_eq_true rfl) ?_ (fun _ _ _ _ h => (clX_no h (ab_ok hW hb (by decide))).elim)
  rintro r9 μ34 z34 hz34 ⟨rfl, h31, C34, κ34, hQ34⟩
  have hQ34 := hQ34.thk 0
  rw [ro0 (p := (sp_about σ (nI b) (nI 2))) (ro_about σ (nI b) (nI 2)) hW.z] at hQ34
  refine v_st [.int ((sp_about σ (nI b) (nI 2)).1)] rfl ?_
  refine v_aload_n 0 o dL_isBookSo_26 rfl rfl ?_
  refine v_iload_n 1 o dL_isBookSo_27 rfl rfl ?_
  refine v_iconst 1 o dL_isBookSo_28 rfl ?_
  refine v_callV [.int (nI b), .int (nI 1)] [.int ((sp_about σ (nI b) (nI 2)).1)] o dL_isBookSo_29 cw_L_108 im_X5_about se_X5_about cf5 hQ34.h0 (k_about hl hQ34 hW.I (nI b) (nI 1)) rfl rfl ⟨Nat.le_of_ble_eq_true rfl, Nat.le_of_ble_eq_true rfl⟩ ⟨by show 0 + 1 + 1 + 1 + 1 ≤ 400; omega, by show 0 + 6 + 6 + 6 + 6 ≤ 2400; omega⟩ (Nat.le_of_ble_eq_true rfl) ?_ (fun _ _ _ _ h => (clX_no h (ab_ok hW hb (by decide))).elim)
  rintro r9 μ35 z35 hz35 ⟨rfl, h31, C35, κ35, hQ35⟩
  have hQ35 := hQ35.thk 0
  rw [ro0 (p := (sp_about σ (nI b) (nI 1))) (ro_about σ (nI b) (nI 1)) hW.z] at hQ35
  refine v_st [.int ((sp_about σ (nI b) (nI 1)).1), .int ((sp_about σ (nI b) (nI 2)).1)] rfl ?_
  refine v_icmp_gt 69 o dL_isBookSo_32 (by decide) (fun c32 => absurd c32 (q_3 hW hb)) (fun c32 => ?_)
  refine v_aload_n 0 o dL_isBookSo_35 rfl rfl ?_
  refine v_iload_n 1 o dL_isBookSo_36 rfl rfl ?_
  refine v_iconst 3 o dL_isBookSo_37 rfl ?_
  refine v_callV [.int (nI b), .int (nI 3)] [] o dL_isBookSo_38 cw_L_108 im_X5_about se_X5_about cf5 hQ35.h0 (k_about hl hQ35 hW.I (nI b) (nI 3)) rfl rfl ⟨Nat.le_of_ble_eq_true rfl, Nat.le_of_ble_eq_true rfl⟩ ⟨by show 0 + 1 + 1 + 1 + 1 + 1 ≤ 400; omega, by show 0 + 6 + 6 + 6 + 6 + 6 ≤ 2400; omega⟩ (Nat.le_of_ble_eq_true rfl) ?_ (fun _ _ _ _ h => (clX_no h (ab_ok hW hb (by decide))).elim)
  rintro r9 μ36 z36 hz36 ⟨rfl, h31, C36, κ36, hQ36⟩
  have hQ36 := hQ36.thk 0
  rw [ro0 (p := (sp_about σ (nI b) (nI 3))) (ro_about σ (nI b) (nI 3)) hW.z] at hQ36
  refine v_st [.int ((sp_about σ (nI b) (nI 3)).1)] rfl ?_
  refine v_aload_n 0 o dL_isBookSo_41 rfl rfl ?_
  refine v_iload_n 1 o dL_isBookSo_42 rfl rfl ?_
  refine v_iconst 1 o dL_isBookSo_43 rfl ?_
  refine v_callV [.int (nI b), .int (nI 1)] [.int ((sp_about σ (nI b) (nI 3)).1)] o dL_isBookSo_44 cw_L_108 im_X5_about se_X5_about cf5 hQ36.h0 (k_about hl hQ36 hW.I (nI b) (nI 1)) rfl rfl ⟨Nat.le_of_ble_eq_true rfl, Nat.le_of_ble_eq_true rfl⟩ ⟨by show 0 + 1 + 1 + 1 + 1 + 1 + 1 ≤ 400; omega, by show 0 + 6 + 6 + 6 + 6 + 6 + 6 ≤ 2400; omega⟩ (Nat.le_of_ble_eq_true rfl) ?_ (fun _ _ _ _ h => (clX_no h (ab_ok hW hb (by decide))).elim)
  rintro r9 μ37 z37 hz37 ⟨rfl, h31, C37, κ37, hQ37⟩
  have hQ37 := hQ37.thk 0
  rw [ro0 (p := (sp_about σ (nI b) (nI 1))) (ro_about σ (nI b) (nI 1)) hW.z] at hQ37
  refine v_st [.int ((sp_about σ (nI b) (nI 1)).1), .int ((sp_about σ (nI b) (nI 3)).1)] rfl ?_
  refine v_icmp_gt 69 o dL_isBookSo_47 (by decide) (fun c47 => absurd c47 (q_4 hW hb)) (fun c47 => ?_)
  refine v_aload_n 0 o dL_isBookSo_50 rfl rfl ?_
  refine v_iload_n 1 o dL_isBookSo_51 rfl rfl ?_
  refine v_iconst 5 o dL_isBookSo_52 rfl ?_
  refine v_callV [.int (nI b), .int (nI 5)] [] o dL_isBookSo_53 cw_L_108 im_X5_about se_X5_about cf5 hQ37.h0 (k_about hl hQ37 hW.I (nI b) (nI 5)) rfl rfl ⟨Nat.le_of_ble_eq_true rfl, Nat.le_of_ble_eq_true rfl⟩ ⟨by show 0 + 1 + 1 + 1 + 1 + 1 + 1 + 1 ≤ 400; omega, by show 0 + 6 + 6 + 6 + 6 + 6 + 6 + 6 ≤ 2400; omega⟩ (Nat.le_of_ble_eq_true rfl) ?_ (fun _ _ _ _ h => (clX_no h (ab_ok hW hb (by decide))).elim)
  rintro r9 μ38 z38 hz38 ⟨rfl, h31, C38, κ38, hQ38⟩
  have hQ38 := hQ38.thk 0
  rw [ro0 (p := (sp_about σ (nI b) (nI 5))) (ro_about σ (nI b) (nI 5)) hW.z] at hQ38
  refine v_st [.int ((sp_about σ (nI b) (nI 5)).1)] rfl ?_
  refine v_aload_n 0 o dL_isBookSo_56 rfl rfl ?_
  refine v_iload_n 1 o dL_isBookSo_57 rfl rfl ?_
  refine v_iconst 1 o dL_isBookSo_58 rfl ?_
  refine v_callV [.int (nI b), .int (nI 1)] [.int ((sp_about σ (nI b) (nI 5)).1)] o dL_isBookSo_59 cw_L_108 im_X5_about se_X5_about cf5 hQ38.h0 (k_about hl hQ38 hW.I (nI b) (nI 1)) rfl rfl ⟨Nat.le_of_ble_eq_true rfl, Nat.le_of_ble_eq_true rfl⟩ ⟨by show 0 + 1 + 1 + 1 + 1 + 1 + 1 + 1 + 1 ≤ 400; omega, by show 0 + 6 + 6 + 6 + 6 + 6 + 6 + 6 + 6 ≤ 2400; omega⟩ (Nat.le_of_ble_eq_true rfl) ?_ (fun _ _ _ _ h => (clX_no h (ab_ok hW hb (by decide))).elim)
  rintro r9 μ39 z39 hz39 ⟨rfl, h31, C39, κ39, hQ39⟩
  have hQ39 := hQ39.thk 0
  rw [ro0 (p := (sp_about σ (nI b) (nI 1))) (ro_about σ (nI b) (nI 1)) hW.z] at hQ39
  refine v_st [.int ((sp_about σ (nI b) (nI 1)).1), .int ((sp_about σ (nI b) (nI 5)).1)] rfl ?_
  refine v_icmp_lt 69 o dL_isBookSo_62 (by decide) (fun c62 => absurd c62 (q_5 hW hb)) (fun c62 => ?_)
  refine v_iconst 1 o dL_isBookSo_65 rfl ?_
  refine v_goto 70 o dL_isBookSo_66 (by decide) ?_
  refine v_istore_n [(3, .int (nI 1)), (0, .ref x), (1, .int (nI b)), (2, .int v)] o dL_isBookSo_70 rfl (by decide) rfl ?_
  refine v_iload_n 3 o dL_isBookSo_71 rfl rfl ?_
  refine v_iconst 4 o dL_isBookSo_72 rfl ?_
  refine v_callSr (v := .int (nI (lwN v 4))) [.int v, .int (nI 4)] [] o dL_isBookSo_73 cw_L_111 st_L_low (l_low hl v 4 (by decide) (by decide)) rfl rfl (by decide) ⟨rfl, rfl⟩ ⟨by show 0 + 1 + 1 + 1 + 1 + 1 + 1 + 1 + 1 ≤ 400; omega, by show 0 + 6 + 6 + 6 + 6 + 6 + 6 + 6 + 6 ≤ 2400; omega⟩ (Nat.le_of_ble_eq_true rfl) ?_
  refine v_istore [(4, .int (nI (lwN v 4))), (3, .int (nI 1)), (0, .ref x), (1, .int (nI b)), (2, .int v)] o dL_isBookSo_76 (by decide) rfl ?_
  refine v_iconst 0 o dL_isBookSo_78 rfl ?_
  refine v_istore [(5, .int (nI 0)), (4, .int (nI (lwN v 4))), (3, .int (nI 1)), (0, .ref x), (1, .int (nI b)), (2, .int v)] o dL_isBookSo_79 (by decide) rfl ?_
  refine v_sub [(0, .ref x), (1, .int (nI b)), (2, .int v), (3, .int (nI 1)), (4, .int (nI (lwN v 4))), (5, .int (nI 0))] [3, 4, 5, 2, 1, 0] rfl ?_
  exact v_widen 20 120 (by show 0 + 1 + 1 + 1 + 1 + 1 + 1 + 1 + 1 ≤ 20; omega) (by show 0 + 6 + 6 + 6 + 6 + 6 + 6 + 6 + 6 ≤ 120; omega) (L1 12 0 _ _ _ _ (by omega) hQ39)
set_option maxRecDepth 100000 in
set_option maxHeartbeats 4000000 in
theorem l_isSo {l : Launch} (hl : l.stackTraces = false) {g : mG} {x z z0 : Nat} {B : Nat → Nat} {μ0 μ : mM} {σ τ : Sg} (hR : RC g x B z0 μ0 σ τ μ) (hW : JW σ) (v : Int32) : Ct l g yL_isSo [Cond.code yL_isSo cL_isSo 4 (some .boolean)] { frames := 12, cells := 4000, slots := 24000, locals := 294 } [.ref x, .int v] μ z (fun r _ _ => r = some (.int 1)) (noX) := by
  refine Ct.of hl (by decide +kernel) (Nat.le_of_ble_eq_true rfl) ?_
  intro p e s mi args below meth c o hnm hr hx
  have o : Ok p l s mi args meth c g cL_isSo 4 RL := o
  refine v_lv [(0, .ref x), (1, .int v)] rfl ?_
  have K97 : ∀ (μq : mM) (zq : Nat) (Bq : Nat → Nat) (σq τq : Sg), JW σq → RC g x Bq z0 μ0 σq τq μq → V p l e { frames := 12, cells := 4000, slots := 24000, locals := 294 } s mi args below meth c (vx_MQ below (cQc g (fun r _ _ => r = some (.int 1))) (cXC g noX) args s ({ frames := 12, cells := 4000, slots := 24000, locals := 294 } : Room).cells ({ frames := 12, cells := 4000, slots := 24000, locals := 294 } : Room).slots (gA g)) g μq zq 3900 23400 97 [(0, .ref x), (1, .int v), (2, .int (nI 1)), (3, .int (nI 6))] [] := by
    intro μq zq Bq σq τq hWq hRq
    have h6q := hWq.I.1
    rcases q_n hWq with hx0 | ⟨b0, hb0, hnx, hneg, hab⟩
    · refine v_aload_n 0 o dL_isSo_97 rfl rfl ?_
      refine v_callV [] [] o dL_isSo_98 cw_L_119 im_X5_next se_X5_next cf5 hRq.h0 (k_next hl hRq ) rfl rfl ⟨Nat.le_of_ble_eq_true rfl, Nat.le_of_ble_eq_true rfl⟩ ⟨by show 3900 + 0 ≤ 4000; omega, by show 23400 + 0 ≤ 24000; omega⟩ (Nat.le_of_ble_eq_true rfl) ?_ (fun _ _ _ _ h => h.elim)
      rintro r9 μ1 z1 hz1 ⟨rfl, h31, C1, κ1, hQ1⟩
      have hQ1 := hQ1.thk 0
      rw [ro0 (p := (sp_next σq)) (ro_next σq ) hWq.z] at hQ1
      refine v_st [.int ((sp_next σq).1)] rfl ?_
      refine v_istore_n [(3, .int ((sp_next σq).1)), (0, .ref x), (1, .int v), (2, .int (nI 1))] o dL_isSo_101 rfl (by decide) rfl ?_
      refine v_iload_n 3 o dL_isSo_102 rfl rfl ?_
      refine v_if_eq_n 145 o dL_isSo_103 (by decide) (by decide) (fun c103 => absurd c103 (by decide)) (fun c103 => ?_)
      refine v_iload_n 0 o dL_isSo_106 rfl rfl ?_
      refine v_if_lt 119 o dL_isSo_107 (by decide) (fun c107 => ?_) (fun c107 => absurd c107 (not_not_intro hx0))
      refine v_aload_n 1 o dL_isSo_119 rfl rfl ?_
      refine v_bipush 6 o dL_isSo_120 (by decide) ?_
      refine v_iconst 0 o dL_isSo_122 rfl ?_
      refine v_callSW [.ref x, .int (nI 6), .int (nI 0)] [] o dL_isSo_123 cwh_L_186 (l_about hl hQ1 hWq.I (nI 6) (nI 0)) rfl rfl ⟨Nat.le_of_ble_eq_true rfl, Nat.le_of_ble_eq_true rfl⟩ ⟨by show 3900 + 0 + 1 ≤ 4000; omega, by show 23400 + 0 + 6 ≤ 24000; omega⟩ (Nat.le_of_ble_eq_true rfl) ?_ (fun _ _ _ _ h => h.elim)
      rintro r9 μ2 z2 hz2 ⟨rfl, C2, κ2, hQ2⟩
      rw [ro0 (p := (sp_about σq (nI 6) (nI 0))) (ro_about σq (nI 6) (nI 0)) hWq.z] at hQ2
      refine v_st [.int (wa (sp_about σq (nI 6) (nI 0)))] rfl ?_
      refine v_ldc (-99999999) o dL_isSo_126 ct_L_16 ?_
      refine v_icmp_ne 145 o dL_isSo_128 (by decide) (fun c128 => absurd c128 (not_not_intro (q_6b hWq))) (fun c128 => ?_)
      refine v_aload_n 1 o dL_isSo_131 rfl rfl ?_
      refine v_iconst 4 o dL_isSo_132 rfl ?_
      refine v_callSW [.ref x, .int (nI 4)] [] o dL_isSo_133 cwh_L_140 (l_burn hl hQ2 hWq.I (nI 4)) rfl rfl ⟨Nat.le_of_ble_eq_true rfl, Nat.le_of_ble_eq_true rfl⟩ ⟨by show 3900 + 0 + 1 + 1 ≤ 4000; omega, by show 23400 + 0 + 6 + 6 ≤ 24000; omega⟩ (Nat.le_of_ble_eq_true rfl) ?_ (fun _ _ _ _ h => h.elim)
      rintro r9 μ3 z3 hz3 ⟨rfl, C3, κ3, hQ3⟩
      refine v_st [.int (wa (sp_burn σq (nI 4)))] rfl ?_
      refine v_ldc (-99999999) o dL_isSo_136 ct_L_16 ?_
      refine v_icmp_ne 145 o dL_isSo_138 (by decide) (fun c138 => absurd c138 (not_not_intro (q_b4w σq))) (fun c138 => ?_)
      refine v_iconst 1 o dL_isSo_141 rfl ?_
      refine v_goto 146 o dL_isSo_142 (by decide) ?_
      exact v_zret o dL_isSo_146 hr (by decide) (Nat.le_of_ble_eq_true rfl) (Nat.le_of_ble_eq_true rfl) rfl
    · refine v_aload_n 0 o dL_isSo_97 rfl rfl ?_
      refine v_callV [] [] o dL_isSo_98 cw_L_119 im_X5_next se_X5_next cf5 hRq.h0 (k_next hl hRq ) rfl rfl ⟨Nat.le_of_ble_eq_true rfl, Nat.le_of_ble_eq_true rfl⟩ ⟨by show 3900 + 0 ≤ 4000; omega, by show 23400 + 0 ≤ 24000; omega⟩ (Nat.le_of_ble_eq_true rfl) ?_ (fun _ _ _ _ h => h.elim)
      rintro r9 μ4 z4 hz4 ⟨rfl, h31, C4, κ4, hQ4⟩
      have hQ4 := hQ4.thk 0
      rw [ro0 (p := (sp_next σq)) (ro_next σq ) hWq.z] at hQ4
      refine v_st [.int ((sp_next σq).1)] rfl ?_
      refine v_top (nI b0) hnx ?_
      refine v_istore_n [(3, .int (nI b0)), (0, .ref x), (1, .int v), (2, .int (nI 1))] o dL_isSo_101 rfl (by decide) rfl ?_
      refine v_iload_n 3 o dL_isSo_102 rfl rfl ?_
      refine v_if_eq_n 145 o dL_isSo_103 (by decide) (by decide) (fun c103 => absurd c103 (by decide)) (fun c103 => ?_)
      refine v_iload_n 0 o dL_isSo_106 rfl rfl ?_
      refine v_if_lt_n 119 o dL_isSo_107 (by decide) (by omega) (fun c107 => absurd c107 (by omega)) (fun c107 => ?_)
      refine v_aload_n 1 o dL_isSo_110 rfl rfl ?_
      refine v_iload_n 0 o dL_isSo_111 rfl rfl ?_
      refine v_iconst 0 o dL_isSo_112 rfl ?_
      refine v_callV [.int (nI b0), .int (nI 0)] [] o dL_isSo_113 cw_L_108 im_X5_about se_X5_about cf5 hQ4.h0 (k_about hl hQ4 hWq.I (nI b0) (nI 0)) rfl rfl ⟨Nat.le_of_ble_eq_true rfl, Nat.le_of_ble_eq_true rfl⟩ ⟨by show 3900 + 0 + 1 ≤ 4000; omega, by show 23400 + 0 + 6 ≤ 24000; omega⟩ (Nat.le_of_ble_eq_true rfl) ?_ (fun _ _ _ _ h => (clX_no h (ab_ok hWq hb0 (by decide))).elim)
      rintro r9 μ5 z5 hz5 ⟨rfl, h31, C5, κ5, hQ5⟩
      have hQ5 := hQ5.thk 0
      rw [ro0 (p := (sp_about σq (nI b0) (nI 0))) (ro_about σq (nI b0) (nI 0)) hWq.z] at hQ5
      refine v_st [.int ((sp_about σq (nI b0) (nI 0)).1)] rfl ?_
      refine v_if_le 145 o dL_isSo_116 (by decide) (fun c116 => absurd c116 hab) (fun c116 => ?_)
      refine v_aload_n 1 o dL_isSo_119 rfl rfl ?_
      refine v_bipush 6 o dL_isSo_120 (by decide) ?_
      refine v_iconst 0 o dL_isSo_122 rfl ?_
      refine v_callSW [.ref x, .int (nI 6), .int (nI 0)] [] o dL_isSo_123 cwh_L_186 (l_about hl hQ5 hWq.I (nI 6) (nI 0)) rfl rfl ⟨Nat.le_of_ble_eq_true rfl, Nat.le_of_ble_eq_true rfl⟩ ⟨by show 3900 + 0 + 1 + 1 ≤ 4000; omega, by show 23400 + 0 + 6 + 6 ≤ 24000; omega⟩ (Nat.le_of_ble_eq_true rfl) ?_ (fun _ _ _ _ h => h.elim)
      rintro r9 μ6 z6 hz6 ⟨rfl, C6, κ6, hQ6⟩
      rw [ro0 (p := (sp_about σq (nI 6) (nI 0))) (ro_about σq (nI 6) (nI 0)) hWq.z] at hQ6
      refine v_st [.int (wa (sp_about σq (nI 6) (nI 0)))] rfl ?_
      refine v_ldc (-99999999) o dL_isSo_126 ct_L_16 ?_
      refine v_icmp_ne 145 o dL_isSo_128 (by decide) (fun c128 => absurd c128 (not_not_intro (q_6b hWq))) (fun c128 => ?_)
      refine v_aload_n 1 o dL_isSo_131 rfl rfl ?_
      refine v_iconst 4 o dL_isSo_132 rfl ?_
      refine v_callSW [.ref x, .int (nI 4)] [] o dL_isSo_133 cwh_L_140 (l_burn hl hQ6 hWq.I (nI 4)) rfl rfl ⟨Nat.le_of_ble_eq_true rfl, Nat.le_of_ble_eq_true rfl⟩ ⟨by show 3900 + 0 + 1 + 1 + 1 ≤ 4000; omega, by show 23400 + 0 + 6 + 6 + 6 ≤ 24000; omega⟩ (Nat.le_of_ble_eq_true rfl) ?_ (fun _ _ _ _ h => h.elim)
      rintro r9 μ7 z7 hz7 ⟨rfl, C7, κ7, hQ7⟩
      refine v_st [.int (wa (sp_burn σq (nI 4)))] rfl ?_
      refine v_ldc (-99999999) o dL_isSo_136 ct_L_16 ?_
      refine v_icmp_ne 145 o dL_isSo_138 (by decide) (fun c138 => absurd c138 (not_not_intro (q_b4w σq))) (fun c138 => ?_)
      refine v_iconst 1 o dL_isSo_141 rfl ?_
      refine v_goto 146 o dL_isSo_142 (by decide) ?_
      exact v_zret o dL_isSo_146 hr (by decide) (Nat.le_of_ble_eq_true rfl) (Nat.le_of_ble_eq_true rfl) rfl
  have LB : ∀ (d k : Nat) (μq : mM) (zq : Nat) (Bq : Nat → Nat) (σq τq : Sg), k + d = 6 → JW σq → RC g x Bq z0 μ0 σq τq μq → V p l e { frames := 12, cells := 4000, slots := 24000, locals := 294 } s mi args below meth c (vx_MQ below (cQc g (fun r _ _ => r = some (.int 1))) (cXC g noX) args s ({ frames := 12, cells := 4000, slots := 24000, locals := 294 } : Room).cells ({ frames := 12, cells := 4000, slots := 24000, locals := 294 } : Room).slots (gA g)) g μq zq (100 + 500 * k) (600 + 3000 * k) 53 [(0, .ref x), (1, .int v), (2, .int (nI 1)), (3, .int (nI k))] [] := by
    intro d
    induction d with
    | zero =>
      intro k μq zq Bq σq τq hk hWq hRq
      obtain rfl : k = 6 := by omega
      refine v_iload_n 3 o dL_isSo_53 rfl rfl ?_
      refine v_bipush 6 o dL_isSo_54 (by decide) ?_
      refine v_icmp_ge_n 97 o dL_isSo_56 (by decide) (by decide) (by decide) (fun c56 => ?_) (fun c56 => absurd c56 (by omega))
      exact v_widen 3900 23400 (Nat.le_of_ble_eq_true rfl) (Nat.le_of_ble_eq_true rfl) (K97 _ _ _ _ _ hWq hRq)
    | succ d ih =>
      intro k μq zq Bq σq τq hk hWq hRq
      rcases q_ab hWq (show k < 6 by omega) with ⟨hbk, hne⟩ | hno
      · refine v_iload_n 3 o dL_isSo_53 rfl rfl ?_
        refine v_bipush 6 o dL_isSo_54 (by decide) ?_
        refine v_icmp_ge_n 97 o dL_isSo_56 (by decide) (by omega) (by decide) (fun c56 => absurd c56 (by omega)) (fun c56 => ?_)
        refine v_iload_n 2 o dL_isSo_59 rfl rfl ?_
        refine v_if_eq_n 97 o dL_isSo_60 (by decide) (by decide) (fun c60 => absurd c60 (by decide)) (fun c60 => ?_)
        refine v_aload_n 0 o dL_isSo_63 rfl rfl ?_
        refine v_iload_n 3 o dL_isSo_64 rfl rfl ?_
        refine v_iconst 0 o dL_isSo_65 rfl ?_
        refine v_callSW [.ref x, .int (nI k), .int (nI 0)] [] o dL_isSo_66 cwh_L_186 (l_about hl hRq hWq.I (nI k) (nI 0)) rfl rfl ⟨Nat.le_of_ble_eq_true rfl, Nat.le_of_ble_eq_true rfl⟩ ⟨by show (100 + 500 * k) + 1 ≤ 4000; omega, by show (600 + 3000 * k) + 6 ≤ 24000; omega⟩ (Nat.le_of_ble_eq_true rfl) ?_ (fun _ _ _ _ h => h.elim)
        rintro r9 μ8 z8 hz8 ⟨rfl, C8, κ8, hQ8⟩
        rw [ro0 (p := (sp_about σq (nI k) (nI 0))) (ro_about σq (nI k) (nI 0)) hWq.z] at hQ8
        refine v_st [.int (wa (sp_about σq (nI k) (nI 0)))] rfl ?_
        refine v_ldc (-99999999) o dL_isSo_69 ct_L_16 ?_
        refine v_icmp_eq 85 o dL_isSo_71 (by decide) (fun c71 => absurd c71 hne) (fun c71 => ?_)
        refine v_aload_n 0 o dL_isSo_74 rfl rfl ?_
        refine v_iload_n 3 o dL_isSo_75 rfl rfl ?_
        refine v_iload_n 1 o dL_isSo_76 rfl rfl ?_
        refine v_iload_n 3 o dL_isSo_77 rfl rfl ?_
        refine v_ishr (v >>> ((nI k) &&& 31)) o dL_isSo_78 rfl ?_
        refine v_callS [.ref x, .int (nI k), .int (v >>> ((nI k) &&& 31))] [] o dL_isSo_79 cw_L_190 st_L_isBookSo (l_isBookSo hl hQ8 hWq k hbk (v >>> ((nI k) &&& 31))) rfl rfl ⟨Nat.le_of_ble_eq_true rfl, Nat.le_of_ble_eq_true rfl⟩ ⟨by show (100 + 500 * k) + 1 + 400 ≤ 4000; omega, by show (600 + 3000 * k) + 6 + 2400 ≤ 24000; omega⟩ (Nat.le_of_ble_eq_true rfl) ?_ (fun _ _ _ _ h => h.elim)
        rintro r9 μ8 z8 hz8 ⟨rfl, σn, Bn, τn, hWn, hnn, hRn⟩
        refine v_st [.int (nI 1)] rfl ?_
        refine v_if_eq_n 89 o dL_isSo_82 (by decide) (by decide) (fun c82 => absurd c82 (by omega)) (fun c82 => ?_)
        refine v_iconst 1 o dL_isSo_85 rfl ?_
        refine v_goto 90 o dL_isSo_86 (by decide) ?_
        refine v_istore_n [(2, .int (nI 1)), (0, .ref x), (1, .int v), (3, .int (nI k))] o dL_isSo_90 rfl (by decide) rfl ?_
        refine v_iinc (nI (k + 1)) [(3, .int (nI (k + 1))), (2, .int (nI 1)), (0, .ref x), (1, .int v)] o dL_isSo_91 3 rfl (iinc_n k 1) (by decide) rfl ?_
        refine v_goto 53 o dL_isSo_94 (by decide) ?_
        refine v_sub [(0, .ref x), (1, .int v), (2, .int (nI 1)), (3, .int (nI (k + 1)))] [2, 3, 1, 0] rfl ?_
        exact v_widen (100 + 500 * (k + 1)) (600 + 3000 * (k + 1)) (by show (100 + 500 * k) + 1 + 400 ≤ 100 + 500 * (k + 1); omega) (by show (600 + 3000 * k) + 6 + 2400 ≤ 600 + 3000 * (k + 1); omega) (ih (k + 1) _ _ _ _ _ (by omega) hWn hRn)
      · refine v_iload_n 3 o dL_isSo_53 rfl rfl ?_
        refine v_bipush 6 o dL_isSo_54 (by decide) ?_
        refine v_icmp_ge_n 97 o dL_isSo_56 (by decide) (by omega) (by decide) (fun c56 => absurd c56 (by omega)) (fun c56 => ?_)
        refine v_iload_n 2 o dL_isSo_59 rfl rfl ?_
        refine v_if_eq_n 97 o dL_isSo_60 (by decide) (by decide) (fun c60 => absurd c60 (by decide)) (fun c60 => ?_)
        refine v_aload_n 0 o dL_isSo_63 rfl rfl ?_
        refine v_iload_n 3 o dL_isSo_64 rfl rfl ?_
        refine v_iconst 0 o dL_isSo_65 rfl ?_
        refine v_callSW [.ref x, .int (nI k), .int (nI 0)] [] o dL_isSo_66 cwh_L_186 (l_about hl hRq hWq.I (nI k) (nI 0)) rfl rfl ⟨Nat.le_of_ble_eq_true rfl, Nat.le_of_ble_eq_true rfl⟩ ⟨by show (100 + 500 * k) + 1 ≤ 4000; omega, by show (600 + 3000 * k) + 6 ≤ 24000; omega⟩ (Nat.le_of_ble_eq_true rfl) ?_ (fun _ _ _ _ h => h.elim)
        rintro r9 μ9 z9 hz9 ⟨rfl, C9, κ9, hQ9⟩
        rw [ro0 (p := (sp_about σq (nI k) (nI 0))) (ro_about σq (nI k) (nI 0)) hWq.z] at hQ9
        refine v_st [.int (wa (sp_about σq (nI k) (nI 0)))] rfl ?_
        refine v_ldc (-99999999) o dL_isSo_69 ct_L_16 ?_
        refine v_icmp_eq 85 o dL_isSo_71 (by decide) (fun c71 => ?_) (fun c71 => absurd c71 (not_not_intro hno))
        refine v_iconst 1 o dL_isSo_85 rfl ?_
        refine v_goto 90 o dL_isSo_86 (by decide) ?_
        refine v_istore_n [(2, .int (nI 1)), (0, .ref x), (1, .int v), (3, .int (nI k))] o dL_isSo_90 rfl (by decide) rfl ?_
        refine v_iinc (nI (k + 1)) [(3, .int (nI (k + 1))), (2, .int (nI 1)), (0, .ref x), (1, .int v)] o dL_isSo_91 3 rfl (iinc_n k 1) (by decide) rfl ?_
        refine v_goto 53 o dL_isSo_94 (by decide) ?_
        refine v_sub [(0, .ref x), (1, .int v), (2, .int (nI 1)), (3, .int (nI (k + 1)))] [2, 3, 1, 0] rfl ?_
        exact v_widen (100 + 500 * (k + 1)) (600 + 3000 * (k + 1)) (by show (100 + 500 * k) + 1 ≤ 100 + 500 * (k + 1); omega) (by show (600 + 3000 * k) + 6 ≤ 600 + 3000 * (k + 1); omega) (ih (k + 1) _ _ _ _ _ (by omega) hWq hQ9)
  have LA : ∀ (d k : Nat) (μq : mM) (zq : Nat) (Bq : Nat → Nat) (τq : Sg), k + d = 5 → RC g x Bq z0 μ0 σ τq μq → V p l e { frames := 12, cells := 4000, slots := 24000, locals := 294 } s mi args below meth c (vx_MQ below (cQc g (fun r _ _ => r = some (.int 1))) (cXC g noX) args s ({ frames := 12, cells := 4000, slots := 24000, locals := 294 } : Room).cells ({ frames := 12, cells := 4000, slots := 24000, locals := 294 } : Room).slots (gA g)) g μq zq (10 * k) (60 * k) 4 [(0, .ref x), (1, .int v), (2, .int (nI 1)), (3, .int (nI k))] [] := by
    intro d
    induction d with
    | zero =>
      intro k μq zq Bq τq hk hRq
      obtain rfl : k = 5 := by omega
      refine v_iload_n 3 o dL_isSo_4 rfl rfl ?_
      refine v_iconst 5 o dL_isSo_5 rfl ?_
      refine v_icmp_ge_n 51 o dL_isSo_6 (by decide) (by decide) (by decide) (fun c6 => ?_) (fun c6 => absurd c6 (by omega))
      refine v_iconst 0 o dL_isSo_51 rfl ?_
      refine v_istore_n [(3, .int (nI 0)), (0, .ref x), (1, .int v), (2, .int (nI 1))] o dL_isSo_52 rfl (by decide) rfl ?_
      refine v_sub [(0, .ref x), (1, .int v), (2, .int (nI 1)), (3, .int (nI 0))] [1, 2, 3, 0] rfl ?_
      exact v_widen 100 600 (Nat.le_of_ble_eq_true rfl) (Nat.le_of_ble_eq_true rfl) (LB 6 0 _ _ _ _ _ (by omega) hW hRq)
    | succ d ih =>
      intro k μq zq Bq τq hk hRq
      obtain ⟨t1, t2, t3, t4, t5⟩ := q_t (σ := σ) (show k < 5 by omega)
      refine v_iload_n 3 o dL_isSo_4 rfl rfl ?_
      refine v_iconst 5 o dL_isSo_5 rfl ?_
      refine v_icmp_ge_n 51 o dL_isSo_6 (by decide) (by omega) (by decide) (fun c6 => absurd c6 (by omega)) (fun c6 => ?_)
      refine v_iload_n 2 o dL_isSo_9 rfl rfl ?_
      refine v_if_eq_n 51 o dL_isSo_10 (by decide) (by decide) (fun c10 => absurd c10 (by decide)) (fun c10 => ?_)
      refine v_aload_n 0 o dL_isSo_13 rfl rfl ?_
      refine v_iload_n 3 o dL_isSo_14 rfl rfl ?_
      refine v_callV [.int (nI k)] [] o dL_isSo_15 cw_L_74 im_X5_trust se_X5_trust cf5 hRq.h0 (k_trust hl hRq hW.I (nI k)) rfl rfl ⟨Nat.le_of_ble_eq_true rfl, Nat.le_of_ble_eq_true rfl⟩ ⟨by show (10 * k) + 1 ≤ 4000; omega, by show (60 * k) + 6 ≤ 24000; omega⟩ (Nat.le_of_ble_eq_true rfl) ?_ (fun _ _ _ _ h => (clX_no h t4).elim)
      rintro r9 μ10 z10 hz10 ⟨rfl, h31, C10, κ10, hQ10⟩
      have hQ10 := hQ10.thk 0
      rw [ro0 (p := (sp_trust σ (nI k))) (ro_trust σ (nI k)) hW.z] at hQ10
      refine v_st [.int ((sp_trust σ (nI k)).1)] rfl ?_
      refine v_if_lt 43 o dL_isSo_18 (by decide) (fun c18 => absurd c18 t1) (fun c18 => ?_)
      refine v_aload_n 0 o dL_isSo_21 rfl rfl ?_
      refine v_iload_n 3 o dL_isSo_22 rfl rfl ?_
      refine v_callV [.int (nI k)] [] o dL_isSo_23 cw_L_74 im_X5_trust se_X5_trust cf5 hQ10.h0 (k_trust hl hQ10 hW.I (nI k)) rfl rfl ⟨Nat.le_of_ble_eq_true rfl, Nat.le_of_ble_eq_true rfl⟩ ⟨by show (10 * k) + 1 + 1 ≤ 4000; omega, by show (60 * k) + 6 + 6 ≤ 24000; omega⟩ (Nat.le_of_ble_eq_true rfl) ?_ (fun _ _ _ _ h => (clX_no h t4).elim)
      rintro r9 μ11 z11 hz11 ⟨rfl, h31, C11, κ11, hQ11⟩
      have hQ11 := hQ11.thk 0
      rw [ro0 (p := (sp_trust σ (nI k))) (ro_trust σ (nI k)) hW.z] at hQ11
      refine v_st [.int ((sp_trust σ (nI k)).1)] rfl ?_
      refine v_bipush 100 o dL_isSo_26 (by decide) ?_
      refine v_icmp_gt 43 o dL_isSo_28 (by decide) (fun c28 => absurd c28 t2) (fun c28 => ?_)
      refine v_aload_n 0 o dL_isSo_31 rfl rfl ?_
      refine v_iload_n 3 o dL_isSo_32 rfl rfl ?_
      refine v_callV [.int (nI k)] [] o dL_isSo_33 cw_L_77 im_X5_pay se_X5_pay cf5 hQ11.h0 (k_pay hl hQ11 hW.I (nI k)) rfl rfl ⟨Nat.le_of_ble_eq_true rfl, Nat.le_of_ble_eq_true rfl⟩ ⟨by show (10 * k) + 1 + 1 + 1 ≤ 4000; omega, by show (60 * k) + 6 + 6 + 6 ≤ 24000; omega⟩ (Nat.le_of_ble_eq_true rfl) ?_ (fun _ _ _ _ h => (clX_no h t5).elim)
      rintro r9 μ12 z12 hz12 ⟨rfl, h31, C12, κ12, hQ12⟩
      have hQ12 := hQ12.thk 0
      rw [ro0 (p := (sp_pay σ (nI k))) (ro_pay σ (nI k)) hW.z] at hQ12
      refine v_st [.int ((sp_pay σ (nI k)).1)] rfl ?_
      refine v_if_lt 43 o dL_isSo_36 (by decide) (fun c36 => absurd c36 t3) (fun c36 => ?_)
      refine v_iconst 1 o dL_isSo_39 rfl ?_
      refine v_goto 44 o dL_isSo_40 (by decide) ?_
      refine v_istore_n [(2, .int (nI 1)), (0, .ref x), (1, .int v), (3, .int (nI k))] o dL_isSo_44 rfl (by decide) rfl ?_
      refine v_iinc (nI (k + 1)) [(3, .int (nI (k + 1))), (2, .int (nI 1)), (0, .ref x), (1, .int v)] o dL_isSo_45 3 rfl (iinc_n k 1) (by decide) rfl ?_
      refine v_goto 4 o dL_isSo_48 (by decide) ?_
      refine v_sub [(0, .ref x), (1, .int v), (2, .int (nI 1)), (3, .int (nI (k + 1)))] [2, 3, 1, 0] rfl ?_
      exact v_widen (10 * (k + 1)) (60 * (k + 1)) (by show (10 * k) + 1 + 1 + 1 ≤ 10 * (k + 1); omega) (by show (60 * k) + 6 + 6 + 6 ≤ 60 * (k + 1); omega) (ih (k + 1) _ _ _ _ (by omega) hQ12)
  refine v_iconst 1 o dL_isSo_0 rfl ?_
  refine v_istore_n [(2, .int (nI 1)), (0, .ref x), (1, .int v)] o dL_isSo_1 rfl (by decide) rfl ?_
  refine v_iconst 0 o dL_isSo_2 rfl ?_
  refine v_istore_n [(3, .int (nI 0)), (2, .int (nI 1)), (0, .ref x), (1, .int v)] o dL_isSo_3 rfl (by decide) rfl ?_
  refine v_sub [(0, .ref x), (1, .int v), (2, .int (nI 1)), (3, .int (nI 0))] [2, 3, 1, 0] rfl ?_
  exact LA 5 0 _ _ _ _ (by omega) hR
