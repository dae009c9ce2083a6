set_option maxRecDepth 100000 in
set_option maxHeartbeats 4000000 in
theorem lc_look {p : Program} {l : Launch} {e : Env} {s : State} {mi : MethodId} {args : Array Value} {below : List Frame} {meth : Method} {c : Code} {Q : State → Prop} {g : mG} {bb L i x z k n : Nat} {xs : Nat → Int32} {σ : Sg} {μ : mM} (hl : l.stackTraces = false) (o : Ok p l s mi args meth c g cL_law 8 RL) (hX : va_X bb L xs s s.heap) (hbl : bb < s.heap.size) (hg : g.2.2 = s.heap.size) (hL : L ≤ 3072) (hi : i + 6 ≤ L) (hS : LWS g x σ μ z) (hk : k + 122 ≤ 601024) (hn : n + 584 ≤ 7293034)
    (kk : ∀ σ' μ' z', LWS g x σ' μ' z' → V p l e room_1 s mi args below meth c Q g μ' z' (k + 122) (n + 584) 2145 [(0, .ref bb), (1, .ref x), (2, .ref (x + 12)), (3, .ref (x + 38)), (4, .int (nI i))] []) : V p l e room_1 s mi args below meth c Q g μ z k n 413 [(0, .ref bb), (1, .ref x), (2, .ref (x + 12)), (3, .ref (x + 38)), (4, .int (nI i))] [] := by
  obtain ⟨hI, hM, ⟨B, τ, hR⟩, ⟨f, hf⟩, hz⟩ := hS
  refine v_aload_n 1 o dL_law_413 rfl rfl ?_
  refine v_aload_n 0 o dL_law_414 rfl rfl ?_
  refine v_iload 4 o dL_law_415 rfl ?_
  refine v_iconst 1 o dL_law_417 rfl ?_
  refine v_iadd (nI (i + 1)) o dL_law_418 (nI_add i 1) ?_
  refine v_sld (j := (i + 1)) o hX hbl hg dL_law_419 (by omega) (by omega) ?_
  refine v_aload_n 0 o dL_law_420 rfl rfl ?_
  refine v_iload 4 o dL_law_421 rfl ?_
  refine v_iconst 2 o dL_law_423 rfl ?_
  refine v_iadd (nI (i + 2)) o dL_law_424 (nI_add i 2) ?_
  refine v_sld (j := (i + 2)) o hX hbl hg dL_law_425 (by omega) (by omega) ?_
  refine v_aload_n 3 o dL_law_426 rfl rfl ?_
  refine v_callSW [.ref x, .int (xs (i + 1)), .int (xs (i + 2)), .ref (x + 38)] [] o dL_law_427 cwh_L_131 (w_look hl hR hI (xs (i + 1)) (xs (i + 2)) (by omega) (by omega) hf) rfl rfl ⟨Nat.le_of_ble_eq_true rfl, Nat.le_of_ble_eq_true rfl⟩ ⟨by show k + 1 ≤ 601024; omega, by show n + 6 ≤ 7293034; omega⟩ (Nat.le_of_ble_eq_true rfl) ?_ (fun _ _ _ _ h => h.elim)
  rintro r9 μ9 z9 hz9 ⟨rfl, B9, τ9, f9, hR9, hv9⟩
  obtain ⟨hM9, hf9⟩ := LWS.cls hM hR9
  refine v_st [.int (nI ((sp_look σ (xs (i + 1)) (xs (i + 2))).2.1 3 1))] rfl ?_
  refine v_istore [(5, .int (nI ((sp_look σ (xs (i + 1)) (xs (i + 2))).2.1 3 1))), (0, .ref bb), (1, .ref x), (2, .ref (x + 12)), (3, .ref (x + 38)), (4, .int (nI i))] o dL_law_430 (by decide) rfl ?_
  refine v_aload_n 3 o dL_law_432 rfl rfl ?_
  refine v_aload_n 1 o dL_law_433 rfl rfl ?_
  refine v_iload 5 o dL_law_434 rfl ?_
  refine v_iconst 1 o dL_law_436 rfl ?_
  refine v_iadd (nI (i + 1)) o dL_law_437 (nI_add i 1) ?_
  refine v_sld (j := (i + 1)) o hX hbl hg dL_law_438 (by omega) (by omega) ?_
  refine v_aload_n 1 o dL_law_439 rfl rfl ?_
  refine v_iload 5 o dL_law_440 rfl ?_
  refine v_iconst 2 o dL_law_442 rfl ?_
  refine v_iadd (nI (i + 2)) o dL_law_443 (nI_add i 2) ?_
  refine v_sld (j := (i + 2)) o hX hbl hg dL_law_444 (by omega) (by omega) ?_
  refine v_callV [.int (xs (i + 1)), .int (xs (i + 2))] [] o dL_law_445 cw_L_134 im_X6_look se_X6_look cf6 hM9.o (m_look hl hM9 hI (xs (i + 1)) (xs (i + 2))) rfl rfl ⟨Nat.le_of_ble_eq_true rfl, Nat.le_of_ble_eq_true rfl⟩ ⟨by show k + 1 + 0 ≤ 601024; omega, by show n + 6 + 0 ≤ 7293034; omega⟩ (Nat.le_of_ble_eq_true rfl) ?_ (fun _ _ _ _ h => h.elim)
  rintro r8 μ8 z8 hz8 ⟨rfl, hM8, rfl⟩
  have hs := scr.rf (σ := (sp_look σ (xs (i + 1)) (xs (i + 2))).2)
  obtain ⟨hL8, hf8⟩ := LWS.ref (z := z9) (I_look hI (xs (i + 1)) (xs (i + 2))) hs hR9 hf9 hM8 (by omega)
  refine v_st [.int ((sp_look σ (xs (i + 1)) (xs (i + 2))).1)] rfl ?_
  refine v_istore [(6, .int ((sp_look σ (xs (i + 1)) (xs (i + 2))).1)), (5, .int (nI ((sp_look σ (xs (i + 1)) (xs (i + 2))).2.1 3 1))), (0, .ref bb), (1, .ref x), (2, .ref (x + 12)), (3, .ref (x + 38)), (4, .int (nI i))] o dL_law_448 (by decide) rfl ?_
  refine v_aload_n 4 o dL_law_450 rfl rfl ?_
  refine v_callVr (v := .int (nI ((sp_look σ (xs (i + 1)) (xs (i + 2))).2.1 3 1))) [] [] o dL_law_451 cw_L_117 im_X6_thrown se_X6_thrown cf6 hM8.o (m_thrown hl hM8) rfl rfl ⟨Nat.le_of_ble_eq_true rfl, Nat.le_of_ble_eq_true rfl⟩ ⟨rfl, rfl⟩ ⟨by show k + 1 + 0 ≤ 601024; omega, by show n + 6 + 0 ≤ 7293034; omega⟩ (Nat.le_of_ble_eq_true rfl) ?_
  refine v_iload 1 o dL_law_454 rfl ?_
  refine v_icmp_eq 461 o dL_law_456 (by decide) (fun c456 => ?_) (fun c456 => absurd c456 (not_not_intro rfl))
  refine v_iload 1 o dL_law_461 rfl ?_
  refine v_if_ne 485 o dL_law_463 (by decide) (fun c463 => ?_) (fun c463 => ?_)
  · refine v_goto 2145 o dL_law_485 (by decide) ?_
    refine v_sub [(0, .ref bb), (1, .ref x), (2, .ref (x + 12)), (3, .ref (x + 38)), (4, .int (nI i))] [2, 3, 4, 5, 6] rfl ?_
    refine v_widen (k + 122) (n + 584) (by show k + 1 + 0 + 0 ≤ _; omega) (by show n + 6 + 0 + 0 ≤ _; omega) ?_
    exact kk _ _ _ hL8
  · refine v_aload_n 5 o dL_law_466 rfl rfl ?_
    refine v_iconst 0 o dL_law_467 rfl ?_
    refine v_lald (f9 0) o dL_law_468 (by decide) (by decide) hf8 rfl ?_
    refine v_iload 0 o dL_law_469 rfl ?_
    refine v_if_eq 478 o dL_law_471 (by decide) (fun c471 => ?_) (fun c471 => ?_)
    · refine v_lconst 0 o dL_law_478 (by decide) ?_
      refine v_lcmp o dL_law_479 ?_
      refine v_if_eq_c 485 o dL_law_480 (by decide) (fun c480 => ?_) (fun c480 => absurd c480 (not_not_intro ((hv9 c463).trans (by rw [c471]; rfl))))
      refine v_goto 2145 o dL_law_485 (by decide) ?_
      refine v_sub [(0, .ref bb), (1, .ref x), (2, .ref (x + 12)), (3, .ref (x + 38)), (4, .int (nI i))] [2, 3, 4, 5, 6] rfl ?_
      refine v_widen (k + 122) (n + 584) (by show k + 1 + 0 + 0 ≤ _; omega) (by show n + 6 + 0 + 0 ≤ _; omega) ?_
      exact kk _ _ _ hL8
    · refine v_lconst 1 o dL_law_474 (by decide) ?_
      refine v_goto 479 o dL_law_475 (by decide) ?_
      refine v_lcmp o dL_law_479 ?_
      refine v_if_eq_c 485 o dL_law_480 (by decide) (fun c480 => ?_) (fun c480 => absurd c480 (not_not_intro ((hv9 c463).trans (by rw [(bb_look σ (xs (i + 1)) (xs (i + 2))).resolve_left c471]; rfl))))
      refine v_goto 2145 o dL_law_485 (by decide) ?_
      refine v_sub [(0, .ref bb), (1, .ref x), (2, .ref (x + 12)), (3, .ref (x + 38)), (4, .int (nI i))] [2, 3, 4, 5, 6] rfl ?_
      refine v_widen (k + 122) (n + 584) (by show k + 1 + 0 + 0 ≤ _; omega) (by show n + 6 + 0 + 0 ≤ _; omega) ?_
      exact kk _ _ _ hL8

set_option maxRecDepth 100000 in
set_option maxHeartbeats 4000000 in
theorem lc_rot {p : Program} {l : Launch} {e : Env} {s : State} {mi : MethodId} {args : Array Value} {below : List Frame} {meth : Method} {c : Code} {Q : State → Prop} {g : mG} {bb L i x z k n : Nat} {xs : Nat → Int32} {σ : Sg} {μ : mM} (hl : l.stackTraces = false) (o : Ok p l s mi args meth c g cL_law 8 RL) (hX : va_X bb L xs s s.heap) (hbl : bb < s.heap.size) (hg : g.2.2 = s.heap.size) (hL : L ≤ 3072) (hi : i + 6 ≤ L) (hS : LWS g x σ μ z) (hk : k + 122 ≤ 601024) (hn : n + 584 ≤ 7293034)
    (kk : ∀ σ' μ' z', LWS g x σ' μ' z' → V p l e room_1 s mi args below meth c Q g μ' z' (k + 122) (n + 584) 2145 [(0, .ref bb), (1, .ref x), (2, .ref (x + 12)), (3, .ref (x + 38)), (4, .int (nI i))] []) : V p l e room_1 s mi args below meth c Q g μ z k n 501 [(0, .ref bb), (1, .ref x), (2, .ref (x + 12)), (3, .ref (x + 38)), (4, .int (nI i))] [] := by
  obtain ⟨hI, hM, ⟨B, τ, hR⟩, ⟨f, hf⟩, hz⟩ := hS
  refine v_aload_n 1 o dL_law_501 rfl rfl ?_
  refine v_aload_n 0 o dL_law_502 rfl rfl ?_
  refine v_iload 4 o dL_law_503 rfl ?_
  refine v_iconst 1 o dL_law_505 rfl ?_
  refine v_iadd (nI (i + 1)) o dL_law_506 (nI_add i 1) ?_
  refine v_sld (j := (i + 1)) o hX hbl hg dL_law_507 (by omega) (by omega) ?_
  refine v_aload_n 0 o dL_law_508 rfl rfl ?_
  refine v_iload 4 o dL_law_509 rfl ?_
  refine v_iconst 2 o dL_law_511 rfl ?_
  refine v_iadd (nI (i + 2)) o dL_law_512 (nI_add i 2) ?_
  refine v_sld (j := (i + 2)) o hX hbl hg dL_law_513 (by omega) (by omega) ?_
  refine v_aload_n 0 o dL_law_514 rfl rfl ?_
  refine v_iload 4 o dL_law_515 rfl ?_
  refine v_iconst 3 o dL_law_517 rfl ?_
  refine v_iadd (nI (i + 3)) o dL_law_518 (nI_add i 3) ?_
  refine v_sld (j := (i + 3)) o hX hbl hg dL_law_519 (by omega) (by omega) ?_
  refine v_aload_n 0 o dL_law_520 rfl rfl ?_
  refine v_iload 4 o dL_law_521 rfl ?_
  refine v_iconst 4 o dL_law_523 rfl ?_
  refine v_iadd (nI (i + 4)) o dL_law_524 (nI_add i 4) ?_
  refine v_sld (j := (i + 4)) o hX hbl hg dL_law_525 (by omega) (by omega) ?_
  refine v_aload_n 3 o dL_law_526 rfl rfl ?_
  refine v_callSW [.ref x, .int (xs (i + 1)), .int (xs (i + 2)), .int (xs (i + 3)), .int (xs (i + 4)), .ref (x + 38)] [] o dL_law_527 cwh_L_139 (w_rot hl hR hI (xs (i + 1)) (xs (i + 2)) (xs (i + 3)) (xs (i + 4)) (by omega) (by omega) hf) rfl rfl ⟨Nat.le_of_ble_eq_true rfl, Nat.le_of_ble_eq_true rfl⟩ ⟨by show k + 1 ≤ 601024; omega, by show n + 6 ≤ 7293034; omega⟩ (Nat.le_of_ble_eq_true rfl) ?_ (fun _ _ _ _ h => h.elim)
  rintro r9 μ9 z9 hz9 ⟨rfl, B9, τ9, f9, hR9, hv9⟩
  obtain ⟨hM9, hf9⟩ := LWS.cls hM hR9
  refine v_st [.int (nI ((sp_rot σ (xs (i + 1)) (xs (i + 2)) (xs (i + 3)) (xs (i + 4))).2.1 3 1))] rfl ?_
  refine v_istore [(5, .int (nI ((sp_rot σ (xs (i + 1)) (xs (i + 2)) (xs (i + 3)) (xs (i + 4))).2.1 3 1))), (0, .ref bb), (1, .ref x), (2, .ref (x + 12)), (3, .ref (x + 38)), (4, .int (nI i))] o dL_law_530 (by decide) rfl ?_
  refine v_aload_n 3 o dL_law_532 rfl rfl ?_
  refine v_aload_n 1 o dL_law_533 rfl rfl ?_
  refine v_iload 5 o dL_law_534 rfl ?_
  refine v_iconst 1 o dL_law_536 rfl ?_
  refine v_iadd (nI (i + 1)) o dL_law_537 (nI_add i 1) ?_
  refine v_sld (j := (i + 1)) o hX hbl hg dL_law_538 (by omega) (by omega) ?_
  refine v_aload_n 1 o dL_law_539 rfl rfl ?_
  refine v_iload 5 o dL_law_540 rfl ?_
  refine v_iconst 2 o dL_law_542 rfl ?_
  refine v_iadd (nI (i + 2)) o dL_law_543 (nI_add i 2) ?_
  refine v_sld (j := (i + 2)) o hX hbl hg dL_law_544 (by omega) (by omega) ?_
  refine v_aload_n 1 o dL_law_545 rfl rfl ?_
  refine v_iload 5 o dL_law_546 rfl ?_
  refine v_iconst 3 o dL_law_548 rfl ?_
  refine v_iadd (nI (i + 3)) o dL_law_549 (nI_add i 3) ?_
  refine v_sld (j := (i + 3)) o hX hbl hg dL_law_550 (by omega) (by omega) ?_
  refine v_aload_n 1 o dL_law_551 rfl rfl ?_
  refine v_iload 5 o dL_law_552 rfl ?_
  refine v_iconst 4 o dL_law_554 rfl ?_
  refine v_iadd (nI (i + 4)) o dL_law_555 (nI_add i 4) ?_
  refine v_sld (j := (i + 4)) o hX hbl hg dL_law_556 (by omega) (by omega) ?_
  refine v_callV [.int (xs (i + 1)), .int (xs (i + 2)), .int (xs (i + 3)), .int (xs (i + 4))] [] o dL_law_557 cw_L_142 im_X6_rot se_X6_rot cf6 hM9.o (m_rot hl hM9 hI (xs (i + 1)) (xs (i + 2)) (xs (i + 3)) (xs (i + 4))) rfl rfl ⟨Nat.le_of_ble_eq_true rfl, Nat.le_of_ble_eq_true rfl⟩ ⟨by show k + 1 + 0 ≤ 601024; omega, by show n + 6 + 0 ≤ 7293034; omega⟩ (Nat.le_of_ble_eq_true rfl) ?_ (fun _ _ _ _ h => h.elim)
  rintro r8 μ8 z8 hz8 ⟨rfl, hM8, rfl⟩
  have hs := scr.rf (σ := (sp_rot σ (xs (i + 1)) (xs (i + 2)) (xs (i + 3)) (xs (i + 4))).2)
  obtain ⟨hL8, hf8⟩ := LWS.ref (z := z9) (I_rot hI (xs (i + 1)) (xs (i + 2)) (xs (i + 3)) (xs (i + 4))) hs hR9 hf9 hM8 (by omega)
  refine v_st [.int ((sp_rot σ (xs (i + 1)) (xs (i + 2)) (xs (i + 3)) (xs (i + 4))).1)] rfl ?_
  refine v_istore [(6, .int ((sp_rot σ (xs (i + 1)) (xs (i + 2)) (xs (i + 3)) (xs (i + 4))).1)), (5, .int (nI ((sp_rot σ (xs (i + 1)) (xs (i + 2)) (xs (i + 3)) (xs (i + 4))).2.1 3 1))), (0, .ref bb), (1, .ref x), (2, .ref (x + 12)), (3, .ref (x + 38)), (4, .int (nI i))] o dL_law_560 (by decide) rfl ?_
  refine v_aload_n 4 o dL_law_562 rfl rfl ?_
  refine v_callVr (v := .int (nI ((sp_rot σ (xs (i + 1)) (xs (i + 2)) (xs (i + 3)) (xs (i + 4))).2.1 3 1))) [] [] o dL_law_563 cw_L_117 im_X6_thrown se_X6_thrown cf6 hM8.o (m_thrown hl hM8) rfl rfl ⟨Nat.le_of_ble_eq_true rfl, Nat.le_of_ble_eq_true rfl⟩ ⟨rfl, rfl⟩ ⟨by show k + 1 + 0 ≤ 601024; omega, by show n + 6 + 0 ≤ 7293034; omega⟩ (Nat.le_of_ble_eq_true rfl) ?_
  refine v_iload 1 o dL_law_566 rfl ?_
  refine v_icmp_eq 573 o dL_law_568 (by decide) (fun c568 => ?_) (fun c568 => absurd c568 (not_not_intro rfl))
  refine v_iload 1 o dL_law_573 rfl ?_
  refine v_if_ne 597 o dL_law_575 (by decide) (fun c575 => ?_) (fun c575 => ?_)
  · refine v_goto 2145 o dL_law_597 (by decide) ?_
    refine v_sub [(0, .ref bb), (1, .ref x), (2, .ref (x + 12)), (3, .ref (x + 38)), (4, .int (nI i))] [2, 3, 4, 5, 6] rfl ?_
    refine v_widen (k + 122) (n + 584) (by show k + 1 + 0 + 0 ≤ _; omega) (by show n + 6 + 0 + 0 ≤ _; omega) ?_
    exact kk _ _ _ hL8
  · refine v_aload_n 5 o dL_law_578 rfl rfl ?_
    refine v_iconst 0 o dL_law_579 rfl ?_
    refine v_lald (f9 0) o dL_law_580 (by decide) (by decide) hf8 rfl ?_
    refine v_iload 0 o dL_law_581 rfl ?_
    refine v_if_eq 590 o dL_law_583 (by decide) (fun c583 => ?_) (fun c583 => ?_)
    · refine v_lconst 0 o dL_law_590 (by decide) ?_
      refine v_lcmp o dL_law_591 ?_
      refine v_if_eq_c 597 o dL_law_592 (by decide) (fun c592 => ?_) (fun c592 => absurd c592 (not_not_intro ((hv9 c575).trans (by rw [c583]; rfl))))
      refine v_goto 2145 o dL_law_597 (by decide) ?_
      refine v_sub [(0, .ref bb), (1, .ref x), (2, .ref (x + 12)), (3, .ref (x + 38)), (4, .int (nI i))] [2, 3, 4, 5, 6] rfl ?_
      refine v_widen (k + 122) (n + 584) (by show k + 1 + 0 + 0 ≤ _; omega) (by show n + 6 + 0 + 0 ≤ _; omega) ?_
      exact kk _ _ _ hL8
    · refine v_lconst 1 o dL_law_586 (by decide) ?_
      refine v_goto 591 o dL_law_587 (by decide) ?_
      refine v_lcmp o dL_law_591 ?_
      refine v_if_eq_c 597 o dL_law_592 (by decide) (fun c592 => ?_) (fun c592 => absurd c592 (not_not_intro ((hv9 c575).trans (by rw [(bb_rot σ (xs (i + 1)) (xs (i + 2)) (xs (i + 3)) (xs (i + 4))).resolve_left c583]; rfl))))
      refine v_goto 2145 o dL_law_597 (by decide) ?_
      refine v_sub [(0, .ref bb), (1, .ref x), (2, .ref (x + 12)), (3, .ref (x + 38)), (4, .int (nI i))] [2, 3, 4, 5, 6] rfl ?_
      refine v_widen (k + 122) (n + 584) (by show k + 1 + 0 + 0 ≤ _; omega) (by show n + 6 + 0 + 0 ≤ _; omega) ?_
      exact kk _ _ _ hL8

set_option maxRecDepth 100000 in
set_option maxHeartbeats 4000000 in
theorem lc_isLost {p : Program} {l : Launch} {e : Env} {s : State} {mi : MethodId} {args : Array Value} {below : List Frame} {meth : Method} {c : Code} {Q : State → Prop} {g : mG} {bb L i x z k n : Nat} {xs : Nat → Int32} {σ : Sg} {μ : mM} (hl : l.stackTraces = false) (o : Ok p l s mi args meth c g cL_law 8 RL) (hX : va_X bb L xs s s.heap) (hbl : bb < s.heap.size) (hg : g.2.2 = s.heap.size) (hL : L ≤ 3072) (hi : i + 6 ≤ L) (hS : LWS g x σ μ z) (hk : k + 122 ≤ 601024) (hn : n + 584 ≤ 7293034)
    (kk : ∀ σ' μ' z', LWS g x σ' μ' z' → V p l e room_1 s mi args below meth c Q g μ' z' (k + 122) (n + 584) 2145 [(0, .ref bb), (1, .ref x), (2, .ref (x + 12)), (3, .ref (x + 38)), (4, .int (nI i))] []) : V p l e room_1 s mi args below meth c Q g μ z k n 920 [(0, .ref bb), (1, .ref x), (2, .ref (x + 12)), (3, .ref (x + 38)), (4, .int (nI i))] [] := by
  obtain ⟨hI, hM, ⟨B, τ, hR⟩, ⟨f, hf⟩, hz⟩ := hS
  refine v_aload_n 1 o dL_law_920 rfl rfl ?_
  refine v_aload_n 0 o dL_law_921 rfl rfl ?_
  refine v_iload 4 o dL_law_922 rfl ?_
  refine v_iconst 1 o dL_law_924 rfl ?_
  refine v_iadd (nI (i + 1)) o dL_law_925 (nI_add i 1) ?_
  refine v_sld (j := (i + 1)) o hX hbl hg dL_law_926 (by omega) (by omega) ?_
  refine v_aload_n 0 o dL_law_927 rfl rfl ?_
  refine v_iload 4 o dL_law_928 rfl ?_
  refine v_iconst 2 o dL_law_930 rfl ?_
  refine v_iadd (nI (i + 2)) o dL_law_931 (nI_add i 2) ?_
  refine v_sld (j := (i + 2)) o hX hbl hg dL_law_932 (by omega) (by omega) ?_
  refine v_aload_n 3 o dL_law_933 rfl rfl ?_
  refine v_callSW [.ref x, .int (xs (i + 1)), .int (xs (i + 2)), .ref (x + 38)] [] o dL_law_934 cwh_L_165 (w_isLost hl hR hI (xs (i + 1)) (xs (i + 2)) (by omega) (by omega) hf) rfl rfl ⟨Nat.le_of_ble_eq_true rfl, Nat.le_of_ble_eq_true rfl⟩ ⟨by show k + 1 ≤ 601024; omega, by show n + 6 ≤ 7293034; omega⟩ (Nat.le_of_ble_eq_true rfl) ?_ (fun _ _ _ _ h => h.elim)
  rintro r9 μ9 z9 hz9 ⟨rfl, B9, τ9, f9, hR9, hv9⟩
  obtain ⟨hM9, hf9⟩ := LWS.cls hM hR9
  refine v_st [.int (nI ((sp_isLost σ (xs (i + 1)) (xs (i + 2))).2.1 3 1))] rfl ?_
  refine v_istore [(5, .int (nI ((sp_isLost σ (xs (i + 1)) (xs (i + 2))).2.1 3 1))), (0, .ref bb), (1, .ref x), (2, .ref (x + 12)), (3, .ref (x + 38)), (4, .int (nI i))] o dL_law_937 (by decide) rfl ?_
  refine v_aload_n 3 o dL_law_939 rfl rfl ?_
  refine v_aload_n 1 o dL_law_940 rfl rfl ?_
  refine v_iload 5 o dL_law_941 rfl ?_
  refine v_iconst 1 o dL_law_943 rfl ?_
  refine v_iadd (nI (i + 1)) o dL_law_944 (nI_add i 1) ?_
  refine v_sld (j := (i + 1)) o hX hbl hg dL_law_945 (by omega) (by omega) ?_
  refine v_aload_n 1 o dL_law_946 rfl rfl ?_
  refine v_iload 5 o dL_law_947 rfl ?_
  refine v_iconst 2 o dL_law_949 rfl ?_
  refine v_iadd (nI (i + 2)) o dL_law_950 (nI_add i 2) ?_
  refine v_sld (j := (i + 2)) o hX hbl hg dL_law_951 (by omega) (by omega) ?_
  refine v_callV [.int (xs (i + 1)), .int (xs (i + 2))] [] o dL_law_952 cw_L_167 im_X6_isLost se_X6_isLost cf6 hM9.o (m_isLost hl hM9 hI (xs (i + 1)) (xs (i + 2))) rfl rfl ⟨Nat.le_of_ble_eq_true rfl, Nat.le_of_ble_eq_true rfl⟩ ⟨by show k + 1 + 0 ≤ 601024; omega, by show n + 6 + 0 ≤ 7293034; omega⟩ (Nat.le_of_ble_eq_true rfl) ?_ (fun _ _ _ _ h => h.elim)
  rintro r8 μ8 z8 hz8 ⟨rfl, hM8, rfl⟩
  have hs := scr.rf (σ := (sp_isLost σ (xs (i + 1)) (xs (i + 2))).2)
  obtain ⟨hL8, hf8⟩ := LWS.ref (z := z9) (I_isLost hI (xs (i + 1)) (xs (i + 2))) hs hR9 hf9 hM8 (by omega)
  refine v_st [.int ((sp_isLost σ (xs (i + 1)) (xs (i + 2))).1)] rfl ?_
  refine v_istore [(6, .int ((sp_isLost σ (xs (i + 1)) (xs (i + 2))).1)), (5, .int (nI ((sp_isLost σ (xs (i + 1)) (xs (i + 2))).2.1 3 1))), (0, .ref bb), (1, .ref x), (2, .ref (x + 12)), (3, .ref (x + 38)), (4, .int (nI i))] o dL_law_955 (by decide) rfl ?_
  refine v_aload_n 4 o dL_law_957 rfl rfl ?_
  refine v_callVr (v := .int (nI ((sp_isLost σ (xs (i + 1)) (xs (i + 2))).2.1 3 1))) [] [] o dL_law_958 cw_L_117 im_X6_thrown se_X6_thrown cf6 hM8.o (m_thrown hl hM8) rfl rfl ⟨Nat.le_of_ble_eq_true rfl, Nat.le_of_ble_eq_true rfl⟩ ⟨rfl, rfl⟩ ⟨by show k + 1 + 0 ≤ 601024; omega, by show n + 6 + 0 ≤ 7293034; omega⟩ (Nat.le_of_ble_eq_true rfl) ?_
  refine v_iload 1 o dL_law_961 rfl ?_
  refine v_icmp_eq 968 o dL_law_963 (by decide) (fun c963 => ?_) (fun c963 => absurd c963 (not_not_intro rfl))
  refine v_iload 1 o dL_law_968 rfl ?_
  refine v_if_ne 992 o dL_law_970 (by decide) (fun c970 => ?_) (fun c970 => ?_)
  · refine v_goto 2145 o dL_law_992 (by decide) ?_
    refine v_sub [(0, .ref bb), (1, .ref x), (2, .ref (x + 12)), (3, .ref (x + 38)), (4, .int (nI i))] [2, 3, 4, 5, 6] rfl ?_
    refine v_widen (k + 122) (n + 584) (by show k + 1 + 0 + 0 ≤ _; omega) (by show n + 6 + 0 + 0 ≤ _; omega) ?_
    exact kk _ _ _ hL8
  · refine v_aload_n 5 o dL_law_973 rfl rfl ?_
    refine v_iconst 0 o dL_law_974 rfl ?_
    refine v_lald (f9 0) o dL_law_975 (by decide) (by decide) hf8 rfl ?_
    refine v_iload 0 o dL_law_976 rfl ?_
    refine v_if_eq 985 o dL_law_978 (by decide) (fun c978 => ?_) (fun c978 => ?_)
    · refine v_lconst 0 o dL_law_985 (by decide) ?_
      refine v_lcmp o dL_law_986 ?_
      refine v_if_eq_c 992 o dL_law_987 (by decide) (fun c987 => ?_) (fun c987 => absurd c987 (not_not_intro ((hv9 c970).trans (by rw [c978]; rfl))))
      refine v_goto 2145 o dL_law_992 (by decide) ?_
      refine v_sub [(0, .ref bb), (1, .ref x), (2, .ref (x + 12)), (3, .ref (x + 38)), (4, .int (nI i))] [2, 3, 4, 5, 6] rfl ?_
      refine v_widen (k + 122) (n + 584) (by show k + 1 + 0 + 0 ≤ _; omega) (by show n + 6 + 0 + 0 ≤ _; omega) ?_
      exact kk _ _ _ hL8
    · refine v_lconst 1 o dL_law_981 (by decide) ?_
      refine v_goto 986 o dL_law_982 (by decide) ?_
      refine v_lcmp o dL_law_986 ?_
      refine v_if_eq_c 992 o dL_law_987 (by decide) (fun c987 => ?_) (fun c987 => absurd c987 (not_not_intro ((hv9 c970).trans (by rw [(bb_isLost σ (xs (i + 1)) (xs (i + 2))).resolve_left c978]; rfl))))
      refine v_goto 2145 o dL_law_992 (by decide) ?_
      refine v_sub [(0, .ref bb), (1, .ref x), (2, .ref (x + 12)), (3, .ref (x + 38)), (4, .int (nI i))] [2, 3, 4, 5, 6] rfl ?_
      refine v_widen (k + 122) (n + 584) (by show k + 1 + 0 + 0 ≤ _; omega) (by show n + 6 + 0 + 0 ≤ _; omega) ?_
      exact kk _ _ _ hL8

set_option maxRecDepth 100000 in
set_option maxHeartbeats 4000000 in
theorem lc_search {p : Program} {l : Launch} {e : Env} {s : State} {mi : MethodId} {args : Array Value} {below : List Frame} {meth : Method} {c : Code} {Q : State → Prop} {g : mG} {bb L i x z k n : Nat} {xs : Nat → Int32} {σ : Sg} {μ : mM} (hl : l.stackTraces = false) (o : Ok p l s mi args meth c g cL_law 8 RL) (hX : va_X bb L xs s s.heap) (hbl : bb < s.heap.size) (hg : g.2.2 = s.heap.size) (hL : L ≤ 3072) (hi : i + 6 ≤ L) (hS : LWS g x σ μ z) (hk : k + 122 ≤ 601024) (hn : n + 584 ≤ 7293034)
    (kk : ∀ σ' μ' z', LWS g x σ' μ' z' → V p l e room_1 s mi args below meth c Q g μ' z' (k + 122) (n + 584) 2145 [(0, .ref bb), (1, .ref x), (2, .ref (x + 12)), (3, .ref (x + 38)), (4, .int (nI i))] []) : V p l e room_1 s mi args below meth c Q g μ z k n 1843 [(0, .ref bb), (1, .ref x), (2, .ref (x + 12)), (3, .ref (x + 38)), (4, .int (nI i))] [] := by
  obtain ⟨hI, hM, ⟨B, τ, hR⟩, ⟨f, hf⟩, hz⟩ := hS
  refine v_aload_n 1 o dL_law_1843 rfl rfl ?_
  refine v_aload_n 0 o dL_law_1844 rfl rfl ?_
  refine v_iload 4 o dL_law_1845 rfl ?_
  refine v_iconst 1 o dL_law_1847 rfl ?_
  refine v_iadd (nI (i + 1)) o dL_law_1848 (nI_add i 1) ?_
  refine v_sld (j := (i + 1)) o hX hbl hg dL_law_1849 (by omega) (by omega) ?_
  refine v_aload_n 3 o dL_law_1850 rfl rfl ?_
  refine v_callSW [.ref x, .int (xs (i + 1)), .ref (x + 38)] [] o dL_law_1851 cwh_L_206 (w_search hl hR hI (xs (i + 1)) (by omega) (by omega) hf) rfl rfl ⟨Nat.le_of_ble_eq_true rfl, Nat.le_of_ble_eq_true rfl⟩ ⟨by show k + 1 ≤ 601024; omega, by show n + 6 ≤ 7293034; omega⟩ (Nat.le_of_ble_eq_true rfl) ?_ (fun _ _ _ _ h => h.elim)
  rintro r9 μ9 z9 hz9 ⟨rfl, B9, τ9, f9, hR9, hv9⟩
  obtain ⟨hM9, hf9⟩ := LWS.cls hM hR9
  refine v_st [.int (nI ((sp_search σ (xs (i + 1))).2.1 3 1))] rfl ?_
  refine v_istore [(5, .int (nI ((sp_search σ (xs (i + 1))).2.1 3 1))), (0, .ref bb), (1, .ref x), (2, .ref (x + 12)), (3, .ref (x + 38)), (4, .int (nI i))] o dL_law_1854 (by decide) rfl ?_
  refine v_aload_n 3 o dL_law_1856 rfl rfl ?_
  refine v_aload_n 1 o dL_law_1857 rfl rfl ?_
  refine v_iload 5 o dL_law_1858 rfl ?_
  refine v_iconst 1 o dL_law_1860 rfl ?_
  refine v_iadd (nI (i + 1)) o dL_law_1861 (nI_add i 1) ?_
  refine v_sld (j := (i + 1)) o hX hbl hg dL_law_1862 (by omega) (by omega) ?_
  refine v_callV [.int (xs (i + 1))] [] o dL_law_1863 cw_L_208 im_X6_search se_X6_search cf6 hM9.o (m_search hl hM9 hI (xs (i + 1))) rfl rfl ⟨Nat.le_of_ble_eq_true rfl, Nat.le_of_ble_eq_true rfl⟩ ⟨by show k + 1 + 0 ≤ 601024; omega, by show n + 6 + 0 ≤ 7293034; omega⟩ (Nat.le_of_ble_eq_true rfl) ?_ (fun _ _ _ _ h => h.elim)
  rintro r8 μ8 z8 hz8 ⟨rfl, hM8, rfl⟩
  have hs := scr.rf (σ := (sp_search σ (xs (i + 1))).2)
  obtain ⟨hL8, hf8⟩ := LWS.ref (z := z9) (I_search hI (xs (i + 1))) hs hR9 hf9 hM8 (by omega)
  refine v_st [.int ((sp_search σ (xs (i + 1))).1)] rfl ?_
  refine v_istore [(6, .int ((sp_search σ (xs (i + 1))).1)), (5, .int (nI ((sp_search σ (xs (i + 1))).2.1 3 1))), (0, .ref bb), (1, .ref x), (2, .ref (x + 12)), (3, .ref (x + 38)), (4, .int (nI i))] o dL_law_1866 (by decide) rfl ?_
  refine v_aload_n 4 o dL_law_1868 rfl rfl ?_
  refine v_callVr (v := .int (nI ((sp_search σ (xs (i + 1))).2.1 3 1))) [] [] o dL_law_1869 cw_L_117 im_X6_thrown se_X6_thrown cf6 hM8.o (m_thrown hl hM8) rfl rfl ⟨Nat.le_of_ble_eq_true rfl, Nat.le_of_ble_eq_true rfl⟩ ⟨rfl, rfl⟩ ⟨by show k + 1 + 0 ≤ 601024; omega, by show n + 6 + 0 ≤ 7293034; omega⟩ (Nat.le_of_ble_eq_true rfl) ?_
  refine v_iload 1 o dL_law_1872 rfl ?_
  refine v_icmp_eq 1879 o dL_law_1874 (by decide) (fun c1874 => ?_) (fun c1874 => absurd c1874 (not_not_intro rfl))
  refine v_iload 1 o dL_law_1879 rfl ?_
  refine v_if_ne 1903 o dL_law_1881 (by decide) (fun c1881 => ?_) (fun c1881 => ?_)
  · refine v_goto 2145 o dL_law_1903 (by decide) ?_
    refine v_sub [(0, .ref bb), (1, .ref x), (2, .ref (x + 12)), (3, .ref (x + 38)), (4, .int (nI i))] [2, 3, 4, 5, 6] rfl ?_
    refine v_widen (k + 122) (n + 584) (by show k + 1 + 0 + 0 ≤ _; omega) (by show n + 6 + 0 + 0 ≤ _; omega) ?_
    exact kk _ _ _ hL8
  · refine v_aload_n 5 o dL_law_1884 rfl rfl ?_
    refine v_iconst 0 o dL_law_1885 rfl ?_
    refine v_lald (f9 0) o dL_law_1886 (by decide) (by decide) hf8 rfl ?_
    refine v_iload 0 o dL_law_1887 rfl ?_
    refine v_if_eq 1896 o dL_law_1889 (by decide) (fun c1889 => ?_) (fun c1889 => ?_)
    · refine v_lconst 0 o dL_law_1896 (by decide) ?_
      refine v_lcmp o dL_law_1897 ?_
      refine v_if_eq_c 1903 o dL_law_1898 (by decide) (fun c1898 => ?_) (fun c1898 => absurd c1898 (not_not_intro ((hv9 c1881).trans (by rw [c1889]; rfl))))
      refine v_goto 2145 o dL_law_1903 (by decide) ?_
      refine v_sub [(0, .ref bb), (1, .ref x), (2, .ref (x + 12)), (3, .ref (x + 38)), (4, .int (nI i))] [2, 3, 4, 5, 6] rfl ?_
      refine v_widen (k + 122) (n + 584) (by show k + 1 + 0 + 0 ≤ _; omega) (by show n + 6 + 0 + 0 ≤ _; omega) ?_
      exact kk _ _ _ hL8
    · refine v_lconst 1 o dL_law_1892 (by decide) ?_
      refine v_goto 1897 o dL_law_1893 (by decide) ?_
      refine v_lcmp o dL_law_1897 ?_
      refine v_if_eq_c 1903 o dL_law_1898 (by decide) (fun c1898 => ?_) (fun c1898 => absurd c1898 (not_not_intro ((hv9 c1881).trans (by rw [(bb_search σ (xs (i + 1))).resolve_left c1889]; rfl))))
      refine v_goto 2145 o dL_law_1903 (by decide) ?_
      refine v_sub [(0, .ref bb), (1, .ref x), (2, .ref (x + 12)), (3, .ref (x + 38)), (4, .int (nI i))] [2, 3, 4, 5, 6] rfl ?_
      refine v_widen (k + 122) (n + 584) (by show k + 1 + 0 + 0 ≤ _; omega) (by show n + 6 + 0 + 0 ≤ _; omega) ?_
      exact kk _ _ _ hL8

set_option maxRecDepth 100000 in
set_option maxHeartbeats 4000000 in
theorem lc_takeDown {p : Program} {l : Launch} {e : Env} {s : State} {mi : MethodId} {args : Array Value} {below : List Frame} {meth : Method} {c : Code} {Q : State → Prop} {g : mG} {bb L i x z k n : Nat} {xs : Nat → Int32} {σ : Sg} {μ : mM} (hl : l.stackTraces = false) (o : Ok p l s mi args meth c g cL_law 8 RL) (hX : va_X bb L xs s s.heap) (hbl : bb < s.heap.size) (hg : g.2.2 = s.heap.size) (hL : L ≤ 3072) (hi : i + 6 ≤ L) (hS : LWS g x σ μ z) (hk : k + 122 ≤ 601024) (hn : n + 584 ≤ 7293034)
    (kk : ∀ σ' μ' z', LWS g x σ' μ' z' → V p l e room_1 s mi args below meth c Q g μ' z' (k + 122) (n + 584) 2145 [(0, .ref bb), (1, .ref x), (2, .ref (x + 12)), (3, .ref (x + 38)), (4, .int (nI i))] []) : V p l e room_1 s mi args below meth c Q g μ z k n 1906 [(0, .ref bb), (1, .ref x), (2, .ref (x + 12)), (3, .ref (x + 38)), (4, .int (nI i))] [] := by
  obtain ⟨hI, hM, ⟨B, τ, hR⟩, ⟨f, hf⟩, hz⟩ := hS
  refine v_aload_n 1 o dL_law_1906 rfl rfl ?_
  refine v_aload_n 0 o dL_law_1907 rfl rfl ?_
  refine v_iload 4 o dL_law_1908 rfl ?_
  refine v_iconst 1 o dL_law_1910 rfl ?_
  refine v_iadd (nI (i + 1)) o dL_law_1911 (nI_add i 1) ?_
  refine v_sld (j := (i + 1)) o hX hbl hg dL_law_1912 (by omega) (by omega) ?_
  refine v_aload_n 0 o dL_law_1913 rfl rfl ?_
  refine v_iload 4 o dL_law_1914 rfl ?_
  refine v_iconst 2 o dL_law_1916 rfl ?_
  refine v_iadd (nI (i + 2)) o dL_law_1917 (nI_add i 2) ?_
  refine v_sld (j := (i + 2)) o hX hbl hg dL_law_1918 (by omega) (by omega) ?_
  refine v_if_eq 1926 o dL_law_1919 (by decide) (fun c1919 => ?_) (fun c1919 => ?_)
  · refine v_iconst 0 o dL_law_1926 rfl ?_
    refine v_aload_n 3 o dL_law_1927 rfl rfl ?_
    refine v_st [.ref (x + 38), .int (bI false), .int (xs (i + 1)), .ref x] rfl ?_
    refine v_callSW [.ref x, .int (xs (i + 1)), .int (bI false), .ref (x + 38)] [] o dL_law_1928 cwh_L_209 (w_takeDown hl hR hI (xs (i + 1)) false (by omega) (by omega) hf) rfl rfl ⟨Nat.le_of_ble_eq_true rfl, Nat.le_of_ble_eq_true rfl⟩ ⟨by show k + 1 ≤ 601024; omega, by show n + 6 ≤ 7293034; omega⟩ (Nat.le_of_ble_eq_true rfl) ?_ (fun _ _ _ _ h => h.elim)
    rintro r9 μ9 z9 hz9 ⟨rfl, B9, τ9, f9, hR9, hv9⟩
    obtain ⟨hM9, hf9⟩ := LWS.cls hM hR9
    refine v_st [.int (nI ((sp_takeDown σ (xs (i + 1)) false).2.1 3 1))] rfl ?_
    refine v_istore [(5, .int (nI ((sp_takeDown σ (xs (i + 1)) false).2.1 3 1))), (0, .ref bb), (1, .ref x), (2, .ref (x + 12)), (3, .ref (x + 38)), (4, .int (nI i))] o dL_law_1931 (by decide) rfl ?_
    refine v_aload_n 3 o dL_law_1933 rfl rfl ?_
    refine v_aload_n 1 o dL_law_1934 rfl rfl ?_
    refine v_iload 5 o dL_law_1935 rfl ?_
    refine v_iconst 1 o dL_law_1937 rfl ?_
    refine v_iadd (nI (i + 1)) o dL_law_1938 (nI_add i 1) ?_
    refine v_sld (j := (i + 1)) o hX hbl hg dL_law_1939 (by omega) (by omega) ?_
    refine v_aload_n 1 o dL_law_1940 rfl rfl ?_
    refine v_iload 5 o dL_law_1941 rfl ?_
    refine v_iconst 2 o dL_law_1943 rfl ?_
    refine v_iadd (nI (i + 2)) o dL_law_1944 (nI_add i 2) ?_
    refine v_sld (j := (i + 2)) o hX hbl hg dL_law_1945 (by omega) (by omega) ?_
    refine v_if_eq 1953 o dL_law_1946 (by decide) (fun c1946 => ?_) (fun c1946 => absurd c1946 (not_not_intro c1919))
    refine v_iconst 0 o dL_law_1953 rfl ?_
    refine v_st [.int (bI false), .int (xs (i + 1)), .ref (x + 12)] rfl ?_
    refine v_callV [.int (xs (i + 1)), .int (bI false)] [] o dL_law_1954 cw_L_212 im_X6_takeDown se_X6_takeDown cf6 hM9.o (m_takeDown hl hM9 hI (xs (i + 1)) false) rfl rfl ⟨Nat.le_of_ble_eq_true rfl, Nat.le_of_ble_eq_true rfl⟩ ⟨by show k + 1 + 0 ≤ 601024; omega, by show n + 6 + 0 ≤ 7293034; omega⟩ (Nat.le_of_ble_eq_true rfl) ?_ (fun _ _ _ _ h => h.elim)
    rintro r8 μ8 z8 hz8 ⟨rfl, hM8, rfl⟩
    have hs := scr.rf (σ := (sp_takeDown σ (xs (i + 1)) false).2)
    obtain ⟨hL8, hf8⟩ := LWS.ref (z := z9) (I_takeDown hI (xs (i + 1)) false) hs hR9 hf9 hM8 (by omega)
    refine v_st [.int ((sp_takeDown σ (xs (i + 1)) false).1)] rfl ?_
    refine v_istore [(6, .int ((sp_takeDown σ (xs (i + 1)) false).1)), (5, .int (nI ((sp_takeDown σ (xs (i + 1)) false).2.1 3 1))), (0, .ref bb), (1, .ref x), (2, .ref (x + 12)), (3, .ref (x + 38)), (4, .int (nI i))] o dL_law_1957 (by decide) rfl ?_
    refine v_aload_n 4 o dL_law_1959 rfl rfl ?_
    refine v_callVr (v := .int (nI ((sp_takeDown σ (xs (i + 1)) false).2.1 3 1))) [] [] o dL_law_1960 cw_L_117 im_X6_thrown se_X6_thrown cf6 hM8.o (m_thrown hl hM8) rfl rfl ⟨Nat.le_of_ble_eq_true rfl, Nat.le_of_ble_eq_true rfl⟩ ⟨rfl, rfl⟩ ⟨by show k + 1 + 0 ≤ 601024; omega, by show n + 6 + 0 ≤ 7293034; omega⟩ (Nat.le_of_ble_eq_true rfl) ?_
    refine v_iload 1 o dL_law_1963 rfl ?_
    refine v_icmp_eq 1970 o dL_law_1965 (by decide) (fun c1965 => ?_) (fun c1965 => absurd c1965 (not_not_intro rfl))
    refine v_iload 1 o dL_law_1970 rfl ?_
    refine v_if_ne 1994 o dL_law_1972 (by decide) (fun c1972 => ?_) (fun c1972 => ?_)
    · refine v_goto 2145 o dL_law_1994 (by decide) ?_
      refine v_sub [(0, .ref bb), (1, .ref x), (2, .ref (x + 12)), (3, .ref (x + 38)), (4, .int (nI i))] [2, 3, 4, 5, 6] rfl ?_
      refine v_widen (k + 122) (n + 584) (by show k + 1 + 0 + 0 ≤ _; omega) (by show n + 6 + 0 + 0 ≤ _; omega) ?_
      exact kk _ _ _ hL8
    · refine v_aload_n 5 o dL_law_1975 rfl rfl ?_
      refine v_iconst 0 o dL_law_1976 rfl ?_
      refine v_lald (f9 0) o dL_law_1977 (by decide) (by decide) hf8 rfl ?_
      refine v_iload 0 o dL_law_1978 rfl ?_
      refine v_if_eq 1987 o dL_law_1980 (by decide) (fun c1980 => ?_) (fun c1980 => ?_)
      · refine v_lconst 0 o dL_law_1987 (by decide) ?_
        refine v_lcmp o dL_law_1988 ?_
        refine v_if_eq_c 1994 o dL_law_1989 (by decide) (fun c1989 => ?_) (fun c1989 => absurd c1989 (not_not_intro ((hv9 c1972).trans (by rw [c1980]; rfl))))
        refine v_goto 2145 o dL_law_1994 (by decide) ?_
        refine v_sub [(0, .ref bb), (1, .ref x), (2, .ref (x + 12)), (3, .ref (x + 38)), (4, .int (nI i))] [2, 3, 4, 5, 6] rfl ?_
        refine v_widen (k + 122) (n + 584) (by show k + 1 + 0 + 0 ≤ _; omega) (by show n + 6 + 0 + 0 ≤ _; omega) ?_
        exact kk _ _ _ hL8
      · refine v_lconst 1 o dL_law_1983 (by decide) ?_
        refine v_goto 1988 o dL_law_1984 (by decide) ?_
        refine v_lcmp o dL_law_1988 ?_
        refine v_if_eq_c 1994 o dL_law_1989 (by decide) (fun c1989 => ?_) (fun c1989 => absurd c1989 (not_not_intro ((hv9 c1972).trans (by rw [(bb_takeDown σ (xs (i + 1)) false).resolve_left c1980]; rfl))))
        refine v_goto 2145 o dL_law_1994 (by decide) ?_
        refine v_sub [(0, .ref bb), (1, .ref x), (2, .ref (x + 12)), (3, .ref (x + 38)), (4, .int (nI i))] [2, 3, 4, 5, 6] rfl ?_
        refine v_widen (k + 122) (n + 584) (by show k + 1 + 0 + 0 ≤ _; omega) (by show n + 6 + 0 + 0 ≤ _; omega) ?_
        exact kk _ _ _ hL8
  · refine v_iconst 1 o dL_law_1922 rfl ?_
    refine v_goto 1927 o dL_law_1923 (by decide) ?_
    refine v_aload_n 3 o dL_law_1927 rfl rfl ?_
    refine v_st [.ref (x + 38), .int (bI true), .int (xs (i + 1)), .ref x] rfl ?_
    refine v_callSW [.ref x, .int (xs (i + 1)), .int (bI true), .ref (x + 38)] [] o dL_law_1928 cwh_L_209 (w_takeDown hl hR hI (xs (i + 1)) true (by omega) (by omega) hf) rfl rfl ⟨Nat.le_of_ble_eq_true rfl, Nat.le_of_ble_eq_true rfl⟩ ⟨by show k + 1 ≤ 601024; omega, by show n + 6 ≤ 7293034; omega⟩ (Nat.le_of_ble_eq_true rfl) ?_ (fun _ _ _ _ h => h.elim)
    rintro r9 μ9 z9 hz9 ⟨rfl, B9, τ9, f9, hR9, hv9⟩
    obtain ⟨hM9, hf9⟩ := LWS.cls hM hR9
    refine v_st [.int (nI ((sp_takeDown σ (xs (i + 1)) true).2.1 3 1))] rfl ?_
    refine v_istore [(5, .int (nI ((sp_takeDown σ (xs (i + 1)) true).2.1 3 1))), (0, .ref bb), (1, .ref x), (2, .ref (x + 12)), (3, .ref (x + 38)), (4, .int (nI i))] o dL_law_1931 (by decide) rfl ?_
    refine v_aload_n 3 o dL_law_1933 rfl rfl ?_
    refine v_aload_n 1 o dL_law_1934 rfl rfl ?_
    refine v_iload 5 o dL_law_1935 rfl ?_
    refine v_iconst 1 o dL_law_1937 rfl ?_
    refine v_iadd (nI (i + 1)) o dL_law_1938 (nI_add i 1) ?_
    refine v_sld (j := (i + 1)) o hX hbl hg dL_law_1939 (by omega) (by omega) ?_
    refine v_aload_n 1 o dL_law_1940 rfl rfl ?_
    refine v_iload 5 o dL_law_1941 rfl ?_
    refine v_iconst 2 o dL_law_1943 rfl ?_
    refine v_iadd (nI (i + 2)) o dL_law_1944 (nI_add i 2) ?_
    refine v_sld (j := (i + 2)) o hX hbl hg dL_law_1945 (by omega) (by omega) ?_
    refine v_if_eq 1953 o dL_law_1946 (by decide) (fun c1946 => absurd c1946 c1919) (fun c1946 => ?_)
    refine v_iconst 1 o dL_law_1949 rfl ?_
    refine v_goto 1954 o dL_law_1950 (by decide) ?_
    refine v_st [.int (bI true), .int (xs (i + 1)), .ref (x + 12)] rfl ?_
    refine v_callV [.int (xs (i + 1)), .int (bI true)] [] o dL_law_1954 cw_L_212 im_X6_takeDown se_X6_takeDown cf6 hM9.o (m_takeDown hl hM9 hI (xs (i + 1)) true) rfl rfl ⟨Nat.le_of_ble_eq_true rfl, Nat.le_of_ble_eq_true rfl⟩ ⟨by show k + 1 + 0 ≤ 601024; omega, by show n + 6 + 0 ≤ 7293034; omega⟩ (Nat.le_of_ble_eq_true rfl) ?_ (fun _ _ _ _ h => h.elim)
    rintro r8 μ8 z8 hz8 ⟨rfl, hM8, rfl⟩
    have hs := scr.rf (σ := (sp_takeDown σ (xs (i + 1)) true).2)
    obtain ⟨hL8, hf8⟩ := LWS.ref (z := z9) (I_takeDown hI (xs (i + 1)) true) hs hR9 hf9 hM8 (by omega)
    refine v_st [.int ((sp_takeDown σ (xs (i + 1)) true).1)] rfl ?_
    refine v_istore [(6, .int ((sp_takeDown σ (xs (i + 1)) true).1)), (5, .int (nI ((sp_takeDown σ (xs (i + 1)) true).2.1 3 1))), (0, .ref bb), (1, .ref x), (2, .ref (x + 12)), (3, .ref (x + 38)), (4, .int (nI i))] o dL_law_1957 (by decide) rfl ?_
    refine v_aload_n 4 o dL_law_1959 rfl rfl ?_
    refine v_callVr (v := .int (nI ((sp_takeDown σ (xs (i + 1)) true).2.1 3 1))) [] [] o dL_law_1960 cw_L_117 im_X6_thrown se_X6_thrown cf6 hM8.o (m_thrown hl hM8) rfl rfl ⟨Nat.le_of_ble_eq_true rfl, Nat.le_of_ble_eq_true rfl⟩ ⟨rfl, rfl⟩ ⟨by show k + 1 + 0 ≤ 601024; omega, by show n + 6 + 0 ≤ 7293034; omega⟩ (Nat.le_of_ble_eq_true rfl) ?_
    refine v_iload 1 o dL_law_1963 rfl ?_
    refine v_icmp_eq 1970 o dL_law_1965 (by decide) (fun c1965 => ?_) (fun c1965 => absurd c1965 (not_not_intro rfl))
    refine v_iload 1 o dL_law_1970 rfl ?_
    refine v_if_ne 1994 o dL_law_1972 (by decide) (fun c1972 => ?_) (fun c1972 => ?_)
    · refine v_goto 2145 o dL_law_1994 (by decide) ?_
      refine v_sub [(0, .ref bb), (1, .ref x), (2, .ref (x + 12)), (3, .ref (x + 38)), (4, .int (nI i))] [2, 3, 4, 5, 6] rfl ?_
      refine v_widen (k + 122) (n + 584) (by show k + 1 + 0 + 0 ≤ _; omega) (by show n + 6 + 0 + 0 ≤ _; omega) ?_
      exact kk _ _ _ hL8
    · refine v_aload_n 5 o dL_law_1975 rfl rfl ?_
      refine v_iconst 0 o dL_law_1976 rfl ?_
      refine v_lald (f9 0) o dL_law_1977 (by decide) (by decide) hf8 rfl ?_
      refine v_iload 0 o dL_law_1978 rfl ?_
      refine v_if_eq 1987 o dL_law_1980 (by decide) (fun c1980 => ?_) (fun c1980 => ?_)
      · refine v_lconst 0 o dL_law_1987 (by decide) ?_
        refine v_lcmp o dL_law_1988 ?_
        refine v_if_eq_c 1994 o dL_law_1989 (by decide) (fun c1989 => ?_) (fun c1989 => absurd c1989 (not_not_intro ((hv9 c1972).trans (by rw [c1980]; rfl))))
        refine v_goto 2145 o dL_law_1994 (by decide) ?_
        refine v_sub [(0, .ref bb), (1, .ref x), (2, .ref (x + 12)), (3, .ref (x + 38)), (4, .int (nI i))] [2, 3, 4, 5, 6] rfl ?_
        refine v_widen (k + 122) (n + 584) (by show k + 1 + 0 + 0 ≤ _; omega) (by show n + 6 + 0 + 0 ≤ _; omega) ?_
        exact kk _ _ _ hL8
      · refine v_lconst 1 o dL_law_1983 (by decide) ?_
        refine v_goto 1988 o dL_law_1984 (by decide) ?_
        refine v_lcmp o dL_law_1988 ?_
        refine v_if_eq_c 1994 o dL_law_1989 (by decide) (fun c1989 => ?_) (fun c1989 => absurd c1989 (not_not_intro ((hv9 c1972).trans (by rw [(bb_takeDown σ (xs (i + 1)) true).resolve_left c1980]; rfl))))
        refine v_goto 2145 o dL_law_1994 (by decide) ?_
        refine v_sub [(0, .ref bb), (1, .ref x), (2, .ref (x + 12)), (3, .ref (x + 38)), (4, .int (nI i))] [2, 3, 4, 5, 6] rfl ?_
        refine v_widen (k + 122) (n + 584) (by show k + 1 + 0 + 0 ≤ _; omega) (by show n + 6 + 0 + 0 ≤ _; omega) ?_
        exact kk _ _ _ hL8

set_option maxRecDepth 100000 in
set_option maxHeartbeats 4000000 in
theorem lc_next {p : Program} {l : Launch} {e : Env} {s : State} {mi : MethodId} {args : Array Value} {below : List Frame} {meth : Method} {c : Code} {Q : State → Prop} {g : mG} {bb L i x z k n : Nat} {xs : Nat → Int32} {σ : Sg} {μ : mM} (hl : l.stackTraces = false) (o : Ok p l s mi args meth c g cL_law 8 RL) (hX : va_X bb L xs s s.heap) (hbl : bb < s.heap.size) (hg : g.2.2 = s.heap.size) (hL : L ≤ 3072) (hi : i + 6 ≤ L) (hS : LWS g x σ μ z) (hk : k + 122 ≤ 601024) (hn : n + 584 ≤ 7293034)
    (kk : ∀ σ' μ' z', LWS g x σ' μ' z' → V p l e room_1 s mi args below meth c Q g μ' z' (k + 122) (n + 584) 2145 [(0, .ref bb), (1, .ref x), (2, .ref (x + 12)), (3, .ref (x + 38)), (4, .int (nI i))] []) : V p l e room_1 s mi args below meth c Q g μ z k n 276 [(0, .ref bb), (1, .ref x), (2, .ref (x + 12)), (3, .ref (x + 38)), (4, .int (nI i))] [] := by
  obtain ⟨hI, hM, ⟨B, τ, hR⟩, ⟨f, hf⟩, hz⟩ := hS
  refine v_aload_n 1 o dL_law_276 rfl rfl ?_
  refine v_callV [] [] o dL_law_277 cw_L_121 im_X5_next se_X5_next cf5 hR.h0 (k_next hl hR) rfl rfl ⟨Nat.le_of_ble_eq_true rfl, Nat.le_of_ble_eq_true rfl⟩ ⟨by show k + 0 ≤ 601024; omega, by show n + 0 ≤ 7293034; omega⟩ (Nat.le_of_ble_eq_true rfl) ?_ (fun _ _ _ _ h => h.elim)
  rintro r9 μ9 z9 hz9 ⟨rfl, h31, B9, τ9, hR9⟩
  obtain ⟨hM9, hf9⟩ := LWS.cls0 hM hf hR9
  refine v_st [.int ((sp_next σ).1)] rfl ?_
  refine v_aload_n 2 o dL_law_280 rfl rfl ?_
  refine v_callV [] [.int ((sp_next σ).1)] o dL_law_281 cw_L_124 im_X6_next se_X6_next cf6 hM9.o (m_next hl hM9 hI ) rfl rfl ⟨Nat.le_of_ble_eq_true rfl, Nat.le_of_ble_eq_true rfl⟩ ⟨by show k + 0 + 0 ≤ 601024; omega, by show n + 0 + 0 ≤ 7293034; omega⟩ (Nat.le_of_ble_eq_true rfl) ?_ (fun _ _ _ _ h => h.elim)
  rintro r8 μ8 z8 hz8 ⟨rfl, hM8, rfl⟩
  have hs := scr.rf (σ := (sp_next σ).2)
  obtain ⟨hL8, hf8⟩ := LWS.ref (z := z9) (I_next hI ) hs hR9 hf9 hM8 (by omega)
  refine v_st [.int ((sp_next σ).1), .int ((sp_next σ).1)] rfl ?_
  refine v_icmp_eq 2145 o dL_law_284 (by decide) (fun c284 => ?_) (fun c284 => absurd c284 (not_not_intro rfl))
  refine v_widen (k + 122) (n + 584) (by show k + 0 + 0 + 0 ≤ _; omega) (by show n + 0 + 0 + 0 ≤ _; omega) ?_
  exact kk _ _ _ hL8

set_option maxRecDepth 100000 in
set_option maxHeartbeats 4000000 in
theorem lc_calibrate {p : Program} {l : Launch} {e : Env} {s : State} {mi : MethodId} {args : Array Value} {below : List Frame} {meth : Method} {c : Code} {Q : State → Prop} {g : mG} {bb L i x z k n : Nat} {xs : Nat → Int32} {σ : Sg} {μ : mM} (hl : l.stackTraces = false) (o : Ok p l s mi args meth c g cL_law 8 RL) (hX : va_X bb L xs s s.heap) (hbl : bb < s.heap.size) (hg : g.2.2 = s.heap.size) (hL : L ≤ 3072) (hi : i + 6 ≤ L) (hS : LWS g x σ μ z) (hk : k + 122 ≤ 601024) (hn : n + 584 ≤ 7293034)
    (kk : ∀ σ' μ' z', LWS g x σ' μ' z' → V p l e room_1 s mi args below meth c Q g μ' z' (k + 122) (n + 584) 2145 [(0, .ref bb), (1, .ref x), (2, .ref (x + 12)), (3, .ref (x + 38)), (4, .int (nI i))] []) : V p l e room_1 s mi args below meth c Q g μ z k n 488 [(0, .ref bb), (1, .ref x), (2, .ref (x + 12)), (3, .ref (x + 38)), (4, .int (nI i))] [] := by
  obtain ⟨hI, hM, ⟨B, τ, hR⟩, ⟨f, hf⟩, hz⟩ := hS
  refine v_aload_n 1 o dL_law_488 rfl rfl ?_
  refine v_callV [] [] o dL_law_489 cw_L_135 im_X5_calibrate se_X5_calibrate cf5 hR.h0 (k_calibrate hl hR) rfl rfl ⟨Nat.le_of_ble_eq_true rfl, Nat.le_of_ble_eq_true rfl⟩ ⟨by show k + 0 ≤ 601024; omega, by show n + 0 ≤ 7293034; omega⟩ (Nat.le_of_ble_eq_true rfl) ?_ (fun _ _ _ _ h => h.elim)
  rintro r9 μ9 z9 hz9 ⟨rfl, h31, B9, τ9, hR9⟩
  obtain ⟨hM9, hf9⟩ := LWS.cls0 hM hf hR9
  refine v_st [.int ((sp_calibrate σ).1)] rfl ?_
  refine v_aload_n 2 o dL_law_492 rfl rfl ?_
  refine v_callV [] [.int ((sp_calibrate σ).1)] o dL_law_493 cw_L_138 im_X6_calibrate se_X6_calibrate cf6 hM9.o (m_calibrate hl hM9 ) rfl rfl ⟨Nat.le_of_ble_eq_true rfl, Nat.le_of_ble_eq_true rfl⟩ ⟨by show k + 0 + 0 ≤ 601024; omega, by show n + 0 + 0 ≤ 7293034; omega⟩ (Nat.le_of_ble_eq_true rfl) ?_ (fun _ _ _ _ h => h.elim)
  rintro r8 μ8 z8 hz8 ⟨rfl, hM8, rfl⟩
  have hs := scr.rf (σ := (sp_calibrate σ).2)
  obtain ⟨hL8, hf8⟩ := LWS.ref (z := z9) (I_calibrate hI ) hs hR9 hf9 hM8 (by omega)
  refine v_st [.int ((sp_calibrate σ).1), .int ((sp_calibrate σ).1)] rfl ?_
  refine v_icmp_eq 2145 o dL_law_496 (by decide) (fun c496 => ?_) (fun c496 => absurd c496 (not_not_intro rfl))
  refine v_widen (k + 122) (n + 584) (by show k + 0 + 0 + 0 ≤ _; omega) (by show n + 0 + 0 + 0 ≤ _; omega) ?_
  exact kk _ _ _ hL8

set_option maxRecDepth 100000 in
set_option maxHeartbeats 4000000 in
theorem lc_looked {p : Program} {l : Launch} {e : Env} {s : State} {mi : MethodId} {args : Array Value} {below : List Frame} {meth : Method} {c : Code} {Q : State → Prop} {g : mG} {bb L i x z k n : Nat} {xs : Nat → Int32} {σ : Sg} {μ : mM} (hl : l.stackTraces = false) (o : Ok p l s mi args meth c g cL_law 8 RL) (hX : va_X bb L xs s s.heap) (hbl : bb < s.heap.size) (hg : g.2.2 = s.heap.size) (hL : L ≤ 3072) (hi : i + 6 ≤ L) (hS : LWS g x σ μ z) (hk : k + 122 ≤ 601024) (hn : n + 584 ≤ 7293034)
    (kk : ∀ σ' μ' z', LWS g x σ' μ' z' → V p l e room_1 s mi args below meth c Q g μ' z' (k + 122) (n + 584) 2145 [(0, .ref bb), (1, .ref x), (2, .ref (x + 12)), (3, .ref (x + 38)), (4, .int (nI i))] []) : V p l e room_1 s mi args below meth c Q g μ z k n 760 [(0, .ref bb), (1, .ref x), (2, .ref (x + 12)), (3, .ref (x + 38)), (4, .int (nI i))] [] := by
  obtain ⟨hI, hM, ⟨B, τ, hR⟩, ⟨f, hf⟩, hz⟩ := hS
  refine v_aload_n 1 o dL_law_760 rfl rfl ?_
  refine v_callV [] [] o dL_law_761 cw_L_154 im_X5_looked se_X5_looked cf5 hR.h0 (k_looked hl hR) rfl rfl ⟨Nat.le_of_ble_eq_true rfl, Nat.le_of_ble_eq_true rfl⟩ ⟨by show k + 0 ≤ 601024; omega, by show n + 0 ≤ 7293034; omega⟩ (Nat.le_of_ble_eq_true rfl) ?_ (fun _ _ _ _ h => h.elim)
  rintro r9 μ9 z9 hz9 ⟨rfl, h31, B9, τ9, hR9⟩
  obtain ⟨hM9, hf9⟩ := LWS.cls0 hM hf hR9
  refine v_st [.int ((sp_looked σ).1)] rfl ?_
  refine v_aload_n 2 o dL_law_764 rfl rfl ?_
  refine v_callV [] [.int ((sp_looked σ).1)] o dL_law_765 cw_L_157 im_X6_looked se_X6_looked cf6 hM9.o (m_looked hl hM9 ) rfl rfl ⟨Nat.le_of_ble_eq_true rfl, Nat.le_of_ble_eq_true rfl⟩ ⟨by show k + 0 + 0 ≤ 601024; omega, by show n + 0 + 0 ≤ 7293034; omega⟩ (Nat.le_of_ble_eq_true rfl) ?_ (fun _ _ _ _ h => h.elim)
  rintro r8 μ8 z8 hz8 ⟨rfl, hM8, rfl⟩
  have hs := scr.rf (σ := (sp_looked σ).2)
  obtain ⟨hL8, hf8⟩ := LWS.ref (z := z9) (I_looked hI ) hs hR9 hf9 hM8 (by omega)
  refine v_st [.int ((sp_looked σ).1), .int ((sp_looked σ).1)] rfl ?_
  refine v_icmp_eq 2145 o dL_law_768 (by decide) (fun c768 => ?_) (fun c768 => absurd c768 (not_not_intro rfl))
  refine v_widen (k + 122) (n + 584) (by show k + 0 + 0 + 0 ≤ _; omega) (by show n + 0 + 0 + 0 ≤ _; omega) ?_
  exact kk _ _ _ hL8

set_option maxRecDepth 100000 in
set_option maxHeartbeats 4000000 in
theorem lc_book {p : Program} {l : Launch} {e : Env} {s : State} {mi : MethodId} {args : Array Value} {below : List Frame} {meth : Method} {c : Code} {Q : State → Prop} {g : mG} {bb L i x z k n : Nat} {xs : Nat → Int32} {σ : Sg} {μ : mM} (hl : l.stackTraces = false) (o : Ok p l s mi args meth c g cL_law 8 RL) (hX : va_X bb L xs s s.heap) (hbl : bb < s.heap.size) (hg : g.2.2 = s.heap.size) (hL : L ≤ 3072) (hi : i + 6 ≤ L) (hS : LWS g x σ μ z) (hk : k + 122 ≤ 601024) (hn : n + 584 ≤ 7293034)
    (kk : ∀ σ' μ' z', LWS g x σ' μ' z' → V p l e room_1 s mi args below meth c Q g μ' z' (k + 122) (n + 584) 2145 [(0, .ref bb), (1, .ref x), (2, .ref (x + 12)), (3, .ref (x + 38)), (4, .int (nI i))] []) : V p l e room_1 s mi args below meth c Q g μ z k n 172 [(0, .ref bb), (1, .ref x), (2, .ref (x + 12)), (3, .ref (x + 38)), (4, .int (nI i))] [] := by
  obtain ⟨hI, hM, ⟨B, τ, hR⟩, ⟨f, hf⟩, hz⟩ := hS
  refine v_aload_n 1 o dL_law_172 rfl rfl ?_
  refine v_aload_n 0 o dL_law_173 rfl rfl ?_
  refine v_iload 4 o dL_law_174 rfl ?_
  refine v_iconst 1 o dL_law_176 rfl ?_
  refine v_iadd (nI (i + 1)) o dL_law_177 (nI_add i 1) ?_
  refine v_sld (j := (i + 1)) o hX hbl hg dL_law_178 (by omega) (by omega) ?_
  refine v_aload_n 0 o dL_law_179 rfl rfl ?_
  refine v_iload 4 o dL_law_180 rfl ?_
  refine v_iconst 2 o dL_law_182 rfl ?_
  refine v_iadd (nI (i + 2)) o dL_law_183 (nI_add i 2) ?_
  refine v_sld (j := (i + 2)) o hX hbl hg dL_law_184 (by omega) (by omega) ?_
  refine v_aload_n 0 o dL_law_185 rfl rfl ?_
  refine v_iload 4 o dL_law_186 rfl ?_
  refine v_iconst 3 o dL_law_188 rfl ?_
  refine v_iadd (nI (i + 3)) o dL_law_189 (nI_add i 3) ?_
  refine v_sld (j := (i + 3)) o hX hbl hg dL_law_190 (by omega) (by omega) ?_
  refine v_aload_n 0 o dL_law_191 rfl rfl ?_
  refine v_iload 4 o dL_law_192 rfl ?_
  refine v_iconst 4 o dL_law_194 rfl ?_
  refine v_iadd (nI (i + 4)) o dL_law_195 (nI_add i 4) ?_
  refine v_sld (j := (i + 4)) o hX hbl hg dL_law_196 (by omega) (by omega) ?_
  refine v_aload_n 0 o dL_law_197 rfl rfl ?_
  refine v_iload 4 o dL_law_198 rfl ?_
  refine v_iconst 5 o dL_law_200 rfl ?_
  refine v_iadd (nI (i + 5)) o dL_law_201 (nI_add i 5) ?_
  refine v_sld (j := (i + 5)) o hX hbl hg dL_law_202 (by omega) (by omega) ?_
  refine v_aload_n 3 o dL_law_203 rfl rfl ?_
  refine v_callSW [.ref x, .int (xs (i + 1)), .int (xs (i + 2)), .int (xs (i + 3)), .int (xs (i + 4)), .int (xs (i + 5)), .ref (x + 38)] [] o dL_law_204 cwh_L_111 (w_book hl hR hI hz (xs (i + 1)) (xs (i + 2)) (xs (i + 3)) (xs (i + 4)) (xs (i + 5)) (by omega) (by omega) hf) rfl rfl ⟨Nat.le_of_ble_eq_true rfl, Nat.le_of_ble_eq_true rfl⟩ ⟨by show k + 122 ≤ 601024; omega, by show n + 584 ≤ 7293034; omega⟩ (Nat.le_of_ble_eq_true rfl) ?_ (fun _ _ _ _ h => h.elim)
  rintro r9 μ9 z9 hz9 ⟨rfl, B9, τ9, f9, hR9, hv9⟩
  obtain ⟨hM9, hf9⟩ := LWS.cls hM hR9
  refine v_st [.int (nI ((sp_book σ (xs (i + 1)) (xs (i + 2)) (xs (i + 3)) (xs (i + 4)) (xs (i + 5))).2.1 3 1))] rfl ?_
  refine v_istore [(5, .int (nI ((sp_book σ (xs (i + 1)) (xs (i + 2)) (xs (i + 3)) (xs (i + 4)) (xs (i + 5))).2.1 3 1))), (0, .ref bb), (1, .ref x), (2, .ref (x + 12)), (3, .ref (x + 38)), (4, .int (nI i))] o dL_law_207 (by decide) rfl ?_
  refine v_aload_n 3 o dL_law_209 rfl rfl ?_
  refine v_aload_n 1 o dL_law_210 rfl rfl ?_
  refine v_iload 5 o dL_law_211 rfl ?_
  refine v_iconst 1 o dL_law_213 rfl ?_
  refine v_iadd (nI (i + 1)) o dL_law_214 (nI_add i 1) ?_
  refine v_sld (j := (i + 1)) o hX hbl hg dL_law_215 (by omega) (by omega) ?_
  refine v_aload_n 1 o dL_law_216 rfl rfl ?_
  refine v_iload 5 o dL_law_217 rfl ?_
  refine v_iconst 2 o dL_law_219 rfl ?_
  refine v_iadd (nI (i + 2)) o dL_law_220 (nI_add i 2) ?_
  refine v_sld (j := (i + 2)) o hX hbl hg dL_law_221 (by omega) (by omega) ?_
  refine v_aload_n 1 o dL_law_222 rfl rfl ?_
  refine v_iload 5 o dL_law_223 rfl ?_
  refine v_iconst 3 o dL_law_225 rfl ?_
  refine v_iadd (nI (i + 3)) o dL_law_226 (nI_add i 3) ?_
  refine v_sld (j := (i + 3)) o hX hbl hg dL_law_227 (by omega) (by omega) ?_
  refine v_aload_n 1 o dL_law_228 rfl rfl ?_
  refine v_iload 5 o dL_law_229 rfl ?_
  refine v_iconst 4 o dL_law_231 rfl ?_
  refine v_iadd (nI (i + 4)) o dL_law_232 (nI_add i 4) ?_
  refine v_sld (j := (i + 4)) o hX hbl hg dL_law_233 (by omega) (by omega) ?_
  refine v_aload_n 1 o dL_law_234 rfl rfl ?_
  refine v_iload 5 o dL_law_235 rfl ?_
  refine v_iconst 5 o dL_law_237 rfl ?_
  refine v_iadd (nI (i + 5)) o dL_law_238 (nI_add i 5) ?_
  refine v_sld (j := (i + 5)) o hX hbl hg dL_law_239 (by omega) (by omega) ?_
  refine v_callV [.int (xs (i + 1)), .int (xs (i + 2)), .int (xs (i + 3)), .int (xs (i + 4)), .int (xs (i + 5))] [] o dL_law_240 cw_L_116 im_X6_book se_X6_book cf6 hM9.o (m_book hl hM9 hI (xs (i + 1)) (xs (i + 2)) (xs (i + 3)) (xs (i + 4)) (xs (i + 5))) rfl rfl ⟨Nat.le_of_ble_eq_true rfl, Nat.le_of_ble_eq_true rfl⟩ ⟨by show k + 122 + 0 ≤ 601024; omega, by show n + 584 + 0 ≤ 7293034; omega⟩ (Nat.le_of_ble_eq_true rfl) ?_ (fun _ _ _ _ h => h.elim)
  rintro r8 μ8 z8 hz8 ⟨rfl, hM8, rfl⟩
  have hs := scr.rf (σ := (sp_book σ (xs (i + 1)) (xs (i + 2)) (xs (i + 3)) (xs (i + 4)) (xs (i + 5))).2)
  obtain ⟨hL8, hf8⟩ := LWS.ref (z := z9) (I_book hI (xs (i + 1)) (xs (i + 2)) (xs (i + 3)) (xs (i + 4)) (xs (i + 5))) hs hR9 hf9 hM8 (by omega)
  refine v_st [.int ((sp_book σ (xs (i + 1)) (xs (i + 2)) (xs (i + 3)) (xs (i + 4)) (xs (i + 5))).1)] rfl ?_
  refine v_istore [(6, .int ((sp_book σ (xs (i + 1)) (xs (i + 2)) (xs (i + 3)) (xs (i + 4)) (xs (i + 5))).1)), (5, .int (nI ((sp_book σ (xs (i + 1)) (xs (i + 2)) (xs (i + 3)) (xs (i + 4)) (xs (i + 5))).2.1 3 1))), (0, .ref bb), (1, .ref x), (2, .ref (x + 12)), (3, .ref (x + 38)), (4, .int (nI i))] o dL_law_243 (by decide) rfl ?_
  refine v_aload_n 4 o dL_law_245 rfl rfl ?_
  refine v_callVr (v := .int (nI ((sp_book σ (xs (i + 1)) (xs (i + 2)) (xs (i + 3)) (xs (i + 4)) (xs (i + 5))).2.1 3 1))) [] [] o dL_law_246 cw_L_117 im_X6_thrown se_X6_thrown cf6 hM8.o (m_thrown hl hM8) rfl rfl ⟨Nat.le_of_ble_eq_true rfl, Nat.le_of_ble_eq_true rfl⟩ ⟨rfl, rfl⟩ ⟨by show k + 122 + 0 ≤ 601024; omega, by show n + 584 + 0 ≤ 7293034; omega⟩ (Nat.le_of_ble_eq_true rfl) ?_
  refine v_iload 1 o dL_law_249 rfl ?_
  refine v_icmp_eq 256 o dL_law_251 (by decide) (fun c251 => ?_) (fun c251 => absurd c251 (not_not_intro rfl))
  refine v_iload 1 o dL_law_256 rfl ?_
  refine v_if_ne 273 o dL_law_258 (by decide) (fun c258 => ?_) (fun c258 => ?_)
  · refine v_goto 2145 o dL_law_273 (by decide) ?_
    refine v_sub [(0, .ref bb), (1, .ref x), (2, .ref (x + 12)), (3, .ref (x + 38)), (4, .int (nI i))] [2, 3, 4, 5, 6] rfl ?_
    refine v_widen (k + 122) (n + 584) (by show k + 122 + 0 + 0 ≤ _; omega) (by show n + 584 + 0 + 0 ≤ _; omega) ?_
    exact kk _ _ _ hL8
  · refine v_aload_n 5 o dL_law_261 rfl rfl ?_
    refine v_iconst 0 o dL_law_262 rfl ?_
    refine v_lald (f9 0) o dL_law_263 (by decide) (by decide) hf8 rfl ?_
    refine v_iload 0 o dL_law_264 rfl ?_
    refine v_i2l (((sp_book σ (xs (i + 1)) (xs (i + 2)) (xs (i + 3)) (xs (i + 4)) (xs (i + 5))).1).toInt64) o dL_law_266 rfl ?_
    refine v_lcmp o dL_law_267 ?_
    refine v_if_eq_c 273 o dL_law_268 (by decide) (fun c268 => ?_) (fun c268 => absurd c268 (not_not_intro (hv9 c258)))
    refine v_goto 2145 o dL_law_273 (by decide) ?_
    refine v_sub [(0, .ref bb), (1, .ref x), (2, .ref (x + 12)), (3, .ref (x + 38)), (4, .int (nI i))] [2, 3, 4, 5, 6] rfl ?_
    refine v_widen (k + 122) (n + 584) (by show k + 122 + 0 + 0 ≤ _; omega) (by show n + 584 + 0 + 0 ≤ _; omega) ?_
    exact kk _ _ _ hL8

set_option maxRecDepth 100000 in
set_option maxHeartbeats 4000000 in
theorem lc_burn {p : Program} {l : Launch} {e : Env} {s : State} {mi : MethodId} {args : Array Value} {below : List Frame} {meth : Method} {c : Code} {Q : State → Prop} {g : mG} {bb L i x z k n : Nat} {xs : Nat → Int32} {σ : Sg} {μ : mM} (hl : l.stackTraces = false) (o : Ok p l s mi args meth c g cL_law 8 RL) (hX : va_X bb L xs s s.heap) (hbl : bb < s.heap.size) (hg : g.2.2 = s.heap.size) (hL : L ≤ 3072) (hi : i + 6 ≤ L) (hS : LWS g x σ μ z) (hk : k + 122 ≤ 601024) (hn : n + 584 ≤ 7293034)
    (kk : ∀ σ' μ' z', LWS g x σ' μ' z' → V p l e room_1 s mi args below meth c Q g μ' z' (k + 122) (n + 584) 2145 [(0, .ref bb), (1, .ref x), (2, .ref (x + 12)), (3, .ref (x + 38)), (4, .int (nI i))] []) : V p l e room_1 s mi args below meth c Q g μ z k n 600 [(0, .ref bb), (1, .ref x), (2, .ref (x + 12)), (3, .ref (x + 38)), (4, .int (nI i))] [] := by
  obtain ⟨hI, hM, ⟨B, τ, hR⟩, ⟨f, hf⟩, hz⟩ := hS
  refine v_aload_n 1 o dL_law_600 rfl rfl ?_
  refine v_aload_n 0 o dL_law_601 rfl rfl ?_
  refine v_iload 4 o dL_law_602 rfl ?_
  refine v_iconst 1 o dL_law_604 rfl ?_
  refine v_iadd (nI (i + 1)) o dL_law_605 (nI_add i 1) ?_
  refine v_sld (j := (i + 1)) o hX hbl hg dL_law_606 (by omega) (by omega) ?_
  refine v_aload_n 3 o dL_law_607 rfl rfl ?_
  refine v_callSW [.ref x, .int (xs (i + 1)), .ref (x + 38)] [] o dL_law_608 cwh_L_143 (w_burn hl hR hI (xs (i + 1)) (by omega) (by omega) hf) rfl rfl ⟨Nat.le_of_ble_eq_true rfl, Nat.le_of_ble_eq_true rfl⟩ ⟨by show k + 1 ≤ 601024; omega, by show n + 6 ≤ 7293034; omega⟩ (Nat.le_of_ble_eq_true rfl) ?_ (fun _ _ _ _ h => h.elim)
  rintro r9 μ9 z9 hz9 ⟨rfl, B9, τ9, f9, hR9, hv9⟩
  obtain ⟨hM9, hf9⟩ := LWS.cls hM hR9
  refine v_st [.int (nI ((sp_burn σ (xs (i + 1))).2.1 3 1))] rfl ?_
  refine v_istore [(5, .int (nI ((sp_burn σ (xs (i + 1))).2.1 3 1))), (0, .ref bb), (1, .ref x), (2, .ref (x + 12)), (3, .ref (x + 38)), (4, .int (nI i))] o dL_law_611 (by decide) rfl ?_
  refine v_aload_n 3 o dL_law_613 rfl rfl ?_
  refine v_aload_n 1 o dL_law_614 rfl rfl ?_
  refine v_iload 5 o dL_law_615 rfl ?_
  refine v_iconst 1 o dL_law_617 rfl ?_
  refine v_iadd (nI (i + 1)) o dL_law_618 (nI_add i 1) ?_
  refine v_sld (j := (i + 1)) o hX hbl hg dL_law_619 (by omega) (by omega) ?_
  refine v_callV [.int (xs (i + 1))] [] o dL_law_620 cw_L_146 im_X6_burn se_X6_burn cf6 hM9.o (m_burn hl hM9 hI (xs (i + 1))) rfl rfl ⟨Nat.le_of_ble_eq_true rfl, Nat.le_of_ble_eq_true rfl⟩ ⟨by show k + 1 + 0 ≤ 601024; omega, by show n + 6 + 0 ≤ 7293034; omega⟩ (Nat.le_of_ble_eq_true rfl) ?_ (fun _ _ _ _ h => h.elim)
  rintro r8 μ8 z8 hz8 ⟨rfl, hM8, rfl⟩
  have hs := scr.rf (σ := (sp_burn σ (xs (i + 1))).2)
  obtain ⟨hL8, hf8⟩ := LWS.ref (z := z9) (I_burn hI (xs (i + 1))) hs hR9 hf9 hM8 (by omega)
  refine v_st [.int ((sp_burn σ (xs (i + 1))).1)] rfl ?_
  refine v_istore [(6, .int ((sp_burn σ (xs (i + 1))).1)), (5, .int (nI ((sp_burn σ (xs (i + 1))).2.1 3 1))), (0, .ref bb), (1, .ref x), (2, .ref (x + 12)), (3, .ref (x + 38)), (4, .int (nI i))] o dL_law_623 (by decide) rfl ?_
  refine v_aload_n 4 o dL_law_625 rfl rfl ?_
  refine v_callVr (v := .int (nI ((sp_burn σ (xs (i + 1))).2.1 3 1))) [] [] o dL_law_626 cw_L_117 im_X6_thrown se_X6_thrown cf6 hM8.o (m_thrown hl hM8) rfl rfl ⟨Nat.le_of_ble_eq_true rfl, Nat.le_of_ble_eq_true rfl⟩ ⟨rfl, rfl⟩ ⟨by show k + 1 + 0 ≤ 601024; omega, by show n + 6 + 0 ≤ 7293034; omega⟩ (Nat.le_of_ble_eq_true rfl) ?_
  refine v_iload 1 o dL_law_629 rfl ?_
  refine v_icmp_eq 636 o dL_law_631 (by decide) (fun c631 => ?_) (fun c631 => absurd c631 (not_not_intro rfl))
  refine v_iload 1 o dL_law_636 rfl ?_
  refine v_if_ne 653 o dL_law_638 (by decide) (fun c638 => ?_) (fun c638 => ?_)
  · refine v_goto 2145 o dL_law_653 (by decide) ?_
    refine v_sub [(0, .ref bb), (1, .ref x), (2, .ref (x + 12)), (3, .ref (x + 38)), (4, .int (nI i))] [2, 3, 4, 5, 6] rfl ?_
    refine v_widen (k + 122) (n + 584) (by show k + 1 + 0 + 0 ≤ _; omega) (by show n + 6 + 0 + 0 ≤ _; omega) ?_
    exact kk _ _ _ hL8
  · refine v_aload_n 5 o dL_law_641 rfl rfl ?_
    refine v_iconst 0 o dL_law_642 rfl ?_
    refine v_lald (f9 0) o dL_law_643 (by decide) (by decide) hf8 rfl ?_
    refine v_iload 0 o dL_law_644 rfl ?_
    refine v_i2l (((sp_burn σ (xs (i + 1))).1).toInt64) o dL_law_646 rfl ?_
    refine v_lcmp o dL_law_647 ?_
    refine v_if_eq_c 653 o dL_law_648 (by decide) (fun c648 => ?_) (fun c648 => absurd c648 (not_not_intro (hv9 c638)))
    refine v_goto 2145 o dL_law_653 (by decide) ?_
    refine v_sub [(0, .ref bb), (1, .ref x), (2, .ref (x + 12)), (3, .ref (x + 38)), (4, .int (nI i))] [2, 3, 4, 5, 6] rfl ?_
    refine v_widen (k + 122) (n + 584) (by show k + 1 + 0 + 0 ≤ _; omega) (by show n + 6 + 0 + 0 ≤ _; omega) ?_
    exact kk _ _ _ hL8

set_option maxRecDepth 100000 in
set_option maxHeartbeats 4000000 in
theorem lc_build {p : Program} {l : Launch} {e : Env} {s : State} {mi : MethodId} {args : Array Value} {below : List Frame} {meth : Method} {c : Code} {Q : State → Prop} {g : mG} {bb L i x z k n : Nat} {xs : Nat → Int32} {σ : Sg} {μ : mM} (hl : l.stackTraces = false) (o : Ok p l s mi args meth c g cL_law 8 RL) (hX : va_X bb L xs s s.heap) (hbl : bb < s.heap.size) (hg : g.2.2 = s.heap.size) (hL : L ≤ 3072) (hi : i + 6 ≤ L) (hS : LWS g x σ μ z) (hk : k + 122 ≤ 601024) (hn : n + 584 ≤ 7293034)
    (kk : ∀ σ' μ' z', LWS g x σ' μ' z' → V p l e room_1 s mi args below meth c Q g μ' z' (k + 122) (n + 584) 2145 [(0, .ref bb), (1, .ref x), (2, .ref (x + 12)), (3, .ref (x + 38)), (4, .int (nI i))] []) : V p l e room_1 s mi args below meth c Q g μ z k n 656 [(0, .ref bb), (1, .ref x), (2, .ref (x + 12)), (3, .ref (x + 38)), (4, .int (nI i))] [] := by
  obtain ⟨hI, hM, ⟨B, τ, hR⟩, ⟨f, hf⟩, hz⟩ := hS
  refine v_aload_n 1 o dL_law_656 rfl rfl ?_
  refine v_aload_n 0 o dL_law_657 rfl rfl ?_
  refine v_iload 4 o dL_law_658 rfl ?_
  refine v_iconst 1 o dL_law_660 rfl ?_
  refine v_iadd (nI (i + 1)) o dL_law_661 (nI_add i 1) ?_
  refine v_sld (j := (i + 1)) o hX hbl hg dL_law_662 (by omega) (by omega) ?_
  refine v_callSW [.ref x, .int (xs (i + 1))] [] o dL_law_663 cwh_L_147 (w_build hl hR hI (xs (i + 1))) rfl rfl ⟨Nat.le_of_ble_eq_true rfl, Nat.le_of_ble_eq_true rfl⟩ ⟨by show k + 1 ≤ 601024; omega, by show n + 6 ≤ 7293034; omega⟩ (Nat.le_of_ble_eq_true rfl) ?_ (fun _ _ _ _ h => h.elim)
  rintro r9 μ9 z9 hz9 ⟨rfl, B9, τ9, hR9⟩
  obtain ⟨hM9, hf9⟩ := LWS.cls0 hM hf hR9
  refine v_st [.int (nI ((sp_build σ (xs (i + 1))).1 3 1))] rfl ?_
  refine v_istore [(5, .int (nI ((sp_build σ (xs (i + 1))).1 3 1))), (0, .ref bb), (1, .ref x), (2, .ref (x + 12)), (3, .ref (x + 38)), (4, .int (nI i))] o dL_law_666 (by decide) rfl ?_
  refine v_aload_n 3 o dL_law_668 rfl rfl ?_
  refine v_aload_n 1 o dL_law_669 rfl rfl ?_
  refine v_iload 5 o dL_law_670 rfl ?_
  refine v_iconst 1 o dL_law_672 rfl ?_
  refine v_iadd (nI (i + 1)) o dL_law_673 (nI_add i 1) ?_
  refine v_sld (j := (i + 1)) o hX hbl hg dL_law_674 (by omega) (by omega) ?_
  refine v_callV [.int (xs (i + 1))] [] o dL_law_675 cw_L_150 im_X6_build se_X6_build cf6 hM9.o (m_build hl hM9 hI (xs (i + 1))) rfl rfl ⟨Nat.le_of_ble_eq_true rfl, Nat.le_of_ble_eq_true rfl⟩ ⟨by show k + 1 + 0 ≤ 601024; omega, by show n + 6 + 0 ≤ 7293034; omega⟩ (Nat.le_of_ble_eq_true rfl) ?_ (fun _ _ _ _ h => h.elim)
  rintro r8 μ8 z8 hz8 ⟨rfl, hM8, rfl⟩
  have hs := scr.rf (σ := (sp_build σ (xs (i + 1))))
  obtain ⟨hL8, hf8⟩ := LWS.ref (z := z9) (I_build hI (xs (i + 1))) hs hR9 hf9 hM8 (by omega)
  refine v_st [] rfl ?_
  refine v_aload_n 3 o dL_law_678 rfl rfl ?_
  refine v_callVr (v := .int (nI ((sp_build σ (xs (i + 1))).1 3 1))) [] [] o dL_law_679 cw_L_117 im_X6_thrown se_X6_thrown cf6 hM8.o (m_thrown hl hM8) rfl rfl ⟨Nat.le_of_ble_eq_true rfl, Nat.le_of_ble_eq_true rfl⟩ ⟨rfl, rfl⟩ ⟨by show k + 1 + 0 ≤ 601024; omega, by show n + 6 + 0 ≤ 7293034; omega⟩ (Nat.le_of_ble_eq_true rfl) ?_
  refine v_iload 0 o dL_law_682 rfl ?_
  refine v_icmp_eq 689 o dL_law_684 (by decide) (fun c684 => ?_) (fun c684 => absurd c684 (not_not_intro rfl))
  refine v_goto 2145 o dL_law_689 (by decide) ?_
  refine v_sub [(0, .ref bb), (1, .ref x), (2, .ref (x + 12)), (3, .ref (x + 38)), (4, .int (nI i))] [1, 2, 3, 4, 5] rfl ?_
  refine v_widen (k + 122) (n + 584) (by show k + 1 + 0 + 0 ≤ _; omega) (by show n + 6 + 0 + 0 ≤ _; omega) ?_
  exact kk _ _ _ hL8

set_option maxRecDepth 100000 in
set_option maxHeartbeats 4000000 in
theorem lc_check {p : Program} {l : Launch} {e : Env} {s : State} {mi : MethodId} {args : Array Value} {below : List Frame} {meth : Method} {c : Code} {Q : State → Prop} {g : mG} {bb L i x z k n : Nat} {xs : Nat → Int32} {σ : Sg} {μ : mM} (hl : l.stackTraces = false) (o : Ok p l s mi args meth c g cL_law 8 RL) (hX : va_X bb L xs s s.heap) (hbl : bb < s.heap.size) (hg : g.2.2 = s.heap.size) (hL : L ≤ 3072) (hi : i + 6 ≤ L) (hS : LWS g x σ μ z) (hk : k + 122 ≤ 601024) (hn : n + 584 ≤ 7293034)
    (kk : ∀ σ' μ' z', LWS g x σ' μ' z' → V p l e room_1 s mi args below meth c Q g μ' z' (k + 122) (n + 584) 2145 [(0, .ref bb), (1, .ref x), (2, .ref (x + 12)), (3, .ref (x + 38)), (4, .int (nI i))] []) : V p l e room_1 s mi args below meth c Q g μ z k n 692 [(0, .ref bb), (1, .ref x), (2, .ref (x + 12)), (3, .ref (x + 38)), (4, .int (nI i))] [] := by
  obtain ⟨hI, hM, ⟨B, τ, hR⟩, ⟨f, hf⟩, hz⟩ := hS
  refine v_aload_n 1 o dL_law_692 rfl rfl ?_
  refine v_aload_n 0 o dL_law_693 rfl rfl ?_
  refine v_iload 4 o dL_law_694 rfl ?_
  refine v_iconst 1 o dL_law_696 rfl ?_
  refine v_iadd (nI (i + 1)) o dL_law_697 (nI_add i 1) ?_
  refine v_sld (j := (i + 1)) o hX hbl hg dL_law_698 (by omega) (by omega) ?_
  refine v_aload_n 0 o dL_law_699 rfl rfl ?_
  refine v_iload 4 o dL_law_700 rfl ?_
  refine v_iconst 2 o dL_law_702 rfl ?_
  refine v_iadd (nI (i + 2)) o dL_law_703 (nI_add i 2) ?_
  refine v_sld (j := (i + 2)) o hX hbl hg dL_law_704 (by omega) (by omega) ?_
  refine v_aload_n 3 o dL_law_705 rfl rfl ?_
  refine v_callSW [.ref x, .int (xs (i + 1)), .int (xs (i + 2)), .ref (x + 38)] [] o dL_law_706 cwh_L_151 (w_check hl hR hI (xs (i + 1)) (xs (i + 2)) (by omega) (by omega) hf) rfl rfl ⟨Nat.le_of_ble_eq_true rfl, Nat.le_of_ble_eq_true rfl⟩ ⟨by show k + 1 ≤ 601024; omega, by show n + 6 ≤ 7293034; omega⟩ (Nat.le_of_ble_eq_true rfl) ?_ (fun _ _ _ _ h => h.elim)
  rintro r9 μ9 z9 hz9 ⟨rfl, B9, τ9, f9, hR9, hv9⟩
  obtain ⟨hM9, hf9⟩ := LWS.cls hM hR9
  refine v_st [.int (nI ((sp_check σ (xs (i + 1)) (xs (i + 2))).2.1 3 1))] rfl ?_
  refine v_istore [(5, .int (nI ((sp_check σ (xs (i + 1)) (xs (i + 2))).2.1 3 1))), (0, .ref bb), (1, .ref x), (2, .ref (x + 12)), (3, .ref (x + 38)), (4, .int (nI i))] o dL_law_709 (by decide) rfl ?_
  refine v_aload_n 3 o dL_law_711 rfl rfl ?_
  refine v_aload_n 1 o dL_law_712 rfl rfl ?_
  refine v_iload 5 o dL_law_713 rfl ?_
  refine v_iconst 1 o dL_law_715 rfl ?_
  refine v_iadd (nI (i + 1)) o dL_law_716 (nI_add i 1) ?_
  refine v_sld (j := (i + 1)) o hX hbl hg dL_law_717 (by omega) (by omega) ?_
  refine v_aload_n 1 o dL_law_718 rfl rfl ?_
  refine v_iload 5 o dL_law_719 rfl ?_
  refine v_iconst 2 o dL_law_721 rfl ?_
  refine v_iadd (nI (i + 2)) o dL_law_722 (nI_add i 2) ?_
  refine v_sld (j := (i + 2)) o hX hbl hg dL_law_723 (by omega) (by omega) ?_
  refine v_callV [.int (xs (i + 1)), .int (xs (i + 2))] [] o dL_law_724 cw_L_153 im_X6_check se_X6_check cf6 hM9.o (m_check hl hM9 hI (xs (i + 1)) (xs (i + 2))) rfl rfl ⟨Nat.le_of_ble_eq_true rfl, Nat.le_of_ble_eq_true rfl⟩ ⟨by show k + 1 + 0 ≤ 601024; omega, by show n + 6 + 0 ≤ 7293034; omega⟩ (Nat.le_of_ble_eq_true rfl) ?_ (fun _ _ _ _ h => h.elim)
  rintro r8 μ8 z8 hz8 ⟨rfl, ⟨σ2, hs, hM8⟩, rfl⟩
  obtain ⟨hL8, hf8⟩ := LWS.ref (z := z9) (I_check hI (xs (i + 1)) (xs (i + 2))) hs hR9 hf9 hM8 (by omega)
  refine v_st [.int ((sp_check σ (xs (i + 1)) (xs (i + 2))).1)] rfl ?_
  refine v_istore [(6, .int ((sp_check σ (xs (i + 1)) (xs (i + 2))).1)), (5, .int (nI ((sp_check σ (xs (i + 1)) (xs (i + 2))).2.1 3 1))), (0, .ref bb), (1, .ref x), (2, .ref (x + 12)), (3, .ref (x + 38)), (4, .int (nI i))] o dL_law_727 (by decide) rfl ?_
  refine v_aload_n 4 o dL_law_729 rfl rfl ?_
  refine v_callVr (v := .int (nI (σ2.1 3 1))) [] [] o dL_law_730 cw_L_117 im_X6_thrown se_X6_thrown cf6 hM8.o (m_thrown hl hM8) rfl rfl ⟨Nat.le_of_ble_eq_true rfl, Nat.le_of_ble_eq_true rfl⟩ ⟨rfl, rfl⟩ ⟨by show k + 1 + 0 ≤ 601024; omega, by show n + 6 + 0 ≤ 7293034; omega⟩ (Nat.le_of_ble_eq_true rfl) ?_
  refine v_top (nI ((sp_check σ (xs (i + 1)) (xs (i + 2))).2.1 3 1)) (by rw [congrFun (hs.1 3 (by decide) (by decide)) 1]) ?_
  refine v_iload 1 o dL_law_733 rfl ?_
  refine v_icmp_eq 740 o dL_law_735 (by decide) (fun c735 => ?_) (fun c735 => absurd c735 (not_not_intro rfl))
  refine v_iload 1 o dL_law_740 rfl ?_
  refine v_if_ne 757 o dL_law_742 (by decide) (fun c742 => ?_) (fun c742 => ?_)
  · refine v_goto 2145 o dL_law_757 (by decide) ?_
    refine v_sub [(0, .ref bb), (1, .ref x), (2, .ref (x + 12)), (3, .ref (x + 38)), (4, .int (nI i))] [2, 3, 4, 5, 6] rfl ?_
    refine v_widen (k + 122) (n + 584) (by show k + 1 + 0 + 0 ≤ _; omega) (by show n + 6 + 0 + 0 ≤ _; omega) ?_
    exact kk _ _ _ hL8
  · refine v_aload_n 5 o dL_law_745 rfl rfl ?_
    refine v_iconst 0 o dL_law_746 rfl ?_
    refine v_lald (f9 0) o dL_law_747 (by decide) (by decide) hf8 rfl ?_
    refine v_iload 0 o dL_law_748 rfl ?_
    refine v_i2l (((sp_check σ (xs (i + 1)) (xs (i + 2))).1).toInt64) o dL_law_750 rfl ?_
    refine v_lcmp o dL_law_751 ?_
    refine v_if_eq_c 757 o dL_law_752 (by decide) (fun c752 => ?_) (fun c752 => absurd c752 (not_not_intro (hv9 c742)))
    refine v_goto 2145 o dL_law_757 (by decide) ?_
    refine v_sub [(0, .ref bb), (1, .ref x), (2, .ref (x + 12)), (3, .ref (x + 38)), (4, .int (nI i))] [2, 3, 4, 5, 6] rfl ?_
    refine v_widen (k + 122) (n + 584) (by show k + 1 + 0 + 0 ≤ _; omega) (by show n + 6 + 0 + 0 ≤ _; omega) ?_
    exact kk _ _ _ hL8

set_option maxRecDepth 100000 in
set_option maxHeartbeats 4000000 in
theorem lc_mend {p : Program} {l : Launch} {e : Env} {s : State} {mi : MethodId} {args : Array Value} {below : List Frame} {meth : Method} {c : Code} {Q : State → Prop} {g : mG} {bb L i x z k n : Nat} {xs : Nat → Int32} {σ : Sg} {μ : mM} (hl : l.stackTraces = false) (o : Ok p l s mi args meth c g cL_law 8 RL) (hX : va_X bb L xs s s.heap) (hbl : bb < s.heap.size) (hg : g.2.2 = s.heap.size) (hL : L ≤ 3072) (hi : i + 6 ≤ L) (hS : LWS g x σ μ z) (hk : k + 122 ≤ 601024) (hn : n + 584 ≤ 7293034)
    (kk : ∀ σ' μ' z', LWS g x σ' μ' z' → V p l e room_1 s mi args below meth c Q g μ' z' (k + 122) (n + 584) 2145 [(0, .ref bb), (1, .ref x), (2, .ref (x + 12)), (3, .ref (x + 38)), (4, .int (nI i))] []) : V p l e room_1 s mi args below meth c Q g μ z k n 773 [(0, .ref bb), (1, .ref x), (2, .ref (x + 12)), (3, .ref (x + 38)), (4, .int (nI i))] [] := by
  obtain ⟨hI, hM, ⟨B, τ, hR⟩, ⟨f, hf⟩, hz⟩ := hS
  refine v_aload_n 1 o dL_law_773 rfl rfl ?_
  refine v_aload_n 0 o dL_law_774 rfl rfl ?_
  refine v_iload 4 o dL_law_775 rfl ?_
  refine v_iconst 1 o dL_law_777 rfl ?_
  refine v_iadd (nI (i + 1)) o dL_law_778 (nI_add i 1) ?_
  refine v_sld (j := (i + 1)) o hX hbl hg dL_law_779 (by omega) (by omega) ?_
  refine v_aload_n 0 o dL_law_780 rfl rfl ?_
  refine v_iload 4 o dL_law_781 rfl ?_
  refine v_iconst 2 o dL_law_783 rfl ?_
  refine v_iadd (nI (i + 2)) o dL_law_784 (nI_add i 2) ?_
  refine v_sld (j := (i + 2)) o hX hbl hg dL_law_785 (by omega) (by omega) ?_
  refine v_aload_n 3 o dL_law_786 rfl rfl ?_
  refine v_callSW [.ref x, .int (xs (i + 1)), .int (xs (i + 2)), .ref (x + 38)] [] o dL_law_787 cwh_L_158 (w_mend hl hR hI (xs (i + 1)) (xs (i + 2)) (by omega) (by omega) hf) rfl rfl ⟨Nat.le_of_ble_eq_true rfl, Nat.le_of_ble_eq_true rfl⟩ ⟨by show k + 1 ≤ 601024; omega, by show n + 6 ≤ 7293034; omega⟩ (Nat.le_of_ble_eq_true rfl) ?_ (fun _ _ _ _ h => h.elim)
  rintro r9 μ9 z9 hz9 ⟨rfl, B9, τ9, f9, hR9, hv9⟩
  obtain ⟨hM9, hf9⟩ := LWS.cls hM hR9
  refine v_st [.int (nI ((sp_mend σ (xs (i + 1)) (xs (i + 2))).2.1 3 1))] rfl ?_
  refine v_istore [(5, .int (nI ((sp_mend σ (xs (i + 1)) (xs (i + 2))).2.1 3 1))), (0, .ref bb), (1, .ref x), (2, .ref (x + 12)), (3, .ref (x + 38)), (4, .int (nI i))] o dL_law_790 (by decide) rfl ?_
  refine v_aload_n 3 o dL_law_792 rfl rfl ?_
  refine v_aload_n 1 o dL_law_793 rfl rfl ?_
  refine v_iload 5 o dL_law_794 rfl ?_
  refine v_iconst 1 o dL_law_796 rfl ?_
  refine v_iadd (nI (i + 1)) o dL_law_797 (nI_add i 1) ?_
  refine v_sld (j := (i + 1)) o hX hbl hg dL_law_798 (by omega) (by omega) ?_
  refine v_aload_n 1 o dL_law_799 rfl rfl ?_
  refine v_iload 5 o dL_law_800 rfl ?_
  refine v_iconst 2 o dL_law_802 rfl ?_
  refine v_iadd (nI (i + 2)) o dL_law_803 (nI_add i 2) ?_
  refine v_sld (j := (i + 2)) o hX hbl hg dL_law_804 (by omega) (by omega) ?_
  refine v_callV [.int (xs (i + 1)), .int (xs (i + 2))] [] o dL_law_805 cw_L_160 im_X6_mend se_X6_mend cf6 hM9.o (m_mend hl hM9 hI (xs (i + 1)) (xs (i + 2))) rfl rfl ⟨Nat.le_of_ble_eq_true rfl, Nat.le_of_ble_eq_true rfl⟩ ⟨by show k + 1 + 0 ≤ 601024; omega, by show n + 6 + 0 ≤ 7293034; omega⟩ (Nat.le_of_ble_eq_true rfl) ?_ (fun _ _ _ _ h => h.elim)
  rintro r8 μ8 z8 hz8 ⟨rfl, hM8, rfl⟩
  have hs := scr.rf (σ := (sp_mend σ (xs (i + 1)) (xs (i + 2))).2)
  obtain ⟨hL8, hf8⟩ := LWS.ref (z := z9) (I_mend hI (xs (i + 1)) (xs (i + 2))) hs hR9 hf9 hM8 (by omega)
  refine v_st [.int ((sp_mend σ (xs (i + 1)) (xs (i + 2))).1)] rfl ?_
  refine v_istore [(6, .int ((sp_mend σ (xs (i + 1)) (xs (i + 2))).1)), (5, .int (nI ((sp_mend σ (xs (i + 1)) (xs (i + 2))).2.1 3 1))), (0, .ref bb), (1, .ref x), (2, .ref (x + 12)), (3, .ref (x + 38)), (4, .int (nI i))] o dL_law_808 (by decide) rfl ?_
  refine v_aload_n 4 o dL_law_810 rfl rfl ?_
  refine v_callVr (v := .int (nI ((sp_mend σ (xs (i + 1)) (xs (i + 2))).2.1 3 1))) [] [] o dL_law_811 cw_L_117 im_X6_thrown se_X6_thrown cf6 hM8.o (m_thrown hl hM8) rfl rfl ⟨Nat.le_of_ble_eq_true rfl, Nat.le_of_ble_eq_true rfl⟩ ⟨rfl, rfl⟩ ⟨by show k + 1 + 0 ≤ 601024; omega, by show n + 6 + 0 ≤ 7293034; omega⟩ (Nat.le_of_ble_eq_true rfl) ?_
  refine v_iload 1 o dL_law_814 rfl ?_
  refine v_icmp_eq 821 o dL_law_816 (by decide) (fun c816 => ?_) (fun c816 => absurd c816 (not_not_intro rfl))
  refine v_iload 1 o dL_law_821 rfl ?_
  refine v_if_ne 838 o dL_law_823 (by decide) (fun c823 => ?_) (fun c823 => ?_)
  · refine v_goto 2145 o dL_law_838 (by decide) ?_
    refine v_sub [(0, .ref bb), (1, .ref x), (2, .ref (x + 12)), (3, .ref (x + 38)), (4, .int (nI i))] [2, 3, 4, 5, 6] rfl ?_
    refine v_widen (k + 122) (n + 584) (by show k + 1 + 0 + 0 ≤ _; omega) (by show n + 6 + 0 + 0 ≤ _; omega) ?_
    exact kk _ _ _ hL8
  · refine v_aload_n 5 o dL_law_826 rfl rfl ?_
    refine v_iconst 0 o dL_law_827 rfl ?_
    refine v_lald (f9 0) o dL_law_828 (by decide) (by decide) hf8 rfl ?_
    refine v_iload 0 o dL_law_829 rfl ?_
    refine v_i2l (((sp_mend σ (xs (i + 1)) (xs (i + 2))).1).toInt64) o dL_law_831 rfl ?_
    refine v_lcmp o dL_law_832 ?_
    refine v_if_eq_c 838 o dL_law_833 (by decide) (fun c833 => ?_) (fun c833 => absurd c833 (not_not_intro (hv9 c823)))
    refine v_goto 2145 o dL_law_838 (by decide) ?_
    refine v_sub [(0, .ref bb), (1, .ref x), (2, .ref (x + 12)), (3, .ref (x + 38)), (4, .int (nI i))] [2, 3, 4, 5, 6] rfl ?_
    refine v_widen (k + 122) (n + 584) (by show k + 1 + 0 + 0 ≤ _; omega) (by show n + 6 + 0 + 0 ≤ _; omega) ?_
    exact kk _ _ _ hL8

set_option maxRecDepth 100000 in
set_option maxHeartbeats 4000000 in
theorem lc_words {p : Program} {l : Launch} {e : Env} {s : State} {mi : MethodId} {args : Array Value} {below : List Frame} {meth : Method} {c : Code} {Q : State → Prop} {g : mG} {bb L i x z k n : Nat} {xs : Nat → Int32} {σ : Sg} {μ : mM} (hl : l.stackTraces = false) (o : Ok p l s mi args meth c g cL_law 8 RL) (hX : va_X bb L xs s s.heap) (hbl : bb < s.heap.size) (hg : g.2.2 = s.heap.size) (hL : L ≤ 3072) (hi : i + 6 ≤ L) (hS : LWS g x σ μ z) (hk : k + 122 ≤ 601024) (hn : n + 584 ≤ 7293034)
    (kk : ∀ σ' μ' z', LWS g x σ' μ' z' → V p l e room_1 s mi args below meth c Q g μ' z' (k + 122) (n + 584) 2145 [(0, .ref bb), (1, .ref x), (2, .ref (x + 12)), (3, .ref (x + 38)), (4, .int (nI i))] []) : V p l e room_1 s mi args below meth c Q g μ z k n 995 [(0, .ref bb), (1, .ref x), (2, .ref (x + 12)), (3, .ref (x + 38)), (4, .int (nI i))] [] := by
  obtain ⟨hI, hM, ⟨B, τ, hR⟩, ⟨f, hf⟩, hz⟩ := hS
  refine v_aload_n 1 o dL_law_995 rfl rfl ?_
  refine v_aload_n 0 o dL_law_996 rfl rfl ?_
  refine v_iload 4 o dL_law_997 rfl ?_
  refine v_iconst 1 o dL_law_999 rfl ?_
  refine v_iadd (nI (i + 1)) o dL_law_1000 (nI_add i 1) ?_
  refine v_sld (j := (i + 1)) o hX hbl hg dL_law_1001 (by omega) (by omega) ?_
  refine v_aload_n 0 o dL_law_1002 rfl rfl ?_
  refine v_iload 4 o dL_law_1003 rfl ?_
  refine v_iconst 2 o dL_law_1005 rfl ?_
  refine v_iadd (nI (i + 2)) o dL_law_1006 (nI_add i 2) ?_
  refine v_sld (j := (i + 2)) o hX hbl hg dL_law_1007 (by omega) (by omega) ?_
  refine v_aload_n 0 o dL_law_1008 rfl rfl ?_
  refine v_iload 4 o dL_law_1009 rfl ?_
  refine v_iconst 3 o dL_law_1011 rfl ?_
  refine v_iadd (nI (i + 3)) o dL_law_1012 (nI_add i 3) ?_
  refine v_sld (j := (i + 3)) o hX hbl hg dL_law_1013 (by omega) (by omega) ?_
  refine v_aload_n 0 o dL_law_1014 rfl rfl ?_
  refine v_iload 4 o dL_law_1015 rfl ?_
  refine v_iconst 4 o dL_law_1017 rfl ?_
  refine v_iadd (nI (i + 4)) o dL_law_1018 (nI_add i 4) ?_
  refine v_sld (j := (i + 4)) o hX hbl hg dL_law_1019 (by omega) (by omega) ?_
  refine v_callSW [.ref x, .int (xs (i + 1)), .int (xs (i + 2)), .int (xs (i + 3)), .int (xs (i + 4))] [] o dL_law_1020 cwh_L_168 (w_words hl hR hI (xs (i + 1)) (xs (i + 2)) (xs (i + 3)) (xs (i + 4))) rfl rfl ⟨Nat.le_of_ble_eq_true rfl, Nat.le_of_ble_eq_true rfl⟩ ⟨by show k + 1 ≤ 601024; omega, by show n + 6 ≤ 7293034; omega⟩ (Nat.le_of_ble_eq_true rfl) ?_ (fun _ _ _ _ h => h.elim)
  rintro r9 μ9 z9 hz9 ⟨rfl, B9, τ9, hR9⟩
  obtain ⟨hM9, hf9⟩ := LWS.cls0 hM hf hR9
  refine v_st [.int (nI ((sp_words σ (xs (i + 1)) (xs (i + 2)) (xs (i + 3)) (xs (i + 4))).1 3 1))] rfl ?_
  refine v_istore [(5, .int (nI ((sp_words σ (xs (i + 1)) (xs (i + 2)) (xs (i + 3)) (xs (i + 4))).1 3 1))), (0, .ref bb), (1, .ref x), (2, .ref (x + 12)), (3, .ref (x + 38)), (4, .int (nI i))] o dL_law_1023 (by decide) rfl ?_
  refine v_aload_n 3 o dL_law_1025 rfl rfl ?_
  refine v_aload_n 1 o dL_law_1026 rfl rfl ?_
  refine v_iload 5 o dL_law_1027 rfl ?_
  refine v_iconst 1 o dL_law_1029 rfl ?_
  refine v_iadd (nI (i + 1)) o dL_law_1030 (nI_add i 1) ?_
  refine v_sld (j := (i + 1)) o hX hbl hg dL_law_1031 (by omega) (by omega) ?_
  refine v_aload_n 1 o dL_law_1032 rfl rfl ?_
  refine v_iload 5 o dL_law_1033 rfl ?_
  refine v_iconst 2 o dL_law_1035 rfl ?_
  refine v_iadd (nI (i + 2)) o dL_law_1036 (nI_add i 2) ?_
  refine v_sld (j := (i + 2)) o hX hbl hg dL_law_1037 (by omega) (by omega) ?_
  refine v_aload_n 1 o dL_law_1038 rfl rfl ?_
  refine v_iload 5 o dL_law_1039 rfl ?_
  refine v_iconst 3 o dL_law_1041 rfl ?_
  refine v_iadd (nI (i + 3)) o dL_law_1042 (nI_add i 3) ?_
  refine v_sld (j := (i + 3)) o hX hbl hg dL_law_1043 (by omega) (by omega) ?_
  refine v_aload_n 1 o dL_law_1044 rfl rfl ?_
  refine v_iload 5 o dL_law_1045 rfl ?_
  refine v_iconst 4 o dL_law_1047 rfl ?_
  refine v_iadd (nI (i + 4)) o dL_law_1048 (nI_add i 4) ?_
  refine v_sld (j := (i + 4)) o hX hbl hg dL_law_1049 (by omega) (by omega) ?_
  refine v_callV [.int (xs (i + 1)), .int (xs (i + 2)), .int (xs (i + 3)), .int (xs (i + 4))] [] o dL_law_1050 cw_L_171 im_X6_words se_X6_words cf6 hM9.o (m_words hl hM9 hI (xs (i + 1)) (xs (i + 2)) (xs (i + 3)) (xs (i + 4))) rfl rfl ⟨Nat.le_of_ble_eq_true rfl, Nat.le_of_ble_eq_true rfl⟩ ⟨by show k + 1 + 0 ≤ 601024; omega, by show n + 6 + 0 ≤ 7293034; omega⟩ (Nat.le_of_ble_eq_true rfl) ?_ (fun _ _ _ _ h => h.elim)
  rintro r8 μ8 z8 hz8 ⟨rfl, hM8, rfl⟩
  have hs := scr.rf (σ := (sp_words σ (xs (i + 1)) (xs (i + 2)) (xs (i + 3)) (xs (i + 4))))
  obtain ⟨hL8, hf8⟩ := LWS.ref (z := z9) (I_words hI (xs (i + 1)) (xs (i + 2)) (xs (i + 3)) (xs (i + 4))) hs hR9 hf9 hM8 (by omega)
  refine v_st [] rfl ?_
  refine v_aload_n 3 o dL_law_1053 rfl rfl ?_
  refine v_callVr (v := .int (nI ((sp_words σ (xs (i + 1)) (xs (i + 2)) (xs (i + 3)) (xs (i + 4))).1 3 1))) [] [] o dL_law_1054 cw_L_117 im_X6_thrown se_X6_thrown cf6 hM8.o (m_thrown hl hM8) rfl rfl ⟨Nat.le_of_ble_eq_true rfl, Nat.le_of_ble_eq_true rfl⟩ ⟨rfl, rfl⟩ ⟨by show k + 1 + 0 ≤ 601024; omega, by show n + 6 + 0 ≤ 7293034; omega⟩ (Nat.le_of_ble_eq_true rfl) ?_
  refine v_iload 0 o dL_law_1057 rfl ?_
  refine v_icmp_eq 1064 o dL_law_1059 (by decide) (fun c1059 => ?_) (fun c1059 => absurd c1059 (not_not_intro rfl))
  refine v_goto 2145 o dL_law_1064 (by decide) ?_
  refine v_sub [(0, .ref bb), (1, .ref x), (2, .ref (x + 12)), (3, .ref (x + 38)), (4, .int (nI i))] [1, 2, 3, 4, 5] rfl ?_
  refine v_widen (k + 122) (n + 584) (by show k + 1 + 0 + 0 ≤ _; omega) (by show n + 6 + 0 + 0 ≤ _; omega) ?_
  exact kk _ _ _ hL8

set_option maxRecDepth 100000 in
set_option maxHeartbeats 4000000 in
theorem lc_order {p : Program} {l : Launch} {e : Env} {s : State} {mi : MethodId} {args : Array Value} {below : List Frame} {meth : Method} {c : Code} {Q : State → Prop} {g : mG} {bb L i x z k n : Nat} {xs : Nat → Int32} {σ : Sg} {μ : mM} (hl : l.stackTraces = false) (o : Ok p l s mi args meth c g cL_law 8 RL) (hX : va_X bb L xs s s.heap) (hbl : bb < s.heap.size) (hg : g.2.2 = s.heap.size) (hL : L ≤ 3072) (hi : i + 6 ≤ L) (hS : LWS g x σ μ z) (hk : k + 122 ≤ 601024) (hn : n + 584 ≤ 7293034)
    (kk : ∀ σ' μ' z', LWS g x σ' μ' z' → V p l e room_1 s mi args below meth c Q g μ' z' (k + 122) (n + 584) 2145 [(0, .ref bb), (1, .ref x), (2, .ref (x + 12)), (3, .ref (x + 38)), (4, .int (nI i))] []) : V p l e room_1 s mi args below meth c Q g μ z k n 1067 [(0, .ref bb), (1, .ref x), (2, .ref (x + 12)), (3, .ref (x + 38)), (4, .int (nI i))] [] := by
  obtain ⟨hI, hM, ⟨B, τ, hR⟩, ⟨f, hf⟩, hz⟩ := hS
  refine v_aload_n 1 o dL_law_1067 rfl rfl ?_
  refine v_aload_n 0 o dL_law_1068 rfl rfl ?_
  refine v_iload 4 o dL_law_1069 rfl ?_
  refine v_iconst 1 o dL_law_1071 rfl ?_
  refine v_iadd (nI (i + 1)) o dL_law_1072 (nI_add i 1) ?_
  refine v_sld (j := (i + 1)) o hX hbl hg dL_law_1073 (by omega) (by omega) ?_
  refine v_aload_n 0 o dL_law_1074 rfl rfl ?_
  refine v_iload 4 o dL_law_1075 rfl ?_
  refine v_iconst 2 o dL_law_1077 rfl ?_
  refine v_iadd (nI (i + 2)) o dL_law_1078 (nI_add i 2) ?_
  refine v_sld (j := (i + 2)) o hX hbl hg dL_law_1079 (by omega) (by omega) ?_
  refine v_aload_n 3 o dL_law_1080 rfl rfl ?_
  refine v_callSW [.ref x, .int (xs (i + 1)), .int (xs (i + 2)), .ref (x + 38)] [] o dL_law_1081 cwh_L_172 (w_order hl hR hI (xs (i + 1)) (xs (i + 2)) (by omega) (by omega) hf) rfl rfl ⟨Nat.le_of_ble_eq_true rfl, Nat.le_of_ble_eq_true rfl⟩ ⟨by show k + 1 ≤ 601024; omega, by show n + 6 ≤ 7293034; omega⟩ (Nat.le_of_ble_eq_true rfl) ?_ (fun _ _ _ _ h => h.elim)
  rintro r9 μ9 z9 hz9 ⟨rfl, B9, τ9, f9, hR9, hv9⟩
  obtain ⟨hM9, hf9⟩ := LWS.cls hM hR9
  refine v_st [.int (nI ((sp_order σ (xs (i + 1)) (xs (i + 2))).2.1 3 1))] rfl ?_
  refine v_istore [(5, .int (nI ((sp_order σ (xs (i + 1)) (xs (i + 2))).2.1 3 1))), (0, .ref bb), (1, .ref x), (2, .ref (x + 12)), (3, .ref (x + 38)), (4, .int (nI i))] o dL_law_1084 (by decide) rfl ?_
  refine v_aload_n 3 o dL_law_1086 rfl rfl ?_
  refine v_aload_n 1 o dL_law_1087 rfl rfl ?_
  refine v_iload 5 o dL_law_1088 rfl ?_
  refine v_iconst 1 o dL_law_1090 rfl ?_
  refine v_iadd (nI (i + 1)) o dL_law_1091 (nI_add i 1) ?_
  refine v_sld (j := (i + 1)) o hX hbl hg dL_law_1092 (by omega) (by omega) ?_
  refine v_aload_n 1 o dL_law_1093 rfl rfl ?_
  refine v_iload 5 o dL_law_1094 rfl ?_
  refine v_iconst 2 o dL_law_1096 rfl ?_
  refine v_iadd (nI (i + 2)) o dL_law_1097 (nI_add i 2) ?_
  refine v_sld (j := (i + 2)) o hX hbl hg dL_law_1098 (by omega) (by omega) ?_
  refine v_callV [.int (xs (i + 1)), .int (xs (i + 2))] [] o dL_law_1099 cw_L_174 im_X6_order se_X6_order cf6 hM9.o (m_order hl hM9 hI (xs (i + 1)) (xs (i + 2))) rfl rfl ⟨Nat.le_of_ble_eq_true rfl, Nat.le_of_ble_eq_true rfl⟩ ⟨by show k + 1 + 0 ≤ 601024; omega, by show n + 6 + 0 ≤ 7293034; omega⟩ (Nat.le_of_ble_eq_true rfl) ?_ (fun _ _ _ _ h => h.elim)
  rintro r8 μ8 z8 hz8 ⟨rfl, ⟨σ2, hs, hM8⟩, rfl⟩
  obtain ⟨hL8, hf8⟩ := LWS.ref (z := z9) (I_order hI (xs (i + 1)) (xs (i + 2))) hs hR9 hf9 hM8 (by omega)
  refine v_st [.int ((sp_order σ (xs (i + 1)) (xs (i + 2))).1)] rfl ?_
  refine v_istore [(6, .int ((sp_order σ (xs (i + 1)) (xs (i + 2))).1)), (5, .int (nI ((sp_order σ (xs (i + 1)) (xs (i + 2))).2.1 3 1))), (0, .ref bb), (1, .ref x), (2, .ref (x + 12)), (3, .ref (x + 38)), (4, .int (nI i))] o dL_law_1102 (by decide) rfl ?_
  refine v_aload_n 4 o dL_law_1104 rfl rfl ?_
  refine v_callVr (v := .int (nI (σ2.1 3 1))) [] [] o dL_law_1105 cw_L_117 im_X6_thrown se_X6_thrown cf6 hM8.o (m_thrown hl hM8) rfl rfl ⟨Nat.le_of_ble_eq_true rfl, Nat.le_of_ble_eq_true rfl⟩ ⟨rfl, rfl⟩ ⟨by show k + 1 + 0 ≤ 601024; omega, by show n + 6 + 0 ≤ 7293034; omega⟩ (Nat.le_of_ble_eq_true rfl) ?_
  refine v_top (nI ((sp_order σ (xs (i + 1)) (xs (i + 2))).2.1 3 1)) (by rw [congrFun (hs.1 3 (by decide) (by decide)) 1]) ?_
  refine v_iload 1 o dL_law_1108 rfl ?_
  refine v_icmp_eq 1115 o dL_law_1110 (by decide) (fun c1110 => ?_) (fun c1110 => absurd c1110 (not_not_intro rfl))
  refine v_iload 1 o dL_law_1115 rfl ?_
  refine v_if_ne 1132 o dL_law_1117 (by decide) (fun c1117 => ?_) (fun c1117 => ?_)
  · refine v_goto 2145 o dL_law_1132 (by decide) ?_
    refine v_sub [(0, .ref bb), (1, .ref x), (2, .ref (x + 12)), (3, .ref (x + 38)), (4, .int (nI i))] [2, 3, 4, 5, 6] rfl ?_
    refine v_widen (k + 122) (n + 584) (by show k + 1 + 0 + 0 ≤ _; omega) (by show n + 6 + 0 + 0 ≤ _; omega) ?_
    exact kk _ _ _ hL8
  · refine v_aload_n 5 o dL_law_1120 rfl rfl ?_
    refine v_iconst 0 o dL_law_1121 rfl ?_
    refine v_lald (f9 0) o dL_law_1122 (by decide) (by decide) hf8 rfl ?_
    refine v_iload 0 o dL_law_1123 rfl ?_
    refine v_i2l (((sp_order σ (xs (i + 1)) (xs (i + 2))).1).toInt64) o dL_law_1125 rfl ?_
    refine v_lcmp o dL_law_1126 ?_
    refine v_if_eq_c 1132 o dL_law_1127 (by decide) (fun c1127 => ?_) (fun c1127 => absurd c1127 (not_not_intro (hv9 c1117)))
    refine v_goto 2145 o dL_law_1132 (by decide) ?_
    refine v_sub [(0, .ref bb), (1, .ref x), (2, .ref (x + 12)), (3, .ref (x + 38)), (4, .int (nI i))] [2, 3, 4, 5, 6] rfl ?_
    refine v_widen (k + 122) (n + 584) (by show k + 1 + 0 + 0 ≤ _; omega) (by show n + 6 + 0 + 0 ≤ _; omega) ?_
    exact kk _ _ _ hL8

set_option maxRecDepth 100000 in
set_option maxHeartbeats 4000000 in
theorem lc_orderAnew {p : Program} {l : Launch} {e : Env} {s : State} {mi : MethodId} {args : Array Value} {below : List Frame} {meth : Method} {c : Code} {Q : State → Prop} {g : mG} {bb L i x z k n : Nat} {xs : Nat → Int32} {σ : Sg} {μ : mM} (hl : l.stackTraces = false) (o : Ok p l s mi args meth c g cL_law 8 RL) (hX : va_X bb L xs s s.heap) (hbl : bb < s.heap.size) (hg : g.2.2 = s.heap.size) (hL : L ≤ 3072) (hi : i + 6 ≤ L) (hS : LWS g x σ μ z) (hk : k + 122 ≤ 601024) (hn : n + 584 ≤ 7293034)
    (kk : ∀ σ' μ' z', LWS g x σ' μ' z' → V p l e room_1 s mi args below meth c Q g μ' z' (k + 122) (n + 584) 2145 [(0, .ref bb), (1, .ref x), (2, .ref (x + 12)), (3, .ref (x + 38)), (4, .int (nI i))] []) : V p l e room_1 s mi args below meth c Q g μ z k n 1135 [(0, .ref bb), (1, .ref x), (2, .ref (x + 12)), (3, .ref (x + 38)), (4, .int (nI i))] [] := by
  obtain ⟨hI, hM, ⟨B, τ, hR⟩, ⟨f, hf⟩, hz⟩ := hS
  refine v_aload_n 1 o dL_law_1135 rfl rfl ?_
  refine v_aload_n 0 o dL_law_1136 rfl rfl ?_
  refine v_iload 4 o dL_law_1137 rfl ?_
  refine v_iconst 1 o dL_law_1139 rfl ?_
  refine v_iadd (nI (i + 1)) o dL_law_1140 (nI_add i 1) ?_
  refine v_sld (j := (i + 1)) o hX hbl hg dL_law_1141 (by omega) (by omega) ?_
  refine v_aload_n 0 o dL_law_1142 rfl rfl ?_
  refine v_iload 4 o dL_law_1143 rfl ?_
  refine v_iconst 2 o dL_law_1145 rfl ?_
  refine v_iadd (nI (i + 2)) o dL_law_1146 (nI_add i 2) ?_
  refine v_sld (j := (i + 2)) o hX hbl hg dL_law_1147 (by omega) (by omega) ?_
  refine v_aload_n 3 o dL_law_1148 rfl rfl ?_
  refine v_callSW [.ref x, .int (xs (i + 1)), .int (xs (i + 2)), .ref (x + 38)] [] o dL_law_1149 cwh_L_175 (w_orderAnew hl hR hI (xs (i + 1)) (xs (i + 2)) (by omega) (by omega) hf) rfl rfl ⟨Nat.le_of_ble_eq_true rfl, Nat.le_of_ble_eq_true rfl⟩ ⟨by show k + 1 ≤ 601024; omega, by show n + 6 ≤ 7293034; omega⟩ (Nat.le_of_ble_eq_true rfl) ?_ (fun _ _ _ _ h => h.elim)
  rintro r9 μ9 z9 hz9 ⟨rfl, B9, τ9, f9, hR9, hv9⟩
  obtain ⟨hM9, hf9⟩ := LWS.cls hM hR9
  refine v_st [.int (nI ((sp_order σ (xs (i + 1)) (xs (i + 2))).2.1 3 1))] rfl ?_
  refine v_istore [(5, .int (nI ((sp_order σ (xs (i + 1)) (xs (i + 2))).2.1 3 1))), (0, .ref bb), (1, .ref x), (2, .ref (x + 12)), (3, .ref (x + 38)), (4, .int (nI i))] o dL_law_1152 (by decide) rfl ?_
  refine v_aload_n 3 o dL_law_1154 rfl rfl ?_
  refine v_aload_n 1 o dL_law_1155 rfl rfl ?_
  refine v_iload 5 o dL_law_1156 rfl ?_
  refine v_iconst 1 o dL_law_1158 rfl ?_
  refine v_iadd (nI (i + 1)) o dL_law_1159 (nI_add i 1) ?_
  refine v_sld (j := (i + 1)) o hX hbl hg dL_law_1160 (by omega) (by omega) ?_
  refine v_aload_n 1 o dL_law_1161 rfl rfl ?_
  refine v_iload 5 o dL_law_1162 rfl ?_
  refine v_iconst 2 o dL_law_1164 rfl ?_
  refine v_iadd (nI (i + 2)) o dL_law_1165 (nI_add i 2) ?_
  refine v_sld (j := (i + 2)) o hX hbl hg dL_law_1166 (by omega) (by omega) ?_
  refine v_callV [.int (xs (i + 1)), .int (xs (i + 2))] [] o dL_law_1167 cw_L_177 im_X6_orderAnew se_X6_orderAnew cf6 hM9.o (m_orderAnew hl hM9 hI (xs (i + 1)) (xs (i + 2))) rfl rfl ⟨Nat.le_of_ble_eq_true rfl, Nat.le_of_ble_eq_true rfl⟩ ⟨by show k + 1 + 0 ≤ 601024; omega, by show n + 6 + 0 ≤ 7293034; omega⟩ (Nat.le_of_ble_eq_true rfl) ?_ (fun _ _ _ _ h => h.elim)
  rintro r8 μ8 z8 hz8 ⟨rfl, ⟨σ2, hs, hM8⟩, rfl⟩
  obtain ⟨hL8, hf8⟩ := LWS.ref (z := z9) (I_order hI (xs (i + 1)) (xs (i + 2))) hs hR9 hf9 hM8 (by omega)
  refine v_st [.int ((sp_order σ (xs (i + 1)) (xs (i + 2))).1)] rfl ?_
  refine v_istore [(6, .int ((sp_order σ (xs (i + 1)) (xs (i + 2))).1)), (5, .int (nI ((sp_order σ (xs (i + 1)) (xs (i + 2))).2.1 3 1))), (0, .ref bb), (1, .ref x), (2, .ref (x + 12)), (3, .ref (x + 38)), (4, .int (nI i))] o dL_law_1170 (by decide) rfl ?_
  refine v_aload_n 4 o dL_law_1172 rfl rfl ?_
  refine v_callVr (v := .int (nI (σ2.1 3 1))) [] [] o dL_law_1173 cw_L_117 im_X6_thrown se_X6_thrown cf6 hM8.o (m_thrown hl hM8) rfl rfl ⟨Nat.le_of_ble_eq_true rfl, Nat.le_of_ble_eq_true rfl⟩ ⟨rfl, rfl⟩ ⟨by show k + 1 + 0 ≤ 601024; omega, by show n + 6 + 0 ≤ 7293034; omega⟩ (Nat.le_of_ble_eq_true rfl) ?_
  refine v_top (nI ((sp_order σ (xs (i + 1)) (xs (i + 2))).2.1 3 1)) (by rw [congrFun (hs.1 3 (by decide) (by decide)) 1]) ?_
  refine v_iload 1 o dL_law_1176 rfl ?_
  refine v_icmp_eq 1183 o dL_law_1178 (by decide) (fun c1178 => ?_) (fun c1178 => absurd c1178 (not_not_intro rfl))
  refine v_iload 1 o dL_law_1183 rfl ?_
  refine v_if_ne 1200 o dL_law_1185 (by decide) (fun c1185 => ?_) (fun c1185 => ?_)
  · refine v_goto 2145 o dL_law_1200 (by decide) ?_
    refine v_sub [(0, .ref bb), (1, .ref x), (2, .ref (x + 12)), (3, .ref (x + 38)), (4, .int (nI i))] [2, 3, 4, 5, 6] rfl ?_
    refine v_widen (k + 122) (n + 584) (by show k + 1 + 0 + 0 ≤ _; omega) (by show n + 6 + 0 + 0 ≤ _; omega) ?_
    exact kk _ _ _ hL8
  · refine v_aload_n 5 o dL_law_1188 rfl rfl ?_
    refine v_iconst 0 o dL_law_1189 rfl ?_
    refine v_lald (f9 0) o dL_law_1190 (by decide) (by decide) hf8 rfl ?_
    refine v_iload 0 o dL_law_1191 rfl ?_
    refine v_i2l (((sp_order σ (xs (i + 1)) (xs (i + 2))).1).toInt64) o dL_law_1193 rfl ?_
    refine v_lcmp o dL_law_1194 ?_
    refine v_if_eq_c 1200 o dL_law_1195 (by decide) (fun c1195 => ?_) (fun c1195 => absurd c1195 (not_not_intro (hv9 c1185)))
    refine v_goto 2145 o dL_law_1200 (by decide) ?_
    refine v_sub [(0, .ref bb), (1, .ref x), (2, .ref (x + 12)), (3, .ref (x + 38)), (4, .int (nI i))] [2, 3, 4, 5, 6] rfl ?_
    refine v_widen (k + 122) (n + 584) (by show k + 1 + 0 + 0 ≤ _; omega) (by show n + 6 + 0 + 0 ≤ _; omega) ?_
    exact kk _ _ _ hL8

set_option maxRecDepth 100000 in
set_option maxHeartbeats 4000000 in
theorem lc_gold {p : Program} {l : Launch} {e : Env} {s : State} {mi : MethodId} {args : Array Value} {below : List Frame} {meth : Method} {c : Code} {Q : State → Prop} {g : mG} {bb L i x z k n : Nat} {xs : Nat → Int32} {σ : Sg} {μ : mM} (hl : l.stackTraces = false) (o : Ok p l s mi args meth c g cL_law 8 RL) (hX : va_X bb L xs s s.heap) (hbl : bb < s.heap.size) (hg : g.2.2 = s.heap.size) (hL : L ≤ 3072) (hi : i + 6 ≤ L) (hS : LWS g x σ μ z) (hk : k + 122 ≤ 601024) (hn : n + 584 ≤ 7293034)
    (kk : ∀ σ' μ' z', LWS g x σ' μ' z' → V p l e room_1 s mi args below meth c Q g μ' z' (k + 122) (n + 584) 2145 [(0, .ref bb), (1, .ref x), (2, .ref (x + 12)), (3, .ref (x + 38)), (4, .int (nI i))] []) : V p l e room_1 s mi args below meth c Q g μ z k n 1203 [(0, .ref bb), (1, .ref x), (2, .ref (x + 12)), (3, .ref (x + 38)), (4, .int (nI i))] [] := by
  obtain ⟨hI, hM, ⟨B, τ, hR⟩, ⟨f, hf⟩, hz⟩ := hS
  refine v_aload_n 1 o dL_law_1203 rfl rfl ?_
  refine v_aload_n 0 o dL_law_1204 rfl rfl ?_
  refine v_iload 4 o dL_law_1205 rfl ?_
  refine v_iconst 1 o dL_law_1207 rfl ?_
  refine v_iadd (nI (i + 1)) o dL_law_1208 (nI_add i 1) ?_
  refine v_sld (j := (i + 1)) o hX hbl hg dL_law_1209 (by omega) (by omega) ?_
  refine v_aload_n 0 o dL_law_1210 rfl rfl ?_
  refine v_iload 4 o dL_law_1211 rfl ?_
  refine v_iconst 2 o dL_law_1213 rfl ?_
  refine v_iadd (nI (i + 2)) o dL_law_1214 (nI_add i 2) ?_
  refine v_sld (j := (i + 2)) o hX hbl hg dL_law_1215 (by omega) (by omega) ?_
  refine v_aload_n 0 o dL_law_1216 rfl rfl ?_
  refine v_iload 4 o dL_law_1217 rfl ?_
  refine v_iconst 3 o dL_law_1219 rfl ?_
  refine v_iadd (nI (i + 3)) o dL_law_1220 (nI_add i 3) ?_
  refine v_sld (j := (i + 3)) o hX hbl hg dL_law_1221 (by omega) (by omega) ?_
  refine v_aload_n 0 o dL_law_1222 rfl rfl ?_
  refine v_iload 4 o dL_law_1223 rfl ?_
  refine v_iconst 4 o dL_law_1225 rfl ?_
  refine v_iadd (nI (i + 4)) o dL_law_1226 (nI_add i 4) ?_
  refine v_sld (j := (i + 4)) o hX hbl hg dL_law_1227 (by omega) (by omega) ?_
  refine v_aload_n 3 o dL_law_1228 rfl rfl ?_
  refine v_callSW [.ref x, .int (xs (i + 1)), .int (xs (i + 2)), .int (xs (i + 3)), .int (xs (i + 4)), .ref (x + 38)] [] o dL_law_1229 cwh_L_178 (w_gold hl hR hI (xs (i + 1)) (xs (i + 2)) (xs (i + 3)) (xs (i + 4)) (by omega) (by omega) hf) rfl rfl ⟨Nat.le_of_ble_eq_true rfl, Nat.le_of_ble_eq_true rfl⟩ ⟨by show k + 1 ≤ 601024; omega, by show n + 6 ≤ 7293034; omega⟩ (Nat.le_of_ble_eq_true rfl) ?_ (fun _ _ _ _ h => h.elim)
  rintro r9 μ9 z9 hz9 ⟨rfl, B9, τ9, f9, hR9, hv9⟩
  obtain ⟨hM9, hf9⟩ := LWS.cls hM hR9
  refine v_st [.int (nI ((sp_gold σ (xs (i + 1)) (xs (i + 2)) (xs (i + 3)) (xs (i + 4))).2.1 3 1))] rfl ?_
  refine v_istore [(5, .int (nI ((sp_gold σ (xs (i + 1)) (xs (i + 2)) (xs (i + 3)) (xs (i + 4))).2.1 3 1))), (0, .ref bb), (1, .ref x), (2, .ref (x + 12)), (3, .ref (x + 38)), (4, .int (nI i))] o dL_law_1232 (by decide) rfl ?_
  refine v_aload_n 3 o dL_law_1234 rfl rfl ?_
  refine v_aload_n 1 o dL_law_1235 rfl rfl ?_
  refine v_iload 5 o dL_law_1236 rfl ?_
  refine v_iconst 1 o dL_law_1238 rfl ?_
  refine v_iadd (nI (i + 1)) o dL_law_1239 (nI_add i 1) ?_
  refine v_sld (j := (i + 1)) o hX hbl hg dL_law_1240 (by omega) (by omega) ?_
  refine v_aload_n 1 o dL_law_1241 rfl rfl ?_
  refine v_iload 5 o dL_law_1242 rfl ?_
  refine v_iconst 2 o dL_law_1244 rfl ?_
  refine v_iadd (nI (i + 2)) o dL_law_1245 (nI_add i 2) ?_
  refine v_sld (j := (i + 2)) o hX hbl hg dL_law_1246 (by omega) (by omega) ?_
  refine v_aload_n 1 o dL_law_1247 rfl rfl ?_
  refine v_iload 5 o dL_law_1248 rfl ?_
  refine v_iconst 3 o dL_law_1250 rfl ?_
  refine v_iadd (nI (i + 3)) o dL_law_1251 (nI_add i 3) ?_
  refine v_sld (j := (i + 3)) o hX hbl hg dL_law_1252 (by omega) (by omega) ?_
  refine v_aload_n 1 o dL_law_1253 rfl rfl ?_
  refine v_iload 5 o dL_law_1254 rfl ?_
  refine v_iconst 4 o dL_law_1256 rfl ?_
  refine v_iadd (nI (i + 4)) o dL_law_1257 (nI_add i 4) ?_
  refine v_sld (j := (i + 4)) o hX hbl hg dL_law_1258 (by omega) (by omega) ?_
  refine v_callV [.int (xs (i + 1)), .int (xs (i + 2)), .int (xs (i + 3)), .int (xs (i + 4))] [] o dL_law_1259 cw_L_180 im_X6_gold se_X6_gold cf6 hM9.o (m_gold hl hM9 hI (xs (i + 1)) (xs (i + 2)) (xs (i + 3)) (xs (i + 4))) rfl rfl ⟨Nat.le_of_ble_eq_true rfl, Nat.le_of_ble_eq_true rfl⟩ ⟨by show k + 1 + 0 ≤ 601024; omega, by show n + 6 + 0 ≤ 7293034; omega⟩ (Nat.le_of_ble_eq_true rfl) ?_ (fun _ _ _ _ h => h.elim)
  rintro r8 μ8 z8 hz8 ⟨rfl, hM8, rfl⟩
  have hs := scr.rf (σ := (sp_gold σ (xs (i + 1)) (xs (i + 2)) (xs (i + 3)) (xs (i + 4))).2)
  obtain ⟨hL8, hf8⟩ := LWS.ref (z := z9) (I_gold hI (xs (i + 1)) (xs (i + 2)) (xs (i + 3)) (xs (i + 4))) hs hR9 hf9 hM8 (by omega)
  refine v_st [.int ((sp_gold σ (xs (i + 1)) (xs (i + 2)) (xs (i + 3)) (xs (i + 4))).1)] rfl ?_
  refine v_istore [(6, .int ((sp_gold σ (xs (i + 1)) (xs (i + 2)) (xs (i + 3)) (xs (i + 4))).1)), (5, .int (nI ((sp_gold σ (xs (i + 1)) (xs (i + 2)) (xs (i + 3)) (xs (i + 4))).2.1 3 1))), (0, .ref bb), (1, .ref x), (2, .ref (x + 12)), (3, .ref (x + 38)), (4, .int (nI i))] o dL_law_1262 (by decide) rfl ?_
  refine v_aload_n 4 o dL_law_1264 rfl rfl ?_
  refine v_callVr (v := .int (nI ((sp_gold σ (xs (i + 1)) (xs (i + 2)) (xs (i + 3)) (xs (i + 4))).2.1 3 1))) [] [] o dL_law_1265 cw_L_117 im_X6_thrown se_X6_thrown cf6 hM8.o (m_thrown hl hM8) rfl rfl ⟨Nat.le_of_ble_eq_true rfl, Nat.le_of_ble_eq_true rfl⟩ ⟨rfl, rfl⟩ ⟨by show k + 1 + 0 ≤ 601024; omega, by show n + 6 + 0 ≤ 7293034; omega⟩ (Nat.le_of_ble_eq_true rfl) ?_
  refine v_iload 1 o dL_law_1268 rfl ?_
  refine v_icmp_eq 1275 o dL_law_1270 (by decide) (fun c1270 => ?_) (fun c1270 => absurd c1270 (not_not_intro rfl))
  refine v_iload 1 o dL_law_1275 rfl ?_
  refine v_if_ne 1292 o dL_law_1277 (by decide) (fun c1277 => ?_) (fun c1277 => ?_)
  · refine v_goto 2145 o dL_law_1292 (by decide) ?_
    refine v_sub [(0, .ref bb), (1, .ref x), (2, .ref (x + 12)), (3, .ref (x + 38)), (4, .int (nI i))] [2, 3, 4, 5, 6] rfl ?_
    refine v_widen (k + 122) (n + 584) (by show k + 1 + 0 + 0 ≤ _; omega) (by show n + 6 + 0 + 0 ≤ _; omega) ?_
    exact kk _ _ _ hL8
  · refine v_aload_n 5 o dL_law_1280 rfl rfl ?_
    refine v_iconst 0 o dL_law_1281 rfl ?_
    refine v_lald (f9 0) o dL_law_1282 (by decide) (by decide) hf8 rfl ?_
    refine v_iload 0 o dL_law_1283 rfl ?_
    refine v_i2l (((sp_gold σ (xs (i + 1)) (xs (i + 2)) (xs (i + 3)) (xs (i + 4))).1).toInt64) o dL_law_1285 rfl ?_
    refine v_lcmp o dL_law_1286 ?_
    refine v_if_eq_c 1292 o dL_law_1287 (by decide) (fun c1287 => ?_) (fun c1287 => absurd c1287 (not_not_intro (hv9 c1277)))
    refine v_goto 2145 o dL_law_1292 (by decide) ?_
    refine v_sub [(0, .ref bb), (1, .ref x), (2, .ref (x + 12)), (3, .ref (x + 38)), (4, .int (nI i))] [2, 3, 4, 5, 6] rfl ?_
    refine v_widen (k + 122) (n + 584) (by show k + 1 + 0 + 0 ≤ _; omega) (by show n + 6 + 0 + 0 ≤ _; omega) ?_
    exact kk _ _ _ hL8

set_option maxRecDepth 100000 in
set_option maxHeartbeats 4000000 in
theorem lc_key {p : Program} {l : Launch} {e : Env} {s : State} {mi : MethodId} {args : Array Value} {below : List Frame} {meth : Method} {c : Code} {Q : State → Prop} {g : mG} {bb L i x z k n : Nat} {xs : Nat → Int32} {σ : Sg} {μ : mM} (hl : l.stackTraces = false) (o : Ok p l s mi args meth c g cL_law 8 RL) (hX : va_X bb L xs s s.heap) (hbl : bb < s.heap.size) (hg : g.2.2 = s.heap.size) (hL : L ≤ 3072) (hi : i + 6 ≤ L) (hS : LWS g x σ μ z) (hk : k + 122 ≤ 601024) (hn : n + 584 ≤ 7293034)
    (kk : ∀ σ' μ' z', LWS g x σ' μ' z' → V p l e room_1 s mi args below meth c Q g μ' z' (k + 122) (n + 584) 2145 [(0, .ref bb), (1, .ref x), (2, .ref (x + 12)), (3, .ref (x + 38)), (4, .int (nI i))] []) : V p l e room_1 s mi args below meth c Q g μ z k n 1295 [(0, .ref bb), (1, .ref x), (2, .ref (x + 12)), (3, .ref (x + 38)), (4, .int (nI i))] [] := by
  obtain ⟨hI, hM, ⟨B, τ, hR⟩, ⟨f, hf⟩, hz⟩ := hS
  refine v_aload_n 1 o dL_law_1295 rfl rfl ?_
  refine v_aload_n 0 o dL_law_1296 rfl rfl ?_
  refine v_iload 4 o dL_law_1297 rfl ?_
  refine v_iconst 1 o dL_law_1299 rfl ?_
  refine v_iadd (nI (i + 1)) o dL_law_1300 (nI_add i 1) ?_
  refine v_sld (j := (i + 1)) o hX hbl hg dL_law_1301 (by omega) (by omega) ?_
  refine v_aload_n 0 o dL_law_1302 rfl rfl ?_
  refine v_iload 4 o dL_law_1303 rfl ?_
  refine v_iconst 2 o dL_law_1305 rfl ?_
  refine v_iadd (nI (i + 2)) o dL_law_1306 (nI_add i 2) ?_
  refine v_sld (j := (i + 2)) o hX hbl hg dL_law_1307 (by omega) (by omega) ?_
  refine v_aload_n 0 o dL_law_1308 rfl rfl ?_
  refine v_iload 4 o dL_law_1309 rfl ?_
  refine v_iconst 3 o dL_law_1311 rfl ?_
  refine v_iadd (nI (i + 3)) o dL_law_1312 (nI_add i 3) ?_
  refine v_sld (j := (i + 3)) o hX hbl hg dL_law_1313 (by omega) (by omega) ?_
  refine v_aload_n 0 o dL_law_1314 rfl rfl ?_
  refine v_iload 4 o dL_law_1315 rfl ?_
  refine v_iconst 4 o dL_law_1317 rfl ?_
  refine v_iadd (nI (i + 4)) o dL_law_1318 (nI_add i 4) ?_
  refine v_sld (j := (i + 4)) o hX hbl hg dL_law_1319 (by omega) (by omega) ?_
  refine v_aload_n 0 o dL_law_1320 rfl rfl ?_
  refine v_iload 4 o dL_law_1321 rfl ?_
  refine v_iconst 5 o dL_law_1323 rfl ?_
  refine v_iadd (nI (i + 5)) o dL_law_1324 (nI_add i 5) ?_
  refine v_sld (j := (i + 5)) o hX hbl hg dL_law_1325 (by omega) (by omega) ?_
  refine v_aload_n 3 o dL_law_1326 rfl rfl ?_
  refine v_callSW [.ref x, .int (xs (i + 1)), .int (xs (i + 2)), .int (xs (i + 3)), .int (xs (i + 4)), .int (xs (i + 5)), .ref (x + 38)] [] o dL_law_1327 cwh_L_181 (w_key hl hR hI (xs (i + 1)) (xs (i + 2)) (xs (i + 3)) (xs (i + 4)) (xs (i + 5)) (by omega) (by omega) hf) rfl rfl ⟨Nat.le_of_ble_eq_true rfl, Nat.le_of_ble_eq_true rfl⟩ ⟨by show k + 1 ≤ 601024; omega, by show n + 6 ≤ 7293034; omega⟩ (Nat.le_of_ble_eq_true rfl) ?_ (fun _ _ _ _ h => h.elim)
  rintro r9 μ9 z9 hz9 ⟨rfl, B9, τ9, f9, hR9, hv9⟩
  obtain ⟨hM9, hf9⟩ := LWS.cls hM hR9
  refine v_st [.int (nI ((sp_key σ (xs (i + 1)) (xs (i + 2)) (xs (i + 3)) (xs (i + 4)) (xs (i + 5))).2.1 3 1))] rfl ?_
  refine v_istore [(5, .int (nI ((sp_key σ (xs (i + 1)) (xs (i + 2)) (xs (i + 3)) (xs (i + 4)) (xs (i + 5))).2.1 3 1))), (0, .ref bb), (1, .ref x), (2, .ref (x + 12)), (3, .ref (x + 38)), (4, .int (nI i))] o dL_law_1330 (by decide) rfl ?_
  refine v_aload_n 3 o dL_law_1332 rfl rfl ?_
  refine v_aload_n 1 o dL_law_1333 rfl rfl ?_
  refine v_iload 5 o dL_law_1334 rfl ?_
  refine v_iconst 1 o dL_law_1336 rfl ?_
  refine v_iadd (nI (i + 1)) o dL_law_1337 (nI_add i 1) ?_
  refine v_sld (j := (i + 1)) o hX hbl hg dL_law_1338 (by omega) (by omega) ?_
  refine v_aload_n 1 o dL_law_1339 rfl rfl ?_
  refine v_iload 5 o dL_law_1340 rfl ?_
  refine v_iconst 2 o dL_law_1342 rfl ?_
  refine v_iadd (nI (i + 2)) o dL_law_1343 (nI_add i 2) ?_
  refine v_sld (j := (i + 2)) o hX hbl hg dL_law_1344 (by omega) (by omega) ?_
  refine v_aload_n 1 o dL_law_1345 rfl rfl ?_
  refine v_iload 5 o dL_law_1346 rfl ?_
  refine v_iconst 3 o dL_law_1348 rfl ?_
  refine v_iadd (nI (i + 3)) o dL_law_1349 (nI_add i 3) ?_
  refine v_sld (j := (i + 3)) o hX hbl hg dL_law_1350 (by omega) (by omega) ?_
  refine v_aload_n 1 o dL_law_1351 rfl rfl ?_
  refine v_iload 5 o dL_law_1352 rfl ?_
  refine v_iconst 4 o dL_law_1354 rfl ?_
  refine v_iadd (nI (i + 4)) o dL_law_1355 (nI_add i 4) ?_
  refine v_sld (j := (i + 4)) o hX hbl hg dL_law_1356 (by omega) (by omega) ?_
  refine v_aload_n 1 o dL_law_1357 rfl rfl ?_
  refine v_iload 5 o dL_law_1358 rfl ?_
  refine v_iconst 5 o dL_law_1360 rfl ?_
  refine v_iadd (nI (i + 5)) o dL_law_1361 (nI_add i 5) ?_
  refine v_sld (j := (i + 5)) o hX hbl hg dL_law_1362 (by omega) (by omega) ?_
  refine v_callV [.int (xs (i + 1)), .int (xs (i + 2)), .int (xs (i + 3)), .int (xs (i + 4)), .int (xs (i + 5))] [] o dL_law_1363 cw_L_183 im_X6_key se_X6_key cf6 hM9.o (m_key hl hM9 hI (xs (i + 1)) (xs (i + 2)) (xs (i + 3)) (xs (i + 4)) (xs (i + 5))) rfl rfl ⟨Nat.le_of_ble_eq_true rfl, Nat.le_of_ble_eq_true rfl⟩ ⟨by show k + 1 + 0 ≤ 601024; omega, by show n + 6 + 0 ≤ 7293034; omega⟩ (Nat.le_of_ble_eq_true rfl) ?_ (fun _ _ _ _ h => h.elim)
  rintro r8 μ8 z8 hz8 ⟨rfl, hM8, rfl⟩
  have hs := scr.rf (σ := (sp_key σ (xs (i + 1)) (xs (i + 2)) (xs (i + 3)) (xs (i + 4)) (xs (i + 5))).2)
  obtain ⟨hL8, hf8⟩ := LWS.ref (z := z9) (I_key hI (xs (i + 1)) (xs (i + 2)) (xs (i + 3)) (xs (i + 4)) (xs (i + 5))) hs hR9 hf9 hM8 (by omega)
  refine v_st [.int ((sp_key σ (xs (i + 1)) (xs (i + 2)) (xs (i + 3)) (xs (i + 4)) (xs (i + 5))).1)] rfl ?_
  refine v_istore [(6, .int ((sp_key σ (xs (i + 1)) (xs (i + 2)) (xs (i + 3)) (xs (i + 4)) (xs (i + 5))).1)), (5, .int (nI ((sp_key σ (xs (i + 1)) (xs (i + 2)) (xs (i + 3)) (xs (i + 4)) (xs (i + 5))).2.1 3 1))), (0, .ref bb), (1, .ref x), (2, .ref (x + 12)), (3, .ref (x + 38)), (4, .int (nI i))] o dL_law_1366 (by decide) rfl ?_
  refine v_aload_n 4 o dL_law_1368 rfl rfl ?_
  refine v_callVr (v := .int (nI ((sp_key σ (xs (i + 1)) (xs (i + 2)) (xs (i + 3)) (xs (i + 4)) (xs (i + 5))).2.1 3 1))) [] [] o dL_law_1369 cw_L_117 im_X6_thrown se_X6_thrown cf6 hM8.o (m_thrown hl hM8) rfl rfl ⟨Nat.le_of_ble_eq_true rfl, Nat.le_of_ble_eq_true rfl⟩ ⟨rfl, rfl⟩ ⟨by show k + 1 + 0 ≤ 601024; omega, by show n + 6 + 0 ≤ 7293034; omega⟩ (Nat.le_of_ble_eq_true rfl) ?_
  refine v_iload 1 o dL_law_1372 rfl ?_
  refine v_icmp_eq 1379 o dL_law_1374 (by decide) (fun c1374 => ?_) (fun c1374 => absurd c1374 (not_not_intro rfl))
  refine v_iload 1 o dL_law_1379 rfl ?_
  refine v_if_ne 1396 o dL_law_1381 (by decide) (fun c1381 => ?_) (fun c1381 => ?_)
  · refine v_goto 2145 o dL_law_1396 (by decide) ?_
    refine v_sub [(0, .ref bb), (1, .ref x), (2, .ref (x + 12)), (3, .ref (x + 38)), (4, .int (nI i))] [2, 3, 4, 5, 6] rfl ?_
    refine v_widen (k + 122) (n + 584) (by show k + 1 + 0 + 0 ≤ _; omega) (by show n + 6 + 0 + 0 ≤ _; omega) ?_
    exact kk _ _ _ hL8
  · refine v_aload_n 5 o dL_law_1384 rfl rfl ?_
    refine v_iconst 0 o dL_law_1385 rfl ?_
    refine v_lald (f9 0) o dL_law_1386 (by decide) (by decide) hf8 rfl ?_
    refine v_iload 0 o dL_law_1387 rfl ?_
    refine v_i2l (((sp_key σ (xs (i + 1)) (xs (i + 2)) (xs (i + 3)) (xs (i + 4)) (xs (i + 5))).1).toInt64) o dL_law_1389 rfl ?_
    refine v_lcmp o dL_law_1390 ?_
    refine v_if_eq_c 1396 o dL_law_1391 (by decide) (fun c1391 => ?_) (fun c1391 => absurd c1391 (not_not_intro (hv9 c1381)))
    refine v_goto 2145 o dL_law_1396 (by decide) ?_
    refine v_sub [(0, .ref bb), (1, .ref x), (2, .ref (x + 12)), (3, .ref (x + 38)), (4, .int (nI i))] [2, 3, 4, 5, 6] rfl ?_
    refine v_widen (k + 122) (n + 584) (by show k + 1 + 0 + 0 ≤ _; omega) (by show n + 6 + 0 + 0 ≤ _; omega) ?_
    exact kk _ _ _ hL8

set_option maxRecDepth 100000 in
set_option maxHeartbeats 4000000 in
theorem lc_trust {p : Program} {l : Launch} {e : Env} {s : State} {mi : MethodId} {args : Array Value} {below : List Frame} {meth : Method} {c : Code} {Q : State → Prop} {g : mG} {bb L i x z k n : Nat} {xs : Nat → Int32} {σ : Sg} {μ : mM} (hl : l.stackTraces = false) (o : Ok p l s mi args meth c g cL_law 8 RL) (hX : va_X bb L xs s s.heap) (hbl : bb < s.heap.size) (hg : g.2.2 = s.heap.size) (hL : L ≤ 3072) (hi : i + 6 ≤ L) (hS : LWS g x σ μ z) (hk : k + 122 ≤ 601024) (hn : n + 584 ≤ 7293034)
    (kk : ∀ σ' μ' z', LWS g x σ' μ' z' → V p l e room_1 s mi args below meth c Q g μ' z' (k + 122) (n + 584) 2145 [(0, .ref bb), (1, .ref x), (2, .ref (x + 12)), (3, .ref (x + 38)), (4, .int (nI i))] []) : V p l e room_1 s mi args below meth c Q g μ z k n 1399 [(0, .ref bb), (1, .ref x), (2, .ref (x + 12)), (3, .ref (x + 38)), (4, .int (nI i))] [] := by
  obtain ⟨hI, hM, ⟨B, τ, hR⟩, ⟨f, hf⟩, hz⟩ := hS
  refine v_aload_n 1 o dL_law_1399 rfl rfl ?_
  refine v_aload_n 0 o dL_law_1400 rfl rfl ?_
  refine v_iload 4 o dL_law_1401 rfl ?_
  refine v_iconst 1 o dL_law_1403 rfl ?_
  refine v_iadd (nI (i + 1)) o dL_law_1404 (nI_add i 1) ?_
  refine v_sld (j := (i + 1)) o hX hbl hg dL_law_1405 (by omega) (by omega) ?_
  refine v_aload_n 3 o dL_law_1406 rfl rfl ?_
  refine v_callSW [.ref x, .int (xs (i + 1)), .ref (x + 38)] [] o dL_law_1407 cwh_L_184 (w_trust hl hR hI (xs (i + 1)) (by omega) (by omega) hf) rfl rfl ⟨Nat.le_of_ble_eq_true rfl, Nat.le_of_ble_eq_true rfl⟩ ⟨by show k + 1 ≤ 601024; omega, by show n + 6 ≤ 7293034; omega⟩ (Nat.le_of_ble_eq_true rfl) ?_ (fun _ _ _ _ h => h.elim)
  rintro r9 μ9 z9 hz9 ⟨rfl, B9, τ9, f9, hR9, hv9⟩
  obtain ⟨hM9, hf9⟩ := LWS.cls hM hR9
  refine v_st [.int (nI ((sp_trust σ (xs (i + 1))).2.1 3 1))] rfl ?_
  refine v_istore [(5, .int (nI ((sp_trust σ (xs (i + 1))).2.1 3 1))), (0, .ref bb), (1, .ref x), (2, .ref (x + 12)), (3, .ref (x + 38)), (4, .int (nI i))] o dL_law_1410 (by decide) rfl ?_
  refine v_aload_n 3 o dL_law_1412 rfl rfl ?_
  refine v_aload_n 1 o dL_law_1413 rfl rfl ?_
  refine v_iload 5 o dL_law_1414 rfl ?_
  refine v_iconst 1 o dL_law_1416 rfl ?_
  refine v_iadd (nI (i + 1)) o dL_law_1417 (nI_add i 1) ?_
  refine v_sld (j := (i + 1)) o hX hbl hg dL_law_1418 (by omega) (by omega) ?_
  refine v_callV [.int (xs (i + 1))] [] o dL_law_1419 cw_L_186 im_X6_trust se_X6_trust cf6 hM9.o (m_trust hl hM9 hI (xs (i + 1))) rfl rfl ⟨Nat.le_of_ble_eq_true rfl, Nat.le_of_ble_eq_true rfl⟩ ⟨by show k + 1 + 0 ≤ 601024; omega, by show n + 6 + 0 ≤ 7293034; omega⟩ (Nat.le_of_ble_eq_true rfl) ?_ (fun _ _ _ _ h => h.elim)
  rintro r8 μ8 z8 hz8 ⟨rfl, hM8, rfl⟩
  have hs := scr.rf (σ := (sp_trust σ (xs (i + 1))).2)
  obtain ⟨hL8, hf8⟩ := LWS.ref (z := z9) (I_trust hI (xs (i + 1))) hs hR9 hf9 hM8 (by omega)
  refine v_st [.int ((sp_trust σ (xs (i + 1))).1)] rfl ?_
  refine v_istore [(6, .int ((sp_trust σ (xs (i + 1))).1)), (5, .int (nI ((sp_trust σ (xs (i + 1))).2.1 3 1))), (0, .ref bb), (1, .ref x), (2, .ref (x + 12)), (3, .ref (x + 38)), (4, .int (nI i))] o dL_law_1422 (by decide) rfl ?_
  refine v_aload_n 4 o dL_law_1424 rfl rfl ?_
  refine v_callVr (v := .int (nI ((sp_trust σ (xs (i + 1))).2.1 3 1))) [] [] o dL_law_1425 cw_L_117 im_X6_thrown se_X6_thrown cf6 hM8.o (m_thrown hl hM8) rfl rfl ⟨Nat.le_of_ble_eq_true rfl, Nat.le_of_ble_eq_true rfl⟩ ⟨rfl, rfl⟩ ⟨by show k + 1 + 0 ≤ 601024; omega, by show n + 6 + 0 ≤ 7293034; omega⟩ (Nat.le_of_ble_eq_true rfl) ?_
  refine v_iload 1 o dL_law_1428 rfl ?_
  refine v_icmp_eq 1435 o dL_law_1430 (by decide) (fun c1430 => ?_) (fun c1430 => absurd c1430 (not_not_intro rfl))
  refine v_iload 1 o dL_law_1435 rfl ?_
  refine v_if_ne 1452 o dL_law_1437 (by decide) (fun c1437 => ?_) (fun c1437 => ?_)
  · refine v_goto 2145 o dL_law_1452 (by decide) ?_
    refine v_sub [(0, .ref bb), (1, .ref x), (2, .ref (x + 12)), (3, .ref (x + 38)), (4, .int (nI i))] [2, 3, 4, 5, 6] rfl ?_
    refine v_widen (k + 122) (n + 584) (by show k + 1 + 0 + 0 ≤ _; omega) (by show n + 6 + 0 + 0 ≤ _; omega) ?_
    exact kk _ _ _ hL8
  · refine v_aload_n 5 o dL_law_1440 rfl rfl ?_
    refine v_iconst 0 o dL_law_1441 rfl ?_
    refine v_lald (f9 0) o dL_law_1442 (by decide) (by decide) hf8 rfl ?_
    refine v_iload 0 o dL_law_1443 rfl ?_
    refine v_i2l (((sp_trust σ (xs (i + 1))).1).toInt64) o dL_law_1445 rfl ?_
    refine v_lcmp o dL_law_1446 ?_
    refine v_if_eq_c 1452 o dL_law_1447 (by decide) (fun c1447 => ?_) (fun c1447 => absurd c1447 (not_not_intro (hv9 c1437)))
    refine v_goto 2145 o dL_law_1452 (by decide) ?_
    refine v_sub [(0, .ref bb), (1, .ref x), (2, .ref (x + 12)), (3, .ref (x + 38)), (4, .int (nI i))] [2, 3, 4, 5, 6] rfl ?_
    refine v_widen (k + 122) (n + 584) (by show k + 1 + 0 + 0 ≤ _; omega) (by show n + 6 + 0 + 0 ≤ _; omega) ?_
    exact kk _ _ _ hL8

set_option maxRecDepth 100000 in
set_option maxHeartbeats 4000000 in
theorem lc_pay {p : Program} {l : Launch} {e : Env} {s : State} {mi : MethodId} {args : Array Value} {below : List Frame} {meth : Method} {c : Code} {Q : State → Prop} {g : mG} {bb L i x z k n : Nat} {xs : Nat → Int32} {σ : Sg} {μ : mM} (hl : l.stackTraces = false) (o : Ok p l s mi args meth c g cL_law 8 RL) (hX : va_X bb L xs s s.heap) (hbl : bb < s.heap.size) (hg : g.2.2 = s.heap.size) (hL : L ≤ 3072) (hi : i + 6 ≤ L) (hS : LWS g x σ μ z) (hk : k + 122 ≤ 601024) (hn : n + 584 ≤ 7293034)
    (kk : ∀ σ' μ' z', LWS g x σ' μ' z' → V p l e room_1 s mi args below meth c Q g μ' z' (k + 122) (n + 584) 2145 [(0, .ref bb), (1, .ref x), (2, .ref (x + 12)), (3, .ref (x + 38)), (4, .int (nI i))] []) : V p l e room_1 s mi args below meth c Q g μ z k n 1455 [(0, .ref bb), (1, .ref x), (2, .ref (x + 12)), (3, .ref (x + 38)), (4, .int (nI i))] [] := by
  obtain ⟨hI, hM, ⟨B, τ, hR⟩, ⟨f, hf⟩, hz⟩ := hS
  refine v_aload_n 1 o dL_law_1455 rfl rfl ?_
  refine v_aload_n 0 o dL_law_1456 rfl rfl ?_
  refine v_iload 4 o dL_law_1457 rfl ?_
  refine v_iconst 1 o dL_law_1459 rfl ?_
  refine v_iadd (nI (i + 1)) o dL_law_1460 (nI_add i 1) ?_
  refine v_sld (j := (i + 1)) o hX hbl hg dL_law_1461 (by omega) (by omega) ?_
  refine v_aload_n 3 o dL_law_1462 rfl rfl ?_
  refine v_callSW [.ref x, .int (xs (i + 1)), .ref (x + 38)] [] o dL_law_1463 cwh_L_187 (w_pay hl hR hI (xs (i + 1)) (by omega) (by omega) hf) rfl rfl ⟨Nat.le_of_ble_eq_true rfl, Nat.le_of_ble_eq_true rfl⟩ ⟨by show k + 1 ≤ 601024; omega, by show n + 6 ≤ 7293034; omega⟩ (Nat.le_of_ble_eq_true rfl) ?_ (fun _ _ _ _ h => h.elim)
  rintro r9 μ9 z9 hz9 ⟨rfl, B9, τ9, f9, hR9, hv9⟩
  obtain ⟨hM9, hf9⟩ := LWS.cls hM hR9
  refine v_st [.int (nI ((sp_pay σ (xs (i + 1))).2.1 3 1))] rfl ?_
  refine v_istore [(5, .int (nI ((sp_pay σ (xs (i + 1))).2.1 3 1))), (0, .ref bb), (1, .ref x), (2, .ref (x + 12)), (3, .ref (x + 38)), (4, .int (nI i))] o dL_law_1466 (by decide) rfl ?_
  refine v_aload_n 3 o dL_law_1468 rfl rfl ?_
  refine v_aload_n 1 o dL_law_1469 rfl rfl ?_
  refine v_iload 5 o dL_law_1470 rfl ?_
  refine v_iconst 1 o dL_law_1472 rfl ?_
  refine v_iadd (nI (i + 1)) o dL_law_1473 (nI_add i 1) ?_
  refine v_sld (j := (i + 1)) o hX hbl hg dL_law_1474 (by omega) (by omega) ?_
  refine v_callV [.int (xs (i + 1))] [] o dL_law_1475 cw_L_189 im_X6_pay se_X6_pay cf6 hM9.o (m_pay hl hM9 hI (xs (i + 1))) rfl rfl ⟨Nat.le_of_ble_eq_true rfl, Nat.le_of_ble_eq_true rfl⟩ ⟨by show k + 1 + 0 ≤ 601024; omega, by show n + 6 + 0 ≤ 7293034; omega⟩ (Nat.le_of_ble_eq_true rfl) ?_ (fun _ _ _ _ h => h.elim)
  rintro r8 μ8 z8 hz8 ⟨rfl, hM8, rfl⟩
  have hs := scr.rf (σ := (sp_pay σ (xs (i + 1))).2)
  obtain ⟨hL8, hf8⟩ := LWS.ref (z := z9) (I_pay hI (xs (i + 1))) hs hR9 hf9 hM8 (by omega)
  refine v_st [.int ((sp_pay σ (xs (i + 1))).1)] rfl ?_
  refine v_istore [(6, .int ((sp_pay σ (xs (i + 1))).1)), (5, .int (nI ((sp_pay σ (xs (i + 1))).2.1 3 1))), (0, .ref bb), (1, .ref x), (2, .ref (x + 12)), (3, .ref (x + 38)), (4, .int (nI i))] o dL_law_1478 (by decide) rfl ?_
  refine v_aload_n 4 o dL_law_1480 rfl rfl ?_
  refine v_callVr (v := .int (nI ((sp_pay σ (xs (i + 1))).2.1 3 1))) [] [] o dL_law_1481 cw_L_117 im_X6_thrown se_X6_thrown cf6 hM8.o (m_thrown hl hM8) rfl rfl ⟨Nat.le_of_ble_eq_true rfl, Nat.le_of_ble_eq_true rfl⟩ ⟨rfl, rfl⟩ ⟨by show k + 1 + 0 ≤ 601024; omega, by show n + 6 + 0 ≤ 7293034; omega⟩ (Nat.le_of_ble_eq_true rfl) ?_
  refine v_iload 1 o dL_law_1484 rfl ?_
  refine v_icmp_eq 1491 o dL_law_1486 (by decide) (fun c1486 => ?_) (fun c1486 => absurd c1486 (not_not_intro rfl))
  refine v_iload 1 o dL_law_1491 rfl ?_
  refine v_if_ne 1508 o dL_law_1493 (by decide) (fun c1493 => ?_) (fun c1493 => ?_)
  · refine v_goto 2145 o dL_law_1508 (by decide) ?_
    refine v_sub [(0, .ref bb), (1, .ref x), (2, .ref (x + 12)), (3, .ref (x + 38)), (4, .int (nI i))] [2, 3, 4, 5, 6] rfl ?_
    refine v_widen (k + 122) (n + 584) (by show k + 1 + 0 + 0 ≤ _; omega) (by show n + 6 + 0 + 0 ≤ _; omega) ?_
    exact kk _ _ _ hL8
  · refine v_aload_n 5 o dL_law_1496 rfl rfl ?_
    refine v_iconst 0 o dL_law_1497 rfl ?_
    refine v_lald (f9 0) o dL_law_1498 (by decide) (by decide) hf8 rfl ?_
    refine v_iload 0 o dL_law_1499 rfl ?_
    refine v_i2l (((sp_pay σ (xs (i + 1))).1).toInt64) o dL_law_1501 rfl ?_
    refine v_lcmp o dL_law_1502 ?_
    refine v_if_eq_c 1508 o dL_law_1503 (by decide) (fun c1503 => ?_) (fun c1503 => absurd c1503 (not_not_intro (hv9 c1493)))
    refine v_goto 2145 o dL_law_1508 (by decide) ?_
    refine v_sub [(0, .ref bb), (1, .ref x), (2, .ref (x + 12)), (3, .ref (x + 38)), (4, .int (nI i))] [2, 3, 4, 5, 6] rfl ?_
    refine v_widen (k + 122) (n + 584) (by show k + 1 + 0 + 0 ≤ _; omega) (by show n + 6 + 0 + 0 ≤ _; omega) ?_
    exact kk _ _ _ hL8

set_option maxRecDepth 100000 in
set_option maxHeartbeats 4000000 in
theorem lc_read {p : Program} {l : Launch} {e : Env} {s : State} {mi : MethodId} {args : Array Value} {below : List Frame} {meth : Method} {c : Code} {Q : State → Prop} {g : mG} {bb L i x z k n : Nat} {xs : Nat → Int32} {σ : Sg} {μ : mM} (hl : l.stackTraces = false) (o : Ok p l s mi args meth c g cL_law 8 RL) (hX : va_X bb L xs s s.heap) (hbl : bb < s.heap.size) (hg : g.2.2 = s.heap.size) (hL : L ≤ 3072) (hi : i + 6 ≤ L) (hS : LWS g x σ μ z) (hk : k + 122 ≤ 601024) (hn : n + 584 ≤ 7293034)
    (kk : ∀ σ' μ' z', LWS g x σ' μ' z' → V p l e room_1 s mi args below meth c Q g μ' z' (k + 122) (n + 584) 2145 [(0, .ref bb), (1, .ref x), (2, .ref (x + 12)), (3, .ref (x + 38)), (4, .int (nI i))] []) : V p l e room_1 s mi args below meth c Q g μ z k n 1511 [(0, .ref bb), (1, .ref x), (2, .ref (x + 12)), (3, .ref (x + 38)), (4, .int (nI i))] [] := by
  obtain ⟨hI, hM, ⟨B, τ, hR⟩, ⟨f, hf⟩, hz⟩ := hS
  refine v_aload_n 1 o dL_law_1511 rfl rfl ?_
  refine v_aload_n 0 o dL_law_1512 rfl rfl ?_
  refine v_iload 4 o dL_law_1513 rfl ?_
  refine v_iconst 1 o dL_law_1515 rfl ?_
  refine v_iadd (nI (i + 1)) o dL_law_1516 (nI_add i 1) ?_
  refine v_sld (j := (i + 1)) o hX hbl hg dL_law_1517 (by omega) (by omega) ?_
  refine v_aload_n 0 o dL_law_1518 rfl rfl ?_
  refine v_iload 4 o dL_law_1519 rfl ?_
  refine v_iconst 2 o dL_law_1521 rfl ?_
  refine v_iadd (nI (i + 2)) o dL_law_1522 (nI_add i 2) ?_
  refine v_sld (j := (i + 2)) o hX hbl hg dL_law_1523 (by omega) (by omega) ?_
  refine v_aload_n 0 o dL_law_1524 rfl rfl ?_
  refine v_iload 4 o dL_law_1525 rfl ?_
  refine v_iconst 3 o dL_law_1527 rfl ?_
  refine v_iadd (nI (i + 3)) o dL_law_1528 (nI_add i 3) ?_
  refine v_sld (j := (i + 3)) o hX hbl hg dL_law_1529 (by omega) (by omega) ?_
  refine v_aload_n 3 o dL_law_1530 rfl rfl ?_
  refine v_callSW [.ref x, .int (xs (i + 1)), .int (xs (i + 2)), .int (xs (i + 3)), .ref (x + 38)] [] o dL_law_1531 cwh_L_190 (w_read hl hR hI (xs (i + 1)) (xs (i + 2)) (xs (i + 3)) (by omega) (by omega) hf) rfl rfl ⟨Nat.le_of_ble_eq_true rfl, Nat.le_of_ble_eq_true rfl⟩ ⟨by show k + 1 ≤ 601024; omega, by show n + 6 ≤ 7293034; omega⟩ (Nat.le_of_ble_eq_true rfl) ?_ (fun _ _ _ _ h => h.elim)
  rintro r9 μ9 z9 hz9 ⟨rfl, B9, τ9, f9, hR9, hv9⟩
  obtain ⟨hM9, hf9⟩ := LWS.cls hM hR9
  refine v_st [.int (nI ((sp_read σ (xs (i + 1)) (xs (i + 2)) (xs (i + 3))).2.1 3 1))] rfl ?_
  refine v_istore [(5, .int (nI ((sp_read σ (xs (i + 1)) (xs (i + 2)) (xs (i + 3))).2.1 3 1))), (0, .ref bb), (1, .ref x), (2, .ref (x + 12)), (3, .ref (x + 38)), (4, .int (nI i))] o dL_law_1534 (by decide) rfl ?_
  refine v_aload_n 3 o dL_law_1536 rfl rfl ?_
  refine v_aload_n 1 o dL_law_1537 rfl rfl ?_
  refine v_iload 5 o dL_law_1538 rfl ?_
  refine v_iconst 1 o dL_law_1540 rfl ?_
  refine v_iadd (nI (i + 1)) o dL_law_1541 (nI_add i 1) ?_
  refine v_sld (j := (i + 1)) o hX hbl hg dL_law_1542 (by omega) (by omega) ?_
  refine v_aload_n 1 o dL_law_1543 rfl rfl ?_
  refine v_iload 5 o dL_law_1544 rfl ?_
  refine v_iconst 2 o dL_law_1546 rfl ?_
  refine v_iadd (nI (i + 2)) o dL_law_1547 (nI_add i 2) ?_
  refine v_sld (j := (i + 2)) o hX hbl hg dL_law_1548 (by omega) (by omega) ?_
  refine v_aload_n 1 o dL_law_1549 rfl rfl ?_
  refine v_iload 5 o dL_law_1550 rfl ?_
  refine v_iconst 3 o dL_law_1552 rfl ?_
  refine v_iadd (nI (i + 3)) o dL_law_1553 (nI_add i 3) ?_
  refine v_sld (j := (i + 3)) o hX hbl hg dL_law_1554 (by omega) (by omega) ?_
  refine v_callV [.int (xs (i + 1)), .int (xs (i + 2)), .int (xs (i + 3))] [] o dL_law_1555 cw_L_192 im_X6_read se_X6_read cf6 hM9.o (m_read hl hM9 hI (xs (i + 1)) (xs (i + 2)) (xs (i + 3))) rfl rfl ⟨Nat.le_of_ble_eq_true rfl, Nat.le_of_ble_eq_true rfl⟩ ⟨by show k + 1 + 0 ≤ 601024; omega, by show n + 6 + 0 ≤ 7293034; omega⟩ (Nat.le_of_ble_eq_true rfl) ?_ (fun _ _ _ _ h => h.elim)
  rintro r8 μ8 z8 hz8 ⟨rfl, ⟨σ2, hs, hM8⟩, rfl⟩
  obtain ⟨hL8, hf8⟩ := LWS.ref (z := z9) (I_read hI (xs (i + 1)) (xs (i + 2)) (xs (i + 3))) hs hR9 hf9 hM8 (by omega)
  refine v_st [.int ((sp_read σ (xs (i + 1)) (xs (i + 2)) (xs (i + 3))).1)] rfl ?_
  refine v_istore [(6, .int ((sp_read σ (xs (i + 1)) (xs (i + 2)) (xs (i + 3))).1)), (5, .int (nI ((sp_read σ (xs (i + 1)) (xs (i + 2)) (xs (i + 3))).2.1 3 1))), (0, .ref bb), (1, .ref x), (2, .ref (x + 12)), (3, .ref (x + 38)), (4, .int (nI i))] o dL_law_1558 (by decide) rfl ?_
  refine v_aload_n 4 o dL_law_1560 rfl rfl ?_
  refine v_callVr (v := .int (nI (σ2.1 3 1))) [] [] o dL_law_1561 cw_L_117 im_X6_thrown se_X6_thrown cf6 hM8.o (m_thrown hl hM8) rfl rfl ⟨Nat.le_of_ble_eq_true rfl, Nat.le_of_ble_eq_true rfl⟩ ⟨rfl, rfl⟩ ⟨by show k + 1 + 0 ≤ 601024; omega, by show n + 6 + 0 ≤ 7293034; omega⟩ (Nat.le_of_ble_eq_true rfl) ?_
  refine v_top (nI ((sp_read σ (xs (i + 1)) (xs (i + 2)) (xs (i + 3))).2.1 3 1)) (by rw [congrFun (hs.1 3 (by decide) (by decide)) 1]) ?_
  refine v_iload 1 o dL_law_1564 rfl ?_
  refine v_icmp_eq 1571 o dL_law_1566 (by decide) (fun c1566 => ?_) (fun c1566 => absurd c1566 (not_not_intro rfl))
  refine v_iload 1 o dL_law_1571 rfl ?_
  refine v_if_ne 1588 o dL_law_1573 (by decide) (fun c1573 => ?_) (fun c1573 => ?_)
  · refine v_goto 2145 o dL_law_1588 (by decide) ?_
    refine v_sub [(0, .ref bb), (1, .ref x), (2, .ref (x + 12)), (3, .ref (x + 38)), (4, .int (nI i))] [2, 3, 4, 5, 6] rfl ?_
    refine v_widen (k + 122) (n + 584) (by show k + 1 + 0 + 0 ≤ _; omega) (by show n + 6 + 0 + 0 ≤ _; omega) ?_
    exact kk _ _ _ hL8
  · refine v_aload_n 5 o dL_law_1576 rfl rfl ?_
    refine v_iconst 0 o dL_law_1577 rfl ?_
    refine v_lald (f9 0) o dL_law_1578 (by decide) (by decide) hf8 rfl ?_
    refine v_iload 0 o dL_law_1579 rfl ?_
    refine v_i2l (((sp_read σ (xs (i + 1)) (xs (i + 2)) (xs (i + 3))).1).toInt64) o dL_law_1581 rfl ?_
    refine v_lcmp o dL_law_1582 ?_
    refine v_if_eq_c 1588 o dL_law_1583 (by decide) (fun c1583 => ?_) (fun c1583 => absurd c1583 (not_not_intro (hv9 c1573)))
    refine v_goto 2145 o dL_law_1588 (by decide) ?_
    refine v_sub [(0, .ref bb), (1, .ref x), (2, .ref (x + 12)), (3, .ref (x + 38)), (4, .int (nI i))] [2, 3, 4, 5, 6] rfl ?_
    refine v_widen (k + 122) (n + 584) (by show k + 1 + 0 + 0 ≤ _; omega) (by show n + 6 + 0 + 0 ≤ _; omega) ?_
    exact kk _ _ _ hL8

set_option maxRecDepth 100000 in
set_option maxHeartbeats 4000000 in
theorem lc_doubt {p : Program} {l : Launch} {e : Env} {s : State} {mi : MethodId} {args : Array Value} {below : List Frame} {meth : Method} {c : Code} {Q : State → Prop} {g : mG} {bb L i x z k n : Nat} {xs : Nat → Int32} {σ : Sg} {μ : mM} (hl : l.stackTraces = false) (o : Ok p l s mi args meth c g cL_law 8 RL) (hX : va_X bb L xs s s.heap) (hbl : bb < s.heap.size) (hg : g.2.2 = s.heap.size) (hL : L ≤ 3072) (hi : i + 6 ≤ L) (hS : LWS g x σ μ z) (hk : k + 122 ≤ 601024) (hn : n + 584 ≤ 7293034)
    (kk : ∀ σ' μ' z', LWS g x σ' μ' z' → V p l e room_1 s mi args below meth c Q g μ' z' (k + 122) (n + 584) 2145 [(0, .ref bb), (1, .ref x), (2, .ref (x + 12)), (3, .ref (x + 38)), (4, .int (nI i))] []) : V p l e room_1 s mi args below meth c Q g μ z k n 1591 [(0, .ref bb), (1, .ref x), (2, .ref (x + 12)), (3, .ref (x + 38)), (4, .int (nI i))] [] := by
  obtain ⟨hI, hM, ⟨B, τ, hR⟩, ⟨f, hf⟩, hz⟩ := hS
  refine v_aload_n 1 o dL_law_1591 rfl rfl ?_
  refine v_aload_n 0 o dL_law_1592 rfl rfl ?_
  refine v_iload 4 o dL_law_1593 rfl ?_
  refine v_iconst 1 o dL_law_1595 rfl ?_
  refine v_iadd (nI (i + 1)) o dL_law_1596 (nI_add i 1) ?_
  refine v_sld (j := (i + 1)) o hX hbl hg dL_law_1597 (by omega) (by omega) ?_
  refine v_aload_n 0 o dL_law_1598 rfl rfl ?_
  refine v_iload 4 o dL_law_1599 rfl ?_
  refine v_iconst 2 o dL_law_1601 rfl ?_
  refine v_iadd (nI (i + 2)) o dL_law_1602 (nI_add i 2) ?_
  refine v_sld (j := (i + 2)) o hX hbl hg dL_law_1603 (by omega) (by omega) ?_
  refine v_aload_n 0 o dL_law_1604 rfl rfl ?_
  refine v_iload 4 o dL_law_1605 rfl ?_
  refine v_iconst 3 o dL_law_1607 rfl ?_
  refine v_iadd (nI (i + 3)) o dL_law_1608 (nI_add i 3) ?_
  refine v_sld (j := (i + 3)) o hX hbl hg dL_law_1609 (by omega) (by omega) ?_
  refine v_aload_n 3 o dL_law_1610 rfl rfl ?_
  refine v_callSW [.ref x, .int (xs (i + 1)), .int (xs (i + 2)), .int (xs (i + 3)), .ref (x + 38)] [] o dL_law_1611 cwh_L_193 (w_doubt hl hR hI (xs (i + 1)) (xs (i + 2)) (xs (i + 3)) (by omega) (by omega) hf) rfl rfl ⟨Nat.le_of_ble_eq_true rfl, Nat.le_of_ble_eq_true rfl⟩ ⟨by show k + 1 ≤ 601024; omega, by show n + 6 ≤ 7293034; omega⟩ (Nat.le_of_ble_eq_true rfl) ?_ (fun _ _ _ _ h => h.elim)
  rintro r9 μ9 z9 hz9 ⟨rfl, B9, τ9, f9, hR9, hv9⟩
  obtain ⟨hM9, hf9⟩ := LWS.cls hM hR9
  refine v_st [.int (nI ((sp_doubt σ (xs (i + 1)) (xs (i + 2)) (xs (i + 3))).2.1 3 1))] rfl ?_
  refine v_istore [(5, .int (nI ((sp_doubt σ (xs (i + 1)) (xs (i + 2)) (xs (i + 3))).2.1 3 1))), (0, .ref bb), (1, .ref x), (2, .ref (x + 12)), (3, .ref (x + 38)), (4, .int (nI i))] o dL_law_1614 (by decide) rfl ?_
  refine v_aload_n 3 o dL_law_1616 rfl rfl ?_
  refine v_aload_n 1 o dL_law_1617 rfl rfl ?_
  refine v_iload 5 o dL_law_1618 rfl ?_
  refine v_iconst 1 o dL_law_1620 rfl ?_
  refine v_iadd (nI (i + 1)) o dL_law_1621 (nI_add i 1) ?_
  refine v_sld (j := (i + 1)) o hX hbl hg dL_law_1622 (by omega) (by omega) ?_
  refine v_aload_n 1 o dL_law_1623 rfl rfl ?_
  refine v_iload 5 o dL_law_1624 rfl ?_
  refine v_iconst 2 o dL_law_1626 rfl ?_
  refine v_iadd (nI (i + 2)) o dL_law_1627 (nI_add i 2) ?_
  refine v_sld (j := (i + 2)) o hX hbl hg dL_law_1628 (by omega) (by omega) ?_
  refine v_aload_n 1 o dL_law_1629 rfl rfl ?_
  refine v_iload 5 o dL_law_1630 rfl ?_
  refine v_iconst 3 o dL_law_1632 rfl ?_
  refine v_iadd (nI (i + 3)) o dL_law_1633 (nI_add i 3) ?_
  refine v_sld (j := (i + 3)) o hX hbl hg dL_law_1634 (by omega) (by omega) ?_
  refine v_callV [.int (xs (i + 1)), .int (xs (i + 2)), .int (xs (i + 3))] [] o dL_law_1635 cw_L_195 im_X6_doubt se_X6_doubt cf6 hM9.o (m_doubt hl hM9 hI (xs (i + 1)) (xs (i + 2)) (xs (i + 3))) rfl rfl ⟨Nat.le_of_ble_eq_true rfl, Nat.le_of_ble_eq_true rfl⟩ ⟨by show k + 1 + 0 ≤ 601024; omega, by show n + 6 + 0 ≤ 7293034; omega⟩ (Nat.le_of_ble_eq_true rfl) ?_ (fun _ _ _ _ h => h.elim)
  rintro r8 μ8 z8 hz8 ⟨rfl, ⟨σ2, hs, hM8⟩, rfl⟩
  obtain ⟨hL8, hf8⟩ := LWS.ref (z := z9) (I_doubt hI (xs (i + 1)) (xs (i + 2)) (xs (i + 3))) hs hR9 hf9 hM8 (by omega)
  refine v_st [.int ((sp_doubt σ (xs (i + 1)) (xs (i + 2)) (xs (i + 3))).1)] rfl ?_
  refine v_istore [(6, .int ((sp_doubt σ (xs (i + 1)) (xs (i + 2)) (xs (i + 3))).1)), (5, .int (nI ((sp_doubt σ (xs (i + 1)) (xs (i + 2)) (xs (i + 3))).2.1 3 1))), (0, .ref bb), (1, .ref x), (2, .ref (x + 12)), (3, .ref (x + 38)), (4, .int (nI i))] o dL_law_1638 (by decide) rfl ?_
  refine v_aload_n 4 o dL_law_1640 rfl rfl ?_
  refine v_callVr (v := .int (nI (σ2.1 3 1))) [] [] o dL_law_1641 cw_L_117 im_X6_thrown se_X6_thrown cf6 hM8.o (m_thrown hl hM8) rfl rfl ⟨Nat.le_of_ble_eq_true rfl, Nat.le_of_ble_eq_true rfl⟩ ⟨rfl, rfl⟩ ⟨by show k + 1 + 0 ≤ 601024; omega, by show n + 6 + 0 ≤ 7293034; omega⟩ (Nat.le_of_ble_eq_true rfl) ?_
  refine v_top (nI ((sp_doubt σ (xs (i + 1)) (xs (i + 2)) (xs (i + 3))).2.1 3 1)) (by rw [congrFun (hs.1 3 (by decide) (by decide)) 1]) ?_
  refine v_iload 1 o dL_law_1644 rfl ?_
  refine v_icmp_eq 1651 o dL_law_1646 (by decide) (fun c1646 => ?_) (fun c1646 => absurd c1646 (not_not_intro rfl))
  refine v_iload 1 o dL_law_1651 rfl ?_
  refine v_if_ne 1668 o dL_law_1653 (by decide) (fun c1653 => ?_) (fun c1653 => ?_)
  · refine v_goto 2145 o dL_law_1668 (by decide) ?_
    refine v_sub [(0, .ref bb), (1, .ref x), (2, .ref (x + 12)), (3, .ref (x + 38)), (4, .int (nI i))] [2, 3, 4, 5, 6] rfl ?_
    refine v_widen (k + 122) (n + 584) (by show k + 1 + 0 + 0 ≤ _; omega) (by show n + 6 + 0 + 0 ≤ _; omega) ?_
    exact kk _ _ _ hL8
  · refine v_aload_n 5 o dL_law_1656 rfl rfl ?_
    refine v_iconst 0 o dL_law_1657 rfl ?_
    refine v_lald (f9 0) o dL_law_1658 (by decide) (by decide) hf8 rfl ?_
    refine v_iload 0 o dL_law_1659 rfl ?_
    refine v_i2l (((sp_doubt σ (xs (i + 1)) (xs (i + 2)) (xs (i + 3))).1).toInt64) o dL_law_1661 rfl ?_
    refine v_lcmp o dL_law_1662 ?_
    refine v_if_eq_c 1668 o dL_law_1663 (by decide) (fun c1663 => ?_) (fun c1663 => absurd c1663 (not_not_intro (hv9 c1653)))
    refine v_goto 2145 o dL_law_1668 (by decide) ?_
    refine v_sub [(0, .ref bb), (1, .ref x), (2, .ref (x + 12)), (3, .ref (x + 38)), (4, .int (nI i))] [2, 3, 4, 5, 6] rfl ?_
    refine v_widen (k + 122) (n + 584) (by show k + 1 + 0 + 0 ≤ _; omega) (by show n + 6 + 0 + 0 ≤ _; omega) ?_
    exact kk _ _ _ hL8

set_option maxRecDepth 100000 in
set_option maxHeartbeats 4000000 in
theorem lc_pass {p : Program} {l : Launch} {e : Env} {s : State} {mi : MethodId} {args : Array Value} {below : List Frame} {meth : Method} {c : Code} {Q : State → Prop} {g : mG} {bb L i x z k n : Nat} {xs : Nat → Int32} {σ : Sg} {μ : mM} (hl : l.stackTraces = false) (o : Ok p l s mi args meth c g cL_law 8 RL) (hX : va_X bb L xs s s.heap) (hbl : bb < s.heap.size) (hg : g.2.2 = s.heap.size) (hL : L ≤ 3072) (hi : i + 6 ≤ L) (hS : LWS g x σ μ z) (hk : k + 122 ≤ 601024) (hn : n + 584 ≤ 7293034)
    (kk : ∀ σ' μ' z', LWS g x σ' μ' z' → V p l e room_1 s mi args below meth c Q g μ' z' (k + 122) (n + 584) 2145 [(0, .ref bb), (1, .ref x), (2, .ref (x + 12)), (3, .ref (x + 38)), (4, .int (nI i))] []) : V p l e room_1 s mi args below meth c Q g μ z k n 1671 [(0, .ref bb), (1, .ref x), (2, .ref (x + 12)), (3, .ref (x + 38)), (4, .int (nI i))] [] := by
  obtain ⟨hI, hM, ⟨B, τ, hR⟩, ⟨f, hf⟩, hz⟩ := hS
  refine v_aload_n 1 o dL_law_1671 rfl rfl ?_
  refine v_aload_n 0 o dL_law_1672 rfl rfl ?_
  refine v_iload 4 o dL_law_1673 rfl ?_
  refine v_iconst 1 o dL_law_1675 rfl ?_
  refine v_iadd (nI (i + 1)) o dL_law_1676 (nI_add i 1) ?_
  refine v_sld (j := (i + 1)) o hX hbl hg dL_law_1677 (by omega) (by omega) ?_
  refine v_aload_n 3 o dL_law_1678 rfl rfl ?_
  refine v_callSW [.ref x, .int (xs (i + 1)), .ref (x + 38)] [] o dL_law_1679 cwh_L_196 (w_pass hl hR hI (xs (i + 1)) (by omega) (by omega) hf) rfl rfl ⟨Nat.le_of_ble_eq_true rfl, Nat.le_of_ble_eq_true rfl⟩ ⟨by show k + 1 ≤ 601024; omega, by show n + 6 ≤ 7293034; omega⟩ (Nat.le_of_ble_eq_true rfl) ?_ (fun _ _ _ _ h => h.elim)
  rintro r9 μ9 z9 hz9 ⟨rfl, B9, τ9, f9, hR9, hv9⟩
  obtain ⟨hM9, hf9⟩ := LWS.cls hM hR9
  refine v_st [.int (nI ((sp_pass σ (xs (i + 1))).2.1 3 1))] rfl ?_
  refine v_istore [(5, .int (nI ((sp_pass σ (xs (i + 1))).2.1 3 1))), (0, .ref bb), (1, .ref x), (2, .ref (x + 12)), (3, .ref (x + 38)), (4, .int (nI i))] o dL_law_1682 (by decide) rfl ?_
  refine v_aload_n 3 o dL_law_1684 rfl rfl ?_
  refine v_aload_n 1 o dL_law_1685 rfl rfl ?_
  refine v_iload 5 o dL_law_1686 rfl ?_
  refine v_iconst 1 o dL_law_1688 rfl ?_
  refine v_iadd (nI (i + 1)) o dL_law_1689 (nI_add i 1) ?_
  refine v_sld (j := (i + 1)) o hX hbl hg dL_law_1690 (by omega) (by omega) ?_
  refine v_callV [.int (xs (i + 1))] [] o dL_law_1691 cw_L_198 im_X6_pass se_X6_pass cf6 hM9.o (m_pass hl hM9 hI (xs (i + 1))) rfl rfl ⟨Nat.le_of_ble_eq_true rfl, Nat.le_of_ble_eq_true rfl⟩ ⟨by show k + 1 + 0 ≤ 601024; omega, by show n + 6 + 0 ≤ 7293034; omega⟩ (Nat.le_of_ble_eq_true rfl) ?_ (fun _ _ _ _ h => h.elim)
  rintro r8 μ8 z8 hz8 ⟨rfl, hM8, rfl⟩
  have hs := scr.rf (σ := (sp_pass σ (xs (i + 1))).2)
  obtain ⟨hL8, hf8⟩ := LWS.ref (z := z9) (I_pass hI (xs (i + 1))) hs hR9 hf9 hM8 (by omega)
  refine v_st [.int ((sp_pass σ (xs (i + 1))).1)] rfl ?_
  refine v_istore [(6, .int ((sp_pass σ (xs (i + 1))).1)), (5, .int (nI ((sp_pass σ (xs (i + 1))).2.1 3 1))), (0, .ref bb), (1, .ref x), (2, .ref (x + 12)), (3, .ref (x + 38)), (4, .int (nI i))] o dL_law_1694 (by decide) rfl ?_
  refine v_aload_n 4 o dL_law_1696 rfl rfl ?_
  refine v_callVr (v := .int (nI ((sp_pass σ (xs (i + 1))).2.1 3 1))) [] [] o dL_law_1697 cw_L_117 im_X6_thrown se_X6_thrown cf6 hM8.o (m_thrown hl hM8) rfl rfl ⟨Nat.le_of_ble_eq_true rfl, Nat.le_of_ble_eq_true rfl⟩ ⟨rfl, rfl⟩ ⟨by show k + 1 + 0 ≤ 601024; omega, by show n + 6 + 0 ≤ 7293034; omega⟩ (Nat.le_of_ble_eq_true rfl) ?_
  refine v_iload 1 o dL_law_1700 rfl ?_
  refine v_icmp_eq 1707 o dL_law_1702 (by decide) (fun c1702 => ?_) (fun c1702 => absurd c1702 (not_not_intro rfl))
  refine v_iload 1 o dL_law_1707 rfl ?_
  refine v_if_ne 1724 o dL_law_1709 (by decide) (fun c1709 => ?_) (fun c1709 => ?_)
  · refine v_goto 2145 o dL_law_1724 (by decide) ?_
    refine v_sub [(0, .ref bb), (1, .ref x), (2, .ref (x + 12)), (3, .ref (x + 38)), (4, .int (nI i))] [2, 3, 4, 5, 6] rfl ?_
    refine v_widen (k + 122) (n + 584) (by show k + 1 + 0 + 0 ≤ _; omega) (by show n + 6 + 0 + 0 ≤ _; omega) ?_
    exact kk _ _ _ hL8
  · refine v_aload_n 5 o dL_law_1712 rfl rfl ?_
    refine v_iconst 0 o dL_law_1713 rfl ?_
    refine v_lald (f9 0) o dL_law_1714 (by decide) (by decide) hf8 rfl ?_
    refine v_iload 0 o dL_law_1715 rfl ?_
    refine v_i2l (((sp_pass σ (xs (i + 1))).1).toInt64) o dL_law_1717 rfl ?_
    refine v_lcmp o dL_law_1718 ?_
    refine v_if_eq_c 1724 o dL_law_1719 (by decide) (fun c1719 => ?_) (fun c1719 => absurd c1719 (not_not_intro (hv9 c1709)))
    refine v_goto 2145 o dL_law_1724 (by decide) ?_
    refine v_sub [(0, .ref bb), (1, .ref x), (2, .ref (x + 12)), (3, .ref (x + 38)), (4, .int (nI i))] [2, 3, 4, 5, 6] rfl ?_
    refine v_widen (k + 122) (n + 584) (by show k + 1 + 0 + 0 ≤ _; omega) (by show n + 6 + 0 + 0 ≤ _; omega) ?_
    exact kk _ _ _ hL8

set_option maxRecDepth 100000 in
set_option maxHeartbeats 4000000 in
theorem lc_term {p : Program} {l : Launch} {e : Env} {s : State} {mi : MethodId} {args : Array Value} {below : List Frame} {meth : Method} {c : Code} {Q : State → Prop} {g : mG} {bb L i x z k n : Nat} {xs : Nat → Int32} {σ : Sg} {μ : mM} (hl : l.stackTraces = false) (o : Ok p l s mi args meth c g cL_law 8 RL) (hX : va_X bb L xs s s.heap) (hbl : bb < s.heap.size) (hg : g.2.2 = s.heap.size) (hL : L ≤ 3072) (hi : i + 6 ≤ L) (hS : LWS g x σ μ z) (hk : k + 122 ≤ 601024) (hn : n + 584 ≤ 7293034)
    (kk : ∀ σ' μ' z', LWS g x σ' μ' z' → V p l e room_1 s mi args below meth c Q g μ' z' (k + 122) (n + 584) 2145 [(0, .ref bb), (1, .ref x), (2, .ref (x + 12)), (3, .ref (x + 38)), (4, .int (nI i))] []) : V p l e room_1 s mi args below meth c Q g μ z k n 1727 [(0, .ref bb), (1, .ref x), (2, .ref (x + 12)), (3, .ref (x + 38)), (4, .int (nI i))] [] := by
  obtain ⟨hI, hM, ⟨B, τ, hR⟩, ⟨f, hf⟩, hz⟩ := hS
  refine v_aload_n 1 o dL_law_1727 rfl rfl ?_
  refine v_aload_n 0 o dL_law_1728 rfl rfl ?_
  refine v_iload 4 o dL_law_1729 rfl ?_
  refine v_iconst 1 o dL_law_1731 rfl ?_
  refine v_iadd (nI (i + 1)) o dL_law_1732 (nI_add i 1) ?_
  refine v_sld (j := (i + 1)) o hX hbl hg dL_law_1733 (by omega) (by omega) ?_
  refine v_aload_n 0 o dL_law_1734 rfl rfl ?_
  refine v_iload 4 o dL_law_1735 rfl ?_
  refine v_iconst 2 o dL_law_1737 rfl ?_
  refine v_iadd (nI (i + 2)) o dL_law_1738 (nI_add i 2) ?_
  refine v_sld (j := (i + 2)) o hX hbl hg dL_law_1739 (by omega) (by omega) ?_
  refine v_aload_n 3 o dL_law_1740 rfl rfl ?_
  refine v_callSW [.ref x, .int (xs (i + 1)), .int (xs (i + 2)), .ref (x + 38)] [] o dL_law_1741 cwh_L_199 (w_term hl hR hI (xs (i + 1)) (xs (i + 2)) (by omega) (by omega) hf) rfl rfl ⟨Nat.le_of_ble_eq_true rfl, Nat.le_of_ble_eq_true rfl⟩ ⟨by show k + 1 ≤ 601024; omega, by show n + 6 ≤ 7293034; omega⟩ (Nat.le_of_ble_eq_true rfl) ?_ (fun _ _ _ _ h => h.elim)
  rintro r9 μ9 z9 hz9 ⟨rfl, B9, τ9, f9, hR9, hv9⟩
  obtain ⟨hM9, hf9⟩ := LWS.cls hM hR9
  refine v_st [.int (nI ((sp_term σ (xs (i + 1)) (xs (i + 2))).2.1 3 1))] rfl ?_
  refine v_istore [(5, .int (nI ((sp_term σ (xs (i + 1)) (xs (i + 2))).2.1 3 1))), (0, .ref bb), (1, .ref x), (2, .ref (x + 12)), (3, .ref (x + 38)), (4, .int (nI i))] o dL_law_1744 (by decide) rfl ?_
  refine v_aload_n 3 o dL_law_1746 rfl rfl ?_
  refine v_aload_n 1 o dL_law_1747 rfl rfl ?_
  refine v_iload 5 o dL_law_1748 rfl ?_
  refine v_iconst 1 o dL_law_1750 rfl ?_
  refine v_iadd (nI (i + 1)) o dL_law_1751 (nI_add i 1) ?_
  refine v_sld (j := (i + 1)) o hX hbl hg dL_law_1752 (by omega) (by omega) ?_
  refine v_aload_n 1 o dL_law_1753 rfl rfl ?_
  refine v_iload 5 o dL_law_1754 rfl ?_
  refine v_iconst 2 o dL_law_1756 rfl ?_
  refine v_iadd (nI (i + 2)) o dL_law_1757 (nI_add i 2) ?_
  refine v_sld (j := (i + 2)) o hX hbl hg dL_law_1758 (by omega) (by omega) ?_
  refine v_callV [.int (xs (i + 1)), .int (xs (i + 2))] [] o dL_law_1759 cw_L_201 im_X6_term se_X6_term cf6 hM9.o (m_term hl hM9 hI (xs (i + 1)) (xs (i + 2))) rfl rfl ⟨Nat.le_of_ble_eq_true rfl, Nat.le_of_ble_eq_true rfl⟩ ⟨by show k + 1 + 0 ≤ 601024; omega, by show n + 6 + 0 ≤ 7293034; omega⟩ (Nat.le_of_ble_eq_true rfl) ?_ (fun _ _ _ _ h => h.elim)
  rintro r8 μ8 z8 hz8 ⟨rfl, hM8, rfl⟩
  have hs := scr.rf (σ := (sp_term σ (xs (i + 1)) (xs (i + 2))).2)
  obtain ⟨hL8, hf8⟩ := LWS.ref (z := z9) (I_term hI (xs (i + 1)) (xs (i + 2))) hs hR9 hf9 hM8 (by omega)
  refine v_st [.int ((sp_term σ (xs (i + 1)) (xs (i + 2))).1)] rfl ?_
  refine v_istore [(6, .int ((sp_term σ (xs (i + 1)) (xs (i + 2))).1)), (5, .int (nI ((sp_term σ (xs (i + 1)) (xs (i + 2))).2.1 3 1))), (0, .ref bb), (1, .ref x), (2, .ref (x + 12)), (3, .ref (x + 38)), (4, .int (nI i))] o dL_law_1762 (by decide) rfl ?_
  refine v_aload_n 4 o dL_law_1764 rfl rfl ?_
  refine v_callVr (v := .int (nI ((sp_term σ (xs (i + 1)) (xs (i + 2))).2.1 3 1))) [] [] o dL_law_1765 cw_L_117 im_X6_thrown se_X6_thrown cf6 hM8.o (m_thrown hl hM8) rfl rfl ⟨Nat.le_of_ble_eq_true rfl, Nat.le_of_ble_eq_true rfl⟩ ⟨rfl, rfl⟩ ⟨by show k + 1 + 0 ≤ 601024; omega, by show n + 6 + 0 ≤ 7293034; omega⟩ (Nat.le_of_ble_eq_true rfl) ?_
  refine v_iload 1 o dL_law_1768 rfl ?_
  refine v_icmp_eq 1775 o dL_law_1770 (by decide) (fun c1770 => ?_) (fun c1770 => absurd c1770 (not_not_intro rfl))
  refine v_iload 1 o dL_law_1775 rfl ?_
  refine v_if_ne 1792 o dL_law_1777 (by decide) (fun c1777 => ?_) (fun c1777 => ?_)
  · refine v_goto 2145 o dL_law_1792 (by decide) ?_
    refine v_sub [(0, .ref bb), (1, .ref x), (2, .ref (x + 12)), (3, .ref (x + 38)), (4, .int (nI i))] [2, 3, 4, 5, 6] rfl ?_
    refine v_widen (k + 122) (n + 584) (by show k + 1 + 0 + 0 ≤ _; omega) (by show n + 6 + 0 + 0 ≤ _; omega) ?_
    exact kk _ _ _ hL8
  · refine v_aload_n 5 o dL_law_1780 rfl rfl ?_
    refine v_iconst 0 o dL_law_1781 rfl ?_
    refine v_lald (f9 0) o dL_law_1782 (by decide) (by decide) hf8 rfl ?_
    refine v_iload 0 o dL_law_1783 rfl ?_
    refine v_i2l (((sp_term σ (xs (i + 1)) (xs (i + 2))).1).toInt64) o dL_law_1785 rfl ?_
    refine v_lcmp o dL_law_1786 ?_
    refine v_if_eq_c 1792 o dL_law_1787 (by decide) (fun c1787 => ?_) (fun c1787 => absurd c1787 (not_not_intro (hv9 c1777)))
    refine v_goto 2145 o dL_law_1792 (by decide) ?_
    refine v_sub [(0, .ref bb), (1, .ref x), (2, .ref (x + 12)), (3, .ref (x + 38)), (4, .int (nI i))] [2, 3, 4, 5, 6] rfl ?_
    refine v_widen (k + 122) (n + 584) (by show k + 1 + 0 + 0 ≤ _; omega) (by show n + 6 + 0 + 0 ≤ _; omega) ?_
    exact kk _ _ _ hL8

set_option maxRecDepth 100000 in
set_option maxHeartbeats 4000000 in
theorem lc_died {p : Program} {l : Launch} {e : Env} {s : State} {mi : MethodId} {args : Array Value} {below : List Frame} {meth : Method} {c : Code} {Q : State → Prop} {g : mG} {bb L i x z k n : Nat} {xs : Nat → Int32} {σ : Sg} {μ : mM} (hl : l.stackTraces = false) (o : Ok p l s mi args meth c g cL_law 8 RL) (hX : va_X bb L xs s s.heap) (hbl : bb < s.heap.size) (hg : g.2.2 = s.heap.size) (hL : L ≤ 3072) (hi : i + 6 ≤ L) (hS : LWS g x σ μ z) (hk : k + 122 ≤ 601024) (hn : n + 584 ≤ 7293034)
    (kk : ∀ σ' μ' z', LWS g x σ' μ' z' → V p l e room_1 s mi args below meth c Q g μ' z' (k + 122) (n + 584) 2145 [(0, .ref bb), (1, .ref x), (2, .ref (x + 12)), (3, .ref (x + 38)), (4, .int (nI i))] []) : V p l e room_1 s mi args below meth c Q g μ z k n 1795 [(0, .ref bb), (1, .ref x), (2, .ref (x + 12)), (3, .ref (x + 38)), (4, .int (nI i))] [] := by
  obtain ⟨hI, hM, ⟨B, τ, hR⟩, ⟨f, hf⟩, hz⟩ := hS
  refine v_aload_n 1 o dL_law_1795 rfl rfl ?_
  refine v_aload_n 0 o dL_law_1796 rfl rfl ?_
  refine v_iload 4 o dL_law_1797 rfl ?_
  refine v_iconst 1 o dL_law_1799 rfl ?_
  refine v_iadd (nI (i + 1)) o dL_law_1800 (nI_add i 1) ?_
  refine v_sld (j := (i + 1)) o hX hbl hg dL_law_1801 (by omega) (by omega) ?_
  refine v_aload_n 0 o dL_law_1802 rfl rfl ?_
  refine v_iload 4 o dL_law_1803 rfl ?_
  refine v_iconst 2 o dL_law_1805 rfl ?_
  refine v_iadd (nI (i + 2)) o dL_law_1806 (nI_add i 2) ?_
  refine v_sld (j := (i + 2)) o hX hbl hg dL_law_1807 (by omega) (by omega) ?_
  refine v_callSW [.ref x, .int (xs (i + 1)), .int (xs (i + 2))] [] o dL_law_1808 cwh_L_202 (w_died hl hR hI (xs (i + 1)) (xs (i + 2))) rfl rfl ⟨Nat.le_of_ble_eq_true rfl, Nat.le_of_ble_eq_true rfl⟩ ⟨by show k + 1 ≤ 601024; omega, by show n + 6 ≤ 7293034; omega⟩ (Nat.le_of_ble_eq_true rfl) ?_ (fun _ _ _ _ h => h.elim)
  rintro r9 μ9 z9 hz9 ⟨rfl, B9, τ9, hR9⟩
  obtain ⟨hM9, hf9⟩ := LWS.cls0 hM hf hR9
  refine v_st [.int (nI ((sp_died σ (xs (i + 1)) (xs (i + 2))).1 3 1))] rfl ?_
  refine v_istore [(5, .int (nI ((sp_died σ (xs (i + 1)) (xs (i + 2))).1 3 1))), (0, .ref bb), (1, .ref x), (2, .ref (x + 12)), (3, .ref (x + 38)), (4, .int (nI i))] o dL_law_1811 (by decide) rfl ?_
  refine v_aload_n 3 o dL_law_1813 rfl rfl ?_
  refine v_aload_n 1 o dL_law_1814 rfl rfl ?_
  refine v_iload 5 o dL_law_1815 rfl ?_
  refine v_iconst 1 o dL_law_1817 rfl ?_
  refine v_iadd (nI (i + 1)) o dL_law_1818 (nI_add i 1) ?_
  refine v_sld (j := (i + 1)) o hX hbl hg dL_law_1819 (by omega) (by omega) ?_
  refine v_aload_n 1 o dL_law_1820 rfl rfl ?_
  refine v_iload 5 o dL_law_1821 rfl ?_
  refine v_iconst 2 o dL_law_1823 rfl ?_
  refine v_iadd (nI (i + 2)) o dL_law_1824 (nI_add i 2) ?_
  refine v_sld (j := (i + 2)) o hX hbl hg dL_law_1825 (by omega) (by omega) ?_
  refine v_callV [.int (xs (i + 1)), .int (xs (i + 2))] [] o dL_law_1826 cw_L_205 im_X6_died se_X6_died cf6 hM9.o (m_died hl hM9 hI (xs (i + 1)) (xs (i + 2))) rfl rfl ⟨Nat.le_of_ble_eq_true rfl, Nat.le_of_ble_eq_true rfl⟩ ⟨by show k + 1 + 0 ≤ 601024; omega, by show n + 6 + 0 ≤ 7293034; omega⟩ (Nat.le_of_ble_eq_true rfl) ?_ (fun _ _ _ _ h => h.elim)
  rintro r8 μ8 z8 hz8 ⟨rfl, hM8, rfl⟩
  have hs := scr.rf (σ := (sp_died σ (xs (i + 1)) (xs (i + 2))))
  obtain ⟨hL8, hf8⟩ := LWS.ref (z := z9) (I_died hI (xs (i + 1)) (xs (i + 2))) hs hR9 hf9 hM8 (by omega)
  refine v_st [] rfl ?_
  refine v_aload_n 3 o dL_law_1829 rfl rfl ?_
  refine v_callVr (v := .int (nI ((sp_died σ (xs (i + 1)) (xs (i + 2))).1 3 1))) [] [] o dL_law_1830 cw_L_117 im_X6_thrown se_X6_thrown cf6 hM8.o (m_thrown hl hM8) rfl rfl ⟨Nat.le_of_ble_eq_true rfl, Nat.le_of_ble_eq_true rfl⟩ ⟨rfl, rfl⟩ ⟨by show k + 1 + 0 ≤ 601024; omega, by show n + 6 + 0 ≤ 7293034; omega⟩ (Nat.le_of_ble_eq_true rfl) ?_
  refine v_iload 0 o dL_law_1833 rfl ?_
  refine v_icmp_eq 1840 o dL_law_1835 (by decide) (fun c1835 => ?_) (fun c1835 => absurd c1835 (not_not_intro rfl))
  refine v_goto 2145 o dL_law_1840 (by decide) ?_
  refine v_sub [(0, .ref bb), (1, .ref x), (2, .ref (x + 12)), (3, .ref (x + 38)), (4, .int (nI i))] [1, 2, 3, 4, 5] rfl ?_
  refine v_widen (k + 122) (n + 584) (by show k + 1 + 0 + 0 ≤ _; omega) (by show n + 6 + 0 + 0 ≤ _; omega) ?_
  exact kk _ _ _ hL8

set_option maxRecDepth 100000 in
set_option maxHeartbeats 4000000 in
theorem lc_whyNot {p : Program} {l : Launch} {e : Env} {s : State} {mi : MethodId} {args : Array Value} {below : List Frame} {meth : Method} {c : Code} {Q : State → Prop} {g : mG} {bb L i x z k n : Nat} {xs : Nat → Int32} {σ : Sg} {μ : mM} (hl : l.stackTraces = false) (o : Ok p l s mi args meth c g cL_law 8 RL) (hX : va_X bb L xs s s.heap) (hbl : bb < s.heap.size) (hg : g.2.2 = s.heap.size) (hL : L ≤ 3072) (hi : i + 6 ≤ L) (hS : LWS g x σ μ z) (hk : k + 122 ≤ 601024) (hn : n + 584 ≤ 7293034)
    (kk : ∀ σ' μ' z', LWS g x σ' μ' z' → V p l e room_1 s mi args below meth c Q g μ' z' (k + 122) (n + 584) 2145 [(0, .ref bb), (1, .ref x), (2, .ref (x + 12)), (3, .ref (x + 38)), (4, .int (nI i))] []) : V p l e room_1 s mi args below meth c Q g μ z k n 1997 [(0, .ref bb), (1, .ref x), (2, .ref (x + 12)), (3, .ref (x + 38)), (4, .int (nI i))] [] := by
  obtain ⟨hI, hM, ⟨B, τ, hR⟩, ⟨f, hf⟩, hz⟩ := hS
  refine v_aload_n 1 o dL_law_1997 rfl rfl ?_
  refine v_aload_n 0 o dL_law_1998 rfl rfl ?_
  refine v_iload 4 o dL_law_1999 rfl ?_
  refine v_iconst 1 o dL_law_2001 rfl ?_
  refine v_iadd (nI (i + 1)) o dL_law_2002 (nI_add i 1) ?_
  refine v_sld (j := (i + 1)) o hX hbl hg dL_law_2003 (by omega) (by omega) ?_
  refine v_aload_n 0 o dL_law_2004 rfl rfl ?_
  refine v_iload 4 o dL_law_2005 rfl ?_
  refine v_iconst 2 o dL_law_2007 rfl ?_
  refine v_iadd (nI (i + 2)) o dL_law_2008 (nI_add i 2) ?_
  refine v_sld (j := (i + 2)) o hX hbl hg dL_law_2009 (by omega) (by omega) ?_
  refine v_aload_n 0 o dL_law_2010 rfl rfl ?_
  refine v_iload 4 o dL_law_2011 rfl ?_
  refine v_iconst 3 o dL_law_2013 rfl ?_
  refine v_iadd (nI (i + 3)) o dL_law_2014 (nI_add i 3) ?_
  refine v_sld (j := (i + 3)) o hX hbl hg dL_law_2015 (by omega) (by omega) ?_
  refine v_aload_n 3 o dL_law_2016 rfl rfl ?_
  refine v_callSW [.ref x, .int (xs (i + 1)), .int (xs (i + 2)), .int (xs (i + 3)), .ref (x + 38)] [] o dL_law_2017 cwh_L_213 (w_whyNot hl hR hI (xs (i + 1)) (xs (i + 2)) (xs (i + 3)) (by omega) (by omega) hf) rfl rfl ⟨Nat.le_of_ble_eq_true rfl, Nat.le_of_ble_eq_true rfl⟩ ⟨by show k + 1 ≤ 601024; omega, by show n + 6 ≤ 7293034; omega⟩ (Nat.le_of_ble_eq_true rfl) ?_ (fun _ _ _ _ h => h.elim)
  rintro r9 μ9 z9 hz9 ⟨rfl, B9, τ9, f9, hR9, hv9⟩
  obtain ⟨hM9, hf9⟩ := LWS.cls hM hR9
  refine v_st [.int (nI ((sp_whyNot σ (xs (i + 1)) (xs (i + 2)) (xs (i + 3))).2.1 3 1))] rfl ?_
  refine v_istore [(5, .int (nI ((sp_whyNot σ (xs (i + 1)) (xs (i + 2)) (xs (i + 3))).2.1 3 1))), (0, .ref bb), (1, .ref x), (2, .ref (x + 12)), (3, .ref (x + 38)), (4, .int (nI i))] o dL_law_2020 (by decide) rfl ?_
  refine v_aload_n 3 o dL_law_2022 rfl rfl ?_
  refine v_aload_n 1 o dL_law_2023 rfl rfl ?_
  refine v_iload 5 o dL_law_2024 rfl ?_
  refine v_iconst 1 o dL_law_2026 rfl ?_
  refine v_iadd (nI (i + 1)) o dL_law_2027 (nI_add i 1) ?_
  refine v_sld (j := (i + 1)) o hX hbl hg dL_law_2028 (by omega) (by omega) ?_
  refine v_aload_n 1 o dL_law_2029 rfl rfl ?_
  refine v_iload 5 o dL_law_2030 rfl ?_
  refine v_iconst 2 o dL_law_2032 rfl ?_
  refine v_iadd (nI (i + 2)) o dL_law_2033 (nI_add i 2) ?_
  refine v_sld (j := (i + 2)) o hX hbl hg dL_law_2034 (by omega) (by omega) ?_
  refine v_aload_n 1 o dL_law_2035 rfl rfl ?_
  refine v_iload 5 o dL_law_2036 rfl ?_
  refine v_iconst 3 o dL_law_2038 rfl ?_
  refine v_iadd (nI (i + 3)) o dL_law_2039 (nI_add i 3) ?_
  refine v_sld (j := (i + 3)) o hX hbl hg dL_law_2040 (by omega) (by omega) ?_
  refine v_callV [.int (xs (i + 1)), .int (xs (i + 2)), .int (xs (i + 3))] [] o dL_law_2041 cw_L_215 im_X6_whyNot se_X6_whyNot cf6 hM9.o (m_whyNot hl hM9 hI (xs (i + 1)) (xs (i + 2)) (xs (i + 3))) rfl rfl ⟨Nat.le_of_ble_eq_true rfl, Nat.le_of_ble_eq_true rfl⟩ ⟨by show k + 1 + 0 ≤ 601024; omega, by show n + 6 + 0 ≤ 7293034; omega⟩ (Nat.le_of_ble_eq_true rfl) ?_ (fun _ _ _ _ h => h.elim)
  rintro r8 μ8 z8 hz8 ⟨rfl, hM8, rfl⟩
  have hs := scr.rf (σ := (sp_whyNot σ (xs (i + 1)) (xs (i + 2)) (xs (i + 3))).2)
  obtain ⟨hL8, hf8⟩ := LWS.ref (z := z9) (I_whyNot hI (xs (i + 1)) (xs (i + 2)) (xs (i + 3))) hs hR9 hf9 hM8 (by omega)
  refine v_st [.int ((sp_whyNot σ (xs (i + 1)) (xs (i + 2)) (xs (i + 3))).1)] rfl ?_
  refine v_istore [(6, .int ((sp_whyNot σ (xs (i + 1)) (xs (i + 2)) (xs (i + 3))).1)), (5, .int (nI ((sp_whyNot σ (xs (i + 1)) (xs (i + 2)) (xs (i + 3))).2.1 3 1))), (0, .ref bb), (1, .ref x), (2, .ref (x + 12)), (3, .ref (x + 38)), (4, .int (nI i))] o dL_law_2044 (by decide) rfl ?_
  refine v_aload_n 4 o dL_law_2046 rfl rfl ?_
  refine v_callVr (v := .int (nI ((sp_whyNot σ (xs (i + 1)) (xs (i + 2)) (xs (i + 3))).2.1 3 1))) [] [] o dL_law_2047 cw_L_117 im_X6_thrown se_X6_thrown cf6 hM8.o (m_thrown hl hM8) rfl rfl ⟨Nat.le_of_ble_eq_true rfl, Nat.le_of_ble_eq_true rfl⟩ ⟨rfl, rfl⟩ ⟨by show k + 1 + 0 ≤ 601024; omega, by show n + 6 + 0 ≤ 7293034; omega⟩ (Nat.le_of_ble_eq_true rfl) ?_
  refine v_iload 1 o dL_law_2050 rfl ?_
  refine v_icmp_eq 2057 o dL_law_2052 (by decide) (fun c2052 => ?_) (fun c2052 => absurd c2052 (not_not_intro rfl))
  refine v_iload 1 o dL_law_2057 rfl ?_
  refine v_if_ne 2074 o dL_law_2059 (by decide) (fun c2059 => ?_) (fun c2059 => ?_)
  · refine v_goto 2145 o dL_law_2074 (by decide) ?_
    refine v_sub [(0, .ref bb), (1, .ref x), (2, .ref (x + 12)), (3, .ref (x + 38)), (4, .int (nI i))] [2, 3, 4, 5, 6] rfl ?_
    refine v_widen (k + 122) (n + 584) (by show k + 1 + 0 + 0 ≤ _; omega) (by show n + 6 + 0 + 0 ≤ _; omega) ?_
    exact kk _ _ _ hL8
  · refine v_aload_n 5 o dL_law_2062 rfl rfl ?_
    refine v_iconst 0 o dL_law_2063 rfl ?_
    refine v_lald (f9 0) o dL_law_2064 (by decide) (by decide) hf8 rfl ?_
    refine v_iload 0 o dL_law_2065 rfl ?_
    refine v_i2l (((sp_whyNot σ (xs (i + 1)) (xs (i + 2)) (xs (i + 3))).1).toInt64) o dL_law_2067 rfl ?_
    refine v_lcmp o dL_law_2068 ?_
    refine v_if_eq_c 2074 o dL_law_2069 (by decide) (fun c2069 => ?_) (fun c2069 => absurd c2069 (not_not_intro (hv9 c2059)))
    refine v_goto 2145 o dL_law_2074 (by decide) ?_
    refine v_sub [(0, .ref bb), (1, .ref x), (2, .ref (x + 12)), (3, .ref (x + 38)), (4, .int (nI i))] [2, 3, 4, 5, 6] rfl ?_
    refine v_widen (k + 122) (n + 584) (by show k + 1 + 0 + 0 ≤ _; omega) (by show n + 6 + 0 + 0 ≤ _; omega) ?_
    exact kk _ _ _ hL8

set_option maxRecDepth 100000 in
set_option maxHeartbeats 4000000 in
theorem lc_about {p : Program} {l : Launch} {e : Env} {s : State} {mi : MethodId} {args : Array Value} {below : List Frame} {meth : Method} {c : Code} {Q : State → Prop} {g : mG} {bb L i x z k n : Nat} {xs : Nat → Int32} {σ : Sg} {μ : mM} (hl : l.stackTraces = false) (o : Ok p l s mi args meth c g cL_law 8 RL) (hX : va_X bb L xs s s.heap) (hbl : bb < s.heap.size) (hg : g.2.2 = s.heap.size) (hL : L ≤ 3072) (hi : i + 6 ≤ L) (hS : LWS g x σ μ z) (hk : k + 122 ≤ 601024) (hn : n + 584 ≤ 7293034)
    (kk : ∀ σ' μ' z', LWS g x σ' μ' z' → V p l e room_1 s mi args below meth c Q g μ' z' (k + 122) (n + 584) 2145 [(0, .ref bb), (1, .ref x), (2, .ref (x + 12)), (3, .ref (x + 38)), (4, .int (nI i))] []) : V p l e room_1 s mi args below meth c Q g μ z k n 2077 [(0, .ref bb), (1, .ref x), (2, .ref (x + 12)), (3, .ref (x + 38)), (4, .int (nI i))] [] := by
  obtain ⟨hI, hM, ⟨B, τ, hR⟩, ⟨f, hf⟩, hz⟩ := hS
  refine v_aload_n 1 o dL_law_2077 rfl rfl ?_
  refine v_aload_n 0 o dL_law_2078 rfl rfl ?_
  refine v_iload 4 o dL_law_2079 rfl ?_
  refine v_iconst 1 o dL_law_2081 rfl ?_
  refine v_iadd (nI (i + 1)) o dL_law_2082 (nI_add i 1) ?_
  refine v_sld (j := (i + 1)) o hX hbl hg dL_law_2083 (by omega) (by omega) ?_
  refine v_aload_n 0 o dL_law_2084 rfl rfl ?_
  refine v_iload 4 o dL_law_2085 rfl ?_
  refine v_iconst 2 o dL_law_2087 rfl ?_
  refine v_iadd (nI (i + 2)) o dL_law_2088 (nI_add i 2) ?_
  refine v_sld (j := (i + 2)) o hX hbl hg dL_law_2089 (by omega) (by omega) ?_
  refine v_aload_n 3 o dL_law_2090 rfl rfl ?_
  refine v_callSW [.ref x, .int (xs (i + 1)), .int (xs (i + 2)), .ref (x + 38)] [] o dL_law_2091 cwh_L_216 (w_about hl hR hI (xs (i + 1)) (xs (i + 2)) (by omega) (by omega) hf) rfl rfl ⟨Nat.le_of_ble_eq_true rfl, Nat.le_of_ble_eq_true rfl⟩ ⟨by show k + 1 ≤ 601024; omega, by show n + 6 ≤ 7293034; omega⟩ (Nat.le_of_ble_eq_true rfl) ?_ (fun _ _ _ _ h => h.elim)
  rintro r9 μ9 z9 hz9 ⟨rfl, B9, τ9, f9, hR9, hv9⟩
  obtain ⟨hM9, hf9⟩ := LWS.cls hM hR9
  refine v_st [.int (nI ((sp_about σ (xs (i + 1)) (xs (i + 2))).2.1 3 1))] rfl ?_
  refine v_istore [(5, .int (nI ((sp_about σ (xs (i + 1)) (xs (i + 2))).2.1 3 1))), (0, .ref bb), (1, .ref x), (2, .ref (x + 12)), (3, .ref (x + 38)), (4, .int (nI i))] o dL_law_2094 (by decide) rfl ?_
  refine v_aload_n 3 o dL_law_2096 rfl rfl ?_
  refine v_aload_n 1 o dL_law_2097 rfl rfl ?_
  refine v_iload 5 o dL_law_2098 rfl ?_
  refine v_iconst 1 o dL_law_2100 rfl ?_
  refine v_iadd (nI (i + 1)) o dL_law_2101 (nI_add i 1) ?_
  refine v_sld (j := (i + 1)) o hX hbl hg dL_law_2102 (by omega) (by omega) ?_
  refine v_aload_n 1 o dL_law_2103 rfl rfl ?_
  refine v_iload 5 o dL_law_2104 rfl ?_
  refine v_iconst 2 o dL_law_2106 rfl ?_
  refine v_iadd (nI (i + 2)) o dL_law_2107 (nI_add i 2) ?_
  refine v_sld (j := (i + 2)) o hX hbl hg dL_law_2108 (by omega) (by omega) ?_
  refine v_callV [.int (xs (i + 1)), .int (xs (i + 2))] [] o dL_law_2109 cw_L_218 im_X6_about se_X6_about cf6 hM9.o (m_about hl hM9 hI (xs (i + 1)) (xs (i + 2))) rfl rfl ⟨Nat.le_of_ble_eq_true rfl, Nat.le_of_ble_eq_true rfl⟩ ⟨by show k + 1 + 0 ≤ 601024; omega, by show n + 6 + 0 ≤ 7293034; omega⟩ (Nat.le_of_ble_eq_true rfl) ?_ (fun _ _ _ _ h => h.elim)
  rintro r8 μ8 z8 hz8 ⟨rfl, hM8, rfl⟩
  have hs := scr.rf (σ := (sp_about σ (xs (i + 1)) (xs (i + 2))).2)
  obtain ⟨hL8, hf8⟩ := LWS.ref (z := z9) (I_about hI (xs (i + 1)) (xs (i + 2))) hs hR9 hf9 hM8 (by omega)
  refine v_st [.int ((sp_about σ (xs (i + 1)) (xs (i + 2))).1)] rfl ?_
  refine v_istore [(6, .int ((sp_about σ (xs (i + 1)) (xs (i + 2))).1)), (5, .int (nI ((sp_about σ (xs (i + 1)) (xs (i + 2))).2.1 3 1))), (0, .ref bb), (1, .ref x), (2, .ref (x + 12)), (3, .ref (x + 38)), (4, .int (nI i))] o dL_law_2112 (by decide) rfl ?_
  refine v_aload_n 4 o dL_law_2114 rfl rfl ?_
  refine v_callVr (v := .int (nI ((sp_about σ (xs (i + 1)) (xs (i + 2))).2.1 3 1))) [] [] o dL_law_2115 cw_L_117 im_X6_thrown se_X6_thrown cf6 hM8.o (m_thrown hl hM8) rfl rfl ⟨Nat.le_of_ble_eq_true rfl, Nat.le_of_ble_eq_true rfl⟩ ⟨rfl, rfl⟩ ⟨by show k + 1 + 0 ≤ 601024; omega, by show n + 6 + 0 ≤ 7293034; omega⟩ (Nat.le_of_ble_eq_true rfl) ?_
  refine v_iload 1 o dL_law_2118 rfl ?_
  refine v_icmp_eq 2125 o dL_law_2120 (by decide) (fun c2120 => ?_) (fun c2120 => absurd c2120 (not_not_intro rfl))
  refine v_iload 1 o dL_law_2125 rfl ?_
  refine v_if_ne 2142 o dL_law_2127 (by decide) (fun c2127 => ?_) (fun c2127 => ?_)
  · refine v_goto 2145 o dL_law_2142 (by decide) ?_
    refine v_sub [(0, .ref bb), (1, .ref x), (2, .ref (x + 12)), (3, .ref (x + 38)), (4, .int (nI i))] [2, 3, 4, 5, 6] rfl ?_
    refine v_widen (k + 122) (n + 584) (by show k + 1 + 0 + 0 ≤ _; omega) (by show n + 6 + 0 + 0 ≤ _; omega) ?_
    exact kk _ _ _ hL8
  · refine v_aload_n 5 o dL_law_2130 rfl rfl ?_
    refine v_iconst 0 o dL_law_2131 rfl ?_
    refine v_lald (f9 0) o dL_law_2132 (by decide) (by decide) hf8 rfl ?_
    refine v_iload 0 o dL_law_2133 rfl ?_
    refine v_i2l (((sp_about σ (xs (i + 1)) (xs (i + 2))).1).toInt64) o dL_law_2135 rfl ?_
    refine v_lcmp o dL_law_2136 ?_
    refine v_if_eq_c 2142 o dL_law_2137 (by decide) (fun c2137 => ?_) (fun c2137 => absurd c2137 (not_not_intro (hv9 c2127)))
    refine v_goto 2145 o dL_law_2142 (by decide) ?_
    refine v_sub [(0, .ref bb), (1, .ref x), (2, .ref (x + 12)), (3, .ref (x + 38)), (4, .int (nI i))] [2, 3, 4, 5, 6] rfl ?_
    refine v_widen (k + 122) (n + 584) (by show k + 1 + 0 + 0 ≤ _; omega) (by show n + 6 + 0 + 0 ≤ _; omega) ?_
    exact kk _ _ _ hL8

set_option maxRecDepth 100000 in
set_option maxHeartbeats 4000000 in
theorem lc_shot {p : Program} {l : Launch} {e : Env} {s : State} {mi : MethodId} {args : Array Value} {below : List Frame} {meth : Method} {c : Code} {Q : State → Prop} {g : mG} {bb L i x z k n : Nat} {xs : Nat → Int32} {σ : Sg} {μ : mM} (hl : l.stackTraces = false) (o : Ok p l s mi args meth c g cL_law 8 RL) (hX : va_X bb L xs s s.heap) (hbl : bb < s.heap.size) (hg : g.2.2 = s.heap.size) (hL : L ≤ 3072) (hi : i + 6 ≤ L) (hS : LWS g x σ μ z) (hk : k + 122 ≤ 601024) (hn : n + 584 ≤ 7293034)
    (kk : ∀ σ' μ' z', LWS g x σ' μ' z' → V p l e room_1 s mi args below meth c Q g μ' z' (k + 122) (n + 584) 2145 [(0, .ref bb), (1, .ref x), (2, .ref (x + 12)), (3, .ref (x + 38)), (4, .int (nI i))] []) : V p l e room_1 s mi args below meth c Q g μ z k n 289 [(0, .ref bb), (1, .ref x), (2, .ref (x + 12)), (3, .ref (x + 38)), (4, .int (nI i))] [] := by
  obtain ⟨hI, hM, ⟨B, τ, hR⟩, ⟨f, hf⟩, hz⟩ := hS
  refine v_aload_n 1 o dL_law_289 rfl rfl ?_
  refine v_aload_n 0 o dL_law_290 rfl rfl ?_
  refine v_iload 4 o dL_law_291 rfl ?_
  refine v_iconst 1 o dL_law_293 rfl ?_
  refine v_iadd (nI (i + 1)) o dL_law_294 (nI_add i 1) ?_
  refine v_sld (j := (i + 1)) o hX hbl hg dL_law_295 (by omega) (by omega) ?_
  refine v_aload_n 0 o dL_law_296 rfl rfl ?_
  refine v_iload 4 o dL_law_297 rfl ?_
  refine v_iconst 2 o dL_law_299 rfl ?_
  refine v_iadd (nI (i + 2)) o dL_law_300 (nI_add i 2) ?_
  refine v_sld (j := (i + 2)) o hX hbl hg dL_law_301 (by omega) (by omega) ?_
  refine v_aload_n 0 o dL_law_302 rfl rfl ?_
  refine v_iload 4 o dL_law_303 rfl ?_
  refine v_iconst 3 o dL_law_305 rfl ?_
  refine v_iadd (nI (i + 3)) o dL_law_306 (nI_add i 3) ?_
  refine v_sld (j := (i + 3)) o hX hbl hg dL_law_307 (by omega) (by omega) ?_
  refine v_aload_n 0 o dL_law_308 rfl rfl ?_
  refine v_iload 4 o dL_law_309 rfl ?_
  refine v_iconst 4 o dL_law_311 rfl ?_
  refine v_iadd (nI (i + 4)) o dL_law_312 (nI_add i 4) ?_
  refine v_sld (j := (i + 4)) o hX hbl hg dL_law_313 (by omega) (by omega) ?_
  refine v_i2l ((xs (i + 4)).toInt64) o dL_law_314 rfl ?_
  refine v_bipush 32 o dL_law_315 (by decide) ?_
  refine v_lshl (((xs (i + 4)).toInt64) <<< ((nI 32).toInt64 &&& 63)) o dL_law_317 rfl ?_
  refine v_aload_n 0 o dL_law_318 rfl rfl ?_
  refine v_iload 4 o dL_law_319 rfl ?_
  refine v_iconst 5 o dL_law_321 rfl ?_
  refine v_iadd (nI (i + 5)) o dL_law_322 (nI_add i 5) ?_
  refine v_sld (j := (i + 5)) o hX hbl hg dL_law_323 (by omega) (by omega) ?_
  refine v_i2l ((xs (i + 5)).toInt64) o dL_law_324 rfl ?_
  refine v_ldc2 (4294967295) o dL_law_325 ct_L_125 ?_
  refine v_land (((xs (i + 5)).toInt64) &&& 4294967295) o dL_law_328 rfl ?_
  refine v_lor ((((xs (i + 4)).toInt64) <<< ((nI 32).toInt64 &&& 63)) ||| (((xs (i + 5)).toInt64) &&& 4294967295)) o dL_law_329 rfl ?_
  refine v_aload_n 3 o dL_law_330 rfl rfl ?_
  refine v_callSW [.ref x, .int (xs (i + 1)), .int (xs (i + 2)), .int (xs (i + 3)), .long ((((xs (i + 4)).toInt64) <<< ((nI 32).toInt64 &&& 63)) ||| (((xs (i + 5)).toInt64) &&& 4294967295)), .ref (x + 38)] [] o dL_law_331 cwh_L_127 (w_shot hl hR hI (xs (i + 1)) (xs (i + 2)) (xs (i + 3)) ((((xs (i + 4)).toInt64) <<< ((nI 32).toInt64 &&& 63)) ||| (((xs (i + 5)).toInt64) &&& 4294967295)) (by omega) (by omega) hf) rfl rfl ⟨Nat.le_of_ble_eq_true rfl, Nat.le_of_ble_eq_true rfl⟩ ⟨by show k + 1 ≤ 601024; omega, by show n + 6 ≤ 7293034; omega⟩ (Nat.le_of_ble_eq_true rfl) ?_ (fun _ _ _ _ h => h.elim)
  rintro r9 μ9 z9 hz9 ⟨rfl, B9, τ9, f9, hR9, hv9⟩
  obtain ⟨hM9, hf9⟩ := LWS.cls hM hR9
  refine v_st [.int (nI ((sp_shot σ (xs (i + 1)) (xs (i + 2)) (xs (i + 3)) ((((xs (i + 4)).toInt64) <<< ((nI 32).toInt64 &&& 63)) ||| (((xs (i + 5)).toInt64) &&& 4294967295))).2.1 3 1))] rfl ?_
  refine v_istore [(5, .int (nI ((sp_shot σ (xs (i + 1)) (xs (i + 2)) (xs (i + 3)) ((((xs (i + 4)).toInt64) <<< ((nI 32).toInt64 &&& 63)) ||| (((xs (i + 5)).toInt64) &&& 4294967295))).2.1 3 1))), (0, .ref bb), (1, .ref x), (2, .ref (x + 12)), (3, .ref (x + 38)), (4, .int (nI i))] o dL_law_334 (by decide) rfl ?_
  refine v_aload_n 3 o dL_law_336 rfl rfl ?_
  refine v_aload_n 1 o dL_law_337 rfl rfl ?_
  refine v_iload 5 o dL_law_338 rfl ?_
  refine v_iconst 1 o dL_law_340 rfl ?_
  refine v_iadd (nI (i + 1)) o dL_law_341 (nI_add i 1) ?_
  refine v_sld (j := (i + 1)) o hX hbl hg dL_law_342 (by omega) (by omega) ?_
  refine v_aload_n 1 o dL_law_343 rfl rfl ?_
  refine v_iload 5 o dL_law_344 rfl ?_
  refine v_iconst 2 o dL_law_346 rfl ?_
  refine v_iadd (nI (i + 2)) o dL_law_347 (nI_add i 2) ?_
  refine v_sld (j := (i + 2)) o hX hbl hg dL_law_348 (by omega) (by omega) ?_
  refine v_aload_n 1 o dL_law_349 rfl rfl ?_
  refine v_iload 5 o dL_law_350 rfl ?_
  refine v_iconst 3 o dL_law_352 rfl ?_
  refine v_iadd (nI (i + 3)) o dL_law_353 (nI_add i 3) ?_
  refine v_sld (j := (i + 3)) o hX hbl hg dL_law_354 (by omega) (by omega) ?_
  refine v_aload_n 1 o dL_law_355 rfl rfl ?_
  refine v_iload 5 o dL_law_356 rfl ?_
  refine v_iconst 4 o dL_law_358 rfl ?_
  refine v_iadd (nI (i + 4)) o dL_law_359 (nI_add i 4) ?_
  refine v_sld (j := (i + 4)) o hX hbl hg dL_law_360 (by omega) (by omega) ?_
  refine v_i2l ((xs (i + 4)).toInt64) o dL_law_361 rfl ?_
  refine v_bipush 32 o dL_law_362 (by decide) ?_
  refine v_lshl (((xs (i + 4)).toInt64) <<< ((nI 32).toInt64 &&& 63)) o dL_law_364 rfl ?_
  refine v_aload_n 1 o dL_law_365 rfl rfl ?_
  refine v_iload 5 o dL_law_366 rfl ?_
  refine v_iconst 5 o dL_law_368 rfl ?_
  refine v_iadd (nI (i + 5)) o dL_law_369 (nI_add i 5) ?_
  refine v_sld (j := (i + 5)) o hX hbl hg dL_law_370 (by omega) (by omega) ?_
  refine v_i2l ((xs (i + 5)).toInt64) o dL_law_371 rfl ?_
  refine v_ldc2 (4294967295) o dL_law_372 ct_L_125 ?_
  refine v_land (((xs (i + 5)).toInt64) &&& 4294967295) o dL_law_375 rfl ?_
  refine v_lor ((((xs (i + 4)).toInt64) <<< ((nI 32).toInt64 &&& 63)) ||| (((xs (i + 5)).toInt64) &&& 4294967295)) o dL_law_376 rfl ?_
  refine v_callV [.int (xs (i + 1)), .int (xs (i + 2)), .int (xs (i + 3)), .long ((((xs (i + 4)).toInt64) <<< ((nI 32).toInt64 &&& 63)) ||| (((xs (i + 5)).toInt64) &&& 4294967295))] [] o dL_law_377 cw_L_130 im_X6_shot se_X6_shot cf6 hM9.o (m_shot hl hM9 hI (xs (i + 1)) (xs (i + 2)) (xs (i + 3)) ((((xs (i + 4)).toInt64) <<< ((nI 32).toInt64 &&& 63)) ||| (((xs (i + 5)).toInt64) &&& 4294967295))) rfl rfl ⟨Nat.le_of_ble_eq_true rfl, Nat.le_of_ble_eq_true rfl⟩ ⟨by show k + 1 + 0 ≤ 601024; omega, by show n + 6 + 0 ≤ 7293034; omega⟩ (Nat.le_of_ble_eq_true rfl) ?_ (fun _ _ _ _ h => h.elim)
  rintro r8 μ8 z8 hz8 ⟨rfl, hM8, rfl⟩
  have hs := scr.rf (σ := (sp_shot σ (xs (i + 1)) (xs (i + 2)) (xs (i + 3)) ((((xs (i + 4)).toInt64) <<< ((nI 32).toInt64 &&& 63)) ||| (((xs (i + 5)).toInt64) &&& 4294967295))).2)
  obtain ⟨hL8, hf8⟩ := LWS.ref (z := z9) (I_shot hI (xs (i + 1)) (xs (i + 2)) (xs (i + 3)) ((((xs (i + 4)).toInt64) <<< ((nI 32).toInt64 &&& 63)) ||| (((xs (i + 5)).toInt64) &&& 4294967295))) hs hR9 hf9 hM8 (by omega)
  refine v_st [.int ((sp_shot σ (xs (i + 1)) (xs (i + 2)) (xs (i + 3)) ((((xs (i + 4)).toInt64) <<< ((nI 32).toInt64 &&& 63)) ||| (((xs (i + 5)).toInt64) &&& 4294967295))).1)] rfl ?_
  refine v_istore [(6, .int ((sp_shot σ (xs (i + 1)) (xs (i + 2)) (xs (i + 3)) ((((xs (i + 4)).toInt64) <<< ((nI 32).toInt64 &&& 63)) ||| (((xs (i + 5)).toInt64) &&& 4294967295))).1)), (5, .int (nI ((sp_shot σ (xs (i + 1)) (xs (i + 2)) (xs (i + 3)) ((((xs (i + 4)).toInt64) <<< ((nI 32).toInt64 &&& 63)) ||| (((xs (i + 5)).toInt64) &&& 4294967295))).2.1 3 1))), (0, .ref bb), (1, .ref x), (2, .ref (x + 12)), (3, .ref (x + 38)), (4, .int (nI i))] o dL_law_380 (by decide) rfl ?_
  refine v_aload_n 4 o dL_law_382 rfl rfl ?_
  refine v_callVr (v := .int (nI ((sp_shot σ (xs (i + 1)) (xs (i + 2)) (xs (i + 3)) ((((xs (i + 4)).toInt64) <<< ((nI 32).toInt64 &&& 63)) ||| (((xs (i + 5)).toInt64) &&& 4294967295))).2.1 3 1))) [] [] o dL_law_383 cw_L_117 im_X6_thrown se_X6_thrown cf6 hM8.o (m_thrown hl hM8) rfl rfl ⟨Nat.le_of_ble_eq_true rfl, Nat.le_of_ble_eq_true rfl⟩ ⟨rfl, rfl⟩ ⟨by show k + 1 + 0 ≤ 601024; omega, by show n + 6 + 0 ≤ 7293034; omega⟩ (Nat.le_of_ble_eq_true rfl) ?_
  refine v_iload 1 o dL_law_386 rfl ?_
  refine v_icmp_eq 393 o dL_law_388 (by decide) (fun c388 => ?_) (fun c388 => absurd c388 (not_not_intro rfl))
  refine v_iload 1 o dL_law_393 rfl ?_
  refine v_if_ne 410 o dL_law_395 (by decide) (fun c395 => ?_) (fun c395 => ?_)
  · refine v_goto 2145 o dL_law_410 (by decide) ?_
    refine v_sub [(0, .ref bb), (1, .ref x), (2, .ref (x + 12)), (3, .ref (x + 38)), (4, .int (nI i))] [2, 3, 4, 5, 6] rfl ?_
    refine v_widen (k + 122) (n + 584) (by show k + 1 + 0 + 0 ≤ _; omega) (by show n + 6 + 0 + 0 ≤ _; omega) ?_
    exact kk _ _ _ hL8
  · refine v_aload_n 5 o dL_law_398 rfl rfl ?_
    refine v_iconst 0 o dL_law_399 rfl ?_
    refine v_lald (f9 0) o dL_law_400 (by decide) (by decide) hf8 rfl ?_
    refine v_iload 0 o dL_law_401 rfl ?_
    refine v_i2l (((sp_shot σ (xs (i + 1)) (xs (i + 2)) (xs (i + 3)) ((((xs (i + 4)).toInt64) <<< ((nI 32).toInt64 &&& 63)) ||| (((xs (i + 5)).toInt64) &&& 4294967295))).1).toInt64) o dL_law_403 rfl ?_
    refine v_lcmp o dL_law_404 ?_
    refine v_if_eq_c 410 o dL_law_405 (by decide) (fun c405 => ?_) (fun c405 => absurd c405 (not_not_intro (hv9 c395)))
    refine v_goto 2145 o dL_law_410 (by decide) ?_
    refine v_sub [(0, .ref bb), (1, .ref x), (2, .ref (x + 12)), (3, .ref (x + 38)), (4, .int (nI i))] [2, 3, 4, 5, 6] rfl ?_
    refine v_widen (k + 122) (n + 584) (by show k + 1 + 0 + 0 ≤ _; omega) (by show n + 6 + 0 + 0 ≤ _; omega) ?_
    exact kk _ _ _ hL8

set_option maxRecDepth 100000 in
set_option maxHeartbeats 4000000 in
theorem lc_copy {p : Program} {l : Launch} {e : Env} {s : State} {mi : MethodId} {args : Array Value} {below : List Frame} {meth : Method} {c : Code} {Q : State → Prop} {g : mG} {bb L i x z k n : Nat} {xs : Nat → Int32} {σ : Sg} {μ : mM} (hl : l.stackTraces = false) (o : Ok p l s mi args meth c g cL_law 8 RL) (hX : va_X bb L xs s s.heap) (hbl : bb < s.heap.size) (hg : g.2.2 = s.heap.size) (hL : L ≤ 3072) (hi : i + 6 ≤ L) (hS : LWS g x σ μ z) (hk : k + 122 ≤ 601024) (hn : n + 584 ≤ 7293034)
    (kk : ∀ σ' μ' z', LWS g x σ' μ' z' → V p l e room_1 s mi args below meth c Q g μ' z' (k + 122) (n + 584) 2145 [(0, .ref bb), (1, .ref x), (2, .ref (x + 12)), (3, .ref (x + 38)), (4, .int (nI i))] []) : V p l e room_1 s mi args below meth c Q g μ z k n 841 [(0, .ref bb), (1, .ref x), (2, .ref (x + 12)), (3, .ref (x + 38)), (4, .int (nI i))] [] := by
  obtain ⟨hI, hM, ⟨B, τ, hR⟩, ⟨f, hf⟩, hz⟩ := hS
  refine v_aload_n 1 o dL_law_841 rfl rfl ?_
  refine v_aload_n 0 o dL_law_842 rfl rfl ?_
  refine v_iload 4 o dL_law_843 rfl ?_
  refine v_iconst 1 o dL_law_845 rfl ?_
  refine v_iadd (nI (i + 1)) o dL_law_846 (nI_add i 1) ?_
  refine v_sld (j := (i + 1)) o hX hbl hg dL_law_847 (by omega) (by omega) ?_
  refine v_aload_n 0 o dL_law_848 rfl rfl ?_
  refine v_iload 4 o dL_law_849 rfl ?_
  refine v_iconst 2 o dL_law_851 rfl ?_
  refine v_iadd (nI (i + 2)) o dL_law_852 (nI_add i 2) ?_
  refine v_sld (j := (i + 2)) o hX hbl hg dL_law_853 (by omega) (by omega) ?_
  refine v_aload_n 0 o dL_law_854 rfl rfl ?_
  refine v_iload 4 o dL_law_855 rfl ?_
  refine v_iconst 3 o dL_law_857 rfl ?_
  refine v_iadd (nI (i + 3)) o dL_law_858 (nI_add i 3) ?_
  refine v_sld (j := (i + 3)) o hX hbl hg dL_law_859 (by omega) (by omega) ?_
  refine v_aload_n 3 o dL_law_860 rfl rfl ?_
  refine v_callSW [.ref x, .int (xs (i + 1)), .int (xs (i + 2)), .int (xs (i + 3)), .ref (x + 38)] [] o dL_law_861 cwh_L_161 (w_copy hl hR hI (xs (i + 1)) (xs (i + 2)) (xs (i + 3)) (by omega) (by omega) hf) rfl rfl ⟨Nat.le_of_ble_eq_true rfl, Nat.le_of_ble_eq_true rfl⟩ ⟨by show k + 1 ≤ 601024; omega, by show n + 6 ≤ 7293034; omega⟩ (Nat.le_of_ble_eq_true rfl) ?_ (fun _ _ _ _ h => h.elim)
  rintro r9 μ9 z9 hz9 ⟨rfl, B9, τ9, f9, hR9, hv9⟩
  obtain ⟨hM9, hf9⟩ := LWS.cls hM hR9
  refine v_st [.int (nI ((sp_copy σ (xs (i + 1)) (xs (i + 2)) (xs (i + 3))).2.1 3 1))] rfl ?_
  refine v_istore [(5, .int (nI ((sp_copy σ (xs (i + 1)) (xs (i + 2)) (xs (i + 3))).2.1 3 1))), (0, .ref bb), (1, .ref x), (2, .ref (x + 12)), (3, .ref (x + 38)), (4, .int (nI i))] o dL_law_864 (by decide) rfl ?_
  refine v_aload_n 3 o dL_law_866 rfl rfl ?_
  refine v_aload_n 1 o dL_law_867 rfl rfl ?_
  refine v_iload 5 o dL_law_868 rfl ?_
  refine v_iconst 1 o dL_law_870 rfl ?_
  refine v_iadd (nI (i + 1)) o dL_law_871 (nI_add i 1) ?_
  refine v_sld (j := (i + 1)) o hX hbl hg dL_law_872 (by omega) (by omega) ?_
  refine v_aload_n 1 o dL_law_873 rfl rfl ?_
  refine v_iload 5 o dL_law_874 rfl ?_
  refine v_iconst 2 o dL_law_876 rfl ?_
  refine v_iadd (nI (i + 2)) o dL_law_877 (nI_add i 2) ?_
  refine v_sld (j := (i + 2)) o hX hbl hg dL_law_878 (by omega) (by omega) ?_
  refine v_aload_n 1 o dL_law_879 rfl rfl ?_
  refine v_iload 5 o dL_law_880 rfl ?_
  refine v_iconst 3 o dL_law_882 rfl ?_
  refine v_iadd (nI (i + 3)) o dL_law_883 (nI_add i 3) ?_
  refine v_sld (j := (i + 3)) o hX hbl hg dL_law_884 (by omega) (by omega) ?_
  refine v_callV [.int (xs (i + 1)), .int (xs (i + 2)), .int (xs (i + 3))] [] o dL_law_885 cw_L_164 im_X6_copy se_X6_copy cf6 hM9.o (m_copy hl hM9 hI (xs (i + 1)) (xs (i + 2)) (xs (i + 3))) rfl rfl ⟨Nat.le_of_ble_eq_true rfl, Nat.le_of_ble_eq_true rfl⟩ ⟨by show k + 1 + 0 ≤ 601024; omega, by show n + 6 + 0 ≤ 7293034; omega⟩ (Nat.le_of_ble_eq_true rfl) ?_ (fun _ _ _ _ h => h.elim)
  rintro r8 μ8 z8 hz8 ⟨rfl, hM8, rfl⟩
  have hs := scr.rf (σ := (sp_copy σ (xs (i + 1)) (xs (i + 2)) (xs (i + 3))).2)
  obtain ⟨hL8, hf8⟩ := LWS.ref (z := z9) (I_copy hI (xs (i + 1)) (xs (i + 2)) (xs (i + 3))) hs hR9 hf9 hM8 (by omega)
  refine v_st [.long ((sp_copy σ (xs (i + 1)) (xs (i + 2)) (xs (i + 3))).1)] rfl ?_
  refine v_lstore [(6, .long ((sp_copy σ (xs (i + 1)) (xs (i + 2)) (xs (i + 3))).1)), (5, .int (nI ((sp_copy σ (xs (i + 1)) (xs (i + 2)) (xs (i + 3))).2.1 3 1))), (0, .ref bb), (1, .ref x), (2, .ref (x + 12)), (3, .ref (x + 38)), (4, .int (nI i))] o dL_law_888 (by decide) rfl ?_
  refine v_aload_n 4 o dL_law_890 rfl rfl ?_
  refine v_callVr (v := .int (nI ((sp_copy σ (xs (i + 1)) (xs (i + 2)) (xs (i + 3))).2.1 3 1))) [] [] o dL_law_891 cw_L_117 im_X6_thrown se_X6_thrown cf6 hM8.o (m_thrown hl hM8) rfl rfl ⟨Nat.le_of_ble_eq_true rfl, Nat.le_of_ble_eq_true rfl⟩ ⟨rfl, rfl⟩ ⟨by show k + 1 + 0 ≤ 601024; omega, by show n + 6 + 0 ≤ 7293034; omega⟩ (Nat.le_of_ble_eq_true rfl) ?_
  refine v_iload 1 o dL_law_894 rfl ?_
  refine v_icmp_eq 901 o dL_law_896 (by decide) (fun c896 => ?_) (fun c896 => absurd c896 (not_not_intro rfl))
  refine v_iload 1 o dL_law_901 rfl ?_
  refine v_if_ne 917 o dL_law_903 (by decide) (fun c903 => ?_) (fun c903 => ?_)
  · refine v_goto 2145 o dL_law_917 (by decide) ?_
    refine v_sub [(0, .ref bb), (1, .ref x), (2, .ref (x + 12)), (3, .ref (x + 38)), (4, .int (nI i))] [2, 3, 4, 5, 6] rfl ?_
    refine v_widen (k + 122) (n + 584) (by show k + 1 + 0 + 0 ≤ _; omega) (by show n + 6 + 0 + 0 ≤ _; omega) ?_
    exact kk _ _ _ hL8
  · refine v_aload_n 5 o dL_law_906 rfl rfl ?_
    refine v_iconst 0 o dL_law_907 rfl ?_
    refine v_lald (f9 0) o dL_law_908 (by decide) (by decide) hf8 rfl ?_
    refine v_lload 0 o dL_law_909 rfl ?_
    refine v_lcmp o dL_law_911 ?_
    refine v_if_eq_c 917 o dL_law_912 (by decide) (fun c912 => ?_) (fun c912 => absurd c912 (not_not_intro (hv9 c903)))
    refine v_goto 2145 o dL_law_917 (by decide) ?_
    refine v_sub [(0, .ref bb), (1, .ref x), (2, .ref (x + 12)), (3, .ref (x + 38)), (4, .int (nI i))] [2, 3, 4, 5, 6] rfl ?_
    refine v_widen (k + 122) (n + 584) (by show k + 1 + 0 + 0 ≤ _; omega) (by show n + 6 + 0 + 0 ≤ _; omega) ?_
    exact kk _ _ _ hL8

