set_option maxRecDepth 100000 in
set_option maxHeartbeats 4000000 in
theorem lc_burn {p : Program} {l : Launch} {e : Env} {s : State} {mi : MethodId} {args : Array Value} {below : List Frame} {meth : Method} {c : Code} {Q : State → Prop} {g : mG} {bb L i x z k n : Nat} {xs : Nat → Int32} {σ : Sg} {μ : mM} (hl : l.stackTraces = false) (o : Ok p l s mi args meth c g cL_law 8 RL) (hX : va_X bb L xs s s.heap) (hbl : bb < s.heap.size) (hg : g.2.2 = s.heap.size) (hL : L ≤ 3072) (hi : i + 6 ≤ L) (hS : LWS g x σ μ z) (hk : k + 122 ≤ 601024) (hn : n + 584 ≤ 7293034)
    (kk : ∀ σ' μ' z', LWS g x σ' μ' z' → V p l e room_1 s mi args below meth c Q g μ' z' (k + 122) (n + 584) 2145 [(0, .ref bb), (1, .ref x), (2, .ref (x + 12)), (3, .ref (x + 38)), (4, .int (nI i))] []) : V p l e room_1 s mi args below meth c Q g μ z k n 600 [(0, .ref bb), (1, .ref x), (2, .ref (x + 12)), (3, .ref (x + 38)), (4, .int (nI i))] [] := by
  obtain ⟨hI, hM, ⟨B, τ, hR⟩, ⟨f, hf⟩, hz⟩ := hS
  refine v_aload_n 1 o dL_law_600 rfl rfl ?_
  refine v_aload_n 0 o dL_law_601 rfl rfl ?_
  refine v_iload 4 o dL_law_602 rfl ?_
  refine v_iconst 1 o dL_law_604 rfl ?_
  refine v_iadd (nI (i + 1)) o dL_law_605 (nI_add i 1) ?_
  refine v_sld (j := (i + 1)) o hX hbl hg dL_law_606 (by omega) (by omega) ?_
  refine v_aload_n 3 o dL_law_607 rfl rfl ?_
  refine v_callSW [.ref x, .int (xs (i + 1)), .ref (x + 38)] [] o dL_law_608 cwh_L_143 (w_burn hl hR hI (xs (i + 1)) (by omega) (by omega) hf) rfl rfl ⟨Nat.le_of_ble_eq_true rfl, Nat.le_of_ble_eq_true rfl⟩ ⟨by show k + 1 ≤ 601024; omega, by show n + 6 ≤ 7293034; omega⟩ (Nat.le_of_ble_eq_true rfl) ?_ (fun _ _ _ _ h => h.elim)
  rintro r9 μ9 z9 hz9 ⟨rfl, B9, τ9, f9, hR9, hv9⟩
  obtain ⟨hM9, hf9⟩ := LWS.cls hM hR9
  refine v_st [.int (nI ((sp_burn σ (xs (i + 1))).2.1 3 1))] rfl ?_
  refine v_istore [(5, .int (nI ((sp_burn σ (xs (i + 1))).2.1 3 1))), (0, .ref bb), (1, .ref x), (2, .ref (x + 12)), (3, .ref (x + 38)), (4, .int (nI i))] o dL_law_611 (by decide) rfl ?_
  refine v_aload_n 3 o dL_law_613 rfl rfl ?_
  refine v_aload_n 1 o dL_law_614 rfl rfl ?_
  refine v_iload 5 o dL_law_615 rfl ?_
  refine v_iconst 1 o dL_law_617 rfl ?_
  refine v_iadd (nI (i + 1)) o dL_law_618 (nI_add i 1) ?_
  refine v_sld (j := (i + 1)) o hX hbl hg dL_law_619 (by omega) (by omega) ?_
  refine v_callV [.int (xs (i + 1))] [] o dL_law_620 cw_L_146 im_X6_burn se_X6_burn cf6 hM9.o (m_burn hl hM9 hI (xs (i + 1))) rfl rfl ⟨Nat.le_of_ble_eq_true rfl, Nat.le_of_ble_eq_true rfl⟩ ⟨by show k + 1 + 0 ≤ 601024; omega, by show n + 6 + 0 ≤ 7293034; omega⟩ (Nat.le_of_ble_eq_true rfl) ?_ (fun _ _ _ _ h => h.elim)
  rintro r8 μ8 z8 hz8 ⟨rfl, hM8, rfl⟩
  have hs := scr.rf (σ := (sp_burn σ (xs (i + 1))).2)
  obtain ⟨hL8, hf8⟩ := LWS.ref (z := z9) (I_burn hI (xs (i + 1))) hs hR9 hf9 hM8 (by omega)
  refine v_st [.int ((sp_burn σ (xs (i + 1))).1)] rfl ?_
  refine v_istore [(6, .int ((sp_burn σ (xs (i + 1))).1)), (5, .int (nI ((sp_burn σ (xs (i + 1))).2.1 3 1))), (0, .ref bb), (1, .ref x), (2, .ref (x + 12)), (3, .ref (x + 38)), (4, .int (nI i))] o dL_law_623 (by decide) rfl ?_
  refine v_aload_n 4 o dL_law_625 rfl rfl ?_
  refine v_callVr (v := .int (nI ((sp_burn σ (xs (i + 1))).2.1 3 1))) [] [] o dL_law_626 cw_L_117 im_X6_thrown se_X6_thrown cf6 hM8.o (m_thrown hl hM8) rfl rfl ⟨Nat.le_of_ble_eq_true rfl, Nat.le_of_ble_eq_true rfl⟩ ⟨rfl, rfl⟩ ⟨by show k + 1 + 0 ≤ 601024; omega, by show n + 6 + 0 ≤ 7293034; omega⟩ (Nat.le_of_ble_eq_true rfl) ?_
  refine v_iload 1 o dL_law_629 rfl ?_
  refine v_icmp_eq 636 o dL_law_631 (by decide) (fun c631 => ?_) (fun c631 => absurd c631 (not_not_intro rfl))
  refine v_iload 1 o dL_law_636 rfl ?_
  refine v_if_ne 653 o dL_law_638 (by decide) (fun c638 => ?_) (fun c638 => ?_)
  · refine v_goto 2145 o dL_law_653 (by decide) ?_
    refine v_sub [(0, .ref bb), (1, .ref x), (2, .ref (x + 12)), (3, .ref (x + 38)), (4, .int (nI i))] [2, 3, 4, 5, 6] rfl ?_
    refine v_widen (k + 122) (n + 584) (by show k + 1 + 0 + 0 ≤ _; omega) (by show n + 6 + 0 + 0 ≤ _; omega) ?_
    exact kk _ _ _ hL8
  · refine v_aload_n 5 o dL_law_641 rfl rfl ?_
    refine v_iconst 0 o dL_law_642 rfl ?_
    refine v_lald (f9 0) o dL_law_643 (by decide) (by decide) hf8 rfl ?_
    refine v_iload 0 o dL_law_644 rfl ?_
    refine v_i2l (((sp_burn σ (xs (i + 1))).1).toInt64) o dL_law_646 rfl ?_
    refine v_lcmp o dL_law_647 ?_
    refine v_if_eq_c 653 o dL_law_648 (by decide) (fun c648 => ?_) (fun c648 => absurd c648 (not_not_intro (hv9 c638)))
    refine v_goto 2145 o dL_law_653 (by decide) ?_
    refine v_sub [(0, .ref bb), (1, .ref x), (2, .ref (x + 12)), (3, .ref (x + 38)), (4, .int (nI i))] [2, 3, 4, 5, 6] rfl ?_
    refine v_widen (k + 122) (n + 584) (by show k + 1 + 0 + 0 ≤ _; omega) (by show n + 6 + 0 + 0 ≤ _; omega) ?_
    exact kk _ _ _ hL8

