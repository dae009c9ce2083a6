theorem and31 (y : Int32) : ∃ q, q < 32 ∧ y &&& nI 31 = nI q := by
  refine ⟨(y &&& nI 31).toBitVec.toNat, ?_, ?_⟩
  · rw [Int32.toBitVec_and, BitVec.toNat_and]
    exact Nat.lt_of_le_of_lt Nat.and_le_right (by decide)
  · apply Int32.toBitVec_inj.mp
    show (y &&& nI 31).toBitVec = BitVec.ofNat 32 (y &&& nI 31).toBitVec.toNat
    rw [BitVec.ofNat_toNat, BitVec.setWidth_eq]
set_option maxRecDepth 100000 in
set_option maxHeartbeats 4000000 in
theorem law_loop {p : Program} {l : Launch} {e : Env} {s : State} {mi : MethodId} {args : Array Value} {below : List Frame} {meth : Method} {c : Code} {Q : State → Prop} {g : mG} {bb L x : Nat} {xs : Nat → Int32} (hl : l.stackTraces = false) (o : Ok p l s mi args meth c g cL_law 8 RL) (hX : va_X bb L xs s s.heap) (hbl : bb < s.heap.size) (hg : g.2.2 = s.heap.size) (hL : L ≤ 3072)
    (kend : ∀ (i : Nat) (μ' : mM) (z' k' n' : Nat), k' ≤ 601024 → n' ≤ 7293034 → V p l e room_1 s mi args below meth c Q g μ' z' (k') (n') 2151 [(0, .ref bb), (1, .ref x), (2, .ref (x + 12)), (3, .ref (x + 38)), (4, .int (nI i))] []) :
    ∀ (d i z k n : Nat) (σ : Sg) (μ : mM), LWS g x σ μ z → L ≤ i + 6 * d → i ≤ L + 6 → k + 122 * d ≤ 601024 → n + 584 * d ≤ 7293034 → V p l e room_1 s mi args below meth c Q g μ z (k) (n) 23 [(0, .ref bb), (1, .ref x), (2, .ref (x + 12)), (3, .ref (x + 38)), (4, .int (nI i))] [] := by
  intro d
  induction d with
  | zero =>
    intro i z k n σ μ hS hd hiL hk hn
    refine v_iload 4 o dL_law_23 rfl ?_
    refine v_aload_n 0 o dL_law_25 rfl rfl ?_
    refine v_slen o hX hbl hg dL_law_26 ?_
    refine v_bipush 6 o dL_law_27 (by decide) ?_
    refine v_isub (nI L - nI 6) o dL_law_29 rfl ?_
    refine v_icmp_gt 2151 o dL_law_30 (by decide) (fun c30 => kend i μ z k n (by omega) (by omega)) (fun c30 => absurd ?_ c30)
    rw [Int32.lt_iff_toInt_lt, pk_sub_toInt (a := L) (b := 6) (by omega) (by decide), nI_toInt (by omega)]
    omega
  | succ d ih =>
    intro i z k n σ μ hS hd hiL hk hn
    refine v_iload 4 o dL_law_23 rfl ?_
    refine v_aload_n 0 o dL_law_25 rfl rfl ?_
    refine v_slen o hX hbl hg dL_law_26 ?_
    refine v_bipush 6 o dL_law_27 (by decide) ?_
    refine v_isub (nI L - nI 6) o dL_law_29 rfl ?_
    refine v_icmp_gt 2151 o dL_law_30 (by decide) (fun c30 => kend i μ z k n (by omega) (by omega)) (fun c30 => ?_)
    have hi : i + 6 ≤ L := by
      rw [Int32.lt_iff_toInt_lt, pk_sub_toInt (a := L) (b := 6) (by omega) (by decide), nI_toInt (by omega)] at c30
      omega
    have hround : ∀ σ' μ' z', LWS g x σ' μ' z' → V p l e room_1 s mi args below meth c Q g μ' z' (k + 122) (n + 584) 2145 [(0, .ref bb), (1, .ref x), (2, .ref (x + 12)), (3, .ref (x + 38)), (4, .int (nI i))] [] := fun σ' μ' z' hS' => by
      refine v_iinc (nI (i + 6)) [(4, .int (nI (i + 6))), (0, .ref bb), (1, .ref x), (2, .ref (x + 12)), (3, .ref (x + 38))] o dL_law_2145 4 rfl (iinc_n i 6) (by decide) rfl ?_
      refine v_goto 23 o dL_law_2148 (by decide) ?_
      refine v_sub [(0, .ref bb), (1, .ref x), (2, .ref (x + 12)), (3, .ref (x + 38)), (4, .int (nI (i + 6)))] [1, 2, 3, 4, 0] rfl ?_
      exact ih (i + 6) z' (k + 122) (n + 584) σ' μ' hS' (by omega) (by omega) (by omega) (by omega)
    refine v_aload_n 0 o dL_law_33 rfl rfl ?_
    refine v_iload 4 o dL_law_34 rfl ?_
    refine v_sld (j := i) o hX hbl hg dL_law_36 (by omega) (by omega) ?_
    refine v_bipush 31 o dL_law_37 (by decide) ?_
    refine v_iand (xs i &&& nI 31) o dL_law_39 rfl ?_
    obtain ⟨q, hq, e9⟩ := and31 (xs i)
    refine v_top (nI q) e9 ?_
    rcases (show q = 0 ∨ q = 1 ∨ q = 2 ∨ q = 3 ∨ q = 4 ∨ q = 5 ∨ q = 6 ∨ q = 7 ∨ q = 8 ∨ q = 9 ∨ q = 10 ∨ q = 11 ∨ q = 12 ∨ q = 13 ∨ q = 14 ∨ q = 15 ∨ q = 16 ∨ q = 17 ∨ q = 18 ∨ q = 19 ∨ q = 20 ∨ q = 21 ∨ q = 22 ∨ q = 23 ∨ q = 24 ∨ q = 25 ∨ q = 26 ∨ q = 27 ∨ q = 28 ∨ q = 29 ∨ q = 30 ∨ q = 31 by omega) with rfl | rfl | rfl | rfl | rfl | rfl | rfl | rfl | rfl | rfl | rfl | rfl | rfl | rfl | rfl | rfl | rfl | rfl | rfl | rfl | rfl | rfl | rfl | rfl | rfl | rfl | rfl | rfl | rfl | rfl | rfl | rfl
    · refine v_tabIn 172 o dL_law_40 (by decide) (by decide) rfl (by decide) ?_
      exact lc_book hl o hX hbl hg hL (by omega) hS (by omega) (by omega) hround
    · refine v_tabIn 276 o dL_law_40 (by decide) (by decide) rfl (by decide) ?_
      exact lc_next hl o hX hbl hg hL (by omega) hS (by omega) (by omega) hround
    · refine v_tabIn 289 o dL_law_40 (by decide) (by decide) rfl (by decide) ?_
      exact lc_shot hl o hX hbl hg hL (by omega) hS (by omega) (by omega) hround
    · refine v_tabIn 413 o dL_law_40 (by decide) (by decide) rfl (by decide) ?_
      exact lc_look hl o hX hbl hg hL (by omega) hS (by omega) (by omega) hround
    · refine v_tabIn 488 o dL_law_40 (by decide) (by decide) rfl (by decide) ?_
      exact lc_calibrate hl o hX hbl hg hL (by omega) hS (by omega) (by omega) hround
    · refine v_tabIn 501 o dL_law_40 (by decide) (by decide) rfl (by decide) ?_
      exact lc_rot hl o hX hbl hg hL (by omega) hS (by omega) (by omega) hround
    · refine v_tabIn 600 o dL_law_40 (by decide) (by decide) rfl (by decide) ?_
      exact lc_burn hl o hX hbl hg hL (by omega) hS (by omega) (by omega) hround
    · refine v_tabIn 656 o dL_law_40 (by decide) (by decide) rfl (by decide) ?_
      exact lc_build hl o hX hbl hg hL (by omega) hS (by omega) (by omega) hround
    · refine v_tabIn 692 o dL_law_40 (by decide) (by decide) rfl (by decide) ?_
      exact lc_check hl o hX hbl hg hL (by omega) hS (by omega) (by omega) hround
    · refine v_tabIn 760 o dL_law_40 (by decide) (by decide) rfl (by decide) ?_
      exact lc_looked hl o hX hbl hg hL (by omega) hS (by omega) (by omega) hround
    · refine v_tabIn 773 o dL_law_40 (by decide) (by decide) rfl (by decide) ?_
      exact lc_mend hl o hX hbl hg hL (by omega) hS (by omega) (by omega) hround
    · refine v_tabIn 841 o dL_law_40 (by decide) (by decide) rfl (by decide) ?_
      exact lc_copy hl o hX hbl hg hL (by omega) hS (by omega) (by omega) hround
    · refine v_tabIn 920 o dL_law_40 (by decide) (by decide) rfl (by decide) ?_
      exact lc_isLost hl o hX hbl hg hL (by omega) hS (by omega) (by omega) hround
    · refine v_tabIn 995 o dL_law_40 (by decide) (by decide) rfl (by decide) ?_
      exact lc_words hl o hX hbl hg hL (by omega) hS (by omega) (by omega) hround
    · refine v_tabIn 1067 o dL_law_40 (by decide) (by decide) rfl (by decide) ?_
      exact lc_order hl o hX hbl hg hL (by omega) hS (by omega) (by omega) hround
    · refine v_tabIn 1135 o dL_law_40 (by decide) (by decide) rfl (by decide) ?_
      exact lc_orderAnew hl o hX hbl hg hL (by omega) hS (by omega) (by omega) hround
    · refine v_tabIn 1203 o dL_law_40 (by decide) (by decide) rfl (by decide) ?_
      exact lc_gold hl o hX hbl hg hL (by omega) hS (by omega) (by omega) hround
    · refine v_tabIn 1295 o dL_law_40 (by decide) (by decide) rfl (by decide) ?_
      exact lc_key hl o hX hbl hg hL (by omega) hS (by omega) (by omega) hround
    · refine v_tabIn 1399 o dL_law_40 (by decide) (by decide) rfl (by decide) ?_
      exact lc_trust hl o hX hbl hg hL (by omega) hS (by omega) (by omega) hround
    · refine v_tabIn 1455 o dL_law_40 (by decide) (by decide) rfl (by decide) ?_
      exact lc_pay hl o hX hbl hg hL (by omega) hS (by omega) (by omega) hround
    · refine v_tabIn 1511 o dL_law_40 (by decide) (by decide) rfl (by decide) ?_
      exact lc_read hl o hX hbl hg hL (by omega) hS (by omega) (by omega) hround
    · refine v_tabIn 1591 o dL_law_40 (by decide) (by decide) rfl (by decide) ?_
      exact lc_doubt hl o hX hbl hg hL (by omega) hS (by omega) (by omega) hround
    · refine v_tabIn 1671 o dL_law_40 (by decide) (by decide) rfl (by decide) ?_
      exact lc_pass hl o hX hbl hg hL (by omega) hS (by omega) (by omega) hround
    · refine v_tabIn 1727 o dL_law_40 (by decide) (by decide) rfl (by decide) ?_
      exact lc_term hl o hX hbl hg hL (by omega) hS (by omega) (by omega) hround
    · refine v_tabIn 1795 o dL_law_40 (by decide) (by decide) rfl (by decide) ?_
      exact lc_died hl o hX hbl hg hL (by omega) hS (by omega) (by omega) hround
    · refine v_tabIn 1843 o dL_law_40 (by decide) (by decide) rfl (by decide) ?_
      exact lc_search hl o hX hbl hg hL (by omega) hS (by omega) (by omega) hround
    · refine v_tabIn 1906 o dL_law_40 (by decide) (by decide) rfl (by decide) ?_
      exact lc_takeDown hl o hX hbl hg hL (by omega) hS (by omega) (by omega) hround
    · refine v_tabIn 1997 o dL_law_40 (by decide) (by decide) rfl (by decide) ?_
      exact lc_whyNot hl o hX hbl hg hL (by omega) hS (by omega) (by omega) hround
    · refine v_tabIn 2077 o dL_law_40 (by decide) (by decide) rfl (by decide) ?_
      exact lc_about hl o hX hbl hg hL (by omega) hS (by omega) (by omega) hround
    · refine v_tabOut 2145 o dL_law_40 (by decide) (by decide) ?_
      refine v_widen (k + 122) (n + 584) (by omega) (by omega) ?_
      exact hround _ _ _ hS
    · refine v_tabOut 2145 o dL_law_40 (by decide) (by decide) ?_
      refine v_widen (k + 122) (n + 584) (by omega) (by omega) ?_
      exact hround _ _ _ hS
    · refine v_tabOut 2145 o dL_law_40 (by decide) (by decide) ?_
      refine v_widen (k + 122) (n + 584) (by omega) (by omega) ?_
      exact hround _ _ _ hS

