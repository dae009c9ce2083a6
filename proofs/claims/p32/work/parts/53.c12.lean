theorem chN_ok {n : Nat} (h1 : 1 ≤ n) (h7 : n ≤ 7) : chNA n = true := by
  rcases (show n = 1 ∨ n = 2 ∨ n = 3 ∨ n = 4 ∨ n = 5 ∨ n = 6 ∨ n = 7 by omega) with rfl | rfl | rfl | rfl | rfl | rfl | rfl
  · exact chN_1
  · exact chN_2
  · exact chN_3
  · exact chN_4
  · exact chN_5
  · exact chN_6
  · exact chN_7
theorem chN_c {n : Nat} {L : List Nat} {rest : List (List Nat)} (h : chN n (L :: rest) = true) : L.length = n ∧ ltL n L = true ∧ stpB n L rest = true ∧ chN n rest = true := by
  have h1 : (Nat.beq L.length n && (ltL n L && (stpB n L rest && chN n rest))) = true := h
  rw [Bool.and_eq_true, Bool.and_eq_true, Bool.and_eq_true] at h1
  exact ⟨Nat.eq_of_beq_eq_true h1.1, h1.2.1, h1.2.2.1, h1.2.2.2⟩
theorem hdE_c {L : List Nat} {l : List (List Nat)} (h : hdE L l = true) : ∃ rest, l = L :: rest := by
  cases l with
  | nil => cases h
  | cons M rest => exact ⟨rest, by rw [eqL_eq L M h]⟩
theorem nx_list {n : Nat} (hn : 0 < n) {τ : Sg} {L : List Nat} {rest : List (List Nat)} (hm : mr τ L) (hl : L.length = n) (h : stpB n L rest = true) : (rest = [] ∧ nxF n (τ.1 0) = none) ∨ ∃ L2 r2, rest = L2 :: r2 ∧ ∃ f1, nxF n (τ.1 0) = some f1 ∧ ∀ τ' : Sg, τ'.1 0 = f1 → mr τ' L2 := by
  have ha : agr n (τ.1 0) (rowAt L) := fun j hj => mr_at L j hm (by rw [hl]; exact hj)
  unfold stpB at h
  cases hq : nxF n (rowAt L) with
  | none =>
    rw [hq] at h
    cases rest with
    | nil => exact Or.inl ⟨rfl, nxF_none hn ha hq⟩
    | cons L2 r2 => cases h
  | some f =>
    rw [hq] at h
    obtain ⟨r2, hr⟩ := hdE_c h
    obtain ⟨f1, hf1, hf⟩ := nxF_some hn ha hq
    exact Or.inr ⟨_, r2, hr, f1, hf1, fun τ' e => mr_tab n (fun j hj => by rw [e]; exact hf j hj)⟩
set_option maxRecDepth 100000 in
set_option maxHeartbeats 4000000 in
theorem c_allRows {l : Launch} (hl : l.stackTraces = false) {g : mG} {x z z0 : Nat} {B : Nat → Nat} {μ0 μ : mM} {σ τ : Sg} (hR : RC g x B z0 μ0 σ τ μ) (i : Nat) (hi : i < σ.1 3 0) (h1 : 1 ≤ σ.1 0 i) (h7 : σ.1 0 i ≤ 7) : Ct l g yX3_findByAllRows [Cond.code yX3_findByAllRows cX3_findByAllRows 4 (some .boolean)] { frames := 2, cells := 0, slots := 0, locals := 48 } [.ref (x + 7), .ref (B i + 1)] μ z (fun r μ' z' => (∃ τ', RC g x B z0 μ0 σ τ' μ' ∧ ((∃ L, ordL σ i = some L ∧ r = some (.int (bI true)) ∧ mr τ' L) ∨ (ordL σ i = none ∧ r = some (.int (bI false))))) ∧ z = z') (noX) := by
  refine Ct.of hl (by decide +kernel) (Nat.le_of_ble_eq_true rfl) ?_
  intro p e s mi args below meth c o hnm hr hx
  have o : Ok p l s mi args meth c g cX3_findByAllRows 4 RX3 := o
  refine v_lv [(0, .ref (x + 7)), (1, .ref (B i + 1))] rfl ?_
  have M : ∀ (rest : List (List Nat)) (L : List Nat) (t : Nat) (τq : Sg) (μq : mM), t + (lenL rest + 1) ≤ 5040 → RC g x B z0 μ0 σ τq μq → mr τq L → chN (σ.1 0 i) (L :: rest) = true → ordL σ i = (L :: rest).find? (chL (Rn σ i)) → V p l e { frames := 2, cells := 0, slots := 0, locals := 48 } s mi args below meth c (vx_MQ below (cQc g (fun r μ' z' => (∃ τ', RC g x B z0 μ0 σ τ' μ' ∧ ((∃ L, ordL σ i = some L ∧ r = some (.int (bI true)) ∧ mr τ' L) ∨ (ordL σ i = none ∧ r = some (.int (bI false))))) ∧ z = z')) (cXC g (noX)) args s ({ frames := 2, cells := 0, slots := 0, locals := 48 } : Room).cells ({ frames := 2, cells := 0, slots := 0, locals := 48 } : Room).slots (gA g)) g μq z 0 0 36 [(0, .ref (x + 7)), (1, .ref (B i + 1)), (2, .int (nI (σ.1 0 i))), (3, .int (nI t))] [] := by
    intro rest
    induction rest with
    | nil =>
      intro L t τq μq ht hRq hm hch hO
      have hc := chN_c hch
      have hv : ∀ j, j < σ.1 0 i → τq.1 0 j < σ.1 0 i := fun j hj => ltL_at L hc.2.1 hm j (by rw [hc.1]; exact hj)
      have ht1 : t < 5040 := by have : t + (0 + 1) ≤ 5040 := ht; omega
      refine v_iload_n 3 o dX3_findByAllRows_36 rfl rfl ?_
      refine v_sipush 5040 o dX3_findByAllRows_37 (by decide) ?_
      refine v_icmp_ge_n 69 o dX3_findByAllRows_40 (by decide) (by omega) (by decide) (fun c40 => absurd c40 (by omega)) (fun c40 => ?_)
      refine v_aload_n 0 o dX3_findByAllRows_43 rfl rfl ?_
      refine v_aload_n 1 o dX3_findByAllRows_44 rfl rfl ?_
      refine v_callVr (v := .int (bI (chF (Rn σ i) (τq.1 0) (σ.1 0 i - 1)))) [.ref (B i + 1)] [] o dX3_findByAllRows_45 cw_X3_23 im_X3_isOrderOf se_X3_isOrderOf cf3 hRq.h7 (c_isOrder hl hRq i hi h1 h7 hv) rfl rfl (by decide) ⟨rfl, rfl⟩ (by decide) (Nat.le_of_ble_eq_true rfl) ?_
      refine v_top (bI (chL (Rn σ i) L)) (by rw [chL_chF L hm, hc.1]) ?_
      refine v_if_eq_b 53 o dX3_findByAllRows_48 (by decide) (fun c48 => ?_) (fun c48 => ?_)
      · refine v_aload_n 0 o dX3_findByAllRows_53 rfl rfl ?_
        refine v_iload_n 2 o dX3_findByAllRows_54 rfl rfl ?_
        refine v_callV [.int (nI (σ.1 0 i))] [] o dX3_findByAllRows_55 cw_X3_27 im_X3_stepToNextRow se_X3_stepToNextRow cf3 hRq.h7 (c_next hl hRq (σ.1 0 i) h1 h7 hv) rfl rfl (by decide) (by decide) (Nat.le_of_ble_eq_true rfl) ?_ (fun _ _ _ _ h => h.elim)
        rintro _ μ9 _ _ ⟨⟨τ9, hR9, (⟨hN, rfl⟩ | ⟨hS, rfl⟩)⟩, rfl⟩
        · refine v_st [.int (bI false)] rfl ?_
          refine v_if_ne_b 63 o dX3_findByAllRows_58 (by decide) (fun c58 => absurd c58 (by simp_all)) (fun c58 => ?_)
          refine v_iconst 0 o dX3_findByAllRows_61 rfl ?_
          exact v_zret o dX3_findByAllRows_62 hr (by decide) (Nat.le_of_ble_eq_true rfl) (Nat.le_of_ble_eq_true rfl) ⟨⟨_, hR9, Or.inr ⟨hO.trans (List.find?_cons_of_neg (by rw [c48]; decide)), rfl⟩⟩, rfl⟩
        · rcases nx_list (by omega) hm hc.1 hc.2.2.1 with ⟨e1, e2⟩ | ⟨L2, r2, e1, f1, e2, -⟩
          · rw [e2] at hS; cases hS
          · cases e1
      · refine v_iconst 1 o dX3_findByAllRows_51 rfl ?_
        exact v_zret o dX3_findByAllRows_52 hr (by decide) (Nat.le_of_ble_eq_true rfl) (Nat.le_of_ble_eq_true rfl) ⟨⟨_, hRq, Or.inl ⟨L, hO.trans (List.find?_cons_of_pos c48), rfl, hm⟩⟩, rfl⟩
    | cons M rest ih =>
      intro L t τq μq ht hRq hm hch hO
      have hc := chN_c hch
      have hv : ∀ j, j < σ.1 0 i → τq.1 0 j < σ.1 0 i := fun j hj => ltL_at L hc.2.1 hm j (by rw [hc.1]; exact hj)
      have ht1 : t < 5040 := by have : t + (lenL rest + 1 + 1) ≤ 5040 := ht; omega
      refine v_iload_n 3 o dX3_findByAllRows_36 rfl rfl ?_
      refine v_sipush 5040 o dX3_findByAllRows_37 (by decide) ?_
      refine v_icmp_ge_n 69 o dX3_findByAllRows_40 (by decide) (by omega) (by decide) (fun c40 => absurd c40 (by omega)) (fun c40 => ?_)
      refine v_aload_n 0 o dX3_findByAllRows_43 rfl rfl ?_
      refine v_aload_n 1 o dX3_findByAllRows_44 rfl rfl ?_
      refine v_callVr (v := .int (bI (chF (Rn σ i) (τq.1 0) (σ.1 0 i - 1)))) [.ref (B i + 1)] [] o dX3_findByAllRows_45 cw_X3_23 im_X3_isOrderOf se_X3_isOrderOf cf3 hRq.h7 (c_isOrder hl hRq i hi h1 h7 hv) rfl rfl (by decide) ⟨rfl, rfl⟩ (by decide) (Nat.le_of_ble_eq_true rfl) ?_
      refine v_top (bI (chL (Rn σ i) L)) (by rw [chL_chF L hm, hc.1]) ?_
      refine v_if_eq_b 53 o dX3_findByAllRows_48 (by decide) (fun c48 => ?_) (fun c48 => ?_)
      · refine v_aload_n 0 o dX3_findByAllRows_53 rfl rfl ?_
        refine v_iload_n 2 o dX3_findByAllRows_54 rfl rfl ?_
        refine v_callV [.int (nI (σ.1 0 i))] [] o dX3_findByAllRows_55 cw_X3_27 im_X3_stepToNextRow se_X3_stepToNextRow cf3 hRq.h7 (c_next hl hRq (σ.1 0 i) h1 h7 hv) rfl rfl (by decide) (by decide) (Nat.le_of_ble_eq_true rfl) ?_ (fun _ _ _ _ h => h.elim)
        rintro _ μ9 _ _ ⟨⟨τ9, hR9, (⟨hN, rfl⟩ | ⟨hS, rfl⟩)⟩, rfl⟩
        · rcases nx_list (by omega) hm hc.1 hc.2.2.1 with ⟨e1, e2⟩ | ⟨L2, r2, e1, f1, e2, -⟩
          · cases e1
          · rw [e2] at hN; cases hN
        · refine v_st [.int (bI true)] rfl ?_
          refine v_if_ne_b 63 o dX3_findByAllRows_58 (by decide) (fun c58 => ?_) (fun c58 => absurd c58 (by simp_all))
          refine v_iinc (nI (t + 1)) [(3, .int (nI (t + 1))), (0, .ref (x + 7)), (1, .ref (B i + 1)), (2, .int (nI (σ.1 0 i)))] o dX3_findByAllRows_63 3 rfl (iinc_n t 1) (by decide) rfl ?_
          refine v_goto 36 o dX3_findByAllRows_66 (by decide) ?_
          have hm9 : mr τ9 M := by
            rcases nx_list (by omega) hm hc.1 hc.2.2.1 with ⟨e1, e2⟩ | ⟨L2, r2, e1, f1, e2, e3⟩
            · cases e1
            · cases e1
              rw [hS] at e2
              exact e3 τ9 (Option.some.inj e2)
          refine v_sub [(0, .ref (x + 7)), (1, .ref (B i + 1)), (2, .int (nI (σ.1 0 i))), (3, .int (nI (t + 1)))] [1, 2, 3, 0] rfl ?_
          exact ih M (t + 1) _ _ (by have : t + (lenL rest + 1 + 1) ≤ 5040 := ht; omega) hR9 hm9 hc.2.2.2 (hO.trans (List.find?_cons_of_neg (by rw [c48]; decide)))
      · refine v_iconst 1 o dX3_findByAllRows_51 rfl ?_
        exact v_zret o dX3_findByAllRows_52 hr (by decide) (Nat.le_of_ble_eq_true rfl) (Nat.le_of_ble_eq_true rfl) ⟨⟨_, hRq, Or.inl ⟨L, hO.trans (List.find?_cons_of_pos c48), rfl, hm⟩⟩, rfl⟩
  have hA := chN_ok h1 h7
  unfold chNA at hA
  rw [Bool.and_eq_true, Bool.and_eq_true] at hA
  obtain ⟨rest, hrest⟩ := hdE_c hA.2.1
  have hlen : lenL rest + 1 ≤ 5040 := by have := Nat.le_of_ble_eq_true hA.2.2; rw [hrest] at this; exact this
  have hch : chN (σ.1 0 i) (tab (fun i => i) (σ.1 0 i) :: rest) = true := by rw [← hrest]; exact hA.1
  have hO : ordL σ i = (tab (fun i => i) (σ.1 0 i) :: rest).find? (chL (Rn σ i)) := by rw [← hrest]; exact dfs_find (σ.1 0 i) [] rfl
  have I : ∀ (d k : Nat) (τq : Sg) (μq : mM), k + d = σ.1 0 i → RC g x B z0 μ0 σ τq μq → (∀ j, j < k → τq.1 0 j = j) → V p l e { frames := 2, cells := 0, slots := 0, locals := 48 } s mi args below meth c (vx_MQ below (cQc g (fun r μ' z' => (∃ τ', RC g x B z0 μ0 σ τ' μ' ∧ ((∃ L, ordL σ i = some L ∧ r = some (.int (bI true)) ∧ mr τ' L) ∨ (ordL σ i = none ∧ r = some (.int (bI false))))) ∧ z = z')) (cXC g (noX)) args s ({ frames := 2, cells := 0, slots := 0, locals := 48 } : Room).cells ({ frames := 2, cells := 0, slots := 0, locals := 48 } : Room).slots (gA g)) g μq z 0 0 16 [(0, .ref (x + 7)), (1, .ref (B i + 1)), (2, .int (nI (σ.1 0 i))), (3, .int (nI k))] [] := by
    intro d
    induction d with
    | zero =>
      intro k τq μq hk hRq hid
      refine v_iload_n 3 o dX3_findByAllRows_16 rfl rfl ?_
      refine v_iload_n 2 o dX3_findByAllRows_17 rfl rfl ?_
      refine v_icmp_ge_n 34 o dX3_findByAllRows_18 (by decide) (by omega) (by omega) (fun c18 => ?_) (fun c18 => absurd c18 (by omega))
      refine v_iconst 0 o dX3_findByAllRows_34 rfl ?_
      refine v_istore_n [(3, .int (nI 0)), (0, .ref (x + 7)), (1, .ref (B i + 1)), (2, .int (nI (σ.1 0 i)))] o dX3_findByAllRows_35 rfl (by decide) rfl ?_
      refine v_sub [(0, .ref (x + 7)), (1, .ref (B i + 1)), (2, .int (nI (σ.1 0 i))), (3, .int (nI 0))] [1, 2, 3, 0] rfl ?_
      exact M rest _ 0 _ _ (by omega) hRq (mr_tab _ (fun j hj => hid j (by omega))) hch hO
    | succ d ih =>
      intro k τq μq hk hRq hid
      refine v_iload_n 3 o dX3_findByAllRows_16 rfl rfl ?_
      refine v_iload_n 2 o dX3_findByAllRows_17 rfl rfl ?_
      refine v_icmp_ge_n 34 o dX3_findByAllRows_18 (by decide) (by omega) (by omega) (fun c18 => absurd c18 (by omega)) (fun c18 => ?_)
      refine v_aload_n 0 o dX3_findByAllRows_21 rfl rfl ?_
      refine v_get (v := .ref (x + 8)) o dX3_findByAllRows_22 cf3 0 (by decide) fl_X3_9 hRq.h7 rfl ?_
      refine v_iload_n 3 o dX3_findByAllRows_25 rfl rfl ?_
      refine v_iload_n 3 o dX3_findByAllRows_26 rfl rfl ?_
      refine v_iast o dX3_findByAllRows_27 (by omega) (by decide) hRq.h8 (fun μ1 e1 => ?_)
      have hR1 := hRq.u_row (k0 := k) (v := k) e1
      refine v_iinc (nI (k + 1)) [(3, .int (nI (k + 1))), (0, .ref (x + 7)), (1, .ref (B i + 1)), (2, .int (nI (σ.1 0 i)))] o dX3_findByAllRows_28 3 rfl (iinc_n k 1) (by decide) rfl ?_
      refine v_goto 16 o dX3_findByAllRows_31 (by decide) ?_
      refine v_sub [(0, .ref (x + 7)), (1, .ref (B i + 1)), (2, .int (nI (σ.1 0 i))), (3, .int (nI (k + 1)))] [1, 2, 3, 0] rfl ?_
      exact ih (k + 1) _ _ (by omega) hR1 (fun j hj => by
        show u2 τq.1 0 k k 0 j = j
        by_cases q : j = k
        · subst q; exact u2_s
        · rw [u2_i q]; exact hid j (by omega))
  refine v_aload_n 1 o dX3_findByAllRows_0 rfl rfl ?_
  refine v_alen (t0 := 3) o dX3_findByAllRows_1 rfl (hR.ps hi) ?_
  refine v_top (nI (σ.1 0 i)) rfl ?_
  refine v_istore_n [(2, .int (nI (σ.1 0 i))), (0, .ref (x + 7)), (1, .ref (B i + 1))] o dX3_findByAllRows_2 rfl (by decide) rfl ?_
  refine v_iload_n 0 o dX3_findByAllRows_3 rfl rfl ?_
  refine v_aload_n 1 o dX3_findByAllRows_4 rfl rfl ?_
  refine v_get (v := .ref (x + 8)) o dX3_findByAllRows_5 cf3 0 (by decide) fl_X3_9 hR.h7 rfl ?_
  refine v_alen (t0 := 0) o dX3_findByAllRows_8 rfl hR.h8 ?_
  refine v_top (nI 7) rfl ?_
  refine v_icmp_le_n 14 o dX3_findByAllRows_9 (by decide) (by omega) (by decide) (fun c9 => ?_) (fun c9 => absurd c9 (by omega))
  refine v_iconst 0 o dX3_findByAllRows_14 rfl ?_
  refine v_istore_n [(3, .int (nI 0)), (2, .int (nI (σ.1 0 i))), (0, .ref (x + 7)), (1, .ref (B i + 1))] o dX3_findByAllRows_15 rfl (by decide) rfl ?_
  refine v_sub [(0, .ref (x + 7)), (1, .ref (B i + 1)), (2, .int (nI (σ.1 0 i))), (3, .int (nI 0))] [2, 3, 1, 0] rfl ?_
  exact I (σ.1 0 i) 0 _ _ (by omega) hR (fun j hj => absurd hj (Nat.not_lt_zero j))

