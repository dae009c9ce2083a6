set_option maxRecDepth 100000 in
set_option maxHeartbeats 4000000 in
theorem law_start {p : Program} {l : Launch} {e : Env} {s : State} {mi : MethodId} {args : Array Value} {below : List Frame} {meth : Method} {c : Code} {Q : State → Prop} {g : mG} {bb L z : Nat} {xs : Nat → Int32} {μ : mM} (hl : l.stackTraces = false) (o : Ok p l s mi args meth c g cL_law 8 RL) (hX : va_X bb L xs s s.heap) (hbl : bb < s.heap.size) (hg : g.2.2 = s.heap.size) (hL : L ≤ 3072)
    (kend : ∀ (i : Nat) (μ' : mM) (z' k' n' : Nat), k' ≤ 601024 → n' ≤ 7293034 → V p l e room_1 s mi args below meth c Q g μ' z' k' n' 2151 [(0, .ref bb), (1, .ref z), (2, .ref (z + 12)), (3, .ref (z + 38)), (4, .int (nI i))] []) : V p l e room_1 s mi args below meth c Q g μ z 0 0 0 [(0, .ref bb)] [] := by
  refine v_new [.null, .int 0, .int 0, .null, .null, .null, .null, .int 0, .null] o dL_law_0 cf5 cl_L_8 ins_X5 ini_X5 (fun j hj => by rcases (show j = 0 ∨ j = 1 ∨ j = 2 ∨ j = 3 ∨ j = 4 ∨ j = 5 ∨ j = 6 ∨ j = 7 ∨ j = 8 by omega) with rfl | rfl | rfl | rfl | rfl | rfl | rfl | rfl | rfl <;> rfl) (Nat.le_of_ble_eq_true rfl) (Nat.le_of_ble_eq_true rfl) ?_
  refine v_dup o dL_law_3 rfl ?_
  refine v_callI (b := z) [] [.ref z] o dL_law_4 cw_L_107 rfl im_X5_init (k_init hl CP.start) rfl rfl ⟨Nat.le_of_ble_eq_true rfl, Nat.le_of_ble_eq_true rfl⟩ ⟨Nat.le_of_ble_eq_true rfl, Nat.le_of_ble_eq_true rfl⟩ (Nat.le_of_ble_eq_true rfl) ?_ (fun _ _ _ _ h => h.elim)
  rintro _ μ1 z1 hz1 ⟨rfl, hR, rfl⟩
  refine v_st [.ref z] rfl ?_
  refine v_astore_n [(1, .ref z), (0, .ref bb)] o dL_law_7 rfl (by decide) rfl ?_
  refine v_new [.int 0, .int 0, .null, .null, .null, .null, .null, .null, .null, .null, .int 0, .null, .null, .null, .null, .null, .null, .null, .null, .null, .null, .null, .null, .int 0, .null, .null, .null, .int 0, .null, .null] o dL_law_8 cf6 cl_L_108 ins_X6 ini_X6 (fun j hj => by rcases (show j = 0 ∨ j = 1 ∨ j = 2 ∨ j = 3 ∨ j = 4 ∨ j = 5 ∨ j = 6 ∨ j = 7 ∨ j = 8 ∨ j = 9 ∨ j = 10 ∨ j = 11 ∨ j = 12 ∨ j = 13 ∨ j = 14 ∨ j = 15 ∨ j = 16 ∨ j = 17 ∨ j = 18 ∨ j = 19 ∨ j = 20 ∨ j = 21 ∨ j = 22 ∨ j = 23 ∨ j = 24 ∨ j = 25 ∨ j = 26 ∨ j = 27 ∨ j = 28 ∨ j = 29 by omega) with rfl | rfl | rfl | rfl | rfl | rfl | rfl | rfl | rfl | rfl | rfl | rfl | rfl | rfl | rfl | rfl | rfl | rfl | rfl | rfl | rfl | rfl | rfl | rfl | rfl | rfl | rfl | rfl | rfl | rfl <;> rfl) (Nat.le_of_ble_eq_true rfl) (Nat.le_of_ble_eq_true rfl) ?_
  refine v_dup o dL_law_11 rfl ?_
  refine v_callI (b := z + 12) [] [.ref (z + 12)] o dL_law_12 cw_L_110 rfl im_X6_init (m_init hl CP.start) rfl rfl ⟨Nat.le_of_ble_eq_true rfl, Nat.le_of_ble_eq_true rfl⟩ ⟨Nat.le_of_ble_eq_true rfl, Nat.le_of_ble_eq_true rfl⟩ (Nat.le_of_ble_eq_true rfl) ?_ (fun _ _ _ _ h => h.elim)
  rintro _ μ2 z2 hz2 ⟨rfl, hM, rfl⟩
  refine v_st [.ref (z + 12)] rfl ?_
  refine v_astore_n [(2, .ref (z + 12)), (1, .ref z), (0, .ref bb)] o dL_law_15 rfl (by decide) rfl ?_
  refine v_iconst 1 o dL_law_16 rfl ?_
  refine v_newL 1 o dL_law_17 ac_long (by decide) (Nat.le_of_ble_eq_true rfl) (Nat.le_of_ble_eq_true rfl) ?_
  refine v_astore_n [(3, .ref (z + 38)), (2, .ref (z + 12)), (1, .ref z), (0, .ref bb)] o dL_law_19 rfl (by decide) rfl ?_
  refine v_iconst 0 o dL_law_20 rfl ?_
  refine v_istore [(4, .int (nI 0)), (3, .ref (z + 38)), (2, .ref (z + 12)), (1, .ref z), (0, .ref bb)] o dL_law_21 (by decide) rfl ?_
  refine v_sub [(0, .ref bb), (1, .ref z), (2, .ref (z + 12)), (3, .ref (z + 38)), (4, .int (nI 0))] [4, 3, 2, 1, 0] rfl ?_
  refine v_widen 100 1000000 (Nat.le_of_ble_eq_true rfl) (Nat.le_of_ble_eq_true rfl) ?_
  refine law_loop hl o hX hbl hg hL kend 512 0 (z + 39) 100 1000000 σ0 _ ⟨Inv_0, hM.keep (fun k hk => up_n (by omega)), ⟨fun _ => 0, τ0, fun k hk => ?_, fun i hi => absurd hi (Nat.not_lt_zero i), ⟨by omega, Nat.zero_le _, fun _ => Nat.zero_le _, fun i hi => absurd hi (Nat.not_lt_zero i), fun i k _ hk => absurd hk (Nat.not_lt_zero k)⟩, fun _ _ _ => rfl⟩, ⟨_, up_s⟩, Nat.le_refl _⟩ (by omega) (by omega) (by decide) (by decide)
  exact (up_n (by omega)).trans ((hM.2 _ (by omega)).trans (hR.1 k hk))
