theorem CP.start {g : mG} {ci m : Nat} {μ : mM} {fs : List Value} : CP g ci m μ fs [] (up μ m (.inr (ci, fs))) := ⟨up_s, fun k e h => (by cases h), fun a ha => up_n (fun q => ha ⟨by omega, by rw [q]; exact Nat.lt_succ_self m⟩)⟩
set_option maxRecDepth 100000 in
set_option maxHeartbeats 4000000 in
theorem c_Trees {l : Launch} (hl : l.stackTraces = false) {g : mG} {a : Nat} {μ0 μ : mM} (hC : CP g 4 a μ0 [.null, .null, .null, .int 0] [] μ) : Ct l g yX4_init [Cond.code yX4_init cX4_init 1 none] { frames := 1, cells := 3, slots := 96, locals := 12 } [.ref a] μ (a + 1) (fun r μ' z' => r = none ∧ CP g 4 a μ0 [.ref (a + 1 + 0), .ref (a + 1 + 1), .ref (a + 1 + 2), .int 0] [.inl (g.2.1 2, aL 32 (fun _ => 0)), .inl (g.2.1 2, aL 32 (fun _ => 0)), .inl (g.2.1 1, aI 32 (fun _ => 0))] μ' ∧ z' = a + 4) (noX) := by
  refine Ct.of hl (by decide +kernel) (Nat.le_of_ble_eq_true rfl) ?_
  intro p e s mi args below meth c o hnm hr hx
  have o : Ok p l s mi args meth c g cX4_init 1 RX4 := o
  refine v_lv [(0, .ref a)] rfl ?_
  refine v_aload_n 0 o dX4_init_0 rfl rfl ?_
  refine v_objInit o dX4_init_1 ml_X4_1 im_obj co_obj (Nat.le_of_ble_eq_true rfl) (Nat.le_of_ble_eq_true rfl) ?_
  refine v_aload_n 0 o dX4_init_4 rfl rfl ?_
  refine v_bipush 32 o dX4_init_5 (by decide) ?_
  refine v_newL 32 o dX4_init_7 ac_long (by decide) (Nat.le_of_ble_eq_true rfl) (Nat.le_of_ble_eq_true rfl) ?_
  have hC1 := hC.new (.inl (g.2.1 2, aL 32 (fun _ => 0)))
  have hC1 : CP g 4 a μ0 [.null, .null, .null, .int 0] [.inl (g.2.1 2, aL 32 (fun _ => 0))] (up μ (a + 1) (.inl (g.2.1 2, aL 32 (fun _ => 0)))) := hC1
  generalize up μ (a + 1) (.inl (g.2.1 2, aL 32 (fun _ => 0))) = μ1 at hC1 ⊢
  refine v_putF [.ref (a + 1 + 0), .null, .null, .int 0] o dX4_init_9 cf4 0 (by decide) (by decide) (hnm.trans rfl) rfl fl_X4_9 hC1.1 rfl rfl (Nat.le_of_ble_eq_true rfl) rfl (fun μ2 e2 => ?_)
  have hC2 := hC1.put e2
  refine v_aload_n 0 o dX4_init_12 rfl rfl ?_
  refine v_bipush 32 o dX4_init_13 (by decide) ?_
  refine v_newL 32 o dX4_init_15 ac_long (by decide) (Nat.le_of_ble_eq_true rfl) (Nat.le_of_ble_eq_true rfl) ?_
  have hC3 := hC2.new (.inl (g.2.1 2, aL 32 (fun _ => 0)))
  have hC3 : CP g 4 a μ0 [.ref (a + 1 + 0), .null, .null, .int 0] [.inl (g.2.1 2, aL 32 (fun _ => 0)), .inl (g.2.1 2, aL 32 (fun _ => 0))] (up μ2 (a + 1 + 1) (.inl (g.2.1 2, aL 32 (fun _ => 0)))) := hC3
  generalize up μ2 (a + 1 + 1) (.inl (g.2.1 2, aL 32 (fun _ => 0))) = μ3 at hC3 ⊢
  refine v_putF [.ref (a + 1 + 0), .ref (a + 1 + 1), .null, .int 0] o dX4_init_17 cf4 1 (by decide) (by decide) (hnm.trans rfl) rfl fl_X4_13 hC3.1 rfl rfl (Nat.le_of_ble_eq_true rfl) rfl (fun μ4 e4 => ?_)
  have hC4 := hC3.put e4
  refine v_aload_n 0 o dX4_init_20 rfl rfl ?_
  refine v_bipush 32 o dX4_init_21 (by decide) ?_
  refine v_newZ 32 o dX4_init_23 ac_boolean (by decide) (Nat.le_of_ble_eq_true rfl) (Nat.le_of_ble_eq_true rfl) ?_
  have hC5 := hC4.new (.inl (g.2.1 1, aI 32 (fun _ => 0)))
  have hC5 : CP g 4 a μ0 [.ref (a + 1 + 0), .ref (a + 1 + 1), .null, .int 0] [.inl (g.2.1 2, aL 32 (fun _ => 0)), .inl (g.2.1 2, aL 32 (fun _ => 0)), .inl (g.2.1 1, aI 32 (fun _ => 0))] (up μ4 (a + 1 + 2) (.inl (g.2.1 1, aI 32 (fun _ => 0)))) := hC5
  generalize up μ4 (a + 1 + 1 + 1) (.inl (g.2.1 1, aI 32 (fun _ => 0))) = μ5 at hC5 ⊢
  refine v_putF [.ref (a + 1 + 0), .ref (a + 1 + 1), .ref (a + 1 + 2), .int 0] o dX4_init_25 cf4 2 (by decide) (by decide) (hnm.trans rfl) rfl fl_X4_16 hC5.1 rfl rfl (Nat.le_of_ble_eq_true rfl) rfl (fun μ6 e6 => ?_)
  have hC6 := hC5.put e6
  exact v_vret o dX4_init_28 hr (Nat.le_of_ble_eq_true rfl) (Nat.le_of_ble_eq_true rfl) ⟨rfl, hC6, rfl⟩

set_option maxRecDepth 100000 in
set_option maxHeartbeats 4000000 in
theorem c_PRow {l : Launch} (hl : l.stackTraces = false) {g : mG} {a : Nat} {μ0 μ : mM} (hC : CP g 3 a μ0 [.null] [] μ) : Ct l g yX3_init [Cond.code yX3_init cX3_init 1 none] { frames := 1, cells := 1, slots := 7, locals := 12 } [.ref a] μ (a + 1) (fun r μ' z' => r = none ∧ CP g 3 a μ0 [.ref (a + 1 + 0)] [.inl (g.2.1 0, aI 7 (fun _ => 0))] μ' ∧ z' = a + 2) (noX) := by
  refine Ct.of hl (by decide +kernel) (Nat.le_of_ble_eq_true rfl) ?_
  intro p e s mi args below meth c o hnm hr hx
  have o : Ok p l s mi args meth c g cX3_init 1 RX3 := o
  refine v_lv [(0, .ref a)] rfl ?_
  refine v_aload_n 0 o dX3_init_0 rfl rfl ?_
  refine v_objInit o dX3_init_1 ml_X3_3 im_obj co_obj (Nat.le_of_ble_eq_true rfl) (Nat.le_of_ble_eq_true rfl) ?_
  refine v_aload_n 0 o dX3_init_4 rfl rfl ?_
  refine v_bipush 7 o dX3_init_5 (by decide) ?_
  refine v_newI 7 o dX3_init_7 ac_int (by decide) (Nat.le_of_ble_eq_true rfl) (Nat.le_of_ble_eq_true rfl) ?_
  have hC1 := hC.new (.inl (g.2.1 0, aI 7 (fun _ => 0)))
  have hC1 : CP g 3 a μ0 [.null] [.inl (g.2.1 0, aI 7 (fun _ => 0))] (up μ (a + 1) (.inl (g.2.1 0, aI 7 (fun _ => 0)))) := hC1
  generalize up μ (a + 1) (.inl (g.2.1 0, aI 7 (fun _ => 0))) = μ1 at hC1 ⊢
  refine v_putF [.ref (a + 1 + 0)] o dX3_init_9 cf3 0 (by decide) (by decide) (hnm.trans rfl) rfl fl_X3_9 hC1.1 rfl rfl (Nat.le_of_ble_eq_true rfl) rfl (fun μ2 e2 => ?_)
  have hC2 := hC1.put e2
  exact v_vret o dX3_init_12 hr (Nat.le_of_ble_eq_true rfl) (Nat.le_of_ble_eq_true rfl) ⟨rfl, hC2, rfl⟩

set_option maxRecDepth 100000 in
set_option maxHeartbeats 4000000 in
theorem c_Scale {l : Launch} (hl : l.stackTraces = false) {g : mG} {a : Nat} {μ0 μ : mM} (hC : CP g 1 a μ0 [.null, .int 0] [] μ) : Ct l g yX1_init [Cond.code yX1_init cX1_init 1 none] { frames := 1, cells := 1, slots := 26, locals := 12 } [.ref a] μ (a + 1) (fun r μ' z' => r = none ∧ CP g 1 a μ0 [.ref (a + 1 + 0), .int 0] [.inl (g.2.1 0, aI 26 (fun _ => 0))] μ' ∧ z' = a + 2) (noX) := by
  refine Ct.of hl (by decide +kernel) (Nat.le_of_ble_eq_true rfl) ?_
  intro p e s mi args below meth c o hnm hr hx
  have o : Ok p l s mi args meth c g cX1_init 1 RX1 := o
  refine v_lv [(0, .ref a)] rfl ?_
  refine v_aload_n 0 o dX1_init_0 rfl rfl ?_
  refine v_objInit o dX1_init_1 ml_X1_3 im_obj co_obj (Nat.le_of_ble_eq_true rfl) (Nat.le_of_ble_eq_true rfl) ?_
  refine v_aload_n 0 o dX1_init_4 rfl rfl ?_
  refine v_bipush 26 o dX1_init_5 (by decide) ?_
  refine v_newI 26 o dX1_init_7 ac_int (by decide) (Nat.le_of_ble_eq_true rfl) (Nat.le_of_ble_eq_true rfl) ?_
  have hC1 := hC.new (.inl (g.2.1 0, aI 26 (fun _ => 0)))
  have hC1 : CP g 1 a μ0 [.null, .int 0] [.inl (g.2.1 0, aI 26 (fun _ => 0))] (up μ (a + 1) (.inl (g.2.1 0, aI 26 (fun _ => 0)))) := hC1
  generalize up μ (a + 1) (.inl (g.2.1 0, aI 26 (fun _ => 0))) = μ1 at hC1 ⊢
  refine v_putF [.ref (a + 1 + 0), .int 0] o dX1_init_9 cf1 0 (by decide) (by decide) (hnm.trans rfl) rfl fl_X1_9 hC1.1 rfl rfl (Nat.le_of_ble_eq_true rfl) rfl (fun μ2 e2 => ?_)
  have hC2 := hC1.put e2
  exact v_vret o dX1_init_12 hr (Nat.le_of_ble_eq_true rfl) (Nat.le_of_ble_eq_true rfl) ⟨rfl, hC2, rfl⟩

def τ0 : Sg := (fun _ _ => 0, fun _ _ => false, fun _ _ => 0, fun _ _ => 0)
set_option maxRecDepth 100000 in
set_option maxHeartbeats 4000000 in
theorem k_init {l : Launch} (hl : l.stackTraces = false) {g : mG} {a : Nat} {μ0 μ : mM} (hC : CP g 5 a μ0 [.null, .int 0, .int 0, .null, .null, .null, .null, .int 0, .null] [] μ) : Ct l g yX5_init [Cond.code yX5_init cX5_init 1 none] { frames := 2, cells := 11, slots := 232, locals := 32 } [.ref a] μ (a + 1) (fun r μ' z' => r = none ∧ RC g a (fun _ => 0) (a + 12) μ0 σ0 τ0 μ' ∧ z' = a + 12) (noX) := by
  refine Ct.of hl (by decide +kernel) (Nat.le_of_ble_eq_true rfl) ?_
  intro p e s mi args below meth c o hnm hr hx
  have o : Ok p l s mi args meth c g cX5_init 1 RX5 := o
  refine v_lv [(0, .ref a)] rfl ?_
  refine v_aload_n 0 o dX5_init_0 rfl rfl ?_
  refine v_objInit o dX5_init_1 ml_X5_1 im_obj co_obj (Nat.le_of_ble_eq_true rfl) (Nat.le_of_ble_eq_true rfl) ?_
  refine v_aload_n 0 o dX5_init_4 rfl rfl ?_
  refine v_bipush 6 o dX5_init_5 (by decide) ?_
  refine v_newQ (t0 := 4) 6 o dX5_init_7 cl_X5_9 o.2.2.2.2.1.2.2.2.1 rfl (by decide) (Nat.le_of_ble_eq_true rfl) (Nat.le_of_ble_eq_true rfl) ?_
  have hC1 : CP g 5 a μ0 [.null, .int 0, .int 0, .null, .null, .null, .null, .int 0, .null] [.inl (g.2.1 4, aQ 6 (fun _ => none))] (up μ (a + 1) (.inl (g.2.1 4, aQ 6 (fun _ => none)))) := hC.new (.inl (g.2.1 4, aQ 6 (fun _ => none)))
  generalize up μ (a + 1) (.inl (g.2.1 4, aQ 6 (fun _ => none))) = μ1 at hC1 ⊢
  refine v_putF [.ref (a + 1 + 0), .int 0, .int 0, .null, .null, .null, .null, .int 0, .null] o dX5_init_10 cf5 0 (by decide) (by decide) (hnm.trans rfl) rfl fl_X5_11 hC1.1 rfl rfl (Nat.le_of_ble_eq_true rfl) rfl (fun μ2 e2 => ?_)
  have hC2 := hC1.put e2
  refine v_aload_n 0 o dX5_init_13 rfl rfl ?_
  refine v_iconst 4 o dX5_init_14 rfl ?_
  refine v_newZ 4 o dX5_init_15 ac_boolean (by decide) (Nat.le_of_ble_eq_true rfl) (Nat.le_of_ble_eq_true rfl) ?_
  have hC3 := hC2.new (.inl (g.2.1 1, aI 4 (fun _ => 0)))
  have hC3 : CP g 5 a μ0 [.ref (a + 1 + 0), .int 0, .int 0, .null, .null, .null, .null, .int 0, .null] [.inl (g.2.1 4, aQ 6 (fun _ => none)), .inl (g.2.1 1, aI 4 (fun _ => 0))] (up μ2 (a + 1 + 1) (.inl (g.2.1 1, aI 4 (fun _ => 0)))) := hC3
  generalize up μ2 (a + 1 + 1) (.inl (g.2.1 1, aI 4 (fun _ => 0))) = μ3 at hC3 ⊢
  refine v_putF [.ref (a + 1 + 0), .int 0, .int 0, .ref (a + 1 + 1), .null, .null, .null, .int 0, .null] o dX5_init_17 cf5 3 (by decide) (by decide) (hnm.trans rfl) rfl fl_X5_15 hC3.1 rfl rfl (Nat.le_of_ble_eq_true rfl) rfl (fun μ4 e4 => ?_)
  have hC4 := hC3.put e4
  refine v_aload_n 0 o dX5_init_20 rfl rfl ?_
  refine v_new [.null, .null, .null, .int 0] o dX5_init_21 cf4 cl_X5_19 ins_X4 ini_X4 (fun j hj => by rcases (show j = 0 ∨ j = 1 ∨ j = 2 ∨ j = 3 by omega) with rfl | rfl | rfl | rfl <;> rfl) (Nat.le_of_ble_eq_true rfl) (Nat.le_of_ble_eq_true rfl) ?_
  have hS5 : CP g 4 (a + 1 + 1 + 1) μ4 [.null, .null, .null, .int 0] [] (up μ4 (a + 1 + 1 + 1) (.inr (4, [.null, .null, .null, .int 0]))) := CP.start
  generalize up μ4 (a + 1 + 1 + 1) (.inr (4, [.null, .null, .null, .int 0])) = μ5 at hS5 ⊢
  refine v_dup o dX5_init_24 rfl ?_
  refine v_callI (b := a + 1 + 1 + 1) [] [.ref (a + 1 + 1 + 1), .ref a] o dX5_init_25 cw_X5_21 rfl im_X4_init (c_Trees hl hS5) rfl rfl ⟨Nat.le_of_ble_eq_true rfl, Nat.le_of_ble_eq_true rfl⟩ ⟨Nat.le_of_ble_eq_true rfl, Nat.le_of_ble_eq_true rfl⟩ (Nat.le_of_ble_eq_true rfl) ?_ (fun _ _ _ _ h => h.elim)
  rintro _ μ6 _ _ ⟨rfl, hS6, rfl⟩
  have hC6 : CP g 5 a μ0 [.ref (a + 1 + 0), .int 0, .int 0, .ref (a + 1 + 1), .null, .null, .null, .int 0, .null] [.inl (g.2.1 4, aQ 6 (fun _ => none)), .inl (g.2.1 1, aI 4 (fun _ => 0)), .inr (4, [.ref ((a + 1 + 2) + 1 + 0), .ref ((a + 1 + 2) + 1 + 1), .ref ((a + 1 + 2) + 1 + 2), .int 0]), .inl (g.2.1 2, aL 32 (fun _ => 0)), .inl (g.2.1 2, aL 32 (fun _ => 0)), .inl (g.2.1 1, aI 32 (fun _ => 0))] μ6 := hC4.app rfl hS6
  refine v_st [.ref (a + 1 + 2), .ref a] rfl ?_
  refine v_putF [.ref (a + 1 + 0), .int 0, .int 0, .ref (a + 1 + 1), .ref (a + 1 + 2), .null, .null, .int 0, .null] o dX5_init_28 cf5 4 (by decide) (by decide) (hnm.trans rfl) rfl fl_X5_22 hC6.1 rfl rfl (Nat.le_of_ble_eq_true rfl) rfl (fun μ7 e7 => ?_)
  have hC7 := hC6.put e7
  refine v_aload_n 0 o dX5_init_31 rfl rfl ?_
  refine v_new [.null] o dX5_init_32 cf3 cl_X5_26 ins_X3 ini_X3 (fun j hj => by obtain rfl : j = 0 := (by omega); rfl) (Nat.le_of_ble_eq_true rfl) (Nat.le_of_ble_eq_true rfl) ?_
  have hS8 : CP g 3 (a + 1 + 1 + 1 + 1 + 1 + 1 + 1) μ7 [.null] [] (up μ7 (a + 1 + 1 + 1 + 1 + 1 + 1 + 1) (.inr (3, [.null]))) := CP.start
  generalize up μ7 (a + 1 + 1 + 1 + 1 + 1 + 1 + 1) (.inr (3, [.null])) = μ8 at hS8 ⊢
  refine v_dup o dX5_init_35 rfl ?_
  refine v_callI (b := a + 1 + 1 + 1 + 1 + 1 + 1 + 1) [] [.ref (a + 1 + 1 + 1 + 1 + 1 + 1 + 1), .ref a] o dX5_init_36 cw_X5_28 rfl im_X3_init (c_PRow hl hS8) rfl rfl ⟨Nat.le_of_ble_eq_true rfl, Nat.le_of_ble_eq_true rfl⟩ ⟨Nat.le_of_ble_eq_true rfl, Nat.le_of_ble_eq_true rfl⟩ (Nat.le_of_ble_eq_true rfl) ?_ (fun _ _ _ _ h => h.elim)
  rintro _ μ9 _ _ ⟨rfl, hS9, rfl⟩
  have hC9 : CP g 5 a μ0 [.ref (a + 1 + 0), .int 0, .int 0, .ref (a + 1 + 1), .ref (a + 1 + 2), .null, .null, .int 0, .null] [.inl (g.2.1 4, aQ 6 (fun _ => none)), .inl (g.2.1 1, aI 4 (fun _ => 0)), .inr (4, [.ref ((a + 1 + 2) + 1 + 0), .ref ((a + 1 + 2) + 1 + 1), .ref ((a + 1 + 2) + 1 + 2), .int 0]), .inl (g.2.1 2, aL 32 (fun _ => 0)), .inl (g.2.1 2, aL 32 (fun _ => 0)), .inl (g.2.1 1, aI 32 (fun _ => 0)), .inr (3, [.ref ((a + 1 + 6) + 1 + 0)]), .inl (g.2.1 0, aI 7 (fun _ => 0))] μ9 := hC7.app rfl hS9
  refine v_st [.ref (a + 1 + 6), .ref a] rfl ?_
  refine v_putF [.ref (a + 1 + 0), .int 0, .int 0, .ref (a + 1 + 1), .ref (a + 1 + 2), .ref (a + 1 + 6), .null, .int 0, .null] o dX5_init_39 cf5 5 (by decide) (by decide) (hnm.trans rfl) rfl fl_X5_29 hC9.1 rfl rfl (Nat.le_of_ble_eq_true rfl) rfl (fun μ10 e10 => ?_)
  have hC10 := hC9.put e10
  refine v_aload_n 0 o dX5_init_42 rfl rfl ?_
  refine v_new [.null, .int 0] o dX5_init_43 cf1 cl_X5_33 ins_X1 ini_X1 (fun j hj => by rcases (show j = 0 ∨ j = 1 by omega) with rfl | rfl <;> rfl) (Nat.le_of_ble_eq_true rfl) (Nat.le_of_ble_eq_true rfl) ?_
  have hS11 : CP g 1 (a + 1 + 1 + 1 + 1 + 1 + 1 + 1 + 1 + 1) μ10 [.null, .int 0] [] (up μ10 (a + 1 + 1 + 1 + 1 + 1 + 1 + 1 + 1 + 1) (.inr (1, [.null, .int 0]))) := CP.start
  generalize up μ10 (a + 1 + 1 + 1 + 1 + 1 + 1 + 1 + 1 + 1) (.inr (1, [.null, .int 0])) = μ11 at hS11 ⊢
  refine v_dup o dX5_init_46 rfl ?_
  refine v_callI (b := a + 1 + 1 + 1 + 1 + 1 + 1 + 1 + 1 + 1) [] [.ref (a + 1 + 1 + 1 + 1 + 1 + 1 + 1 + 1 + 1), .ref a] o dX5_init_47 cw_X5_35 rfl im_X1_init (c_Scale hl hS11) rfl rfl ⟨Nat.le_of_ble_eq_true rfl, Nat.le_of_ble_eq_true rfl⟩ ⟨Nat.le_of_ble_eq_true rfl, Nat.le_of_ble_eq_true rfl⟩ (Nat.le_of_ble_eq_true rfl) ?_ (fun _ _ _ _ h => h.elim)
  rintro _ μ12 _ _ ⟨rfl, hS12, rfl⟩
  have hC12 : CP g 5 a μ0 [.ref (a + 1 + 0), .int 0, .int 0, .ref (a + 1 + 1), .ref (a + 1 + 2), .ref (a + 1 + 6), .null, .int 0, .null] [.inl (g.2.1 4, aQ 6 (fun _ => none)), .inl (g.2.1 1, aI 4 (fun _ => 0)), .inr (4, [.ref ((a + 1 + 2) + 1 + 0), .ref ((a + 1 + 2) + 1 + 1), .ref ((a + 1 + 2) + 1 + 2), .int 0]), .inl (g.2.1 2, aL 32 (fun _ => 0)), .inl (g.2.1 2, aL 32 (fun _ => 0)), .inl (g.2.1 1, aI 32 (fun _ => 0)), .inr (3, [.ref ((a + 1 + 6) + 1 + 0)]), .inl (g.2.1 0, aI 7 (fun _ => 0)), .inr (1, [.ref ((a + 1 + 8) + 1 + 0), .int 0]), .inl (g.2.1 0, aI 26 (fun _ => 0))] μ12 := hC10.app rfl hS12
  refine v_st [.ref (a + 1 + 8), .ref a] rfl ?_
  refine v_putF [.ref (a + 1 + 0), .int 0, .int 0, .ref (a + 1 + 1), .ref (a + 1 + 2), .ref (a + 1 + 6), .ref (a + 1 + 8), .int 0, .null] o dX5_init_50 cf5 6 (by decide) (by decide) (hnm.trans rfl) rfl fl_X5_36 hC12.1 rfl rfl (Nat.le_of_ble_eq_true rfl) rfl (fun μ13 e13 => ?_)
  have hC13 := hC12.put e13
  refine v_aload_n 0 o dX5_init_53 rfl rfl ?_
  refine v_sipush 2000 o dX5_init_54 (by decide) ?_
  refine v_put [.ref (a + 1 + 0), .int 0, .int 0, .ref (a + 1 + 1), .ref (a + 1 + 2), .ref (a + 1 + 6), .ref (a + 1 + 8), .int (nI 2000), .null] o dX5_init_57 cf5 7 (by decide) (by decide) fl_X5_40 hC13.1 rfl rfl (Nat.le_of_ble_eq_true rfl) rfl (fun μ14 e14 => ?_)
  have hC14 := hC13.put e14
  refine v_aload_n 0 o dX5_init_60 rfl rfl ?_
  refine v_iconst 4 o dX5_init_61 rfl ?_
  refine v_newI 4 o dX5_init_62 ac_int (by decide) (Nat.le_of_ble_eq_true rfl) (Nat.le_of_ble_eq_true rfl) ?_
  have hC15 := hC14.new (.inl (g.2.1 0, aI 4 (fun _ => 0)))
  have hC15 : CP g 5 a μ0 [.ref (a + 1 + 0), .int 0, .int 0, .ref (a + 1 + 1), .ref (a + 1 + 2), .ref (a + 1 + 6), .ref (a + 1 + 8), .int (nI 2000), .null] [.inl (g.2.1 4, aQ 6 (fun _ => none)), .inl (g.2.1 1, aI 4 (fun _ => 0)), .inr (4, [.ref ((a + 1 + 2) + 1 + 0), .ref ((a + 1 + 2) + 1 + 1), .ref ((a + 1 + 2) + 1 + 2), .int 0]), .inl (g.2.1 2, aL 32 (fun _ => 0)), .inl (g.2.1 2, aL 32 (fun _ => 0)), .inl (g.2.1 1, aI 32 (fun _ => 0)), .inr (3, [.ref ((a + 1 + 6) + 1 + 0)]), .inl (g.2.1 0, aI 7 (fun _ => 0)), .inr (1, [.ref ((a + 1 + 8) + 1 + 0), .int 0]), .inl (g.2.1 0, aI 26 (fun _ => 0)), .inl (g.2.1 0, aI 4 (fun _ => 0))] (up μ14 (a + 1 + 10) (.inl (g.2.1 0, aI 4 (fun _ => 0)))) := hC15
  generalize up μ14 (a + 1 + 1 + 1 + 1 + 1 + 1 + 1 + 1 + 1 + 1 + 1) (.inl (g.2.1 0, aI 4 (fun _ => 0))) = μ15 at hC15 ⊢
  refine v_putF [.ref (a + 1 + 0), .int 0, .int 0, .ref (a + 1 + 1), .ref (a + 1 + 2), .ref (a + 1 + 6), .ref (a + 1 + 8), .int (nI 2000), .ref (a + 1 + 10)] o dX5_init_64 cf5 8 (by decide) (by decide) (hnm.trans rfl) rfl fl_X5_44 hC15.1 rfl rfl (Nat.le_of_ble_eq_true rfl) rfl (fun μ16 e16 => ?_)
  have hC16 := hC15.put e16
  refine v_aload_n 0 o dX5_init_67 rfl rfl ?_
  refine v_get (v := .ref (a + 1 + 10)) o dX5_init_68 cf5 8 (by decide) fl_X5_44 hC16.1 rfl ?_
  refine v_bipush 70 o dX5_init_71 (by decide) ?_
  refine v_callS [.ref (a + 1 + 10), .int (nI 70)] [] o dX5_init_73 cwf_X5_48 st_fill (c_fill (f := (fun _ => 0)) hl (nI 70) (by decide) (hC16.2.1 10 _ rfl)) rfl rfl (by decide) ⟨Nat.le_of_ble_eq_true rfl, Nat.le_of_ble_eq_true rfl⟩ (Nat.le_of_ble_eq_true rfl) ?_ (fun _ _ _ _ h => h.elim)
  rintro _ μ17 _ _ ⟨rfl, e17, rfl⟩
  have hC17 := hC16.ast (cs' := [.inl (g.2.1 4, aQ 6 (fun _ => none)), .inl (g.2.1 1, aI 4 (fun _ => 0)), .inr (4, [.ref ((a + 1 + 2) + 1 + 0), .ref ((a + 1 + 2) + 1 + 1), .ref ((a + 1 + 2) + 1 + 2), .int 0]), .inl (g.2.1 2, aL 32 (fun _ => 0)), .inl (g.2.1 2, aL 32 (fun _ => 0)), .inl (g.2.1 1, aI 32 (fun _ => 0)), .inr (3, [.ref ((a + 1 + 6) + 1 + 0)]), .inl (g.2.1 0, aI 7 (fun _ => 0)), .inr (1, [.ref ((a + 1 + 8) + 1 + 0), .int 0]), .inl (g.2.1 0, aI 26 (fun _ => 0)), .inl (g.2.1 0, aI 4 (fun i => if i < 4 then nI 70 else (fun _ => 0) i))]) 10 (Nat.le_of_ble_eq_true rfl) rfl e17
  refine v_st [] rfl ?_
  refine v_vret o dX5_init_76 hr (Nat.le_of_ble_eq_true rfl) (Nat.le_of_ble_eq_true rfl) ⟨rfl, ⟨fun k hk => ?_, fun i hi => absurd hi (Nat.not_lt_zero i), ⟨Nat.le_refl _, Nat.zero_le _, fun _ => Nat.zero_le _, fun i hi => absurd hi (Nat.not_lt_zero i), fun i k _ hk => absurd hk (Nat.not_lt_zero k)⟩, fun i hi => absurd hi (Nat.not_lt_zero i), fun q v hq hz hv => (hC17.2.2 q (fun w => hq ⟨w.1, w.2⟩)).trans hv⟩, rfl⟩
  rcases (show k = 0 ∨ k = 1 ∨ k = 2 ∨ k = 3 ∨ k = 4 ∨ k = 5 ∨ k = 6 ∨ k = 7 ∨ k = 8 ∨ k = 9 ∨ k = 10 ∨ k = 11 by omega) with rfl | rfl | rfl | rfl | rfl | rfl | rfl | rfl | rfl | rfl | rfl | rfl
  · exact hC17.1
  · exact (hC17.2.1 0 _ rfl).trans (congrArg (fun q => some (Sum.inl (g.2.1 4, aQ 6 q))) (funext fun i => (if_neg (Nat.not_lt_zero i)).symm))
  · exact hC17.2.1 1 _ rfl
  · exact hC17.2.1 2 _ rfl
  · exact hC17.2.1 3 _ rfl
  · exact hC17.2.1 4 _ rfl
  · exact hC17.2.1 5 _ rfl
  · exact hC17.2.1 6 _ rfl
  · exact hC17.2.1 7 _ rfl
  · exact hC17.2.1 8 _ rfl
  · exact hC17.2.1 9 _ rfl
  · refine (hC17.2.1 10 _ rfl).trans (congrArg (fun q => some (Sum.inl (g.2.1 0, aI 4 q))) (funext fun i => ?_))
    show (if i < 4 then nI 70 else (0 : Int32)) = (if (7 : Nat) = 8 ∧ i = 1 then nI 2000 else if (7 : Nat) = 7 ∧ i < 4 then nI 70 else (0 : Int32))
    by_cases q : i < 4 <;> simp [q]

