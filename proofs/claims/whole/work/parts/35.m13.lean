/-! things in the making: an object at m, and cells behind it -/
def CP (g : mG) (ci m : Nat) (μ0 : mM) (fs : List Value) (cs : List va_E) (μ : mM) : Prop := μ m = some (.inr (ci, fs)) ∧ (∀ k e, cs[k]? = some e → μ (m + 1 + k) = some e) ∧ ∀ a, ¬ (m ≤ a ∧ a < m + 1 + cs.length) → μ a = μ0 a
theorem CP.new {g : mG} {ci m : Nat} {μ0 μ : mM} {fs : List Value} {cs : List va_E} (h : CP g ci m μ0 fs cs μ) (e : va_E) : CP g ci m μ0 fs (cs ++ [e]) (up μ (m + 1 + cs.length) e) := by
  refine ⟨?_, fun k x hx => ?_, fun a ha => ?_⟩
  · rw [up_n (by omega)]
    exact h.1
  · by_cases q : k < cs.length
    · rw [List.getElem?_append_left q] at hx
      rw [up_n (by omega)]
      exact h.2.1 k x hx
    · rw [List.getElem?_append_right (by omega)] at hx
      have h0 : k - cs.length < 1 := (List.getElem?_eq_some_iff.mp hx).1
      rw [show k - cs.length = 0 by omega] at hx
      cases hx
      rw [show k = cs.length by omega, up_s]
  · rw [List.length_append, List.length_singleton] at ha
    rw [up_n (by omega)]
    exact h.2.2 a (by omega)
theorem CP.put {g : mG} {ci m : Nat} {μ0 μ μ1 : mM} {fs fs' : List Value} {cs : List va_E} (h : CP g ci m μ0 fs cs μ) (e : μ1 = up μ m (.inr (ci, fs'))) : CP g ci m μ0 fs' cs μ1 := by
  subst e
  refine ⟨up_s, fun k x hx => ?_, fun a ha => ?_⟩
  · rw [up_n (by omega)]
    exact h.2.1 k x hx
  · rw [up_n (by omega)]
    exact h.2.2 a ha
theorem CP.ast {g : mG} {ci m : Nat} {μ0 μ μ1 : mM} {fs : List Value} {cs cs' : List va_E} {x : va_E} (h : CP g ci m μ0 fs cs μ) (k : Nat) (hk : k < cs.length) (hs : cs.set k x = cs') (e : μ1 = up μ (m + 1 + k) x) : CP g ci m μ0 fs cs' μ1 := by
  subst e
  subst hs
  refine ⟨?_, fun j y hy => ?_, fun a ha => ?_⟩
  · rw [up_n (by omega)]
    exact h.1
  · by_cases q : j = k
    · subst q
      rw [List.getElem?_set_self hk] at hy
      cases hy
      exact up_s
    · rw [List.getElem?_set_ne (Ne.symm q)] at hy
      rw [up_n (by omega)]
      exact h.2.1 j y hy
  · rw [List.length_set] at ha
    rw [up_n (by omega)]
    exact h.2.2 a ha
def σ0 : Sg := (fun k _ => if k = 5 then 1 else 0, fun _ _ => false, fun k i => if k = 8 ∧ i = 1 then nI 2000 else if k = 7 ∧ i < 4 then nI 70 else 0, fun _ _ => 0)
theorem Inv_0 : Inv σ0 := ⟨Nat.zero_le _, fun _ => Nat.zero_le _, fun _ => Nat.zero_le _, fun _ => Nat.zero_le _, fun b h => absurd h (Nat.not_lt_zero _), ⟨fun b _ h => ⟨rfl, rfl, rfl⟩, fun b p _ _ _ => ⟨⟨rfl, rfl, rfl, rfl, rfl, rfl⟩, fun _ _ => ⟨rfl, rfl⟩, fun _ _ => ⟨rfl, fun _ _ => rfl⟩⟩⟩⟩
set_option maxRecDepth 100000 in
set_option maxHeartbeats 8000000 in
theorem m_init {l : Launch} (hl : l.stackTraces = false) {g : mG} {m : Nat} {μ0 μ : mM} (hC : CP g 6 m μ0 [.int 0, .int 0, .null, .null, .null, .null, .null, .null, .null, .null, .int 0, .null, .null, .null, .null, .null, .null, .null, .null, .null, .null, .null, .null, .int 0, .null, .null, .null, .int 0, .null, .null] [] μ) : Ct l g yX6_init [Cond.code yX6_init cX6_init 1 none] { frames := 1, cells := 25, slots := 2902, locals := 12 } [.ref m] μ (m + 1) (fun r μ' z' => r = none ∧ RM g m μ0 σ0 μ' ∧ z' = m + 26) noX := by
  refine Ct.of hl (by decide +kernel) (Nat.le_of_ble_eq_true rfl) ?_
  intro p e s mi args below meth c o hnm hr hx
  have o : Ok p l s mi args meth c g cX6_init 1 RX6 := o
  refine v_lv [(0, .ref m)] rfl ?_
  refine v_aload_n 0 o dX6_init_0 rfl rfl ?_
  refine v_objInit o dX6_init_1 ml_X6_1 im_obj co_obj (by decide) (by decide) ?_
  refine v_aload_n 0 o dX6_init_4 rfl rfl ?_
  refine v_bipush 6 o dX6_init_5 (by decide) ?_
  refine v_newI 6 o dX6_init_7 ac_int (by decide) (by decide) (by decide) ?_
  have hC1 := hC.new (.inl (g.2.1 0, aI 6 (fun _ => 0)))
  have hC1 : CP g 6 m μ0 [.int 0, .int 0, .null, .null, .null, .null, .null, .null, .null, .null, .int 0, .null, .null, .null, .null, .null, .null, .null, .null, .null, .null, .null, .null, .int 0, .null, .null, .null, .int 0, .null, .null] [.inl (g.2.1 0, aI 6 (fun _ => 0))] (up μ (m + 1) (.inl (g.2.1 0, aI 6 (fun _ => 0)))) := hC1
  generalize up μ (m + 1) (.inl (g.2.1 0, aI 6 (fun _ => 0))) = μ1 at hC1 ⊢
  refine v_putF [.int 0, .int 0, .ref (m + 1 + 0), .null, .null, .null, .null, .null, .null, .null, .int 0, .null, .null, .null, .null, .null, .null, .null, .null, .null, .null, .null, .null, .int 0, .null, .null, .null, .int 0, .null, .null] o dX6_init_9 cf6 2 (by decide) (by decide) (hnm.trans rfl) rfl fl_X6_7 hC1.1 rfl rfl (Nat.le_of_ble_eq_true rfl) rfl (fun μ2 e2 => ?_)
  have hC2 := hC1.put e2
  refine v_aload_n 0 o dX6_init_12 rfl rfl ?_
  refine v_bipush 6 o dX6_init_13 (by decide) ?_
  refine v_newI 6 o dX6_init_15 ac_int (by decide) (by decide) (by decide) ?_
  have hC3 := hC2.new (.inl (g.2.1 0, aI 6 (fun _ => 0)))
  have hC3 : CP g 6 m μ0 [.int 0, .int 0, .ref (m + 1 + 0), .null, .null, .null, .null, .null, .null, .null, .int 0, .null, .null, .null, .null, .null, .null, .null, .null, .null, .null, .null, .null, .int 0, .null, .null, .null, .int 0, .null, .null] [.inl (g.2.1 0, aI 6 (fun _ => 0)), .inl (g.2.1 0, aI 6 (fun _ => 0))] (up μ2 (m + 1 + 1) (.inl (g.2.1 0, aI 6 (fun _ => 0)))) := hC3
  generalize up μ2 (m + 1 + 1) (.inl (g.2.1 0, aI 6 (fun _ => 0))) = μ3 at hC3 ⊢
  refine v_putF [.int 0, .int 0, .ref (m + 1 + 0), .ref (m + 1 + 1), .null, .null, .null, .null, .null, .null, .int 0, .null, .null, .null, .null, .null, .null, .null, .null, .null, .null, .null, .null, .int 0, .null, .null, .null, .int 0, .null, .null] o dX6_init_17 cf6 3 (by decide) (by decide) (hnm.trans rfl) rfl fl_X6_13 hC3.1 rfl rfl (Nat.le_of_ble_eq_true rfl) rfl (fun μ4 e4 => ?_)
  have hC4 := hC3.put e4
  refine v_aload_n 0 o dX6_init_20 rfl rfl ?_
  refine v_bipush 6 o dX6_init_21 (by decide) ?_
  refine v_newI 6 o dX6_init_23 ac_int (by decide) (by decide) (by decide) ?_
  have hC5 := hC4.new (.inl (g.2.1 0, aI 6 (fun _ => 0)))
  have hC5 : CP g 6 m μ0 [.int 0, .int 0, .ref (m + 1 + 0), .ref (m + 1 + 1), .null, .null, .null, .null, .null, .null, .int 0, .null, .null, .null, .null, .null, .null, .null, .null, .null, .null, .null, .null, .int 0, .null, .null, .null, .int 0, .null, .null] [.inl (g.2.1 0, aI 6 (fun _ => 0)), .inl (g.2.1 0, aI 6 (fun _ => 0)), .inl (g.2.1 0, aI 6 (fun _ => 0))] (up μ4 (m + 1 + 2) (.inl (g.2.1 0, aI 6 (fun _ => 0)))) := hC5
  generalize up μ4 (m + 1 + 1 + 1) (.inl (g.2.1 0, aI 6 (fun _ => 0))) = μ5 at hC5 ⊢
  refine v_putF [.int 0, .int 0, .ref (m + 1 + 0), .ref (m + 1 + 1), .ref (m + 1 + 2), .null, .null, .null, .null, .null, .int 0, .null, .null, .null, .null, .null, .null, .null, .null, .null, .null, .null, .null, .int 0, .null, .null, .null, .int 0, .null, .null] o dX6_init_25 cf6 4 (by decide) (by decide) (hnm.trans rfl) rfl fl_X6_16 hC5.1 rfl rfl (Nat.le_of_ble_eq_true rfl) rfl (fun μ6 e6 => ?_)
  have hC6 := hC5.put e6
  refine v_aload_n 0 o dX6_init_28 rfl rfl ?_
  refine v_bipush 6 o dX6_init_29 (by decide) ?_
  refine v_newI 6 o dX6_init_31 ac_int (by decide) (by decide) (by decide) ?_
  have hC7 := hC6.new (.inl (g.2.1 0, aI 6 (fun _ => 0)))
  have hC7 : CP g 6 m μ0 [.int 0, .int 0, .ref (m + 1 + 0), .ref (m + 1 + 1), .ref (m + 1 + 2), .null, .null, .null, .null, .null, .int 0, .null, .null, .null, .null, .null, .null, .null, .null, .null, .null, .null, .null, .int 0, .null, .null, .null, .int 0, .null, .null] [.inl (g.2.1 0, aI 6 (fun _ => 0)), .inl (g.2.1 0, aI 6 (fun _ => 0)), .inl (g.2.1 0, aI 6 (fun _ => 0)), .inl (g.2.1 0, aI 6 (fun _ => 0))] (up μ6 (m + 1 + 3) (.inl (g.2.1 0, aI 6 (fun _ => 0)))) := hC7
  generalize up μ6 (m + 1 + 1 + 1 + 1) (.inl (g.2.1 0, aI 6 (fun _ => 0))) = μ7 at hC7 ⊢
  refine v_putF [.int 0, .int 0, .ref (m + 1 + 0), .ref (m + 1 + 1), .ref (m + 1 + 2), .ref (m + 1 + 3), .null, .null, .null, .null, .int 0, .null, .null, .null, .null, .null, .null, .null, .null, .null, .null, .null, .null, .int 0, .null, .null, .null, .int 0, .null, .null] o dX6_init_33 cf6 5 (by decide) (by decide) (hnm.trans rfl) rfl fl_X6_19 hC7.1 rfl rfl (Nat.le_of_ble_eq_true rfl) rfl (fun μ8 e8 => ?_)
  have hC8 := hC7.put e8
  refine v_aload_n 0 o dX6_init_36 rfl rfl ?_
  refine v_bipush 6 o dX6_init_37 (by decide) ?_
  refine v_newI 6 o dX6_init_39 ac_int (by decide) (by decide) (by decide) ?_
  have hC9 := hC8.new (.inl (g.2.1 0, aI 6 (fun _ => 0)))
  have hC9 : CP g 6 m μ0 [.int 0, .int 0, .ref (m + 1 + 0), .ref (m + 1 + 1), .ref (m + 1 + 2), .ref (m + 1 + 3), .null, .null, .null, .null, .int 0, .null, .null, .null, .null, .null, .null, .null, .null, .null, .null, .null, .null, .int 0, .null, .null, .null, .int 0, .null, .null] [.inl (g.2.1 0, aI 6 (fun _ => 0)), .inl (g.2.1 0, aI 6 (fun _ => 0)), .inl (g.2.1 0, aI 6 (fun _ => 0)), .inl (g.2.1 0, aI 6 (fun _ => 0)), .inl (g.2.1 0, aI 6 (fun _ => 0))] (up μ8 (m + 1 + 4) (.inl (g.2.1 0, aI 6 (fun _ => 0)))) := hC9
  generalize up μ8 (m + 1 + 1 + 1 + 1 + 1) (.inl (g.2.1 0, aI 6 (fun _ => 0))) = μ9 at hC9 ⊢
  refine v_putF [.int 0, .int 0, .ref (m + 1 + 0), .ref (m + 1 + 1), .ref (m + 1 + 2), .ref (m + 1 + 3), .ref (m + 1 + 4), .null, .null, .null, .int 0, .null, .null, .null, .null, .null, .null, .null, .null, .null, .null, .null, .null, .int 0, .null, .null, .null, .int 0, .null, .null] o dX6_init_41 cf6 6 (by decide) (by decide) (hnm.trans rfl) rfl fl_X6_22 hC9.1 rfl rfl (Nat.le_of_ble_eq_true rfl) rfl (fun μ10 e10 => ?_)
  have hC10 := hC9.put e10
  refine v_aload_n 0 o dX6_init_44 rfl rfl ?_
  refine v_bipush 6 o dX6_init_45 (by decide) ?_
  refine v_newI 6 o dX6_init_47 ac_int (by decide) (by decide) (by decide) ?_
  have hC11 := hC10.new (.inl (g.2.1 0, aI 6 (fun _ => 0)))
  have hC11 : CP g 6 m μ0 [.int 0, .int 0, .ref (m + 1 + 0), .ref (m + 1 + 1), .ref (m + 1 + 2), .ref (m + 1 + 3), .ref (m + 1 + 4), .null, .null, .null, .int 0, .null, .null, .null, .null, .null, .null, .null, .null, .null, .null, .null, .null, .int 0, .null, .null, .null, .int 0, .null, .null] [.inl (g.2.1 0, aI 6 (fun _ => 0)), .inl (g.2.1 0, aI 6 (fun _ => 0)), .inl (g.2.1 0, aI 6 (fun _ => 0)), .inl (g.2.1 0, aI 6 (fun _ => 0)), .inl (g.2.1 0, aI 6 (fun _ => 0)), .inl (g.2.1 0, aI 6 (fun _ => 0))] (up μ10 (m + 1 + 5) (.inl (g.2.1 0, aI 6 (fun _ => 0)))) := hC11
  generalize up μ10 (m + 1 + 1 + 1 + 1 + 1 + 1) (.inl (g.2.1 0, aI 6 (fun _ => 0))) = μ11 at hC11 ⊢
  refine v_putF [.int 0, .int 0, .ref (m + 1 + 0), .ref (m + 1 + 1), .ref (m + 1 + 2), .ref (m + 1 + 3), .ref (m + 1 + 4), .ref (m + 1 + 5), .null, .null, .int 0, .null, .null, .null, .null, .null, .null, .null, .null, .null, .null, .null, .null, .int 0, .null, .null, .null, .int 0, .null, .null] o dX6_init_49 cf6 7 (by decide) (by decide) (hnm.trans rfl) rfl fl_X6_25 hC11.1 rfl rfl (Nat.le_of_ble_eq_true rfl) rfl (fun μ12 e12 => ?_)
  have hC12 := hC11.put e12
  refine v_aload_n 0 o dX6_init_52 rfl rfl ?_
  refine v_bipush 6 o dX6_init_53 (by decide) ?_
  refine v_newZ 6 o dX6_init_55 ac_boolean (by decide) (by decide) (by decide) ?_
  have hC13 := hC12.new (.inl (g.2.1 1, aI 6 (fun _ => 0)))
  have hC13 : CP g 6 m μ0 [.int 0, .int 0, .ref (m + 1 + 0), .ref (m + 1 + 1), .ref (m + 1 + 2), .ref (m + 1 + 3), .ref (m + 1 + 4), .ref (m + 1 + 5), .null, .null, .int 0, .null, .null, .null, .null, .null, .null, .null, .null, .null, .null, .null, .null, .int 0, .null, .null, .null, .int 0, .null, .null] [.inl (g.2.1 0, aI 6 (fun _ => 0)), .inl (g.2.1 0, aI 6 (fun _ => 0)), .inl (g.2.1 0, aI 6 (fun _ => 0)), .inl (g.2.1 0, aI 6 (fun _ => 0)), .inl (g.2.1 0, aI 6 (fun _ => 0)), .inl (g.2.1 0, aI 6 (fun _ => 0)), .inl (g.2.1 1, aI 6 (fun _ => 0))] (up μ12 (m + 1 + 6) (.inl (g.2.1 1, aI 6 (fun _ => 0)))) := hC13
  generalize up μ12 (m + 1 + 1 + 1 + 1 + 1 + 1 + 1) (.inl (g.2.1 1, aI 6 (fun _ => 0))) = μ13 at hC13 ⊢
  refine v_putF [.int 0, .int 0, .ref (m + 1 + 0), .ref (m + 1 + 1), .ref (m + 1 + 2), .ref (m + 1 + 3), .ref (m + 1 + 4), .ref (m + 1 + 5), .ref (m + 1 + 6), .null, .int 0, .null, .null, .null, .null, .null, .null, .null, .null, .null, .null, .null, .null, .int 0, .null, .null, .null, .int 0, .null, .null] o dX6_init_57 cf6 8 (by decide) (by decide) (hnm.trans rfl) rfl fl_X6_28 hC13.1 rfl rfl (Nat.le_of_ble_eq_true rfl) rfl (fun μ14 e14 => ?_)
  have hC14 := hC13.put e14
  refine v_aload_n 0 o dX6_init_60 rfl rfl ?_
  refine v_bipush 6 o dX6_init_61 (by decide) ?_
  refine v_newZ 6 o dX6_init_63 ac_boolean (by decide) (by decide) (by decide) ?_
  have hC15 := hC14.new (.inl (g.2.1 1, aI 6 (fun _ => 0)))
  have hC15 : CP g 6 m μ0 [.int 0, .int 0, .ref (m + 1 + 0), .ref (m + 1 + 1), .ref (m + 1 + 2), .ref (m + 1 + 3), .ref (m + 1 + 4), .ref (m + 1 + 5), .ref (m + 1 + 6), .null, .int 0, .null, .null, .null, .null, .null, .null, .null, .null, .null, .null, .null, .null, .int 0, .null, .null, .null, .int 0, .null, .null] [.inl (g.2.1 0, aI 6 (fun _ => 0)), .inl (g.2.1 0, aI 6 (fun _ => 0)), .inl (g.2.1 0, aI 6 (fun _ => 0)), .inl (g.2.1 0, aI 6 (fun _ => 0)), .inl (g.2.1 0, aI 6 (fun _ => 0)), .inl (g.2.1 0, aI 6 (fun _ => 0)), .inl (g.2.1 1, aI 6 (fun _ => 0)), .inl (g.2.1 1, aI 6 (fun _ => 0))] (up μ14 (m + 1 + 7) (.inl (g.2.1 1, aI 6 (fun _ => 0)))) := hC15
  generalize up μ14 (m + 1 + 1 + 1 + 1 + 1 + 1 + 1 + 1) (.inl (g.2.1 1, aI 6 (fun _ => 0))) = μ15 at hC15 ⊢
  refine v_putF [.int 0, .int 0, .ref (m + 1 + 0), .ref (m + 1 + 1), .ref (m + 1 + 2), .ref (m + 1 + 3), .ref (m + 1 + 4), .ref (m + 1 + 5), .ref (m + 1 + 6), .ref (m + 1 + 7), .int 0, .null, .null, .null, .null, .null, .null, .null, .null, .null, .null, .null, .null, .int 0, .null, .null, .null, .int 0, .null, .null] o dX6_init_65 cf6 9 (by decide) (by decide) (hnm.trans rfl) rfl fl_X6_32 hC15.1 rfl rfl (Nat.le_of_ble_eq_true rfl) rfl (fun μ16 e16 => ?_)
  have hC16 := hC15.put e16
  refine v_aload_n 0 o dX6_init_68 rfl rfl ?_
  refine v_bipush 72 o dX6_init_69 (by decide) ?_
  refine v_newZ 72 o dX6_init_71 ac_boolean (by decide) (by decide) (by decide) ?_
  have hC17 := hC16.new (.inl (g.2.1 1, aI 72 (fun _ => 0)))
  have hC17 : CP g 6 m μ0 [.int 0, .int 0, .ref (m + 1 + 0), .ref (m + 1 + 1), .ref (m + 1 + 2), .ref (m + 1 + 3), .ref (m + 1 + 4), .ref (m + 1 + 5), .ref (m + 1 + 6), .ref (m + 1 + 7), .int 0, .null, .null, .null, .null, .null, .null, .null, .null, .null, .null, .null, .null, .int 0, .null, .null, .null, .int 0, .null, .null] [.inl (g.2.1 0, aI 6 (fun _ => 0)), .inl (g.2.1 0, aI 6 (fun _ => 0)), .inl (g.2.1 0, aI 6 (fun _ => 0)), .inl (g.2.1 0, aI 6 (fun _ => 0)), .inl (g.2.1 0, aI 6 (fun _ => 0)), .inl (g.2.1 0, aI 6 (fun _ => 0)), .inl (g.2.1 1, aI 6 (fun _ => 0)), .inl (g.2.1 1, aI 6 (fun _ => 0)), .inl (g.2.1 1, aI 72 (fun _ => 0))] (up μ16 (m + 1 + 8) (.inl (g.2.1 1, aI 72 (fun _ => 0)))) := hC17
  generalize up μ16 (m + 1 + 1 + 1 + 1 + 1 + 1 + 1 + 1 + 1) (.inl (g.2.1 1, aI 72 (fun _ => 0))) = μ17 at hC17 ⊢
  refine v_putF [.int 0, .int 0, .ref (m + 1 + 0), .ref (m + 1 + 1), .ref (m + 1 + 2), .ref (m + 1 + 3), .ref (m + 1 + 4), .ref (m + 1 + 5), .ref (m + 1 + 6), .ref (m + 1 + 7), .int 0, .ref (m + 1 + 8), .null, .null, .null, .null, .null, .null, .null, .null, .null, .null, .null, .int 0, .null, .null, .null, .int 0, .null, .null] o dX6_init_73 cf6 11 (by decide) (by decide) (hnm.trans rfl) rfl fl_X6_35 hC17.1 rfl rfl (Nat.le_of_ble_eq_true rfl) rfl (fun μ18 e18 => ?_)
  have hC18 := hC17.put e18
  refine v_aload_n 0 o dX6_init_76 rfl rfl ?_
  refine v_bipush 72 o dX6_init_77 (by decide) ?_
  refine v_newZ 72 o dX6_init_79 ac_boolean (by decide) (by decide) (by decide) ?_
  have hC19 := hC18.new (.inl (g.2.1 1, aI 72 (fun _ => 0)))
  have hC19 : CP g 6 m μ0 [.int 0, .int 0, .ref (m + 1 + 0), .ref (m + 1 + 1), .ref (m + 1 + 2), .ref (m + 1 + 3), .ref (m + 1 + 4), .ref (m + 1 + 5), .ref (m + 1 + 6), .ref (m + 1 + 7), .int 0, .ref (m + 1 + 8), .null, .null, .null, .null, .null, .null, .null, .null, .null, .null, .null, .int 0, .null, .null, .null, .int 0, .null, .null] [.inl (g.2.1 0, aI 6 (fun _ => 0)), .inl (g.2.1 0, aI 6 (fun _ => 0)), .inl (g.2.1 0, aI 6 (fun _ => 0)), .inl (g.2.1 0, aI 6 (fun _ => 0)), .inl (g.2.1 0, aI 6 (fun _ => 0)), .inl (g.2.1 0, aI 6 (fun _ => 0)), .inl (g.2.1 1, aI 6 (fun _ => 0)), .inl (g.2.1 1, aI 6 (fun _ => 0)), .inl (g.2.1 1, aI 72 (fun _ => 0)), .inl (g.2.1 1, aI 72 (fun _ => 0))] (up μ18 (m + 1 + 9) (.inl (g.2.1 1, aI 72 (fun _ => 0)))) := hC19
  generalize up μ18 (m + 1 + 1 + 1 + 1 + 1 + 1 + 1 + 1 + 1 + 1) (.inl (g.2.1 1, aI 72 (fun _ => 0))) = μ19 at hC19 ⊢
  refine v_putF [.int 0, .int 0, .ref (m + 1 + 0), .ref (m + 1 + 1), .ref (m + 1 + 2), .ref (m + 1 + 3), .ref (m + 1 + 4), .ref (m + 1 + 5), .ref (m + 1 + 6), .ref (m + 1 + 7), .int 0, .ref (m + 1 + 8), .ref (m + 1 + 9), .null, .null, .null, .null, .null, .null, .null, .null, .null, .null, .int 0, .null, .null, .null, .int 0, .null, .null] o dX6_init_81 cf6 12 (by decide) (by decide) (hnm.trans rfl) rfl fl_X6_38 hC19.1 rfl rfl (Nat.le_of_ble_eq_true rfl) rfl (fun μ20 e20 => ?_)
  have hC20 := hC19.put e20
  refine v_aload_n 0 o dX6_init_84 rfl rfl ?_
  refine v_bipush 72 o dX6_init_85 (by decide) ?_
  refine v_newZ 72 o dX6_init_87 ac_boolean (by decide) (by decide) (by decide) ?_
  have hC21 := hC20.new (.inl (g.2.1 1, aI 72 (fun _ => 0)))
  have hC21 : CP g 6 m μ0 [.int 0, .int 0, .ref (m + 1 + 0), .ref (m + 1 + 1), .ref (m + 1 + 2), .ref (m + 1 + 3), .ref (m + 1 + 4), .ref (m + 1 + 5), .ref (m + 1 + 6), .ref (m + 1 + 7), .int 0, .ref (m + 1 + 8), .ref (m + 1 + 9), .null, .null, .null, .null, .null, .null, .null, .null, .null, .null, .int 0, .null, .null, .null, .int 0, .null, .null] [.inl (g.2.1 0, aI 6 (fun _ => 0)), .inl (g.2.1 0, aI 6 (fun _ => 0)), .inl (g.2.1 0, aI 6 (fun _ => 0)), .inl (g.2.1 0, aI 6 (fun _ => 0)), .inl (g.2.1 0, aI 6 (fun _ => 0)), .inl (g.2.1 0, aI 6 (fun _ => 0)), .inl (g.2.1 1, aI 6 (fun _ => 0)), .inl (g.2.1 1, aI 6 (fun _ => 0)), .inl (g.2.1 1, aI 72 (fun _ => 0)), .inl (g.2.1 1, aI 72 (fun _ => 0)), .inl (g.2.1 1, aI 72 (fun _ => 0))] (up μ20 (m + 1 + 10) (.inl (g.2.1 1, aI 72 (fun _ => 0)))) := hC21
  generalize up μ20 (m + 1 + 1 + 1 + 1 + 1 + 1 + 1 + 1 + 1 + 1 + 1) (.inl (g.2.1 1, aI 72 (fun _ => 0))) = μ21 at hC21 ⊢
  refine v_putF [.int 0, .int 0, .ref (m + 1 + 0), .ref (m + 1 + 1), .ref (m + 1 + 2), .ref (m + 1 + 3), .ref (m + 1 + 4), .ref (m + 1 + 5), .ref (m + 1 + 6), .ref (m + 1 + 7), .int 0, .ref (m + 1 + 8), .ref (m + 1 + 9), .ref (m + 1 + 10), .null, .null, .null, .null, .null, .null, .null, .null, .null, .int 0, .null, .null, .null, .int 0, .null, .null] o dX6_init_89 cf6 13 (by decide) (by decide) (hnm.trans rfl) rfl fl_X6_41 hC21.1 rfl rfl (Nat.le_of_ble_eq_true rfl) rfl (fun μ22 e22 => ?_)
  have hC22 := hC21.put e22
  refine v_aload_n 0 o dX6_init_92 rfl rfl ?_
  refine v_bipush 72 o dX6_init_93 (by decide) ?_
  refine v_newL 72 o dX6_init_95 ac_long (by decide) (by decide) (by decide) ?_
  have hC23 := hC22.new (.inl (g.2.1 2, aL 72 (fun _ => 0)))
  have hC23 : CP g 6 m μ0 [.int 0, .int 0, .ref (m + 1 + 0), .ref (m + 1 + 1), .ref (m + 1 + 2), .ref (m + 1 + 3), .ref (m + 1 + 4), .ref (m + 1 + 5), .ref (m + 1 + 6), .ref (m + 1 + 7), .int 0, .ref (m + 1 + 8), .ref (m + 1 + 9), .ref (m + 1 + 10), .null, .null, .null, .null, .null, .null, .null, .null, .null, .int 0, .null, .null, .null, .int 0, .null, .null] [.inl (g.2.1 0, aI 6 (fun _ => 0)), .inl (g.2.1 0, aI 6 (fun _ => 0)), .inl (g.2.1 0, aI 6 (fun _ => 0)), .inl (g.2.1 0, aI 6 (fun _ => 0)), .inl (g.2.1 0, aI 6 (fun _ => 0)), .inl (g.2.1 0, aI 6 (fun _ => 0)), .inl (g.2.1 1, aI 6 (fun _ => 0)), .inl (g.2.1 1, aI 6 (fun _ => 0)), .inl (g.2.1 1, aI 72 (fun _ => 0)), .inl (g.2.1 1, aI 72 (fun _ => 0)), .inl (g.2.1 1, aI 72 (fun _ => 0)), .inl (g.2.1 2, aL 72 (fun _ => 0))] (up μ22 (m + 1 + 11) (.inl (g.2.1 2, aL 72 (fun _ => 0)))) := hC23
  generalize up μ22 (m + 1 + 1 + 1 + 1 + 1 + 1 + 1 + 1 + 1 + 1 + 1 + 1) (.inl (g.2.1 2, aL 72 (fun _ => 0))) = μ23 at hC23 ⊢
  refine v_putF [.int 0, .int 0, .ref (m + 1 + 0), .ref (m + 1 + 1), .ref (m + 1 + 2), .ref (m + 1 + 3), .ref (m + 1 + 4), .ref (m + 1 + 5), .ref (m + 1 + 6), .ref (m + 1 + 7), .int 0, .ref (m + 1 + 8), .ref (m + 1 + 9), .ref (m + 1 + 10), .ref (m + 1 + 11), .null, .null, .null, .null, .null, .null, .null, .null, .int 0, .null, .null, .null, .int 0, .null, .null] o dX6_init_97 cf6 14 (by decide) (by decide) (hnm.trans rfl) rfl fl_X6_44 hC23.1 rfl rfl (Nat.le_of_ble_eq_true rfl) rfl (fun μ24 e24 => ?_)
  have hC24 := hC23.put e24
  refine v_aload_n 0 o dX6_init_100 rfl rfl ?_
  refine v_bipush 72 o dX6_init_101 (by decide) ?_
  refine v_newI 72 o dX6_init_103 ac_int (by decide) (by decide) (by decide) ?_
  have hC25 := hC24.new (.inl (g.2.1 0, aI 72 (fun _ => 0)))
  have hC25 : CP g 6 m μ0 [.int 0, .int 0, .ref (m + 1 + 0), .ref (m + 1 + 1), .ref (m + 1 + 2), .ref (m + 1 + 3), .ref (m + 1 + 4), .ref (m + 1 + 5), .ref (m + 1 + 6), .ref (m + 1 + 7), .int 0, .ref (m + 1 + 8), .ref (m + 1 + 9), .ref (m + 1 + 10), .ref (m + 1 + 11), .null, .null, .null, .null, .null, .null, .null, .null, .int 0, .null, .null, .null, .int 0, .null, .null] [.inl (g.2.1 0, aI 6 (fun _ => 0)), .inl (g.2.1 0, aI 6 (fun _ => 0)), .inl (g.2.1 0, aI 6 (fun _ => 0)), .inl (g.2.1 0, aI 6 (fun _ => 0)), .inl (g.2.1 0, aI 6 (fun _ => 0)), .inl (g.2.1 0, aI 6 (fun _ => 0)), .inl (g.2.1 1, aI 6 (fun _ => 0)), .inl (g.2.1 1, aI 6 (fun _ => 0)), .inl (g.2.1 1, aI 72 (fun _ => 0)), .inl (g.2.1 1, aI 72 (fun _ => 0)), .inl (g.2.1 1, aI 72 (fun _ => 0)), .inl (g.2.1 2, aL 72 (fun _ => 0)), .inl (g.2.1 0, aI 72 (fun _ => 0))] (up μ24 (m + 1 + 12) (.inl (g.2.1 0, aI 72 (fun _ => 0)))) := hC25
  generalize up μ24 (m + 1 + 1 + 1 + 1 + 1 + 1 + 1 + 1 + 1 + 1 + 1 + 1 + 1) (.inl (g.2.1 0, aI 72 (fun _ => 0))) = μ25 at hC25 ⊢
  refine v_putF [.int 0, .int 0, .ref (m + 1 + 0), .ref (m + 1 + 1), .ref (m + 1 + 2), .ref (m + 1 + 3), .ref (m + 1 + 4), .ref (m + 1 + 5), .ref (m + 1 + 6), .ref (m + 1 + 7), .int 0, .ref (m + 1 + 8), .ref (m + 1 + 9), .ref (m + 1 + 10), .ref (m + 1 + 11), .ref (m + 1 + 12), .null, .null, .null, .null, .null, .null, .null, .int 0, .null, .null, .null, .int 0, .null, .null] o dX6_init_105 cf6 15 (by decide) (by decide) (hnm.trans rfl) rfl fl_X6_48 hC25.1 rfl rfl (Nat.le_of_ble_eq_true rfl) rfl (fun μ26 e26 => ?_)
  have hC26 := hC25.put e26
  refine v_aload_n 0 o dX6_init_108 rfl rfl ?_
  refine v_bipush 72 o dX6_init_109 (by decide) ?_
  refine v_newI 72 o dX6_init_111 ac_int (by decide) (by decide) (by decide) ?_
  have hC27 := hC26.new (.inl (g.2.1 0, aI 72 (fun _ => 0)))
  have hC27 : CP g 6 m μ0 [.int 0, .int 0, .ref (m + 1 + 0), .ref (m + 1 + 1), .ref (m + 1 + 2), .ref (m + 1 + 3), .ref (m + 1 + 4), .ref (m + 1 + 5), .ref (m + 1 + 6), .ref (m + 1 + 7), .int 0, .ref (m + 1 + 8), .ref (m + 1 + 9), .ref (m + 1 + 10), .ref (m + 1 + 11), .ref (m + 1 + 12), .null, .null, .null, .null, .null, .null, .null, .int 0, .null, .null, .null, .int 0, .null, .null] [.inl (g.2.1 0, aI 6 (fun _ => 0)), .inl (g.2.1 0, aI 6 (fun _ => 0)), .inl (g.2.1 0, aI 6 (fun _ => 0)), .inl (g.2.1 0, aI 6 (fun _ => 0)), .inl (g.2.1 0, aI 6 (fun _ => 0)), .inl (g.2.1 0, aI 6 (fun _ => 0)), .inl (g.2.1 1, aI 6 (fun _ => 0)), .inl (g.2.1 1, aI 6 (fun _ => 0)), .inl (g.2.1 1, aI 72 (fun _ => 0)), .inl (g.2.1 1, aI 72 (fun _ => 0)), .inl (g.2.1 1, aI 72 (fun _ => 0)), .inl (g.2.1 2, aL 72 (fun _ => 0)), .inl (g.2.1 0, aI 72 (fun _ => 0)), .inl (g.2.1 0, aI 72 (fun _ => 0))] (up μ26 (m + 1 + 13) (.inl (g.2.1 0, aI 72 (fun _ => 0)))) := hC27
  generalize up μ26 (m + 1 + 1 + 1 + 1 + 1 + 1 + 1 + 1 + 1 + 1 + 1 + 1 + 1 + 1) (.inl (g.2.1 0, aI 72 (fun _ => 0))) = μ27 at hC27 ⊢
  refine v_putF [.int 0, .int 0, .ref (m + 1 + 0), .ref (m + 1 + 1), .ref (m + 1 + 2), .ref (m + 1 + 3), .ref (m + 1 + 4), .ref (m + 1 + 5), .ref (m + 1 + 6), .ref (m + 1 + 7), .int 0, .ref (m + 1 + 8), .ref (m + 1 + 9), .ref (m + 1 + 10), .ref (m + 1 + 11), .ref (m + 1 + 12), .ref (m + 1 + 13), .null, .null, .null, .null, .null, .null, .int 0, .null, .null, .null, .int 0, .null, .null] o dX6_init_113 cf6 16 (by decide) (by decide) (hnm.trans rfl) rfl fl_X6_51 hC27.1 rfl rfl (Nat.le_of_ble_eq_true rfl) rfl (fun μ28 e28 => ?_)
  have hC28 := hC27.put e28
  refine v_aload_n 0 o dX6_init_116 rfl rfl ?_
  refine v_sipush 288 o dX6_init_117 (by decide) ?_
  refine v_newZ 288 o dX6_init_120 ac_boolean (by decide) (by decide) (by decide) ?_
  have hC29 := hC28.new (.inl (g.2.1 1, aI 288 (fun _ => 0)))
  have hC29 : CP g 6 m μ0 [.int 0, .int 0, .ref (m + 1 + 0), .ref (m + 1 + 1), .ref (m + 1 + 2), .ref (m + 1 + 3), .ref (m + 1 + 4), .ref (m + 1 + 5), .ref (m + 1 + 6), .ref (m + 1 + 7), .int 0, .ref (m + 1 + 8), .ref (m + 1 + 9), .ref (m + 1 + 10), .ref (m + 1 + 11), .ref (m + 1 + 12), .ref (m + 1 + 13), .null, .null, .null, .null, .null, .null, .int 0, .null, .null, .null, .int 0, .null, .null] [.inl (g.2.1 0, aI 6 (fun _ => 0)), .inl (g.2.1 0, aI 6 (fun _ => 0)), .inl (g.2.1 0, aI 6 (fun _ => 0)), .inl (g.2.1 0, aI 6 (fun _ => 0)), .inl (g.2.1 0, aI 6 (fun _ => 0)), .inl (g.2.1 0, aI 6 (fun _ => 0)), .inl (g.2.1 1, aI 6 (fun _ => 0)), .inl (g.2.1 1, aI 6 (fun _ => 0)), .inl (g.2.1 1, aI 72 (fun _ => 0)), .inl (g.2.1 1, aI 72 (fun _ => 0)), .inl (g.2.1 1, aI 72 (fun _ => 0)), .inl (g.2.1 2, aL 72 (fun _ => 0)), .inl (g.2.1 0, aI 72 (fun _ => 0)), .inl (g.2.1 0, aI 72 (fun _ => 0)), .inl (g.2.1 1, aI 288 (fun _ => 0))] (up μ28 (m + 1 + 14) (.inl (g.2.1 1, aI 288 (fun _ => 0)))) := hC29
  generalize up μ28 (m + 1 + 1 + 1 + 1 + 1 + 1 + 1 + 1 + 1 + 1 + 1 + 1 + 1 + 1 + 1) (.inl (g.2.1 1, aI 288 (fun _ => 0))) = μ29 at hC29 ⊢
  refine v_putF [.int 0, .int 0, .ref (m + 1 + 0), .ref (m + 1 + 1), .ref (m + 1 + 2), .ref (m + 1 + 3), .ref (m + 1 + 4), .ref (m + 1 + 5), .ref (m + 1 + 6), .ref (m + 1 + 7), .int 0, .ref (m + 1 + 8), .ref (m + 1 + 9), .ref (m + 1 + 10), .ref (m + 1 + 11), .ref (m + 1 + 12), .ref (m + 1 + 13), .ref (m + 1 + 14), .null, .null, .null, .null, .null, .int 0, .null, .null, .null, .int 0, .null, .null] o dX6_init_122 cf6 17 (by decide) (by decide) (hnm.trans rfl) rfl fl_X6_54 hC29.1 rfl rfl (Nat.le_of_ble_eq_true rfl) rfl (fun μ30 e30 => ?_)
  have hC30 := hC29.put e30
  refine v_aload_n 0 o dX6_init_125 rfl rfl ?_
  refine v_sipush 288 o dX6_init_126 (by decide) ?_
  refine v_newL 288 o dX6_init_129 ac_long (by decide) (by decide) (by decide) ?_
  have hC31 := hC30.new (.inl (g.2.1 2, aL 288 (fun _ => 0)))
  have hC31 : CP g 6 m μ0 [.int 0, .int 0, .ref (m + 1 + 0), .ref (m + 1 + 1), .ref (m + 1 + 2), .ref (m + 1 + 3), .ref (m + 1 + 4), .ref (m + 1 + 5), .ref (m + 1 + 6), .ref (m + 1 + 7), .int 0, .ref (m + 1 + 8), .ref (m + 1 + 9), .ref (m + 1 + 10), .ref (m + 1 + 11), .ref (m + 1 + 12), .ref (m + 1 + 13), .ref (m + 1 + 14), .null, .null, .null, .null, .null, .int 0, .null, .null, .null, .int 0, .null, .null] [.inl (g.2.1 0, aI 6 (fun _ => 0)), .inl (g.2.1 0, aI 6 (fun _ => 0)), .inl (g.2.1 0, aI 6 (fun _ => 0)), .inl (g.2.1 0, aI 6 (fun _ => 0)), .inl (g.2.1 0, aI 6 (fun _ => 0)), .inl (g.2.1 0, aI 6 (fun _ => 0)), .inl (g.2.1 1, aI 6 (fun _ => 0)), .inl (g.2.1 1, aI 6 (fun _ => 0)), .inl (g.2.1 1, aI 72 (fun _ => 0)), .inl (g.2.1 1, aI 72 (fun _ => 0)), .inl (g.2.1 1, aI 72 (fun _ => 0)), .inl (g.2.1 2, aL 72 (fun _ => 0)), .inl (g.2.1 0, aI 72 (fun _ => 0)), .inl (g.2.1 0, aI 72 (fun _ => 0)), .inl (g.2.1 1, aI 288 (fun _ => 0)), .inl (g.2.1 2, aL 288 (fun _ => 0))] (up μ30 (m + 1 + 15) (.inl (g.2.1 2, aL 288 (fun _ => 0)))) := hC31
  generalize up μ30 (m + 1 + 1 + 1 + 1 + 1 + 1 + 1 + 1 + 1 + 1 + 1 + 1 + 1 + 1 + 1 + 1) (.inl (g.2.1 2, aL 288 (fun _ => 0))) = μ31 at hC31 ⊢
  refine v_putF [.int 0, .int 0, .ref (m + 1 + 0), .ref (m + 1 + 1), .ref (m + 1 + 2), .ref (m + 1 + 3), .ref (m + 1 + 4), .ref (m + 1 + 5), .ref (m + 1 + 6), .ref (m + 1 + 7), .int 0, .ref (m + 1 + 8), .ref (m + 1 + 9), .ref (m + 1 + 10), .ref (m + 1 + 11), .ref (m + 1 + 12), .ref (m + 1 + 13), .ref (m + 1 + 14), .ref (m + 1 + 15), .null, .null, .null, .null, .int 0, .null, .null, .null, .int 0, .null, .null] o dX6_init_131 cf6 18 (by decide) (by decide) (hnm.trans rfl) rfl fl_X6_57 hC31.1 rfl rfl (Nat.le_of_ble_eq_true rfl) rfl (fun μ32 e32 => ?_)
  have hC32 := hC31.put e32
  refine v_aload_n 0 o dX6_init_134 rfl rfl ?_
  refine v_iconst 4 o dX6_init_135 rfl ?_
  refine v_newZ 4 o dX6_init_136 ac_boolean (by decide) (by decide) (by decide) ?_
  have hC33 := hC32.new (.inl (g.2.1 1, aI 4 (fun _ => 0)))
  have hC33 : CP g 6 m μ0 [.int 0, .int 0, .ref (m + 1 + 0), .ref (m + 1 + 1), .ref (m + 1 + 2), .ref (m + 1 + 3), .ref (m + 1 + 4), .ref (m + 1 + 5), .ref (m + 1 + 6), .ref (m + 1 + 7), .int 0, .ref (m + 1 + 8), .ref (m + 1 + 9), .ref (m + 1 + 10), .ref (m + 1 + 11), .ref (m + 1 + 12), .ref (m + 1 + 13), .ref (m + 1 + 14), .ref (m + 1 + 15), .null, .null, .null, .null, .int 0, .null, .null, .null, .int 0, .null, .null] [.inl (g.2.1 0, aI 6 (fun _ => 0)), .inl (g.2.1 0, aI 6 (fun _ => 0)), .inl (g.2.1 0, aI 6 (fun _ => 0)), .inl (g.2.1 0, aI 6 (fun _ => 0)), .inl (g.2.1 0, aI 6 (fun _ => 0)), .inl (g.2.1 0, aI 6 (fun _ => 0)), .inl (g.2.1 1, aI 6 (fun _ => 0)), .inl (g.2.1 1, aI 6 (fun _ => 0)), .inl (g.2.1 1, aI 72 (fun _ => 0)), .inl (g.2.1 1, aI 72 (fun _ => 0)), .inl (g.2.1 1, aI 72 (fun _ => 0)), .inl (g.2.1 2, aL 72 (fun _ => 0)), .inl (g.2.1 0, aI 72 (fun _ => 0)), .inl (g.2.1 0, aI 72 (fun _ => 0)), .inl (g.2.1 1, aI 288 (fun _ => 0)), .inl (g.2.1 2, aL 288 (fun _ => 0)), .inl (g.2.1 1, aI 4 (fun _ => 0))] (up μ32 (m + 1 + 16) (.inl (g.2.1 1, aI 4 (fun _ => 0)))) := hC33
  generalize up μ32 (m + 1 + 1 + 1 + 1 + 1 + 1 + 1 + 1 + 1 + 1 + 1 + 1 + 1 + 1 + 1 + 1 + 1) (.inl (g.2.1 1, aI 4 (fun _ => 0))) = μ33 at hC33 ⊢
  refine v_putF [.int 0, .int 0, .ref (m + 1 + 0), .ref (m + 1 + 1), .ref (m + 1 + 2), .ref (m + 1 + 3), .ref (m + 1 + 4), .ref (m + 1 + 5), .ref (m + 1 + 6), .ref (m + 1 + 7), .int 0, .ref (m + 1 + 8), .ref (m + 1 + 9), .ref (m + 1 + 10), .ref (m + 1 + 11), .ref (m + 1 + 12), .ref (m + 1 + 13), .ref (m + 1 + 14), .ref (m + 1 + 15), .ref (m + 1 + 16), .null, .null, .null, .int 0, .null, .null, .null, .int 0, .null, .null] o dX6_init_138 cf6 19 (by decide) (by decide) (hnm.trans rfl) rfl fl_X6_60 hC33.1 rfl rfl (Nat.le_of_ble_eq_true rfl) rfl (fun μ34 e34 => ?_)
  have hC34 := hC33.put e34
  refine v_aload_n 0 o dX6_init_141 rfl rfl ?_
  refine v_bipush 31 o dX6_init_142 (by decide) ?_
  refine v_newL 31 o dX6_init_144 ac_long (by decide) (by decide) (by decide) ?_
  have hC35 := hC34.new (.inl (g.2.1 2, aL 31 (fun _ => 0)))
  have hC35 : CP g 6 m μ0 [.int 0, .int 0, .ref (m + 1 + 0), .ref (m + 1 + 1), .ref (m + 1 + 2), .ref (m + 1 + 3), .ref (m + 1 + 4), .ref (m + 1 + 5), .ref (m + 1 + 6), .ref (m + 1 + 7), .int 0, .ref (m + 1 + 8), .ref (m + 1 + 9), .ref (m + 1 + 10), .ref (m + 1 + 11), .ref (m + 1 + 12), .ref (m + 1 + 13), .ref (m + 1 + 14), .ref (m + 1 + 15), .ref (m + 1 + 16), .null, .null, .null, .int 0, .null, .null, .null, .int 0, .null, .null] [.inl (g.2.1 0, aI 6 (fun _ => 0)), .inl (g.2.1 0, aI 6 (fun _ => 0)), .inl (g.2.1 0, aI 6 (fun _ => 0)), .inl (g.2.1 0, aI 6 (fun _ => 0)), .inl (g.2.1 0, aI 6 (fun _ => 0)), .inl (g.2.1 0, aI 6 (fun _ => 0)), .inl (g.2.1 1, aI 6 (fun _ => 0)), .inl (g.2.1 1, aI 6 (fun _ => 0)), .inl (g.2.1 1, aI 72 (fun _ => 0)), .inl (g.2.1 1, aI 72 (fun _ => 0)), .inl (g.2.1 1, aI 72 (fun _ => 0)), .inl (g.2.1 2, aL 72 (fun _ => 0)), .inl (g.2.1 0, aI 72 (fun _ => 0)), .inl (g.2.1 0, aI 72 (fun _ => 0)), .inl (g.2.1 1, aI 288 (fun _ => 0)), .inl (g.2.1 2, aL 288 (fun _ => 0)), .inl (g.2.1 1, aI 4 (fun _ => 0)), .inl (g.2.1 2, aL 31 (fun _ => 0))] (up μ34 (m + 1 + 17) (.inl (g.2.1 2, aL 31 (fun _ => 0)))) := hC35
  generalize up μ34 (m + 1 + 1 + 1 + 1 + 1 + 1 + 1 + 1 + 1 + 1 + 1 + 1 + 1 + 1 + 1 + 1 + 1 + 1) (.inl (g.2.1 2, aL 31 (fun _ => 0))) = μ35 at hC35 ⊢
  refine v_putF [.int 0, .int 0, .ref (m + 1 + 0), .ref (m + 1 + 1), .ref (m + 1 + 2), .ref (m + 1 + 3), .ref (m + 1 + 4), .ref (m + 1 + 5), .ref (m + 1 + 6), .ref (m + 1 + 7), .int 0, .ref (m + 1 + 8), .ref (m + 1 + 9), .ref (m + 1 + 10), .ref (m + 1 + 11), .ref (m + 1 + 12), .ref (m + 1 + 13), .ref (m + 1 + 14), .ref (m + 1 + 15), .ref (m + 1 + 16), .ref (m + 1 + 17), .null, .null, .int 0, .null, .null, .null, .int 0, .null, .null] o dX6_init_146 cf6 20 (by decide) (by decide) (hnm.trans rfl) rfl fl_X6_63 hC35.1 rfl rfl (Nat.le_of_ble_eq_true rfl) rfl (fun μ36 e36 => ?_)
  have hC36 := hC35.put e36
  refine v_aload_n 0 o dX6_init_149 rfl rfl ?_
  refine v_bipush 31 o dX6_init_150 (by decide) ?_
  refine v_newL 31 o dX6_init_152 ac_long (by decide) (by decide) (by decide) ?_
  have hC37 := hC36.new (.inl (g.2.1 2, aL 31 (fun _ => 0)))
  have hC37 : CP g 6 m μ0 [.int 0, .int 0, .ref (m + 1 + 0), .ref (m + 1 + 1), .ref (m + 1 + 2), .ref (m + 1 + 3), .ref (m + 1 + 4), .ref (m + 1 + 5), .ref (m + 1 + 6), .ref (m + 1 + 7), .int 0, .ref (m + 1 + 8), .ref (m + 1 + 9), .ref (m + 1 + 10), .ref (m + 1 + 11), .ref (m + 1 + 12), .ref (m + 1 + 13), .ref (m + 1 + 14), .ref (m + 1 + 15), .ref (m + 1 + 16), .ref (m + 1 + 17), .null, .null, .int 0, .null, .null, .null, .int 0, .null, .null] [.inl (g.2.1 0, aI 6 (fun _ => 0)), .inl (g.2.1 0, aI 6 (fun _ => 0)), .inl (g.2.1 0, aI 6 (fun _ => 0)), .inl (g.2.1 0, aI 6 (fun _ => 0)), .inl (g.2.1 0, aI 6 (fun _ => 0)), .inl (g.2.1 0, aI 6 (fun _ => 0)), .inl (g.2.1 1, aI 6 (fun _ => 0)), .inl (g.2.1 1, aI 6 (fun _ => 0)), .inl (g.2.1 1, aI 72 (fun _ => 0)), .inl (g.2.1 1, aI 72 (fun _ => 0)), .inl (g.2.1 1, aI 72 (fun _ => 0)), .inl (g.2.1 2, aL 72 (fun _ => 0)), .inl (g.2.1 0, aI 72 (fun _ => 0)), .inl (g.2.1 0, aI 72 (fun _ => 0)), .inl (g.2.1 1, aI 288 (fun _ => 0)), .inl (g.2.1 2, aL 288 (fun _ => 0)), .inl (g.2.1 1, aI 4 (fun _ => 0)), .inl (g.2.1 2, aL 31 (fun _ => 0)), .inl (g.2.1 2, aL 31 (fun _ => 0))] (up μ36 (m + 1 + 18) (.inl (g.2.1 2, aL 31 (fun _ => 0)))) := hC37
  generalize up μ36 (m + 1 + 1 + 1 + 1 + 1 + 1 + 1 + 1 + 1 + 1 + 1 + 1 + 1 + 1 + 1 + 1 + 1 + 1 + 1) (.inl (g.2.1 2, aL 31 (fun _ => 0))) = μ37 at hC37 ⊢
  refine v_putF [.int 0, .int 0, .ref (m + 1 + 0), .ref (m + 1 + 1), .ref (m + 1 + 2), .ref (m + 1 + 3), .ref (m + 1 + 4), .ref (m + 1 + 5), .ref (m + 1 + 6), .ref (m + 1 + 7), .int 0, .ref (m + 1 + 8), .ref (m + 1 + 9), .ref (m + 1 + 10), .ref (m + 1 + 11), .ref (m + 1 + 12), .ref (m + 1 + 13), .ref (m + 1 + 14), .ref (m + 1 + 15), .ref (m + 1 + 16), .ref (m + 1 + 17), .ref (m + 1 + 18), .null, .int 0, .null, .null, .null, .int 0, .null, .null] o dX6_init_154 cf6 21 (by decide) (by decide) (hnm.trans rfl) rfl fl_X6_66 hC37.1 rfl rfl (Nat.le_of_ble_eq_true rfl) rfl (fun μ38 e38 => ?_)
  have hC38 := hC37.put e38
  refine v_aload_n 0 o dX6_init_157 rfl rfl ?_
  refine v_bipush 31 o dX6_init_158 (by decide) ?_
  refine v_newZ 31 o dX6_init_160 ac_boolean (by decide) (by decide) (by decide) ?_
  have hC39 := hC38.new (.inl (g.2.1 1, aI 31 (fun _ => 0)))
  have hC39 : CP g 6 m μ0 [.int 0, .int 0, .ref (m + 1 + 0), .ref (m + 1 + 1), .ref (m + 1 + 2), .ref (m + 1 + 3), .ref (m + 1 + 4), .ref (m + 1 + 5), .ref (m + 1 + 6), .ref (m + 1 + 7), .int 0, .ref (m + 1 + 8), .ref (m + 1 + 9), .ref (m + 1 + 10), .ref (m + 1 + 11), .ref (m + 1 + 12), .ref (m + 1 + 13), .ref (m + 1 + 14), .ref (m + 1 + 15), .ref (m + 1 + 16), .ref (m + 1 + 17), .ref (m + 1 + 18), .null, .int 0, .null, .null, .null, .int 0, .null, .null] [.inl (g.2.1 0, aI 6 (fun _ => 0)), .inl (g.2.1 0, aI 6 (fun _ => 0)), .inl (g.2.1 0, aI 6 (fun _ => 0)), .inl (g.2.1 0, aI 6 (fun _ => 0)), .inl (g.2.1 0, aI 6 (fun _ => 0)), .inl (g.2.1 0, aI 6 (fun _ => 0)), .inl (g.2.1 1, aI 6 (fun _ => 0)), .inl (g.2.1 1, aI 6 (fun _ => 0)), .inl (g.2.1 1, aI 72 (fun _ => 0)), .inl (g.2.1 1, aI 72 (fun _ => 0)), .inl (g.2.1 1, aI 72 (fun _ => 0)), .inl (g.2.1 2, aL 72 (fun _ => 0)), .inl (g.2.1 0, aI 72 (fun _ => 0)), .inl (g.2.1 0, aI 72 (fun _ => 0)), .inl (g.2.1 1, aI 288 (fun _ => 0)), .inl (g.2.1 2, aL 288 (fun _ => 0)), .inl (g.2.1 1, aI 4 (fun _ => 0)), .inl (g.2.1 2, aL 31 (fun _ => 0)), .inl (g.2.1 2, aL 31 (fun _ => 0)), .inl (g.2.1 1, aI 31 (fun _ => 0))] (up μ38 (m + 1 + 19) (.inl (g.2.1 1, aI 31 (fun _ => 0)))) := hC39
  generalize up μ38 (m + 1 + 1 + 1 + 1 + 1 + 1 + 1 + 1 + 1 + 1 + 1 + 1 + 1 + 1 + 1 + 1 + 1 + 1 + 1 + 1) (.inl (g.2.1 1, aI 31 (fun _ => 0))) = μ39 at hC39 ⊢
  refine v_putF [.int 0, .int 0, .ref (m + 1 + 0), .ref (m + 1 + 1), .ref (m + 1 + 2), .ref (m + 1 + 3), .ref (m + 1 + 4), .ref (m + 1 + 5), .ref (m + 1 + 6), .ref (m + 1 + 7), .int 0, .ref (m + 1 + 8), .ref (m + 1 + 9), .ref (m + 1 + 10), .ref (m + 1 + 11), .ref (m + 1 + 12), .ref (m + 1 + 13), .ref (m + 1 + 14), .ref (m + 1 + 15), .ref (m + 1 + 16), .ref (m + 1 + 17), .ref (m + 1 + 18), .ref (m + 1 + 19), .int 0, .null, .null, .null, .int 0, .null, .null] o dX6_init_162 cf6 22 (by decide) (by decide) (hnm.trans rfl) rfl fl_X6_69 hC39.1 rfl rfl (Nat.le_of_ble_eq_true rfl) rfl (fun μ40 e40 => ?_)
  have hC40 := hC39.put e40
  refine v_aload_n 0 o dX6_init_165 rfl rfl ?_
  refine v_sipush 288 o dX6_init_166 (by decide) ?_
  refine v_newI 288 o dX6_init_169 ac_int (by decide) (by decide) (by decide) ?_
  have hC41 := hC40.new (.inl (g.2.1 0, aI 288 (fun _ => 0)))
  have hC41 : CP g 6 m μ0 [.int 0, .int 0, .ref (m + 1 + 0), .ref (m + 1 + 1), .ref (m + 1 + 2), .ref (m + 1 + 3), .ref (m + 1 + 4), .ref (m + 1 + 5), .ref (m + 1 + 6), .ref (m + 1 + 7), .int 0, .ref (m + 1 + 8), .ref (m + 1 + 9), .ref (m + 1 + 10), .ref (m + 1 + 11), .ref (m + 1 + 12), .ref (m + 1 + 13), .ref (m + 1 + 14), .ref (m + 1 + 15), .ref (m + 1 + 16), .ref (m + 1 + 17), .ref (m + 1 + 18), .ref (m + 1 + 19), .int 0, .null, .null, .null, .int 0, .null, .null] [.inl (g.2.1 0, aI 6 (fun _ => 0)), .inl (g.2.1 0, aI 6 (fun _ => 0)), .inl (g.2.1 0, aI 6 (fun _ => 0)), .inl (g.2.1 0, aI 6 (fun _ => 0)), .inl (g.2.1 0, aI 6 (fun _ => 0)), .inl (g.2.1 0, aI 6 (fun _ => 0)), .inl (g.2.1 1, aI 6 (fun _ => 0)), .inl (g.2.1 1, aI 6 (fun _ => 0)), .inl (g.2.1 1, aI 72 (fun _ => 0)), .inl (g.2.1 1, aI 72 (fun _ => 0)), .inl (g.2.1 1, aI 72 (fun _ => 0)), .inl (g.2.1 2, aL 72 (fun _ => 0)), .inl (g.2.1 0, aI 72 (fun _ => 0)), .inl (g.2.1 0, aI 72 (fun _ => 0)), .inl (g.2.1 1, aI 288 (fun _ => 0)), .inl (g.2.1 2, aL 288 (fun _ => 0)), .inl (g.2.1 1, aI 4 (fun _ => 0)), .inl (g.2.1 2, aL 31 (fun _ => 0)), .inl (g.2.1 2, aL 31 (fun _ => 0)), .inl (g.2.1 1, aI 31 (fun _ => 0)), .inl (g.2.1 0, aI 288 (fun _ => 0))] (up μ40 (m + 1 + 20) (.inl (g.2.1 0, aI 288 (fun _ => 0)))) := hC41
  generalize up μ40 (m + 1 + 1 + 1 + 1 + 1 + 1 + 1 + 1 + 1 + 1 + 1 + 1 + 1 + 1 + 1 + 1 + 1 + 1 + 1 + 1 + 1) (.inl (g.2.1 0, aI 288 (fun _ => 0))) = μ41 at hC41 ⊢
  refine v_putF [.int 0, .int 0, .ref (m + 1 + 0), .ref (m + 1 + 1), .ref (m + 1 + 2), .ref (m + 1 + 3), .ref (m + 1 + 4), .ref (m + 1 + 5), .ref (m + 1 + 6), .ref (m + 1 + 7), .int 0, .ref (m + 1 + 8), .ref (m + 1 + 9), .ref (m + 1 + 10), .ref (m + 1 + 11), .ref (m + 1 + 12), .ref (m + 1 + 13), .ref (m + 1 + 14), .ref (m + 1 + 15), .ref (m + 1 + 16), .ref (m + 1 + 17), .ref (m + 1 + 18), .ref (m + 1 + 19), .int 0, .ref (m + 1 + 20), .null, .null, .int 0, .null, .null] o dX6_init_171 cf6 24 (by decide) (by decide) (hnm.trans rfl) rfl fl_X6_72 hC41.1 rfl rfl (Nat.le_of_ble_eq_true rfl) rfl (fun μ42 e42 => ?_)
  have hC42 := hC41.put e42
  refine v_aload_n 0 o dX6_init_174 rfl rfl ?_
  refine v_sipush 1440 o dX6_init_175 (by decide) ?_
  refine v_newI 1440 o dX6_init_178 ac_int (by decide) (by decide) (by decide) ?_
  have hC43 := hC42.new (.inl (g.2.1 0, aI 1440 (fun _ => 0)))
  have hC43 : CP g 6 m μ0 [.int 0, .int 0, .ref (m + 1 + 0), .ref (m + 1 + 1), .ref (m + 1 + 2), .ref (m + 1 + 3), .ref (m + 1 + 4), .ref (m + 1 + 5), .ref (m + 1 + 6), .ref (m + 1 + 7), .int 0, .ref (m + 1 + 8), .ref (m + 1 + 9), .ref (m + 1 + 10), .ref (m + 1 + 11), .ref (m + 1 + 12), .ref (m + 1 + 13), .ref (m + 1 + 14), .ref (m + 1 + 15), .ref (m + 1 + 16), .ref (m + 1 + 17), .ref (m + 1 + 18), .ref (m + 1 + 19), .int 0, .ref (m + 1 + 20), .null, .null, .int 0, .null, .null] [.inl (g.2.1 0, aI 6 (fun _ => 0)), .inl (g.2.1 0, aI 6 (fun _ => 0)), .inl (g.2.1 0, aI 6 (fun _ => 0)), .inl (g.2.1 0, aI 6 (fun _ => 0)), .inl (g.2.1 0, aI 6 (fun _ => 0)), .inl (g.2.1 0, aI 6 (fun _ => 0)), .inl (g.2.1 1, aI 6 (fun _ => 0)), .inl (g.2.1 1, aI 6 (fun _ => 0)), .inl (g.2.1 1, aI 72 (fun _ => 0)), .inl (g.2.1 1, aI 72 (fun _ => 0)), .inl (g.2.1 1, aI 72 (fun _ => 0)), .inl (g.2.1 2, aL 72 (fun _ => 0)), .inl (g.2.1 0, aI 72 (fun _ => 0)), .inl (g.2.1 0, aI 72 (fun _ => 0)), .inl (g.2.1 1, aI 288 (fun _ => 0)), .inl (g.2.1 2, aL 288 (fun _ => 0)), .inl (g.2.1 1, aI 4 (fun _ => 0)), .inl (g.2.1 2, aL 31 (fun _ => 0)), .inl (g.2.1 2, aL 31 (fun _ => 0)), .inl (g.2.1 1, aI 31 (fun _ => 0)), .inl (g.2.1 0, aI 288 (fun _ => 0)), .inl (g.2.1 0, aI 1440 (fun _ => 0))] (up μ42 (m + 1 + 21) (.inl (g.2.1 0, aI 1440 (fun _ => 0)))) := hC43
  generalize up μ42 (m + 1 + 1 + 1 + 1 + 1 + 1 + 1 + 1 + 1 + 1 + 1 + 1 + 1 + 1 + 1 + 1 + 1 + 1 + 1 + 1 + 1 + 1) (.inl (g.2.1 0, aI 1440 (fun _ => 0))) = μ43 at hC43 ⊢
  refine v_putF [.int 0, .int 0, .ref (m + 1 + 0), .ref (m + 1 + 1), .ref (m + 1 + 2), .ref (m + 1 + 3), .ref (m + 1 + 4), .ref (m + 1 + 5), .ref (m + 1 + 6), .ref (m + 1 + 7), .int 0, .ref (m + 1 + 8), .ref (m + 1 + 9), .ref (m + 1 + 10), .ref (m + 1 + 11), .ref (m + 1 + 12), .ref (m + 1 + 13), .ref (m + 1 + 14), .ref (m + 1 + 15), .ref (m + 1 + 16), .ref (m + 1 + 17), .ref (m + 1 + 18), .ref (m + 1 + 19), .int 0, .ref (m + 1 + 20), .ref (m + 1 + 21), .null, .int 0, .null, .null] o dX6_init_180 cf6 25 (by decide) (by decide) (hnm.trans rfl) rfl fl_X6_75 hC43.1 rfl rfl (Nat.le_of_ble_eq_true rfl) rfl (fun μ44 e44 => ?_)
  have hC44 := hC43.put e44
  refine v_aload_n 0 o dX6_init_183 rfl rfl ?_
  refine v_iconst 5 o dX6_init_184 rfl ?_
  refine v_newI 5 o dX6_init_185 ac_int (by decide) (by decide) (by decide) ?_
  have hC45 := hC44.new (.inl (g.2.1 0, aI 5 (fun _ => 0)))
  have hC45 : CP g 6 m μ0 [.int 0, .int 0, .ref (m + 1 + 0), .ref (m + 1 + 1), .ref (m + 1 + 2), .ref (m + 1 + 3), .ref (m + 1 + 4), .ref (m + 1 + 5), .ref (m + 1 + 6), .ref (m + 1 + 7), .int 0, .ref (m + 1 + 8), .ref (m + 1 + 9), .ref (m + 1 + 10), .ref (m + 1 + 11), .ref (m + 1 + 12), .ref (m + 1 + 13), .ref (m + 1 + 14), .ref (m + 1 + 15), .ref (m + 1 + 16), .ref (m + 1 + 17), .ref (m + 1 + 18), .ref (m + 1 + 19), .int 0, .ref (m + 1 + 20), .ref (m + 1 + 21), .null, .int 0, .null, .null] [.inl (g.2.1 0, aI 6 (fun _ => 0)), .inl (g.2.1 0, aI 6 (fun _ => 0)), .inl (g.2.1 0, aI 6 (fun _ => 0)), .inl (g.2.1 0, aI 6 (fun _ => 0)), .inl (g.2.1 0, aI 6 (fun _ => 0)), .inl (g.2.1 0, aI 6 (fun _ => 0)), .inl (g.2.1 1, aI 6 (fun _ => 0)), .inl (g.2.1 1, aI 6 (fun _ => 0)), .inl (g.2.1 1, aI 72 (fun _ => 0)), .inl (g.2.1 1, aI 72 (fun _ => 0)), .inl (g.2.1 1, aI 72 (fun _ => 0)), .inl (g.2.1 2, aL 72 (fun _ => 0)), .inl (g.2.1 0, aI 72 (fun _ => 0)), .inl (g.2.1 0, aI 72 (fun _ => 0)), .inl (g.2.1 1, aI 288 (fun _ => 0)), .inl (g.2.1 2, aL 288 (fun _ => 0)), .inl (g.2.1 1, aI 4 (fun _ => 0)), .inl (g.2.1 2, aL 31 (fun _ => 0)), .inl (g.2.1 2, aL 31 (fun _ => 0)), .inl (g.2.1 1, aI 31 (fun _ => 0)), .inl (g.2.1 0, aI 288 (fun _ => 0)), .inl (g.2.1 0, aI 1440 (fun _ => 0)), .inl (g.2.1 0, aI 5 (fun _ => 0))] (up μ44 (m + 1 + 22) (.inl (g.2.1 0, aI 5 (fun _ => 0)))) := hC45
  generalize up μ44 (m + 1 + 1 + 1 + 1 + 1 + 1 + 1 + 1 + 1 + 1 + 1 + 1 + 1 + 1 + 1 + 1 + 1 + 1 + 1 + 1 + 1 + 1 + 1) (.inl (g.2.1 0, aI 5 (fun _ => 0))) = μ45 at hC45 ⊢
  refine v_putF [.int 0, .int 0, .ref (m + 1 + 0), .ref (m + 1 + 1), .ref (m + 1 + 2), .ref (m + 1 + 3), .ref (m + 1 + 4), .ref (m + 1 + 5), .ref (m + 1 + 6), .ref (m + 1 + 7), .int 0, .ref (m + 1 + 8), .ref (m + 1 + 9), .ref (m + 1 + 10), .ref (m + 1 + 11), .ref (m + 1 + 12), .ref (m + 1 + 13), .ref (m + 1 + 14), .ref (m + 1 + 15), .ref (m + 1 + 16), .ref (m + 1 + 17), .ref (m + 1 + 18), .ref (m + 1 + 19), .int 0, .ref (m + 1 + 20), .ref (m + 1 + 21), .ref (m + 1 + 22), .int 0, .null, .null] o dX6_init_187 cf6 26 (by decide) (by decide) (hnm.trans rfl) rfl fl_X6_78 hC45.1 rfl rfl (Nat.le_of_ble_eq_true rfl) rfl (fun μ46 e46 => ?_)
  have hC46 := hC45.put e46
  refine v_aload_n 0 o dX6_init_190 rfl rfl ?_
  refine v_sipush 2000 o dX6_init_191 (by decide) ?_
  refine v_put [.int 0, .int 0, .ref (m + 1 + 0), .ref (m + 1 + 1), .ref (m + 1 + 2), .ref (m + 1 + 3), .ref (m + 1 + 4), .ref (m + 1 + 5), .ref (m + 1 + 6), .ref (m + 1 + 7), .int 0, .ref (m + 1 + 8), .ref (m + 1 + 9), .ref (m + 1 + 10), .ref (m + 1 + 11), .ref (m + 1 + 12), .ref (m + 1 + 13), .ref (m + 1 + 14), .ref (m + 1 + 15), .ref (m + 1 + 16), .ref (m + 1 + 17), .ref (m + 1 + 18), .ref (m + 1 + 19), .int 0, .ref (m + 1 + 20), .ref (m + 1 + 21), .ref (m + 1 + 22), .int (nI 2000), .null, .null] o dX6_init_194 cf6 27 (by decide) (by decide) fl_X6_81 hC46.1 rfl rfl (Nat.le_of_ble_eq_true rfl) rfl (fun μ47 e47 => ?_)
  have hC47 := hC46.put e47
  refine v_aload_n 0 o dX6_init_197 rfl rfl ?_
  refine v_iconst 4 o dX6_init_198 rfl ?_
  refine v_newI 4 o dX6_init_199 ac_int (by decide) (by decide) (by decide) ?_
  have hC48 := hC47.new (.inl (g.2.1 0, aI 4 (fun _ => 0)))
  have hC48 : CP g 6 m μ0 [.int 0, .int 0, .ref (m + 1 + 0), .ref (m + 1 + 1), .ref (m + 1 + 2), .ref (m + 1 + 3), .ref (m + 1 + 4), .ref (m + 1 + 5), .ref (m + 1 + 6), .ref (m + 1 + 7), .int 0, .ref (m + 1 + 8), .ref (m + 1 + 9), .ref (m + 1 + 10), .ref (m + 1 + 11), .ref (m + 1 + 12), .ref (m + 1 + 13), .ref (m + 1 + 14), .ref (m + 1 + 15), .ref (m + 1 + 16), .ref (m + 1 + 17), .ref (m + 1 + 18), .ref (m + 1 + 19), .int 0, .ref (m + 1 + 20), .ref (m + 1 + 21), .ref (m + 1 + 22), .int (nI 2000), .null, .null] [.inl (g.2.1 0, aI 6 (fun _ => 0)), .inl (g.2.1 0, aI 6 (fun _ => 0)), .inl (g.2.1 0, aI 6 (fun _ => 0)), .inl (g.2.1 0, aI 6 (fun _ => 0)), .inl (g.2.1 0, aI 6 (fun _ => 0)), .inl (g.2.1 0, aI 6 (fun _ => 0)), .inl (g.2.1 1, aI 6 (fun _ => 0)), .inl (g.2.1 1, aI 6 (fun _ => 0)), .inl (g.2.1 1, aI 72 (fun _ => 0)), .inl (g.2.1 1, aI 72 (fun _ => 0)), .inl (g.2.1 1, aI 72 (fun _ => 0)), .inl (g.2.1 2, aL 72 (fun _ => 0)), .inl (g.2.1 0, aI 72 (fun _ => 0)), .inl (g.2.1 0, aI 72 (fun _ => 0)), .inl (g.2.1 1, aI 288 (fun _ => 0)), .inl (g.2.1 2, aL 288 (fun _ => 0)), .inl (g.2.1 1, aI 4 (fun _ => 0)), .inl (g.2.1 2, aL 31 (fun _ => 0)), .inl (g.2.1 2, aL 31 (fun _ => 0)), .inl (g.2.1 1, aI 31 (fun _ => 0)), .inl (g.2.1 0, aI 288 (fun _ => 0)), .inl (g.2.1 0, aI 1440 (fun _ => 0)), .inl (g.2.1 0, aI 5 (fun _ => 0)), .inl (g.2.1 0, aI 4 (fun _ => 0))] (up μ47 (m + 1 + 23) (.inl (g.2.1 0, aI 4 (fun _ => 0)))) := hC48
  generalize up μ47 (m + 1 + 1 + 1 + 1 + 1 + 1 + 1 + 1 + 1 + 1 + 1 + 1 + 1 + 1 + 1 + 1 + 1 + 1 + 1 + 1 + 1 + 1 + 1 + 1) (.inl (g.2.1 0, aI 4 (fun _ => 0))) = μ48 at hC48 ⊢
  refine v_dup o dX6_init_201 rfl ?_
  refine v_iconst 0 o dX6_init_202 rfl ?_
  refine v_bipush 70 o dX6_init_203 (by decide) ?_
  refine v_iast (f := (fun _ => 0)) o dX6_init_205 (by decide) (by decide) (hC48.2.1 23 _ rfl) (fun μ49 e49 => ?_)
  have hC49 := hC48.ast (cs' := [.inl (g.2.1 0, aI 6 (fun _ => 0)), .inl (g.2.1 0, aI 6 (fun _ => 0)), .inl (g.2.1 0, aI 6 (fun _ => 0)), .inl (g.2.1 0, aI 6 (fun _ => 0)), .inl (g.2.1 0, aI 6 (fun _ => 0)), .inl (g.2.1 0, aI 6 (fun _ => 0)), .inl (g.2.1 1, aI 6 (fun _ => 0)), .inl (g.2.1 1, aI 6 (fun _ => 0)), .inl (g.2.1 1, aI 72 (fun _ => 0)), .inl (g.2.1 1, aI 72 (fun _ => 0)), .inl (g.2.1 1, aI 72 (fun _ => 0)), .inl (g.2.1 2, aL 72 (fun _ => 0)), .inl (g.2.1 0, aI 72 (fun _ => 0)), .inl (g.2.1 0, aI 72 (fun _ => 0)), .inl (g.2.1 1, aI 288 (fun _ => 0)), .inl (g.2.1 2, aL 288 (fun _ => 0)), .inl (g.2.1 1, aI 4 (fun _ => 0)), .inl (g.2.1 2, aL 31 (fun _ => 0)), .inl (g.2.1 2, aL 31 (fun _ => 0)), .inl (g.2.1 1, aI 31 (fun _ => 0)), .inl (g.2.1 0, aI 288 (fun _ => 0)), .inl (g.2.1 0, aI 1440 (fun _ => 0)), .inl (g.2.1 0, aI 5 (fun _ => 0)), .inl (g.2.1 0, aI 4 (upd (fun _ => 0) 0 (nI 70)))]) 23 (Nat.le_of_ble_eq_true rfl) rfl e49
  refine v_dup o dX6_init_206 rfl ?_
  refine v_iconst 1 o dX6_init_207 rfl ?_
  refine v_bipush 70 o dX6_init_208 (by decide) ?_
  refine v_iast (f := (upd (fun _ => 0) 0 (nI 70))) o dX6_init_210 (by decide) (by decide) (hC49.2.1 23 _ rfl) (fun μ50 e50 => ?_)
  have hC50 := hC49.ast (cs' := [.inl (g.2.1 0, aI 6 (fun _ => 0)), .inl (g.2.1 0, aI 6 (fun _ => 0)), .inl (g.2.1 0, aI 6 (fun _ => 0)), .inl (g.2.1 0, aI 6 (fun _ => 0)), .inl (g.2.1 0, aI 6 (fun _ => 0)), .inl (g.2.1 0, aI 6 (fun _ => 0)), .inl (g.2.1 1, aI 6 (fun _ => 0)), .inl (g.2.1 1, aI 6 (fun _ => 0)), .inl (g.2.1 1, aI 72 (fun _ => 0)), .inl (g.2.1 1, aI 72 (fun _ => 0)), .inl (g.2.1 1, aI 72 (fun _ => 0)), .inl (g.2.1 2, aL 72 (fun _ => 0)), .inl (g.2.1 0, aI 72 (fun _ => 0)), .inl (g.2.1 0, aI 72 (fun _ => 0)), .inl (g.2.1 1, aI 288 (fun _ => 0)), .inl (g.2.1 2, aL 288 (fun _ => 0)), .inl (g.2.1 1, aI 4 (fun _ => 0)), .inl (g.2.1 2, aL 31 (fun _ => 0)), .inl (g.2.1 2, aL 31 (fun _ => 0)), .inl (g.2.1 1, aI 31 (fun _ => 0)), .inl (g.2.1 0, aI 288 (fun _ => 0)), .inl (g.2.1 0, aI 1440 (fun _ => 0)), .inl (g.2.1 0, aI 5 (fun _ => 0)), .inl (g.2.1 0, aI 4 (upd (upd (fun _ => 0) 0 (nI 70)) 1 (nI 70)))]) 23 (Nat.le_of_ble_eq_true rfl) rfl e50
  refine v_dup o dX6_init_211 rfl ?_
  refine v_iconst 2 o dX6_init_212 rfl ?_
  refine v_bipush 70 o dX6_init_213 (by decide) ?_
  refine v_iast (f := (upd (upd (fun _ => 0) 0 (nI 70)) 1 (nI 70))) o dX6_init_215 (by decide) (by decide) (hC50.2.1 23 _ rfl) (fun μ51 e51 => ?_)
  have hC51 := hC50.ast (cs' := [.inl (g.2.1 0, aI 6 (fun _ => 0)), .inl (g.2.1 0, aI 6 (fun _ => 0)), .inl (g.2.1 0, aI 6 (fun _ => 0)), .inl (g.2.1 0, aI 6 (fun _ => 0)), .inl (g.2.1 0, aI 6 (fun _ => 0)), .inl (g.2.1 0, aI 6 (fun _ => 0)), .inl (g.2.1 1, aI 6 (fun _ => 0)), .inl (g.2.1 1, aI 6 (fun _ => 0)), .inl (g.2.1 1, aI 72 (fun _ => 0)), .inl (g.2.1 1, aI 72 (fun _ => 0)), .inl (g.2.1 1, aI 72 (fun _ => 0)), .inl (g.2.1 2, aL 72 (fun _ => 0)), .inl (g.2.1 0, aI 72 (fun _ => 0)), .inl (g.2.1 0, aI 72 (fun _ => 0)), .inl (g.2.1 1, aI 288 (fun _ => 0)), .inl (g.2.1 2, aL 288 (fun _ => 0)), .inl (g.2.1 1, aI 4 (fun _ => 0)), .inl (g.2.1 2, aL 31 (fun _ => 0)), .inl (g.2.1 2, aL 31 (fun _ => 0)), .inl (g.2.1 1, aI 31 (fun _ => 0)), .inl (g.2.1 0, aI 288 (fun _ => 0)), .inl (g.2.1 0, aI 1440 (fun _ => 0)), .inl (g.2.1 0, aI 5 (fun _ => 0)), .inl (g.2.1 0, aI 4 (upd (upd (upd (fun _ => 0) 0 (nI 70)) 1 (nI 70)) 2 (nI 70)))]) 23 (Nat.le_of_ble_eq_true rfl) rfl e51
  refine v_dup o dX6_init_216 rfl ?_
  refine v_iconst 3 o dX6_init_217 rfl ?_
  refine v_bipush 70 o dX6_init_218 (by decide) ?_
  refine v_iast (f := (upd (upd (upd (fun _ => 0) 0 (nI 70)) 1 (nI 70)) 2 (nI 70))) o dX6_init_220 (by decide) (by decide) (hC51.2.1 23 _ rfl) (fun μ52 e52 => ?_)
  have hC52 := hC51.ast (cs' := [.inl (g.2.1 0, aI 6 (fun _ => 0)), .inl (g.2.1 0, aI 6 (fun _ => 0)), .inl (g.2.1 0, aI 6 (fun _ => 0)), .inl (g.2.1 0, aI 6 (fun _ => 0)), .inl (g.2.1 0, aI 6 (fun _ => 0)), .inl (g.2.1 0, aI 6 (fun _ => 0)), .inl (g.2.1 1, aI 6 (fun _ => 0)), .inl (g.2.1 1, aI 6 (fun _ => 0)), .inl (g.2.1 1, aI 72 (fun _ => 0)), .inl (g.2.1 1, aI 72 (fun _ => 0)), .inl (g.2.1 1, aI 72 (fun _ => 0)), .inl (g.2.1 2, aL 72 (fun _ => 0)), .inl (g.2.1 0, aI 72 (fun _ => 0)), .inl (g.2.1 0, aI 72 (fun _ => 0)), .inl (g.2.1 1, aI 288 (fun _ => 0)), .inl (g.2.1 2, aL 288 (fun _ => 0)), .inl (g.2.1 1, aI 4 (fun _ => 0)), .inl (g.2.1 2, aL 31 (fun _ => 0)), .inl (g.2.1 2, aL 31 (fun _ => 0)), .inl (g.2.1 1, aI 31 (fun _ => 0)), .inl (g.2.1 0, aI 288 (fun _ => 0)), .inl (g.2.1 0, aI 1440 (fun _ => 0)), .inl (g.2.1 0, aI 5 (fun _ => 0)), .inl (g.2.1 0, aI 4 (upd (upd (upd (upd (fun _ => 0) 0 (nI 70)) 1 (nI 70)) 2 (nI 70)) 3 (nI 70)))]) 23 (Nat.le_of_ble_eq_true rfl) rfl e52
  refine v_putF [.int 0, .int 0, .ref (m + 1 + 0), .ref (m + 1 + 1), .ref (m + 1 + 2), .ref (m + 1 + 3), .ref (m + 1 + 4), .ref (m + 1 + 5), .ref (m + 1 + 6), .ref (m + 1 + 7), .int 0, .ref (m + 1 + 8), .ref (m + 1 + 9), .ref (m + 1 + 10), .ref (m + 1 + 11), .ref (m + 1 + 12), .ref (m + 1 + 13), .ref (m + 1 + 14), .ref (m + 1 + 15), .ref (m + 1 + 16), .ref (m + 1 + 17), .ref (m + 1 + 18), .ref (m + 1 + 19), .int 0, .ref (m + 1 + 20), .ref (m + 1 + 21), .ref (m + 1 + 22), .int (nI 2000), .ref (m + 1 + 23), .null] o dX6_init_221 cf6 28 (by decide) (by decide) (hnm.trans rfl) rfl fl_X6_85 hC52.1 rfl rfl (Nat.le_of_ble_eq_true rfl) rfl (fun μ53 e53 => ?_)
  have hC53 := hC52.put e53
  refine v_aload_n 0 o dX6_init_224 rfl rfl ?_
  refine v_bipush 12 o dX6_init_225 (by decide) ?_
  refine v_newI 12 o dX6_init_227 ac_int (by decide) (by decide) (by decide) ?_
  have hC54 := hC53.new (.inl (g.2.1 0, aI 12 (fun _ => 0)))
  have hC54 : CP g 6 m μ0 [.int 0, .int 0, .ref (m + 1 + 0), .ref (m + 1 + 1), .ref (m + 1 + 2), .ref (m + 1 + 3), .ref (m + 1 + 4), .ref (m + 1 + 5), .ref (m + 1 + 6), .ref (m + 1 + 7), .int 0, .ref (m + 1 + 8), .ref (m + 1 + 9), .ref (m + 1 + 10), .ref (m + 1 + 11), .ref (m + 1 + 12), .ref (m + 1 + 13), .ref (m + 1 + 14), .ref (m + 1 + 15), .ref (m + 1 + 16), .ref (m + 1 + 17), .ref (m + 1 + 18), .ref (m + 1 + 19), .int 0, .ref (m + 1 + 20), .ref (m + 1 + 21), .ref (m + 1 + 22), .int (nI 2000), .ref (m + 1 + 23), .null] [.inl (g.2.1 0, aI 6 (fun _ => 0)), .inl (g.2.1 0, aI 6 (fun _ => 0)), .inl (g.2.1 0, aI 6 (fun _ => 0)), .inl (g.2.1 0, aI 6 (fun _ => 0)), .inl (g.2.1 0, aI 6 (fun _ => 0)), .inl (g.2.1 0, aI 6 (fun _ => 0)), .inl (g.2.1 1, aI 6 (fun _ => 0)), .inl (g.2.1 1, aI 6 (fun _ => 0)), .inl (g.2.1 1, aI 72 (fun _ => 0)), .inl (g.2.1 1, aI 72 (fun _ => 0)), .inl (g.2.1 1, aI 72 (fun _ => 0)), .inl (g.2.1 2, aL 72 (fun _ => 0)), .inl (g.2.1 0, aI 72 (fun _ => 0)), .inl (g.2.1 0, aI 72 (fun _ => 0)), .inl (g.2.1 1, aI 288 (fun _ => 0)), .inl (g.2.1 2, aL 288 (fun _ => 0)), .inl (g.2.1 1, aI 4 (fun _ => 0)), .inl (g.2.1 2, aL 31 (fun _ => 0)), .inl (g.2.1 2, aL 31 (fun _ => 0)), .inl (g.2.1 1, aI 31 (fun _ => 0)), .inl (g.2.1 0, aI 288 (fun _ => 0)), .inl (g.2.1 0, aI 1440 (fun _ => 0)), .inl (g.2.1 0, aI 5 (fun _ => 0)), .inl (g.2.1 0, aI 4 (upd (upd (upd (upd (fun _ => 0) 0 (nI 70)) 1 (nI 70)) 2 (nI 70)) 3 (nI 70))), .inl (g.2.1 0, aI 12 (fun _ => 0))] (up μ53 (m + 1 + 24) (.inl (g.2.1 0, aI 12 (fun _ => 0)))) := hC54
  generalize up μ53 (m + 1 + 1 + 1 + 1 + 1 + 1 + 1 + 1 + 1 + 1 + 1 + 1 + 1 + 1 + 1 + 1 + 1 + 1 + 1 + 1 + 1 + 1 + 1 + 1 + 1) (.inl (g.2.1 0, aI 12 (fun _ => 0))) = μ54 at hC54 ⊢
  refine v_putF [.int 0, .int 0, .ref (m + 1 + 0), .ref (m + 1 + 1), .ref (m + 1 + 2), .ref (m + 1 + 3), .ref (m + 1 + 4), .ref (m + 1 + 5), .ref (m + 1 + 6), .ref (m + 1 + 7), .int 0, .ref (m + 1 + 8), .ref (m + 1 + 9), .ref (m + 1 + 10), .ref (m + 1 + 11), .ref (m + 1 + 12), .ref (m + 1 + 13), .ref (m + 1 + 14), .ref (m + 1 + 15), .ref (m + 1 + 16), .ref (m + 1 + 17), .ref (m + 1 + 18), .ref (m + 1 + 19), .int 0, .ref (m + 1 + 20), .ref (m + 1 + 21), .ref (m + 1 + 22), .int (nI 2000), .ref (m + 1 + 23), .ref (m + 1 + 24)] o dX6_init_229 cf6 29 (by decide) (by decide) (hnm.trans rfl) rfl fl_X6_88 hC54.1 rfl rfl (Nat.le_of_ble_eq_true rfl) rfl (fun μ55 e55 => ?_)
  have hC55 := hC54.put e55
  refine v_vret o dX6_init_232 hr (Nat.le_of_ble_eq_true rfl) (Nat.le_of_ble_eq_true rfl) ⟨rfl, ⟨?_, fun a ha => hC55.2.2 a (by exact ha)⟩, rfl⟩
  intro k hk
  rcases (show k = 0 ∨ k = 1 ∨ k = 2 ∨ k = 3 ∨ k = 4 ∨ k = 5 ∨ k = 6 ∨ k = 7 ∨ k = 8 ∨ k = 9 ∨ k = 10 ∨ k = 11 ∨ k = 12 ∨ k = 13 ∨ k = 14 ∨ k = 15 ∨ k = 16 ∨ k = 17 ∨ k = 18 ∨ k = 19 ∨ k = 20 ∨ k = 21 ∨ k = 22 ∨ k = 23 ∨ k = 24 ∨ k = 25 by omega) with rfl | rfl | rfl | rfl | rfl | rfl | rfl | rfl | rfl | rfl | rfl | rfl | rfl | rfl | rfl | rfl | rfl | rfl | rfl | rfl | rfl | rfl | rfl | rfl | rfl | rfl
  · exact hC55.1
  · exact hC55.2.1 0 _ rfl
  · exact hC55.2.1 1 _ rfl
  · exact hC55.2.1 2 _ rfl
  · exact hC55.2.1 3 _ rfl
  · exact hC55.2.1 4 _ rfl
  · exact hC55.2.1 5 _ rfl
  · exact hC55.2.1 6 _ rfl
  · exact hC55.2.1 7 _ rfl
  · exact hC55.2.1 8 _ rfl
  · exact hC55.2.1 9 _ rfl
  · exact hC55.2.1 10 _ rfl
  · exact hC55.2.1 11 _ rfl
  · exact hC55.2.1 12 _ rfl
  · exact hC55.2.1 13 _ rfl
  · exact hC55.2.1 14 _ rfl
  · exact hC55.2.1 15 _ rfl
  · exact hC55.2.1 16 _ rfl
  · exact hC55.2.1 17 _ rfl
  · exact hC55.2.1 18 _ rfl
  · exact hC55.2.1 19 _ rfl
  · exact hC55.2.1 20 _ rfl
  · exact hC55.2.1 21 _ rfl
  · exact hC55.2.1 22 _ rfl
  · refine (hC55.2.1 23 _ rfl).trans ?_
    show some (Sum.inl (g.2.1 0, aI 4 _) : va_E) = some (Sum.inl (g.2.1 0, aI 4 _))
    have e9 : ∀ j : Nat, upd (upd (upd (upd (fun _ => (0 : Int32)) 0 (nI 70)) 1 (nI 70)) 2 (nI 70)) 3 (nI 70) j = σ0.2.2.1 7 j := fun j => by
      show _ = (if (7 : Nat) = 8 ∧ j = 1 then nI 2000 else if (7 : Nat) = 7 ∧ j < 4 then nI 70 else (0 : Int32))
      rcases (show j = 0 ∨ j = 1 ∨ j = 2 ∨ j = 3 ∨ 4 ≤ j by omega) with rfl | rfl | rfl | rfl | h4
      iterate 4 simp [upd]
      simp [upd, show ¬ j < 4 by omega, show ¬ j = 3 by omega, show ¬ j = 2 by omega, show ¬ j = 1 by omega, show ¬ j = 0 by omega]
    rw [show upd (upd (upd (upd (fun _ => (0 : Int32)) 0 (nI 70)) 1 (nI 70)) 2 (nI 70)) 3 (nI 70) = σ0.2.2.1 7 from funext e9]
  · refine (hC55.2.1 24 _ rfl).trans ?_
    show some (Sum.inl (g.2.1 0, aI 12 _) : va_E) = some (Sum.inl (g.2.1 0, aI 12 (fun i => mI (σ0.1 5 i))))
    rw [show (fun i => mI (σ0.1 5 i)) = (fun _ => (0 : Int32)) from funext fun i => (show mI 1 = 0 by decide)]

