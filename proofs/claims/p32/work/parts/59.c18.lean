theorem upm_z {μ : mM} {z n : Nat} {e r : va_E} : upm μ z n e r z = some e := if_pos rfl
theorem upm_r {μ : mM} {z n q : Nat} {e r : va_E} (h : z < q) (h2 : q ≤ z + n) : upm μ z n e r q = some r := (if_neg (by omega)).trans (if_pos ⟨h, h2⟩)
theorem upm_n {μ : mM} {z n q : Nat} {e r : va_E} (h : q < z ∨ z + n < q) : upm μ z n e r q = μ q := (if_neg (by omega)).trans (if_neg (by omega))
theorem CP.newM {g : mG} {ci m : Nat} {μ0 μ : mM} {fs : List Value} {cs : List va_E} (h : CP g ci m μ0 fs cs μ) (e r : va_E) : CP g ci m μ0 fs (cs ++ [e, r, r, r, r, r]) (upm μ (m + 1 + cs.length) 5 e r) := by
  refine ⟨?_, fun k x hx => ?_, fun a ha => ?_⟩
  · rw [upm_n (by omega)]
    exact h.1
  · by_cases q : k < cs.length
    · rw [List.getElem?_append_left q] at hx
      rw [upm_n (by omega)]
      exact h.2.1 k x hx
    · rw [List.getElem?_append_right (by omega)] at hx
      by_cases w : k = cs.length
      · subst w
        rw [Nat.sub_self] at hx
        cases hx
        exact upm_z
      · have hl : k - cs.length < 6 := (List.getElem?_eq_some_iff.mp hx).1
        rw [upm_r (by omega) (by omega)]
        rcases (show k - cs.length = 1 ∨ k - cs.length = 2 ∨ k - cs.length = 3 ∨ k - cs.length = 4 ∨ k - cs.length = 5 by omega) with v | v | v | v | v <;> (rw [v] at hx; cases hx; rfl)
  · rw [List.length_append] at ha
    have : [e, r, r, r, r, r].length = 6 := rfl
    rw [upm_n (by omega)]
    exact h.2.2 a (by omega)
theorem CP.app {g : mG} {ci c2 m m2 : Nat} {μ0 μ μ1 : mM} {fs f2 : List Value} {cs c2s : List va_E} (h : CP g ci m μ0 fs cs μ) (hm : m2 = m + 1 + cs.length) (h2 : CP g c2 m2 μ f2 c2s μ1) : CP g ci m μ0 fs (cs ++ (.inr (c2, f2) :: c2s)) μ1 := by
  subst hm
  refine ⟨?_, fun k x hx => ?_, fun a ha => ?_⟩
  · rw [h2.2.2 m (by omega)]
    exact h.1
  · by_cases q : k < cs.length
    · rw [List.getElem?_append_left q] at hx
      rw [h2.2.2 _ (by omega)]
      exact h.2.1 k x hx
    · rw [List.getElem?_append_right (by omega)] at hx
      by_cases w : k = cs.length
      · subst w
        rw [Nat.sub_self] at hx
        cases hx
        exact h2.1
      · obtain ⟨d, hd⟩ : ∃ d, k - cs.length = d + 1 := ⟨k - cs.length - 1, by omega⟩
        rw [hd] at hx
        have := h2.2.1 d x hx
        rwa [show m + 1 + cs.length + 1 + d = m + 1 + k by omega] at this
  · rw [List.length_append, List.length_cons] at ha
    rw [h2.2.2 a (by omega), h.2.2 a (by omega)]
def fl4 : Nat → Int32 := fun i => if i < 4 then -1 else 0
set_option maxRecDepth 100000 in
set_option maxHeartbeats 4000000 in
theorem c_Page {l : Launch} (hl : l.stackTraces = false) {g : mG} {a : Nat} {μ0 μ : mM} (hC : CP g 2 a μ0 [.int 0, .int 0, .int 0, .long 0, .null, .null, .int 0, .int 0, .null, .null] [] μ) : Ct l g yX2_init [Cond.code yX2_init cX2_init 2 none] { frames := 1, cells := 9, slots := 37, locals := 23 } [.ref a] μ (a + 1) (fun r μ' z' => r = none ∧ CP g 2 a μ0 [.int 0, .int 0, .int 0, .long 0, .ref (a + 1 + 0), .ref (a + 1 + 1), .int 0, .int 0, .ref (a + 1 + 2), .ref (a + 1 + 3)] [.inl (g.2.1 1, aI 4 (fun _ => 0)), .inl (g.2.1 2, aL 4 (fun _ => 0)), .inl (g.2.1 0, aI 4 (fun i => if i < 4 then (-1) else (fun _ => 0) i)), .inl (g.2.1 5, aQ 5 (fun i => if i < 5 then some (a + 4 + 1 + i) else none)), .inl (g.2.1 0, aI 4 (fun i => if i < 4 then (-1) else (fun _ => 0) i)), .inl (g.2.1 0, aI 4 (fun i => if i < 4 then (-1) else (fun _ => 0) i)), .inl (g.2.1 0, aI 4 (fun i => if i < 4 then (-1) else (fun _ => 0) i)), .inl (g.2.1 0, aI 4 (fun i => if i < 4 then (-1) else (fun _ => 0) i)), .inl (g.2.1 0, aI 4 (fun i => if i < 4 then (-1) else (fun _ => 0) i))] μ' ∧ z' = a + 10) (noX) := by
  refine Ct.of hl (by decide +kernel) (Nat.le_of_ble_eq_true rfl) ?_
  intro p e s mi args below meth c o hnm hr hx
  have o : Ok p l s mi args meth c g cX2_init 2 RX2 := o
  refine v_lv [(0, .ref a)] rfl ?_
  refine v_aload_n 0 o dX2_init_0 rfl rfl ?_
  refine v_objInit o dX2_init_1 ml_X2_3 im_obj co_obj (Nat.le_of_ble_eq_true rfl) (Nat.le_of_ble_eq_true rfl) ?_
  refine v_aload_n 0 o dX2_init_4 rfl rfl ?_
  refine v_iconst 4 o dX2_init_5 rfl ?_
  refine v_newZ 4 o dX2_init_6 ac_boolean (by decide) (Nat.le_of_ble_eq_true rfl) (Nat.le_of_ble_eq_true rfl) ?_
  have hC1 := hC.new (.inl (g.2.1 1, aI 4 (fun _ => 0)))
  have hC1 : CP g 2 a μ0 [.int 0, .int 0, .int 0, .long 0, .null, .null, .int 0, .int 0, .null, .null] [.inl (g.2.1 1, aI 4 (fun _ => 0))] (up μ (a + 1) (.inl (g.2.1 1, aI 4 (fun _ => 0)))) := hC1
  generalize up μ (a + 1) (.inl (g.2.1 1, aI 4 (fun _ => 0))) = μ1 at hC1 ⊢
  refine v_putF [.int 0, .int 0, .int 0, .long 0, .ref (a + 1 + 0), .null, .int 0, .int 0, .null, .null] o dX2_init_8 cf2 4 (by decide) (by decide) (hnm.trans rfl) rfl fl_X2_9 hC1.1 rfl rfl (Nat.le_of_ble_eq_true rfl) rfl (fun μ2 e2 => ?_)
  have hC2 := hC1.put e2
  refine v_aload_n 0 o dX2_init_11 rfl rfl ?_
  refine v_iconst 4 o dX2_init_12 rfl ?_
  refine v_newL 4 o dX2_init_13 ac_long (by decide) (Nat.le_of_ble_eq_true rfl) (Nat.le_of_ble_eq_true rfl) ?_
  have hC3 := hC2.new (.inl (g.2.1 2, aL 4 (fun _ => 0)))
  have hC3 : CP g 2 a μ0 [.int 0, .int 0, .int 0, .long 0, .ref (a + 1 + 0), .null, .int 0, .int 0, .null, .null] [.inl (g.2.1 1, aI 4 (fun _ => 0)), .inl (g.2.1 2, aL 4 (fun _ => 0))] (up μ2 (a + 1 + 1) (.inl (g.2.1 2, aL 4 (fun _ => 0)))) := hC3
  generalize up μ2 (a + 1 + 1) (.inl (g.2.1 2, aL 4 (fun _ => 0))) = μ3 at hC3 ⊢
  refine v_putF [.int 0, .int 0, .int 0, .long 0, .ref (a + 1 + 0), .ref (a + 1 + 1), .int 0, .int 0, .null, .null] o dX2_init_15 cf2 5 (by decide) (by decide) (hnm.trans rfl) rfl fl_X2_15 hC3.1 rfl rfl (Nat.le_of_ble_eq_true rfl) rfl (fun μ4 e4 => ?_)
  have hC4 := hC3.put e4
  refine v_aload_n 0 o dX2_init_18 rfl rfl ?_
  refine v_iconst 4 o dX2_init_19 rfl ?_
  refine v_newI 4 o dX2_init_20 ac_int (by decide) (Nat.le_of_ble_eq_true rfl) (Nat.le_of_ble_eq_true rfl) ?_
  have hC5 := hC4.new (.inl (g.2.1 0, aI 4 (fun _ => 0)))
  have hC5 : CP g 2 a μ0 [.int 0, .int 0, .int 0, .long 0, .ref (a + 1 + 0), .ref (a + 1 + 1), .int 0, .int 0, .null, .null] [.inl (g.2.1 1, aI 4 (fun _ => 0)), .inl (g.2.1 2, aL 4 (fun _ => 0)), .inl (g.2.1 0, aI 4 (fun _ => 0))] (up μ4 (a + 1 + 2) (.inl (g.2.1 0, aI 4 (fun _ => 0)))) := hC5
  generalize up μ4 (a + 1 + 1 + 1) (.inl (g.2.1 0, aI 4 (fun _ => 0))) = μ5 at hC5 ⊢
  refine v_putF [.int 0, .int 0, .int 0, .long 0, .ref (a + 1 + 0), .ref (a + 1 + 1), .int 0, .int 0, .ref (a + 1 + 2), .null] o dX2_init_22 cf2 8 (by decide) (by decide) (hnm.trans rfl) rfl fl_X2_19 hC5.1 rfl rfl (Nat.le_of_ble_eq_true rfl) rfl (fun μ6 e6 => ?_)
  have hC6 := hC5.put e6
  refine v_aload_n 0 o dX2_init_25 rfl rfl ?_
  refine v_iconst 5 o dX2_init_26 rfl ?_
  refine v_iconst 4 o dX2_init_27 rfl ?_
  refine v_newII 5 4 o dX2_init_28 cl_X2_23 ac_int (by decide) (by decide) (Nat.le_of_ble_eq_true rfl) (Nat.le_of_ble_eq_true rfl) ?_
  have hC7 := hC6.newM (.inl (g.2.1 5, aQ 5 (fun i => if i < 5 then some (a + 4 + 1 + i) else none))) (.inl (g.2.1 0, aI 4 (fun _ => 0)))
  have hC7 : CP g 2 a μ0 [.int 0, .int 0, .int 0, .long 0, .ref (a + 1 + 0), .ref (a + 1 + 1), .int 0, .int 0, .ref (a + 1 + 2), .null] [.inl (g.2.1 1, aI 4 (fun _ => 0)), .inl (g.2.1 2, aL 4 (fun _ => 0)), .inl (g.2.1 0, aI 4 (fun _ => 0)), .inl (g.2.1 5, aQ 5 (fun i => if i < 5 then some (a + 4 + 1 + i) else none)), .inl (g.2.1 0, aI 4 (fun _ => 0)), .inl (g.2.1 0, aI 4 (fun _ => 0)), .inl (g.2.1 0, aI 4 (fun _ => 0)), .inl (g.2.1 0, aI 4 (fun _ => 0)), .inl (g.2.1 0, aI 4 (fun _ => 0))] (upm μ6 (a + 1 + 1 + 1 + 1) 5 (.inl (g.2.1 5, aQ 5 (fun i => if i < 5 then some (a + 4 + 1 + i) else none))) (.inl (g.2.1 0, aI 4 (fun _ => 0)))) := hC7
  generalize upm μ6 (a + 1 + 1 + 1 + 1) 5 (.inl (g.2.1 5, aQ 5 (fun i => if i < 5 then some (a + 4 + 1 + i) else none))) (.inl (g.2.1 0, aI 4 (fun _ => 0))) = μ7 at hC7 ⊢
  refine v_putF [.int 0, .int 0, .int 0, .long 0, .ref (a + 1 + 0), .ref (a + 1 + 1), .int 0, .int 0, .ref (a + 1 + 2), .ref (a + 1 + 3)] o dX2_init_32 cf2 9 (by decide) (by decide) (hnm.trans rfl) rfl fl_X2_25 hC7.1 rfl rfl (Nat.le_of_ble_eq_true rfl) rfl (fun μ8 e8 => ?_)
  have hC8 := hC7.put e8
  refine v_aload_n 0 o dX2_init_35 rfl rfl ?_
  refine v_get (v := .ref (a + 1 + 2)) o dX2_init_36 cf2 8 (by decide) fl_X2_19 hC8.1 rfl ?_
  refine v_iconst_i (-1) o dX2_init_39 (by decide) ?_
  refine v_callS [.ref (a + 1 + 2), .int (-1)] [] o dX2_init_40 cwf_X2_28 st_fill (c_fill (f := (fun _ => 0)) hl ((-1)) (by decide) (hC8.2.1 2 _ rfl)) rfl rfl (by decide) ⟨Nat.le_of_ble_eq_true rfl, Nat.le_of_ble_eq_true rfl⟩ (Nat.le_of_ble_eq_true rfl) ?_ (fun _ _ _ _ h => h.elim)
  rintro _ μ9 _ _ ⟨rfl, e9, rfl⟩
  have hC9 := hC8.ast (cs' := [.inl (g.2.1 1, aI 4 (fun _ => 0)), .inl (g.2.1 2, aL 4 (fun _ => 0)), .inl (g.2.1 0, aI 4 (fun i => if i < 4 then (-1) else (fun _ => 0) i)), .inl (g.2.1 5, aQ 5 (fun i => if i < 5 then some (a + 4 + 1 + i) else none)), .inl (g.2.1 0, aI 4 (fun _ => 0)), .inl (g.2.1 0, aI 4 (fun _ => 0)), .inl (g.2.1 0, aI 4 (fun _ => 0)), .inl (g.2.1 0, aI 4 (fun _ => 0)), .inl (g.2.1 0, aI 4 (fun _ => 0))]) 2 (Nat.le_of_ble_eq_true rfl) rfl e9
  refine v_st [] rfl ?_
  refine v_iconst 0 o dX2_init_43 rfl ?_
  refine v_istore_n [(1, .int (nI 0)), (0, .ref a)] o dX2_init_44 rfl (by decide) rfl ?_
  refine v_iload_n 0 o dX2_init_45 rfl rfl ?_
  refine v_iconst 5 o dX2_init_46 rfl ?_
  refine v_icmp_ge_n 66 o dX2_init_47 (by decide) (by decide) (by decide) (fun c47 => absurd c47 (by omega)) (fun c47 => ?_)
  refine v_aload_n 1 o dX2_init_50 rfl rfl ?_
  refine v_get (v := .ref (a + 1 + 3)) o dX2_init_51 cf2 9 (by decide) fl_X2_25 hC9.1 rfl ?_
  refine v_iload_n 0 o dX2_init_54 rfl rfl ?_
  refine v_aaldI (.ref (a + 1 + 4)) o dX2_init_55 (by decide) (by decide) (hC9.2.1 3 _ rfl) rfl ?_
  refine v_iconst_i (-1) o dX2_init_56 (by decide) ?_
  refine v_callS [.ref (a + 1 + 4), .int (-1)] [] o dX2_init_57 cwf_X2_28 st_fill (c_fill (f := (fun _ => 0)) hl ((-1)) (by decide) (hC9.2.1 4 _ rfl)) rfl rfl (by decide) ⟨Nat.le_of_ble_eq_true rfl, Nat.le_of_ble_eq_true rfl⟩ (Nat.le_of_ble_eq_true rfl) ?_ (fun _ _ _ _ h => h.elim)
  rintro _ μ10 _ _ ⟨rfl, e10, rfl⟩
  have hC10 := hC9.ast (cs' := [.inl (g.2.1 1, aI 4 (fun _ => 0)), .inl (g.2.1 2, aL 4 (fun _ => 0)), .inl (g.2.1 0, aI 4 (fun i => if i < 4 then (-1) else (fun _ => 0) i)), .inl (g.2.1 5, aQ 5 (fun i => if i < 5 then some (a + 4 + 1 + i) else none)), .inl (g.2.1 0, aI 4 (fun i => if i < 4 then (-1) else (fun _ => 0) i)), .inl (g.2.1 0, aI 4 (fun _ => 0)), .inl (g.2.1 0, aI 4 (fun _ => 0)), .inl (g.2.1 0, aI 4 (fun _ => 0)), .inl (g.2.1 0, aI 4 (fun _ => 0))]) 4 (Nat.le_of_ble_eq_true rfl) rfl e10
  refine v_st [] rfl ?_
  refine v_iinc (nI 1) [(1, .int (nI 1)), (0, .ref a)] o dX2_init_60 0 rfl (by decide) (by decide) rfl ?_
  refine v_goto 45 o dX2_init_63 (by decide) ?_
  refine v_iload_n 0 o dX2_init_45 rfl rfl ?_
  refine v_iconst 5 o dX2_init_46 rfl ?_
  refine v_icmp_ge_n 66 o dX2_init_47 (by decide) (by decide) (by decide) (fun c47 => absurd c47 (by omega)) (fun c47 => ?_)
  refine v_aload_n 1 o dX2_init_50 rfl rfl ?_
  refine v_get (v := .ref (a + 1 + 3)) o dX2_init_51 cf2 9 (by decide) fl_X2_25 hC10.1 rfl ?_
  refine v_iload_n 0 o dX2_init_54 rfl rfl ?_
  refine v_aaldI (.ref (a + 1 + 5)) o dX2_init_55 (by decide) (by decide) (hC10.2.1 3 _ rfl) rfl ?_
  refine v_iconst_i (-1) o dX2_init_56 (by decide) ?_
  refine v_callS [.ref (a + 1 + 5), .int (-1)] [] o dX2_init_57 cwf_X2_28 st_fill (c_fill (f := (fun _ => 0)) hl ((-1)) (by decide) (hC10.2.1 5 _ rfl)) rfl rfl (by decide) ⟨Nat.le_of_ble_eq_true rfl, Nat.le_of_ble_eq_true rfl⟩ (Nat.le_of_ble_eq_true rfl) ?_ (fun _ _ _ _ h => h.elim)
  rintro _ μ11 _ _ ⟨rfl, e11, rfl⟩
  have hC11 := hC10.ast (cs' := [.inl (g.2.1 1, aI 4 (fun _ => 0)), .inl (g.2.1 2, aL 4 (fun _ => 0)), .inl (g.2.1 0, aI 4 (fun i => if i < 4 then (-1) else (fun _ => 0) i)), .inl (g.2.1 5, aQ 5 (fun i => if i < 5 then some (a + 4 + 1 + i) else none)), .inl (g.2.1 0, aI 4 (fun i => if i < 4 then (-1) else (fun _ => 0) i)), .inl (g.2.1 0, aI 4 (fun i => if i < 4 then (-1) else (fun _ => 0) i)), .inl (g.2.1 0, aI 4 (fun _ => 0)), .inl (g.2.1 0, aI 4 (fun _ => 0)), .inl (g.2.1 0, aI 4 (fun _ => 0))]) 5 (Nat.le_of_ble_eq_true rfl) rfl e11
  refine v_st [] rfl ?_
  refine v_iinc (nI 2) [(1, .int (nI 2)), (0, .ref a)] o dX2_init_60 0 rfl (by decide) (by decide) rfl ?_
  refine v_goto 45 o dX2_init_63 (by decide) ?_
  refine v_iload_n 0 o dX2_init_45 rfl rfl ?_
  refine v_iconst 5 o dX2_init_46 rfl ?_
  refine v_icmp_ge_n 66 o dX2_init_47 (by decide) (by decide) (by decide) (fun c47 => absurd c47 (by omega)) (fun c47 => ?_)
  refine v_aload_n 1 o dX2_init_50 rfl rfl ?_
  refine v_get (v := .ref (a + 1 + 3)) o dX2_init_51 cf2 9 (by decide) fl_X2_25 hC11.1 rfl ?_
  refine v_iload_n 0 o dX2_init_54 rfl rfl ?_
  refine v_aaldI (.ref (a + 1 + 6)) o dX2_init_55 (by decide) (by decide) (hC11.2.1 3 _ rfl) rfl ?_
  refine v_iconst_i (-1) o dX2_init_56 (by decide) ?_
  refine v_callS [.ref (a + 1 + 6), .int (-1)] [] o dX2_init_57 cwf_X2_28 st_fill (c_fill (f := (fun _ => 0)) hl ((-1)) (by decide) (hC11.2.1 6 _ rfl)) rfl rfl (by decide) ⟨Nat.le_of_ble_eq_true rfl, Nat.le_of_ble_eq_true rfl⟩ (Nat.le_of_ble_eq_true rfl) ?_ (fun _ _ _ _ h => h.elim)
  rintro _ μ12 _ _ ⟨rfl, e12, rfl⟩
  have hC12 := hC11.ast (cs' := [.inl (g.2.1 1, aI 4 (fun _ => 0)), .inl (g.2.1 2, aL 4 (fun _ => 0)), .inl (g.2.1 0, aI 4 (fun i => if i < 4 then (-1) else (fun _ => 0) i)), .inl (g.2.1 5, aQ 5 (fun i => if i < 5 then some (a + 4 + 1 + i) else none)), .inl (g.2.1 0, aI 4 (fun i => if i < 4 then (-1) else (fun _ => 0) i)), .inl (g.2.1 0, aI 4 (fun i => if i < 4 then (-1) else (fun _ => 0) i)), .inl (g.2.1 0, aI 4 (fun i => if i < 4 then (-1) else (fun _ => 0) i)), .inl (g.2.1 0, aI 4 (fun _ => 0)), .inl (g.2.1 0, aI 4 (fun _ => 0))]) 6 (Nat.le_of_ble_eq_true rfl) rfl e12
  refine v_st [] rfl ?_
  refine v_iinc (nI 3) [(1, .int (nI 3)), (0, .ref a)] o dX2_init_60 0 rfl (by decide) (by decide) rfl ?_
  refine v_goto 45 o dX2_init_63 (by decide) ?_
  refine v_iload_n 0 o dX2_init_45 rfl rfl ?_
  refine v_iconst 5 o dX2_init_46 rfl ?_
  refine v_icmp_ge_n 66 o dX2_init_47 (by decide) (by decide) (by decide) (fun c47 => absurd c47 (by omega)) (fun c47 => ?_)
  refine v_aload_n 1 o dX2_init_50 rfl rfl ?_
  refine v_get (v := .ref (a + 1 + 3)) o dX2_init_51 cf2 9 (by decide) fl_X2_25 hC12.1 rfl ?_
  refine v_iload_n 0 o dX2_init_54 rfl rfl ?_
  refine v_aaldI (.ref (a + 1 + 7)) o dX2_init_55 (by decide) (by decide) (hC12.2.1 3 _ rfl) rfl ?_
  refine v_iconst_i (-1) o dX2_init_56 (by decide) ?_
  refine v_callS [.ref (a + 1 + 7), .int (-1)] [] o dX2_init_57 cwf_X2_28 st_fill (c_fill (f := (fun _ => 0)) hl ((-1)) (by decide) (hC12.2.1 7 _ rfl)) rfl rfl (by decide) ⟨Nat.le_of_ble_eq_true rfl, Nat.le_of_ble_eq_true rfl⟩ (Nat.le_of_ble_eq_true rfl) ?_ (fun _ _ _ _ h => h.elim)
  rintro _ μ13 _ _ ⟨rfl, e13, rfl⟩
  have hC13 := hC12.ast (cs' := [.inl (g.2.1 1, aI 4 (fun _ => 0)), .inl (g.2.1 2, aL 4 (fun _ => 0)), .inl (g.2.1 0, aI 4 (fun i => if i < 4 then (-1) else (fun _ => 0) i)), .inl (g.2.1 5, aQ 5 (fun i => if i < 5 then some (a + 4 + 1 + i) else none)), .inl (g.2.1 0, aI 4 (fun i => if i < 4 then (-1) else (fun _ => 0) i)), .inl (g.2.1 0, aI 4 (fun i => if i < 4 then (-1) else (fun _ => 0) i)), .inl (g.2.1 0, aI 4 (fun i => if i < 4 then (-1) else (fun _ => 0) i)), .inl (g.2.1 0, aI 4 (fun i => if i < 4 then (-1) else (fun _ => 0) i)), .inl (g.2.1 0, aI 4 (fun _ => 0))]) 7 (Nat.le_of_ble_eq_true rfl) rfl e13
  refine v_st [] rfl ?_
  refine v_iinc (nI 4) [(1, .int (nI 4)), (0, .ref a)] o dX2_init_60 0 rfl (by decide) (by decide) rfl ?_
  refine v_goto 45 o dX2_init_63 (by decide) ?_
  refine v_iload_n 0 o dX2_init_45 rfl rfl ?_
  refine v_iconst 5 o dX2_init_46 rfl ?_
  refine v_icmp_ge_n 66 o dX2_init_47 (by decide) (by decide) (by decide) (fun c47 => absurd c47 (by omega)) (fun c47 => ?_)
  refine v_aload_n 1 o dX2_init_50 rfl rfl ?_
  refine v_get (v := .ref (a + 1 + 3)) o dX2_init_51 cf2 9 (by decide) fl_X2_25 hC13.1 rfl ?_
  refine v_iload_n 0 o dX2_init_54 rfl rfl ?_
  refine v_aaldI (.ref (a + 1 + 8)) o dX2_init_55 (by decide) (by decide) (hC13.2.1 3 _ rfl) rfl ?_
  refine v_iconst_i (-1) o dX2_init_56 (by decide) ?_
  refine v_callS [.ref (a + 1 + 8), .int (-1)] [] o dX2_init_57 cwf_X2_28 st_fill (c_fill (f := (fun _ => 0)) hl ((-1)) (by decide) (hC13.2.1 8 _ rfl)) rfl rfl (by decide) ⟨Nat.le_of_ble_eq_true rfl, Nat.le_of_ble_eq_true rfl⟩ (Nat.le_of_ble_eq_true rfl) ?_ (fun _ _ _ _ h => h.elim)
  rintro _ μ14 _ _ ⟨rfl, e14, rfl⟩
  have hC14 := hC13.ast (cs' := [.inl (g.2.1 1, aI 4 (fun _ => 0)), .inl (g.2.1 2, aL 4 (fun _ => 0)), .inl (g.2.1 0, aI 4 (fun i => if i < 4 then (-1) else (fun _ => 0) i)), .inl (g.2.1 5, aQ 5 (fun i => if i < 5 then some (a + 4 + 1 + i) else none)), .inl (g.2.1 0, aI 4 (fun i => if i < 4 then (-1) else (fun _ => 0) i)), .inl (g.2.1 0, aI 4 (fun i => if i < 4 then (-1) else (fun _ => 0) i)), .inl (g.2.1 0, aI 4 (fun i => if i < 4 then (-1) else (fun _ => 0) i)), .inl (g.2.1 0, aI 4 (fun i => if i < 4 then (-1) else (fun _ => 0) i)), .inl (g.2.1 0, aI 4 (fun i => if i < 4 then (-1) else (fun _ => 0) i))]) 8 (Nat.le_of_ble_eq_true rfl) rfl e14
  refine v_st [] rfl ?_
  refine v_iinc (nI 5) [(1, .int (nI 5)), (0, .ref a)] o dX2_init_60 0 rfl (by decide) (by decide) rfl ?_
  refine v_goto 45 o dX2_init_63 (by decide) ?_
  refine v_iload_n 0 o dX2_init_45 rfl rfl ?_
  refine v_iconst 5 o dX2_init_46 rfl ?_
  refine v_icmp_ge_n 66 o dX2_init_47 (by decide) (by decide) (by decide) (fun c47 => ?_) (fun c47 => absurd c47 (by omega))
  exact v_vret o dX2_init_66 hr (Nat.le_of_ble_eq_true rfl) (Nat.le_of_ble_eq_true rfl) ⟨rfl, hC14, rfl⟩

