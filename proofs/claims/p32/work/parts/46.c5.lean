theorem up_ext {μ μ' : mM} {r : Nat} {e : va_E} (h1 : μ' r = some e) (h2 : ∀ a, a ≠ r → μ' a = μ a) : μ' = up μ r e := funext fun a => by
  by_cases q : a = r
  · subst q
    rw [up_s, h1]
  · rw [up_n q, h2 a q]
theorem fill_s (f : Nat → Int32) (w : Int32) (j : Nat) : upd (fun i => if i < j then w else f i) j w = fun i => if i < j + 1 then w else f i := funext fun i => by
  unfold upd
  by_cases q : i = j
  · subst q
    rw [if_pos rfl, if_pos (by omega)]
  · rw [if_neg q]
    show (if i < j then w else f i) = _
    by_cases r : i < j
    · rw [if_pos r, if_pos (by omega)]
    · rw [if_neg r, if_neg (by omega)]
set_option maxRecDepth 100000 in
set_option maxHeartbeats 4000000 in
theorem c_fill {l : Launch} (hl : l.stackTraces = false) {g : mG} {z : Nat} {μ : mM} {r N : Nat} {f : Nat → Int32} (w : Int32) (hN : N < 2 ^ 31) (he : μ r = some (.inl (g.2.1 0, aI N f))) : Ct l g yJ7_fill_53178 [Cond.code yJ7_fill_53178 cJ7_fill_53178 4 none] { frames := 0, cells := 0, slots := 0, locals := 0 } [.ref r, .int w] μ z (fun q μ' z' => q = none ∧ μ' = up μ r (.inl (g.2.1 0, aI N (fun i => if i < N then w else f i))) ∧ z = z') (noX) := by
  refine Ct.of hl (by decide +kernel) (Nat.le_of_ble_eq_true rfl) ?_
  intro p e s mi args below meth c o hnm hr hx
  have o : Ok p l s mi args meth c g cJ7_fill_53178 4 RJ7 := o
  refine v_lv [(0, .ref r), (1, .int w)] rfl ?_
  have L : ∀ (d j : Nat) (μq : mM), j + d = N → μq r = some (.inl (g.2.1 0, aI N (fun i => if i < j then w else f i))) → (∀ a, a ≠ r → μq a = μ a) → V p l e { frames := 0, cells := 0, slots := 0, locals := 0 } s mi args below meth c (vx_MQ below (cQc g (fun q μ' z' => q = none ∧ μ' = up μ r (.inl (g.2.1 0, aI N (fun i => if i < N then w else f i))) ∧ z = z')) (cXC g (noX)) args s ({ frames := 0, cells := 0, slots := 0, locals := 0 } : Room).cells ({ frames := 0, cells := 0, slots := 0, locals := 0 } : Room).slots (gA g)) g μq z 0 0 5 [(0, .ref r), (1, .int w), (2, .int (nI j)), (3, .int (nI N))] [] := by
    intro d
    induction d with
    | zero =>
      intro j μq hj hq hf
      obtain rfl : j = N := by omega
      refine v_iload_n 2 o dJ7_fill_53178_5 rfl rfl ?_
      refine v_iload_n 3 o dJ7_fill_53178_6 rfl rfl ?_
      refine v_icmp_ge_n 20 o dJ7_fill_53178_7 (by decide) (by omega) (by omega) (fun c7 => ?_) (fun c7 => absurd c7 (by omega))
      exact v_vret o dJ7_fill_53178_20 hr (Nat.le_of_ble_eq_true rfl) (Nat.le_of_ble_eq_true rfl) ⟨rfl, up_ext hq hf, rfl⟩
    | succ d ih =>
      intro j μq hj hq hf
      refine v_iload_n 2 o dJ7_fill_53178_5 rfl rfl ?_
      refine v_iload_n 3 o dJ7_fill_53178_6 rfl rfl ?_
      refine v_icmp_ge_n 20 o dJ7_fill_53178_7 (by decide) (by omega) (by omega) (fun c7 => absurd c7 (by omega)) (fun c7 => ?_)
      refine v_aload_n 0 o dJ7_fill_53178_10 rfl rfl ?_
      refine v_iload_n 2 o dJ7_fill_53178_11 rfl rfl ?_
      refine v_iload_n 1 o dJ7_fill_53178_12 rfl rfl ?_
      refine v_iast o dJ7_fill_53178_13 (by omega) hN hq (fun μ1 e1 => ?_)
      refine v_iinc (nI (j + 1)) [(2, .int (nI (j + 1))), (0, .ref r), (1, .int w), (3, .int (nI N))] o dJ7_fill_53178_14 2 rfl (iinc_n j 1) (by decide) rfl ?_
      refine v_goto 5 o dJ7_fill_53178_17 (by decide) ?_
      refine v_sub [(0, .ref r), (1, .int w), (2, .int (nI (j + 1))), (3, .int (nI N))] [1, 2, 0, 3] rfl ?_
      exact ih (j + 1) _ (by omega) (by rw [e1, up_s]; exact congrArg (fun q => some (Sum.inl (g.2.1 0, aI N q))) (fill_s f w j)) (fun a ha => by rw [e1, up_n ha]; exact hf a ha)
  refine v_iconst 0 o dJ7_fill_53178_0 rfl ?_
  refine v_istore_n [(2, .int (nI 0)), (0, .ref r), (1, .int w)] o dJ7_fill_53178_1 rfl (by decide) rfl ?_
  refine v_aload_n 1 o dJ7_fill_53178_2 rfl rfl ?_
  refine v_alen (t0 := 0) o dJ7_fill_53178_3 rfl he ?_
  refine v_top (nI N) rfl ?_
  refine v_istore_n [(3, .int (nI N)), (2, .int (nI 0)), (0, .ref r), (1, .int w)] o dJ7_fill_53178_4 rfl (by decide) rfl ?_
  refine v_sub [(0, .ref r), (1, .int w), (2, .int (nI 0)), (3, .int (nI N))] [2, 3, 1, 0] rfl ?_
  exact L N 0 μ (by omega) he (fun _ _ => rfl)

/-- no weight, no letter -/
def wt0 (τ : Sg) : Sg := (fun k i => if k = 1 ∧ i < 26 then 0 else τ.1 k i, τ.2)
theorem RC.fillW {g : mG} {x : Nat} {B : Nat → Nat} {z0 : Nat} {μ0 μ μ1 : mM} {σ τ : Sg} (h : RC g x B z0 μ0 σ τ μ) (e : μ1 = up μ (x + 10) (.inl (g.2.1 0, aI 26 (fun i => if i < 26 then nI 0 else nI (τ.1 1 i))))) : RC g x B z0 μ0 σ (wt0 τ) μ1 := by
  subst e
  exact h.setH 10 (by decide) rfl rfl (by
    show (Sum.inl _ : va_E) = Sum.inl (g.2.1 0, aI 26 (fun i => nI ((wt0 τ).1 1 i)))
    refine congrArg (fun q => (Sum.inl (g.2.1 0, aI 26 q) : va_E)) (funext fun i => ?_)
    show _ = nI (if 1 = 1 ∧ i < 26 then 0 else τ.1 1 i)
    by_cases q : i < 26
    · rw [if_pos q, if_pos ⟨rfl, q⟩]
    · rw [if_neg q, if_neg (fun w => q w.2)]) (fun j hj hne => by
    rcases (show j = 0 ∨ j = 1 ∨ j = 2 ∨ j = 3 ∨ j = 4 ∨ j = 5 ∨ j = 6 ∨ j = 7 ∨ j = 8 ∨ j = 9 ∨ j = 11 by omega) with rfl | rfl | rfl | rfl | rfl | rfl | rfl | rfl | rfl | rfl | rfl <;> first | rfl | simp [cHs, wt0]) (fun i hi => ⟨rfl, fun j hj c hc => rfl⟩)
set_option maxRecDepth 100000 in
set_option maxHeartbeats 4000000 in
theorem c_clear {l : Launch} (hl : l.stackTraces = false) {g : mG} {x z z0 : Nat} {B : Nat → Nat} {μ0 μ : mM} {σ τ : Sg} (hR : RC g x B z0 μ0 σ τ μ)  : Ct l g yX1_clear [Cond.code yX1_clear cX1_clear 1 none] { frames := 1, cells := 0, slots := 0, locals := 23 } [.ref (x + 9)] μ z (wrC g x B z0 μ0 (none) (σ) (uI (wt0 τ) 0 0 0) z) (noX) := by
  refine Ct.of hl (by decide +kernel) (Nat.le_of_ble_eq_true rfl) ?_
  intro p e s mi args below meth c o hnm hr hx
  have o : Ok p l s mi args meth c g cX1_clear 1 RX1 := o
  refine v_lv [(0, .ref (x + 9))] rfl ?_
  refine v_aload_n 0 o dX1_clear_0 rfl rfl ?_
  refine v_get (v := .ref (x + 10)) o dX1_clear_1 cf1 0 (by decide) fl_X1_9 hR.h9 rfl ?_
  refine v_iconst 0 o dX1_clear_4 rfl ?_
  refine v_callS [.ref (x + 10), .int (nI 0)] [] o dX1_clear_5 cwf_X1_15 st_fill (c_fill hl (nI 0) (by decide) hR.h10) rfl rfl (by decide) (by decide) (Nat.le_of_ble_eq_true rfl) ?_ (fun _ _ _ _ h => h.elim)
  rintro _ μ1 _ _ ⟨rfl, e1, rfl⟩
  have hR1 := hR.fillW e1
  refine v_st [] rfl ?_
  refine v_aload_n 0 o dX1_clear_8 rfl rfl ?_
  refine v_iconst 0 o dX1_clear_9 rfl ?_
  refine v_put _ o dX1_clear_10 cf1 1 (by decide) (by decide) fl_X1_21 hR1.h9 rfl rfl (Nat.le_of_ble_eq_true rfl) rfl (fun μ2 e2 => ?_)
  have hR2 := hR1.u_kl (v := nI 0) e2
  exact v_vret o dX1_clear_13 hr (Nat.le_of_ble_eq_true rfl) (Nat.le_of_ble_eq_true rfl) ⟨rfl, hR2, rfl⟩

def klP (τ : Sg) (a : Nat) : Bool := !decide ((τ.2.2.1 0 0 >>> (nI a &&& 31)) &&& nI 1 = nI 0)
set_option maxRecDepth 100000 in
set_option maxHeartbeats 4000000 in
theorem c_put {l : Launch} (hl : l.stackTraces = false) {g : mG} {x z z0 : Nat} {B : Nat → Nat} {μ0 μ : mM} {σ τ : Sg} (hR : RC g x B z0 μ0 σ τ μ) (a b : Nat) (ha : a < 26) : Ct l g yX1_put [Cond.code yX1_put cX1_put 3 none] { frames := 0, cells := 0, slots := 0, locals := 0 } [.ref (x + 9), .int (nI a), .int (nI b)] μ z (wrC g x B z0 μ0 (none) (σ) (uI (uN τ 1 a (τ.1 1 a + b)) 0 0 (τ.2.2.1 0 0 ||| (nI 1 <<< (nI a &&& 31)))) z) (noX) := by
  refine Ct.of hl (by decide +kernel) (Nat.le_of_ble_eq_true rfl) ?_
  intro p e s mi args below meth c o hnm hr hx
  have o : Ok p l s mi args meth c g cX1_put 3 RX1 := o
  refine v_lv [(0, .ref (x + 9)), (1, .int (nI a)), (2, .int (nI b))] rfl ?_
  refine v_iload_n 1 o dX1_put_0 rfl rfl ?_
  refine v_if_lt_n 32 o dX1_put_1 (by decide) (by omega) (fun c1 => absurd c1 (by omega)) (fun c1 => ?_)
  refine v_iload_n 1 o dX1_put_4 rfl rfl ?_
  refine v_bipush 26 o dX1_put_5 (by decide) ?_
  refine v_icmp_ge_n 32 o dX1_put_7 (by decide) (by omega) (by decide) (fun c7 => absurd c7 (by omega)) (fun c7 => ?_)
  refine v_aload_n 0 o dX1_put_10 rfl rfl ?_
  refine v_get (v := .ref (x + 10)) o dX1_put_11 cf1 0 (by decide) fl_X1_9 hR.h9 rfl ?_
  refine v_iload_n 1 o dX1_put_14 rfl rfl ?_
  refine v_dup2 o dX1_put_15 rfl rfl ?_
  refine v_iald (nI (τ.1 1 a)) o dX1_put_16 (by omega) (by decide) hR.h10 rfl ?_
  refine v_iload_n 2 o dX1_put_17 rfl rfl ?_
  refine v_iadd (nI (τ.1 1 a + b)) o dX1_put_18 (nI_add (τ.1 1 a) b) ?_
  refine v_iast o dX1_put_19 (by omega) (by decide) hR.h10 (fun μ1 e1 => ?_)
  have hR1 := hR.u_wt (k0 := a) (v := τ.1 1 a + b) e1
  refine v_aload_n 0 o dX1_put_20 rfl rfl ?_
  refine v_dup o dX1_put_21 rfl ?_
  refine v_get (v := .int (τ.2.2.1 0 0)) o dX1_put_22 cf1 1 (by decide) fl_X1_21 hR1.h9 rfl ?_
  refine v_iconst 1 o dX1_put_25 rfl ?_
  refine v_iload_n 1 o dX1_put_26 rfl rfl ?_
  refine v_ishl ((nI 1) <<< ((nI a) &&& 31)) o dX1_put_27 rfl ?_
  refine v_ior ((τ.2.2.1 0 0) ||| ((nI 1) <<< ((nI a) &&& 31))) o dX1_put_28 rfl ?_
  refine v_put _ o dX1_put_29 cf1 1 (by decide) (by decide) fl_X1_21 hR1.h9 rfl rfl (Nat.le_of_ble_eq_true rfl) rfl (fun μ2 e2 => ?_)
  have hR2 := hR1.u_kl (v := (τ.2.2.1 0 0) ||| ((nI 1) <<< ((nI a) &&& 31))) e2
  exact v_vret o dX1_put_32 hr (Nat.le_of_ble_eq_true rfl) (Nat.le_of_ble_eq_true rfl) ⟨rfl, hR2, rfl⟩

theorem uI_s {σ : Sg} {k i : Nat} {v : Int32} : (uI σ k i v).2.2.1 k i = v := u2_s
theorem bitA {k : Int32} {b : Nat} (hb : b < 32) : ((k >>> (nI b &&& 31)) &&& nI 1) = if k.toBitVec.getLsbD b then nI 1 else nI 0 := by
  have hs : ∀ b : Fin 32, ((nI b.val &&& 31).toBitVec.smod 32).toNat = b.val := by decide +kernel
  apply Int32.toBitVec_inj.mp
  rw [Int32.toBitVec_and, Int32.toBitVec_shiftRight, show (nI 1).toBitVec = 1#32 from rfl, BitVec.and_one_eq_setWidth_ofBool_getLsbD, BitVec.sshiftRight', hs ⟨b, hb⟩, BitVec.getLsbD_sshiftRight, if_pos (by show b + 0 < 32; omega)]
  show BitVec.setWidth 32 (BitVec.ofBool (!decide (32 ≤ 0) && k.toBitVec.getLsbD (b + 0))) = _
  rw [Nat.add_zero]
  cases k.toBitVec.getLsbD b <;> rfl
theorem bitC {a b : Nat} (ha : a < 32) (hb : b < 32) : (nI 1 <<< (nI a &&& 31)).toBitVec.getLsbD b = decide (a = b) := by
  have h : ∀ a b : Fin 32, (nI 1 <<< (nI a.val &&& 31)).toBitVec.getLsbD b.val = decide (a.val = b.val) := by decide +kernel
  exact h ⟨a, ha⟩ ⟨b, hb⟩
theorem bitO {k : Int32} {a b : Nat} (ha : a < 32) (hb : b < 32) : (k ||| (nI 1 <<< (nI a &&& 31))).toBitVec.getLsbD b = (k.toBitVec.getLsbD b || decide (a = b)) := by
  rw [Int32.toBitVec_or, BitVec.getLsbD_or, bitC ha hb]
theorem bit0 (b : Nat) : (0 : Int32).toBitVec.getLsbD b = false := by
  show (0#32).getLsbD b = false
  simp
/-- the scale holds the weights that the first w keyers gave at the place K -/
def WT (σ : Sg) (K : Nat) (τ : Sg) (w : Nat) : Prop := ∀ a, a < 26 → τ.1 1 a = wgt σ K (a + 1) w - 1 ∧ (τ.2.2.1 0 0).toBitVec.getLsbD a = !decide (wgt σ K (a + 1) w = 0)
theorem WT.z (σ : Sg) (K : Nat) (τ : Sg) : WT σ K (uI (wt0 τ) 0 0 0) 0 := fun a ha => by
  refine ⟨?_, ?_⟩
  · show (if 1 = 1 ∧ a < 26 then 0 else τ.1 1 a) = 0 - 1
    rw [if_pos ⟨rfl, ha⟩]
  · rw [uI_s, bit0]
    rfl
theorem WT.no {σ τ : Sg} {K w : Nat} (h : WT σ K τ w) (h0 : σ.1 2 (5 * K + w) = 0) : WT σ K τ (w + 1) := fun a ha => by
  rw [show wgt σ K (a + 1) (w + 1) = wgt σ K (a + 1) w from if_neg (by rw [h0]; omega)]
  exact h a ha
theorem WT.put {σ τ : Sg} {K w b : Nat} (h : WT σ K τ w) (hb : b < 26) (h0 : σ.1 2 (5 * K + w) = b + 1) : WT σ K (uI (uN τ 1 b (τ.1 1 b + trustN σ w)) 0 0 (τ.2.2.1 0 0 ||| (nI 1 <<< (nI b &&& 31)))) (w + 1) := fun a ha => by
  have h1 := h a ha
  by_cases q : a = b
  · subst q
    have e : wgt σ K (a + 1) (w + 1) = wgt σ K (a + 1) w + trustN σ w + (if wgt σ K (a + 1) w = 0 then 1 else 0) := if_pos h0
    refine ⟨?_, ?_⟩
    · show u2 τ.1 1 a _ 1 a = _
      rw [u2_s, e, h1.1]
      split <;> omega
    · rw [uI_s, bitO (show a < 32 by omega) (show a < 32 by omega), decide_eq_true (rfl : a = a), Bool.or_true, e, decide_eq_false (by split <;> omega)]
      rfl
  · have e : wgt σ K (a + 1) (w + 1) = wgt σ K (a + 1) w := if_neg (by omega)
    refine ⟨?_, ?_⟩
    · show u2 τ.1 1 b _ 1 a = _
      rw [u2_i q, e, h1.1]
    · rw [uI_s, bitO (show b < 32 by omega) (show a < 32 by omega), decide_eq_false (fun r => q r.symm), Bool.or_false, e, h1.2]
