theorem lg_cmp_0 {x y : Int64} : lg_cmp x y = 0 ↔ x = y := by
  unfold lg_cmp
  constructor
  · intro h
    split at h
    · cases h
    · split at h
      · assumption
      · cases h
  · rintro rfl
    simp
section MKC
variable {p : Program} {l : Launch} {e : Env} {R : Room} {s : State} {m : MethodId} {args : Array Value} {below : List Frame} {meth : Method} {c : Code} {Q : State → Prop} {g : mG} {μ : mM} {z k n pc : Nat} {lv : List (Nat × Value)} {st : List Value} {cc : ByteArray} {nL : Nat} {own : String}
theorem v_if_ne_c {x y : Int64} {off : Int} (tgt : Nat) (o : Ok p l s m args meth c g cc nL own) (d : decode cc pc = .ok (.ifCond .ne off, 3)) (ht : (pc : Int) + off = (tgt : Int)) (kt : ¬ x = y → V p l e R s m args below meth c Q g μ z k n tgt lv st) (kf : x = y → V p l e R s m args below meth c Q g μ z k n (pc + 3) lv st) : V p l e R s m args below meth c Q g μ z k n pc lv (.int (lg_cmp x y) :: st) := v_if_ne tgt o d ht (fun q => kt (fun h => q (lg_cmp_0.mpr h))) (fun q => kf (lg_cmp_0.mp q))
theorem v_if_eq_c {x y : Int64} {off : Int} (tgt : Nat) (o : Ok p l s m args meth c g cc nL own) (d : decode cc pc = .ok (.ifCond .eq off, 3)) (ht : (pc : Int) + off = (tgt : Int)) (kt : x = y → V p l e R s m args below meth c Q g μ z k n tgt lv st) (kf : ¬ x = y → V p l e R s m args below meth c Q g μ z k n (pc + 3) lv st) : V p l e R s m args below meth c Q g μ z k n pc lv (.int (lg_cmp x y) :: st) := v_if_eq tgt o d ht (fun q => kt (lg_cmp_0.mp q)) (fun q => kf (fun h => q (lg_cmp_0.mpr h)))
end MKC
theorem cnt_t {f : Nat → Bool} {n : Nat} (h : f n = true) : cnt f (n + 1) = cnt f n + 1 := by
  show cnt f n + (if f n then 1 else 0) = _
  rw [if_pos h]
theorem cnt_f {f : Nat → Bool} {n : Nat} (h : f n = false) : cnt f (n + 1) = cnt f n := by
  show cnt f n + (if f n then 1 else 0) = _
  rw [h]
  rfl
/-- the lowest of r from d on that is so, and 1; 0 if none is -/
def low (f : Nat → Bool) : Nat → Nat → Nat
  | 0, _ => 0
  | r + 1, d => if f d then d + 1 else low f r (d + 1)
theorem low_t {f : Nat → Bool} {r d : Nat} (h : f d = true) : mI (low f (r + 1) d) = nI d := by
  show mI (if f d then d + 1 else _) = _
  rw [if_pos h, mI_s]
theorem low_f {f : Nat → Bool} {r d : Nat} (h : f d = false) : low f (r + 1) d = low f r (d + 1) := by
  show (if f d then d + 1 else _) = _
  rw [h]
  rfl
theorem low_le {f : Nat → Bool} : ∀ r d, low f r d ≤ d + r
  | 0, d => Nat.zero_le _
  | r + 1, d => by
    unfold low
    split
    · omega
    · have := low_le (f := f) r (d + 1)
      omega
def hb (σ : Sg) (v a : Nat) : Bool := σ.2.1 5 (72 * v + a) && σ.2.1 2 a && decide (prf (σ.2.2.2 1 (72 * v + a)) = prf (σ.2.2.2 0 a))
def lowest (σ : Sg) (a : Nat) : Nat := low (fun v => hb σ v a) 4 0
def lostB (σ : Sg) (a : Nat) : Bool := σ.2.1 2 a && decide (lowest σ a = 0)
set_option maxRecDepth 100000 in
set_option maxHeartbeats 4000000 in
theorem m_shots {l : Launch} (hl : l.stackTraces = false) {g : mG} {m z : Nat} {μ0 μ : mM} {σ : Sg} (hR : RM g m μ0 σ μ) (hI : Inv σ) (i : Nat) (hi : i < 6) : Ct l g yX6_shots [Cond.code yX6_shots cX6_shots 4 (some .int)] { frames := 0, cells := 0, slots := 0, locals := 0 } [.ref m, .int (nI i)] μ z (rdP (some (.int (nI (cnt (fun q => σ.2.1 2 (12 * i + q)) (σ.1 0 i))))) μ z) noX := by
  refine Ct.of hl (by decide +kernel) (Nat.le_of_ble_eq_true rfl) ?_
  intro p e s mi args below meth c o hnm hr hx
  have o : Ok p l s mi args meth c g cX6_shots 4 RX6 := o
  refine v_lv [(0, .ref m), (1, .int (nI i))] rfl ?_
  have h12 := hI.2.1 i
  have L : ∀ d j, j + d = σ.1 0 i → V p l e { frames := 0, cells := 0, slots := 0, locals := 0 } s mi args below meth c (vx_MQ below (cQc g (rdP (some (.int (nI (cnt (fun q => σ.2.1 2 (12 * i + q)) (σ.1 0 i))))) μ z)) (cXC g noX) args s ({ frames := 0, cells := 0, slots := 0, locals := 0 } : Room).cells ({ frames := 0, cells := 0, slots := 0, locals := 0 } : Room).slots (gA g)) g μ z 0 0 4 [(0, .ref m), (1, .int (nI i)), (2, .int (nI (cnt (fun q => σ.2.1 2 (12 * i + q)) j))), (3, .int (nI j))] [] := by
    intro d
    induction d with
    | zero =>
      intro j hj
      refine v_iload_n 3 o dX6_shots_4 rfl rfl ?_
      refine v_aload_n 0 o dX6_shots_5 rfl rfl ?_
      refine v_get (v := .ref (m + 1)) o dX6_shots_6 cf6 2 (by decide) fl_X6_7 hR.o rfl ?_
      refine v_iload_n 1 o dX6_shots_9 rfl rfl ?_
      refine v_iald (nI (σ.1 0 i)) o dX6_shots_10 (by omega) (by decide) hR.a1 rfl ?_
      refine v_icmp_ge_n 42 o dX6_shots_11 (by decide) (by omega) (by omega) (fun c11 => ?_) (fun c11 => absurd c11 (by omega))
      refine v_iload_n 2 o dX6_shots_42 rfl rfl ?_
      exact v_iret o dX6_shots_43 hr (Nat.le_of_ble_eq_true rfl) (Nat.le_of_ble_eq_true rfl) ⟨by rw [show σ.1 0 i = j by omega], rfl, rfl⟩
    | succ d ih =>
      intro j hj
      refine v_iload_n 3 o dX6_shots_4 rfl rfl ?_
      refine v_aload_n 0 o dX6_shots_5 rfl rfl ?_
      refine v_get (v := .ref (m + 1)) o dX6_shots_6 cf6 2 (by decide) fl_X6_7 hR.o rfl ?_
      refine v_iload_n 1 o dX6_shots_9 rfl rfl ?_
      refine v_iald (nI (σ.1 0 i)) o dX6_shots_10 (by omega) (by decide) hR.a1 rfl ?_
      refine v_icmp_ge_n 42 o dX6_shots_11 (by decide) (by omega) (by omega) (fun c11 => absurd c11 (by omega)) (fun c11 => ?_)
      refine v_iload_n 2 o dX6_shots_14 rfl rfl ?_
      refine v_aload_n 0 o dX6_shots_15 rfl rfl ?_
      refine v_get (v := .ref (m + 9)) o dX6_shots_16 cf6 11 (by decide) fl_X6_35 hR.o rfl ?_
      refine v_bipush 12 o dX6_shots_19 (by decide) ?_
      refine v_iload_n 1 o dX6_shots_21 rfl rfl ?_
      refine v_imul (nI (12 * i)) o dX6_shots_22 (pk_mul 12 i) ?_
      refine v_iload_n 3 o dX6_shots_23 rfl rfl ?_
      refine v_iadd (nI (12 * i + j)) o dX6_shots_24 (nI_add (12 * i) j) ?_
      refine v_zald (bI (σ.2.1 2 (12 * i + j))) o dX6_shots_25 (by omega) (by decide) hR.a9 rfl ?_
      refine v_if_eq_b 33 o dX6_shots_26 (by decide) (fun c26 => ?_) (fun c26 => ?_)
      · refine v_iconst 0 o dX6_shots_33 rfl ?_
        refine v_iadd (nI (cnt (fun q => σ.2.1 2 (12 * i + q)) j)) o dX6_shots_34 (nI_add (cnt (fun q => σ.2.1 2 (12 * i + q)) j) 0) ?_
        refine v_istore_n [(2, .int (nI (cnt (fun q => σ.2.1 2 (12 * i + q)) j))), (0, .ref m), (1, .int (nI i)), (3, .int (nI j))] o dX6_shots_35 rfl (by decide) rfl ?_
        refine v_iinc (nI (j + 1)) [(3, .int (nI (j + 1))), (2, .int (nI (cnt (fun q => σ.2.1 2 (12 * i + q)) j))), (0, .ref m), (1, .int (nI i))] o dX6_shots_36 3 rfl (iinc_n j 1) (by decide) rfl ?_
        refine v_goto 4 o dX6_shots_39 (by decide) ?_
        refine v_sub [(0, .ref m), (1, .int (nI i)), (2, .int (nI (cnt (fun q => σ.2.1 2 (12 * i + q)) j))), (3, .int (nI (j + 1)))] [2, 3, 1, 0] rfl ?_
        refine v_lv [(0, .ref m), (1, .int (nI i)), (2, .int (nI (cnt (fun q => σ.2.1 2 (12 * i + q)) (j + 1)))), (3, .int (nI (j + 1)))] (by rw [cnt_f (f := (fun q => σ.2.1 2 (12 * i + q))) c26]) ?_
        exact ih (j + 1) (by omega)
      · refine v_iconst 1 o dX6_shots_29 rfl ?_
        refine v_goto 34 o dX6_shots_30 (by decide) ?_
        refine v_iadd (nI ((cnt (fun q => σ.2.1 2 (12 * i + q)) j) + 1)) o dX6_shots_34 (nI_add (cnt (fun q => σ.2.1 2 (12 * i + q)) j) 1) ?_
        refine v_istore_n [(2, .int (nI ((cnt (fun q => σ.2.1 2 (12 * i + q)) j) + 1))), (0, .ref m), (1, .int (nI i)), (3, .int (nI j))] o dX6_shots_35 rfl (by decide) rfl ?_
        refine v_iinc (nI (j + 1)) [(3, .int (nI (j + 1))), (2, .int (nI ((cnt (fun q => σ.2.1 2 (12 * i + q)) j) + 1))), (0, .ref m), (1, .int (nI i))] o dX6_shots_36 3 rfl (iinc_n j 1) (by decide) rfl ?_
        refine v_goto 4 o dX6_shots_39 (by decide) ?_
        refine v_sub [(0, .ref m), (1, .int (nI i)), (2, .int (nI ((cnt (fun q => σ.2.1 2 (12 * i + q)) j) + 1))), (3, .int (nI (j + 1)))] [2, 3, 1, 0] rfl ?_
        refine v_lv [(0, .ref m), (1, .int (nI i)), (2, .int (nI (cnt (fun q => σ.2.1 2 (12 * i + q)) (j + 1)))), (3, .int (nI (j + 1)))] (by rw [cnt_t (f := (fun q => σ.2.1 2 (12 * i + q))) c26]) ?_
        exact ih (j + 1) (by omega)
  refine v_iconst 0 o dX6_shots_0 rfl ?_
  refine v_istore_n [(2, .int (nI 0)), (0, .ref m), (1, .int (nI i))] o dX6_shots_1 rfl (by decide) rfl ?_
  refine v_iconst 0 o dX6_shots_2 rfl ?_
  refine v_istore_n [(3, .int (nI 0)), (2, .int (nI 0)), (0, .ref m), (1, .int (nI i))] o dX6_shots_3 rfl (by decide) rfl ?_
  refine v_sub [(0, .ref m), (1, .int (nI i)), (2, .int (nI 0)), (3, .int (nI 0))] [2, 3, 1, 0] rfl ?_
  refine v_lv [(0, .ref m), (1, .int (nI i)), (2, .int (nI (cnt (fun q => σ.2.1 2 (12 * i + q)) 0))), (3, .int (nI 0))] rfl ?_
  exact L (σ.1 0 i) 0 (by omega)

set_option maxRecDepth 100000 in
set_option maxHeartbeats 4000000 in
theorem m_holds {l : Launch} (hl : l.stackTraces = false) {g : mG} {m z : Nat} {μ0 μ : mM} {σ : Sg} (hR : RM g m μ0 σ μ) (v a : Nat) (hv : v < 4) (ha : a < 72) : Ct l g yX6_holds [Cond.code yX6_holds cX6_holds 3 (some .boolean)] { frames := 1, cells := 0, slots := 0, locals := 21 } [.ref m, .int (nI v), .int (nI a)] μ z (rdP (some (.int (bI (hb σ v a)))) μ z) noX := by
  refine Ct.of hl (by decide +kernel) (Nat.le_of_ble_eq_true rfl) ?_
  intro p e s mi args below meth c o hnm hr hx
  have o : Ok p l s mi args meth c g cX6_holds 3 RX6 := o
  refine v_lv [(0, .ref m), (1, .int (nI v)), (2, .int (nI a))] rfl ?_
  refine v_aload_n 0 o dX6_holds_0 rfl rfl ?_
  refine v_get (v := .ref (m + 15)) o dX6_holds_1 cf6 17 (by decide) fl_X6_54 hR.o rfl ?_
  refine v_bipush 72 o dX6_holds_4 (by decide) ?_
  refine v_iload_n 1 o dX6_holds_6 rfl rfl ?_
  refine v_imul (nI (72 * v)) o dX6_holds_7 (pk_mul 72 v) ?_
  refine v_iload_n 2 o dX6_holds_8 rfl rfl ?_
  refine v_iadd (nI (72 * v + a)) o dX6_holds_9 (nI_add (72 * v) a) ?_
  refine v_zald (bI (σ.2.1 5 (72 * v + a))) o dX6_holds_10 (by omega) (by decide) hR.a15 rfl ?_
  refine v_if_eq_b 54 o dX6_holds_11 (by decide) (fun c11 => ?_) (fun c11 => ?_)
  · refine v_iconst 0 o dX6_holds_54 rfl ?_
    exact v_zret o dX6_holds_55 hr (by decide) (Nat.le_of_ble_eq_true rfl) (Nat.le_of_ble_eq_true rfl) ⟨by rw [show hb σ v a = false by simp [hb, c11]]; rfl, rfl, rfl⟩
  · refine v_aload_n 0 o dX6_holds_14 rfl rfl ?_
    refine v_get (v := .ref (m + 9)) o dX6_holds_15 cf6 11 (by decide) fl_X6_35 hR.o rfl ?_
    refine v_iload_n 2 o dX6_holds_18 rfl rfl ?_
    refine v_zald (bI (σ.2.1 2 a)) o dX6_holds_19 (by omega) (by decide) hR.a9 rfl ?_
    refine v_if_eq_b 54 o dX6_holds_20 (by decide) (fun c20 => ?_) (fun c20 => ?_)
    · refine v_iconst 0 o dX6_holds_54 rfl ?_
      exact v_zret o dX6_holds_55 hr (by decide) (Nat.le_of_ble_eq_true rfl) (Nat.le_of_ble_eq_true rfl) ⟨by rw [show hb σ v a = false by simp [hb, c11, c20]]; rfl, rfl, rfl⟩
    · refine v_aload_n 0 o dX6_holds_23 rfl rfl ?_
      refine v_get (v := .ref (m + 16)) o dX6_holds_24 cf6 18 (by decide) fl_X6_57 hR.o rfl ?_
      refine v_bipush 72 o dX6_holds_27 (by decide) ?_
      refine v_iload_n 1 o dX6_holds_29 rfl rfl ?_
      refine v_imul (nI (72 * v)) o dX6_holds_30 (pk_mul 72 v) ?_
      refine v_iload_n 2 o dX6_holds_31 rfl rfl ?_
      refine v_iadd (nI (72 * v + a)) o dX6_holds_32 (nI_add (72 * v) a) ?_
      refine v_lald (σ.2.2.2 1 (72 * v + a)) o dX6_holds_33 (by omega) (by decide) hR.a16 rfl ?_
      refine v_callSr (v := .long (prf (σ.2.2.2 1 (72 * v + a)))) [.long (σ.2.2.2 1 (72 * v + a))] [] o dX6_holds_34 cw_X6_123 st_X6_proof (m_proof hl hR (σ.2.2.2 1 (72 * v + a))) rfl rfl (by decide) ⟨rfl, rfl⟩ (by decide) (Nat.le_of_ble_eq_true rfl) ?_
      refine v_aload_n 0 o dX6_holds_37 rfl rfl ?_
      refine v_get (v := .ref (m + 12)) o dX6_holds_38 cf6 14 (by decide) fl_X6_44 hR.o rfl ?_
      refine v_iload_n 2 o dX6_holds_41 rfl rfl ?_
      refine v_lald (σ.2.2.2 0 a) o dX6_holds_42 (by omega) (by decide) hR.a12 rfl ?_
      refine v_callSr (v := .long (prf (σ.2.2.2 0 a))) [.long (σ.2.2.2 0 a)] [.long (prf (σ.2.2.2 1 (72 * v + a)))] o dX6_holds_43 cw_X6_123 st_X6_proof (m_proof hl hR (σ.2.2.2 0 a)) rfl rfl (by decide) ⟨rfl, rfl⟩ (by decide) (Nat.le_of_ble_eq_true rfl) ?_
      refine v_lcmp o dX6_holds_46 ?_
      refine v_if_ne_c 54 o dX6_holds_47 (by decide) (fun c47 => ?_) (fun c47 => ?_)
      · refine v_iconst 0 o dX6_holds_54 rfl ?_
        exact v_zret o dX6_holds_55 hr (by decide) (Nat.le_of_ble_eq_true rfl) (Nat.le_of_ble_eq_true rfl) ⟨by rw [show hb σ v a = false by simp [hb, c11, c20, c47]]; rfl, rfl, rfl⟩
      · refine v_iconst 1 o dX6_holds_50 rfl ?_
        refine v_goto 55 o dX6_holds_51 (by decide) ?_
        exact v_zret o dX6_holds_55 hr (by decide) (Nat.le_of_ble_eq_true rfl) (Nat.le_of_ble_eq_true rfl) ⟨by rw [show hb σ v a = true by simp [hb, c11, c20, c47]]; rfl, rfl, rfl⟩

set_option maxRecDepth 100000 in
set_option maxHeartbeats 4000000 in
theorem m_holder {l : Launch} (hl : l.stackTraces = false) {g : mG} {m z : Nat} {μ0 μ : mM} {σ : Sg} (hR : RM g m μ0 σ μ) (a : Nat) (ha : a < 72) : Ct l g yX6_holder [Cond.code yX6_holder cX6_holder 4 (some .int)] { frames := 2, cells := 0, slots := 0, locals := 43 } [.ref m, .int (nI a)] μ z (rdP (some (.int (mI (lowest σ a)))) μ z) noX := by
  refine Ct.of hl (by decide +kernel) (Nat.le_of_ble_eq_true rfl) ?_
  intro p e s mi args below meth c o hnm hr hx
  have o : Ok p l s mi args meth c g cX6_holder 4 RX6 := o
  refine v_lv [(0, .ref m), (1, .int (nI a))] rfl ?_
  have L0 : V p l e { frames := 2, cells := 0, slots := 0, locals := 43 } s mi args below meth c (vx_MQ below (cQc g (rdP (some (.int (mI (lowest σ a)))) μ z)) (cXC g noX) args s ({ frames := 2, cells := 0, slots := 0, locals := 43 } : Room).cells ({ frames := 2, cells := 0, slots := 0, locals := 43 } : Room).slots (gA g)) g μ z 0 0 4 [(0, .ref m), (1, .int (nI a)), (2, .int (mI (low (fun v => hb σ v a) 4 0))), (3, .int (-1))] [] := by
    refine v_iload_n 3 o dX6_holder_4 rfl rfl ?_
    refine v_if_lt 29 o dX6_holder_5 (by decide) (fun c5 => ?_) (fun c5 => absurd c5 (by decide))
    refine v_iload_n 2 o dX6_holder_29 rfl rfl ?_
    exact v_iret o dX6_holder_30 hr (Nat.le_of_ble_eq_true rfl) (Nat.le_of_ble_eq_true rfl) ⟨rfl, rfl, rfl⟩
  have L1 : V p l e { frames := 2, cells := 0, slots := 0, locals := 43 } s mi args below meth c (vx_MQ below (cQc g (rdP (some (.int (mI (lowest σ a)))) μ z)) (cXC g noX) args s ({ frames := 2, cells := 0, slots := 0, locals := 43 } : Room).cells ({ frames := 2, cells := 0, slots := 0, locals := 43 } : Room).slots (gA g)) g μ z 0 0 4 [(0, .ref m), (1, .int (nI a)), (2, .int (mI (low (fun v => hb σ v a) 3 1))), (3, .int (nI 0))] [] := by
    refine v_iload_n 3 o dX6_holder_4 rfl rfl ?_
    refine v_if_lt_n 29 o dX6_holder_5 (by decide) (by decide) (fun c5 => absurd c5 (by omega)) (fun c5 => ?_)
    refine v_aload_n 0 o dX6_holder_8 rfl rfl ?_
    refine v_iload_n 3 o dX6_holder_9 rfl rfl ?_
    refine v_iload_n 1 o dX6_holder_10 rfl rfl ?_
    refine v_callVr (v := .int (bI (hb σ 0 a))) [.int (nI 0), .int (nI a)] [] o dX6_holder_11 cw_X6_127 im_X6_holds se_X6_holds cf6 hR.o (m_holds hl hR 0 a (by omega) (by omega)) rfl rfl (by decide) ⟨rfl, rfl⟩ (by decide) (Nat.le_of_ble_eq_true rfl) ?_
    refine v_if_eq_b 21 o dX6_holder_14 (by decide) (fun c14 => ?_) (fun c14 => ?_)
    · refine v_iload_n 2 o dX6_holder_21 rfl rfl ?_
      refine v_istore_n [(2, .int (mI (low (fun v => hb σ v a) 3 1))), (0, .ref m), (1, .int (nI a)), (3, .int (nI 0))] o dX6_holder_22 rfl (by decide) rfl ?_
      refine v_iinc ((-1)) [(3, .int (-1)), (2, .int (mI (low (fun v => hb σ v a) 3 1))), (0, .ref m), (1, .int (nI a))] o dX6_holder_23 3 rfl (by decide) (by decide) rfl ?_
      refine v_goto 4 o dX6_holder_26 (by decide) ?_
      refine v_sub [(0, .ref m), (1, .int (nI a)), (2, .int (mI (low (fun v => hb σ v a) 3 1))), (3, .int (-1))] [2, 3, 1, 0] rfl ?_
      refine v_lv [(0, .ref m), (1, .int (nI a)), (2, .int (mI (low (fun v => hb σ v a) 4 0))), (3, .int (-1))] (by rw [low_f (f := (fun v => hb σ v a)) (r := 3) (d := 0) c14]) ?_
      exact L0
    · refine v_iload_n 3 o dX6_holder_17 rfl rfl ?_
      refine v_goto 22 o dX6_holder_18 (by decide) ?_
      refine v_istore_n [(2, .int (nI 0)), (0, .ref m), (1, .int (nI a)), (3, .int (nI 0))] o dX6_holder_22 rfl (by decide) rfl ?_
      refine v_iinc ((-1)) [(3, .int (-1)), (2, .int (nI 0)), (0, .ref m), (1, .int (nI a))] o dX6_holder_23 3 rfl (by decide) (by decide) rfl ?_
      refine v_goto 4 o dX6_holder_26 (by decide) ?_
      refine v_sub [(0, .ref m), (1, .int (nI a)), (2, .int (nI 0)), (3, .int (-1))] [2, 3, 1, 0] rfl ?_
      refine v_lv [(0, .ref m), (1, .int (nI a)), (2, .int (mI (low (fun v => hb σ v a) 4 0))), (3, .int (-1))] (by rw [low_t (f := (fun v => hb σ v a)) (r := 3) (d := 0) c14]) ?_
      exact L0
  have L2 : V p l e { frames := 2, cells := 0, slots := 0, locals := 43 } s mi args below meth c (vx_MQ below (cQc g (rdP (some (.int (mI (lowest σ a)))) μ z)) (cXC g noX) args s ({ frames := 2, cells := 0, slots := 0, locals := 43 } : Room).cells ({ frames := 2, cells := 0, slots := 0, locals := 43 } : Room).slots (gA g)) g μ z 0 0 4 [(0, .ref m), (1, .int (nI a)), (2, .int (mI (low (fun v => hb σ v a) 2 2))), (3, .int (nI 1))] [] := by
    refine v_iload_n 3 o dX6_holder_4 rfl rfl ?_
    refine v_if_lt_n 29 o dX6_holder_5 (by decide) (by decide) (fun c5 => absurd c5 (by omega)) (fun c5 => ?_)
    refine v_aload_n 0 o dX6_holder_8 rfl rfl ?_
    refine v_iload_n 3 o dX6_holder_9 rfl rfl ?_
    refine v_iload_n 1 o dX6_holder_10 rfl rfl ?_
    refine v_callVr (v := .int (bI (hb σ 1 a))) [.int (nI 1), .int (nI a)] [] o dX6_holder_11 cw_X6_127 im_X6_holds se_X6_holds cf6 hR.o (m_holds hl hR 1 a (by omega) (by omega)) rfl rfl (by decide) ⟨rfl, rfl⟩ (by decide) (Nat.le_of_ble_eq_true rfl) ?_
    refine v_if_eq_b 21 o dX6_holder_14 (by decide) (fun c14 => ?_) (fun c14 => ?_)
    · refine v_iload_n 2 o dX6_holder_21 rfl rfl ?_
      refine v_istore_n [(2, .int (mI (low (fun v => hb σ v a) 2 2))), (0, .ref m), (1, .int (nI a)), (3, .int (nI 1))] o dX6_holder_22 rfl (by decide) rfl ?_
      refine v_iinc (nI 0) [(3, .int (nI 0)), (2, .int (mI (low (fun v => hb σ v a) 2 2))), (0, .ref m), (1, .int (nI a))] o dX6_holder_23 3 rfl (by decide) (by decide) rfl ?_
      refine v_goto 4 o dX6_holder_26 (by decide) ?_
      refine v_sub [(0, .ref m), (1, .int (nI a)), (2, .int (mI (low (fun v => hb σ v a) 2 2))), (3, .int (nI 0))] [2, 3, 1, 0] rfl ?_
      refine v_lv [(0, .ref m), (1, .int (nI a)), (2, .int (mI (low (fun v => hb σ v a) 3 1))), (3, .int (nI 0))] (by rw [low_f (f := (fun v => hb σ v a)) (r := 2) (d := 1) c14]) ?_
      exact L1
    · refine v_iload_n 3 o dX6_holder_17 rfl rfl ?_
      refine v_goto 22 o dX6_holder_18 (by decide) ?_
      refine v_istore_n [(2, .int (nI 1)), (0, .ref m), (1, .int (nI a)), (3, .int (nI 1))] o dX6_holder_22 rfl (by decide) rfl ?_
      refine v_iinc (nI 0) [(3, .int (nI 0)), (2, .int (nI 1)), (0, .ref m), (1, .int (nI a))] o dX6_holder_23 3 rfl (by decide) (by decide) rfl ?_
      refine v_goto 4 o dX6_holder_26 (by decide) ?_
      refine v_sub [(0, .ref m), (1, .int (nI a)), (2, .int (nI 1)), (3, .int (nI 0))] [2, 3, 1, 0] rfl ?_
      refine v_lv [(0, .ref m), (1, .int (nI a)), (2, .int (mI (low (fun v => hb σ v a) 3 1))), (3, .int (nI 0))] (by rw [low_t (f := (fun v => hb σ v a)) (r := 2) (d := 1) c14]) ?_
      exact L1
  have L3 : V p l e { frames := 2, cells := 0, slots := 0, locals := 43 } s mi args below meth c (vx_MQ below (cQc g (rdP (some (.int (mI (lowest σ a)))) μ z)) (cXC g noX) args s ({ frames := 2, cells := 0, slots := 0, locals := 43 } : Room).cells ({ frames := 2, cells := 0, slots := 0, locals := 43 } : Room).slots (gA g)) g μ z 0 0 4 [(0, .ref m), (1, .int (nI a)), (2, .int (mI (low (fun v => hb σ v a) 1 3))), (3, .int (nI 2))] [] := by
    refine v_iload_n 3 o dX6_holder_4 rfl rfl ?_
    refine v_if_lt_n 29 o dX6_holder_5 (by decide) (by decide) (fun c5 => absurd c5 (by omega)) (fun c5 => ?_)
    refine v_aload_n 0 o dX6_holder_8 rfl rfl ?_
    refine v_iload_n 3 o dX6_holder_9 rfl rfl ?_
    refine v_iload_n 1 o dX6_holder_10 rfl rfl ?_
    refine v_callVr (v := .int (bI (hb σ 2 a))) [.int (nI 2), .int (nI a)] [] o dX6_holder_11 cw_X6_127 im_X6_holds se_X6_holds cf6 hR.o (m_holds hl hR 2 a (by omega) (by omega)) rfl rfl (by decide) ⟨rfl, rfl⟩ (by decide) (Nat.le_of_ble_eq_true rfl) ?_
    refine v_if_eq_b 21 o dX6_holder_14 (by decide) (fun c14 => ?_) (fun c14 => ?_)
    · refine v_iload_n 2 o dX6_holder_21 rfl rfl ?_
      refine v_istore_n [(2, .int (mI (low (fun v => hb σ v a) 1 3))), (0, .ref m), (1, .int (nI a)), (3, .int (nI 2))] o dX6_holder_22 rfl (by decide) rfl ?_
      refine v_iinc (nI 1) [(3, .int (nI 1)), (2, .int (mI (low (fun v => hb σ v a) 1 3))), (0, .ref m), (1, .int (nI a))] o dX6_holder_23 3 rfl (by decide) (by decide) rfl ?_
      refine v_goto 4 o dX6_holder_26 (by decide) ?_
      refine v_sub [(0, .ref m), (1, .int (nI a)), (2, .int (mI (low (fun v => hb σ v a) 1 3))), (3, .int (nI 1))] [2, 3, 1, 0] rfl ?_
      refine v_lv [(0, .ref m), (1, .int (nI a)), (2, .int (mI (low (fun v => hb σ v a) 2 2))), (3, .int (nI 1))] (by rw [low_f (f := (fun v => hb σ v a)) (r := 1) (d := 2) c14]) ?_
      exact L2
    · refine v_iload_n 3 o dX6_holder_17 rfl rfl ?_
      refine v_goto 22 o dX6_holder_18 (by decide) ?_
      refine v_istore_n [(2, .int (nI 2)), (0, .ref m), (1, .int (nI a)), (3, .int (nI 2))] o dX6_holder_22 rfl (by decide) rfl ?_
      refine v_iinc (nI 1) [(3, .int (nI 1)), (2, .int (nI 2)), (0, .ref m), (1, .int (nI a))] o dX6_holder_23 3 rfl (by decide) (by decide) rfl ?_
      refine v_goto 4 o dX6_holder_26 (by decide) ?_
      refine v_sub [(0, .ref m), (1, .int (nI a)), (2, .int (nI 2)), (3, .int (nI 1))] [2, 3, 1, 0] rfl ?_
      refine v_lv [(0, .ref m), (1, .int (nI a)), (2, .int (mI (low (fun v => hb σ v a) 2 2))), (3, .int (nI 1))] (by rw [low_t (f := (fun v => hb σ v a)) (r := 1) (d := 2) c14]) ?_
      exact L2
  have L4 : V p l e { frames := 2, cells := 0, slots := 0, locals := 43 } s mi args below meth c (vx_MQ below (cQc g (rdP (some (.int (mI (lowest σ a)))) μ z)) (cXC g noX) args s ({ frames := 2, cells := 0, slots := 0, locals := 43 } : Room).cells ({ frames := 2, cells := 0, slots := 0, locals := 43 } : Room).slots (gA g)) g μ z 0 0 4 [(0, .ref m), (1, .int (nI a)), (2, .int (mI (low (fun v => hb σ v a) 0 4))), (3, .int (nI 3))] [] := by
    refine v_iload_n 3 o dX6_holder_4 rfl rfl ?_
    refine v_if_lt_n 29 o dX6_holder_5 (by decide) (by decide) (fun c5 => absurd c5 (by omega)) (fun c5 => ?_)
    refine v_aload_n 0 o dX6_holder_8 rfl rfl ?_
    refine v_iload_n 3 o dX6_holder_9 rfl rfl ?_
    refine v_iload_n 1 o dX6_holder_10 rfl rfl ?_
    refine v_callVr (v := .int (bI (hb σ 3 a))) [.int (nI 3), .int (nI a)] [] o dX6_holder_11 cw_X6_127 im_X6_holds se_X6_holds cf6 hR.o (m_holds hl hR 3 a (by omega) (by omega)) rfl rfl (by decide) ⟨rfl, rfl⟩ (by decide) (Nat.le_of_ble_eq_true rfl) ?_
    refine v_if_eq_b 21 o dX6_holder_14 (by decide) (fun c14 => ?_) (fun c14 => ?_)
    · refine v_iload_n 2 o dX6_holder_21 rfl rfl ?_
      refine v_istore_n [(2, .int (mI (low (fun v => hb σ v a) 0 4))), (0, .ref m), (1, .int (nI a)), (3, .int (nI 3))] o dX6_holder_22 rfl (by decide) rfl ?_
      refine v_iinc (nI 2) [(3, .int (nI 2)), (2, .int (mI (low (fun v => hb σ v a) 0 4))), (0, .ref m), (1, .int (nI a))] o dX6_holder_23 3 rfl (by decide) (by decide) rfl ?_
      refine v_goto 4 o dX6_holder_26 (by decide) ?_
      refine v_sub [(0, .ref m), (1, .int (nI a)), (2, .int (mI (low (fun v => hb σ v a) 0 4))), (3, .int (nI 2))] [2, 3, 1, 0] rfl ?_
      refine v_lv [(0, .ref m), (1, .int (nI a)), (2, .int (mI (low (fun v => hb σ v a) 1 3))), (3, .int (nI 2))] (by rw [low_f (f := (fun v => hb σ v a)) (r := 0) (d := 3) c14]) ?_
      exact L3
    · refine v_iload_n 3 o dX6_holder_17 rfl rfl ?_
      refine v_goto 22 o dX6_holder_18 (by decide) ?_
      refine v_istore_n [(2, .int (nI 3)), (0, .ref m), (1, .int (nI a)), (3, .int (nI 3))] o dX6_holder_22 rfl (by decide) rfl ?_
      refine v_iinc (nI 2) [(3, .int (nI 2)), (2, .int (nI 3)), (0, .ref m), (1, .int (nI a))] o dX6_holder_23 3 rfl (by decide) (by decide) rfl ?_
      refine v_goto 4 o dX6_holder_26 (by decide) ?_
      refine v_sub [(0, .ref m), (1, .int (nI a)), (2, .int (nI 3)), (3, .int (nI 2))] [2, 3, 1, 0] rfl ?_
      refine v_lv [(0, .ref m), (1, .int (nI a)), (2, .int (mI (low (fun v => hb σ v a) 1 3))), (3, .int (nI 2))] (by rw [low_t (f := (fun v => hb σ v a)) (r := 0) (d := 3) c14]) ?_
      exact L3
  refine v_iconst_i (-1) o dX6_holder_0 (by decide) ?_
  refine v_istore_n [(2, .int (-1)), (0, .ref m), (1, .int (nI a))] o dX6_holder_1 rfl (by decide) rfl ?_
  refine v_iconst 3 o dX6_holder_2 rfl ?_
  refine v_istore_n [(3, .int (nI 3)), (2, .int (-1)), (0, .ref m), (1, .int (nI a))] o dX6_holder_3 rfl (by decide) rfl ?_
  refine v_sub [(0, .ref m), (1, .int (nI a)), (2, .int (-1)), (3, .int (nI 3))] [2, 3, 1, 0] rfl ?_
  refine v_lv [(0, .ref m), (1, .int (nI a)), (2, .int (mI (low (fun v => hb σ v a) 0 4))), (3, .int (nI 3))] rfl ?_
  exact L4

theorem mI_ne {n : Nat} (h : n < 2 ^ 30) : mI n = -1 ↔ n = 0 := by
  constructor
  · intro q
    have h1 := congrArg Int32.toInt q
    rw [mI_toInt h, show (-1 : Int32).toInt = -1 from rfl] at h1
    omega
  · rintro rfl
    exact mI_0
theorem lowest_le (σ : Sg) (a : Nat) : lowest σ a ≤ 4 := low_le 4 0
set_option maxRecDepth 100000 in
set_option maxHeartbeats 4000000 in
theorem m_isLostAt {l : Launch} (hl : l.stackTraces = false) {g : mG} {m z : Nat} {μ0 μ : mM} {σ : Sg} (hR : RM g m μ0 σ μ) (a : Nat) (ha : a < 72) : Ct l g yX6_isLostAt [Cond.code yX6_isLostAt cX6_isLostAt 2 (some .boolean)] { frames := 3, cells := 0, slots := 0, locals := 66 } [.ref m, .int (nI a)] μ z (rdP (some (.int (bI (lostB σ a)))) μ z) noX := by
  refine Ct.of hl (by decide +kernel) (Nat.le_of_ble_eq_true rfl) ?_
  intro p e s mi args below meth c o hnm hr hx
  have o : Ok p l s mi args meth c g cX6_isLostAt 2 RX6 := o
  refine v_lv [(0, .ref m), (1, .int (nI a))] rfl ?_
  refine v_aload_n 0 o dX6_isLostAt_0 rfl rfl ?_
  refine v_get (v := .ref (m + 9)) o dX6_isLostAt_1 cf6 11 (by decide) fl_X6_35 hR.o rfl ?_
  refine v_iload_n 1 o dX6_isLostAt_4 rfl rfl ?_
  refine v_zald (bI (σ.2.1 2 a)) o dX6_isLostAt_5 (by omega) (by decide) hR.a9 rfl ?_
  refine v_if_eq_b 22 o dX6_isLostAt_6 (by decide) (fun c6 => ?_) (fun c6 => ?_)
  · refine v_iconst 0 o dX6_isLostAt_22 rfl ?_
    exact v_zret o dX6_isLostAt_23 hr (by decide) (Nat.le_of_ble_eq_true rfl) (Nat.le_of_ble_eq_true rfl) ⟨by rw [show lostB σ a = false by simp [lostB, c6]]; rfl, rfl, rfl⟩
  · refine v_aload_n 0 o dX6_isLostAt_9 rfl rfl ?_
    refine v_iload_n 1 o dX6_isLostAt_10 rfl rfl ?_
    refine v_callVr (v := .int (mI (lowest σ a))) [.int (nI a)] [] o dX6_isLostAt_11 cw_X6_142 im_X6_holder se_X6_holder cf6 hR.o (m_holder hl hR a (by omega)) rfl rfl (by decide) ⟨rfl, rfl⟩ (by decide) (Nat.le_of_ble_eq_true rfl) ?_
    refine v_iconst_i (-1) o dX6_isLostAt_14 (by decide) ?_
    refine v_icmp_ne 22 o dX6_isLostAt_15 (by decide) (fun c15 => ?_) (fun c15 => ?_)
    · refine v_iconst 0 o dX6_isLostAt_22 rfl ?_
      exact v_zret o dX6_isLostAt_23 hr (by decide) (Nat.le_of_ble_eq_true rfl) (Nat.le_of_ble_eq_true rfl) ⟨by rw [show lostB σ a = false by unfold lostB; rw [c6, decide_eq_false (fun q => c15 ((mI_ne (Nat.lt_of_le_of_lt (lowest_le σ a) (by decide))).mpr q))]; rfl]; rfl, rfl, rfl⟩
    · refine v_iconst 1 o dX6_isLostAt_18 rfl ?_
      refine v_goto 23 o dX6_isLostAt_19 (by decide) ?_
      exact v_zret o dX6_isLostAt_23 hr (by decide) (Nat.le_of_ble_eq_true rfl) (Nat.le_of_ble_eq_true rfl) ⟨by rw [show lostB σ a = true by unfold lostB; rw [c6, decide_eq_true ((mI_ne (Nat.lt_of_le_of_lt (lowest_le σ a) (by decide))).mp c15)]; rfl]; rfl, rfl, rfl⟩

