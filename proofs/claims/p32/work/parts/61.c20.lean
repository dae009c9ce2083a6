def pg0 (g : mG) (a c : Nat) : va_E := match c with
  | 0 => .inr (2, [.int 0, .int 0, .int 0, .long 0, .ref (a + 1 + 0), .ref (a + 1 + 1), .int 0, .int 0, .ref (a + 1 + 2), .ref (a + 1 + 3)])
  | 1 => .inl (g.2.1 1, aI 4 (fun _ => 0))
  | 2 => .inl (g.2.1 2, aL 4 (fun _ => 0))
  | 3 => .inl (g.2.1 0, aI 4 (fun i => if i < 4 then (-1) else (fun _ => 0) i))
  | 4 => .inl (g.2.1 5, aQ 5 (fun i => if i < 5 then some (a + 4 + 1 + i) else none))
  | 5 => .inl (g.2.1 0, aI 4 (fun i => if i < 4 then (-1) else (fun _ => 0) i))
  | 6 => .inl (g.2.1 0, aI 4 (fun i => if i < 4 then (-1) else (fun _ => 0) i))
  | 7 => .inl (g.2.1 0, aI 4 (fun i => if i < 4 then (-1) else (fun _ => 0) i))
  | 8 => .inl (g.2.1 0, aI 4 (fun i => if i < 4 then (-1) else (fun _ => 0) i))
  | _ => .inl (g.2.1 0, aI 4 (fun i => if i < 4 then (-1) else (fun _ => 0) i))
theorem pg0_of {g : mG} {a : Nat} {μ0 μ : mM} (h : CP g 2 a μ0 [.int 0, .int 0, .int 0, .long 0, .ref (a + 1 + 0), .ref (a + 1 + 1), .int 0, .int 0, .ref (a + 1 + 2), .ref (a + 1 + 3)] [.inl (g.2.1 1, aI 4 (fun _ => 0)), .inl (g.2.1 2, aL 4 (fun _ => 0)), .inl (g.2.1 0, aI 4 (fun i => if i < 4 then (-1) else (fun _ => 0) i)), .inl (g.2.1 5, aQ 5 (fun i => if i < 5 then some (a + 4 + 1 + i) else none)), .inl (g.2.1 0, aI 4 (fun i => if i < 4 then (-1) else (fun _ => 0) i)), .inl (g.2.1 0, aI 4 (fun i => if i < 4 then (-1) else (fun _ => 0) i)), .inl (g.2.1 0, aI 4 (fun i => if i < 4 then (-1) else (fun _ => 0) i)), .inl (g.2.1 0, aI 4 (fun i => if i < 4 then (-1) else (fun _ => 0) i)), .inl (g.2.1 0, aI 4 (fun i => if i < 4 then (-1) else (fun _ => 0) i))] μ) : ∀ c, c < 10 → μ (a + c) = some (pg0 g a c) := fun c hc => by
  rcases (show c = 0 ∨ c = 1 ∨ c = 2 ∨ c = 3 ∨ c = 4 ∨ c = 5 ∨ c = 6 ∨ c = 7 ∨ c = 8 ∨ c = 9 by omega) with rfl | rfl | rfl | rfl | rfl | rfl | rfl | rfl | rfl | rfl
  · exact h.1
  · exact h.2.1 0 _ rfl
  · exact h.2.1 1 _ rfl
  · exact h.2.1 2 _ rfl
  · exact h.2.1 3 _ rfl
  · exact h.2.1 4 _ rfl
  · exact h.2.1 5 _ rfl
  · exact h.2.1 6 _ rfl
  · exact h.2.1 7 _ rfl
  · exact h.2.1 8 _ rfl
/-- a book at b with j of its n pages laid -/
def BI (g : mG) (b n : Nat) (μ0 : mM) (fs : List Value) (j : Nat) (μ : mM) : Prop := μ b = some (.inr (0, fs)) ∧ μ (b + 1) = some (.inl (g.2.1 3, aQ n (fun k => if k < j then some (b + 2 + 10 * k) else none))) ∧ (∀ k, k < j → ∀ c, c < 10 → μ (b + 2 + 10 * k + c) = some (pg0 g (b + 2 + 10 * k) c)) ∧ ∀ q, ¬ (b ≤ q ∧ q < b + 2 + 10 * j) → μ q = μ0 q
theorem BI.s {g : mG} {b n j : Nat} {μ0 μ μ1 μ2 : mM} {fs : List Value} {f2 : List Value} {c2 : List va_E} (h : BI g b n μ0 fs j μ) (hl : c2.length = 9) (h2 : CP g 2 (b + 2 + 10 * j) μ f2 c2 μ1) (hp : ∀ c, c < 10 → μ1 (b + 2 + 10 * j + c) = some (pg0 g (b + 2 + 10 * j) c)) (e : μ2 = up μ1 (b + 1) (.inl (g.2.1 3, aQ n (va_up (fun k => if k < j then some (b + 2 + 10 * k) else none) j (some (b + 2 + 10 * j)))))) : BI g b n μ0 fs (j + 1) μ2 := by
  subst e
  refine ⟨?_, ?_, fun k hk c hc => ?_, fun q hq => ?_⟩
  · rw [up_n (by omega), h2.2.2 b (by omega)]
    exact h.1
  · rw [up_s]
    refine congrArg (fun q => some (Sum.inl (g.2.1 3, aQ n q))) (funext fun k => ?_)
    show (if k = j then some (b + 2 + 10 * j) else if k < j then some (b + 2 + 10 * k) else none) = if k < j + 1 then some (b + 2 + 10 * k) else none
    by_cases q : k = j
    · subst q
      rw [if_pos rfl, if_pos (Nat.lt_succ_self k)]
    · rw [if_neg q]
      by_cases w : k < j
      · rw [if_pos w, if_pos (by omega)]
      · rw [if_neg w, if_neg (by omega)]
  · rw [up_n (by omega)]
    by_cases q : k = j
    · subst q
      exact hp c hc
    · rw [h2.2.2 _ (by omega)]
      exact h.2.2.1 k (by omega) c hc
  · rw [up_n (by omega), h2.2.2 q (by omega)]
    exact h.2.2.2 q (by omega)
theorem BI.put {g : mG} {b n j : Nat} {μ0 μ μ1 : mM} {fs fs' : List Value} (h : BI g b n μ0 fs j μ) (e : μ1 = up μ b (.inr (0, fs'))) : BI g b n μ0 fs' j μ1 := by
  subst e
  refine ⟨up_s, ?_, fun k hk c hc => ?_, fun q hq => ?_⟩
  · rw [up_n (by omega)]
    exact h.2.1
  · rw [up_n (by omega)]
    exact h.2.2.1 k hk c hc
  · rw [up_n (by omega)]
    exact h.2.2.2 q hq
set_option maxRecDepth 100000 in
set_option maxHeartbeats 4000000 in
theorem c_Book {l : Launch} (hl : l.stackTraces = false) {g : mG} {b : Nat} {μ0 : mM} (n : Nat) (hn : n ≤ 12) (wide strong wish death : Int32) : Ct l g yX0_init [Cond.code yX0_init cX0_init 7 none] { frames := 2, cells := 121, slots := 576, locals := 44 } [.ref b, .int (nI n), .int wide, .int strong, .int wish, .int death] (up μ0 b (.inr (0, [.null, .int 0, .int 0, .int 0, .int 0, .int 0, .int 0, .int 0]))) (b + 1) (fun r μ' z' => r = none ∧ BI g b n μ0 [.ref (b + 1), .int wide, .int wish, .int strong, .int death, .int 0, .int 0, .int 0] n μ' ∧ z' = b + 2 + 10 * n) (noX) := by
  refine Ct.of hl (by decide +kernel) (Nat.le_of_ble_eq_true rfl) ?_
  intro p e s mi args below meth c o hnm hr hx
  have o : Ok p l s mi args meth c g cX0_init 7 RX0 := o
  refine v_lv [(0, .ref b), (1, .int (nI n)), (2, .int wide), (3, .int strong), (4, .int wish), (5, .int death)] rfl ?_
  have L : ∀ (d j : Nat) (μq : mM), j + d = n → BI g b n μ0 [.ref (b + 1), .int 0, .int 0, .int 0, .int 0, .int 0, .int 0, .int 0] j μq → V p l e { frames := 2, cells := 121, slots := 576, locals := 44 } s mi args below meth c (vx_MQ below (cQc g (fun r μ' z' => r = none ∧ BI g b n μ0 [.ref (b + 1), .int wide, .int wish, .int strong, .int death, .int 0, .int 0, .int 0] n μ' ∧ z' = b + 2 + 10 * n)) (cXC g (noX)) args s ({ frames := 2, cells := 121, slots := 576, locals := 44 } : Room).cells ({ frames := 2, cells := 121, slots := 576, locals := 44 } : Room).slots (gA g)) g μq (b + 2 + 10 * j) (1 + 10 * j) (n + 47 * j) 15 [(0, .ref b), (1, .int (nI n)), (2, .int wide), (3, .int strong), (4, .int wish), (5, .int death), (6, .int (nI j))] [] := by
    intro d
    induction d with
    | zero =>
      intro j μq hj hB
      obtain rfl : j = n := by omega
      refine v_iload 6 o dX0_init_15 rfl ?_
      refine v_iload_n 1 o dX0_init_17 rfl rfl ?_
      refine v_icmp_ge_n 41 o dX0_init_18 (by decide) (by omega) (by omega) (fun c18 => ?_) (fun c18 => absurd c18 (by omega))
      refine v_aload_n 0 o dX0_init_41 rfl rfl ?_
      refine v_iload_n 2 o dX0_init_42 rfl rfl ?_
      refine v_putF [.ref (b + 1), .int wide, .int 0, .int 0, .int 0, .int 0, .int 0, .int 0] o dX0_init_43 cf0 1 (by decide) (by decide) (hnm.trans rfl) rfl fl_X0_18 hB.1 rfl rfl (Nat.le_of_ble_eq_true rfl) rfl (fun μ1 e1 => ?_)
      have hB1 := hB.put e1
      refine v_aload_n 0 o dX0_init_46 rfl rfl ?_
      refine v_iload_n 3 o dX0_init_47 rfl rfl ?_
      refine v_put [.ref (b + 1), .int wide, .int 0, .int strong, .int 0, .int 0, .int 0, .int 0] o dX0_init_48 cf0 3 (by decide) (by decide) fl_X0_22 hB1.1 rfl rfl (Nat.le_of_ble_eq_true rfl) rfl (fun μ2 e2 => ?_)
      have hB2 := hB1.put e2
      refine v_aload_n 0 o dX0_init_51 rfl rfl ?_
      refine v_iload 4 o dX0_init_52 rfl ?_
      refine v_putF [.ref (b + 1), .int wide, .int wish, .int strong, .int 0, .int 0, .int 0, .int 0] o dX0_init_54 cf0 2 (by decide) (by decide) (hnm.trans rfl) rfl fl_X0_25 hB2.1 rfl rfl (Nat.le_of_ble_eq_true rfl) rfl (fun μ3 e3 => ?_)
      have hB3 := hB2.put e3
      refine v_aload_n 0 o dX0_init_57 rfl rfl ?_
      refine v_iload 5 o dX0_init_58 rfl ?_
      refine v_put [.ref (b + 1), .int wide, .int wish, .int strong, .int death, .int 0, .int 0, .int 0] o dX0_init_60 cf0 4 (by decide) (by decide) fl_X0_28 hB3.1 rfl rfl (Nat.le_of_ble_eq_true rfl) rfl (fun μ4 e4 => ?_)
      have hB4 := hB3.put e4
      exact v_vret o dX0_init_63 hr (by show 1 + 10 * j ≤ 121; omega) (by show j + 47 * j ≤ 576; omega) ⟨rfl, hB4, rfl⟩
    | succ d ih =>
      intro j μq hj hB
      refine v_iload 6 o dX0_init_15 rfl ?_
      refine v_iload_n 1 o dX0_init_17 rfl rfl ?_
      refine v_icmp_ge_n 41 o dX0_init_18 (by decide) (by omega) (by omega) (fun c18 => absurd c18 (by omega)) (fun c18 => ?_)
      refine v_aload_n 0 o dX0_init_21 rfl rfl ?_
      refine v_get (v := .ref (b + 1)) o dX0_init_22 cf0 0 (by decide) fl_X0_11 hB.1 rfl ?_
      refine v_iload 6 o dX0_init_25 rfl ?_
      refine v_new [.int 0, .int 0, .int 0, .long 0, .null, .null, .int 0, .int 0, .null, .null] o dX0_init_27 cf2 cl_X0_9 ins_X2 ini_X2 (fun j hj => by rcases (show j = 0 ∨ j = 1 ∨ j = 2 ∨ j = 3 ∨ j = 4 ∨ j = 5 ∨ j = 6 ∨ j = 7 ∨ j = 8 ∨ j = 9 by omega) with rfl | rfl | rfl | rfl | rfl | rfl | rfl | rfl | rfl | rfl <;> rfl) (by show 1 + 10 * j + 1 ≤ 121; omega) (by show n + 47 * j + 10 ≤ 576; omega) ?_
      have hS : CP g 2 (b + 2 + 10 * j) μq [.int 0, .int 0, .int 0, .long 0, .null, .null, .int 0, .int 0, .null, .null] [] (up μq (b + 2 + 10 * j) (.inr (2, [.int 0, .int 0, .int 0, .long 0, .null, .null, .int 0, .int 0, .null, .null]))) := CP.start
      generalize up μq (b + 2 + 10 * j) (.inr (2, [.int 0, .int 0, .int 0, .long 0, .null, .null, .int 0, .int 0, .null, .null])) = μ8 at hS ⊢
      refine v_dup o dX0_init_30 rfl ?_
      refine v_callI (b := b + 2 + 10 * j) [] [.ref (b + 2 + 10 * j), .int (nI j), .ref (b + 1)] o dX0_init_31 cw_X0_17 rfl im_X2_init (c_Page hl hS) rfl rfl ⟨Nat.le_of_ble_eq_true rfl, Nat.le_of_ble_eq_true rfl⟩ ⟨(by show 1 + 10 * j + 1 + 9 ≤ 121; omega), (by show n + 47 * j + 10 + 37 ≤ 576; omega)⟩ (Nat.le_of_ble_eq_true rfl) ?_ (fun _ _ _ _ h => h.elim)
      rintro _ μ9 _ _ ⟨rfl, hS9, rfl⟩
      refine v_st [.ref (b + 2 + 10 * j), .int (nI j), .ref (b + 1)] rfl ?_
      refine v_aast (t0 := 3) o dX0_init_34 rfl cf2 (show j < n by omega) (by omega) ((hS9.2.2 (b + 1) (by show ¬ (b + 2 + 10 * j ≤ b + 1 ∧ _); omega)).trans hB.2.1) hS9.1 (fun μ7 e7 => ?_)
      have hB7 := hB.s rfl hS9 (pg0_of hS9) e7
      refine v_iinc (nI (j + 1)) [(6, .int (nI (j + 1))), (0, .ref b), (1, .int (nI n)), (2, .int wide), (3, .int strong), (4, .int wish), (5, .int death)] o dX0_init_35 6 rfl (iinc_n j 1) (by decide) rfl ?_
      refine v_goto 15 o dX0_init_38 (by decide) ?_
      refine v_sub [(0, .ref b), (1, .int (nI n)), (2, .int wide), (3, .int strong), (4, .int wish), (5, .int death), (6, .int (nI (j + 1)))] [1, 2, 3, 4, 5, 6, 0] rfl ?_
      refine v_widen (1 + 10 * (j + 1)) (n + 47 * (j + 1)) (by show 1 + 10 * j + 1 + 9 ≤ _; omega) (by show n + 47 * j + 10 + 37 ≤ _; omega) ?_
      exact ih (j + 1) _ (by omega) hB7
  refine v_aload_n 0 o dX0_init_0 rfl rfl ?_
  refine v_objInit o dX0_init_1 ml_X0_3 im_obj co_obj (Nat.le_of_ble_eq_true rfl) (Nat.le_of_ble_eq_true rfl) ?_
  refine v_aload_n 0 o dX0_init_4 rfl rfl ?_
  refine v_iload_n 1 o dX0_init_5 rfl rfl ?_
  refine v_newQ (t0 := 3) n o dX0_init_6 cl_X0_9 o.2.2.2.2.1.2.2.2.2.1 rfl (by omega) (Nat.le_of_ble_eq_true rfl) (by show 0 + n ≤ 576; omega) ?_
  have hB : BI g b n μ0 [.null, .int 0, .int 0, .int 0, .int 0, .int 0, .int 0, .int 0] 0 (up (up μ0 b (.inr (0, [.null, .int 0, .int 0, .int 0, .int 0, .int 0, .int 0, .int 0]))) (b + 1) (.inl (g.2.1 3, aQ n (fun _ => none)))) := ⟨(up_n (by omega)).trans up_s, up_s, fun k hk => absurd hk (Nat.not_lt_zero k), fun q hq => (up_n (by omega)).trans (up_n (by omega))⟩
  generalize up (up μ0 b (.inr (0, [.null, .int 0, .int 0, .int 0, .int 0, .int 0, .int 0, .int 0]))) (b + 1) (.inl (g.2.1 3, aQ n (fun _ => none))) = μq at hB ⊢
  refine v_putF [.ref (b + 1), .int 0, .int 0, .int 0, .int 0, .int 0, .int 0, .int 0] o dX0_init_9 cf0 0 (by decide) (by decide) (hnm.trans rfl) rfl fl_X0_11 hB.1 rfl rfl (Nat.le_of_ble_eq_true rfl) rfl (fun μ5 e5 => ?_)
  have hB5 := hB.put e5
  refine v_iconst 0 o dX0_init_12 rfl ?_
  refine v_istore [(6, .int (nI 0)), (0, .ref b), (1, .int (nI n)), (2, .int wide), (3, .int strong), (4, .int wish), (5, .int death)] o dX0_init_13 (by decide) rfl ?_
  refine v_sub [(0, .ref b), (1, .int (nI n)), (2, .int wide), (3, .int strong), (4, .int wish), (5, .int death), (6, .int (nI 0))] [1, 2, 3, 4, 5, 6, 0] rfl ?_
  refine v_widen (1 + 10 * 0) (n + 47 * 0) (by decide) (by omega) ?_
  exact L n 0 _ (by omega) hB5

