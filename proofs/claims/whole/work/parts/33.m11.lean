/-! the order of pages: the first row, by the lowest page first, in which each leads to the one behind it -/
def notIn (p : Nat) : List Nat → Bool
  | [] => true
  | q :: r => notIn p r && decide (q ≠ p)
def okB (R : Nat → Nat → Bool) (pre : List Nat) (p : Nat) : Bool := (match pre with | [] => true | q :: _ => R q p) && notIn p pre
def fsm {α : Type} (h : Nat → Option α) : Nat → Nat → Option α
  | 0, _ => none
  | r + 1, d => match h d with | some x => some x | none => fsm h r (d + 1)
/-- m places are left; those before lie in pre, the last first -/
def dfs (R : Nat → Nat → Bool) (n : Nat) : Nat → List Nat → Option (List Nat)
  | 0, pre => some pre
  | m + 1, pre => fsm (fun p => if okB R pre p = true then dfs R n m (p :: pre) else none) n 0
def Rn (σ : Sg) (b q p : Nat) : Bool := decide (σ.2.2.1 6 (12 * b + q) = σ.2.2.1 5 (12 * b + p))
def ordL (σ : Sg) (b : Nat) : Option (List Nat) := dfs (Rn σ b) (σ.1 0 b) (σ.1 0 b) []
def rowAt : List Nat → Nat → Nat
  | [], _ => 0
  | p :: r, i => if i = r.length then p else rowAt r i
def ordN (σ : Sg) (b x : Nat) : Nat := match ordL σ b with | none => 0 | some L => rowAt L x + 1
def sp_order (σ : Sg) (b x : Int32) : Int32 × Sg :=
  if isP σ b x = true then
    if 7 < σ.1 0 (tn b) then (nI 0, th σ 2) else (mI (ordN σ (tn b) (tn x)), th σ 0)
  else (nI 0, th σ 1)
theorem fsm_t {α : Type} {h : Nat → Option α} {r d : Nat} {x : α} (q : h d = some x) : fsm h (r + 1) d = some x := by
  show (match h d with | some x => some x | none => fsm h r (d + 1)) = _
  rw [q]
theorem fsm_f {α : Type} {h : Nat → Option α} {r d : Nat} (q : h d = none) : fsm h (r + 1) d = fsm h r (d + 1) := by
  show (match h d with | some x => some x | none => fsm h r (d + 1)) = _
  rw [q]
/-- the row of the reference holds these, the last first -/
def mt (τ : Sg) : List Nat → Prop
  | [] => True
  | p :: r => τ.1 5 r.length = p + 1 ∧ mt τ r
def nd (τ : Sg) (p : Nat) : Nat → Bool
  | 0 => true
  | j + 1 => nd τ p j && decide (τ.1 5 j ≠ p + 1)
theorem nd_notIn {τ : Sg} (p : Nat) : ∀ pre : List Nat, mt τ pre → nd τ p pre.length = notIn p pre
  | [], _ => rfl
  | q :: r, h => by
    show (nd τ p r.length && decide (τ.1 5 r.length ≠ p + 1)) = (notIn p r && decide (q ≠ p))
    rw [nd_notIn p r h.2, h.1]
    congr 1
    simp
theorem mt_set {τ : Sg} {k v : Nat} : ∀ pre : List Nat, pre.length ≤ k → mt τ pre → mt (uN τ 5 k v) pre
  | [], _, _ => trivial
  | p :: r, hl, h => ⟨by
      show u2 τ.1 5 k v 5 r.length = _
      have : r.length + 1 ≤ k := hl
      rw [u2_i (by omega)]
      exact h.1, mt_set r (by have : r.length + 1 ≤ k := hl; omega) h.2⟩
theorem mt_at {τ : Sg} : ∀ (L : List Nat) (i : Nat), mt τ L → i < L.length → τ.1 5 i = rowAt L i + 1
  | [], i, _, h => absurd h (by simp)
  | p :: r, i, h, hi => by
    have : i < r.length + 1 := hi
    unfold rowAt
    by_cases e : i = r.length
    · subst e
      rw [if_pos rfl]
      exact h.1
    · rw [if_neg e]
      exact mt_at r i h.2 (by omega)
theorem scr.N5 {σ τ : Sg} (h : scr τ σ) (i v : Nat) : scr (uN τ 5 i v) σ := ⟨fun k2 h2 h3 => by
  rw [← h.1 k2 h2 h3]
  funext x
  exact u2_k h3, h.2.1, h.2.2.1, h.2.2.2⟩
theorem fsm_P {α : Type} {P : α → Prop} {h : Nat → Option α} : ∀ r d x, (∀ p y, d ≤ p → p < d + r → h p = some y → P y) → fsm h r d = some x → P x
  | 0, d, x, _, q => by cases q
  | r + 1, d, x, hP, q => by
    cases hd : h d with
    | some y =>
      rw [fsm_t hd] at q
      cases q
      exact hP d _ (Nat.le_refl d) (by omega) hd
    | none =>
      rw [fsm_f hd] at q
      exact fsm_P r (d + 1) x (fun p y a b c => hP p y (by omega) (by omega) c) q
theorem dfs_len {R : Nat → Nat → Bool} {n : Nat} : ∀ m pre L, dfs R n m pre = some L → L.length = pre.length + m
  | 0, pre, L, h => by cases h; rfl
  | m + 1, pre, L, h => by
    refine fsm_P (P := fun L => L.length = pre.length + (m + 1)) n 0 L (fun p y _ _ hy => ?_) h
    split at hy
    · have := dfs_len m (p :: pre) y hy
      rw [List.length_cons] at this
      omega
    · cases hy
theorem mI_eq {a b : Nat} (ha : a < 2 ^ 30) (hb : b < 2 ^ 30) : mI a = mI b ↔ a = b := by
  constructor
  · intro q
    have := congrArg Int32.toInt q
    rw [mI_toInt ha, mI_toInt hb] at this
    omega
  · rintro rfl
    rfl
set_option maxRecDepth 100000 in
set_option maxHeartbeats 4000000 in
theorem m_fits {l : Launch} (hl : l.stackTraces = false) {g : mG} {m z : Nat} {μ0 μ : mM} {σ : Sg} (hR : RM g m μ0 σ μ) (i : Nat) (hi : i < 6) (u : Nat) (pre : List Nat) (hm : mt σ (u :: pre)) (hlen : pre.length < 12) (hp : u < 12) (hpre : ∀ q ∈ pre, q < 12) (hrow : ∀ j, j ≤ pre.length → σ.1 5 j ≤ 12) : Ct l g yX6_fits [Cond.code yX6_fits cX6_fits 5 (some .boolean)] { frames := 0, cells := 0, slots := 0, locals := 0 } [.ref m, .int (nI i), .int (nI pre.length)] μ z (rdP (some (.int (bI (okB (Rn σ i) pre u)))) μ z) noX := by
  refine Ct.of hl (by decide +kernel) (Nat.le_of_ble_eq_true rfl) ?_
  intro p e s mi args below meth c o hnm hr hx
  have o : Ok p l s mi args meth c g cX6_fits 5 RX6 := o
  refine v_lv [(0, .ref m), (1, .int (nI i)), (2, .int (nI pre.length))] rfl ?_
  have hk1 := hm.1
  have L : ∀ (C : Bool), (C && nd σ u pre.length) = okB (Rn σ i) pre u → ∀ d j, j + d = pre.length → V p l e { frames := 0, cells := 0, slots := 0, locals := 0 } s mi args below meth c (vx_MQ below (cQc g (rdP (some (.int (bI (okB (Rn σ i) pre u)))) μ z)) (cXC g noX) args s ({ frames := 0, cells := 0, slots := 0, locals := 0 } : Room).cells ({ frames := 0, cells := 0, slots := 0, locals := 0 } : Room).slots (gA g)) g μ z 0 0 50 [(0, .ref m), (1, .int (nI i)), (2, .int (nI pre.length)), (3, .int (bI (C && nd σ u j))), (4, .int (nI j))] [] := by
    intro C hC d
    induction d with
    | zero =>
      intro j hj
      refine v_iload 4 o dX6_fits_50 rfl ?_
      refine v_iload_n 2 o dX6_fits_52 rfl rfl ?_
      refine v_icmp_ge_n 88 o dX6_fits_53 (by decide) (by omega) (by omega) (fun c53 => ?_) (fun c53 => absurd c53 (by omega))
      refine v_iload_n 3 o dX6_fits_88 rfl rfl ?_
      exact v_zret o dX6_fits_89 hr (narrow_bI _) (Nat.le_of_ble_eq_true rfl) (Nat.le_of_ble_eq_true rfl) ⟨by rw [← hC, ← show j = pre.length by omega], rfl, rfl⟩
    | succ d ih =>
      intro j hj
      have hr1 := hrow j (by omega)
      have hr2 := hrow pre.length (Nat.le_refl _)
      refine v_iload 4 o dX6_fits_50 rfl ?_
      refine v_iload_n 2 o dX6_fits_52 rfl rfl ?_
      refine v_icmp_ge_n 88 o dX6_fits_53 (by decide) (by omega) (by omega) (fun c53 => absurd c53 (by omega)) (fun c53 => ?_)
      refine v_iload_n 3 o dX6_fits_56 rfl rfl ?_
      refine v_if_eq_b 80 o dX6_fits_57 (by decide) (fun c57 => ?_) (fun c57 => ?_)
      · refine v_iconst 0 o dX6_fits_80 rfl ?_
        refine v_istore_n [(3, .int (nI 0)), (0, .ref m), (1, .int (nI i)), (2, .int (nI pre.length)), (4, .int (nI j))] o dX6_fits_81 rfl (by decide) rfl ?_
        refine v_iinc (nI (j + 1)) [(4, .int (nI (j + 1))), (3, .int (nI 0)), (0, .ref m), (1, .int (nI i)), (2, .int (nI pre.length))] o dX6_fits_82 4 rfl (iinc_n j 1) (by decide) rfl ?_
        refine v_goto 50 o dX6_fits_85 (by decide) ?_
        refine v_sub [(0, .ref m), (1, .int (nI i)), (2, .int (nI pre.length)), (3, .int (nI 0)), (4, .int (nI (j + 1)))] [2, 3, 4, 1, 0] rfl ?_
        refine v_lv [(0, .ref m), (1, .int (nI i)), (2, .int (nI pre.length)), (3, .int (bI (C && nd σ u (j + 1)))), (4, .int (nI (j + 1)))] (by rw [show (C && nd σ u (j + 1)) = false from by rw [nd, ← Bool.and_assoc, c57]; rfl]; rfl) ?_
        exact ih (j + 1) (by omega)
      · refine v_aload_n 0 o dX6_fits_60 rfl rfl ?_
        refine v_get (v := .ref (m + 25)) o dX6_fits_61 cf6 29 (by decide) fl_X6_88 hR.o rfl ?_
        refine v_iload 4 o dX6_fits_64 rfl ?_
        refine v_iald (mI (σ.1 5 j)) o dX6_fits_66 (by omega) (by decide) hR.a25 rfl ?_
        refine v_aload_n 0 o dX6_fits_67 rfl rfl ?_
        refine v_get (v := .ref (m + 25)) o dX6_fits_68 cf6 29 (by decide) fl_X6_88 hR.o rfl ?_
        refine v_iload_n 2 o dX6_fits_71 rfl rfl ?_
        refine v_iald (mI (σ.1 5 pre.length)) o dX6_fits_72 (by omega) (by decide) hR.a25 rfl ?_
        refine v_icmp_eq 80 o dX6_fits_73 (by decide) (fun c73 => ?_) (fun c73 => ?_)
        · refine v_iconst 0 o dX6_fits_80 rfl ?_
          refine v_istore_n [(3, .int (nI 0)), (0, .ref m), (1, .int (nI i)), (2, .int (nI pre.length)), (4, .int (nI j))] o dX6_fits_81 rfl (by decide) rfl ?_
          refine v_iinc (nI (j + 1)) [(4, .int (nI (j + 1))), (3, .int (nI 0)), (0, .ref m), (1, .int (nI i)), (2, .int (nI pre.length))] o dX6_fits_82 4 rfl (iinc_n j 1) (by decide) rfl ?_
          refine v_goto 50 o dX6_fits_85 (by decide) ?_
          refine v_sub [(0, .ref m), (1, .int (nI i)), (2, .int (nI pre.length)), (3, .int (nI 0)), (4, .int (nI (j + 1)))] [2, 3, 4, 1, 0] rfl ?_
          refine v_lv [(0, .ref m), (1, .int (nI i)), (2, .int (nI pre.length)), (3, .int (bI (C && nd σ u (j + 1)))), (4, .int (nI (j + 1)))] (by rw [show (C && nd σ u (j + 1)) = false from by rw [nd, ← Bool.and_assoc, c57, ← hk1, (mI_eq (by omega) (by omega)).mp c73]; simp]; rfl) ?_
          exact ih (j + 1) (by omega)
        · refine v_iconst 1 o dX6_fits_76 rfl ?_
          refine v_goto 81 o dX6_fits_77 (by decide) ?_
          refine v_istore_n [(3, .int (nI 1)), (0, .ref m), (1, .int (nI i)), (2, .int (nI pre.length)), (4, .int (nI j))] o dX6_fits_81 rfl (by decide) rfl ?_
          refine v_iinc (nI (j + 1)) [(4, .int (nI (j + 1))), (3, .int (nI 1)), (0, .ref m), (1, .int (nI i)), (2, .int (nI pre.length))] o dX6_fits_82 4 rfl (iinc_n j 1) (by decide) rfl ?_
          refine v_goto 50 o dX6_fits_85 (by decide) ?_
          refine v_sub [(0, .ref m), (1, .int (nI i)), (2, .int (nI pre.length)), (3, .int (nI 1)), (4, .int (nI (j + 1)))] [2, 3, 4, 1, 0] rfl ?_
          refine v_lv [(0, .ref m), (1, .int (nI i)), (2, .int (nI pre.length)), (3, .int (bI (C && nd σ u (j + 1)))), (4, .int (nI (j + 1)))] (by rw [show (C && nd σ u (j + 1)) = true from by rw [nd, ← Bool.and_assoc, c57, ← hk1]; simp; exact fun q => c73 (by rw [q])]; rfl) ?_
          exact ih (j + 1) (by omega)
  cases hpr : pre with
  | nil =>
    subst hpr
    refine v_lv [(0, .ref m), (1, .int (nI i)), (2, .int (nI 0))] rfl ?_
    refine v_iload_n 2 o dX6_fits_0 rfl rfl ?_
    refine v_if_eq_n 41 o dX6_fits_1 (by decide) (by decide) (fun c1 => ?_) (fun c1 => absurd c1 (by omega))
    refine v_iconst 1 o dX6_fits_41 rfl ?_
    refine v_goto 46 o dX6_fits_42 (by decide) ?_
    refine v_istore_n [(3, .int (nI 1)), (0, .ref m), (1, .int (nI i)), (2, .int (nI 0))] o dX6_fits_46 rfl (by decide) rfl ?_
    refine v_iconst 0 o dX6_fits_47 rfl ?_
    refine v_istore [(4, .int (nI 0)), (3, .int (nI 1)), (0, .ref m), (1, .int (nI i)), (2, .int (nI 0))] o dX6_fits_48 (by decide) rfl ?_
    refine v_sub [(0, .ref m), (1, .int (nI i)), (2, .int (nI 0)), (3, .int (nI 1)), (4, .int (nI 0))] [2, 3, 4, 1, 0] rfl ?_
    refine v_lv [(0, .ref m), (1, .int (nI i)), (2, .int (nI 0)), (3, .int (bI (true && nd σ u 0))), (4, .int (nI 0))] rfl ?_
    exact L true rfl 0 0 rfl
  | cons q r =>
    subst hpr
    have hq := hm.2.1
    have hq12 := hpre q List.mem_cons_self
    have hlr : r.length + 1 < 12 := hlen
    refine v_lv [(0, .ref m), (1, .int (nI i)), (2, .int (nI (r.length + 1)))] rfl ?_
    refine v_iload_n 2 o dX6_fits_0 rfl rfl ?_
    refine v_if_eq_n 41 o dX6_fits_1 (by decide) (by omega) (fun c1 => absurd c1 (Nat.succ_ne_zero _)) (fun c1 => ?_)
    refine v_aload_n 0 o dX6_fits_4 rfl rfl ?_
    refine v_get (v := .ref (m + 14)) o dX6_fits_5 cf6 16 (by decide) fl_X6_51 hR.o rfl ?_
    refine v_bipush 12 o dX6_fits_8 (by decide) ?_
    refine v_iload_n 1 o dX6_fits_10 rfl rfl ?_
    refine v_imul (nI (12 * i)) o dX6_fits_11 (pk_mul 12 i) ?_
    refine v_aload_n 0 o dX6_fits_12 rfl rfl ?_
    refine v_get (v := .ref (m + 25)) o dX6_fits_13 cf6 29 (by decide) fl_X6_88 hR.o rfl ?_
    refine v_iload_n 2 o dX6_fits_16 rfl rfl ?_
    refine v_iconst 1 o dX6_fits_17 rfl ?_
    refine v_isub (nI r.length) o dX6_fits_18 (nI_pred _) ?_
    refine v_iald (mI (σ.1 5 r.length)) o dX6_fits_19 (by have : r.length + 1 < 12 := hlen; omega) (by decide) hR.a25 rfl ?_
    refine v_top (nI q) (by rw [hq, mI_s]) ?_
    refine v_iadd (nI (12 * i + q)) o dX6_fits_20 (nI_add (12 * i) q) ?_
    refine v_iald (σ.2.2.1 6 (12 * i + q)) o dX6_fits_21 (by omega) (by decide) hR.a14 rfl ?_
    refine v_aload_n 0 o dX6_fits_22 rfl rfl ?_
    refine v_get (v := .ref (m + 13)) o dX6_fits_23 cf6 15 (by decide) fl_X6_48 hR.o rfl ?_
    refine v_bipush 12 o dX6_fits_26 (by decide) ?_
    refine v_iload_n 1 o dX6_fits_28 rfl rfl ?_
    refine v_imul (nI (12 * i)) o dX6_fits_29 (pk_mul 12 i) ?_
    refine v_aload_n 0 o dX6_fits_30 rfl rfl ?_
    refine v_get (v := .ref (m + 25)) o dX6_fits_31 cf6 29 (by decide) fl_X6_88 hR.o rfl ?_
    refine v_iload_n 2 o dX6_fits_34 rfl rfl ?_
    refine v_iald (mI (σ.1 5 (r.length + 1))) o dX6_fits_35 hlen (by decide) hR.a25 rfl ?_
    refine v_top (nI u) (by rw [show σ.1 5 (r.length + 1) = u + 1 from hk1, mI_s]) ?_
    refine v_iadd (nI (12 * i + u)) o dX6_fits_36 (nI_add (12 * i) u) ?_
    refine v_iald (σ.2.2.1 5 (12 * i + u)) o dX6_fits_37 (by omega) (by decide) hR.a13 rfl ?_
    refine v_icmp_ne 45 o dX6_fits_38 (by decide) (fun c38 => ?_) (fun c38 => ?_)
    · refine v_iconst 0 o dX6_fits_45 rfl ?_
      refine v_istore_n [(3, .int (nI 0)), (0, .ref m), (1, .int (nI i)), (2, .int (nI (r.length + 1)))] o dX6_fits_46 rfl (by decide) rfl ?_
      refine v_iconst 0 o dX6_fits_47 rfl ?_
      refine v_istore [(4, .int (nI 0)), (3, .int (nI 0)), (0, .ref m), (1, .int (nI i)), (2, .int (nI (r.length + 1)))] o dX6_fits_48 (by decide) rfl ?_
      refine v_sub [(0, .ref m), (1, .int (nI i)), (2, .int (nI (r.length + 1))), (3, .int (nI 0)), (4, .int (nI 0))] [2, 3, 4, 1, 0] rfl ?_
      refine v_lv [(0, .ref m), (1, .int (nI i)), (2, .int (nI (r.length + 1))), (3, .int (bI (false && nd σ u 0))), (4, .int (nI 0))] rfl ?_
      exact L false (by rw [nd_notIn u (q :: r) hm.2]; show _ = (Rn σ i q u && notIn u (q :: r)); rw [show Rn σ i q u = false from decide_eq_false c38]) (r.length + 1) 0 (Nat.zero_add _)
    · refine v_iconst 1 o dX6_fits_41 rfl ?_
      refine v_goto 46 o dX6_fits_42 (by decide) ?_
      refine v_istore_n [(3, .int (nI 1)), (0, .ref m), (1, .int (nI i)), (2, .int (nI (r.length + 1)))] o dX6_fits_46 rfl (by decide) rfl ?_
      refine v_iconst 0 o dX6_fits_47 rfl ?_
      refine v_istore [(4, .int (nI 0)), (3, .int (nI 1)), (0, .ref m), (1, .int (nI i)), (2, .int (nI (r.length + 1)))] o dX6_fits_48 (by decide) rfl ?_
      refine v_sub [(0, .ref m), (1, .int (nI i)), (2, .int (nI (r.length + 1))), (3, .int (nI 1)), (4, .int (nI 0))] [2, 3, 4, 1, 0] rfl ?_
      refine v_lv [(0, .ref m), (1, .int (nI i)), (2, .int (nI (r.length + 1))), (3, .int (bI (true && nd σ u 0))), (4, .int (nI 0))] rfl ?_
      exact L true (by rw [nd_notIn u (q :: r) hm.2]; show _ = (Rn σ i q u && notIn u (q :: r)); rw [show Rn σ i q u = true from decide_eq_true c38]) (r.length + 1) 0 (Nat.zero_add _)

set_option maxRecDepth 100000 in
set_option maxHeartbeats 4000000 in
theorem m_layOrder {l : Launch} (hl : l.stackTraces = false) {g : mG} {m z : Nat} {μ0 μ : mM} {σ : Sg} (hR : RM g m μ0 σ μ) (hI : Inv σ) (i : Nat) (hi : i < σ.1 3 0) (h7 : σ.1 0 i ≤ 7) : Ct l g yX6_layOrder [Cond.code yX6_layOrder cX6_layOrder 3 (some .boolean)] { frames := 1, cells := 0, slots := 0, locals := 24 } [.ref m, .int (nI i)] μ z (fun r μ' z' => r = some (.int (bI (ordL σ i).isSome)) ∧ (∃ τ, scr τ σ ∧ (∀ L, ordL σ i = some L → mt τ L) ∧ RM g m μ0 τ μ') ∧ z = z') noX := by
  refine Ct.of hl (by decide +kernel) (Nat.le_of_ble_eq_true rfl) ?_
  intro p e s mi args below meth c o hnm hr hx
  have o : Ok p l s mi args meth c g cX6_layOrder 3 RX6 := o
  refine v_lv [(0, .ref m), (1, .int (nI i))] rfl ?_
  have h6 := hI.1
  have h1 := hI.2.2.2.2.1 i hi
  have E1 : ∀ (L : List Nat) (τ : Sg) (μq : mM), ordL σ i = some L → scr τ σ → mt τ L → RM g m μ0 τ μq → V p l e { frames := 1, cells := 0, slots := 0, locals := 24 } s mi args below meth c (vx_MQ below (cQc g (fun r μ' z' => r = some (.int (bI (ordL σ i).isSome)) ∧ (∃ τ, scr τ σ ∧ (∀ L, ordL σ i = some L → mt τ L) ∧ RM g m μ0 τ μ') ∧ z = z')) (cXC g noX) args s ({ frames := 1, cells := 0, slots := 0, locals := 24 } : Room).cells ({ frames := 1, cells := 0, slots := 0, locals := 24 } : Room).slots (gA g)) g μq z 0 0 9 [(0, .ref m), (1, .int (nI i)), (2, .int (nI (σ.1 0 i)))] [] := by
    intro L τ μq hL hs hm hRq
    have hp : τ.1 0 i = σ.1 0 i := congrFun (hs.1 0 (by decide) (by decide)) i
    refine v_iload_n 2 o dX6_layOrder_9 rfl rfl ?_
    refine v_if_lt_n 76 o dX6_layOrder_10 (by decide) (by omega) (fun c10 => absurd c10 (Nat.not_lt_zero _)) (fun c10 => ?_)
    refine v_iload_n 2 o dX6_layOrder_13 rfl rfl ?_
    refine v_aload_n 0 o dX6_layOrder_14 rfl rfl ?_
    refine v_get (v := .ref (m + 1)) o dX6_layOrder_15 cf6 2 (by decide) fl_X6_7 hRq.o rfl ?_
    refine v_iload_n 1 o dX6_layOrder_18 rfl rfl ?_
    refine v_iald (nI (τ.1 0 i)) o dX6_layOrder_19 (by omega) (by decide) hRq.a1 rfl ?_
    refine v_icmp_ge_n 76 o dX6_layOrder_20 (by decide) (by omega) (by omega) (fun c20 => ?_) (fun c20 => absurd c20 (by omega))
    refine v_iload_n 2 o dX6_layOrder_76 rfl rfl ?_
    refine v_if_lt_n 84 o dX6_layOrder_77 (by decide) (by omega) (fun c77 => absurd c77 (Nat.not_lt_zero _)) (fun c77 => ?_)
    refine v_iconst 1 o dX6_layOrder_80 rfl ?_
    refine v_goto 85 o dX6_layOrder_81 (by decide) ?_
    exact v_zret o dX6_layOrder_85 hr (by decide) (Nat.le_of_ble_eq_true rfl) (Nat.le_of_ble_eq_true rfl) ⟨by rw [hL]; rfl, ⟨τ, hs, (fun L2 h2 => by rw [hL] at h2; cases h2; exact hm), hRq⟩, rfl⟩
  have E0 : ∀ (τ : Sg) (μq : mM), ordL σ i = none → scr τ σ → RM g m μ0 τ μq → V p l e { frames := 1, cells := 0, slots := 0, locals := 24 } s mi args below meth c (vx_MQ below (cQc g (fun r μ' z' => r = some (.int (bI (ordL σ i).isSome)) ∧ (∃ τ, scr τ σ ∧ (∀ L, ordL σ i = some L → mt τ L) ∧ RM g m μ0 τ μ') ∧ z = z')) (cXC g noX) args s ({ frames := 1, cells := 0, slots := 0, locals := 24 } : Room).cells ({ frames := 1, cells := 0, slots := 0, locals := 24 } : Room).slots (gA g)) g μq z 0 0 9 [(0, .ref m), (1, .int (nI i)), (2, .int (mI 0))] [] := by
    intro τ μq hL hs hRq
    refine v_iload_n 2 o dX6_layOrder_9 rfl rfl ?_
    refine v_if_lt 76 o dX6_layOrder_10 (by decide) (fun c10 => ?_) (fun c10 => absurd c10 (not_not_intro (by decide)))
    refine v_iload_n 2 o dX6_layOrder_76 rfl rfl ?_
    refine v_if_lt 84 o dX6_layOrder_77 (by decide) (fun c77 => ?_) (fun c77 => absurd c77 (not_not_intro (by decide)))
    refine v_iconst 0 o dX6_layOrder_84 rfl ?_
    exact v_zret o dX6_layOrder_85 hr (by decide) (Nat.le_of_ble_eq_true rfl) (Nat.le_of_ble_eq_true rfl) ⟨by rw [hL]; rfl, ⟨τ, hs, (fun L2 h2 => by rw [hL] at h2; cases h2), hRq⟩, rfl⟩
  have P : ∀ (w : Nat) (pre : List Nat), pre.length + (w + 1) = σ.1 0 i → (∀ q ∈ pre, q < 12) → ∀ (r d : Nat), d + r = σ.1 0 i → ∀ (τ : Sg) (μq : mM), scr τ σ → mt τ pre → τ.1 5 pre.length = d → RM g m μ0 τ μq → (∀ j, j < pre.length → τ.1 5 j ≤ 12) →
      (∀ L τ' μ', fsm (fun u => if okB (Rn σ i) pre u = true then dfs (Rn σ i) (σ.1 0 i) w (u :: pre) else none) r d = some L → scr τ' σ → mt τ' L → RM g m μ0 τ' μ' → V p l e { frames := 1, cells := 0, slots := 0, locals := 24 } s mi args below meth c (vx_MQ below (cQc g (fun r μ' z' => r = some (.int (bI (ordL σ i).isSome)) ∧ (∃ τ, scr τ σ ∧ (∀ L, ordL σ i = some L → mt τ L) ∧ RM g m μ0 τ μ') ∧ z = z')) (cXC g noX) args s ({ frames := 1, cells := 0, slots := 0, locals := 24 } : Room).cells ({ frames := 1, cells := 0, slots := 0, locals := 24 } : Room).slots (gA g)) g μ' z 0 0 9 [(0, .ref m), (1, .int (nI i)), (2, .int (nI (σ.1 0 i)))] []) →
      (∀ τ' μ', fsm (fun u => if okB (Rn σ i) pre u = true then dfs (Rn σ i) (σ.1 0 i) w (u :: pre) else none) r d = none → scr τ' σ → mt τ' pre → (∀ j, j < pre.length → τ'.1 5 j ≤ 12) → RM g m μ0 τ' μ' → V p l e { frames := 1, cells := 0, slots := 0, locals := 24 } s mi args below meth c (vx_MQ below (cQc g (fun r μ' z' => r = some (.int (bI (ordL σ i).isSome)) ∧ (∃ τ, scr τ σ ∧ (∀ L, ordL σ i = some L → mt τ L) ∧ RM g m μ0 τ μ') ∧ z = z')) (cXC g noX) args s ({ frames := 1, cells := 0, slots := 0, locals := 24 } : Room).cells ({ frames := 1, cells := 0, slots := 0, locals := 24 } : Room).slots (gA g)) g μ' z 0 0 9 [(0, .ref m), (1, .int (nI i)), (2, .int (mI pre.length))] []) → V p l e { frames := 1, cells := 0, slots := 0, locals := 24 } s mi args below meth c (vx_MQ below (cQc g (fun r μ' z' => r = some (.int (bI (ordL σ i).isSome)) ∧ (∃ τ, scr τ σ ∧ (∀ L, ordL σ i = some L → mt τ L) ∧ RM g m μ0 τ μ') ∧ z = z')) (cXC g noX) args s ({ frames := 1, cells := 0, slots := 0, locals := 24 } : Room).cells ({ frames := 1, cells := 0, slots := 0, locals := 24 } : Room).slots (gA g)) g μq z 0 0 9 [(0, .ref m), (1, .int (nI i)), (2, .int (nI pre.length))] [] := by
    intro w
    induction w with
    | zero =>
      intro pre hpl hq r
      induction r with
      | zero =>
        intro d hd τ μq hs hm h5 hRq hb hS hF
        have hp : τ.1 0 i = σ.1 0 i := congrFun (hs.1 0 (by decide) (by decide)) i
        refine v_iload_n 2 o dX6_layOrder_9 rfl rfl ?_
        refine v_if_lt_n 76 o dX6_layOrder_10 (by decide) (by omega) (fun c10 => absurd c10 (Nat.not_lt_zero _)) (fun c10 => ?_)
        refine v_iload_n 2 o dX6_layOrder_13 rfl rfl ?_
        refine v_aload_n 0 o dX6_layOrder_14 rfl rfl ?_
        refine v_get (v := .ref (m + 1)) o dX6_layOrder_15 cf6 2 (by decide) fl_X6_7 hRq.o rfl ?_
        refine v_iload_n 1 o dX6_layOrder_18 rfl rfl ?_
        refine v_iald (nI (τ.1 0 i)) o dX6_layOrder_19 (by omega) (by decide) hRq.a1 rfl ?_
        refine v_icmp_ge_n 76 o dX6_layOrder_20 (by decide) (by omega) (by omega) (fun c20 => absurd c20 (by omega)) (fun c20 => ?_)
        refine v_aload_n 0 o dX6_layOrder_23 rfl rfl ?_
        refine v_get (v := .ref (m + 25)) o dX6_layOrder_24 cf6 29 (by decide) fl_X6_88 hRq.o rfl ?_
        refine v_iload_n 2 o dX6_layOrder_27 rfl rfl ?_
        refine v_dup2 o dX6_layOrder_28 rfl rfl ?_
        refine v_iald (mI (τ.1 5 pre.length)) o dX6_layOrder_29 (by omega) (by decide) hRq.a25 rfl ?_
        refine v_iconst 1 o dX6_layOrder_30 rfl ?_
        refine v_iadd ((mI (τ.1 5 pre.length)) + (nI 1)) o dX6_layOrder_31 rfl ?_
        refine v_top (mI (d + 1)) (by rw [h5]; exact mI_add d 1) ?_
        refine v_iast o dX6_layOrder_32 (by omega) (by decide) hRq.a25 (fun μ1 e1 => ?_)
        have hR1 := hRq.p25 (i0 := pre.length) (v := d + 1) e1
        refine v_aload_n 0 o dX6_layOrder_33 rfl rfl ?_
        refine v_get (v := .ref (m + 25)) o dX6_layOrder_34 cf6 29 (by decide) fl_X6_88 hR1.o rfl ?_
        refine v_iload_n 2 o dX6_layOrder_37 rfl rfl ?_
        refine v_iald (mI (d + 1)) o dX6_layOrder_38 (by omega) (by decide) hR1.a25 (congrArg mI u2_s) ?_
        refine v_top (nI d) (mI_s d) ?_
        refine v_aload_n 0 o dX6_layOrder_39 rfl rfl ?_
        refine v_get (v := .ref (m + 1)) o dX6_layOrder_40 cf6 2 (by decide) fl_X6_7 hR1.o rfl ?_
        refine v_iload_n 1 o dX6_layOrder_43 rfl rfl ?_
        refine v_iald (nI (τ.1 0 i)) o dX6_layOrder_44 (by omega) (by decide) hR1.a1 rfl ?_
        refine v_icmp_ne_n 54 o dX6_layOrder_45 (by decide) (by omega) (by omega) (fun c45 => absurd c45 (by omega)) (fun c45 => ?_)
        refine v_iinc (mI pre.length) [(2, .int (mI pre.length)), (0, .ref m), (1, .int (nI i))] o dX6_layOrder_48 2 rfl (iinc_m1 _) (by decide) rfl ?_
        refine v_goto 9 o dX6_layOrder_51 (by decide) ?_
        refine v_sub [(0, .ref m), (1, .int (nI i)), (2, .int (mI pre.length))] [1, 2, 0] rfl ?_
        exact hF _ _ rfl (hs.N5 _ _) (mt_set pre (Nat.le_refl _) hm) (fun j hj => by show u2 τ.1 5 pre.length (d + 1) 5 j ≤ 12; rw [u2_i (by omega)]; exact hb j hj) hR1
      | succ r ihr =>
        intro d hd τ μq hs hm h5 hRq hb hS hF
        have hp : τ.1 0 i = σ.1 0 i := congrFun (hs.1 0 (by decide) (by decide)) i
        refine v_iload_n 2 o dX6_layOrder_9 rfl rfl ?_
        refine v_if_lt_n 76 o dX6_layOrder_10 (by decide) (by omega) (fun c10 => absurd c10 (Nat.not_lt_zero _)) (fun c10 => ?_)
        refine v_iload_n 2 o dX6_layOrder_13 rfl rfl ?_
        refine v_aload_n 0 o dX6_layOrder_14 rfl rfl ?_
        refine v_get (v := .ref (m + 1)) o dX6_layOrder_15 cf6 2 (by decide) fl_X6_7 hRq.o rfl ?_
        refine v_iload_n 1 o dX6_layOrder_18 rfl rfl ?_
        refine v_iald (nI (τ.1 0 i)) o dX6_layOrder_19 (by omega) (by decide) hRq.a1 rfl ?_
        refine v_icmp_ge_n 76 o dX6_layOrder_20 (by decide) (by omega) (by omega) (fun c20 => absurd c20 (by omega)) (fun c20 => ?_)
        refine v_aload_n 0 o dX6_layOrder_23 rfl rfl ?_
        refine v_get (v := .ref (m + 25)) o dX6_layOrder_24 cf6 29 (by decide) fl_X6_88 hRq.o rfl ?_
        refine v_iload_n 2 o dX6_layOrder_27 rfl rfl ?_
        refine v_dup2 o dX6_layOrder_28 rfl rfl ?_
        refine v_iald (mI (τ.1 5 pre.length)) o dX6_layOrder_29 (by omega) (by decide) hRq.a25 rfl ?_
        refine v_iconst 1 o dX6_layOrder_30 rfl ?_
        refine v_iadd ((mI (τ.1 5 pre.length)) + (nI 1)) o dX6_layOrder_31 rfl ?_
        refine v_top (mI (d + 1)) (by rw [h5]; exact mI_add d 1) ?_
        refine v_iast o dX6_layOrder_32 (by omega) (by decide) hRq.a25 (fun μ2 e2 => ?_)
        have hR2 := hRq.p25 (i0 := pre.length) (v := d + 1) e2
        refine v_aload_n 0 o dX6_layOrder_33 rfl rfl ?_
        refine v_get (v := .ref (m + 25)) o dX6_layOrder_34 cf6 29 (by decide) fl_X6_88 hR2.o rfl ?_
        refine v_iload_n 2 o dX6_layOrder_37 rfl rfl ?_
        refine v_iald (mI (d + 1)) o dX6_layOrder_38 (by omega) (by decide) hR2.a25 (congrArg mI u2_s) ?_
        refine v_top (nI d) (mI_s d) ?_
        refine v_aload_n 0 o dX6_layOrder_39 rfl rfl ?_
        refine v_get (v := .ref (m + 1)) o dX6_layOrder_40 cf6 2 (by decide) fl_X6_7 hR2.o rfl ?_
        refine v_iload_n 1 o dX6_layOrder_43 rfl rfl ?_
        refine v_iald (nI (τ.1 0 i)) o dX6_layOrder_44 (by omega) (by decide) hR2.a1 rfl ?_
        refine v_icmp_ne_n 54 o dX6_layOrder_45 (by decide) (by omega) (by omega) (fun c45 => ?_) (fun c45 => absurd c45 (by omega))
        refine v_aload_n 0 o dX6_layOrder_54 rfl rfl ?_
        refine v_iload_n 1 o dX6_layOrder_55 rfl rfl ?_
        refine v_iload_n 2 o dX6_layOrder_56 rfl rfl ?_
        have hmd : mt (uN τ 5 pre.length (d + 1)) (d :: pre) := ⟨u2_s, mt_set pre (Nat.le_refl _) hm⟩
        have hbd : ∀ j, j ≤ pre.length → (uN τ 5 pre.length (d + 1)).1 5 j ≤ 12 := fun j hj => by
          show u2 τ.1 5 pre.length (d + 1) 5 j ≤ 12
          by_cases e : j = pre.length
          · subst e; rw [u2_s]; omega
          · rw [u2_i e]; exact hb j (by omega)
        refine v_callVr (v := .int (bI (okB (Rn (uN τ 5 pre.length (d + 1)) i) pre d))) [.int (nI i), .int (nI pre.length)] [] o dX6_layOrder_57 cw_X6_148 im_X6_fits se_X6_fits cf6 hR2.o (m_fits hl hR2 i (by omega) d pre hmd (by omega) (by omega) hq hbd) rfl rfl (by decide) ⟨rfl, rfl⟩ (by decide) (Nat.le_of_ble_eq_true rfl) ?_
        refine v_top (bI (okB (Rn σ i) pre d)) (by rw [show Rn (uN τ 5 pre.length (d + 1)) i = Rn σ i from by funext a b; unfold Rn; rw [← hs.2.2.1]; rfl]) ?_
        refine v_if_eq_b 9 o dX6_layOrder_60 (by decide) (fun c60 => ?_) (fun c60 => ?_)
        · have hn : (if okB (Rn σ i) pre d = true then dfs (Rn σ i) (σ.1 0 i) 0 (d :: pre) else none) = none := if_neg (by rw [c60]; decide)
          exact ihr (d + 1) (by omega) _ _ (hs.N5 _ _) hmd.2 hmd.1 hR2 (fun j hj => hbd j (by omega)) (fun L τ1 μ1 e => hS L τ1 μ1 ((fsm_f hn).trans e)) (fun τ1 μ1 e => hF τ1 μ1 ((fsm_f hn).trans e))
        · refine v_iinc (nI (pre.length + 1)) [(2, .int (nI (pre.length + 1))), (0, .ref m), (1, .int (nI i))] o dX6_layOrder_63 2 rfl (iinc_n pre.length 1) (by decide) rfl ?_
          refine v_aload_n 1 o dX6_layOrder_66 rfl rfl ?_
          refine v_get (v := .ref (m + 25)) o dX6_layOrder_67 cf6 29 (by decide) fl_X6_88 hR2.o rfl ?_
          refine v_iload_n 0 o dX6_layOrder_70 rfl rfl ?_
          refine v_iconst_i (-1) o dX6_layOrder_71 (by decide) ?_
          refine v_top (mI 0) mI_0.symm ?_
          refine v_iast o dX6_layOrder_72 (by omega) (by decide) hR2.a25 (fun μ3 e3 => ?_)
          have hR3 := hR2.p25 (i0 := pre.length + 1) (v := 0) e3
          refine v_goto 9 o dX6_layOrder_73 (by decide) ?_
          refine v_sub [(0, .ref m), (1, .int (nI i)), (2, .int (nI (pre.length + 1)))] [1, 2, 0] rfl ?_
          have hm2 : mt (uN (uN τ 5 pre.length (d + 1)) 5 (pre.length + 1) 0) (d :: pre) := mt_set (d :: pre) (Nat.le_refl _) hmd
          have hs2 : scr (uN (uN τ 5 pre.length (d + 1)) 5 (pre.length + 1) 0) σ := (hs.N5 _ _).N5 _ _
          refine v_lv [(0, .ref m), (1, .int (nI i)), (2, .int (nI (σ.1 0 i)))] (by rw [show pre.length + 1 = σ.1 0 i by omega]) ?_
          exact hS (d :: pre) _ _ (fsm_t (if_pos c60)) hs2 hm2 hR3
    | succ w ihw =>
      intro pre hpl hq r
      induction r with
      | zero =>
        intro d hd τ μq hs hm h5 hRq hb hS hF
        have hp : τ.1 0 i = σ.1 0 i := congrFun (hs.1 0 (by decide) (by decide)) i
        refine v_iload_n 2 o dX6_layOrder_9 rfl rfl ?_
        refine v_if_lt_n 76 o dX6_layOrder_10 (by decide) (by omega) (fun c10 => absurd c10 (Nat.not_lt_zero _)) (fun c10 => ?_)
        refine v_iload_n 2 o dX6_layOrder_13 rfl rfl ?_
        refine v_aload_n 0 o dX6_layOrder_14 rfl rfl ?_
        refine v_get (v := .ref (m + 1)) o dX6_layOrder_15 cf6 2 (by decide) fl_X6_7 hRq.o rfl ?_
        refine v_iload_n 1 o dX6_layOrder_18 rfl rfl ?_
        refine v_iald (nI (τ.1 0 i)) o dX6_layOrder_19 (by omega) (by decide) hRq.a1 rfl ?_
        refine v_icmp_ge_n 76 o dX6_layOrder_20 (by decide) (by omega) (by omega) (fun c20 => absurd c20 (by omega)) (fun c20 => ?_)
        refine v_aload_n 0 o dX6_layOrder_23 rfl rfl ?_
        refine v_get (v := .ref (m + 25)) o dX6_layOrder_24 cf6 29 (by decide) fl_X6_88 hRq.o rfl ?_
        refine v_iload_n 2 o dX6_layOrder_27 rfl rfl ?_
        refine v_dup2 o dX6_layOrder_28 rfl rfl ?_
        refine v_iald (mI (τ.1 5 pre.length)) o dX6_layOrder_29 (by omega) (by decide) hRq.a25 rfl ?_
        refine v_iconst 1 o dX6_layOrder_30 rfl ?_
        refine v_iadd ((mI (τ.1 5 pre.length)) + (nI 1)) o dX6_layOrder_31 rfl ?_
        refine v_top (mI (d + 1)) (by rw [h5]; exact mI_add d 1) ?_
        refine v_iast o dX6_layOrder_32 (by omega) (by decide) hRq.a25 (fun μ4 e4 => ?_)
        have hR4 := hRq.p25 (i0 := pre.length) (v := d + 1) e4
        refine v_aload_n 0 o dX6_layOrder_33 rfl rfl ?_
        refine v_get (v := .ref (m + 25)) o dX6_layOrder_34 cf6 29 (by decide) fl_X6_88 hR4.o rfl ?_
        refine v_iload_n 2 o dX6_layOrder_37 rfl rfl ?_
        refine v_iald (mI (d + 1)) o dX6_layOrder_38 (by omega) (by decide) hR4.a25 (congrArg mI u2_s) ?_
        refine v_top (nI d) (mI_s d) ?_
        refine v_aload_n 0 o dX6_layOrder_39 rfl rfl ?_
        refine v_get (v := .ref (m + 1)) o dX6_layOrder_40 cf6 2 (by decide) fl_X6_7 hR4.o rfl ?_
        refine v_iload_n 1 o dX6_layOrder_43 rfl rfl ?_
        refine v_iald (nI (τ.1 0 i)) o dX6_layOrder_44 (by omega) (by decide) hR4.a1 rfl ?_
        refine v_icmp_ne_n 54 o dX6_layOrder_45 (by decide) (by omega) (by omega) (fun c45 => absurd c45 (by omega)) (fun c45 => ?_)
        refine v_iinc (mI pre.length) [(2, .int (mI pre.length)), (0, .ref m), (1, .int (nI i))] o dX6_layOrder_48 2 rfl (iinc_m1 _) (by decide) rfl ?_
        refine v_goto 9 o dX6_layOrder_51 (by decide) ?_
        refine v_sub [(0, .ref m), (1, .int (nI i)), (2, .int (mI pre.length))] [1, 2, 0] rfl ?_
        exact hF _ _ rfl (hs.N5 _ _) (mt_set pre (Nat.le_refl _) hm) (fun j hj => by show u2 τ.1 5 pre.length (d + 1) 5 j ≤ 12; rw [u2_i (by omega)]; exact hb j hj) hR4
      | succ r ihr =>
        intro d hd τ μq hs hm h5 hRq hb hS hF
        have hp : τ.1 0 i = σ.1 0 i := congrFun (hs.1 0 (by decide) (by decide)) i
        refine v_iload_n 2 o dX6_layOrder_9 rfl rfl ?_
        refine v_if_lt_n 76 o dX6_layOrder_10 (by decide) (by omega) (fun c10 => absurd c10 (Nat.not_lt_zero _)) (fun c10 => ?_)
        refine v_iload_n 2 o dX6_layOrder_13 rfl rfl ?_
        refine v_aload_n 0 o dX6_layOrder_14 rfl rfl ?_
        refine v_get (v := .ref (m + 1)) o dX6_layOrder_15 cf6 2 (by decide) fl_X6_7 hRq.o rfl ?_
        refine v_iload_n 1 o dX6_layOrder_18 rfl rfl ?_
        refine v_iald (nI (τ.1 0 i)) o dX6_layOrder_19 (by omega) (by decide) hRq.a1 rfl ?_
        refine v_icmp_ge_n 76 o dX6_layOrder_20 (by decide) (by omega) (by omega) (fun c20 => absurd c20 (by omega)) (fun c20 => ?_)
        refine v_aload_n 0 o dX6_layOrder_23 rfl rfl ?_
        refine v_get (v := .ref (m + 25)) o dX6_layOrder_24 cf6 29 (by decide) fl_X6_88 hRq.o rfl ?_
        refine v_iload_n 2 o dX6_layOrder_27 rfl rfl ?_
        refine v_dup2 o dX6_layOrder_28 rfl rfl ?_
        refine v_iald (mI (τ.1 5 pre.length)) o dX6_layOrder_29 (by omega) (by decide) hRq.a25 rfl ?_
        refine v_iconst 1 o dX6_layOrder_30 rfl ?_
        refine v_iadd ((mI (τ.1 5 pre.length)) + (nI 1)) o dX6_layOrder_31 rfl ?_
        refine v_top (mI (d + 1)) (by rw [h5]; exact mI_add d 1) ?_
        refine v_iast o dX6_layOrder_32 (by omega) (by decide) hRq.a25 (fun μ5 e5 => ?_)
        have hR5 := hRq.p25 (i0 := pre.length) (v := d + 1) e5
        refine v_aload_n 0 o dX6_layOrder_33 rfl rfl ?_
        refine v_get (v := .ref (m + 25)) o dX6_layOrder_34 cf6 29 (by decide) fl_X6_88 hR5.o rfl ?_
        refine v_iload_n 2 o dX6_layOrder_37 rfl rfl ?_
        refine v_iald (mI (d + 1)) o dX6_layOrder_38 (by omega) (by decide) hR5.a25 (congrArg mI u2_s) ?_
        refine v_top (nI d) (mI_s d) ?_
        refine v_aload_n 0 o dX6_layOrder_39 rfl rfl ?_
        refine v_get (v := .ref (m + 1)) o dX6_layOrder_40 cf6 2 (by decide) fl_X6_7 hR5.o rfl ?_
        refine v_iload_n 1 o dX6_layOrder_43 rfl rfl ?_
        refine v_iald (nI (τ.1 0 i)) o dX6_layOrder_44 (by omega) (by decide) hR5.a1 rfl ?_
        refine v_icmp_ne_n 54 o dX6_layOrder_45 (by decide) (by omega) (by omega) (fun c45 => ?_) (fun c45 => absurd c45 (by omega))
        refine v_aload_n 0 o dX6_layOrder_54 rfl rfl ?_
        refine v_iload_n 1 o dX6_layOrder_55 rfl rfl ?_
        refine v_iload_n 2 o dX6_layOrder_56 rfl rfl ?_
        have hmd : mt (uN τ 5 pre.length (d + 1)) (d :: pre) := ⟨u2_s, mt_set pre (Nat.le_refl _) hm⟩
        have hbd : ∀ j, j ≤ pre.length → (uN τ 5 pre.length (d + 1)).1 5 j ≤ 12 := fun j hj => by
          show u2 τ.1 5 pre.length (d + 1) 5 j ≤ 12
          by_cases e : j = pre.length
          · subst e; rw [u2_s]; omega
          · rw [u2_i e]; exact hb j (by omega)
        refine v_callVr (v := .int (bI (okB (Rn (uN τ 5 pre.length (d + 1)) i) pre d))) [.int (nI i), .int (nI pre.length)] [] o dX6_layOrder_57 cw_X6_148 im_X6_fits se_X6_fits cf6 hR5.o (m_fits hl hR5 i (by omega) d pre hmd (by omega) (by omega) hq hbd) rfl rfl (by decide) ⟨rfl, rfl⟩ (by decide) (Nat.le_of_ble_eq_true rfl) ?_
        refine v_top (bI (okB (Rn σ i) pre d)) (by rw [show Rn (uN τ 5 pre.length (d + 1)) i = Rn σ i from by funext a b; unfold Rn; rw [← hs.2.2.1]; rfl]) ?_
        refine v_if_eq_b 9 o dX6_layOrder_60 (by decide) (fun c60 => ?_) (fun c60 => ?_)
        · have hn : (if okB (Rn σ i) pre d = true then dfs (Rn σ i) (σ.1 0 i) (w + 1) (d :: pre) else none) = none := if_neg (by rw [c60]; decide)
          exact ihr (d + 1) (by omega) _ _ (hs.N5 _ _) hmd.2 hmd.1 hR5 (fun j hj => hbd j (by omega)) (fun L τ1 μ1 e => hS L τ1 μ1 ((fsm_f hn).trans e)) (fun τ1 μ1 e => hF τ1 μ1 ((fsm_f hn).trans e))
        · refine v_iinc (nI (pre.length + 1)) [(2, .int (nI (pre.length + 1))), (0, .ref m), (1, .int (nI i))] o dX6_layOrder_63 2 rfl (iinc_n pre.length 1) (by decide) rfl ?_
          refine v_aload_n 1 o dX6_layOrder_66 rfl rfl ?_
          refine v_get (v := .ref (m + 25)) o dX6_layOrder_67 cf6 29 (by decide) fl_X6_88 hR5.o rfl ?_
          refine v_iload_n 0 o dX6_layOrder_70 rfl rfl ?_
          refine v_iconst_i (-1) o dX6_layOrder_71 (by decide) ?_
          refine v_top (mI 0) mI_0.symm ?_
          refine v_iast o dX6_layOrder_72 (by omega) (by decide) hR5.a25 (fun μ6 e6 => ?_)
          have hR6 := hR5.p25 (i0 := pre.length + 1) (v := 0) e6
          refine v_goto 9 o dX6_layOrder_73 (by decide) ?_
          refine v_sub [(0, .ref m), (1, .int (nI i)), (2, .int (nI (pre.length + 1)))] [1, 2, 0] rfl ?_
          have hm2 : mt (uN (uN τ 5 pre.length (d + 1)) 5 (pre.length + 1) 0) (d :: pre) := mt_set (d :: pre) (Nat.le_refl _) hmd
          have hs2 : scr (uN (uN τ 5 pre.length (d + 1)) 5 (pre.length + 1) 0) σ := (hs.N5 _ _).N5 _ _
          have hb2 : ∀ j, j < (d :: pre).length → (uN (uN τ 5 pre.length (d + 1)) 5 (pre.length + 1) 0).1 5 j ≤ 12 := fun j hj => by
            have hj2 : j < pre.length + 1 := hj
            show u2 (uN τ 5 pre.length (d + 1)).1 5 (pre.length + 1) 0 5 j ≤ 12
            rw [u2_i (by omega)]
            exact hbd j (by omega)
          refine ihw (d :: pre) (by show pre.length + 1 + _ = _; omega) (fun q hqm => (List.mem_cons.mp hqm).elim (fun e => by omega) (hq q)) (σ.1 0 i) 0 (by omega) _ _ hs2 hm2 u2_s hR6 hb2 (fun L τ1 μ1 e => hS L τ1 μ1 (fsm_t ((if_pos c60).trans e))) (fun τ1 μ1 e hs3 hm3 hb3 hR3 => ?_)
          have hn : (if okB (Rn σ i) pre d = true then dfs (Rn σ i) (σ.1 0 i) (w + 1) (d :: pre) else none) = none := (if_pos c60).trans e
          refine v_lv [(0, .ref m), (1, .int (nI i)), (2, .int (nI pre.length))] (by rw [show (d :: pre).length = pre.length + 1 from rfl, mI_s]) ?_
          exact ihr (d + 1) (by omega) τ1 μ1 hs3 hm3.2 hm3.1 hR3 (fun j hj => hb3 j (Nat.lt_succ_of_lt hj)) (fun L τ2 μ2 e2 => hS L τ2 μ2 ((fsm_f hn).trans e2)) (fun τ2 μ2 e2 => hF τ2 μ2 ((fsm_f hn).trans e2))
  refine v_iconst 0 o dX6_layOrder_0 rfl ?_
  refine v_istore_n [(2, .int (nI 0)), (0, .ref m), (1, .int (nI i))] o dX6_layOrder_1 rfl (by decide) rfl ?_
  refine v_aload_n 1 o dX6_layOrder_2 rfl rfl ?_
  refine v_get (v := .ref (m + 25)) o dX6_layOrder_3 cf6 29 (by decide) fl_X6_88 hR.o rfl ?_
  refine v_iconst 0 o dX6_layOrder_6 rfl ?_
  refine v_iconst_i (-1) o dX6_layOrder_7 (by decide) ?_
  refine v_top (mI 0) mI_0.symm ?_
  refine v_iast o dX6_layOrder_8 (by decide) (by decide) hR.a25 (fun μ7 e7 => ?_)
  have hR7 := hR.p25 (i0 := 0) (v := 0) e7
  refine v_sub [(0, .ref m), (1, .int (nI i)), (2, .int (nI 0))] [1, 2, 0] rfl ?_
  obtain ⟨w, hw⟩ : ∃ w, σ.1 0 i = w + 1 := ⟨σ.1 0 i - 1, by omega⟩
  have hO : ordL σ i = fsm (fun u => if okB (Rn σ i) [] u = true then dfs (Rn σ i) (σ.1 0 i) w [u] else none) (σ.1 0 i) 0 := by
    show dfs (Rn σ i) (σ.1 0 i) (σ.1 0 i) [] = _
    conv => lhs; arg 3; rw [hw]
    rfl
  exact P w [] (by show 0 + _ = _; omega) (fun q h => absurd h List.not_mem_nil) (σ.1 0 i) 0 (by omega) _ _ (scr.rf.N5 _ _) trivial u2_s hR7 (fun j h => absurd h (Nat.not_lt_zero _)) (fun L τ1 μ1 e => E1 L τ1 μ1 (hO.trans e)) (fun τ1 μ1 e hs _ _ hR1 => E0 τ1 μ1 (hO.trans e) hs hR1)

