set_option maxRecDepth 100000 in
set_option maxHeartbeats 4000000 in
theorem c_pageAtPlace {l : Launch} (hl : l.stackTraces = false) {g : mG} {x z z0 : Nat} {B : Nat → Nat} {μ0 μ : mM} {σ τ : Sg} (hR : RC g x B z0 μ0 σ τ μ) (k : Nat) (hk : k < 7) : Ct l g yX3_pageAtPlace [Cond.code yX3_pageAtPlace cX3_pageAtPlace 2 (some .int)] { frames := 0, cells := 0, slots := 0, locals := 0 } [.ref (x + 7), .int (nI k)] μ z (rdP (some (.int (nI (τ.1 0 k)))) μ z) (noX) := by
  refine Ct.of hl (by decide +kernel) (Nat.le_of_ble_eq_true rfl) ?_
  intro p e s mi args below meth c o hnm hr hx
  have o : Ok p l s mi args meth c g cX3_pageAtPlace 2 RX3 := o
  refine v_lv [(0, .ref (x + 7)), (1, .int (nI k))] rfl ?_
  refine v_iload_n 1 o dX3_pageAtPlace_0 rfl rfl ?_
  refine v_if_lt_n 13 o dX3_pageAtPlace_1 (by decide) (by omega) (fun c1 => absurd c1 (by omega)) (fun c1 => ?_)
  refine v_iload_n 1 o dX3_pageAtPlace_4 rfl rfl ?_
  refine v_aload_n 0 o dX3_pageAtPlace_5 rfl rfl ?_
  refine v_get (v := .ref (x + 8)) o dX3_pageAtPlace_6 cf3 0 (by decide) fl_X3_9 hR.h7 rfl ?_
  refine v_alen (t0 := 0) o dX3_pageAtPlace_9 rfl hR.h8 ?_
  refine v_top (nI 7) rfl ?_
  refine v_icmp_lt_n 17 o dX3_pageAtPlace_10 (by decide) (by omega) (by decide) (fun c10 => ?_) (fun c10 => absurd c10 (by omega))
  refine v_aload_n 0 o dX3_pageAtPlace_17 rfl rfl ?_
  refine v_get (v := .ref (x + 8)) o dX3_pageAtPlace_18 cf3 0 (by decide) fl_X3_9 hR.h7 rfl ?_
  refine v_iload_n 1 o dX3_pageAtPlace_21 rfl rfl ?_
  refine v_iald (nI (τ.1 0 k)) o dX3_pageAtPlace_22 (by omega) (by decide) hR.h8 rfl ?_
  exact v_iret o dX3_pageAtPlace_23 hr (Nat.le_of_ble_eq_true rfl) (Nat.le_of_ble_eq_true rfl) ⟨rfl, rfl, rfl⟩

set_option maxRecDepth 100000 in
set_option maxHeartbeats 4000000 in
theorem c_leads {l : Launch} (hl : l.stackTraces = false) {g : mG} {x z z0 : Nat} {B : Nat → Nat} {μ0 μ : mM} {σ τ : Sg} (hR : RC g x B z0 μ0 σ τ μ) (i : Nat) (hi : i < σ.1 3 0) (a b : Nat) (ha : a < σ.1 0 i) (hb : b < σ.1 0 i) : Ct l g yX3_leadsTo [Cond.code yX3_leadsTo cX3_leadsTo 3 (some .boolean)] { frames := 0, cells := 0, slots := 0, locals := 0 } [.ref (B i + 1), .int (nI a), .int (nI b)] μ z (rdP (some (.int (bI (Rn σ i a b)))) μ z) (noX) := by
  refine Ct.of hl (by decide +kernel) (Nat.le_of_ble_eq_true rfl) ?_
  intro p e s mi args below meth c o hnm hr hx
  have o : Ok p l s mi args meth c g cX3_leadsTo 3 RX3 := o
  refine v_lv [(0, .ref (B i + 1)), (1, .int (nI a)), (2, .int (nI b))] rfl ?_
  have h12 := hR.np i
  refine v_iload_n 1 o dX3_leadsTo_0 rfl rfl ?_
  refine v_if_lt_n 20 o dX3_leadsTo_1 (by decide) (by omega) (fun c1 => absurd c1 (by omega)) (fun c1 => ?_)
  refine v_iload_n 1 o dX3_leadsTo_4 rfl rfl ?_
  refine v_aload_n 0 o dX3_leadsTo_5 rfl rfl ?_
  refine v_alen (t0 := 3) o dX3_leadsTo_6 rfl (hR.ps hi) ?_
  refine v_top (nI (σ.1 0 i)) rfl ?_
  refine v_icmp_ge_n 20 o dX3_leadsTo_7 (by decide) (by omega) (by omega) (fun c7 => absurd c7 (by omega)) (fun c7 => ?_)
  refine v_iload_n 2 o dX3_leadsTo_10 rfl rfl ?_
  refine v_if_lt_n 20 o dX3_leadsTo_11 (by decide) (by omega) (fun c11 => absurd c11 (by omega)) (fun c11 => ?_)
  refine v_iload_n 2 o dX3_leadsTo_14 rfl rfl ?_
  refine v_aload_n 0 o dX3_leadsTo_15 rfl rfl ?_
  refine v_alen (t0 := 3) o dX3_leadsTo_16 rfl (hR.ps hi) ?_
  refine v_top (nI (σ.1 0 i)) rfl ?_
  refine v_icmp_lt_n 22 o dX3_leadsTo_17 (by decide) (by omega) (by omega) (fun c17 => ?_) (fun c17 => absurd c17 (by omega))
  refine v_aload_n 0 o dX3_leadsTo_22 rfl rfl ?_
  refine v_iload_n 1 o dX3_leadsTo_23 rfl rfl ?_
  refine v_aald (t0 := 3) (.ref (pA B i a)) o dX3_leadsTo_24 rfl ha (by omega) (hR.ps hi) (by simp only [if_pos (show a < σ.1 0 i from ha)]; rfl) ?_
  refine v_get (v := .int (σ.2.2.1 6 (12 * i + a))) o dX3_leadsTo_25 cf2 7 (by decide) fl_X3_31 (hR.p0 hi ha) rfl ?_
  refine v_aload_n 0 o dX3_leadsTo_28 rfl rfl ?_
  refine v_iload_n 2 o dX3_leadsTo_29 rfl rfl ?_
  refine v_aald (t0 := 3) (.ref (pA B i b)) o dX3_leadsTo_30 rfl hb (by omega) (hR.ps hi) (by simp only [if_pos (show b < σ.1 0 i from hb)]; rfl) ?_
  refine v_get (v := .int (σ.2.2.1 5 (12 * i + b))) o dX3_leadsTo_31 cf2 6 (by decide) fl_X3_37 (hR.p0 hi hb) rfl ?_
  refine v_icmp_ne 41 o dX3_leadsTo_34 (by decide) (fun c34 => ?_) (fun c34 => ?_)
  · refine v_iconst 0 o dX3_leadsTo_41 rfl ?_
    exact v_zret o dX3_leadsTo_42 hr (by decide) (Nat.le_of_ble_eq_true rfl) (Nat.le_of_ble_eq_true rfl) ⟨by rw [show Rn σ i a b = false from by unfold Rn; exact decide_eq_false c34]; rfl, rfl, rfl⟩
  · refine v_iconst 1 o dX3_leadsTo_37 rfl ?_
    refine v_goto 42 o dX3_leadsTo_38 (by decide) ?_
    exact v_zret o dX3_leadsTo_42 hr (by decide) (Nat.le_of_ble_eq_true rfl) (Nat.le_of_ble_eq_true rfl) ⟨by rw [show Rn σ i a b = true from by unfold Rn; exact decide_eq_true c34]; rfl, rfl, rfl⟩

/-- the row of the class holds these, the last first -/
def mr (τ : Sg) : List Nat → Prop
  | [] => True
  | p :: r => τ.1 0 r.length = p ∧ mr τ r
theorem mr_set {τ : Sg} {k v : Nat} : ∀ pre : List Nat, pre.length ≤ k → mr τ pre → mr (uN τ 0 k v) pre
  | [], _, _ => trivial
  | p :: r, hl, h => ⟨by
      show u2 τ.1 0 k v 0 r.length = _
      have : r.length + 1 ≤ k := hl
      rw [u2_i (by omega)]
      exact h.1, mr_set r (by have : r.length + 1 ≤ k := hl; omega) h.2⟩
theorem mr_at {τ : Sg} : ∀ (L : List Nat) (i : Nat), mr τ L → i < L.length → τ.1 0 i = rowAt L i
  | [], i, _, h => absurd h (by simp)
  | p :: r, i, h, hi => by
    have : i < r.length + 1 := hi
    unfold rowAt
    by_cases e : i = r.length
    · subst e
      rw [if_pos rfl]
      exact h.1
    · rw [if_neg e]
      exact mr_at r i h.2 (by omega)
def hd0 : List Nat → Nat
  | [] => 0
  | p :: _ => p
theorem mr_hd {τ : Sg} {pre : List Nat} (h : mr τ pre) (hn : ¬ pre.length = 0) : τ.1 0 (pre.length - 1) = hd0 pre := by
  cases pre with
  | nil => exact absurd rfl hn
  | cons p r => exact h.1
theorem okB_hd {R : Nat → Nat → Bool} {pre : List Nat} (hn : ¬ pre.length = 0) (p : Nat) : okB R pre p = (R (hd0 pre) p && notIn p pre) := by
  cases pre with
  | nil => exact absurd rfl hn
  | cons q r => rfl
theorem okB_0 {R : Nat → Nat → Bool} {pre : List Nat} (hn : pre.length = 0) (p : Nat) : okB R pre p = notIn p pre := by
  cases pre with
  | nil => rfl
  | cons q r => cases hn
theorem hd_lt {pre : List Nat} {n : Nat} (h : ∀ q ∈ pre, q < n) (hn : ¬ pre.length = 0) : hd0 pre < n := by
  cases pre with
  | nil => exact absurd rfl hn
  | cons q r => exact h q List.mem_cons_self
/-- the bits of those in the row -/
def us : List Nat → Int32
  | [] => nI 0
  | p :: r => us r ||| (nI 1 <<< (nI p &&& 31))
theorem us_bit {p : Nat} (hp : p < 32) : ∀ pre : List Nat, (∀ q ∈ pre, q < 32) → (us pre).toBitVec.getLsbD p = !notIn p pre
  | [], _ => bit0 p
  | q :: r, h => by
    show ((us r) ||| (nI 1 <<< (nI q &&& 31))).toBitVec.getLsbD p = !(notIn p r && decide (q ≠ p))
    rw [bitO (h q List.mem_cons_self) hp, us_bit hp r (fun a ha => h a (List.mem_cons_of_mem _ ha))]
    by_cases e : q = p <;> simp [e]
def ffP (g : mG) (x : Nat) (B : Nat → Nat) (z0 : Nat) (μ0 : mM) (σ : Sg) (i w : Nat) (pre : List Nat) (z : Nat) : Option Value → mM → Nat → Prop := fun r μ' z' => (∃ τ', RC g x B z0 μ0 σ τ' μ' ∧ ((∃ L, dfs (Rn σ i) (σ.1 0 i) w pre = some L ∧ r = some (.int (bI true)) ∧ mr τ' L) ∨ (dfs (Rn σ i) (σ.1 0 i) w pre = none ∧ r = some (.int (bI false)) ∧ mr τ' pre))) ∧ z = z'
set_option maxRecDepth 100000 in
set_option maxHeartbeats 4000000 in
theorem c_ff_0 {l : Launch} (hl : l.stackTraces = false) {g : mG} {x z z0 : Nat} {B : Nat → Nat} {μ0 μ : mM} {σ τ : Sg} (hR : RC g x B z0 μ0 σ τ μ) (i : Nat) (hi : i < σ.1 3 0) (h7 : σ.1 0 i ≤ 7) (pre : List Nat) (hw : pre.length + 0 = σ.1 0 i) (hq : ∀ q ∈ pre, q < σ.1 0 i) (hm : mr τ pre) : Ct l g yX3_fillFrom [Cond.code yX3_fillFrom cX3_fillFrom 6 (some .boolean)] { frames := 0, cells := 0, slots := 0, locals := 0 } [.int (nI pre.length), .int (us pre), .ref (B i + 1), .ref (x + 8)] μ z (ffP g x B z0 μ0 σ i 0 pre z) (noX) := by
  refine Ct.of hl (by decide +kernel) (Nat.le_of_ble_eq_true rfl) ?_
  intro p e s mi args below meth c o hnm hr hx
  have o : Ok p l s mi args meth c g cX3_fillFrom 6 RX3 := o
  refine v_lv [(0, .int (nI pre.length)), (1, .int (us pre)), (2, .ref (B i + 1)), (3, .ref (x + 8))] rfl ?_
  refine v_iload_n 0 o dX3_fillFrom_0 rfl rfl ?_
  refine v_aload_n 2 o dX3_fillFrom_1 rfl rfl ?_
  refine v_alen (t0 := 3) o dX3_fillFrom_2 rfl (hR.ps hi) ?_
  refine v_top (nI (σ.1 0 i)) rfl ?_
  refine v_icmp_lt_n 8 o dX3_fillFrom_3 (by decide) (by omega) (by omega) (fun c3 => absurd c3 (by omega)) (fun c3 => ?_)
  refine v_iconst 1 o dX3_fillFrom_6 rfl ?_
  exact v_zret o dX3_fillFrom_7 hr (by decide) (Nat.le_of_ble_eq_true rfl) (Nat.le_of_ble_eq_true rfl) ⟨⟨_, hR, Or.inl ⟨pre, rfl, rfl, hm⟩⟩, rfl⟩

set_option maxRecDepth 100000 in
set_option maxHeartbeats 4000000 in
theorem c_ff_1 {l : Launch} (hl : l.stackTraces = false) {g : mG} {x z z0 : Nat} {B : Nat → Nat} {μ0 μ : mM} {σ τ : Sg} (hR : RC g x B z0 μ0 σ τ μ) (i : Nat) (hi : i < σ.1 3 0) (h7 : σ.1 0 i ≤ 7) (pre : List Nat) (hw : pre.length + 1 = σ.1 0 i) (hq : ∀ q ∈ pre, q < σ.1 0 i) (hm : mr τ pre) : Ct l g yX3_fillFrom [Cond.code yX3_fillFrom cX3_fillFrom 6 (some .boolean)] { frames := 1, cells := 0, slots := 0, locals := 25 } [.int (nI pre.length), .int (us pre), .ref (B i + 1), .ref (x + 8)] μ z (ffP g x B z0 μ0 σ i 1 pre z) (noX) := by
  refine Ct.of hl (by decide +kernel) (Nat.le_of_ble_eq_true rfl) ?_
  intro p e s mi args below meth c o hnm hr hx
  have o : Ok p l s mi args meth c g cX3_fillFrom 6 RX3 := o
  refine v_lv [(0, .int (nI pre.length)), (1, .int (us pre)), (2, .ref (B i + 1)), (3, .ref (x + 8))] rfl ?_
  have h12 := hR.np i
  have P : ∀ (r d : Nat) (τq : Sg) (μq : mM), d + r = σ.1 0 i → RC g x B z0 μ0 σ τq μq → mr τq pre → dfs (Rn σ i) (σ.1 0 i) 1 pre = fsm (fun p => if okB (Rn σ i) pre p = true then dfs (Rn σ i) (σ.1 0 i) 0 (p :: pre) else none) r d → V p l e { frames := 1, cells := 0, slots := 0, locals := 25 } s mi args below meth c (vx_MQ below (cQc g (ffP g x B z0 μ0 σ i 1 pre z)) (cXC g (noX)) args s ({ frames := 1, cells := 0, slots := 0, locals := 25 } : Room).cells ({ frames := 1, cells := 0, slots := 0, locals := 25 } : Room).slots (gA g)) g μq z 0 0 19 [(0, .int (nI pre.length)), (1, .int (us pre)), (2, .ref (B i + 1)), (3, .ref (x + 8)), (4, .int (nI d))] [] := by
    intro r
    induction r with
    | zero =>
      intro d τq μq hd hRq hmq hS
      refine v_iload 4 o dX3_fillFrom_19 rfl ?_
      refine v_aload_n 2 o dX3_fillFrom_21 rfl rfl ?_
      refine v_alen (t0 := 3) o dX3_fillFrom_22 rfl (hRq.ps hi) ?_
      refine v_top (nI (σ.1 0 i)) rfl ?_
      refine v_icmp_ge_n 95 o dX3_fillFrom_23 (by decide) (by omega) (by omega) (fun c23 => ?_) (fun c23 => absurd c23 (by omega))
      refine v_iconst 0 o dX3_fillFrom_95 rfl ?_
      exact v_zret o dX3_fillFrom_96 hr (by decide) (Nat.le_of_ble_eq_true rfl) (Nat.le_of_ble_eq_true rfl) ⟨⟨_, hRq, Or.inr ⟨hS, rfl, hmq⟩⟩, rfl⟩
    | succ r ih =>
      intro d τq μq hdr hRq hmq hS
      have hd : d < σ.1 0 i := by omega
      refine v_iload 4 o dX3_fillFrom_19 rfl ?_
      refine v_aload_n 2 o dX3_fillFrom_21 rfl rfl ?_
      refine v_alen (t0 := 3) o dX3_fillFrom_22 rfl (hRq.ps hi) ?_
      refine v_top (nI (σ.1 0 i)) rfl ?_
      refine v_icmp_ge_n 95 o dX3_fillFrom_23 (by decide) (by omega) (by omega) (fun c23 => absurd c23 (by omega)) (fun c23 => ?_)
      refine v_iload_n 1 o dX3_fillFrom_26 rfl rfl ?_
      refine v_iload 4 o dX3_fillFrom_27 rfl ?_
      refine v_ishr ((us pre) >>> ((nI d) &&& 31)) o dX3_fillFrom_29 rfl ?_
      refine v_iconst 1 o dX3_fillFrom_30 rfl ?_
      refine v_iand (((us pre) >>> ((nI d) &&& 31)) &&& (nI 1)) o dX3_fillFrom_31 rfl ?_
      refine v_top (bI (!notIn d pre)) (by rw [bitA (show d < 32 by omega), us_bit (show d < 32 by omega) pre (fun q h => by have := hq q h; omega)]; cases notIn d pre <;> rfl) ?_
      refine v_if_ne_b 39 o dX3_fillFrom_32 (by decide) (fun c32 => ?_) (fun c32 => ?_)
      · refine v_iconst 0 o dX3_fillFrom_39 rfl ?_
        refine v_istore [(5, .int (nI 0)), (0, .int (nI pre.length)), (1, .int (us pre)), (2, .ref (B i + 1)), (3, .ref (x + 8)), (4, .int (nI d))] o dX3_fillFrom_40 (by decide) rfl ?_
        refine v_iload 0 o dX3_fillFrom_42 rfl ?_
        refine v_if_eq_n 89 o dX3_fillFrom_44 (by decide) (by decide) (fun c44 => ?_) (fun c44 => absurd c44 (by omega))
        refine v_iinc (nI (d + 1)) [(4, .int (nI (d + 1))), (5, .int (nI 0)), (0, .int (nI pre.length)), (1, .int (us pre)), (2, .ref (B i + 1)), (3, .ref (x + 8))] o dX3_fillFrom_89 5 rfl (iinc_n d 1) (by decide) rfl ?_
        refine v_goto 19 o dX3_fillFrom_92 (by decide) ?_
        have n1 : notIn d pre = false := by simpa using c32
        have ok1 : okB (Rn σ i) pre d = false := by unfold okB; rw [n1, Bool.and_false]
        refine v_sub [(0, .int (nI pre.length)), (1, .int (us pre)), (2, .ref (B i + 1)), (3, .ref (x + 8)), (4, .int (nI (d + 1)))] [2, 3, 4, 5, 0] rfl ?_
        exact ih (d + 1) _ _ (by omega) hRq hmq (hS.trans (fsm_f (if_neg (by rw [ok1]; decide))))
      · refine v_iconst 1 o dX3_fillFrom_35 rfl ?_
        refine v_goto 40 o dX3_fillFrom_36 (by decide) ?_
        refine v_istore [(5, .int (nI 1)), (0, .int (nI pre.length)), (1, .int (us pre)), (2, .ref (B i + 1)), (3, .ref (x + 8)), (4, .int (nI d))] o dX3_fillFrom_40 (by decide) rfl ?_
        refine v_iload 0 o dX3_fillFrom_42 rfl ?_
        refine v_if_eq_n 89 o dX3_fillFrom_44 (by decide) (by decide) (fun c44 => absurd c44 (by omega)) (fun c44 => ?_)
        refine v_iload_n 1 o dX3_fillFrom_47 rfl rfl ?_
        refine v_if_eq_n 65 o dX3_fillFrom_48 (by decide) (by omega) (fun c48 => ?_) (fun c48 => ?_)
        · refine v_aload_n 4 o dX3_fillFrom_65 rfl rfl ?_
          refine v_iload_n 1 o dX3_fillFrom_66 rfl rfl ?_
          refine v_iload 5 o dX3_fillFrom_67 rfl ?_
          refine v_iast o dX3_fillFrom_69 (by omega) (by decide) hRq.h8 (fun μ1 e1 => ?_)
          have hR1 := hRq.u_row (k0 := pre.length) (v := d) e1
          refine v_iload_n 1 o dX3_fillFrom_70 rfl rfl ?_
          refine v_iconst 1 o dX3_fillFrom_71 rfl ?_
          refine v_iadd (nI (pre.length + 1)) o dX3_fillFrom_72 (nI_add pre.length 1) ?_
          refine v_iload_n 2 o dX3_fillFrom_73 rfl rfl ?_
          refine v_iconst 1 o dX3_fillFrom_74 rfl ?_
          refine v_iload 5 o dX3_fillFrom_75 rfl ?_
          refine v_ishl ((nI 1) <<< ((nI d) &&& 31)) o dX3_fillFrom_77 rfl ?_
          refine v_ior ((us pre) ||| ((nI 1) <<< ((nI d) &&& 31))) o dX3_fillFrom_78 rfl ?_
          refine v_aload_n 3 o dX3_fillFrom_79 rfl rfl ?_
          refine v_aload_n 4 o dX3_fillFrom_80 rfl rfl ?_
          have n1 : notIn d pre = true := by simpa using c32
          have ok1 : okB (Rn σ i) pre d = true := (okB_0 c48 d).trans n1
          refine v_callS [.int (nI (pre.length + 1)), .int ((us pre) ||| ((nI 1) <<< ((nI d) &&& 31))), .ref (B i + 1), .ref (x + 8)] [] o dX3_fillFrom_81 cw_X3_15 st_X3_fillFrom (c_ff_0 hl hR1 i hi h7 (d :: pre) (by show pre.length + 1 + 0 = _; omega) (fun q h => (List.mem_cons.mp h).elim (fun e => by rw [e]; exact hd) (hq q)) ⟨u2_s, mr_set pre (Nat.le_refl _) hmq⟩) rfl rfl (by decide) (by decide) (Nat.le_of_ble_eq_true rfl) ?_ (fun _ _ _ _ h => h.elim)
          rintro _ μ9 _ _ ⟨⟨τ9, hR9, (⟨L, hL, rfl, hmL⟩ | ⟨hN, rfl, hm9⟩)⟩, rfl⟩
          · refine v_st [.int (bI true)] rfl ?_
            refine v_if_eq_b 89 o dX3_fillFrom_84 (by decide) (fun c84 => absurd c84 (by simp_all)) (fun c84 => ?_)
            refine v_iconst 1 o dX3_fillFrom_87 rfl ?_
            exact v_zret o dX3_fillFrom_88 hr (by decide) (Nat.le_of_ble_eq_true rfl) (Nat.le_of_ble_eq_true rfl) ⟨⟨_, hR9, Or.inl ⟨L, hS.trans (fsm_t ((if_pos ok1).trans hL)), rfl, hmL⟩⟩, rfl⟩
          · refine v_st [.int (bI false)] rfl ?_
            refine v_if_eq_b 89 o dX3_fillFrom_84 (by decide) (fun c84 => ?_) (fun c84 => absurd c84 (by simp_all))
            refine v_iinc (nI (d + 1)) [(4, .int (nI (d + 1))), (5, .int (nI 1)), (0, .int (nI pre.length)), (1, .int (us pre)), (2, .ref (B i + 1)), (3, .ref (x + 8))] o dX3_fillFrom_89 5 rfl (iinc_n d 1) (by decide) rfl ?_
            refine v_goto 19 o dX3_fillFrom_92 (by decide) ?_
            refine v_sub [(0, .int (nI pre.length)), (1, .int (us pre)), (2, .ref (B i + 1)), (3, .ref (x + 8)), (4, .int (nI (d + 1)))] [2, 3, 4, 5, 0] rfl ?_
            exact ih (d + 1) _ _ (by omega) hR9 hm9.2 (hS.trans (fsm_f ((if_pos ok1).trans hN)))
        · refine v_aload_n 3 o dX3_fillFrom_51 rfl rfl ?_
          refine v_aload_n 4 o dX3_fillFrom_52 rfl rfl ?_
          refine v_iload_n 1 o dX3_fillFrom_53 rfl rfl ?_
          refine v_iconst 1 o dX3_fillFrom_54 rfl ?_
          refine v_isub (nI (pre.length - 1)) o dX3_fillFrom_55 (pk_sub (by omega)) ?_
          refine v_iald (nI (τq.1 0 (pre.length - 1))) o dX3_fillFrom_56 (by omega) (by decide) hRq.h8 rfl ?_
          refine v_top (nI (hd0 pre)) (by rw [mr_hd hmq c48]) ?_
          refine v_iload 5 o dX3_fillFrom_57 rfl ?_
          refine v_callSr (v := .int (bI (Rn σ i (hd0 pre) d))) [.ref (B i + 1), .int (nI (hd0 pre)), .int (nI d)] [] o dX3_fillFrom_59 cw_X3_19 st_X3_leadsTo (c_leads hl hRq i hi (hd0 pre) d (hd_lt hq c48) hd) rfl rfl (by decide) ⟨rfl, rfl⟩ (by decide) (Nat.le_of_ble_eq_true rfl) ?_
          refine v_if_eq_b 89 o dX3_fillFrom_62 (by decide) (fun c62 => ?_) (fun c62 => ?_)
          · refine v_iinc (nI (d + 1)) [(4, .int (nI (d + 1))), (5, .int (nI 1)), (0, .int (nI pre.length)), (1, .int (us pre)), (2, .ref (B i + 1)), (3, .ref (x + 8))] o dX3_fillFrom_89 5 rfl (iinc_n d 1) (by decide) rfl ?_
            refine v_goto 19 o dX3_fillFrom_92 (by decide) ?_
            have ok1 : okB (Rn σ i) pre d = false := (okB_hd c48 d).trans (by rw [c62]; rfl)
            refine v_sub [(0, .int (nI pre.length)), (1, .int (us pre)), (2, .ref (B i + 1)), (3, .ref (x + 8)), (4, .int (nI (d + 1)))] [2, 3, 4, 5, 0] rfl ?_
            exact ih (d + 1) _ _ (by omega) hRq hmq (hS.trans (fsm_f (if_neg (by rw [ok1]; decide))))
          · refine v_aload_n 4 o dX3_fillFrom_65 rfl rfl ?_
            refine v_iload_n 1 o dX3_fillFrom_66 rfl rfl ?_
            refine v_iload 5 o dX3_fillFrom_67 rfl ?_
            refine v_iast o dX3_fillFrom_69 (by omega) (by decide) hRq.h8 (fun μ2 e2 => ?_)
            have hR2 := hRq.u_row (k0 := pre.length) (v := d) e2
            refine v_iload_n 1 o dX3_fillFrom_70 rfl rfl ?_
            refine v_iconst 1 o dX3_fillFrom_71 rfl ?_
            refine v_iadd (nI (pre.length + 1)) o dX3_fillFrom_72 (nI_add pre.length 1) ?_
            refine v_iload_n 2 o dX3_fillFrom_73 rfl rfl ?_
            refine v_iconst 1 o dX3_fillFrom_74 rfl ?_
            refine v_iload 5 o dX3_fillFrom_75 rfl ?_
            refine v_ishl ((nI 1) <<< ((nI d) &&& 31)) o dX3_fillFrom_77 rfl ?_
            refine v_ior ((us pre) ||| ((nI 1) <<< ((nI d) &&& 31))) o dX3_fillFrom_78 rfl ?_
            refine v_aload_n 3 o dX3_fillFrom_79 rfl rfl ?_
            refine v_aload_n 4 o dX3_fillFrom_80 rfl rfl ?_
            have n1 : notIn d pre = true := by simpa using c32
            have ok1 : okB (Rn σ i) pre d = true := (okB_hd c48 d).trans (by rw [c62, n1]; rfl)
            refine v_callS [.int (nI (pre.length + 1)), .int ((us pre) ||| ((nI 1) <<< ((nI d) &&& 31))), .ref (B i + 1), .ref (x + 8)] [] o dX3_fillFrom_81 cw_X3_15 st_X3_fillFrom (c_ff_0 hl hR2 i hi h7 (d :: pre) (by show pre.length + 1 + 0 = _; omega) (fun q h => (List.mem_cons.mp h).elim (fun e => by rw [e]; exact hd) (hq q)) ⟨u2_s, mr_set pre (Nat.le_refl _) hmq⟩) rfl rfl (by decide) (by decide) (Nat.le_of_ble_eq_true rfl) ?_ (fun _ _ _ _ h => h.elim)
            rintro _ μ9 _ _ ⟨⟨τ9, hR9, (⟨L, hL, rfl, hmL⟩ | ⟨hN, rfl, hm9⟩)⟩, rfl⟩
            · refine v_st [.int (bI true)] rfl ?_
              refine v_if_eq_b 89 o dX3_fillFrom_84 (by decide) (fun c84 => absurd c84 (by simp_all)) (fun c84 => ?_)
              refine v_iconst 1 o dX3_fillFrom_87 rfl ?_
              exact v_zret o dX3_fillFrom_88 hr (by decide) (Nat.le_of_ble_eq_true rfl) (Nat.le_of_ble_eq_true rfl) ⟨⟨_, hR9, Or.inl ⟨L, hS.trans (fsm_t ((if_pos ok1).trans hL)), rfl, hmL⟩⟩, rfl⟩
            · refine v_st [.int (bI false)] rfl ?_
              refine v_if_eq_b 89 o dX3_fillFrom_84 (by decide) (fun c84 => ?_) (fun c84 => absurd c84 (by simp_all))
              refine v_iinc (nI (d + 1)) [(4, .int (nI (d + 1))), (5, .int (nI 1)), (0, .int (nI pre.length)), (1, .int (us pre)), (2, .ref (B i + 1)), (3, .ref (x + 8))] o dX3_fillFrom_89 5 rfl (iinc_n d 1) (by decide) rfl ?_
              refine v_goto 19 o dX3_fillFrom_92 (by decide) ?_
              refine v_sub [(0, .int (nI pre.length)), (1, .int (us pre)), (2, .ref (B i + 1)), (3, .ref (x + 8)), (4, .int (nI (d + 1)))] [2, 3, 4, 5, 0] rfl ?_
              exact ih (d + 1) _ _ (by omega) hR9 hm9.2 (hS.trans (fsm_f ((if_pos ok1).trans hN)))
  refine v_iload_n 0 o dX3_fillFrom_0 rfl rfl ?_
  refine v_aload_n 2 o dX3_fillFrom_1 rfl rfl ?_
  refine v_alen (t0 := 3) o dX3_fillFrom_2 rfl (hR.ps hi) ?_
  refine v_top (nI (σ.1 0 i)) rfl ?_
  refine v_icmp_lt_n 8 o dX3_fillFrom_3 (by decide) (by omega) (by omega) (fun c3 => ?_) (fun c3 => absurd c3 (by omega))
  refine v_iload_n 0 o dX3_fillFrom_8 rfl rfl ?_
  refine v_aload_n 3 o dX3_fillFrom_9 rfl rfl ?_
  refine v_alen (t0 := 0) o dX3_fillFrom_10 rfl hR.h8 ?_
  refine v_top (nI 7) rfl ?_
  refine v_icmp_lt_n 16 o dX3_fillFrom_11 (by decide) (by omega) (by decide) (fun c11 => ?_) (fun c11 => absurd c11 (by omega))
  refine v_iconst 0 o dX3_fillFrom_16 rfl ?_
  refine v_istore [(4, .int (nI 0)), (0, .int (nI pre.length)), (1, .int (us pre)), (2, .ref (B i + 1)), (3, .ref (x + 8))] o dX3_fillFrom_17 (by decide) rfl ?_
  refine v_sub [(0, .int (nI pre.length)), (1, .int (us pre)), (2, .ref (B i + 1)), (3, .ref (x + 8)), (4, .int (nI 0))] [1, 2, 3, 4, 0] rfl ?_
  exact P (σ.1 0 i) 0 _ _ (by omega) hR hm rfl

set_option maxRecDepth 100000 in
set_option maxHeartbeats 4000000 in
theorem c_ff_2 {l : Launch} (hl : l.stackTraces = false) {g : mG} {x z z0 : Nat} {B : Nat → Nat} {μ0 μ : mM} {σ τ : Sg} (hR : RC g x B z0 μ0 σ τ μ) (i : Nat) (hi : i < σ.1 3 0) (h7 : σ.1 0 i ≤ 7) (pre : List Nat) (hw : pre.length + 2 = σ.1 0 i) (hq : ∀ q ∈ pre, q < σ.1 0 i) (hm : mr τ pre) : Ct l g yX3_fillFrom [Cond.code yX3_fillFrom cX3_fillFrom 6 (some .boolean)] { frames := 2, cells := 0, slots := 0, locals := 50 } [.int (nI pre.length), .int (us pre), .ref (B i + 1), .ref (x + 8)] μ z (ffP g x B z0 μ0 σ i 2 pre z) (noX) := by
  refine Ct.of hl (by decide +kernel) (Nat.le_of_ble_eq_true rfl) ?_
  intro p e s mi args below meth c o hnm hr hx
  have o : Ok p l s mi args meth c g cX3_fillFrom 6 RX3 := o
  refine v_lv [(0, .int (nI pre.length)), (1, .int (us pre)), (2, .ref (B i + 1)), (3, .ref (x + 8))] rfl ?_
  have h12 := hR.np i
  have P : ∀ (r d : Nat) (τq : Sg) (μq : mM), d + r = σ.1 0 i → RC g x B z0 μ0 σ τq μq → mr τq pre → dfs (Rn σ i) (σ.1 0 i) 2 pre = fsm (fun p => if okB (Rn σ i) pre p = true then dfs (Rn σ i) (σ.1 0 i) 1 (p :: pre) else none) r d → V p l e { frames := 2, cells := 0, slots := 0, locals := 50 } s mi args below meth c (vx_MQ below (cQc g (ffP g x B z0 μ0 σ i 2 pre z)) (cXC g (noX)) args s ({ frames := 2, cells := 0, slots := 0, locals := 50 } : Room).cells ({ frames := 2, cells := 0, slots := 0, locals := 50 } : Room).slots (gA g)) g μq z 0 0 19 [(0, .int (nI pre.length)), (1, .int (us pre)), (2, .ref (B i + 1)), (3, .ref (x + 8)), (4, .int (nI d))] [] := by
    intro r
    induction r with
    | zero =>
      intro d τq μq hd hRq hmq hS
      refine v_iload 4 o dX3_fillFrom_19 rfl ?_
      refine v_aload_n 2 o dX3_fillFrom_21 rfl rfl ?_
      refine v_alen (t0 := 3) o dX3_fillFrom_22 rfl (hRq.ps hi) ?_
      refine v_top (nI (σ.1 0 i)) rfl ?_
      refine v_icmp_ge_n 95 o dX3_fillFrom_23 (by decide) (by omega) (by omega) (fun c23 => ?_) (fun c23 => absurd c23 (by omega))
      refine v_iconst 0 o dX3_fillFrom_95 rfl ?_
      exact v_zret o dX3_fillFrom_96 hr (by decide) (Nat.le_of_ble_eq_true rfl) (Nat.le_of_ble_eq_true rfl) ⟨⟨_, hRq, Or.inr ⟨hS, rfl, hmq⟩⟩, rfl⟩
    | succ r ih =>
      intro d τq μq hdr hRq hmq hS
      have hd : d < σ.1 0 i := by omega
      refine v_iload 4 o dX3_fillFrom_19 rfl ?_
      refine v_aload_n 2 o dX3_fillFrom_21 rfl rfl ?_
      refine v_alen (t0 := 3) o dX3_fillFrom_22 rfl (hRq.ps hi) ?_
      refine v_top (nI (σ.1 0 i)) rfl ?_
      refine v_icmp_ge_n 95 o dX3_fillFrom_23 (by decide) (by omega) (by omega) (fun c23 => absurd c23 (by omega)) (fun c23 => ?_)
      refine v_iload_n 1 o dX3_fillFrom_26 rfl rfl ?_
      refine v_iload 4 o dX3_fillFrom_27 rfl ?_
      refine v_ishr ((us pre) >>> ((nI d) &&& 31)) o dX3_fillFrom_29 rfl ?_
      refine v_iconst 1 o dX3_fillFrom_30 rfl ?_
      refine v_iand (((us pre) >>> ((nI d) &&& 31)) &&& (nI 1)) o dX3_fillFrom_31 rfl ?_
      refine v_top (bI (!notIn d pre)) (by rw [bitA (show d < 32 by omega), us_bit (show d < 32 by omega) pre (fun q h => by have := hq q h; omega)]; cases notIn d pre <;> rfl) ?_
      refine v_if_ne_b 39 o dX3_fillFrom_32 (by decide) (fun c32 => ?_) (fun c32 => ?_)
      · refine v_iconst 0 o dX3_fillFrom_39 rfl ?_
        refine v_istore [(5, .int (nI 0)), (0, .int (nI pre.length)), (1, .int (us pre)), (2, .ref (B i + 1)), (3, .ref (x + 8)), (4, .int (nI d))] o dX3_fillFrom_40 (by decide) rfl ?_
        refine v_iload 0 o dX3_fillFrom_42 rfl ?_
        refine v_if_eq_n 89 o dX3_fillFrom_44 (by decide) (by decide) (fun c44 => ?_) (fun c44 => absurd c44 (by omega))
        refine v_iinc (nI (d + 1)) [(4, .int (nI (d + 1))), (5, .int (nI 0)), (0, .int (nI pre.length)), (1, .int (us pre)), (2, .ref (B i + 1)), (3, .ref (x + 8))] o dX3_fillFrom_89 5 rfl (iinc_n d 1) (by decide) rfl ?_
        refine v_goto 19 o dX3_fillFrom_92 (by decide) ?_
        have n1 : notIn d pre = false := by simpa using c32
        have ok1 : okB (Rn σ i) pre d = false := by unfold okB; rw [n1, Bool.and_false]
        refine v_sub [(0, .int (nI pre.length)), (1, .int (us pre)), (2, .ref (B i + 1)), (3, .ref (x + 8)), (4, .int (nI (d + 1)))] [2, 3, 4, 5, 0] rfl ?_
        exact ih (d + 1) _ _ (by omega) hRq hmq (hS.trans (fsm_f (if_neg (by rw [ok1]; decide))))
      · refine v_iconst 1 o dX3_fillFrom_35 rfl ?_
        refine v_goto 40 o dX3_fillFrom_36 (by decide) ?_
        refine v_istore [(5, .int (nI 1)), (0, .int (nI pre.length)), (1, .int (us pre)), (2, .ref (B i + 1)), (3, .ref (x + 8)), (4, .int (nI d))] o dX3_fillFrom_40 (by decide) rfl ?_
        refine v_iload 0 o dX3_fillFrom_42 rfl ?_
        refine v_if_eq_n 89 o dX3_fillFrom_44 (by decide) (by decide) (fun c44 => absurd c44 (by omega)) (fun c44 => ?_)
        refine v_iload_n 1 o dX3_fillFrom_47 rfl rfl ?_
        refine v_if_eq_n 65 o dX3_fillFrom_48 (by decide) (by omega) (fun c48 => ?_) (fun c48 => ?_)
        · refine v_aload_n 4 o dX3_fillFrom_65 rfl rfl ?_
          refine v_iload_n 1 o dX3_fillFrom_66 rfl rfl ?_
          refine v_iload 5 o dX3_fillFrom_67 rfl ?_
          refine v_iast o dX3_fillFrom_69 (by omega) (by decide) hRq.h8 (fun μ1 e1 => ?_)
          have hR1 := hRq.u_row (k0 := pre.length) (v := d) e1
          refine v_iload_n 1 o dX3_fillFrom_70 rfl rfl ?_
          refine v_iconst 1 o dX3_fillFrom_71 rfl ?_
          refine v_iadd (nI (pre.length + 1)) o dX3_fillFrom_72 (nI_add pre.length 1) ?_
          refine v_iload_n 2 o dX3_fillFrom_73 rfl rfl ?_
          refine v_iconst 1 o dX3_fillFrom_74 rfl ?_
          refine v_iload 5 o dX3_fillFrom_75 rfl ?_
          refine v_ishl ((nI 1) <<< ((nI d) &&& 31)) o dX3_fillFrom_77 rfl ?_
          refine v_ior ((us pre) ||| ((nI 1) <<< ((nI d) &&& 31))) o dX3_fillFrom_78 rfl ?_
          refine v_aload_n 3 o dX3_fillFrom_79 rfl rfl ?_
          refine v_aload_n 4 o dX3_fillFrom_80 rfl rfl ?_
          have n1 : notIn d pre = true := by simpa using c32
          have ok1 : okB (Rn σ i) pre d = true := (okB_0 c48 d).trans n1
          refine v_callS [.int (nI (pre.length + 1)), .int ((us pre) ||| ((nI 1) <<< ((nI d) &&& 31))), .ref (B i + 1), .ref (x + 8)] [] o dX3_fillFrom_81 cw_X3_15 st_X3_fillFrom (c_ff_1 hl hR1 i hi h7 (d :: pre) (by show pre.length + 1 + 1 = _; omega) (fun q h => (List.mem_cons.mp h).elim (fun e => by rw [e]; exact hd) (hq q)) ⟨u2_s, mr_set pre (Nat.le_refl _) hmq⟩) rfl rfl (by decide) (by decide) (Nat.le_of_ble_eq_true rfl) ?_ (fun _ _ _ _ h => h.elim)
          rintro _ μ9 _ _ ⟨⟨τ9, hR9, (⟨L, hL, rfl, hmL⟩ | ⟨hN, rfl, hm9⟩)⟩, rfl⟩
          · refine v_st [.int (bI true)] rfl ?_
            refine v_if_eq_b 89 o dX3_fillFrom_84 (by decide) (fun c84 => absurd c84 (by simp_all)) (fun c84 => ?_)
            refine v_iconst 1 o dX3_fillFrom_87 rfl ?_
            exact v_zret o dX3_fillFrom_88 hr (by decide) (Nat.le_of_ble_eq_true rfl) (Nat.le_of_ble_eq_true rfl) ⟨⟨_, hR9, Or.inl ⟨L, hS.trans (fsm_t ((if_pos ok1).trans hL)), rfl, hmL⟩⟩, rfl⟩
          · refine v_st [.int (bI false)] rfl ?_
            refine v_if_eq_b 89 o dX3_fillFrom_84 (by decide) (fun c84 => ?_) (fun c84 => absurd c84 (by simp_all))
            refine v_iinc (nI (d + 1)) [(4, .int (nI (d + 1))), (5, .int (nI 1)), (0, .int (nI pre.length)), (1, .int (us pre)), (2, .ref (B i + 1)), (3, .ref (x + 8))] o dX3_fillFrom_89 5 rfl (iinc_n d 1) (by decide) rfl ?_
            refine v_goto 19 o dX3_fillFrom_92 (by decide) ?_
            refine v_sub [(0, .int (nI pre.length)), (1, .int (us pre)), (2, .ref (B i + 1)), (3, .ref (x + 8)), (4, .int (nI (d + 1)))] [2, 3, 4, 5, 0] rfl ?_
            exact ih (d + 1) _ _ (by omega) hR9 hm9.2 (hS.trans (fsm_f ((if_pos ok1).trans hN)))
        · refine v_aload_n 3 o dX3_fillFrom_51 rfl rfl ?_
          refine v_aload_n 4 o dX3_fillFrom_52 rfl rfl ?_
          refine v_iload_n 1 o dX3_fillFrom_53 rfl rfl ?_
          refine v_iconst 1 o dX3_fillFrom_54 rfl ?_
          refine v_isub (nI (pre.length - 1)) o dX3_fillFrom_55 (pk_sub (by omega)) ?_
          refine v_iald (nI (τq.1 0 (pre.length - 1))) o dX3_fillFrom_56 (by omega) (by decide) hRq.h8 rfl ?_
          refine v_top (nI (hd0 pre)) (by rw [mr_hd hmq c48]) ?_
          refine v_iload 5 o dX3_fillFrom_57 rfl ?_
          refine v_callSr (v := .int (bI (Rn σ i (hd0 pre) d))) [.ref (B i + 1), .int (nI (hd0 pre)), .int (nI d)] [] o dX3_fillFrom_59 cw_X3_19 st_X3_leadsTo (c_leads hl hRq i hi (hd0 pre) d (hd_lt hq c48) hd) rfl rfl (by decide) ⟨rfl, rfl⟩ (by decide) (Nat.le_of_ble_eq_true rfl) ?_
          refine v_if_eq_b 89 o dX3_fillFrom_62 (by decide) (fun c62 => ?_) (fun c62 => ?_)
          · refine v_iinc (nI (d + 1)) [(4, .int (nI (d + 1))), (5, .int (nI 1)), (0, .int (nI pre.length)), (1, .int (us pre)), (2, .ref (B i + 1)), (3, .ref (x + 8))] o dX3_fillFrom_89 5 rfl (iinc_n d 1) (by decide) rfl ?_
            refine v_goto 19 o dX3_fillFrom_92 (by decide) ?_
            have ok1 : okB (Rn σ i) pre d = false := (okB_hd c48 d).trans (by rw [c62]; rfl)
            refine v_sub [(0, .int (nI pre.length)), (1, .int (us pre)), (2, .ref (B i + 1)), (3, .ref (x + 8)), (4, .int (nI (d + 1)))] [2, 3, 4, 5, 0] rfl ?_
            exact ih (d + 1) _ _ (by omega) hRq hmq (hS.trans (fsm_f (if_neg (by rw [ok1]; decide))))
          · refine v_aload_n 4 o dX3_fillFrom_65 rfl rfl ?_
            refine v_iload_n 1 o dX3_fillFrom_66 rfl rfl ?_
            refine v_iload 5 o dX3_fillFrom_67 rfl ?_
            refine v_iast o dX3_fillFrom_69 (by omega) (by decide) hRq.h8 (fun μ2 e2 => ?_)
            have hR2 := hRq.u_row (k0 := pre.length) (v := d) e2
            refine v_iload_n 1 o dX3_fillFrom_70 rfl rfl ?_
            refine v_iconst 1 o dX3_fillFrom_71 rfl ?_
            refine v_iadd (nI (pre.length + 1)) o dX3_fillFrom_72 (nI_add pre.length 1) ?_
            refine v_iload_n 2 o dX3_fillFrom_73 rfl rfl ?_
            refine v_iconst 1 o dX3_fillFrom_74 rfl ?_
            refine v_iload 5 o dX3_fillFrom_75 rfl ?_
            refine v_ishl ((nI 1) <<< ((nI d) &&& 31)) o dX3_fillFrom_77 rfl ?_
            refine v_ior ((us pre) ||| ((nI 1) <<< ((nI d) &&& 31))) o dX3_fillFrom_78 rfl ?_
            refine v_aload_n 3 o dX3_fillFrom_79 rfl rfl ?_
            refine v_aload_n 4 o dX3_fillFrom_80 rfl rfl ?_
            have n1 : notIn d pre = true := by simpa using c32
            have ok1 : okB (Rn σ i) pre d = true := (okB_hd c48 d).trans (by rw [c62, n1]; rfl)
            refine v_callS [.int (nI (pre.length + 1)), .int ((us pre) ||| ((nI 1) <<< ((nI d) &&& 31))), .ref (B i + 1), .ref (x + 8)] [] o dX3_fillFrom_81 cw_X3_15 st_X3_fillFrom (c_ff_1 hl hR2 i hi h7 (d :: pre) (by show pre.length + 1 + 1 = _; omega) (fun q h => (List.mem_cons.mp h).elim (fun e => by rw [e]; exact hd) (hq q)) ⟨u2_s, mr_set pre (Nat.le_refl _) hmq⟩) rfl rfl (by decide) (by decide) (Nat.le_of_ble_eq_true rfl) ?_ (fun _ _ _ _ h => h.elim)
            rintro _ μ9 _ _ ⟨⟨τ9, hR9, (⟨L, hL, rfl, hmL⟩ | ⟨hN, rfl, hm9⟩)⟩, rfl⟩
            · refine v_st [.int (bI true)] rfl ?_
              refine v_if_eq_b 89 o dX3_fillFrom_84 (by decide) (fun c84 => absurd c84 (by simp_all)) (fun c84 => ?_)
              refine v_iconst 1 o dX3_fillFrom_87 rfl ?_
              exact v_zret o dX3_fillFrom_88 hr (by decide) (Nat.le_of_ble_eq_true rfl) (Nat.le_of_ble_eq_true rfl) ⟨⟨_, hR9, Or.inl ⟨L, hS.trans (fsm_t ((if_pos ok1).trans hL)), rfl, hmL⟩⟩, rfl⟩
            · refine v_st [.int (bI false)] rfl ?_
              refine v_if_eq_b 89 o dX3_fillFrom_84 (by decide) (fun c84 => ?_) (fun c84 => absurd c84 (by simp_all))
              refine v_iinc (nI (d + 1)) [(4, .int (nI (d + 1))), (5, .int (nI 1)), (0, .int (nI pre.length)), (1, .int (us pre)), (2, .ref (B i + 1)), (3, .ref (x + 8))] o dX3_fillFrom_89 5 rfl (iinc_n d 1) (by decide) rfl ?_
              refine v_goto 19 o dX3_fillFrom_92 (by decide) ?_
              refine v_sub [(0, .int (nI pre.length)), (1, .int (us pre)), (2, .ref (B i + 1)), (3, .ref (x + 8)), (4, .int (nI (d + 1)))] [2, 3, 4, 5, 0] rfl ?_
              exact ih (d + 1) _ _ (by omega) hR9 hm9.2 (hS.trans (fsm_f ((if_pos ok1).trans hN)))
  refine v_iload_n 0 o dX3_fillFrom_0 rfl rfl ?_
  refine v_aload_n 2 o dX3_fillFrom_1 rfl rfl ?_
  refine v_alen (t0 := 3) o dX3_fillFrom_2 rfl (hR.ps hi) ?_
  refine v_top (nI (σ.1 0 i)) rfl ?_
  refine v_icmp_lt_n 8 o dX3_fillFrom_3 (by decide) (by omega) (by omega) (fun c3 => ?_) (fun c3 => absurd c3 (by omega))
  refine v_iload_n 0 o dX3_fillFrom_8 rfl rfl ?_
  refine v_aload_n 3 o dX3_fillFrom_9 rfl rfl ?_
  refine v_alen (t0 := 0) o dX3_fillFrom_10 rfl hR.h8 ?_
  refine v_top (nI 7) rfl ?_
  refine v_icmp_lt_n 16 o dX3_fillFrom_11 (by decide) (by omega) (by decide) (fun c11 => ?_) (fun c11 => absurd c11 (by omega))
  refine v_iconst 0 o dX3_fillFrom_16 rfl ?_
  refine v_istore [(4, .int (nI 0)), (0, .int (nI pre.length)), (1, .int (us pre)), (2, .ref (B i + 1)), (3, .ref (x + 8))] o dX3_fillFrom_17 (by decide) rfl ?_
  refine v_sub [(0, .int (nI pre.length)), (1, .int (us pre)), (2, .ref (B i + 1)), (3, .ref (x + 8)), (4, .int (nI 0))] [1, 2, 3, 4, 0] rfl ?_
  exact P (σ.1 0 i) 0 _ _ (by omega) hR hm rfl

set_option maxRecDepth 100000 in
set_option maxHeartbeats 4000000 in
theorem c_ff_3 {l : Launch} (hl : l.stackTraces = false) {g : mG} {x z z0 : Nat} {B : Nat → Nat} {μ0 μ : mM} {σ τ : Sg} (hR : RC g x B z0 μ0 σ τ μ) (i : Nat) (hi : i < σ.1 3 0) (h7 : σ.1 0 i ≤ 7) (pre : List Nat) (hw : pre.length + 3 = σ.1 0 i) (hq : ∀ q ∈ pre, q < σ.1 0 i) (hm : mr τ pre) : Ct l g yX3_fillFrom [Cond.code yX3_fillFrom cX3_fillFrom 6 (some .boolean)] { frames := 3, cells := 0, slots := 0, locals := 75 } [.int (nI pre.length), .int (us pre), .ref (B i + 1), .ref (x + 8)] μ z (ffP g x B z0 μ0 σ i 3 pre z) (noX) := by
  refine Ct.of hl (by decide +kernel) (Nat.le_of_ble_eq_true rfl) ?_
  intro p e s mi args below meth c o hnm hr hx
  have o : Ok p l s mi args meth c g cX3_fillFrom 6 RX3 := o
  refine v_lv [(0, .int (nI pre.length)), (1, .int (us pre)), (2, .ref (B i + 1)), (3, .ref (x + 8))] rfl ?_
  have h12 := hR.np i
  have P : ∀ (r d : Nat) (τq : Sg) (μq : mM), d + r = σ.1 0 i → RC g x B z0 μ0 σ τq μq → mr τq pre → dfs (Rn σ i) (σ.1 0 i) 3 pre = fsm (fun p => if okB (Rn σ i) pre p = true then dfs (Rn σ i) (σ.1 0 i) 2 (p :: pre) else none) r d → V p l e { frames := 3, cells := 0, slots := 0, locals := 75 } s mi args below meth c (vx_MQ below (cQc g (ffP g x B z0 μ0 σ i 3 pre z)) (cXC g (noX)) args s ({ frames := 3, cells := 0, slots := 0, locals := 75 } : Room).cells ({ frames := 3, cells := 0, slots := 0, locals := 75 } : Room).slots (gA g)) g μq z 0 0 19 [(0, .int (nI pre.length)), (1, .int (us pre)), (2, .ref (B i + 1)), (3, .ref (x + 8)), (4, .int (nI d))] [] := by
    intro r
    induction r with
    | zero =>
      intro d τq μq hd hRq hmq hS
      refine v_iload 4 o dX3_fillFrom_19 rfl ?_
      refine v_aload_n 2 o dX3_fillFrom_21 rfl rfl ?_
      refine v_alen (t0 := 3) o dX3_fillFrom_22 rfl (hRq.ps hi) ?_
      refine v_top (nI (σ.1 0 i)) rfl ?_
      refine v_icmp_ge_n 95 o dX3_fillFrom_23 (by decide) (by omega) (by omega) (fun c23 => ?_) (fun c23 => absurd c23 (by omega))
      refine v_iconst 0 o dX3_fillFrom_95 rfl ?_
      exact v_zret o dX3_fillFrom_96 hr (by decide) (Nat.le_of_ble_eq_true rfl) (Nat.le_of_ble_eq_true rfl) ⟨⟨_, hRq, Or.inr ⟨hS, rfl, hmq⟩⟩, rfl⟩
    | succ r ih =>
      intro d τq μq hdr hRq hmq hS
      have hd : d < σ.1 0 i := by omega
      refine v_iload 4 o dX3_fillFrom_19 rfl ?_
      refine v_aload_n 2 o dX3_fillFrom_21 rfl rfl ?_
      refine v_alen (t0 := 3) o dX3_fillFrom_22 rfl (hRq.ps hi) ?_
      refine v_top (nI (σ.1 0 i)) rfl ?_
      refine v_icmp_ge_n 95 o dX3_fillFrom_23 (by decide) (by omega) (by omega) (fun c23 => absurd c23 (by omega)) (fun c23 => ?_)
      refine v_iload_n 1 o dX3_fillFrom_26 rfl rfl ?_
      refine v_iload 4 o dX3_fillFrom_27 rfl ?_
      refine v_ishr ((us pre) >>> ((nI d) &&& 31)) o dX3_fillFrom_29 rfl ?_
      refine v_iconst 1 o dX3_fillFrom_30 rfl ?_
      refine v_iand (((us pre) >>> ((nI d) &&& 31)) &&& (nI 1)) o dX3_fillFrom_31 rfl ?_
      refine v_top (bI (!notIn d pre)) (by rw [bitA (show d < 32 by omega), us_bit (show d < 32 by omega) pre (fun q h => by have := hq q h; omega)]; cases notIn d pre <;> rfl) ?_
      refine v_if_ne_b 39 o dX3_fillFrom_32 (by decide) (fun c32 => ?_) (fun c32 => ?_)
      · refine v_iconst 0 o dX3_fillFrom_39 rfl ?_
        refine v_istore [(5, .int (nI 0)), (0, .int (nI pre.length)), (1, .int (us pre)), (2, .ref (B i + 1)), (3, .ref (x + 8)), (4, .int (nI d))] o dX3_fillFrom_40 (by decide) rfl ?_
        refine v_iload 0 o dX3_fillFrom_42 rfl ?_
        refine v_if_eq_n 89 o dX3_fillFrom_44 (by decide) (by decide) (fun c44 => ?_) (fun c44 => absurd c44 (by omega))
        refine v_iinc (nI (d + 1)) [(4, .int (nI (d + 1))), (5, .int (nI 0)), (0, .int (nI pre.length)), (1, .int (us pre)), (2, .ref (B i + 1)), (3, .ref (x + 8))] o dX3_fillFrom_89 5 rfl (iinc_n d 1) (by decide) rfl ?_
        refine v_goto 19 o dX3_fillFrom_92 (by decide) ?_
        have n1 : notIn d pre = false := by simpa using c32
        have ok1 : okB (Rn σ i) pre d = false := by unfold okB; rw [n1, Bool.and_false]
        refine v_sub [(0, .int (nI pre.length)), (1, .int (us pre)), (2, .ref (B i + 1)), (3, .ref (x + 8)), (4, .int (nI (d + 1)))] [2, 3, 4, 5, 0] rfl ?_
        exact ih (d + 1) _ _ (by omega) hRq hmq (hS.trans (fsm_f (if_neg (by rw [ok1]; decide))))
      · refine v_iconst 1 o dX3_fillFrom_35 rfl ?_
        refine v_goto 40 o dX3_fillFrom_36 (by decide) ?_
        refine v_istore [(5, .int (nI 1)), (0, .int (nI pre.length)), (1, .int (us pre)), (2, .ref (B i + 1)), (3, .ref (x + 8)), (4, .int (nI d))] o dX3_fillFrom_40 (by decide) rfl ?_
        refine v_iload 0 o dX3_fillFrom_42 rfl ?_
        refine v_if_eq_n 89 o dX3_fillFrom_44 (by decide) (by decide) (fun c44 => absurd c44 (by omega)) (fun c44 => ?_)
        refine v_iload_n 1 o dX3_fillFrom_47 rfl rfl ?_
        refine v_if_eq_n 65 o dX3_fillFrom_48 (by decide) (by omega) (fun c48 => ?_) (fun c48 => ?_)
        · refine v_aload_n 4 o dX3_fillFrom_65 rfl rfl ?_
          refine v_iload_n 1 o dX3_fillFrom_66 rfl rfl ?_
          refine v_iload 5 o dX3_fillFrom_67 rfl ?_
          refine v_iast o dX3_fillFrom_69 (by omega) (by decide) hRq.h8 (fun μ1 e1 => ?_)
          have hR1 := hRq.u_row (k0 := pre.length) (v := d) e1
          refine v_iload_n 1 o dX3_fillFrom_70 rfl rfl ?_
          refine v_iconst 1 o dX3_fillFrom_71 rfl ?_
          refine v_iadd (nI (pre.length + 1)) o dX3_fillFrom_72 (nI_add pre.length 1) ?_
          refine v_iload_n 2 o dX3_fillFrom_73 rfl rfl ?_
          refine v_iconst 1 o dX3_fillFrom_74 rfl ?_
          refine v_iload 5 o dX3_fillFrom_75 rfl ?_
          refine v_ishl ((nI 1) <<< ((nI d) &&& 31)) o dX3_fillFrom_77 rfl ?_
          refine v_ior ((us pre) ||| ((nI 1) <<< ((nI d) &&& 31))) o dX3_fillFrom_78 rfl ?_
          refine v_aload_n 3 o dX3_fillFrom_79 rfl rfl ?_
          refine v_aload_n 4 o dX3_fillFrom_80 rfl rfl ?_
          have n1 : notIn d pre = true := by simpa using c32
          have ok1 : okB (Rn σ i) pre d = true := (okB_0 c48 d).trans n1
          refine v_callS [.int (nI (pre.length + 1)), .int ((us pre) ||| ((nI 1) <<< ((nI d) &&& 31))), .ref (B i + 1), .ref (x + 8)] [] o dX3_fillFrom_81 cw_X3_15 st_X3_fillFrom (c_ff_2 hl hR1 i hi h7 (d :: pre) (by show pre.length + 1 + 2 = _; omega) (fun q h => (List.mem_cons.mp h).elim (fun e => by rw [e]; exact hd) (hq q)) ⟨u2_s, mr_set pre (Nat.le_refl _) hmq⟩) rfl rfl (by decide) (by decide) (Nat.le_of_ble_eq_true rfl) ?_ (fun _ _ _ _ h => h.elim)
          rintro _ μ9 _ _ ⟨⟨τ9, hR9, (⟨L, hL, rfl, hmL⟩ | ⟨hN, rfl, hm9⟩)⟩, rfl⟩
          · refine v_st [.int (bI true)] rfl ?_
            refine v_if_eq_b 89 o dX3_fillFrom_84 (by decide) (fun c84 => absurd c84 (by simp_all)) (fun c84 => ?_)
            refine v_iconst 1 o dX3_fillFrom_87 rfl ?_
            exact v_zret o dX3_fillFrom_88 hr (by decide) (Nat.le_of_ble_eq_true rfl) (Nat.le_of_ble_eq_true rfl) ⟨⟨_, hR9, Or.inl ⟨L, hS.trans (fsm_t ((if_pos ok1).trans hL)), rfl, hmL⟩⟩, rfl⟩
          · refine v_st [.int (bI false)] rfl ?_
            refine v_if_eq_b 89 o dX3_fillFrom_84 (by decide) (fun c84 => ?_) (fun c84 => absurd c84 (by simp_all))
            refine v_iinc (nI (d + 1)) [(4, .int (nI (d + 1))), (5, .int (nI 1)), (0, .int (nI pre.length)), (1, .int (us pre)), (2, .ref (B i + 1)), (3, .ref (x + 8))] o dX3_fillFrom_89 5 rfl (iinc_n d 1) (by decide) rfl ?_
            refine v_goto 19 o dX3_fillFrom_92 (by decide) ?_
            refine v_sub [(0, .int (nI pre.length)), (1, .int (us pre)), (2, .ref (B i + 1)), (3, .ref (x + 8)), (4, .int (nI (d + 1)))] [2, 3, 4, 5, 0] rfl ?_
            exact ih (d + 1) _ _ (by omega) hR9 hm9.2 (hS.trans (fsm_f ((if_pos ok1).trans hN)))
        · refine v_aload_n 3 o dX3_fillFrom_51 rfl rfl ?_
          refine v_aload_n 4 o dX3_fillFrom_52 rfl rfl ?_
          refine v_iload_n 1 o dX3_fillFrom_53 rfl rfl ?_
          refine v_iconst 1 o dX3_fillFrom_54 rfl ?_
          refine v_isub (nI (pre.length - 1)) o dX3_fillFrom_55 (pk_sub (by omega)) ?_
          refine v_iald (nI (τq.1 0 (pre.length - 1))) o dX3_fillFrom_56 (by omega) (by decide) hRq.h8 rfl ?_
          refine v_top (nI (hd0 pre)) (by rw [mr_hd hmq c48]) ?_
          refine v_iload 5 o dX3_fillFrom_57 rfl ?_
          refine v_callSr (v := .int (bI (Rn σ i (hd0 pre) d))) [.ref (B i + 1), .int (nI (hd0 pre)), .int (nI d)] [] o dX3_fillFrom_59 cw_X3_19 st_X3_leadsTo (c_leads hl hRq i hi (hd0 pre) d (hd_lt hq c48) hd) rfl rfl (by decide) ⟨rfl, rfl⟩ (by decide) (Nat.le_of_ble_eq_true rfl) ?_
          refine v_if_eq_b 89 o dX3_fillFrom_62 (by decide) (fun c62 => ?_) (fun c62 => ?_)
          · refine v_iinc (nI (d + 1)) [(4, .int (nI (d + 1))), (5, .int (nI 1)), (0, .int (nI pre.length)), (1, .int (us pre)), (2, .ref (B i + 1)), (3, .ref (x + 8))] o dX3_fillFrom_89 5 rfl (iinc_n d 1) (by decide) rfl ?_
            refine v_goto 19 o dX3_fillFrom_92 (by decide) ?_
            have ok1 : okB (Rn σ i) pre d = false := (okB_hd c48 d).trans (by rw [c62]; rfl)
            refine v_sub [(0, .int (nI pre.length)), (1, .int (us pre)), (2, .ref (B i + 1)), (3, .ref (x + 8)), (4, .int (nI (d + 1)))] [2, 3, 4, 5, 0] rfl ?_
            exact ih (d + 1) _ _ (by omega) hRq hmq (hS.trans (fsm_f (if_neg (by rw [ok1]; decide))))
          · refine v_aload_n 4 o dX3_fillFrom_65 rfl rfl ?_
            refine v_iload_n 1 o dX3_fillFrom_66 rfl rfl ?_
            refine v_iload 5 o dX3_fillFrom_67 rfl ?_
            refine v_iast o dX3_fillFrom_69 (by omega) (by decide) hRq.h8 (fun μ2 e2 => ?_)
            have hR2 := hRq.u_row (k0 := pre.length) (v := d) e2
            refine v_iload_n 1 o dX3_fillFrom_70 rfl rfl ?_
            refine v_iconst 1 o dX3_fillFrom_71 rfl ?_
            refine v_iadd (nI (pre.length + 1)) o dX3_fillFrom_72 (nI_add pre.length 1) ?_
            refine v_iload_n 2 o dX3_fillFrom_73 rfl rfl ?_
            refine v_iconst 1 o dX3_fillFrom_74 rfl ?_
            refine v_iload 5 o dX3_fillFrom_75 rfl ?_
            refine v_ishl ((nI 1) <<< ((nI d) &&& 31)) o dX3_fillFrom_77 rfl ?_
            refine v_ior ((us pre) ||| ((nI 1) <<< ((nI d) &&& 31))) o dX3_fillFrom_78 rfl ?_
            refine v_aload_n 3 o dX3_fillFrom_79 rfl rfl ?_
            refine v_aload_n 4 o dX3_fillFrom_80 rfl rfl ?_
            have n1 : notIn d pre = true := by simpa using c32
            have ok1 : okB (Rn σ i) pre d = true := (okB_hd c48 d).trans (by rw [c62, n1]; rfl)
            refine v_callS [.int (nI (pre.length + 1)), .int ((us pre) ||| ((nI 1) <<< ((nI d) &&& 31))), .ref (B i + 1), .ref (x + 8)] [] o dX3_fillFrom_81 cw_X3_15 st_X3_fillFrom (c_ff_2 hl hR2 i hi h7 (d :: pre) (by show pre.length + 1 + 2 = _; omega) (fun q h => (List.mem_cons.mp h).elim (fun e => by rw [e]; exact hd) (hq q)) ⟨u2_s, mr_set pre (Nat.le_refl _) hmq⟩) rfl rfl (by decide) (by decide) (Nat.le_of_ble_eq_true rfl) ?_ (fun _ _ _ _ h => h.elim)
            rintro _ μ9 _ _ ⟨⟨τ9, hR9, (⟨L, hL, rfl, hmL⟩ | ⟨hN, rfl, hm9⟩)⟩, rfl⟩
            · refine v_st [.int (bI true)] rfl ?_
              refine v_if_eq_b 89 o dX3_fillFrom_84 (by decide) (fun c84 => absurd c84 (by simp_all)) (fun c84 => ?_)
              refine v_iconst 1 o dX3_fillFrom_87 rfl ?_
              exact v_zret o dX3_fillFrom_88 hr (by decide) (Nat.le_of_ble_eq_true rfl) (Nat.le_of_ble_eq_true rfl) ⟨⟨_, hR9, Or.inl ⟨L, hS.trans (fsm_t ((if_pos ok1).trans hL)), rfl, hmL⟩⟩, rfl⟩
            · refine v_st [.int (bI false)] rfl ?_
              refine v_if_eq_b 89 o dX3_fillFrom_84 (by decide) (fun c84 => ?_) (fun c84 => absurd c84 (by simp_all))
              refine v_iinc (nI (d + 1)) [(4, .int (nI (d + 1))), (5, .int (nI 1)), (0, .int (nI pre.length)), (1, .int (us pre)), (2, .ref (B i + 1)), (3, .ref (x + 8))] o dX3_fillFrom_89 5 rfl (iinc_n d 1) (by decide) rfl ?_
              refine v_goto 19 o dX3_fillFrom_92 (by decide) ?_
              refine v_sub [(0, .int (nI pre.length)), (1, .int (us pre)), (2, .ref (B i + 1)), (3, .ref (x + 8)), (4, .int (nI (d + 1)))] [2, 3, 4, 5, 0] rfl ?_
              exact ih (d + 1) _ _ (by omega) hR9 hm9.2 (hS.trans (fsm_f ((if_pos ok1).trans hN)))
  refine v_iload_n 0 o dX3_fillFrom_0 rfl rfl ?_
  refine v_aload_n 2 o dX3_fillFrom_1 rfl rfl ?_
  refine v_alen (t0 := 3) o dX3_fillFrom_2 rfl (hR.ps hi) ?_
  refine v_top (nI (σ.1 0 i)) rfl ?_
  refine v_icmp_lt_n 8 o dX3_fillFrom_3 (by decide) (by omega) (by omega) (fun c3 => ?_) (fun c3 => absurd c3 (by omega))
  refine v_iload_n 0 o dX3_fillFrom_8 rfl rfl ?_
  refine v_aload_n 3 o dX3_fillFrom_9 rfl rfl ?_
  refine v_alen (t0 := 0) o dX3_fillFrom_10 rfl hR.h8 ?_
  refine v_top (nI 7) rfl ?_
  refine v_icmp_lt_n 16 o dX3_fillFrom_11 (by decide) (by omega) (by decide) (fun c11 => ?_) (fun c11 => absurd c11 (by omega))
  refine v_iconst 0 o dX3_fillFrom_16 rfl ?_
  refine v_istore [(4, .int (nI 0)), (0, .int (nI pre.length)), (1, .int (us pre)), (2, .ref (B i + 1)), (3, .ref (x + 8))] o dX3_fillFrom_17 (by decide) rfl ?_
  refine v_sub [(0, .int (nI pre.length)), (1, .int (us pre)), (2, .ref (B i + 1)), (3, .ref (x + 8)), (4, .int (nI 0))] [1, 2, 3, 4, 0] rfl ?_
  exact P (σ.1 0 i) 0 _ _ (by omega) hR hm rfl

set_option maxRecDepth 100000 in
set_option maxHeartbeats 4000000 in
theorem c_ff_4 {l : Launch} (hl : l.stackTraces = false) {g : mG} {x z z0 : Nat} {B : Nat → Nat} {μ0 μ : mM} {σ τ : Sg} (hR : RC g x B z0 μ0 σ τ μ) (i : Nat) (hi : i < σ.1 3 0) (h7 : σ.1 0 i ≤ 7) (pre : List Nat) (hw : pre.length + 4 = σ.1 0 i) (hq : ∀ q ∈ pre, q < σ.1 0 i) (hm : mr τ pre) : Ct l g yX3_fillFrom [Cond.code yX3_fillFrom cX3_fillFrom 6 (some .boolean)] { frames := 4, cells := 0, slots := 0, locals := 100 } [.int (nI pre.length), .int (us pre), .ref (B i + 1), .ref (x + 8)] μ z (ffP g x B z0 μ0 σ i 4 pre z) (noX) := by
  refine Ct.of hl (by decide +kernel) (Nat.le_of_ble_eq_true rfl) ?_
  intro p e s mi args below meth c o hnm hr hx
  have o : Ok p l s mi args meth c g cX3_fillFrom 6 RX3 := o
  refine v_lv [(0, .int (nI pre.length)), (1, .int (us pre)), (2, .ref (B i + 1)), (3, .ref (x + 8))] rfl ?_
  have h12 := hR.np i
  have P : ∀ (r d : Nat) (τq : Sg) (μq : mM), d + r = σ.1 0 i → RC g x B z0 μ0 σ τq μq → mr τq pre → dfs (Rn σ i) (σ.1 0 i) 4 pre = fsm (fun p => if okB (Rn σ i) pre p = true then dfs (Rn σ i) (σ.1 0 i) 3 (p :: pre) else none) r d → V p l e { frames := 4, cells := 0, slots := 0, locals := 100 } s mi args below meth c (vx_MQ below (cQc g (ffP g x B z0 μ0 σ i 4 pre z)) (cXC g (noX)) args s ({ frames := 4, cells := 0, slots := 0, locals := 100 } : Room).cells ({ frames := 4, cells := 0, slots := 0, locals := 100 } : Room).slots (gA g)) g μq z 0 0 19 [(0, .int (nI pre.length)), (1, .int (us pre)), (2, .ref (B i + 1)), (3, .ref (x + 8)), (4, .int (nI d))] [] := by
    intro r
    induction r with
    | zero =>
      intro d τq μq hd hRq hmq hS
      refine v_iload 4 o dX3_fillFrom_19 rfl ?_
      refine v_aload_n 2 o dX3_fillFrom_21 rfl rfl ?_
      refine v_alen (t0 := 3) o dX3_fillFrom_22 rfl (hRq.ps hi) ?_
      refine v_top (nI (σ.1 0 i)) rfl ?_
      refine v_icmp_ge_n 95 o dX3_fillFrom_23 (by decide) (by omega) (by omega) (fun c23 => ?_) (fun c23 => absurd c23 (by omega))
      refine v_iconst 0 o dX3_fillFrom_95 rfl ?_
      exact v_zret o dX3_fillFrom_96 hr (by decide) (Nat.le_of_ble_eq_true rfl) (Nat.le_of_ble_eq_true rfl) ⟨⟨_, hRq, Or.inr ⟨hS, rfl, hmq⟩⟩, rfl⟩
    | succ r ih =>
      intro d τq μq hdr hRq hmq hS
      have hd : d < σ.1 0 i := by omega
      refine v_iload 4 o dX3_fillFrom_19 rfl ?_
      refine v_aload_n 2 o dX3_fillFrom_21 rfl rfl ?_
      refine v_alen (t0 := 3) o dX3_fillFrom_22 rfl (hRq.ps hi) ?_
      refine v_top (nI (σ.1 0 i)) rfl ?_
      refine v_icmp_ge_n 95 o dX3_fillFrom_23 (by decide) (by omega) (by omega) (fun c23 => absurd c23 (by omega)) (fun c23 => ?_)
      refine v_iload_n 1 o dX3_fillFrom_26 rfl rfl ?_
      refine v_iload 4 o dX3_fillFrom_27 rfl ?_
      refine v_ishr ((us pre) >>> ((nI d) &&& 31)) o dX3_fillFrom_29 rfl ?_
      refine v_iconst 1 o dX3_fillFrom_30 rfl ?_
      refine v_iand (((us pre) >>> ((nI d) &&& 31)) &&& (nI 1)) o dX3_fillFrom_31 rfl ?_
      refine v_top (bI (!notIn d pre)) (by rw [bitA (show d < 32 by omega), us_bit (show d < 32 by omega) pre (fun q h => by have := hq q h; omega)]; cases notIn d pre <;> rfl) ?_
      refine v_if_ne_b 39 o dX3_fillFrom_32 (by decide) (fun c32 => ?_) (fun c32 => ?_)
      · refine v_iconst 0 o dX3_fillFrom_39 rfl ?_
        refine v_istore [(5, .int (nI 0)), (0, .int (nI pre.length)), (1, .int (us pre)), (2, .ref (B i + 1)), (3, .ref (x + 8)), (4, .int (nI d))] o dX3_fillFrom_40 (by decide) rfl ?_
        refine v_iload 0 o dX3_fillFrom_42 rfl ?_
        refine v_if_eq_n 89 o dX3_fillFrom_44 (by decide) (by decide) (fun c44 => ?_) (fun c44 => absurd c44 (by omega))
        refine v_iinc (nI (d + 1)) [(4, .int (nI (d + 1))), (5, .int (nI 0)), (0, .int (nI pre.length)), (1, .int (us pre)), (2, .ref (B i + 1)), (3, .ref (x + 8))] o dX3_fillFrom_89 5 rfl (iinc_n d 1) (by decide) rfl ?_
        refine v_goto 19 o dX3_fillFrom_92 (by decide) ?_
        have n1 : notIn d pre = false := by simpa using c32
        have ok1 : okB (Rn σ i) pre d = false := by unfold okB; rw [n1, Bool.and_false]
        refine v_sub [(0, .int (nI pre.length)), (1, .int (us pre)), (2, .ref (B i + 1)), (3, .ref (x + 8)), (4, .int (nI (d + 1)))] [2, 3, 4, 5, 0] rfl ?_
        exact ih (d + 1) _ _ (by omega) hRq hmq (hS.trans (fsm_f (if_neg (by rw [ok1]; decide))))
      · refine v_iconst 1 o dX3_fillFrom_35 rfl ?_
        refine v_goto 40 o dX3_fillFrom_36 (by decide) ?_
        refine v_istore [(5, .int (nI 1)), (0, .int (nI pre.length)), (1, .int (us pre)), (2, .ref (B i + 1)), (3, .ref (x + 8)), (4, .int (nI d))] o dX3_fillFrom_40 (by decide) rfl ?_
        refine v_iload 0 o dX3_fillFrom_42 rfl ?_
        refine v_if_eq_n 89 o dX3_fillFrom_44 (by decide) (by decide) (fun c44 => absurd c44 (by omega)) (fun c44 => ?_)
        refine v_iload_n 1 o dX3_fillFrom_47 rfl rfl ?_
        refine v_if_eq_n 65 o dX3_fillFrom_48 (by decide) (by omega) (fun c48 => ?_) (fun c48 => ?_)
        · refine v_aload_n 4 o dX3_fillFrom_65 rfl rfl ?_
          refine v_iload_n 1 o dX3_fillFrom_66 rfl rfl ?_
          refine v_iload 5 o dX3_fillFrom_67 rfl ?_
          refine v_iast o dX3_fillFrom_69 (by omega) (by decide) hRq.h8 (fun μ1 e1 => ?_)
          have hR1 := hRq.u_row (k0 := pre.length) (v := d) e1
          refine v_iload_n 1 o dX3_fillFrom_70 rfl rfl ?_
          refine v_iconst 1 o dX3_fillFrom_71 rfl ?_
          refine v_iadd (nI (pre.length + 1)) o dX3_fillFrom_72 (nI_add pre.length 1) ?_
          refine v_iload_n 2 o dX3_fillFrom_73 rfl rfl ?_
          refine v_iconst 1 o dX3_fillFrom_74 rfl ?_
          refine v_iload 5 o dX3_fillFrom_75 rfl ?_
          refine v_ishl ((nI 1) <<< ((nI d) &&& 31)) o dX3_fillFrom_77 rfl ?_
          refine v_ior ((us pre) ||| ((nI 1) <<< ((nI d) &&& 31))) o dX3_fillFrom_78 rfl ?_
          refine v_aload_n 3 o dX3_fillFrom_79 rfl rfl ?_
          refine v_aload_n 4 o dX3_fillFrom_80 rfl rfl ?_
          have n1 : notIn d pre = true := by simpa using c32
          have ok1 : okB (Rn σ i) pre d = true := (okB_0 c48 d).trans n1
          refine v_callS [.int (nI (pre.length + 1)), .int ((us pre) ||| ((nI 1) <<< ((nI d) &&& 31))), .ref (B i + 1), .ref (x + 8)] [] o dX3_fillFrom_81 cw_X3_15 st_X3_fillFrom (c_ff_3 hl hR1 i hi h7 (d :: pre) (by show pre.length + 1 + 3 = _; omega) (fun q h => (List.mem_cons.mp h).elim (fun e => by rw [e]; exact hd) (hq q)) ⟨u2_s, mr_set pre (Nat.le_refl _) hmq⟩) rfl rfl (by decide) (by decide) (Nat.le_of_ble_eq_true rfl) ?_ (fun _ _ _ _ h => h.elim)
          rintro _ μ9 _ _ ⟨⟨τ9, hR9, (⟨L, hL, rfl, hmL⟩ | ⟨hN, rfl, hm9⟩)⟩, rfl⟩
          · refine v_st [.int (bI true)] rfl ?_
            refine v_if_eq_b 89 o dX3_fillFrom_84 (by decide) (fun c84 => absurd c84 (by simp_all)) (fun c84 => ?_)
            refine v_iconst 1 o dX3_fillFrom_87 rfl ?_
            exact v_zret o dX3_fillFrom_88 hr (by decide) (Nat.le_of_ble_eq_true rfl) (Nat.le_of_ble_eq_true rfl) ⟨⟨_, hR9, Or.inl ⟨L, hS.trans (fsm_t ((if_pos ok1).trans hL)), rfl, hmL⟩⟩, rfl⟩
          · refine v_st [.int (bI false)] rfl ?_
            refine v_if_eq_b 89 o dX3_fillFrom_84 (by decide) (fun c84 => ?_) (fun c84 => absurd c84 (by simp_all))
            refine v_iinc (nI (d + 1)) [(4, .int (nI (d + 1))), (5, .int (nI 1)), (0, .int (nI pre.length)), (1, .int (us pre)), (2, .ref (B i + 1)), (3, .ref (x + 8))] o dX3_fillFrom_89 5 rfl (iinc_n d 1) (by decide) rfl ?_
            refine v_goto 19 o dX3_fillFrom_92 (by decide) ?_
            refine v_sub [(0, .int (nI pre.length)), (1, .int (us pre)), (2, .ref (B i + 1)), (3, .ref (x + 8)), (4, .int (nI (d + 1)))] [2, 3, 4, 5, 0] rfl ?_
            exact ih (d + 1) _ _ (by omega) hR9 hm9.2 (hS.trans (fsm_f ((if_pos ok1).trans hN)))
        · refine v_aload_n 3 o dX3_fillFrom_51 rfl rfl ?_
          refine v_aload_n 4 o dX3_fillFrom_52 rfl rfl ?_
          refine v_iload_n 1 o dX3_fillFrom_53 rfl rfl ?_
          refine v_iconst 1 o dX3_fillFrom_54 rfl ?_
          refine v_isub (nI (pre.length - 1)) o dX3_fillFrom_55 (pk_sub (by omega)) ?_
          refine v_iald (nI (τq.1 0 (pre.length - 1))) o dX3_fillFrom_56 (by omega) (by decide) hRq.h8 rfl ?_
          refine v_top (nI (hd0 pre)) (by rw [mr_hd hmq c48]) ?_
          refine v_iload 5 o dX3_fillFrom_57 rfl ?_
          refine v_callSr (v := .int (bI (Rn σ i (hd0 pre) d))) [.ref (B i + 1), .int (nI (hd0 pre)), .int (nI d)] [] o dX3_fillFrom_59 cw_X3_19 st_X3_leadsTo (c_leads hl hRq i hi (hd0 pre) d (hd_lt hq c48) hd) rfl rfl (by decide) ⟨rfl, rfl⟩ (by decide) (Nat.le_of_ble_eq_true rfl) ?_
          refine v_if_eq_b 89 o dX3_fillFrom_62 (by decide) (fun c62 => ?_) (fun c62 => ?_)
          · refine v_iinc (nI (d + 1)) [(4, .int (nI (d + 1))), (5, .int (nI 1)), (0, .int (nI pre.length)), (1, .int (us pre)), (2, .ref (B i + 1)), (3, .ref (x + 8))] o dX3_fillFrom_89 5 rfl (iinc_n d 1) (by decide) rfl ?_
            refine v_goto 19 o dX3_fillFrom_92 (by decide) ?_
            have ok1 : okB (Rn σ i) pre d = false := (okB_hd c48 d).trans (by rw [c62]; rfl)
            refine v_sub [(0, .int (nI pre.length)), (1, .int (us pre)), (2, .ref (B i + 1)), (3, .ref (x + 8)), (4, .int (nI (d + 1)))] [2, 3, 4, 5, 0] rfl ?_
            exact ih (d + 1) _ _ (by omega) hRq hmq (hS.trans (fsm_f (if_neg (by rw [ok1]; decide))))
          · refine v_aload_n 4 o dX3_fillFrom_65 rfl rfl ?_
            refine v_iload_n 1 o dX3_fillFrom_66 rfl rfl ?_
            refine v_iload 5 o dX3_fillFrom_67 rfl ?_
            refine v_iast o dX3_fillFrom_69 (by omega) (by decide) hRq.h8 (fun μ2 e2 => ?_)
            have hR2 := hRq.u_row (k0 := pre.length) (v := d) e2
            refine v_iload_n 1 o dX3_fillFrom_70 rfl rfl ?_
            refine v_iconst 1 o dX3_fillFrom_71 rfl ?_
            refine v_iadd (nI (pre.length + 1)) o dX3_fillFrom_72 (nI_add pre.length 1) ?_
            refine v_iload_n 2 o dX3_fillFrom_73 rfl rfl ?_
            refine v_iconst 1 o dX3_fillFrom_74 rfl ?_
            refine v_iload 5 o dX3_fillFrom_75 rfl ?_
            refine v_ishl ((nI 1) <<< ((nI d) &&& 31)) o dX3_fillFrom_77 rfl ?_
            refine v_ior ((us pre) ||| ((nI 1) <<< ((nI d) &&& 31))) o dX3_fillFrom_78 rfl ?_
            refine v_aload_n 3 o dX3_fillFrom_79 rfl rfl ?_
            refine v_aload_n 4 o dX3_fillFrom_80 rfl rfl ?_
            have n1 : notIn d pre = true := by simpa using c32
            have ok1 : okB (Rn σ i) pre d = true := (okB_hd c48 d).trans (by rw [c62, n1]; rfl)
            refine v_callS [.int (nI (pre.length + 1)), .int ((us pre) ||| ((nI 1) <<< ((nI d) &&& 31))), .ref (B i + 1), .ref (x + 8)] [] o dX3_fillFrom_81 cw_X3_15 st_X3_fillFrom (c_ff_3 hl hR2 i hi h7 (d :: pre) (by show pre.length + 1 + 3 = _; omega) (fun q h => (List.mem_cons.mp h).elim (fun e => by rw [e]; exact hd) (hq q)) ⟨u2_s, mr_set pre (Nat.le_refl _) hmq⟩) rfl rfl (by decide) (by decide) (Nat.le_of_ble_eq_true rfl) ?_ (fun _ _ _ _ h => h.elim)
            rintro _ μ9 _ _ ⟨⟨τ9, hR9, (⟨L, hL, rfl, hmL⟩ | ⟨hN, rfl, hm9⟩)⟩, rfl⟩
            · refine v_st [.int (bI true)] rfl ?_
              refine v_if_eq_b 89 o dX3_fillFrom_84 (by decide) (fun c84 => absurd c84 (by simp_all)) (fun c84 => ?_)
              refine v_iconst 1 o dX3_fillFrom_87 rfl ?_
              exact v_zret o dX3_fillFrom_88 hr (by decide) (Nat.le_of_ble_eq_true rfl) (Nat.le_of_ble_eq_true rfl) ⟨⟨_, hR9, Or.inl ⟨L, hS.trans (fsm_t ((if_pos ok1).trans hL)), rfl, hmL⟩⟩, rfl⟩
            · refine v_st [.int (bI false)] rfl ?_
              refine v_if_eq_b 89 o dX3_fillFrom_84 (by decide) (fun c84 => ?_) (fun c84 => absurd c84 (by simp_all))
              refine v_iinc (nI (d + 1)) [(4, .int (nI (d + 1))), (5, .int (nI 1)), (0, .int (nI pre.length)), (1, .int (us pre)), (2, .ref (B i + 1)), (3, .ref (x + 8))] o dX3_fillFrom_89 5 rfl (iinc_n d 1) (by decide) rfl ?_
              refine v_goto 19 o dX3_fillFrom_92 (by decide) ?_
              refine v_sub [(0, .int (nI pre.length)), (1, .int (us pre)), (2, .ref (B i + 1)), (3, .ref (x + 8)), (4, .int (nI (d + 1)))] [2, 3, 4, 5, 0] rfl ?_
              exact ih (d + 1) _ _ (by omega) hR9 hm9.2 (hS.trans (fsm_f ((if_pos ok1).trans hN)))
  refine v_iload_n 0 o dX3_fillFrom_0 rfl rfl ?_
  refine v_aload_n 2 o dX3_fillFrom_1 rfl rfl ?_
  refine v_alen (t0 := 3) o dX3_fillFrom_2 rfl (hR.ps hi) ?_
  refine v_top (nI (σ.1 0 i)) rfl ?_
  refine v_icmp_lt_n 8 o dX3_fillFrom_3 (by decide) (by omega) (by omega) (fun c3 => ?_) (fun c3 => absurd c3 (by omega))
  refine v_iload_n 0 o dX3_fillFrom_8 rfl rfl ?_
  refine v_aload_n 3 o dX3_fillFrom_9 rfl rfl ?_
  refine v_alen (t0 := 0) o dX3_fillFrom_10 rfl hR.h8 ?_
  refine v_top (nI 7) rfl ?_
  refine v_icmp_lt_n 16 o dX3_fillFrom_11 (by decide) (by omega) (by decide) (fun c11 => ?_) (fun c11 => absurd c11 (by omega))
  refine v_iconst 0 o dX3_fillFrom_16 rfl ?_
  refine v_istore [(4, .int (nI 0)), (0, .int (nI pre.length)), (1, .int (us pre)), (2, .ref (B i + 1)), (3, .ref (x + 8))] o dX3_fillFrom_17 (by decide) rfl ?_
  refine v_sub [(0, .int (nI pre.length)), (1, .int (us pre)), (2, .ref (B i + 1)), (3, .ref (x + 8)), (4, .int (nI 0))] [1, 2, 3, 4, 0] rfl ?_
  exact P (σ.1 0 i) 0 _ _ (by omega) hR hm rfl

set_option maxRecDepth 100000 in
set_option maxHeartbeats 4000000 in
theorem c_ff_5 {l : Launch} (hl : l.stackTraces = false) {g : mG} {x z z0 : Nat} {B : Nat → Nat} {μ0 μ : mM} {σ τ : Sg} (hR : RC g x B z0 μ0 σ τ μ) (i : Nat) (hi : i < σ.1 3 0) (h7 : σ.1 0 i ≤ 7) (pre : List Nat) (hw : pre.length + 5 = σ.1 0 i) (hq : ∀ q ∈ pre, q < σ.1 0 i) (hm : mr τ pre) : Ct l g yX3_fillFrom [Cond.code yX3_fillFrom cX3_fillFrom 6 (some .boolean)] { frames := 5, cells := 0, slots := 0, locals := 125 } [.int (nI pre.length), .int (us pre), .ref (B i + 1), .ref (x + 8)] μ z (ffP g x B z0 μ0 σ i 5 pre z) (noX) := by
  refine Ct.of hl (by decide +kernel) (Nat.le_of_ble_eq_true rfl) ?_
  intro p e s mi args below meth c o hnm hr hx
  have o : Ok p l s mi args meth c g cX3_fillFrom 6 RX3 := o
  refine v_lv [(0, .int (nI pre.length)), (1, .int (us pre)), (2, .ref (B i + 1)), (3, .ref (x + 8))] rfl ?_
  have h12 := hR.np i
  have P : ∀ (r d : Nat) (τq : Sg) (μq : mM), d + r = σ.1 0 i → RC g x B z0 μ0 σ τq μq → mr τq pre → dfs (Rn σ i) (σ.1 0 i) 5 pre = fsm (fun p => if okB (Rn σ i) pre p = true then dfs (Rn σ i) (σ.1 0 i) 4 (p :: pre) else none) r d → V p l e { frames := 5, cells := 0, slots := 0, locals := 125 } s mi args below meth c (vx_MQ below (cQc g (ffP g x B z0 μ0 σ i 5 pre z)) (cXC g (noX)) args s ({ frames := 5, cells := 0, slots := 0, locals := 125 } : Room).cells ({ frames := 5, cells := 0, slots := 0, locals := 125 } : Room).slots (gA g)) g μq z 0 0 19 [(0, .int (nI pre.length)), (1, .int (us pre)), (2, .ref (B i + 1)), (3, .ref (x + 8)), (4, .int (nI d))] [] := by
    intro r
    induction r with
    | zero =>
      intro d τq μq hd hRq hmq hS
      refine v_iload 4 o dX3_fillFrom_19 rfl ?_
      refine v_aload_n 2 o dX3_fillFrom_21 rfl rfl ?_
      refine v_alen (t0 := 3) o dX3_fillFrom_22 rfl (hRq.ps hi) ?_
      refine v_top (nI (σ.1 0 i)) rfl ?_
      refine v_icmp_ge_n 95 o dX3_fillFrom_23 (by decide) (by omega) (by omega) (fun c23 => ?_) (fun c23 => absurd c23 (by omega))
      refine v_iconst 0 o dX3_fillFrom_95 rfl ?_
      exact v_zret o dX3_fillFrom_96 hr (by decide) (Nat.le_of_ble_eq_true rfl) (Nat.le_of_ble_eq_true rfl) ⟨⟨_, hRq, Or.inr ⟨hS, rfl, hmq⟩⟩, rfl⟩
    | succ r ih =>
      intro d τq μq hdr hRq hmq hS
      have hd : d < σ.1 0 i := by omega
      refine v_iload 4 o dX3_fillFrom_19 rfl ?_
      refine v_aload_n 2 o dX3_fillFrom_21 rfl rfl ?_
      refine v_alen (t0 := 3) o dX3_fillFrom_22 rfl (hRq.ps hi) ?_
      refine v_top (nI (σ.1 0 i)) rfl ?_
      refine v_icmp_ge_n 95 o dX3_fillFrom_23 (by decide) (by omega) (by omega) (fun c23 => absurd c23 (by omega)) (fun c23 => ?_)
      refine v_iload_n 1 o dX3_fillFrom_26 rfl rfl ?_
      refine v_iload 4 o dX3_fillFrom_27 rfl ?_
      refine v_ishr ((us pre) >>> ((nI d) &&& 31)) o dX3_fillFrom_29 rfl ?_
      refine v_iconst 1 o dX3_fillFrom_30 rfl ?_
      refine v_iand (((us pre) >>> ((nI d) &&& 31)) &&& (nI 1)) o dX3_fillFrom_31 rfl ?_
      refine v_top (bI (!notIn d pre)) (by rw [bitA (show d < 32 by omega), us_bit (show d < 32 by omega) pre (fun q h => by have := hq q h; omega)]; cases notIn d pre <;> rfl) ?_
      refine v_if_ne_b 39 o dX3_fillFrom_32 (by decide) (fun c32 => ?_) (fun c32 => ?_)
      · refine v_iconst 0 o dX3_fillFrom_39 rfl ?_
        refine v_istore [(5, .int (nI 0)), (0, .int (nI pre.length)), (1, .int (us pre)), (2, .ref (B i + 1)), (3, .ref (x + 8)), (4, .int (nI d))] o dX3_fillFrom_40 (by decide) rfl ?_
        refine v_iload 0 o dX3_fillFrom_42 rfl ?_
        refine v_if_eq_n 89 o dX3_fillFrom_44 (by decide) (by decide) (fun c44 => ?_) (fun c44 => absurd c44 (by omega))
        refine v_iinc (nI (d + 1)) [(4, .int (nI (d + 1))), (5, .int (nI 0)), (0, .int (nI pre.length)), (1, .int (us pre)), (2, .ref (B i + 1)), (3, .ref (x + 8))] o dX3_fillFrom_89 5 rfl (iinc_n d 1) (by decide) rfl ?_
        refine v_goto 19 o dX3_fillFrom_92 (by decide) ?_
        have n1 : notIn d pre = false := by simpa using c32
        have ok1 : okB (Rn σ i) pre d = false := by unfold okB; rw [n1, Bool.and_false]
        refine v_sub [(0, .int (nI pre.length)), (1, .int (us pre)), (2, .ref (B i + 1)), (3, .ref (x + 8)), (4, .int (nI (d + 1)))] [2, 3, 4, 5, 0] rfl ?_
        exact ih (d + 1) _ _ (by omega) hRq hmq (hS.trans (fsm_f (if_neg (by rw [ok1]; decide))))
      · refine v_iconst 1 o dX3_fillFrom_35 rfl ?_
        refine v_goto 40 o dX3_fillFrom_36 (by decide) ?_
        refine v_istore [(5, .int (nI 1)), (0, .int (nI pre.length)), (1, .int (us pre)), (2, .ref (B i + 1)), (3, .ref (x + 8)), (4, .int (nI d))] o dX3_fillFrom_40 (by decide) rfl ?_
        refine v_iload 0 o dX3_fillFrom_42 rfl ?_
        refine v_if_eq_n 89 o dX3_fillFrom_44 (by decide) (by decide) (fun c44 => absurd c44 (by omega)) (fun c44 => ?_)
        refine v_iload_n 1 o dX3_fillFrom_47 rfl rfl ?_
        refine v_if_eq_n 65 o dX3_fillFrom_48 (by decide) (by omega) (fun c48 => ?_) (fun c48 => ?_)
        · refine v_aload_n 4 o dX3_fillFrom_65 rfl rfl ?_
          refine v_iload_n 1 o dX3_fillFrom_66 rfl rfl ?_
          refine v_iload 5 o dX3_fillFrom_67 rfl ?_
          refine v_iast o dX3_fillFrom_69 (by omega) (by decide) hRq.h8 (fun μ1 e1 => ?_)
          have hR1 := hRq.u_row (k0 := pre.length) (v := d) e1
          refine v_iload_n 1 o dX3_fillFrom_70 rfl rfl ?_
          refine v_iconst 1 o dX3_fillFrom_71 rfl ?_
          refine v_iadd (nI (pre.length + 1)) o dX3_fillFrom_72 (nI_add pre.length 1) ?_
          refine v_iload_n 2 o dX3_fillFrom_73 rfl rfl ?_
          refine v_iconst 1 o dX3_fillFrom_74 rfl ?_
          refine v_iload 5 o dX3_fillFrom_75 rfl ?_
          refine v_ishl ((nI 1) <<< ((nI d) &&& 31)) o dX3_fillFrom_77 rfl ?_
          refine v_ior ((us pre) ||| ((nI 1) <<< ((nI d) &&& 31))) o dX3_fillFrom_78 rfl ?_
          refine v_aload_n 3 o dX3_fillFrom_79 rfl rfl ?_
          refine v_aload_n 4 o dX3_fillFrom_80 rfl rfl ?_
          have n1 : notIn d pre = true := by simpa using c32
          have ok1 : okB (Rn σ i) pre d = true := (okB_0 c48 d).trans n1
          refine v_callS [.int (nI (pre.length + 1)), .int ((us pre) ||| ((nI 1) <<< ((nI d) &&& 31))), .ref (B i + 1), .ref (x + 8)] [] o dX3_fillFrom_81 cw_X3_15 st_X3_fillFrom (c_ff_4 hl hR1 i hi h7 (d :: pre) (by show pre.length + 1 + 4 = _; omega) (fun q h => (List.mem_cons.mp h).elim (fun e => by rw [e]; exact hd) (hq q)) ⟨u2_s, mr_set pre (Nat.le_refl _) hmq⟩) rfl rfl (by decide) (by decide) (Nat.le_of_ble_eq_true rfl) ?_ (fun _ _ _ _ h => h.elim)
          rintro _ μ9 _ _ ⟨⟨τ9, hR9, (⟨L, hL, rfl, hmL⟩ | ⟨hN, rfl, hm9⟩)⟩, rfl⟩
          · refine v_st [.int (bI true)] rfl ?_
            refine v_if_eq_b 89 o dX3_fillFrom_84 (by decide) (fun c84 => absurd c84 (by simp_all)) (fun c84 => ?_)
            refine v_iconst 1 o dX3_fillFrom_87 rfl ?_
            exact v_zret o dX3_fillFrom_88 hr (by decide) (Nat.le_of_ble_eq_true rfl) (Nat.le_of_ble_eq_true rfl) ⟨⟨_, hR9, Or.inl ⟨L, hS.trans (fsm_t ((if_pos ok1).trans hL)), rfl, hmL⟩⟩, rfl⟩
          · refine v_st [.int (bI false)] rfl ?_
            refine v_if_eq_b 89 o dX3_fillFrom_84 (by decide) (fun c84 => ?_) (fun c84 => absurd c84 (by simp_all))
            refine v_iinc (nI (d + 1)) [(4, .int (nI (d + 1))), (5, .int (nI 1)), (0, .int (nI pre.length)), (1, .int (us pre)), (2, .ref (B i + 1)), (3, .ref (x + 8))] o dX3_fillFrom_89 5 rfl (iinc_n d 1) (by decide) rfl ?_
            refine v_goto 19 o dX3_fillFrom_92 (by decide) ?_
            refine v_sub [(0, .int (nI pre.length)), (1, .int (us pre)), (2, .ref (B i + 1)), (3, .ref (x + 8)), (4, .int (nI (d + 1)))] [2, 3, 4, 5, 0] rfl ?_
            exact ih (d + 1) _ _ (by omega) hR9 hm9.2 (hS.trans (fsm_f ((if_pos ok1).trans hN)))
        · refine v_aload_n 3 o dX3_fillFrom_51 rfl rfl ?_
          refine v_aload_n 4 o dX3_fillFrom_52 rfl rfl ?_
          refine v_iload_n 1 o dX3_fillFrom_53 rfl rfl ?_
          refine v_iconst 1 o dX3_fillFrom_54 rfl ?_
          refine v_isub (nI (pre.length - 1)) o dX3_fillFrom_55 (pk_sub (by omega)) ?_
          refine v_iald (nI (τq.1 0 (pre.length - 1))) o dX3_fillFrom_56 (by omega) (by decide) hRq.h8 rfl ?_
          refine v_top (nI (hd0 pre)) (by rw [mr_hd hmq c48]) ?_
          refine v_iload 5 o dX3_fillFrom_57 rfl ?_
          refine v_callSr (v := .int (bI (Rn σ i (hd0 pre) d))) [.ref (B i + 1), .int (nI (hd0 pre)), .int (nI d)] [] o dX3_fillFrom_59 cw_X3_19 st_X3_leadsTo (c_leads hl hRq i hi (hd0 pre) d (hd_lt hq c48) hd) rfl rfl (by decide) ⟨rfl, rfl⟩ (by decide) (Nat.le_of_ble_eq_true rfl) ?_
          refine v_if_eq_b 89 o dX3_fillFrom_62 (by decide) (fun c62 => ?_) (fun c62 => ?_)
          · refine v_iinc (nI (d + 1)) [(4, .int (nI (d + 1))), (5, .int (nI 1)), (0, .int (nI pre.length)), (1, .int (us pre)), (2, .ref (B i + 1)), (3, .ref (x + 8))] o dX3_fillFrom_89 5 rfl (iinc_n d 1) (by decide) rfl ?_
            refine v_goto 19 o dX3_fillFrom_92 (by decide) ?_
            have ok1 : okB (Rn σ i) pre d = false := (okB_hd c48 d).trans (by rw [c62]; rfl)
            refine v_sub [(0, .int (nI pre.length)), (1, .int (us pre)), (2, .ref (B i + 1)), (3, .ref (x + 8)), (4, .int (nI (d + 1)))] [2, 3, 4, 5, 0] rfl ?_
            exact ih (d + 1) _ _ (by omega) hRq hmq (hS.trans (fsm_f (if_neg (by rw [ok1]; decide))))
          · refine v_aload_n 4 o dX3_fillFrom_65 rfl rfl ?_
            refine v_iload_n 1 o dX3_fillFrom_66 rfl rfl ?_
            refine v_iload 5 o dX3_fillFrom_67 rfl ?_
            refine v_iast o dX3_fillFrom_69 (by omega) (by decide) hRq.h8 (fun μ2 e2 => ?_)
            have hR2 := hRq.u_row (k0 := pre.length) (v := d) e2
            refine v_iload_n 1 o dX3_fillFrom_70 rfl rfl ?_
            refine v_iconst 1 o dX3_fillFrom_71 rfl ?_
            refine v_iadd (nI (pre.length + 1)) o dX3_fillFrom_72 (nI_add pre.length 1) ?_
            refine v_iload_n 2 o dX3_fillFrom_73 rfl rfl ?_
            refine v_iconst 1 o dX3_fillFrom_74 rfl ?_
            refine v_iload 5 o dX3_fillFrom_75 rfl ?_
            refine v_ishl ((nI 1) <<< ((nI d) &&& 31)) o dX3_fillFrom_77 rfl ?_
            refine v_ior ((us pre) ||| ((nI 1) <<< ((nI d) &&& 31))) o dX3_fillFrom_78 rfl ?_
            refine v_aload_n 3 o dX3_fillFrom_79 rfl rfl ?_
            refine v_aload_n 4 o dX3_fillFrom_80 rfl rfl ?_
            have n1 : notIn d pre = true := by simpa using c32
            have ok1 : okB (Rn σ i) pre d = true := (okB_hd c48 d).trans (by rw [c62, n1]; rfl)
            refine v_callS [.int (nI (pre.length + 1)), .int ((us pre) ||| ((nI 1) <<< ((nI d) &&& 31))), .ref (B i + 1), .ref (x + 8)] [] o dX3_fillFrom_81 cw_X3_15 st_X3_fillFrom (c_ff_4 hl hR2 i hi h7 (d :: pre) (by show pre.length + 1 + 4 = _; omega) (fun q h => (List.mem_cons.mp h).elim (fun e => by rw [e]; exact hd) (hq q)) ⟨u2_s, mr_set pre (Nat.le_refl _) hmq⟩) rfl rfl (by decide) (by decide) (Nat.le_of_ble_eq_true rfl) ?_ (fun _ _ _ _ h => h.elim)
            rintro _ μ9 _ _ ⟨⟨τ9, hR9, (⟨L, hL, rfl, hmL⟩ | ⟨hN, rfl, hm9⟩)⟩, rfl⟩
            · refine v_st [.int (bI true)] rfl ?_
              refine v_if_eq_b 89 o dX3_fillFrom_84 (by decide) (fun c84 => absurd c84 (by simp_all)) (fun c84 => ?_)
              refine v_iconst 1 o dX3_fillFrom_87 rfl ?_
              exact v_zret o dX3_fillFrom_88 hr (by decide) (Nat.le_of_ble_eq_true rfl) (Nat.le_of_ble_eq_true rfl) ⟨⟨_, hR9, Or.inl ⟨L, hS.trans (fsm_t ((if_pos ok1).trans hL)), rfl, hmL⟩⟩, rfl⟩
            · refine v_st [.int (bI false)] rfl ?_
              refine v_if_eq_b 89 o dX3_fillFrom_84 (by decide) (fun c84 => ?_) (fun c84 => absurd c84 (by simp_all))
              refine v_iinc (nI (d + 1)) [(4, .int (nI (d + 1))), (5, .int (nI 1)), (0, .int (nI pre.length)), (1, .int (us pre)), (2, .ref (B i + 1)), (3, .ref (x + 8))] o dX3_fillFrom_89 5 rfl (iinc_n d 1) (by decide) rfl ?_
              refine v_goto 19 o dX3_fillFrom_92 (by decide) ?_
              refine v_sub [(0, .int (nI pre.length)), (1, .int (us pre)), (2, .ref (B i + 1)), (3, .ref (x + 8)), (4, .int (nI (d + 1)))] [2, 3, 4, 5, 0] rfl ?_
              exact ih (d + 1) _ _ (by omega) hR9 hm9.2 (hS.trans (fsm_f ((if_pos ok1).trans hN)))
  refine v_iload_n 0 o dX3_fillFrom_0 rfl rfl ?_
  refine v_aload_n 2 o dX3_fillFrom_1 rfl rfl ?_
  refine v_alen (t0 := 3) o dX3_fillFrom_2 rfl (hR.ps hi) ?_
  refine v_top (nI (σ.1 0 i)) rfl ?_
  refine v_icmp_lt_n 8 o dX3_fillFrom_3 (by decide) (by omega) (by omega) (fun c3 => ?_) (fun c3 => absurd c3 (by omega))
  refine v_iload_n 0 o dX3_fillFrom_8 rfl rfl ?_
  refine v_aload_n 3 o dX3_fillFrom_9 rfl rfl ?_
  refine v_alen (t0 := 0) o dX3_fillFrom_10 rfl hR.h8 ?_
  refine v_top (nI 7) rfl ?_
  refine v_icmp_lt_n 16 o dX3_fillFrom_11 (by decide) (by omega) (by decide) (fun c11 => ?_) (fun c11 => absurd c11 (by omega))
  refine v_iconst 0 o dX3_fillFrom_16 rfl ?_
  refine v_istore [(4, .int (nI 0)), (0, .int (nI pre.length)), (1, .int (us pre)), (2, .ref (B i + 1)), (3, .ref (x + 8))] o dX3_fillFrom_17 (by decide) rfl ?_
  refine v_sub [(0, .int (nI pre.length)), (1, .int (us pre)), (2, .ref (B i + 1)), (3, .ref (x + 8)), (4, .int (nI 0))] [1, 2, 3, 4, 0] rfl ?_
  exact P (σ.1 0 i) 0 _ _ (by omega) hR hm rfl

set_option maxRecDepth 100000 in
set_option maxHeartbeats 4000000 in
theorem c_ff_6 {l : Launch} (hl : l.stackTraces = false) {g : mG} {x z z0 : Nat} {B : Nat → Nat} {μ0 μ : mM} {σ τ : Sg} (hR : RC g x B z0 μ0 σ τ μ) (i : Nat) (hi : i < σ.1 3 0) (h7 : σ.1 0 i ≤ 7) (pre : List Nat) (hw : pre.length + 6 = σ.1 0 i) (hq : ∀ q ∈ pre, q < σ.1 0 i) (hm : mr τ pre) : Ct l g yX3_fillFrom [Cond.code yX3_fillFrom cX3_fillFrom 6 (some .boolean)] { frames := 6, cells := 0, slots := 0, locals := 150 } [.int (nI pre.length), .int (us pre), .ref (B i + 1), .ref (x + 8)] μ z (ffP g x B z0 μ0 σ i 6 pre z) (noX) := by
  refine Ct.of hl (by decide +kernel) (Nat.le_of_ble_eq_true rfl) ?_
  intro p e s mi args below meth c o hnm hr hx
  have o : Ok p l s mi args meth c g cX3_fillFrom 6 RX3 := o
  refine v_lv [(0, .int (nI pre.length)), (1, .int (us pre)), (2, .ref (B i + 1)), (3, .ref (x + 8))] rfl ?_
  have h12 := hR.np i
  have P : ∀ (r d : Nat) (τq : Sg) (μq : mM), d + r = σ.1 0 i → RC g x B z0 μ0 σ τq μq → mr τq pre → dfs (Rn σ i) (σ.1 0 i) 6 pre = fsm (fun p => if okB (Rn σ i) pre p = true then dfs (Rn σ i) (σ.1 0 i) 5 (p :: pre) else none) r d → V p l e { frames := 6, cells := 0, slots := 0, locals := 150 } s mi args below meth c (vx_MQ below (cQc g (ffP g x B z0 μ0 σ i 6 pre z)) (cXC g (noX)) args s ({ frames := 6, cells := 0, slots := 0, locals := 150 } : Room).cells ({ frames := 6, cells := 0, slots := 0, locals := 150 } : Room).slots (gA g)) g μq z 0 0 19 [(0, .int (nI pre.length)), (1, .int (us pre)), (2, .ref (B i + 1)), (3, .ref (x + 8)), (4, .int (nI d))] [] := by
    intro r
    induction r with
    | zero =>
      intro d τq μq hd hRq hmq hS
      refine v_iload 4 o dX3_fillFrom_19 rfl ?_
      refine v_aload_n 2 o dX3_fillFrom_21 rfl rfl ?_
      refine v_alen (t0 := 3) o dX3_fillFrom_22 rfl (hRq.ps hi) ?_
      refine v_top (nI (σ.1 0 i)) rfl ?_
      refine v_icmp_ge_n 95 o dX3_fillFrom_23 (by decide) (by omega) (by omega) (fun c23 => ?_) (fun c23 => absurd c23 (by omega))
      refine v_iconst 0 o dX3_fillFrom_95 rfl ?_
      exact v_zret o dX3_fillFrom_96 hr (by decide) (Nat.le_of_ble_eq_true rfl) (Nat.le_of_ble_eq_true rfl) ⟨⟨_, hRq, Or.inr ⟨hS, rfl, hmq⟩⟩, rfl⟩
    | succ r ih =>
      intro d τq μq hdr hRq hmq hS
      have hd : d < σ.1 0 i := by omega
      refine v_iload 4 o dX3_fillFrom_19 rfl ?_
      refine v_aload_n 2 o dX3_fillFrom_21 rfl rfl ?_
      refine v_alen (t0 := 3) o dX3_fillFrom_22 rfl (hRq.ps hi) ?_
      refine v_top (nI (σ.1 0 i)) rfl ?_
      refine v_icmp_ge_n 95 o dX3_fillFrom_23 (by decide) (by omega) (by omega) (fun c23 => absurd c23 (by omega)) (fun c23 => ?_)
      refine v_iload_n 1 o dX3_fillFrom_26 rfl rfl ?_
      refine v_iload 4 o dX3_fillFrom_27 rfl ?_
      refine v_ishr ((us pre) >>> ((nI d) &&& 31)) o dX3_fillFrom_29 rfl ?_
      refine v_iconst 1 o dX3_fillFrom_30 rfl ?_
      refine v_iand (((us pre) >>> ((nI d) &&& 31)) &&& (nI 1)) o dX3_fillFrom_31 rfl ?_
      refine v_top (bI (!notIn d pre)) (by rw [bitA (show d < 32 by omega), us_bit (show d < 32 by omega) pre (fun q h => by have := hq q h; omega)]; cases notIn d pre <;> rfl) ?_
      refine v_if_ne_b 39 o dX3_fillFrom_32 (by decide) (fun c32 => ?_) (fun c32 => ?_)
      · refine v_iconst 0 o dX3_fillFrom_39 rfl ?_
        refine v_istore [(5, .int (nI 0)), (0, .int (nI pre.length)), (1, .int (us pre)), (2, .ref (B i + 1)), (3, .ref (x + 8)), (4, .int (nI d))] o dX3_fillFrom_40 (by decide) rfl ?_
        refine v_iload 0 o dX3_fillFrom_42 rfl ?_
        refine v_if_eq_n 89 o dX3_fillFrom_44 (by decide) (by decide) (fun c44 => ?_) (fun c44 => absurd c44 (by omega))
        refine v_iinc (nI (d + 1)) [(4, .int (nI (d + 1))), (5, .int (nI 0)), (0, .int (nI pre.length)), (1, .int (us pre)), (2, .ref (B i + 1)), (3, .ref (x + 8))] o dX3_fillFrom_89 5 rfl (iinc_n d 1) (by decide) rfl ?_
        refine v_goto 19 o dX3_fillFrom_92 (by decide) ?_
        have n1 : notIn d pre = false := by simpa using c32
        have ok1 : okB (Rn σ i) pre d = false := by unfold okB; rw [n1, Bool.and_false]
        refine v_sub [(0, .int (nI pre.length)), (1, .int (us pre)), (2, .ref (B i + 1)), (3, .ref (x + 8)), (4, .int (nI (d + 1)))] [2, 3, 4, 5, 0] rfl ?_
        exact ih (d + 1) _ _ (by omega) hRq hmq (hS.trans (fsm_f (if_neg (by rw [ok1]; decide))))
      · refine v_iconst 1 o dX3_fillFrom_35 rfl ?_
        refine v_goto 40 o dX3_fillFrom_36 (by decide) ?_
        refine v_istore [(5, .int (nI 1)), (0, .int (nI pre.length)), (1, .int (us pre)), (2, .ref (B i + 1)), (3, .ref (x + 8)), (4, .int (nI d))] o dX3_fillFrom_40 (by decide) rfl ?_
        refine v_iload 0 o dX3_fillFrom_42 rfl ?_
        refine v_if_eq_n 89 o dX3_fillFrom_44 (by decide) (by decide) (fun c44 => absurd c44 (by omega)) (fun c44 => ?_)
        refine v_iload_n 1 o dX3_fillFrom_47 rfl rfl ?_
        refine v_if_eq_n 65 o dX3_fillFrom_48 (by decide) (by omega) (fun c48 => ?_) (fun c48 => ?_)
        · refine v_aload_n 4 o dX3_fillFrom_65 rfl rfl ?_
          refine v_iload_n 1 o dX3_fillFrom_66 rfl rfl ?_
          refine v_iload 5 o dX3_fillFrom_67 rfl ?_
          refine v_iast o dX3_fillFrom_69 (by omega) (by decide) hRq.h8 (fun μ1 e1 => ?_)
          have hR1 := hRq.u_row (k0 := pre.length) (v := d) e1
          refine v_iload_n 1 o dX3_fillFrom_70 rfl rfl ?_
          refine v_iconst 1 o dX3_fillFrom_71 rfl ?_
          refine v_iadd (nI (pre.length + 1)) o dX3_fillFrom_72 (nI_add pre.length 1) ?_
          refine v_iload_n 2 o dX3_fillFrom_73 rfl rfl ?_
          refine v_iconst 1 o dX3_fillFrom_74 rfl ?_
          refine v_iload 5 o dX3_fillFrom_75 rfl ?_
          refine v_ishl ((nI 1) <<< ((nI d) &&& 31)) o dX3_fillFrom_77 rfl ?_
          refine v_ior ((us pre) ||| ((nI 1) <<< ((nI d) &&& 31))) o dX3_fillFrom_78 rfl ?_
          refine v_aload_n 3 o dX3_fillFrom_79 rfl rfl ?_
          refine v_aload_n 4 o dX3_fillFrom_80 rfl rfl ?_
          have n1 : notIn d pre = true := by simpa using c32
          have ok1 : okB (Rn σ i) pre d = true := (okB_0 c48 d).trans n1
          refine v_callS [.int (nI (pre.length + 1)), .int ((us pre) ||| ((nI 1) <<< ((nI d) &&& 31))), .ref (B i + 1), .ref (x + 8)] [] o dX3_fillFrom_81 cw_X3_15 st_X3_fillFrom (c_ff_5 hl hR1 i hi h7 (d :: pre) (by show pre.length + 1 + 5 = _; omega) (fun q h => (List.mem_cons.mp h).elim (fun e => by rw [e]; exact hd) (hq q)) ⟨u2_s, mr_set pre (Nat.le_refl _) hmq⟩) rfl rfl (by decide) (by decide) (Nat.le_of_ble_eq_true rfl) ?_ (fun _ _ _ _ h => h.elim)
          rintro _ μ9 _ _ ⟨⟨τ9, hR9, (⟨L, hL, rfl, hmL⟩ | ⟨hN, rfl, hm9⟩)⟩, rfl⟩
          · refine v_st [.int (bI true)] rfl ?_
            refine v_if_eq_b 89 o dX3_fillFrom_84 (by decide) (fun c84 => absurd c84 (by simp_all)) (fun c84 => ?_)
            refine v_iconst 1 o dX3_fillFrom_87 rfl ?_
            exact v_zret o dX3_fillFrom_88 hr (by decide) (Nat.le_of_ble_eq_true rfl) (Nat.le_of_ble_eq_true rfl) ⟨⟨_, hR9, Or.inl ⟨L, hS.trans (fsm_t ((if_pos ok1).trans hL)), rfl, hmL⟩⟩, rfl⟩
          · refine v_st [.int (bI false)] rfl ?_
            refine v_if_eq_b 89 o dX3_fillFrom_84 (by decide) (fun c84 => ?_) (fun c84 => absurd c84 (by simp_all))
            refine v_iinc (nI (d + 1)) [(4, .int (nI (d + 1))), (5, .int (nI 1)), (0, .int (nI pre.length)), (1, .int (us pre)), (2, .ref (B i + 1)), (3, .ref (x + 8))] o dX3_fillFrom_89 5 rfl (iinc_n d 1) (by decide) rfl ?_
            refine v_goto 19 o dX3_fillFrom_92 (by decide) ?_
            refine v_sub [(0, .int (nI pre.length)), (1, .int (us pre)), (2, .ref (B i + 1)), (3, .ref (x + 8)), (4, .int (nI (d + 1)))] [2, 3, 4, 5, 0] rfl ?_
            exact ih (d + 1) _ _ (by omega) hR9 hm9.2 (hS.trans (fsm_f ((if_pos ok1).trans hN)))
        · refine v_aload_n 3 o dX3_fillFrom_51 rfl rfl ?_
          refine v_aload_n 4 o dX3_fillFrom_52 rfl rfl ?_
          refine v_iload_n 1 o dX3_fillFrom_53 rfl rfl ?_
          refine v_iconst 1 o dX3_fillFrom_54 rfl ?_
          refine v_isub (nI (pre.length - 1)) o dX3_fillFrom_55 (pk_sub (by omega)) ?_
          refine v_iald (nI (τq.1 0 (pre.length - 1))) o dX3_fillFrom_56 (by omega) (by decide) hRq.h8 rfl ?_
          refine v_top (nI (hd0 pre)) (by rw [mr_hd hmq c48]) ?_
          refine v_iload 5 o dX3_fillFrom_57 rfl ?_
          refine v_callSr (v := .int (bI (Rn σ i (hd0 pre) d))) [.ref (B i + 1), .int (nI (hd0 pre)), .int (nI d)] [] o dX3_fillFrom_59 cw_X3_19 st_X3_leadsTo (c_leads hl hRq i hi (hd0 pre) d (hd_lt hq c48) hd) rfl rfl (by decide) ⟨rfl, rfl⟩ (by decide) (Nat.le_of_ble_eq_true rfl) ?_
          refine v_if_eq_b 89 o dX3_fillFrom_62 (by decide) (fun c62 => ?_) (fun c62 => ?_)
          · refine v_iinc (nI (d + 1)) [(4, .int (nI (d + 1))), (5, .int (nI 1)), (0, .int (nI pre.length)), (1, .int (us pre)), (2, .ref (B i + 1)), (3, .ref (x + 8))] o dX3_fillFrom_89 5 rfl (iinc_n d 1) (by decide) rfl ?_
            refine v_goto 19 o dX3_fillFrom_92 (by decide) ?_
            have ok1 : okB (Rn σ i) pre d = false := (okB_hd c48 d).trans (by rw [c62]; rfl)
            refine v_sub [(0, .int (nI pre.length)), (1, .int (us pre)), (2, .ref (B i + 1)), (3, .ref (x + 8)), (4, .int (nI (d + 1)))] [2, 3, 4, 5, 0] rfl ?_
            exact ih (d + 1) _ _ (by omega) hRq hmq (hS.trans (fsm_f (if_neg (by rw [ok1]; decide))))
          · refine v_aload_n 4 o dX3_fillFrom_65 rfl rfl ?_
            refine v_iload_n 1 o dX3_fillFrom_66 rfl rfl ?_
            refine v_iload 5 o dX3_fillFrom_67 rfl ?_
            refine v_iast o dX3_fillFrom_69 (by omega) (by decide) hRq.h8 (fun μ2 e2 => ?_)
            have hR2 := hRq.u_row (k0 := pre.length) (v := d) e2
            refine v_iload_n 1 o dX3_fillFrom_70 rfl rfl ?_
            refine v_iconst 1 o dX3_fillFrom_71 rfl ?_
            refine v_iadd (nI (pre.length + 1)) o dX3_fillFrom_72 (nI_add pre.length 1) ?_
            refine v_iload_n 2 o dX3_fillFrom_73 rfl rfl ?_
            refine v_iconst 1 o dX3_fillFrom_74 rfl ?_
            refine v_iload 5 o dX3_fillFrom_75 rfl ?_
            refine v_ishl ((nI 1) <<< ((nI d) &&& 31)) o dX3_fillFrom_77 rfl ?_
            refine v_ior ((us pre) ||| ((nI 1) <<< ((nI d) &&& 31))) o dX3_fillFrom_78 rfl ?_
            refine v_aload_n 3 o dX3_fillFrom_79 rfl rfl ?_
            refine v_aload_n 4 o dX3_fillFrom_80 rfl rfl ?_
            have n1 : notIn d pre = true := by simpa using c32
            have ok1 : okB (Rn σ i) pre d = true := (okB_hd c48 d).trans (by rw [c62, n1]; rfl)
            refine v_callS [.int (nI (pre.length + 1)), .int ((us pre) ||| ((nI 1) <<< ((nI d) &&& 31))), .ref (B i + 1), .ref (x + 8)] [] o dX3_fillFrom_81 cw_X3_15 st_X3_fillFrom (c_ff_5 hl hR2 i hi h7 (d :: pre) (by show pre.length + 1 + 5 = _; omega) (fun q h => (List.mem_cons.mp h).elim (fun e => by rw [e]; exact hd) (hq q)) ⟨u2_s, mr_set pre (Nat.le_refl _) hmq⟩) rfl rfl (by decide) (by decide) (Nat.le_of_ble_eq_true rfl) ?_ (fun _ _ _ _ h => h.elim)
            rintro _ μ9 _ _ ⟨⟨τ9, hR9, (⟨L, hL, rfl, hmL⟩ | ⟨hN, rfl, hm9⟩)⟩, rfl⟩
            · refine v_st [.int (bI true)] rfl ?_
              refine v_if_eq_b 89 o dX3_fillFrom_84 (by decide) (fun c84 => absurd c84 (by simp_all)) (fun c84 => ?_)
              refine v_iconst 1 o dX3_fillFrom_87 rfl ?_
              exact v_zret o dX3_fillFrom_88 hr (by decide) (Nat.le_of_ble_eq_true rfl) (Nat.le_of_ble_eq_true rfl) ⟨⟨_, hR9, Or.inl ⟨L, hS.trans (fsm_t ((if_pos ok1).trans hL)), rfl, hmL⟩⟩, rfl⟩
            · refine v_st [.int (bI false)] rfl ?_
              refine v_if_eq_b 89 o dX3_fillFrom_84 (by decide) (fun c84 => ?_) (fun c84 => absurd c84 (by simp_all))
              refine v_iinc (nI (d + 1)) [(4, .int (nI (d + 1))), (5, .int (nI 1)), (0, .int (nI pre.length)), (1, .int (us pre)), (2, .ref (B i + 1)), (3, .ref (x + 8))] o dX3_fillFrom_89 5 rfl (iinc_n d 1) (by decide) rfl ?_
              refine v_goto 19 o dX3_fillFrom_92 (by decide) ?_
              refine v_sub [(0, .int (nI pre.length)), (1, .int (us pre)), (2, .ref (B i + 1)), (3, .ref (x + 8)), (4, .int (nI (d + 1)))] [2, 3, 4, 5, 0] rfl ?_
              exact ih (d + 1) _ _ (by omega) hR9 hm9.2 (hS.trans (fsm_f ((if_pos ok1).trans hN)))
  refine v_iload_n 0 o dX3_fillFrom_0 rfl rfl ?_
  refine v_aload_n 2 o dX3_fillFrom_1 rfl rfl ?_
  refine v_alen (t0 := 3) o dX3_fillFrom_2 rfl (hR.ps hi) ?_
  refine v_top (nI (σ.1 0 i)) rfl ?_
  refine v_icmp_lt_n 8 o dX3_fillFrom_3 (by decide) (by omega) (by omega) (fun c3 => ?_) (fun c3 => absurd c3 (by omega))
  refine v_iload_n 0 o dX3_fillFrom_8 rfl rfl ?_
  refine v_aload_n 3 o dX3_fillFrom_9 rfl rfl ?_
  refine v_alen (t0 := 0) o dX3_fillFrom_10 rfl hR.h8 ?_
  refine v_top (nI 7) rfl ?_
  refine v_icmp_lt_n 16 o dX3_fillFrom_11 (by decide) (by omega) (by decide) (fun c11 => ?_) (fun c11 => absurd c11 (by omega))
  refine v_iconst 0 o dX3_fillFrom_16 rfl ?_
  refine v_istore [(4, .int (nI 0)), (0, .int (nI pre.length)), (1, .int (us pre)), (2, .ref (B i + 1)), (3, .ref (x + 8))] o dX3_fillFrom_17 (by decide) rfl ?_
  refine v_sub [(0, .int (nI pre.length)), (1, .int (us pre)), (2, .ref (B i + 1)), (3, .ref (x + 8)), (4, .int (nI 0))] [1, 2, 3, 4, 0] rfl ?_
  exact P (σ.1 0 i) 0 _ _ (by omega) hR hm rfl

set_option maxRecDepth 100000 in
set_option maxHeartbeats 4000000 in
theorem c_ff_7 {l : Launch} (hl : l.stackTraces = false) {g : mG} {x z z0 : Nat} {B : Nat → Nat} {μ0 μ : mM} {σ τ : Sg} (hR : RC g x B z0 μ0 σ τ μ) (i : Nat) (hi : i < σ.1 3 0) (h7 : σ.1 0 i ≤ 7) (pre : List Nat) (hw : pre.length + 7 = σ.1 0 i) (hq : ∀ q ∈ pre, q < σ.1 0 i) (hm : mr τ pre) : Ct l g yX3_fillFrom [Cond.code yX3_fillFrom cX3_fillFrom 6 (some .boolean)] { frames := 7, cells := 0, slots := 0, locals := 175 } [.int (nI pre.length), .int (us pre), .ref (B i + 1), .ref (x + 8)] μ z (ffP g x B z0 μ0 σ i 7 pre z) (noX) := by
  refine Ct.of hl (by decide +kernel) (Nat.le_of_ble_eq_true rfl) ?_
  intro p e s mi args below meth c o hnm hr hx
  have o : Ok p l s mi args meth c g cX3_fillFrom 6 RX3 := o
  refine v_lv [(0, .int (nI pre.length)), (1, .int (us pre)), (2, .ref (B i + 1)), (3, .ref (x + 8))] rfl ?_
  have h12 := hR.np i
  have P : ∀ (r d : Nat) (τq : Sg) (μq : mM), d + r = σ.1 0 i → RC g x B z0 μ0 σ τq μq → mr τq pre → dfs (Rn σ i) (σ.1 0 i) 7 pre = fsm (fun p => if okB (Rn σ i) pre p = true then dfs (Rn σ i) (σ.1 0 i) 6 (p :: pre) else none) r d → V p l e { frames := 7, cells := 0, slots := 0, locals := 175 } s mi args below meth c (vx_MQ below (cQc g (ffP g x B z0 μ0 σ i 7 pre z)) (cXC g (noX)) args s ({ frames := 7, cells := 0, slots := 0, locals := 175 } : Room).cells ({ frames := 7, cells := 0, slots := 0, locals := 175 } : Room).slots (gA g)) g μq z 0 0 19 [(0, .int (nI pre.length)), (1, .int (us pre)), (2, .ref (B i + 1)), (3, .ref (x + 8)), (4, .int (nI d))] [] := by
    intro r
    induction r with
    | zero =>
      intro d τq μq hd hRq hmq hS
      refine v_iload 4 o dX3_fillFrom_19 rfl ?_
      refine v_aload_n 2 o dX3_fillFrom_21 rfl rfl ?_
      refine v_alen (t0 := 3) o dX3_fillFrom_22 rfl (hRq.ps hi) ?_
      refine v_top (nI (σ.1 0 i)) rfl ?_
      refine v_icmp_ge_n 95 o dX3_fillFrom_23 (by decide) (by omega) (by omega) (fun c23 => ?_) (fun c23 => absurd c23 (by omega))
      refine v_iconst 0 o dX3_fillFrom_95 rfl ?_
      exact v_zret o dX3_fillFrom_96 hr (by decide) (Nat.le_of_ble_eq_true rfl) (Nat.le_of_ble_eq_true rfl) ⟨⟨_, hRq, Or.inr ⟨hS, rfl, hmq⟩⟩, rfl⟩
    | succ r ih =>
      intro d τq μq hdr hRq hmq hS
      have hd : d < σ.1 0 i := by omega
      refine v_iload 4 o dX3_fillFrom_19 rfl ?_
      refine v_aload_n 2 o dX3_fillFrom_21 rfl rfl ?_
      refine v_alen (t0 := 3) o dX3_fillFrom_22 rfl (hRq.ps hi) ?_
      refine v_top (nI (σ.1 0 i)) rfl ?_
      refine v_icmp_ge_n 95 o dX3_fillFrom_23 (by decide) (by omega) (by omega) (fun c23 => absurd c23 (by omega)) (fun c23 => ?_)
      refine v_iload_n 1 o dX3_fillFrom_26 rfl rfl ?_
      refine v_iload 4 o dX3_fillFrom_27 rfl ?_
      refine v_ishr ((us pre) >>> ((nI d) &&& 31)) o dX3_fillFrom_29 rfl ?_
      refine v_iconst 1 o dX3_fillFrom_30 rfl ?_
      refine v_iand (((us pre) >>> ((nI d) &&& 31)) &&& (nI 1)) o dX3_fillFrom_31 rfl ?_
      refine v_top (bI (!notIn d pre)) (by rw [bitA (show d < 32 by omega), us_bit (show d < 32 by omega) pre (fun q h => by have := hq q h; omega)]; cases notIn d pre <;> rfl) ?_
      refine v_if_ne_b 39 o dX3_fillFrom_32 (by decide) (fun c32 => ?_) (fun c32 => ?_)
      · refine v_iconst 0 o dX3_fillFrom_39 rfl ?_
        refine v_istore [(5, .int (nI 0)), (0, .int (nI pre.length)), (1, .int (us pre)), (2, .ref (B i + 1)), (3, .ref (x + 8)), (4, .int (nI d))] o dX3_fillFrom_40 (by decide) rfl ?_
        refine v_iload 0 o dX3_fillFrom_42 rfl ?_
        refine v_if_eq_n 89 o dX3_fillFrom_44 (by decide) (by decide) (fun c44 => ?_) (fun c44 => absurd c44 (by omega))
        refine v_iinc (nI (d + 1)) [(4, .int (nI (d + 1))), (5, .int (nI 0)), (0, .int (nI pre.length)), (1, .int (us pre)), (2, .ref (B i + 1)), (3, .ref (x + 8))] o dX3_fillFrom_89 5 rfl (iinc_n d 1) (by decide) rfl ?_
        refine v_goto 19 o dX3_fillFrom_92 (by decide) ?_
        have n1 : notIn d pre = false := by simpa using c32
        have ok1 : okB (Rn σ i) pre d = false := by unfold okB; rw [n1, Bool.and_false]
        refine v_sub [(0, .int (nI pre.length)), (1, .int (us pre)), (2, .ref (B i + 1)), (3, .ref (x + 8)), (4, .int (nI (d + 1)))] [2, 3, 4, 5, 0] rfl ?_
        exact ih (d + 1) _ _ (by omega) hRq hmq (hS.trans (fsm_f (if_neg (by rw [ok1]; decide))))
      · refine v_iconst 1 o dX3_fillFrom_35 rfl ?_
        refine v_goto 40 o dX3_fillFrom_36 (by decide) ?_
        refine v_istore [(5, .int (nI 1)), (0, .int (nI pre.length)), (1, .int (us pre)), (2, .ref (B i + 1)), (3, .ref (x + 8)), (4, .int (nI d))] o dX3_fillFrom_40 (by decide) rfl ?_
        refine v_iload 0 o dX3_fillFrom_42 rfl ?_
        refine v_if_eq_n 89 o dX3_fillFrom_44 (by decide) (by decide) (fun c44 => absurd c44 (by omega)) (fun c44 => ?_)
        refine v_iload_n 1 o dX3_fillFrom_47 rfl rfl ?_
        refine v_if_eq_n 65 o dX3_fillFrom_48 (by decide) (by omega) (fun c48 => ?_) (fun c48 => ?_)
        · refine v_aload_n 4 o dX3_fillFrom_65 rfl rfl ?_
          refine v_iload_n 1 o dX3_fillFrom_66 rfl rfl ?_
          refine v_iload 5 o dX3_fillFrom_67 rfl ?_
          refine v_iast o dX3_fillFrom_69 (by omega) (by decide) hRq.h8 (fun μ1 e1 => ?_)
          have hR1 := hRq.u_row (k0 := pre.length) (v := d) e1
          refine v_iload_n 1 o dX3_fillFrom_70 rfl rfl ?_
          refine v_iconst 1 o dX3_fillFrom_71 rfl ?_
          refine v_iadd (nI (pre.length + 1)) o dX3_fillFrom_72 (nI_add pre.length 1) ?_
          refine v_iload_n 2 o dX3_fillFrom_73 rfl rfl ?_
          refine v_iconst 1 o dX3_fillFrom_74 rfl ?_
          refine v_iload 5 o dX3_fillFrom_75 rfl ?_
          refine v_ishl ((nI 1) <<< ((nI d) &&& 31)) o dX3_fillFrom_77 rfl ?_
          refine v_ior ((us pre) ||| ((nI 1) <<< ((nI d) &&& 31))) o dX3_fillFrom_78 rfl ?_
          refine v_aload_n 3 o dX3_fillFrom_79 rfl rfl ?_
          refine v_aload_n 4 o dX3_fillFrom_80 rfl rfl ?_
          have n1 : notIn d pre = true := by simpa using c32
          have ok1 : okB (Rn σ i) pre d = true := (okB_0 c48 d).trans n1
          refine v_callS [.int (nI (pre.length + 1)), .int ((us pre) ||| ((nI 1) <<< ((nI d) &&& 31))), .ref (B i + 1), .ref (x + 8)] [] o dX3_fillFrom_81 cw_X3_15 st_X3_fillFrom (c_ff_6 hl hR1 i hi h7 (d :: pre) (by show pre.length + 1 + 6 = _; omega) (fun q h => (List.mem_cons.mp h).elim (fun e => by rw [e]; exact hd) (hq q)) ⟨u2_s, mr_set pre (Nat.le_refl _) hmq⟩) rfl rfl (by decide) (by decide) (Nat.le_of_ble_eq_true rfl) ?_ (fun _ _ _ _ h => h.elim)
          rintro _ μ9 _ _ ⟨⟨τ9, hR9, (⟨L, hL, rfl, hmL⟩ | ⟨hN, rfl, hm9⟩)⟩, rfl⟩
          · refine v_st [.int (bI true)] rfl ?_
            refine v_if_eq_b 89 o dX3_fillFrom_84 (by decide) (fun c84 => absurd c84 (by simp_all)) (fun c84 => ?_)
            refine v_iconst 1 o dX3_fillFrom_87 rfl ?_
            exact v_zret o dX3_fillFrom_88 hr (by decide) (Nat.le_of_ble_eq_true rfl) (Nat.le_of_ble_eq_true rfl) ⟨⟨_, hR9, Or.inl ⟨L, hS.trans (fsm_t ((if_pos ok1).trans hL)), rfl, hmL⟩⟩, rfl⟩
          · refine v_st [.int (bI false)] rfl ?_
            refine v_if_eq_b 89 o dX3_fillFrom_84 (by decide) (fun c84 => ?_) (fun c84 => absurd c84 (by simp_all))
            refine v_iinc (nI (d + 1)) [(4, .int (nI (d + 1))), (5, .int (nI 1)), (0, .int (nI pre.length)), (1, .int (us pre)), (2, .ref (B i + 1)), (3, .ref (x + 8))] o dX3_fillFrom_89 5 rfl (iinc_n d 1) (by decide) rfl ?_
            refine v_goto 19 o dX3_fillFrom_92 (by decide) ?_
            refine v_sub [(0, .int (nI pre.length)), (1, .int (us pre)), (2, .ref (B i + 1)), (3, .ref (x + 8)), (4, .int (nI (d + 1)))] [2, 3, 4, 5, 0] rfl ?_
            exact ih (d + 1) _ _ (by omega) hR9 hm9.2 (hS.trans (fsm_f ((if_pos ok1).trans hN)))
        · refine v_aload_n 3 o dX3_fillFrom_51 rfl rfl ?_
          refine v_aload_n 4 o dX3_fillFrom_52 rfl rfl ?_
          refine v_iload_n 1 o dX3_fillFrom_53 rfl rfl ?_
          refine v_iconst 1 o dX3_fillFrom_54 rfl ?_
          refine v_isub (nI (pre.length - 1)) o dX3_fillFrom_55 (pk_sub (by omega)) ?_
          refine v_iald (nI (τq.1 0 (pre.length - 1))) o dX3_fillFrom_56 (by omega) (by decide) hRq.h8 rfl ?_
          refine v_top (nI (hd0 pre)) (by rw [mr_hd hmq c48]) ?_
          refine v_iload 5 o dX3_fillFrom_57 rfl ?_
          refine v_callSr (v := .int (bI (Rn σ i (hd0 pre) d))) [.ref (B i + 1), .int (nI (hd0 pre)), .int (nI d)] [] o dX3_fillFrom_59 cw_X3_19 st_X3_leadsTo (c_leads hl hRq i hi (hd0 pre) d (hd_lt hq c48) hd) rfl rfl (by decide) ⟨rfl, rfl⟩ (by decide) (Nat.le_of_ble_eq_true rfl) ?_
          refine v_if_eq_b 89 o dX3_fillFrom_62 (by decide) (fun c62 => ?_) (fun c62 => ?_)
          · refine v_iinc (nI (d + 1)) [(4, .int (nI (d + 1))), (5, .int (nI 1)), (0, .int (nI pre.length)), (1, .int (us pre)), (2, .ref (B i + 1)), (3, .ref (x + 8))] o dX3_fillFrom_89 5 rfl (iinc_n d 1) (by decide) rfl ?_
            refine v_goto 19 o dX3_fillFrom_92 (by decide) ?_
            have ok1 : okB (Rn σ i) pre d = false := (okB_hd c48 d).trans (by rw [c62]; rfl)
            refine v_sub [(0, .int (nI pre.length)), (1, .int (us pre)), (2, .ref (B i + 1)), (3, .ref (x + 8)), (4, .int (nI (d + 1)))] [2, 3, 4, 5, 0] rfl ?_
            exact ih (d + 1) _ _ (by omega) hRq hmq (hS.trans (fsm_f (if_neg (by rw [ok1]; decide))))
          · refine v_aload_n 4 o dX3_fillFrom_65 rfl rfl ?_
            refine v_iload_n 1 o dX3_fillFrom_66 rfl rfl ?_
            refine v_iload 5 o dX3_fillFrom_67 rfl ?_
            refine v_iast o dX3_fillFrom_69 (by omega) (by decide) hRq.h8 (fun μ2 e2 => ?_)
            have hR2 := hRq.u_row (k0 := pre.length) (v := d) e2
            refine v_iload_n 1 o dX3_fillFrom_70 rfl rfl ?_
            refine v_iconst 1 o dX3_fillFrom_71 rfl ?_
            refine v_iadd (nI (pre.length + 1)) o dX3_fillFrom_72 (nI_add pre.length 1) ?_
            refine v_iload_n 2 o dX3_fillFrom_73 rfl rfl ?_
            refine v_iconst 1 o dX3_fillFrom_74 rfl ?_
            refine v_iload 5 o dX3_fillFrom_75 rfl ?_
            refine v_ishl ((nI 1) <<< ((nI d) &&& 31)) o dX3_fillFrom_77 rfl ?_
            refine v_ior ((us pre) ||| ((nI 1) <<< ((nI d) &&& 31))) o dX3_fillFrom_78 rfl ?_
            refine v_aload_n 3 o dX3_fillFrom_79 rfl rfl ?_
            refine v_aload_n 4 o dX3_fillFrom_80 rfl rfl ?_
            have n1 : notIn d pre = true := by simpa using c32
            have ok1 : okB (Rn σ i) pre d = true := (okB_hd c48 d).trans (by rw [c62, n1]; rfl)
            refine v_callS [.int (nI (pre.length + 1)), .int ((us pre) ||| ((nI 1) <<< ((nI d) &&& 31))), .ref (B i + 1), .ref (x + 8)] [] o dX3_fillFrom_81 cw_X3_15 st_X3_fillFrom (c_ff_6 hl hR2 i hi h7 (d :: pre) (by show pre.length + 1 + 6 = _; omega) (fun q h => (List.mem_cons.mp h).elim (fun e => by rw [e]; exact hd) (hq q)) ⟨u2_s, mr_set pre (Nat.le_refl _) hmq⟩) rfl rfl (by decide) (by decide) (Nat.le_of_ble_eq_true rfl) ?_ (fun _ _ _ _ h => h.elim)
            rintro _ μ9 _ _ ⟨⟨τ9, hR9, (⟨L, hL, rfl, hmL⟩ | ⟨hN, rfl, hm9⟩)⟩, rfl⟩
            · refine v_st [.int (bI true)] rfl ?_
              refine v_if_eq_b 89 o dX3_fillFrom_84 (by decide) (fun c84 => absurd c84 (by simp_all)) (fun c84 => ?_)
              refine v_iconst 1 o dX3_fillFrom_87 rfl ?_
              exact v_zret o dX3_fillFrom_88 hr (by decide) (Nat.le_of_ble_eq_true rfl) (Nat.le_of_ble_eq_true rfl) ⟨⟨_, hR9, Or.inl ⟨L, hS.trans (fsm_t ((if_pos ok1).trans hL)), rfl, hmL⟩⟩, rfl⟩
            · refine v_st [.int (bI false)] rfl ?_
              refine v_if_eq_b 89 o dX3_fillFrom_84 (by decide) (fun c84 => ?_) (fun c84 => absurd c84 (by simp_all))
              refine v_iinc (nI (d + 1)) [(4, .int (nI (d + 1))), (5, .int (nI 1)), (0, .int (nI pre.length)), (1, .int (us pre)), (2, .ref (B i + 1)), (3, .ref (x + 8))] o dX3_fillFrom_89 5 rfl (iinc_n d 1) (by decide) rfl ?_
              refine v_goto 19 o dX3_fillFrom_92 (by decide) ?_
              refine v_sub [(0, .int (nI pre.length)), (1, .int (us pre)), (2, .ref (B i + 1)), (3, .ref (x + 8)), (4, .int (nI (d + 1)))] [2, 3, 4, 5, 0] rfl ?_
              exact ih (d + 1) _ _ (by omega) hR9 hm9.2 (hS.trans (fsm_f ((if_pos ok1).trans hN)))
  refine v_iload_n 0 o dX3_fillFrom_0 rfl rfl ?_
  refine v_aload_n 2 o dX3_fillFrom_1 rfl rfl ?_
  refine v_alen (t0 := 3) o dX3_fillFrom_2 rfl (hR.ps hi) ?_
  refine v_top (nI (σ.1 0 i)) rfl ?_
  refine v_icmp_lt_n 8 o dX3_fillFrom_3 (by decide) (by omega) (by omega) (fun c3 => ?_) (fun c3 => absurd c3 (by omega))
  refine v_iload_n 0 o dX3_fillFrom_8 rfl rfl ?_
  refine v_aload_n 3 o dX3_fillFrom_9 rfl rfl ?_
  refine v_alen (t0 := 0) o dX3_fillFrom_10 rfl hR.h8 ?_
  refine v_top (nI 7) rfl ?_
  refine v_icmp_lt_n 16 o dX3_fillFrom_11 (by decide) (by omega) (by decide) (fun c11 => ?_) (fun c11 => absurd c11 (by omega))
  refine v_iconst 0 o dX3_fillFrom_16 rfl ?_
  refine v_istore [(4, .int (nI 0)), (0, .int (nI pre.length)), (1, .int (us pre)), (2, .ref (B i + 1)), (3, .ref (x + 8))] o dX3_fillFrom_17 (by decide) rfl ?_
  refine v_sub [(0, .int (nI pre.length)), (1, .int (us pre)), (2, .ref (B i + 1)), (3, .ref (x + 8)), (4, .int (nI 0))] [1, 2, 3, 4, 0] rfl ?_
  exact P (σ.1 0 i) 0 _ _ (by omega) hR hm rfl

set_option maxRecDepth 100000 in
set_option maxHeartbeats 4000000 in
theorem c_step {l : Launch} (hl : l.stackTraces = false) {g : mG} {x z z0 : Nat} {B : Nat → Nat} {μ0 μ : mM} {σ τ : Sg} (hR : RC g x B z0 μ0 σ τ μ) (i : Nat) (hi : i < σ.1 3 0) (h7 : σ.1 0 i ≤ 7) : Ct l g yX3_findStepByStep [Cond.code yX3_findStepByStep cX3_findStepByStep 2 (some .boolean)] { frames := 8, cells := 0, slots := 0, locals := 200 } [.ref (x + 7), .ref (B i + 1)] μ z (fun r μ' z' => (∃ τ', RC g x B z0 μ0 σ τ' μ' ∧ ((∃ L, ordL σ i = some L ∧ r = some (.int (bI true)) ∧ mr τ' L) ∨ (ordL σ i = none ∧ r = some (.int (bI false))))) ∧ z = z') (noX) := by
  refine Ct.of hl (by decide +kernel) (Nat.le_of_ble_eq_true rfl) ?_
  intro p e s mi args below meth c o hnm hr hx
  have o : Ok p l s mi args meth c g cX3_findStepByStep 2 RX3 := o
  refine v_lv [(0, .ref (x + 7)), (1, .ref (B i + 1))] rfl ?_
  obtain ⟨w, hw, hw7⟩ : ∃ w, σ.1 0 i = w ∧ w ≤ 7 := ⟨_, rfl, h7⟩
  refine v_iconst 0 o dX3_findStepByStep_0 rfl ?_
  refine v_iconst 0 o dX3_findStepByStep_1 rfl ?_
  refine v_aload_n 1 o dX3_findStepByStep_2 rfl rfl ?_
  refine v_aload_n 0 o dX3_findStepByStep_3 rfl rfl ?_
  refine v_get (v := .ref (x + 8)) o dX3_findStepByStep_4 cf3 0 (by decide) fl_X3_9 hR.h7 rfl ?_
  rcases (show w = 0 ∨ w = 1 ∨ w = 2 ∨ w = 3 ∨ w = 4 ∨ w = 5 ∨ w = 6 ∨ w = 7 by omega) with rfl | rfl | rfl | rfl | rfl | rfl | rfl | rfl
  · have hO : ordL σ i = dfs (Rn σ i) (σ.1 0 i) 0 [] := by unfold ordL; conv => lhs; arg 3; rw [hw]
    refine v_callS [.int (nI 0), .int (nI 0), .ref (B i + 1), .ref (x + 8)] [] o dX3_findStepByStep_7 cw_X3_15 st_X3_fillFrom (c_ff_0 hl hR i hi h7 [] (by show 0 + 0 = _; omega) (fun q h => absurd h List.not_mem_nil) trivial) rfl rfl (by decide) (by decide) (Nat.le_of_ble_eq_true rfl) ?_ (fun _ _ _ _ h => h.elim)
    rintro _ μ9 _ _ ⟨⟨τ9, hR9, (⟨L, hL, rfl, hmL⟩ | ⟨hN, rfl, hm9⟩)⟩, rfl⟩
    · refine v_st [.int (bI true)] rfl ?_
      exact v_zret o dX3_findStepByStep_10 hr (narrow_bI _) (Nat.le_of_ble_eq_true rfl) (Nat.le_of_ble_eq_true rfl) ⟨⟨_, hR9, Or.inl ⟨L, hO.trans hL, rfl, hmL⟩⟩, rfl⟩
    · refine v_st [.int (bI false)] rfl ?_
      exact v_zret o dX3_findStepByStep_10 hr (narrow_bI _) (Nat.le_of_ble_eq_true rfl) (Nat.le_of_ble_eq_true rfl) ⟨⟨_, hR9, Or.inr ⟨hO.trans hN, rfl⟩⟩, rfl⟩
  · have hO : ordL σ i = dfs (Rn σ i) (σ.1 0 i) 1 [] := by unfold ordL; conv => lhs; arg 3; rw [hw]
    refine v_callS [.int (nI 0), .int (nI 0), .ref (B i + 1), .ref (x + 8)] [] o dX3_findStepByStep_7 cw_X3_15 st_X3_fillFrom (c_ff_1 hl hR i hi h7 [] (by show 0 + 1 = _; omega) (fun q h => absurd h List.not_mem_nil) trivial) rfl rfl (by decide) (by decide) (Nat.le_of_ble_eq_true rfl) ?_ (fun _ _ _ _ h => h.elim)
    rintro _ μ9 _ _ ⟨⟨τ9, hR9, (⟨L, hL, rfl, hmL⟩ | ⟨hN, rfl, hm9⟩)⟩, rfl⟩
    · refine v_st [.int (bI true)] rfl ?_
      exact v_zret o dX3_findStepByStep_10 hr (narrow_bI _) (Nat.le_of_ble_eq_true rfl) (Nat.le_of_ble_eq_true rfl) ⟨⟨_, hR9, Or.inl ⟨L, hO.trans hL, rfl, hmL⟩⟩, rfl⟩
    · refine v_st [.int (bI false)] rfl ?_
      exact v_zret o dX3_findStepByStep_10 hr (narrow_bI _) (Nat.le_of_ble_eq_true rfl) (Nat.le_of_ble_eq_true rfl) ⟨⟨_, hR9, Or.inr ⟨hO.trans hN, rfl⟩⟩, rfl⟩
  · have hO : ordL σ i = dfs (Rn σ i) (σ.1 0 i) 2 [] := by unfold ordL; conv => lhs; arg 3; rw [hw]
    refine v_callS [.int (nI 0), .int (nI 0), .ref (B i + 1), .ref (x + 8)] [] o dX3_findStepByStep_7 cw_X3_15 st_X3_fillFrom (c_ff_2 hl hR i hi h7 [] (by show 0 + 2 = _; omega) (fun q h => absurd h List.not_mem_nil) trivial) rfl rfl (by decide) (by decide) (Nat.le_of_ble_eq_true rfl) ?_ (fun _ _ _ _ h => h.elim)
    rintro _ μ9 _ _ ⟨⟨τ9, hR9, (⟨L, hL, rfl, hmL⟩ | ⟨hN, rfl, hm9⟩)⟩, rfl⟩
    · refine v_st [.int (bI true)] rfl ?_
      exact v_zret o dX3_findStepByStep_10 hr (narrow_bI _) (Nat.le_of_ble_eq_true rfl) (Nat.le_of_ble_eq_true rfl) ⟨⟨_, hR9, Or.inl ⟨L, hO.trans hL, rfl, hmL⟩⟩, rfl⟩
    · refine v_st [.int (bI false)] rfl ?_
      exact v_zret o dX3_findStepByStep_10 hr (narrow_bI _) (Nat.le_of_ble_eq_true rfl) (Nat.le_of_ble_eq_true rfl) ⟨⟨_, hR9, Or.inr ⟨hO.trans hN, rfl⟩⟩, rfl⟩
  · have hO : ordL σ i = dfs (Rn σ i) (σ.1 0 i) 3 [] := by unfold ordL; conv => lhs; arg 3; rw [hw]
    refine v_callS [.int (nI 0), .int (nI 0), .ref (B i + 1), .ref (x + 8)] [] o dX3_findStepByStep_7 cw_X3_15 st_X3_fillFrom (c_ff_3 hl hR i hi h7 [] (by show 0 + 3 = _; omega) (fun q h => absurd h List.not_mem_nil) trivial) rfl rfl (by decide) (by decide) (Nat.le_of_ble_eq_true rfl) ?_ (fun _ _ _ _ h => h.elim)
    rintro _ μ9 _ _ ⟨⟨τ9, hR9, (⟨L, hL, rfl, hmL⟩ | ⟨hN, rfl, hm9⟩)⟩, rfl⟩
    · refine v_st [.int (bI true)] rfl ?_
      exact v_zret o dX3_findStepByStep_10 hr (narrow_bI _) (Nat.le_of_ble_eq_true rfl) (Nat.le_of_ble_eq_true rfl) ⟨⟨_, hR9, Or.inl ⟨L, hO.trans hL, rfl, hmL⟩⟩, rfl⟩
    · refine v_st [.int (bI false)] rfl ?_
      exact v_zret o dX3_findStepByStep_10 hr (narrow_bI _) (Nat.le_of_ble_eq_true rfl) (Nat.le_of_ble_eq_true rfl) ⟨⟨_, hR9, Or.inr ⟨hO.trans hN, rfl⟩⟩, rfl⟩
  · have hO : ordL σ i = dfs (Rn σ i) (σ.1 0 i) 4 [] := by unfold ordL; conv => lhs; arg 3; rw [hw]
    refine v_callS [.int (nI 0), .int (nI 0), .ref (B i + 1), .ref (x + 8)] [] o dX3_findStepByStep_7 cw_X3_15 st_X3_fillFrom (c_ff_4 hl hR i hi h7 [] (by show 0 + 4 = _; omega) (fun q h => absurd h List.not_mem_nil) trivial) rfl rfl (by decide) (by decide) (Nat.le_of_ble_eq_true rfl) ?_ (fun _ _ _ _ h => h.elim)
    rintro _ μ9 _ _ ⟨⟨τ9, hR9, (⟨L, hL, rfl, hmL⟩ | ⟨hN, rfl, hm9⟩)⟩, rfl⟩
    · refine v_st [.int (bI true)] rfl ?_
      exact v_zret o dX3_findStepByStep_10 hr (narrow_bI _) (Nat.le_of_ble_eq_true rfl) (Nat.le_of_ble_eq_true rfl) ⟨⟨_, hR9, Or.inl ⟨L, hO.trans hL, rfl, hmL⟩⟩, rfl⟩
    · refine v_st [.int (bI false)] rfl ?_
      exact v_zret o dX3_findStepByStep_10 hr (narrow_bI _) (Nat.le_of_ble_eq_true rfl) (Nat.le_of_ble_eq_true rfl) ⟨⟨_, hR9, Or.inr ⟨hO.trans hN, rfl⟩⟩, rfl⟩
  · have hO : ordL σ i = dfs (Rn σ i) (σ.1 0 i) 5 [] := by unfold ordL; conv => lhs; arg 3; rw [hw]
    refine v_callS [.int (nI 0), .int (nI 0), .ref (B i + 1), .ref (x + 8)] [] o dX3_findStepByStep_7 cw_X3_15 st_X3_fillFrom (c_ff_5 hl hR i hi h7 [] (by show 0 + 5 = _; omega) (fun q h => absurd h List.not_mem_nil) trivial) rfl rfl (by decide) (by decide) (Nat.le_of_ble_eq_true rfl) ?_ (fun _ _ _ _ h => h.elim)
    rintro _ μ9 _ _ ⟨⟨τ9, hR9, (⟨L, hL, rfl, hmL⟩ | ⟨hN, rfl, hm9⟩)⟩, rfl⟩
    · refine v_st [.int (bI true)] rfl ?_
      exact v_zret o dX3_findStepByStep_10 hr (narrow_bI _) (Nat.le_of_ble_eq_true rfl) (Nat.le_of_ble_eq_true rfl) ⟨⟨_, hR9, Or.inl ⟨L, hO.trans hL, rfl, hmL⟩⟩, rfl⟩
    · refine v_st [.int (bI false)] rfl ?_
      exact v_zret o dX3_findStepByStep_10 hr (narrow_bI _) (Nat.le_of_ble_eq_true rfl) (Nat.le_of_ble_eq_true rfl) ⟨⟨_, hR9, Or.inr ⟨hO.trans hN, rfl⟩⟩, rfl⟩
  · have hO : ordL σ i = dfs (Rn σ i) (σ.1 0 i) 6 [] := by unfold ordL; conv => lhs; arg 3; rw [hw]
    refine v_callS [.int (nI 0), .int (nI 0), .ref (B i + 1), .ref (x + 8)] [] o dX3_findStepByStep_7 cw_X3_15 st_X3_fillFrom (c_ff_6 hl hR i hi h7 [] (by show 0 + 6 = _; omega) (fun q h => absurd h List.not_mem_nil) trivial) rfl rfl (by decide) (by decide) (Nat.le_of_ble_eq_true rfl) ?_ (fun _ _ _ _ h => h.elim)
    rintro _ μ9 _ _ ⟨⟨τ9, hR9, (⟨L, hL, rfl, hmL⟩ | ⟨hN, rfl, hm9⟩)⟩, rfl⟩
    · refine v_st [.int (bI true)] rfl ?_
      exact v_zret o dX3_findStepByStep_10 hr (narrow_bI _) (Nat.le_of_ble_eq_true rfl) (Nat.le_of_ble_eq_true rfl) ⟨⟨_, hR9, Or.inl ⟨L, hO.trans hL, rfl, hmL⟩⟩, rfl⟩
    · refine v_st [.int (bI false)] rfl ?_
      exact v_zret o dX3_findStepByStep_10 hr (narrow_bI _) (Nat.le_of_ble_eq_true rfl) (Nat.le_of_ble_eq_true rfl) ⟨⟨_, hR9, Or.inr ⟨hO.trans hN, rfl⟩⟩, rfl⟩
  · have hO : ordL σ i = dfs (Rn σ i) (σ.1 0 i) 7 [] := by unfold ordL; conv => lhs; arg 3; rw [hw]
    refine v_callS [.int (nI 0), .int (nI 0), .ref (B i + 1), .ref (x + 8)] [] o dX3_findStepByStep_7 cw_X3_15 st_X3_fillFrom (c_ff_7 hl hR i hi h7 [] (by show 0 + 7 = _; omega) (fun q h => absurd h List.not_mem_nil) trivial) rfl rfl (by decide) (by decide) (Nat.le_of_ble_eq_true rfl) ?_ (fun _ _ _ _ h => h.elim)
    rintro _ μ9 _ _ ⟨⟨τ9, hR9, (⟨L, hL, rfl, hmL⟩ | ⟨hN, rfl, hm9⟩)⟩, rfl⟩
    · refine v_st [.int (bI true)] rfl ?_
      exact v_zret o dX3_findStepByStep_10 hr (narrow_bI _) (Nat.le_of_ble_eq_true rfl) (Nat.le_of_ble_eq_true rfl) ⟨⟨_, hR9, Or.inl ⟨L, hO.trans hL, rfl, hmL⟩⟩, rfl⟩
    · refine v_st [.int (bI false)] rfl ?_
      exact v_zret o dX3_findStepByStep_10 hr (narrow_bI _) (Nat.le_of_ble_eq_true rfl) (Nat.le_of_ble_eq_true rfl) ⟨⟨_, hR9, Or.inr ⟨hO.trans hN, rfl⟩⟩, rfl⟩

