/-- the class throws E and has changed nothing -/
def thX (E : String) (μ : mM) (z : Nat) : String → mM → Nat → Prop := fun e μ' z' => e = E ∧ μ' = μ ∧ z ≤ z'
def noP : Option Value → mM → Nat → Prop := fun _ _ _ => False
def wrC (g : mG) (x : Nat) (B : Nat → Nat) (z0 : Nat) (μ0 : mM) (v : Option Value) (σ τ : Sg) (z : Nat) : Option Value → mM → Nat → Prop := fun r μ' z' => r = v ∧ RC g x B z0 μ0 σ τ μ' ∧ z = z'
theorem RC.nb {g : mG} {x : Nat} {B : Nat → Nat} {z0 : Nat} {μ0 μ : mM} {σ τ : Sg} (h : RC g x B z0 μ0 σ τ μ) : σ.1 3 0 ≤ 6 := h.2.2.1.2.1
theorem RC.np {g : mG} {x : Nat} {B : Nat → Nat} {z0 : Nat} {μ0 μ : mM} {σ τ : Sg} (h : RC g x B z0 μ0 σ τ μ) (i : Nat) : σ.1 0 i ≤ 12 := h.2.2.1.2.2.1 i
set_option maxRecDepth 100000 in
set_option maxHeartbeats 4000000 in
theorem c_needArg_t {l : Launch} (hl : l.stackTraces = false) {g : mG} {z : Nat} {μ : mM} (v a b : Int32) (h : inR v a b = true) : Ct l g yX5_needArgument [Cond.code yX5_needArgument cX5_needArgument 3 none] { frames := 0, cells := 0, slots := 0, locals := 0 } [.int v, .int a, .int b] μ z (rdP none μ z) (noX) := by
  refine Ct.of hl (by decide +kernel) (Nat.le_of_ble_eq_true rfl) ?_
  intro p e s mi args below meth c o hnm hr hx
  have o : Ok p l s mi args meth c g cX5_needArgument 3 RX5 := o
  refine v_lv [(0, .int v), (1, .int a), (2, .int b)] rfl ?_
  refine v_iload_n 0 o dX5_needArgument_0 rfl rfl ?_
  refine v_iload_n 1 o dX5_needArgument_1 rfl rfl ?_
  refine v_icmp_lt 10 o dX5_needArgument_2 (by decide) (fun c2 => absurd c2 (fun q => by rw [inR_lo q] at h; cases h)) (fun c2 => ?_)
  refine v_iload_n 0 o dX5_needArgument_5 rfl rfl ?_
  refine v_iload_n 2 o dX5_needArgument_6 rfl rfl ?_
  refine v_icmp_le 20 o dX5_needArgument_7 (by decide) (fun c7 => ?_) (fun c7 => absurd c7 (not_not_intro (Int32.not_lt.mp (fun q => by rw [inR_hi q] at h; cases h))))
  exact v_vret o dX5_needArgument_20 hr (Nat.le_of_ble_eq_true rfl) (Nat.le_of_ble_eq_true rfl) ⟨rfl, rfl, rfl⟩

set_option maxRecDepth 100000 in
set_option maxHeartbeats 4000000 in
theorem c_needArg_f {l : Launch} (hl : l.stackTraces = false) {g : mG} {z : Nat} {μ : mM} (v a b : Int32) (h : inR v a b = false) : Ct l g yX5_needArgument [Cond.code yX5_needArgument cX5_needArgument 3 none] { frames := 6, cells := 1, slots := 6, locals := 82 } [.int v, .int a, .int b] μ z (noP) (thX "java/lang/IllegalArgumentException" μ z) := by
  refine Ct.of hl (by decide +kernel) (Nat.le_of_ble_eq_true rfl) ?_
  intro p e s mi args below meth c o hnm hr hx
  have o : Ok p l s mi args meth c g cX5_needArgument 3 RX5 := o
  refine v_lv [(0, .int v), (1, .int a), (2, .int b)] rfl ?_
  refine v_iload_n 0 o dX5_needArgument_0 rfl rfl ?_
  refine v_iload_n 1 o dX5_needArgument_1 rfl rfl ?_
  refine v_icmp_lt 10 o dX5_needArgument_2 (by decide) (fun c2 => ?_) (fun c2 => ?_)
  · exact v_throw (E := "java/lang/IllegalArgumentException") (text := "an argument is out of its range") o hx dX5_needArgument_10 dX5_needArgument_13 dX5_needArgument_14 dX5_needArgument_16 dX5_needArgument_19 (by decide +kernel) (by decide +kernel) tw_IAE (by decide) (Nat.le_of_ble_eq_true rfl) (by decide) (by decide) (by decide) (by decide) (fun z' hz => ⟨rfl, rfl, hz⟩)
  · refine v_iload_n 0 o dX5_needArgument_5 rfl rfl ?_
    refine v_iload_n 2 o dX5_needArgument_6 rfl rfl ?_
    refine v_icmp_le 20 o dX5_needArgument_7 (by decide) (fun c7 => ?_) (fun c7 => ?_)
    · exact absurd (inR_ok c2 (Int32.not_lt.mpr c7)) (by rw [h]; decide)
    · exact v_throw (E := "java/lang/IllegalArgumentException") (text := "an argument is out of its range") o hx dX5_needArgument_10 dX5_needArgument_13 dX5_needArgument_14 dX5_needArgument_16 dX5_needArgument_19 (by decide +kernel) (by decide +kernel) tw_IAE (by decide) (Nat.le_of_ble_eq_true rfl) (by decide) (by decide) (by decide) (by decide) (fun z' hz => ⟨rfl, rfl, hz⟩)

set_option maxRecDepth 100000 in
set_option maxHeartbeats 4000000 in
theorem c_needVault_t {l : Launch} (hl : l.stackTraces = false) {g : mG} {z : Nat} {μ : mM} (v : Nat) (h : v < 4) : Ct l g yX5_needVault [Cond.code yX5_needVault cX5_needVault 1 none] { frames := 0, cells := 0, slots := 0, locals := 0 } [.int (nI v)] μ z (rdP none μ z) (noX) := by
  refine Ct.of hl (by decide +kernel) (Nat.le_of_ble_eq_true rfl) ?_
  intro p e s mi args below meth c o hnm hr hx
  have o : Ok p l s mi args meth c g cX5_needVault 1 RX5 := o
  refine v_lv [(0, .int (nI v))] rfl ?_
  refine v_iload_n 0 o dX5_needVault_0 rfl rfl ?_
  refine v_if_lt_n 9 o dX5_needVault_1 (by decide) (by omega) (fun c1 => absurd c1 (by omega)) (fun c1 => ?_)
  refine v_iload_n 0 o dX5_needVault_4 rfl rfl ?_
  refine v_iconst 4 o dX5_needVault_5 rfl ?_
  refine v_icmp_lt_n 20 o dX5_needVault_6 (by decide) (by omega) (by decide) (fun c6 => ?_) (fun c6 => absurd c6 (by omega))
  exact v_vret o dX5_needVault_20 hr (Nat.le_of_ble_eq_true rfl) (Nat.le_of_ble_eq_true rfl) ⟨rfl, rfl, rfl⟩

set_option maxRecDepth 100000 in
set_option maxHeartbeats 4000000 in
theorem c_needVault_f {l : Launch} (hl : l.stackTraces = false) {g : mG} {z : Nat} {μ : mM} (v : Int32) (h : okI v 4 = false) : Ct l g yX5_needVault [Cond.code yX5_needVault cX5_needVault 1 none] { frames := 6, cells := 1, slots := 6, locals := 82 } [.int v] μ z (noP) (thX "java/lang/IndexOutOfBoundsException" μ z) := by
  refine Ct.of hl (by decide +kernel) (Nat.le_of_ble_eq_true rfl) ?_
  intro p e s mi args below meth c o hnm hr hx
  have o : Ok p l s mi args meth c g cX5_needVault 1 RX5 := o
  refine v_lv [(0, .int v)] rfl ?_
  refine v_iload_n 0 o dX5_needVault_0 rfl rfl ?_
  refine v_if_lt 9 o dX5_needVault_1 (by decide) (fun c1 => ?_) (fun c1 => ?_)
  · exact v_throwW (E := "java/lang/IndexOutOfBoundsException") (text := "there is no such vault") o hx dX5_needVault_9 dX5_needVault_12 dX5_needVault_13 dX5_needVault_16 dX5_needVault_19 (by decide +kernel) (by decide +kernel) tw_IOOBE (by decide) (Nat.le_of_ble_eq_true rfl) (by decide) (by decide) (by decide) (by decide) (fun z' hz => ⟨rfl, rfl, hz⟩)
  · refine v_iload_n 0 o dX5_needVault_4 rfl rfl ?_
    refine v_iconst 4 o dX5_needVault_5 rfl ?_
    refine v_icmp_lt 20 o dX5_needVault_6 (by decide) (fun c6 => ?_) (fun c6 => ?_)
    · exact ((okI_f h (by decide)).elim (fun q => c1 q) (fun q => (Int32.not_le.mpr c6) q)).elim
    · exact v_throwW (E := "java/lang/IndexOutOfBoundsException") (text := "there is no such vault") o hx dX5_needVault_9 dX5_needVault_12 dX5_needVault_13 dX5_needVault_16 dX5_needVault_19 (by decide +kernel) (by decide +kernel) tw_IOOBE (by decide) (Nat.le_of_ble_eq_true rfl) (by decide) (by decide) (by decide) (by decide) (fun z' hz => ⟨rfl, rfl, hz⟩)

set_option maxRecDepth 100000 in
set_option maxHeartbeats 4000000 in
theorem c_needPlace_t {l : Launch} (hl : l.stackTraces = false) {g : mG} {z : Nat} {μ : mM} (v : Nat) (h : v < 4) : Ct l g yX5_needPlace [Cond.code yX5_needPlace cX5_needPlace 1 none] { frames := 0, cells := 0, slots := 0, locals := 0 } [.int (nI v)] μ z (rdP none μ z) (noX) := by
  refine Ct.of hl (by decide +kernel) (Nat.le_of_ble_eq_true rfl) ?_
  intro p e s mi args below meth c o hnm hr hx
  have o : Ok p l s mi args meth c g cX5_needPlace 1 RX5 := o
  refine v_lv [(0, .int (nI v))] rfl ?_
  refine v_iload_n 0 o dX5_needPlace_0 rfl rfl ?_
  refine v_if_lt_n 9 o dX5_needPlace_1 (by decide) (by omega) (fun c1 => absurd c1 (by omega)) (fun c1 => ?_)
  refine v_iload_n 0 o dX5_needPlace_4 rfl rfl ?_
  refine v_iconst 4 o dX5_needPlace_5 rfl ?_
  refine v_icmp_lt_n 20 o dX5_needPlace_6 (by decide) (by omega) (by decide) (fun c6 => ?_) (fun c6 => absurd c6 (by omega))
  exact v_vret o dX5_needPlace_20 hr (Nat.le_of_ble_eq_true rfl) (Nat.le_of_ble_eq_true rfl) ⟨rfl, rfl, rfl⟩

set_option maxRecDepth 100000 in
set_option maxHeartbeats 4000000 in
theorem c_needPlace_f {l : Launch} (hl : l.stackTraces = false) {g : mG} {z : Nat} {μ : mM} (v : Int32) (h : okI v 4 = false) : Ct l g yX5_needPlace [Cond.code yX5_needPlace cX5_needPlace 1 none] { frames := 6, cells := 1, slots := 6, locals := 82 } [.int v] μ z (noP) (thX "java/lang/IndexOutOfBoundsException" μ z) := by
  refine Ct.of hl (by decide +kernel) (Nat.le_of_ble_eq_true rfl) ?_
  intro p e s mi args below meth c o hnm hr hx
  have o : Ok p l s mi args meth c g cX5_needPlace 1 RX5 := o
  refine v_lv [(0, .int v)] rfl ?_
  refine v_iload_n 0 o dX5_needPlace_0 rfl rfl ?_
  refine v_if_lt 9 o dX5_needPlace_1 (by decide) (fun c1 => ?_) (fun c1 => ?_)
  · exact v_throwW (E := "java/lang/IndexOutOfBoundsException") (text := "there is no such place") o hx dX5_needPlace_9 dX5_needPlace_12 dX5_needPlace_13 dX5_needPlace_16 dX5_needPlace_19 (by decide +kernel) (by decide +kernel) tw_IOOBE (by decide) (Nat.le_of_ble_eq_true rfl) (by decide) (by decide) (by decide) (by decide) (fun z' hz => ⟨rfl, rfl, hz⟩)
  · refine v_iload_n 0 o dX5_needPlace_4 rfl rfl ?_
    refine v_iconst 4 o dX5_needPlace_5 rfl ?_
    refine v_icmp_lt 20 o dX5_needPlace_6 (by decide) (fun c6 => ?_) (fun c6 => ?_)
    · exact ((okI_f h (by decide)).elim (fun q => c1 q) (fun q => (Int32.not_le.mpr c6) q)).elim
    · exact v_throwW (E := "java/lang/IndexOutOfBoundsException") (text := "there is no such place") o hx dX5_needPlace_9 dX5_needPlace_12 dX5_needPlace_13 dX5_needPlace_16 dX5_needPlace_19 (by decide +kernel) (by decide +kernel) tw_IOOBE (by decide) (Nat.le_of_ble_eq_true rfl) (by decide) (by decide) (by decide) (by decide) (fun z' hz => ⟨rfl, rfl, hz⟩)

set_option maxRecDepth 100000 in
set_option maxHeartbeats 4000000 in
theorem c_needKeyer_t {l : Launch} (hl : l.stackTraces = false) {g : mG} {z : Nat} {μ : mM} (v : Nat) (h : v < 5) : Ct l g yX5_needKeyer [Cond.code yX5_needKeyer cX5_needKeyer 1 none] { frames := 0, cells := 0, slots := 0, locals := 0 } [.int (nI v)] μ z (rdP none μ z) (noX) := by
  refine Ct.of hl (by decide +kernel) (Nat.le_of_ble_eq_true rfl) ?_
  intro p e s mi args below meth c o hnm hr hx
  have o : Ok p l s mi args meth c g cX5_needKeyer 1 RX5 := o
  refine v_lv [(0, .int (nI v))] rfl ?_
  refine v_iload_n 0 o dX5_needKeyer_0 rfl rfl ?_
  refine v_if_lt_n 9 o dX5_needKeyer_1 (by decide) (by omega) (fun c1 => absurd c1 (by omega)) (fun c1 => ?_)
  refine v_iload_n 0 o dX5_needKeyer_4 rfl rfl ?_
  refine v_iconst 5 o dX5_needKeyer_5 rfl ?_
  refine v_icmp_lt_n 20 o dX5_needKeyer_6 (by decide) (by omega) (by decide) (fun c6 => ?_) (fun c6 => absurd c6 (by omega))
  exact v_vret o dX5_needKeyer_20 hr (Nat.le_of_ble_eq_true rfl) (Nat.le_of_ble_eq_true rfl) ⟨rfl, rfl, rfl⟩

set_option maxRecDepth 100000 in
set_option maxHeartbeats 4000000 in
theorem c_needKeyer_f {l : Launch} (hl : l.stackTraces = false) {g : mG} {z : Nat} {μ : mM} (v : Int32) (h : okI v 5 = false) : Ct l g yX5_needKeyer [Cond.code yX5_needKeyer cX5_needKeyer 1 none] { frames := 6, cells := 1, slots := 6, locals := 82 } [.int v] μ z (noP) (thX "java/lang/IndexOutOfBoundsException" μ z) := by
  refine Ct.of hl (by decide +kernel) (Nat.le_of_ble_eq_true rfl) ?_
  intro p e s mi args below meth c o hnm hr hx
  have o : Ok p l s mi args meth c g cX5_needKeyer 1 RX5 := o
  refine v_lv [(0, .int v)] rfl ?_
  refine v_iload_n 0 o dX5_needKeyer_0 rfl rfl ?_
  refine v_if_lt 9 o dX5_needKeyer_1 (by decide) (fun c1 => ?_) (fun c1 => ?_)
  · exact v_throwW (E := "java/lang/IndexOutOfBoundsException") (text := "there is no such keyer") o hx dX5_needKeyer_9 dX5_needKeyer_12 dX5_needKeyer_13 dX5_needKeyer_16 dX5_needKeyer_19 (by decide +kernel) (by decide +kernel) tw_IOOBE (by decide) (Nat.le_of_ble_eq_true rfl) (by decide) (by decide) (by decide) (by decide) (fun z' hz => ⟨rfl, rfl, hz⟩)
  · refine v_iload_n 0 o dX5_needKeyer_4 rfl rfl ?_
    refine v_iconst 5 o dX5_needKeyer_5 rfl ?_
    refine v_icmp_lt 20 o dX5_needKeyer_6 (by decide) (fun c6 => ?_) (fun c6 => ?_)
    · exact ((okI_f h (by decide)).elim (fun q => c1 q) (fun q => (Int32.not_le.mpr c6) q)).elim
    · exact v_throwW (E := "java/lang/IndexOutOfBoundsException") (text := "there is no such keyer") o hx dX5_needKeyer_9 dX5_needKeyer_12 dX5_needKeyer_13 dX5_needKeyer_16 dX5_needKeyer_19 (by decide +kernel) (by decide +kernel) tw_IOOBE (by decide) (Nat.le_of_ble_eq_true rfl) (by decide) (by decide) (by decide) (by decide) (fun z' hz => ⟨rfl, rfl, hz⟩)

set_option maxRecDepth 100000 in
set_option maxHeartbeats 4000000 in
theorem c_needLand_t {l : Launch} (hl : l.stackTraces = false) {g : mG} {z : Nat} {μ : mM} (v : Nat) (h : v < 4) : Ct l g yX5_needLand [Cond.code yX5_needLand cX5_needLand 1 none] { frames := 0, cells := 0, slots := 0, locals := 0 } [.int (nI v)] μ z (rdP none μ z) (noX) := by
  refine Ct.of hl (by decide +kernel) (Nat.le_of_ble_eq_true rfl) ?_
  intro p e s mi args below meth c o hnm hr hx
  have o : Ok p l s mi args meth c g cX5_needLand 1 RX5 := o
  refine v_lv [(0, .int (nI v))] rfl ?_
  refine v_iload_n 0 o dX5_needLand_0 rfl rfl ?_
  refine v_if_lt_n 9 o dX5_needLand_1 (by decide) (by omega) (fun c1 => absurd c1 (by omega)) (fun c1 => ?_)
  refine v_iload_n 0 o dX5_needLand_4 rfl rfl ?_
  refine v_iconst 4 o dX5_needLand_5 rfl ?_
  refine v_icmp_lt_n 20 o dX5_needLand_6 (by decide) (by omega) (by decide) (fun c6 => ?_) (fun c6 => absurd c6 (by omega))
  exact v_vret o dX5_needLand_20 hr (Nat.le_of_ble_eq_true rfl) (Nat.le_of_ble_eq_true rfl) ⟨rfl, rfl, rfl⟩

set_option maxRecDepth 100000 in
set_option maxHeartbeats 4000000 in
theorem c_needLand_f {l : Launch} (hl : l.stackTraces = false) {g : mG} {z : Nat} {μ : mM} (v : Int32) (h : okI v 4 = false) : Ct l g yX5_needLand [Cond.code yX5_needLand cX5_needLand 1 none] { frames := 6, cells := 1, slots := 6, locals := 82 } [.int v] μ z (noP) (thX "java/lang/IndexOutOfBoundsException" μ z) := by
  refine Ct.of hl (by decide +kernel) (Nat.le_of_ble_eq_true rfl) ?_
  intro p e s mi args below meth c o hnm hr hx
  have o : Ok p l s mi args meth c g cX5_needLand 1 RX5 := o
  refine v_lv [(0, .int v)] rfl ?_
  refine v_iload_n 0 o dX5_needLand_0 rfl rfl ?_
  refine v_if_lt 9 o dX5_needLand_1 (by decide) (fun c1 => ?_) (fun c1 => ?_)
  · exact v_throwW (E := "java/lang/IndexOutOfBoundsException") (text := "there is no such land") o hx dX5_needLand_9 dX5_needLand_12 dX5_needLand_13 dX5_needLand_16 dX5_needLand_19 (by decide +kernel) (by decide +kernel) tw_IOOBE (by decide) (Nat.le_of_ble_eq_true rfl) (by decide) (by decide) (by decide) (by decide) (fun z' hz => ⟨rfl, rfl, hz⟩)
  · refine v_iload_n 0 o dX5_needLand_4 rfl rfl ?_
    refine v_iconst 4 o dX5_needLand_5 rfl ?_
    refine v_icmp_lt 20 o dX5_needLand_6 (by decide) (fun c6 => ?_) (fun c6 => ?_)
    · exact ((okI_f h (by decide)).elim (fun q => c1 q) (fun q => (Int32.not_le.mpr c6) q)).elim
    · exact v_throwW (E := "java/lang/IndexOutOfBoundsException") (text := "there is no such land") o hx dX5_needLand_9 dX5_needLand_12 dX5_needLand_13 dX5_needLand_16 dX5_needLand_19 (by decide +kernel) (by decide +kernel) tw_IOOBE (by decide) (Nat.le_of_ble_eq_true rfl) (by decide) (by decide) (by decide) (by decide) (fun z' hz => ⟨rfl, rfl, hz⟩)

set_option maxRecDepth 100000 in
set_option maxHeartbeats 4000000 in
theorem c_bookAt_t {l : Launch} (hl : l.stackTraces = false) {g : mG} {x z z0 : Nat} {B : Nat → Nat} {μ0 μ : mM} {σ τ : Sg} (hR : RC g x B z0 μ0 σ τ μ) (i : Nat) (hi : i < σ.1 3 0) : Ct l g yX5_bookAt [Cond.code yX5_bookAt cX5_bookAt 3 (some (.object "ScanningHouse$Book"))] { frames := 0, cells := 0, slots := 0, locals := 0 } [.ref x, .int (nI i)] μ z (rdP (some (.ref (B i))) μ z) (noX) := by
  refine Ct.of hl (by decide +kernel) (Nat.le_of_ble_eq_true rfl) ?_
  intro p e s mi args below meth c o hnm hr hx
  have o : Ok p l s mi args meth c g cX5_bookAt 3 RX5 := o
  refine v_lv [(0, .ref x), (1, .int (nI i))] rfl ?_
  have h6 := hR.nb
  refine v_iload_n 1 o dX5_bookAt_0 rfl rfl ?_
  refine v_if_lt_n 10 o dX5_bookAt_1 (by decide) (by omega) (fun c1 => absurd c1 (by omega)) (fun c1 => ?_)
  refine v_iload_n 1 o dX5_bookAt_4 rfl rfl ?_
  refine v_bipush 6 o dX5_bookAt_5 (by decide) ?_
  refine v_icmp_lt_n 14 o dX5_bookAt_7 (by decide) (by omega) (by decide) (fun c7 => ?_) (fun c7 => absurd c7 (by omega))
  refine v_aload_n 0 o dX5_bookAt_14 rfl rfl ?_
  refine v_get (v := .ref (x + 1)) o dX5_bookAt_15 cf5 0 (by decide) fl_X5_11 hR.h0 rfl ?_
  refine v_iload_n 1 o dX5_bookAt_18 rfl rfl ?_
  refine v_aald (t0 := 4) (.ref (B i)) o dX5_bookAt_19 rfl (by omega) (by decide) hR.h1 (by simp only [if_pos (show i < σ.1 3 0 from hi)]; rfl) ?_
  refine v_astore_n [(2, .ref (B i)), (0, .ref x), (1, .int (nI i))] o dX5_bookAt_20 rfl (by decide) rfl ?_
  refine v_aload_n 0 o dX5_bookAt_21 rfl rfl ?_
  refine v_ifnonnull 36 o dX5_bookAt_22 (by decide) ?_
  refine v_aload_n 0 o dX5_bookAt_36 rfl rfl ?_
  exact v_aret o dX5_bookAt_37 hr (Nat.le_of_ble_eq_true rfl) (Nat.le_of_ble_eq_true rfl) ⟨rfl, rfl, rfl⟩

set_option maxRecDepth 100000 in
set_option maxHeartbeats 4000000 in
theorem c_bookAt_f {l : Launch} (hl : l.stackTraces = false) {g : mG} {x z z0 : Nat} {B : Nat → Nat} {μ0 μ : mM} {σ τ : Sg} (hR : RC g x B z0 μ0 σ τ μ) (b : Int32) (h : isB σ b = false) : Ct l g yX5_bookAt [Cond.code yX5_bookAt cX5_bookAt 3 (some (.object "ScanningHouse$Book"))] { frames := 6, cells := 1, slots := 6, locals := 82 } [.ref x, .int b] μ z (noP) (thX "java/lang/IndexOutOfBoundsException" μ z) := by
  have h6 := hR.nb
  cases hb : okI b 6 with
  | false =>
    refine Ct.of hl (by decide +kernel) (Nat.le_of_ble_eq_true rfl) ?_
    intro p e s mi args below meth c o hnm hr hx
    have o : Ok p l s mi args meth c g cX5_bookAt 3 RX5 := o
    refine v_lv [(0, .ref x), (1, .int b)] rfl ?_
    refine v_iload_n 1 o dX5_bookAt_0 rfl rfl ?_
    refine v_if_lt 10 o dX5_bookAt_1 (by decide) (fun c1 => ?_) (fun c1 => ?_)
    · refine v_null o dX5_bookAt_10 ?_
      refine v_goto 20 o dX5_bookAt_11 (by decide) ?_
      refine v_anstore_n [(2, .null), (0, .ref x), (1, .int b)] o dX5_bookAt_20 rfl (by decide) rfl ?_
      refine v_anload_n 0 o dX5_bookAt_21 rfl rfl ?_
      refine v_ifnonnullN o dX5_bookAt_22 ?_
      exact v_throwW (E := "java/lang/IndexOutOfBoundsException") (text := "there is no such book") o hx dX5_bookAt_25 dX5_bookAt_28 dX5_bookAt_29 dX5_bookAt_32 dX5_bookAt_35 (by decide +kernel) (by decide +kernel) tw_IOOBE (by decide) (Nat.le_of_ble_eq_true rfl) (by decide) (by decide) (by decide) (by decide) (fun z' hz => ⟨rfl, rfl, hz⟩)
    · refine v_iload_n 1 o dX5_bookAt_4 rfl rfl ?_
      refine v_bipush 6 o dX5_bookAt_5 (by decide) ?_
      refine v_icmp_lt 14 o dX5_bookAt_7 (by decide) (fun c7 => absurd c7 (by first | omega | exact Int32.not_lt.mpr ((okI_f hb (by decide)).resolve_left c1))) (fun c7 => ?_)
      refine v_null o dX5_bookAt_10 ?_
      refine v_goto 20 o dX5_bookAt_11 (by decide) ?_
      refine v_anstore_n [(2, .null), (0, .ref x), (1, .int b)] o dX5_bookAt_20 rfl (by decide) rfl ?_
      refine v_anload_n 0 o dX5_bookAt_21 rfl rfl ?_
      refine v_ifnonnullN o dX5_bookAt_22 ?_
      exact v_throwW (E := "java/lang/IndexOutOfBoundsException") (text := "there is no such book") o hx dX5_bookAt_25 dX5_bookAt_28 dX5_bookAt_29 dX5_bookAt_32 dX5_bookAt_35 (by decide +kernel) (by decide +kernel) tw_IOOBE (by decide) (Nat.le_of_ble_eq_true rfl) (by decide) (by decide) (by decide) (by decide) (fun z' hz => ⟨rfl, rfl, hz⟩)
  | true =>
    obtain ⟨k, hk, rfl⟩ := okI_t hb (by decide)
    have hnk : ¬ k < σ.1 3 0 := fun q => by
      rw [show isB σ (nI k) = true from okI_nI q (by omega)] at h
      cases h
    refine Ct.of hl (by decide +kernel) (Nat.le_of_ble_eq_true rfl) ?_
    intro p e s mi args below meth c o hnm hr hx
    have o : Ok p l s mi args meth c g cX5_bookAt 3 RX5 := o
    refine v_lv [(0, .ref x), (1, .int (nI k))] rfl ?_
    refine v_iload_n 1 o dX5_bookAt_0 rfl rfl ?_
    refine v_if_lt_n 10 o dX5_bookAt_1 (by decide) (by omega) (fun c1 => absurd c1 (by omega)) (fun c1 => ?_)
    refine v_iload_n 1 o dX5_bookAt_4 rfl rfl ?_
    refine v_bipush 6 o dX5_bookAt_5 (by decide) ?_
    refine v_icmp_lt_n 14 o dX5_bookAt_7 (by decide) (by omega) (by decide) (fun c7 => ?_) (fun c7 => absurd c7 (by omega))
    refine v_aload_n 0 o dX5_bookAt_14 rfl rfl ?_
    refine v_get (v := .ref (x + 1)) o dX5_bookAt_15 cf5 0 (by decide) fl_X5_11 hR.h0 rfl ?_
    refine v_iload_n 1 o dX5_bookAt_18 rfl rfl ?_
    refine v_aald (t0 := 4) .null o dX5_bookAt_19 rfl hk (by decide) hR.h1 (by simp only [if_neg (show ¬ k < σ.1 3 0 from hnk)]; rfl) ?_
    refine v_anstore_n [(2, .null), (0, .ref x), (1, .int (nI k))] o dX5_bookAt_20 rfl (by decide) rfl ?_
    refine v_anload_n 0 o dX5_bookAt_21 rfl rfl ?_
    refine v_ifnonnullN o dX5_bookAt_22 ?_
    exact v_throwW (E := "java/lang/IndexOutOfBoundsException") (text := "there is no such book") o hx dX5_bookAt_25 dX5_bookAt_28 dX5_bookAt_29 dX5_bookAt_32 dX5_bookAt_35 (by decide +kernel) (by decide +kernel) tw_IOOBE (by decide) (Nat.le_of_ble_eq_true rfl) (by decide) (by decide) (by decide) (by decide) (fun z' hz => ⟨rfl, rfl, hz⟩)

set_option maxRecDepth 100000 in
set_option maxHeartbeats 4000000 in
theorem c_pageAt_t {l : Launch} (hl : l.stackTraces = false) {g : mG} {x z z0 : Nat} {B : Nat → Nat} {μ0 μ : mM} {σ τ : Sg} (hR : RC g x B z0 μ0 σ τ μ) (i j : Nat) (hi : i < σ.1 3 0) (hj : j < σ.1 0 i) : Ct l g yX5_pageAt [Cond.code yX5_pageAt cX5_pageAt 2 (some (.object "ScanningHouse$Page"))] { frames := 0, cells := 0, slots := 0, locals := 0 } [.ref (B i), .int (nI j)] μ z (rdP (some (.ref (pA B i j))) μ z) (noX) := by
  refine Ct.of hl (by decide +kernel) (Nat.le_of_ble_eq_true rfl) ?_
  intro p e s mi args below meth c o hnm hr hx
  have o : Ok p l s mi args meth c g cX5_pageAt 2 RX5 := o
  refine v_lv [(0, .ref (B i)), (1, .int (nI j))] rfl ?_
  have h12 := hR.np i
  refine v_iload_n 1 o dX5_pageAt_0 rfl rfl ?_
  refine v_if_lt_n 13 o dX5_pageAt_1 (by decide) (by omega) (fun c1 => absurd c1 (by omega)) (fun c1 => ?_)
  refine v_iload_n 1 o dX5_pageAt_4 rfl rfl ?_
  refine v_aload_n 0 o dX5_pageAt_5 rfl rfl ?_
  refine v_get (v := .ref (B i + 1)) o dX5_pageAt_6 cf0 0 (by decide) fl_X5_152 (hR.bk hi) rfl ?_
  refine v_alen (t0 := 3) o dX5_pageAt_9 rfl (hR.ps hi) ?_
  refine v_top (nI (σ.1 0 i)) rfl ?_
  refine v_icmp_lt_n 24 o dX5_pageAt_10 (by decide) (by omega) (by omega) (fun c10 => ?_) (fun c10 => absurd c10 (by omega))
  refine v_aload_n 0 o dX5_pageAt_24 rfl rfl ?_
  refine v_get (v := .ref (B i + 1)) o dX5_pageAt_25 cf0 0 (by decide) fl_X5_152 (hR.bk hi) rfl ?_
  refine v_iload_n 1 o dX5_pageAt_28 rfl rfl ?_
  refine v_aald (t0 := 3) (.ref (pA B i j)) o dX5_pageAt_29 rfl hj (by omega) (hR.ps hi) (by simp only [if_pos (show j < σ.1 0 i from hj)]; rfl) ?_
  exact v_aret o dX5_pageAt_30 hr (Nat.le_of_ble_eq_true rfl) (Nat.le_of_ble_eq_true rfl) ⟨rfl, rfl, rfl⟩

set_option maxRecDepth 100000 in
set_option maxHeartbeats 4000000 in
theorem c_pageAt_f {l : Launch} (hl : l.stackTraces = false) {g : mG} {x z z0 : Nat} {B : Nat → Nat} {μ0 μ : mM} {σ τ : Sg} (hR : RC g x B z0 μ0 σ τ μ) (i : Nat) (q : Int32) (hi : i < σ.1 3 0) (h : okI q (σ.1 0 i) = false) : Ct l g yX5_pageAt [Cond.code yX5_pageAt cX5_pageAt 2 (some (.object "ScanningHouse$Page"))] { frames := 6, cells := 1, slots := 6, locals := 82 } [.ref (B i), .int q] μ z (noP) (thX "java/lang/IndexOutOfBoundsException" μ z) := by
  refine Ct.of hl (by decide +kernel) (Nat.le_of_ble_eq_true rfl) ?_
  intro p e s mi args below meth c o hnm hr hx
  have o : Ok p l s mi args meth c g cX5_pageAt 2 RX5 := o
  refine v_lv [(0, .ref (B i)), (1, .int q)] rfl ?_
  have h12 := hR.np i
  refine v_iload_n 1 o dX5_pageAt_0 rfl rfl ?_
  refine v_if_lt 13 o dX5_pageAt_1 (by decide) (fun c1 => ?_) (fun c1 => ?_)
  · exact v_throwW (E := "java/lang/IndexOutOfBoundsException") (text := "there is no such page") o hx dX5_pageAt_13 dX5_pageAt_16 dX5_pageAt_17 dX5_pageAt_20 dX5_pageAt_23 (by decide +kernel) (by decide +kernel) tw_IOOBE (by decide) (Nat.le_of_ble_eq_true rfl) (by decide) (by decide) (by decide) (by decide) (fun z' hz => ⟨rfl, rfl, hz⟩)
  · refine v_iload_n 1 o dX5_pageAt_4 rfl rfl ?_
    refine v_aload_n 0 o dX5_pageAt_5 rfl rfl ?_
    refine v_get (v := .ref (B i + 1)) o dX5_pageAt_6 cf0 0 (by decide) fl_X5_152 (hR.bk hi) rfl ?_
    refine v_alen (t0 := 3) o dX5_pageAt_9 rfl (hR.ps hi) ?_
    refine v_top (nI (σ.1 0 i)) rfl ?_
    refine v_icmp_lt 24 o dX5_pageAt_10 (by decide) (fun c10 => absurd c10 (Int32.not_lt.mpr ((okI_f h (by omega)).resolve_left c1))) (fun c10 => ?_)
    exact v_throwW (E := "java/lang/IndexOutOfBoundsException") (text := "there is no such page") o hx dX5_pageAt_13 dX5_pageAt_16 dX5_pageAt_17 dX5_pageAt_20 dX5_pageAt_23 (by decide +kernel) (by decide +kernel) tw_IOOBE (by decide) (Nat.le_of_ble_eq_true rfl) (by decide) (by decide) (by decide) (by decide) (fun z' hz => ⟨rfl, rfl, hz⟩)

