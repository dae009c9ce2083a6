/-- the class answers v, and holds σ' -/
def clP (g : mG) (x z0 : Nat) (μ0 : mM) (v : Option Value) (σ' : Sg) : Option Value → mM → Nat → Prop := fun r μ' _ => r = v ∧ σ'.1 3 1 = 0 ∧ ∃ B' τ', RC g x B' z0 μ0 σ' τ' μ'
/-- the class throws what the number of σ' tells, and has changed nothing -/
def clX (Es : List String) (σ σ' : Sg) (μ : mM) : String → mM → Nat → Prop := fun E μ' _ => (∃ k, σ' = th σ (k + 1) ∧ Es[k]? = some E) ∧ μ' = μ
section RCE
variable {g : mG} {x : Nat} {B : Nat → Nat} {z0 : Nat} {μ0 μ : mM} {σ σ' τ : Sg}
theorem RC.eq (h : RC g x B z0 μ0 σ τ μ) (e0 : σ'.1 0 = σ.1 0) (e1 : σ'.1 1 = σ.1 1) (e2 : σ'.1 2 = σ.1 2) (e3 : σ'.1 3 0 = σ.1 3 0) (e4 : σ'.1 3 2 = σ.1 3 2) (eb : ∀ k, k < 7 → σ'.2.1 k = σ.2.1 k) (ei : σ'.2.2.1 = σ.2.2.1) (el : ∀ k, k < 2 → σ'.2.2.2 k = σ.2.2.2 k) : RC g x B z0 μ0 σ' τ μ := by
  obtain ⟨h1, h2, h3, h5, h4⟩ := h
  refine ⟨fun k hk => ?_, fun i hi => ?_, ?_, by rw [e3, e0]; exact h5, h4⟩
  · rw [h1 k hk]
    rcases (show k = 0 ∨ k = 1 ∨ k = 2 ∨ k = 3 ∨ k = 4 ∨ k = 5 ∨ k = 6 ∨ k = 7 ∨ k = 8 ∨ k = 9 ∨ k = 10 ∨ k = 11 by omega) with rfl | rfl | rfl | rfl | rfl | rfl | rfl | rfl | rfl | rfl | rfl | rfl <;> first | rfl | simp only [cHs, e3, e4, ei, eb 6 (by decide)]
  · rw [e3] at hi
    obtain ⟨b1, b2, b3⟩ := h2 i hi
    refine ⟨?_, ?_, fun j hj c hc => ?_⟩
    · rw [b1]
      unfold cBk
      rw [ei, eb 0 (by decide), eb 1 (by decide)]
    · rw [b2]
      unfold cPs
      rw [e0]
    · rw [e0] at hj
      rw [b3 j hj c hc]
      refine congrArg some (cP_congr c hc (fun _ => ⟨?_, ?_, ?_, ?_, ?_, ?_⟩) (fun _ v _ => ?_) (fun _ v _ => ?_) (fun _ a _ => ?_) (fun k _ a _ => ?_)).symm
      · rw [eb 2 (by decide)]
      · rw [eb 3 (by decide)]
      · rw [eb 4 (by decide)]
      · rw [el 0 (by decide)]
      · rw [ei]
      · rw [ei]
      · rw [eb 5 (by decide)]
      · rw [el 1 (by decide)]
      · rw [e1]
      · rw [e2]
  · unfold RCs at h3 ⊢
    rw [e3, e0]
    exact h3
theorem RC.thk (h : RC g x B z0 μ0 σ τ μ) (k : Nat) : RC g x B z0 μ0 (th σ k) τ μ := h.eq rfl rfl rfl rfl rfl (fun _ _ => rfl) rfl (fun _ _ => rfl)
theorem RC.th1 {a v : Nat} (h : RC g x B z0 μ0 (uN σ 1 a v) τ μ) (k : Nat) : RC g x B z0 μ0 (uN (th σ k) 1 a v) τ μ := h.eq rfl rfl rfl rfl rfl (fun _ _ => rfl) rfl (fun _ _ => rfl)
theorem RC.th2 {a v : Nat} (h : RC g x B z0 μ0 (uN σ 2 a v) τ μ) (k : Nat) : RC g x B z0 μ0 (uN (th σ k) 2 a v) τ μ := h.eq rfl rfl rfl rfl rfl (fun _ _ => rfl) rfl (fun _ _ => rfl)
theorem RC.th3 {v : Nat} (h : RC g x B z0 μ0 (uN σ 3 2 v) τ μ) (k : Nat) : RC g x B z0 μ0 (uN (th σ k) 3 2 v) τ μ := h.eq rfl rfl rfl rfl rfl (fun _ _ => rfl) rfl (fun _ _ => rfl)
theorem RC.scr {σ1 : Sg} (h : RC g x B z0 μ0 σ τ μ) (hs : scr σ1 σ) : RC g x B z0 μ0 σ1 τ μ := h.eq (hs.1 0 (by decide) (by decide)) (hs.1 1 (by decide) (by decide)) (hs.1 2 (by decide) (by decide)) (congrFun (hs.1 3 (by decide) (by decide)) 0) (congrFun (hs.1 3 (by decide) (by decide)) 2) (fun k hk => hs.2.1 k (by omega)) hs.2.2.1 (fun k hk => hs.2.2.2 k hk)
end RCE
theorem uB_id (σ : Sg) (k i : Nat) : uB σ k i (σ.2.1 k i) = σ := by
  have : u2 σ.2.1 k i (σ.2.1 k i) = σ.2.1 := funext fun a => funext fun c => by
    unfold u2
    split
    · rename_i h
      rw [h.1, h.2]
    · rfl
  show (σ.1, u2 σ.2.1 k i (σ.2.1 k i), σ.2.2) = σ
  rw [this]
theorem uB_th (σ : Sg) (k i c : Nat) : uB (uN σ 3 1 c) k i (σ.2.1 k i) = uN σ 3 1 c := uB_id (uN σ 3 1 c) k i
set_option maxRecDepth 100000 in
set_option maxHeartbeats 4000000 in
theorem k_calibrate {l : Launch} (hl : l.stackTraces = false) {g : mG} {x z z0 : Nat} {B : Nat → Nat} {μ0 μ : mM} {σ τ : Sg} (hR : RC g x B z0 μ0 σ τ μ)  : Ct l g yX5_calibrate [Cond.code yX5_calibrate cX5_calibrate 2 (some .int)] { frames := 0, cells := 0, slots := 0, locals := 0 } [.ref x] μ z (clP g x z0 μ0 (some (.int (sp_calibrate σ).1)) (sp_calibrate σ).2) (noX) := by
  refine Ct.of hl (by decide +kernel) (Nat.le_of_ble_eq_true rfl) ?_
  intro p e s mi args below meth c o hnm hr hx
  have o : Ok p l s mi args meth c g cX5_calibrate 2 RX5 := o
  refine v_lv [(0, .ref x)] rfl ?_
  refine v_aload_n 0 o dX5_calibrate_0 rfl rfl ?_
  refine v_get (v := .int (σ.2.2.1 8 0)) o dX5_calibrate_1 cf5 2 (by decide) fl_X5_111 hR.h0 rfl ?_
  refine v_istore_n [(1, .int (σ.2.2.1 8 0)), (0, .ref x)] o dX5_calibrate_4 rfl (by decide) rfl ?_
  refine v_aload_n 1 o dX5_calibrate_5 rfl rfl ?_
  refine v_iconst 0 o dX5_calibrate_6 rfl ?_
  refine v_put _ o dX5_calibrate_7 cf5 2 (by decide) (by decide) fl_X5_111 hR.h0 rfl rfl (Nat.le_of_ble_eq_true rfl) rfl (fun μ1 e1 => ?_)
  have hR1 := hR.u_drift (v := nI 0) e1
  refine v_iload_n 0 o dX5_calibrate_10 rfl rfl ?_
  have e9 : sp_calibrate σ = (σ.2.2.1 8 0, uI (th σ 0) 8 0 (nI 0)) := by simp [sp_calibrate, th]
  exact v_iret o dX5_calibrate_11 hr (Nat.le_of_ble_eq_true rfl) (Nat.le_of_ble_eq_true rfl) (by rw [e9]; exact ⟨rfl, rfl, _, _, hR1.thk 0⟩)

set_option maxRecDepth 100000 in
set_option maxHeartbeats 4000000 in
theorem k_looked {l : Launch} (hl : l.stackTraces = false) {g : mG} {x z z0 : Nat} {B : Nat → Nat} {μ0 μ : mM} {σ τ : Sg} (hR : RC g x B z0 μ0 σ τ μ)  : Ct l g yX5_looked [Cond.code yX5_looked cX5_looked 1 (some .int)] { frames := 0, cells := 0, slots := 0, locals := 0 } [.ref x] μ z (clP g x z0 μ0 (some (.int (sp_looked σ).1)) (sp_looked σ).2) (noX) := by
  refine Ct.of hl (by decide +kernel) (Nat.le_of_ble_eq_true rfl) ?_
  intro p e s mi args below meth c o hnm hr hx
  have o : Ok p l s mi args meth c g cX5_looked 1 RX5 := o
  refine v_lv [(0, .ref x)] rfl ?_
  refine v_aload_n 0 o dX5_looked_0 rfl rfl ?_
  refine v_get (v := .ref (x + 3)) o dX5_looked_1 cf5 4 (by decide) fl_X5_22 hR.h0 rfl ?_
  refine v_get (v := .int (nI (σ.1 3 2))) o dX5_looked_4 cf4 3 (by decide) fl_X5_164 hR.h3 rfl ?_
  have e9 : sp_looked σ = (nI (σ.1 3 2), th σ 0) := by simp [sp_looked, th]
  exact v_iret o dX5_looked_7 hr (Nat.le_of_ble_eq_true rfl) (Nat.le_of_ble_eq_true rfl) (by rw [e9]; exact ⟨rfl, rfl, _, _, hR.thk 0⟩)

set_option maxRecDepth 100000 in
set_option maxHeartbeats 4000000 in
theorem k_build {l : Launch} (hl : l.stackTraces = false) {g : mG} {x z z0 : Nat} {B : Nat → Nat} {μ0 μ : mM} {σ τ : Sg} (hR : RC g x B z0 μ0 σ τ μ) (hI : Inv σ) (v : Int32) : Ct l g yX5_build [Cond.code yX5_build cX5_build 2 none] { frames := 7, cells := 1, slots := 6, locals := 102 } [.ref x, .int v] μ z (clP g x z0 μ0 none (sp_build σ v)) (clX ["java/lang/IndexOutOfBoundsException", "java/lang/IllegalStateException"] σ (sp_build σ v) μ) := by
  cases hV : isV v with
  | false =>
    have hO : okI v 4 = false := by rw [← isV_ok]; exact hV
    refine Ct.of hl (by decide +kernel) (Nat.le_of_ble_eq_true rfl) ?_
    intro p e s mi args below meth c o hnm hr hx
    have o : Ok p l s mi args meth c g cX5_build 2 RX5 := o
    refine v_lv [(0, .ref x), (1, .int v)] rfl ?_
    refine v_iload_n 1 o dX5_build_0 rfl rfl ?_
    refine v_callS [.int v] [] o dX5_build_1 cw_X5_127 st_X5_needVault (c_needVault_f hl v hO) rfl rfl (by decide) (by decide) (Nat.le_of_ble_eq_true rfl) (fun _ _ _ _ h => h.elim) ?_
    rintro _ _ z9 hz ⟨rfl, rfl, -⟩
    exact v_out o hx (by decide) (by decide) ⟨⟨0, (by simp [sp_build, hV] : (sp_build σ v) = th σ 1), rfl⟩, rfl⟩
  | true =>
    obtain ⟨vn, hv, rfl⟩ := isV_t hV
    have tv : tn (nI vn) = vn := tn_nI (by omega)
    refine Ct.of hl (by decide +kernel) (Nat.le_of_ble_eq_true rfl) ?_
    intro p e s mi args below meth c o hnm hr hx
    have o : Ok p l s mi args meth c g cX5_build 2 RX5 := o
    refine v_lv [(0, .ref x), (1, .int (nI vn))] rfl ?_
    refine v_iload_n 1 o dX5_build_0 rfl rfl ?_
    refine v_callS [.int (nI vn)] [] o dX5_build_1 cw_X5_127 st_X5_needVault (c_needVault_t hl vn (by omega)) rfl rfl (by decide) (by decide) (Nat.le_of_ble_eq_true rfl) ?_ (fun _ _ _ _ h => h.elim)
    rintro _ _ _ _ ⟨rfl, rfl, hz9⟩
    subst hz9
    refine v_st [] rfl ?_
    refine v_aload_n 0 o dX5_build_4 rfl rfl ?_
    refine v_get (v := .ref (x + 2)) o dX5_build_5 cf5 3 (by decide) fl_X5_15 hR.h0 rfl ?_
    refine v_iload_n 1 o dX5_build_8 rfl rfl ?_
    refine v_zald (bI (σ.2.1 6 vn)) o dX5_build_9 (by omega) (by decide) hR.h2 rfl ?_
    refine v_if_ne_b 23 o dX5_build_10 (by decide) (fun c10 => ?_) (fun c10 => ?_)
    · refine v_aload_n 0 o dX5_build_23 rfl rfl ?_
      refine v_get (v := .ref (x + 2)) o dX5_build_24 cf5 3 (by decide) fl_X5_15 hR.h0 rfl ?_
      refine v_iload_n 1 o dX5_build_27 rfl rfl ?_
      refine v_iconst 0 o dX5_build_28 rfl ?_
      refine v_top (bI false) rfl ?_
      refine v_zast o dX5_build_29 (by omega) (by decide) (nar_bI _) hR.h2 (fun μ1 e1 => ?_)
      have hR1 := hR.u_burnt (k0 := vn) (v := false) e1
      have e9 : sp_build σ (nI vn) = uB (th σ 0) 6 vn false := by simp [sp_build, th, hV, tv, c10]
      exact v_vret o dX5_build_30 hr (Nat.le_of_ble_eq_true rfl) (Nat.le_of_ble_eq_true rfl) (by rw [e9]; exact ⟨rfl, rfl, _, _, hR1.thk 0⟩)
    · exact v_throw (E := "java/lang/IllegalStateException") (text := "the vault is not burnt") o hx dX5_build_13 dX5_build_16 dX5_build_17 dX5_build_19 dX5_build_22 (by decide +kernel) (by decide +kernel) tw_ISE (by decide) (Nat.le_of_ble_eq_true rfl) (by decide) (by decide) (by decide) (by decide) (fun z' hz => ⟨⟨1, (by simp [sp_build, hV, tv, c10] : (sp_build σ (nI vn)) = th σ 2), rfl⟩, rfl⟩)

set_option maxRecDepth 100000 in
set_option maxHeartbeats 4000000 in
theorem k_look {l : Launch} (hl : l.stackTraces = false) {g : mG} {x z z0 : Nat} {B : Nat → Nat} {μ0 μ : mM} {σ τ : Sg} (hR : RC g x B z0 μ0 σ τ μ) (hI : Inv σ) (b q : Int32) : Ct l g yX5_look [Cond.code yX5_look cX5_look 4 (some .boolean)] { frames := 7, cells := 1, slots := 6, locals := 104 } [.ref x, .int b, .int q] μ z (clP g x z0 μ0 (some (.int (sp_look σ b q).1)) (sp_look σ b q).2) (clX ["java/lang/IndexOutOfBoundsException", "java/lang/IllegalStateException"] σ (sp_look σ b q).2 μ) := by
  cases hB : isB σ b with
  | false =>
    have hP : isP σ b q = false := isP_f hB
    refine Ct.of hl (by decide +kernel) (Nat.le_of_ble_eq_true rfl) ?_
    intro p e s mi args below meth c o hnm hr hx
    have o : Ok p l s mi args meth c g cX5_look 4 RX5 := o
    refine v_lv [(0, .ref x), (1, .int b), (2, .int q)] rfl ?_
    refine v_aload_n 0 o dX5_look_0 rfl rfl ?_
    refine v_iload_n 1 o dX5_look_1 rfl rfl ?_
    refine v_callV [.int b] [] o dX5_look_2 cw_X5_79 im_X5_bookAt se_X5_bookAt cf5 hR.h0 (c_bookAt_f hl hR b hB) rfl rfl (by decide) (by decide) (Nat.le_of_ble_eq_true rfl) (fun _ _ _ _ h => h.elim) ?_
    rintro _ _ z9 hz ⟨rfl, rfl, -⟩
    exact v_out o hx (by decide) (by decide) ⟨⟨0, (by simp [sp_look, hP] : (sp_look σ b q).2 = th σ 1), rfl⟩, rfl⟩
  | true =>
    obtain ⟨i, hi, rfl⟩ := isB_t hI hB
    have h6 := hI.1
    have h12 := hI.2.1 i
    have ti : tn (nI i) = i := tn_nI (by omega)
    cases hQ : okI q (σ.1 0 i) with
    | false =>
      have hP : isP σ (nI i) q = false := by unfold isP; rw [hB, ti, hQ]; rfl
      refine Ct.of hl (by decide +kernel) (Nat.le_of_ble_eq_true rfl) ?_
      intro p e s mi args below meth c o hnm hr hx
      have o : Ok p l s mi args meth c g cX5_look 4 RX5 := o
      refine v_lv [(0, .ref x), (1, .int (nI i)), (2, .int q)] rfl ?_
      refine v_aload_n 0 o dX5_look_0 rfl rfl ?_
      refine v_iload_n 1 o dX5_look_1 rfl rfl ?_
      refine v_callVr (v := .ref (B i)) [.int (nI i)] [] o dX5_look_2 cw_X5_79 im_X5_bookAt se_X5_bookAt cf5 hR.h0 (c_bookAt_t hl hR i hi) rfl rfl (by decide) ⟨rfl, rfl⟩ (by decide) (Nat.le_of_ble_eq_true rfl) ?_
      refine v_iload_n 2 o dX5_look_5 rfl rfl ?_
      refine v_callS [.ref (B i), .int q] [] o dX5_look_6 cw_X5_83 st_X5_pageAt (c_pageAt_f hl hR i q hi hQ) rfl rfl (by decide) (by decide) (Nat.le_of_ble_eq_true rfl) (fun _ _ _ _ h => h.elim) ?_
      rintro _ _ z9 hz ⟨rfl, rfl, -⟩
      exact v_out o hx (by decide) (by decide) ⟨⟨0, (by simp [sp_look, hP] : (sp_look σ (nI i) q).2 = th σ 1), rfl⟩, rfl⟩
    | true =>
      obtain ⟨j, hj, rfl⟩ := okI_t hQ (by omega)
      have hP := isP_nI hI hi hj
      have tj : tn (nI j) = j := tn_nI (by omega)
      refine Ct.of hl (by decide +kernel) (Nat.le_of_ble_eq_true rfl) ?_
      intro p e s mi args below meth c o hnm hr hx
      have o : Ok p l s mi args meth c g cX5_look 4 RX5 := o
      refine v_lv [(0, .ref x), (1, .int (nI i)), (2, .int (nI j))] rfl ?_
      refine v_aload_n 0 o dX5_look_0 rfl rfl ?_
      refine v_iload_n 1 o dX5_look_1 rfl rfl ?_
      refine v_callVr (v := .ref (B i)) [.int (nI i)] [] o dX5_look_2 cw_X5_79 im_X5_bookAt se_X5_bookAt cf5 hR.h0 (c_bookAt_t hl hR i hi) rfl rfl (by decide) ⟨rfl, rfl⟩ (by decide) (Nat.le_of_ble_eq_true rfl) ?_
      refine v_iload_n 2 o dX5_look_5 rfl rfl ?_
      refine v_callSr (v := .ref (pA B i j)) [.ref (B i), .int (nI j)] [] o dX5_look_6 cw_X5_83 st_X5_pageAt (c_pageAt_t hl hR i j hi hj) rfl rfl (by decide) ⟨rfl, rfl⟩ (by decide) (Nat.le_of_ble_eq_true rfl) ?_
      refine v_astore_n [(3, .ref (pA B i j)), (0, .ref x), (1, .int (nI i)), (2, .int (nI j))] o dX5_look_9 rfl (by decide) rfl ?_
      refine v_aload_n 0 o dX5_look_10 rfl rfl ?_
      refine v_get (v := .int (bI (σ.2.1 2 (12 * i + j)))) o dX5_look_11 cf2 0 (by decide) fl_X5_97 (hR.p0 hi hj) rfl ?_
      refine v_if_ne_b 27 o dX5_look_14 (by decide) (fun c14 => ?_) (fun c14 => ?_)
      · refine v_aload_n 0 o dX5_look_27 rfl rfl ?_
        refine v_get (v := .int (bI (σ.2.1 3 (12 * i + j)))) o dX5_look_28 cf2 1 (by decide) fl_X5_124 (hR.p0 hi hj) rfl ?_
        refine v_if_eq_b 39 o dX5_look_31 (by decide) (fun c31 => ?_) (fun c31 => ?_)
        · refine v_aload_n 0 o dX5_look_39 rfl rfl ?_
          refine v_get (v := .int (bI (σ.2.1 3 (12 * i + j)))) o dX5_look_40 cf2 1 (by decide) fl_X5_124 (hR.p0 hi hj) rfl ?_
          have e9 : sp_look σ (nI i) (nI j) = (bI (σ.2.1 3 (12 * i + j)), th σ 0) := by simp [sp_look, th, hP, ti, tj, uB_th, c14, c31]
          exact v_zret o dX5_look_43 hr (narrow_bI _) (Nat.le_of_ble_eq_true rfl) (Nat.le_of_ble_eq_true rfl) (by rw [e9]; exact ⟨rfl, rfl, _, _, hR.thk 0⟩)
        · refine v_aload_n 0 o dX5_look_34 rfl rfl ?_
          refine v_iconst 1 o dX5_look_35 rfl ?_
          refine v_top (bI true) rfl ?_
          refine v_put _ o dX5_look_36 cf2 2 (by decide) (by decide) fl_X5_103 (hR.p0 hi hj) (narrow_bI _) (fits_bI _) (Nat.le_of_ble_eq_true rfl) rfl (fun μ1 e1 => ?_)
          have hR1 := hR.u_faulty hi hj (v := true) e1
          refine v_aload_n 0 o dX5_look_39 rfl rfl ?_
          refine v_get (v := .int (bI (σ.2.1 3 (12 * i + j)))) o dX5_look_40 cf2 1 (by decide) fl_X5_124 (hR1.p0 hi hj) rfl ?_
          have e9 : sp_look σ (nI i) (nI j) = (bI (σ.2.1 3 (12 * i + j)), uB (th σ 0) 4 (12 * i + j) true) := by simp [sp_look, th, hP, ti, tj, uB_th, c14, c31]
          exact v_zret o dX5_look_43 hr (narrow_bI _) (Nat.le_of_ble_eq_true rfl) (Nat.le_of_ble_eq_true rfl) (by rw [e9]; exact ⟨rfl, rfl, _, _, hR1.thk 0⟩)
      · exact v_throw (E := "java/lang/IllegalStateException") (text := "there is no shot of the page") o hx dX5_look_17 dX5_look_20 dX5_look_21 dX5_look_23 dX5_look_26 (by decide +kernel) (by decide +kernel) tw_ISE (by decide) (Nat.le_of_ble_eq_true rfl) (by decide) (by decide) (by decide) (by decide) (fun z' hz => ⟨⟨1, (by simp [sp_look, hP, ti, tj, uB_th, c14] : (sp_look σ (nI i) (nI j)).2 = th σ 2), rfl⟩, rfl⟩)

set_option maxRecDepth 100000 in
set_option maxHeartbeats 4000000 in
theorem k_isLost {l : Launch} (hl : l.stackTraces = false) {g : mG} {x z z0 : Nat} {B : Nat → Nat} {μ0 μ : mM} {σ τ : Sg} (hR : RC g x B z0 μ0 σ τ μ) (hI : Inv σ) (b q : Int32) : Ct l g yX5_isLost [Cond.code yX5_isLost cX5_isLost 3 (some .boolean)] { frames := 7, cells := 1, slots := 6, locals := 104 } [.ref x, .int b, .int q] μ z (clP g x z0 μ0 (some (.int (sp_isLost σ b q).1)) (sp_isLost σ b q).2) (clX ["java/lang/IndexOutOfBoundsException"] σ (sp_isLost σ b q).2 μ) := by
  cases hB : isB σ b with
  | false =>
    have hP : isP σ b q = false := isP_f hB
    refine Ct.of hl (by decide +kernel) (Nat.le_of_ble_eq_true rfl) ?_
    intro p e s mi args below meth c o hnm hr hx
    have o : Ok p l s mi args meth c g cX5_isLost 3 RX5 := o
    refine v_lv [(0, .ref x), (1, .int b), (2, .int q)] rfl ?_
    refine v_aload_n 0 o dX5_isLost_0 rfl rfl ?_
    refine v_iload_n 1 o dX5_isLost_1 rfl rfl ?_
    refine v_callV [.int b] [] o dX5_isLost_2 cw_X5_79 im_X5_bookAt se_X5_bookAt cf5 hR.h0 (c_bookAt_f hl hR b hB) rfl rfl (by decide) (by decide) (Nat.le_of_ble_eq_true rfl) (fun _ _ _ _ h => h.elim) ?_
    rintro _ _ z9 hz ⟨rfl, rfl, -⟩
    exact v_out o hx (by decide) (by decide) ⟨⟨0, (by simp [sp_isLost, hP] : (sp_isLost σ b q).2 = th σ 1), rfl⟩, rfl⟩
  | true =>
    obtain ⟨i, hi, rfl⟩ := isB_t hI hB
    have h6 := hI.1
    have h12 := hI.2.1 i
    have ti : tn (nI i) = i := tn_nI (by omega)
    cases hQ : okI q (σ.1 0 i) with
    | false =>
      have hP : isP σ (nI i) q = false := by unfold isP; rw [hB, ti, hQ]; rfl
      refine Ct.of hl (by decide +kernel) (Nat.le_of_ble_eq_true rfl) ?_
      intro p e s mi args below meth c o hnm hr hx
      have o : Ok p l s mi args meth c g cX5_isLost 3 RX5 := o
      refine v_lv [(0, .ref x), (1, .int (nI i)), (2, .int q)] rfl ?_
      refine v_aload_n 0 o dX5_isLost_0 rfl rfl ?_
      refine v_iload_n 1 o dX5_isLost_1 rfl rfl ?_
      refine v_callVr (v := .ref (B i)) [.int (nI i)] [] o dX5_isLost_2 cw_X5_79 im_X5_bookAt se_X5_bookAt cf5 hR.h0 (c_bookAt_t hl hR i hi) rfl rfl (by decide) ⟨rfl, rfl⟩ (by decide) (Nat.le_of_ble_eq_true rfl) ?_
      refine v_iload_n 2 o dX5_isLost_5 rfl rfl ?_
      refine v_callS [.ref (B i), .int q] [] o dX5_isLost_6 cw_X5_83 st_X5_pageAt (c_pageAt_f hl hR i q hi hQ) rfl rfl (by decide) (by decide) (Nat.le_of_ble_eq_true rfl) (fun _ _ _ _ h => h.elim) ?_
      rintro _ _ z9 hz ⟨rfl, rfl, -⟩
      exact v_out o hx (by decide) (by decide) ⟨⟨0, (by simp [sp_isLost, hP] : (sp_isLost σ (nI i) q).2 = th σ 1), rfl⟩, rfl⟩
    | true =>
      obtain ⟨j, hj, rfl⟩ := okI_t hQ (by omega)
      have hP := isP_nI hI hi hj
      have tj : tn (nI j) = j := tn_nI (by omega)
      refine Ct.of hl (by decide +kernel) (Nat.le_of_ble_eq_true rfl) ?_
      intro p e s mi args below meth c o hnm hr hx
      have o : Ok p l s mi args meth c g cX5_isLost 3 RX5 := o
      refine v_lv [(0, .ref x), (1, .int (nI i)), (2, .int (nI j))] rfl ?_
      refine v_aload_n 0 o dX5_isLost_0 rfl rfl ?_
      refine v_iload_n 1 o dX5_isLost_1 rfl rfl ?_
      refine v_callVr (v := .ref (B i)) [.int (nI i)] [] o dX5_isLost_2 cw_X5_79 im_X5_bookAt se_X5_bookAt cf5 hR.h0 (c_bookAt_t hl hR i hi) rfl rfl (by decide) ⟨rfl, rfl⟩ (by decide) (Nat.le_of_ble_eq_true rfl) ?_
      refine v_iload_n 2 o dX5_isLost_5 rfl rfl ?_
      refine v_callSr (v := .ref (pA B i j)) [.ref (B i), .int (nI j)] [] o dX5_isLost_6 cw_X5_83 st_X5_pageAt (c_pageAt_t hl hR i j hi hj) rfl rfl (by decide) ⟨rfl, rfl⟩ (by decide) (Nat.le_of_ble_eq_true rfl) ?_
      refine v_callVr (v := .int (bI (lostB σ (12 * i + j)))) [] [] o dX5_isLost_9 cw_X5_174 im_X2_hasNoCopyLeft se_X2_hasNoCopyLeft cf2 (hR.p0 hi hj) (c_lost hl hR i j hi hj) rfl rfl (by decide) ⟨rfl, rfl⟩ (by decide) (Nat.le_of_ble_eq_true rfl) ?_
      have e9 : sp_isLost σ (nI i) (nI j) = (bI (lostB σ (12 * i + j)), th σ 0) := by simp [sp_isLost, th, hP, ti, tj]
      exact v_zret o dX5_isLost_12 hr (narrow_bI _) (Nat.le_of_ble_eq_true rfl) (Nat.le_of_ble_eq_true rfl) (by rw [e9]; exact ⟨rfl, rfl, _, _, hR.thk 0⟩)

set_option maxRecDepth 100000 in
set_option maxHeartbeats 4000000 in
theorem k_words {l : Launch} (hl : l.stackTraces = false) {g : mG} {x z z0 : Nat} {B : Nat → Nat} {μ0 μ : mM} {σ τ : Sg} (hR : RC g x B z0 μ0 σ τ μ) (hI : Inv σ) (b q f t : Int32) : Ct l g yX5_words [Cond.code yX5_words cX5_words 6 none] { frames := 7, cells := 1, slots := 6, locals := 104 } [.ref x, .int b, .int q, .int f, .int t] μ z (clP g x z0 μ0 none (sp_words σ b q f t)) (clX ["java/lang/IndexOutOfBoundsException", "java/lang/IllegalArgumentException"] σ (sp_words σ b q f t) μ) := by
  cases hB : isB σ b with
  | false =>
    have hP : isP σ b q = false := isP_f hB
    refine Ct.of hl (by decide +kernel) (Nat.le_of_ble_eq_true rfl) ?_
    intro p e s mi args below meth c o hnm hr hx
    have o : Ok p l s mi args meth c g cX5_words 6 RX5 := o
    refine v_lv [(0, .ref x), (1, .int b), (2, .int q), (3, .int f), (4, .int t)] rfl ?_
    refine v_aload_n 0 o dX5_words_0 rfl rfl ?_
    refine v_iload_n 1 o dX5_words_1 rfl rfl ?_
    refine v_callV [.int b] [] o dX5_words_2 cw_X5_79 im_X5_bookAt se_X5_bookAt cf5 hR.h0 (c_bookAt_f hl hR b hB) rfl rfl (by decide) (by decide) (Nat.le_of_ble_eq_true rfl) (fun _ _ _ _ h => h.elim) ?_
    rintro _ _ z9 hz ⟨rfl, rfl, -⟩
    exact v_out o hx (by decide) (by decide) ⟨⟨0, (by simp [sp_words, hP] : (sp_words σ b q f t) = th σ 1), rfl⟩, rfl⟩
  | true =>
    obtain ⟨i, hi, rfl⟩ := isB_t hI hB
    have h6 := hI.1
    have h12 := hI.2.1 i
    have ti : tn (nI i) = i := tn_nI (by omega)
    cases hQ : okI q (σ.1 0 i) with
    | false =>
      have hP : isP σ (nI i) q = false := by unfold isP; rw [hB, ti, hQ]; rfl
      refine Ct.of hl (by decide +kernel) (Nat.le_of_ble_eq_true rfl) ?_
      intro p e s mi args below meth c o hnm hr hx
      have o : Ok p l s mi args meth c g cX5_words 6 RX5 := o
      refine v_lv [(0, .ref x), (1, .int (nI i)), (2, .int q), (3, .int f), (4, .int t)] rfl ?_
      refine v_aload_n 0 o dX5_words_0 rfl rfl ?_
      refine v_iload_n 1 o dX5_words_1 rfl rfl ?_
      refine v_callVr (v := .ref (B i)) [.int (nI i)] [] o dX5_words_2 cw_X5_79 im_X5_bookAt se_X5_bookAt cf5 hR.h0 (c_bookAt_t hl hR i hi) rfl rfl (by decide) ⟨rfl, rfl⟩ (by decide) (Nat.le_of_ble_eq_true rfl) ?_
      refine v_iload_n 2 o dX5_words_5 rfl rfl ?_
      refine v_callS [.ref (B i), .int q] [] o dX5_words_6 cw_X5_83 st_X5_pageAt (c_pageAt_f hl hR i q hi hQ) rfl rfl (by decide) (by decide) (Nat.le_of_ble_eq_true rfl) (fun _ _ _ _ h => h.elim) ?_
      rintro _ _ z9 hz ⟨rfl, rfl, -⟩
      exact v_out o hx (by decide) (by decide) ⟨⟨0, (by simp [sp_words, hP] : (sp_words σ (nI i) q f t) = th σ 1), rfl⟩, rfl⟩
    | true =>
      obtain ⟨j, hj, rfl⟩ := okI_t hQ (by omega)
      have hP := isP_nI hI hi hj
      have tj : tn (nI j) = j := tn_nI (by omega)
      cases hF : inR f (nI 0) (nI 99) with
      | false =>
        cases hT : inR t (nI 0) (nI 99) with
        | false =>
          refine Ct.of hl (by decide +kernel) (Nat.le_of_ble_eq_true rfl) ?_
          intro p e s mi args below meth c o hnm hr hx
          have o : Ok p l s mi args meth c g cX5_words 6 RX5 := o
          refine v_lv [(0, .ref x), (1, .int (nI i)), (2, .int (nI j)), (3, .int f), (4, .int t)] rfl ?_
          refine v_aload_n 0 o dX5_words_0 rfl rfl ?_
          refine v_iload_n 1 o dX5_words_1 rfl rfl ?_
          refine v_callVr (v := .ref (B i)) [.int (nI i)] [] o dX5_words_2 cw_X5_79 im_X5_bookAt se_X5_bookAt cf5 hR.h0 (c_bookAt_t hl hR i hi) rfl rfl (by decide) ⟨rfl, rfl⟩ (by decide) (Nat.le_of_ble_eq_true rfl) ?_
          refine v_iload_n 2 o dX5_words_5 rfl rfl ?_
          refine v_callSr (v := .ref (pA B i j)) [.ref (B i), .int (nI j)] [] o dX5_words_6 cw_X5_83 st_X5_pageAt (c_pageAt_t hl hR i j hi hj) rfl rfl (by decide) ⟨rfl, rfl⟩ (by decide) (Nat.le_of_ble_eq_true rfl) ?_
          refine v_astore [(5, .ref (pA B i j)), (0, .ref x), (1, .int (nI i)), (2, .int (nI j)), (3, .int f), (4, .int t)] o dX5_words_9 (by decide) rfl ?_
          refine v_iload_n 4 o dX5_words_11 rfl rfl ?_
          refine v_iconst 0 o dX5_words_12 rfl ?_
          refine v_bipush 99 o dX5_words_13 (by decide) ?_
          refine v_callS [.int f, .int (nI 0), .int (nI 99)] [] o dX5_words_15 cw_X5_54 st_X5_needArgument (c_needArg_f hl f (nI 0) (nI 99) hF) rfl rfl (by decide) (by decide) (Nat.le_of_ble_eq_true rfl) (fun _ _ _ _ h => h.elim) ?_
          rintro _ _ z9 hz ⟨rfl, rfl, -⟩
          exact v_out o hx (by decide) (by decide) ⟨⟨1, (by simp [sp_words, hP, ti, tj, hF, hT] : (sp_words σ (nI i) (nI j) f t) = th σ 2), rfl⟩, rfl⟩
        | true =>
          refine Ct.of hl (by decide +kernel) (Nat.le_of_ble_eq_true rfl) ?_
          intro p e s mi args below meth c o hnm hr hx
          have o : Ok p l s mi args meth c g cX5_words 6 RX5 := o
          refine v_lv [(0, .ref x), (1, .int (nI i)), (2, .int (nI j)), (3, .int f), (4, .int t)] rfl ?_
          refine v_aload_n 0 o dX5_words_0 rfl rfl ?_
          refine v_iload_n 1 o dX5_words_1 rfl rfl ?_
          refine v_callVr (v := .ref (B i)) [.int (nI i)] [] o dX5_words_2 cw_X5_79 im_X5_bookAt se_X5_bookAt cf5 hR.h0 (c_bookAt_t hl hR i hi) rfl rfl (by decide) ⟨rfl, rfl⟩ (by decide) (Nat.le_of_ble_eq_true rfl) ?_
          refine v_iload_n 2 o dX5_words_5 rfl rfl ?_
          refine v_callSr (v := .ref (pA B i j)) [.ref (B i), .int (nI j)] [] o dX5_words_6 cw_X5_83 st_X5_pageAt (c_pageAt_t hl hR i j hi hj) rfl rfl (by decide) ⟨rfl, rfl⟩ (by decide) (Nat.le_of_ble_eq_true rfl) ?_
          refine v_astore [(5, .ref (pA B i j)), (0, .ref x), (1, .int (nI i)), (2, .int (nI j)), (3, .int f), (4, .int t)] o dX5_words_9 (by decide) rfl ?_
          refine v_iload_n 4 o dX5_words_11 rfl rfl ?_
          refine v_iconst 0 o dX5_words_12 rfl ?_
          refine v_bipush 99 o dX5_words_13 (by decide) ?_
          refine v_callS [.int f, .int (nI 0), .int (nI 99)] [] o dX5_words_15 cw_X5_54 st_X5_needArgument (c_needArg_f hl f (nI 0) (nI 99) hF) rfl rfl (by decide) (by decide) (Nat.le_of_ble_eq_true rfl) (fun _ _ _ _ h => h.elim) ?_
          rintro _ _ z9 hz ⟨rfl, rfl, -⟩
          exact v_out o hx (by decide) (by decide) ⟨⟨1, (by simp [sp_words, hP, ti, tj, hF, hT] : (sp_words σ (nI i) (nI j) f t) = th σ 2), rfl⟩, rfl⟩
      | true =>
        cases hT : inR t (nI 0) (nI 99) with
        | false =>
          refine Ct.of hl (by decide +kernel) (Nat.le_of_ble_eq_true rfl) ?_
          intro p e s mi args below meth c o hnm hr hx
          have o : Ok p l s mi args meth c g cX5_words 6 RX5 := o
          refine v_lv [(0, .ref x), (1, .int (nI i)), (2, .int (nI j)), (3, .int f), (4, .int t)] rfl ?_
          refine v_aload_n 0 o dX5_words_0 rfl rfl ?_
          refine v_iload_n 1 o dX5_words_1 rfl rfl ?_
          refine v_callVr (v := .ref (B i)) [.int (nI i)] [] o dX5_words_2 cw_X5_79 im_X5_bookAt se_X5_bookAt cf5 hR.h0 (c_bookAt_t hl hR i hi) rfl rfl (by decide) ⟨rfl, rfl⟩ (by decide) (Nat.le_of_ble_eq_true rfl) ?_
          refine v_iload_n 2 o dX5_words_5 rfl rfl ?_
          refine v_callSr (v := .ref (pA B i j)) [.ref (B i), .int (nI j)] [] o dX5_words_6 cw_X5_83 st_X5_pageAt (c_pageAt_t hl hR i j hi hj) rfl rfl (by decide) ⟨rfl, rfl⟩ (by decide) (Nat.le_of_ble_eq_true rfl) ?_
          refine v_astore [(5, .ref (pA B i j)), (0, .ref x), (1, .int (nI i)), (2, .int (nI j)), (3, .int f), (4, .int t)] o dX5_words_9 (by decide) rfl ?_
          refine v_iload_n 4 o dX5_words_11 rfl rfl ?_
          refine v_iconst 0 o dX5_words_12 rfl ?_
          refine v_bipush 99 o dX5_words_13 (by decide) ?_
          refine v_callS [.int f, .int (nI 0), .int (nI 99)] [] o dX5_words_15 cw_X5_54 st_X5_needArgument (c_needArg_t hl f (nI 0) (nI 99) hF) rfl rfl (by decide) (by decide) (Nat.le_of_ble_eq_true rfl) ?_ (fun _ _ _ _ h => h.elim)
          rintro _ _ _ _ ⟨rfl, rfl, hz9⟩
          subst hz9
          refine v_st [] rfl ?_
          refine v_iload 5 o dX5_words_18 rfl ?_
          refine v_iconst 0 o dX5_words_20 rfl ?_
          refine v_bipush 99 o dX5_words_21 (by decide) ?_
          refine v_callS [.int t, .int (nI 0), .int (nI 99)] [] o dX5_words_23 cw_X5_54 st_X5_needArgument (c_needArg_f hl t (nI 0) (nI 99) hT) rfl rfl (by decide) (by decide) (Nat.le_of_ble_eq_true rfl) (fun _ _ _ _ h => h.elim) ?_
          rintro _ _ z9 hz ⟨rfl, rfl, -⟩
          exact v_out o hx (by decide) (by decide) ⟨⟨1, (by simp [sp_words, hP, ti, tj, hF, hT] : (sp_words σ (nI i) (nI j) f t) = th σ 2), rfl⟩, rfl⟩
        | true =>
          refine Ct.of hl (by decide +kernel) (Nat.le_of_ble_eq_true rfl) ?_
          intro p e s mi args below meth c o hnm hr hx
          have o : Ok p l s mi args meth c g cX5_words 6 RX5 := o
          refine v_lv [(0, .ref x), (1, .int (nI i)), (2, .int (nI j)), (3, .int f), (4, .int t)] rfl ?_
          refine v_aload_n 0 o dX5_words_0 rfl rfl ?_
          refine v_iload_n 1 o dX5_words_1 rfl rfl ?_
          refine v_callVr (v := .ref (B i)) [.int (nI i)] [] o dX5_words_2 cw_X5_79 im_X5_bookAt se_X5_bookAt cf5 hR.h0 (c_bookAt_t hl hR i hi) rfl rfl (by decide) ⟨rfl, rfl⟩ (by decide) (Nat.le_of_ble_eq_true rfl) ?_
          refine v_iload_n 2 o dX5_words_5 rfl rfl ?_
          refine v_callSr (v := .ref (pA B i j)) [.ref (B i), .int (nI j)] [] o dX5_words_6 cw_X5_83 st_X5_pageAt (c_pageAt_t hl hR i j hi hj) rfl rfl (by decide) ⟨rfl, rfl⟩ (by decide) (Nat.le_of_ble_eq_true rfl) ?_
          refine v_astore [(5, .ref (pA B i j)), (0, .ref x), (1, .int (nI i)), (2, .int (nI j)), (3, .int f), (4, .int t)] o dX5_words_9 (by decide) rfl ?_
          refine v_iload_n 4 o dX5_words_11 rfl rfl ?_
          refine v_iconst 0 o dX5_words_12 rfl ?_
          refine v_bipush 99 o dX5_words_13 (by decide) ?_
          refine v_callS [.int f, .int (nI 0), .int (nI 99)] [] o dX5_words_15 cw_X5_54 st_X5_needArgument (c_needArg_t hl f (nI 0) (nI 99) hF) rfl rfl (by decide) (by decide) (Nat.le_of_ble_eq_true rfl) ?_ (fun _ _ _ _ h => h.elim)
          rintro _ _ _ _ ⟨rfl, rfl, hz9⟩
          subst hz9
          refine v_st [] rfl ?_
          refine v_iload 5 o dX5_words_18 rfl ?_
          refine v_iconst 0 o dX5_words_20 rfl ?_
          refine v_bipush 99 o dX5_words_21 (by decide) ?_
          refine v_callS [.int t, .int (nI 0), .int (nI 99)] [] o dX5_words_23 cw_X5_54 st_X5_needArgument (c_needArg_t hl t (nI 0) (nI 99) hT) rfl rfl (by decide) (by decide) (Nat.le_of_ble_eq_true rfl) ?_ (fun _ _ _ _ h => h.elim)
          rintro _ _ _ _ ⟨rfl, rfl, hz9⟩
          subst hz9
          refine v_st [] rfl ?_
          refine v_aload 0 o dX5_words_26 rfl ?_
          refine v_iload_n 4 o dX5_words_28 rfl rfl ?_
          refine v_put _ o dX5_words_29 cf2 6 (by decide) (by decide) fl_X5_177 (hR.p0 hi hj) rfl rfl (Nat.le_of_ble_eq_true rfl) rfl (fun μ1 e1 => ?_)
          have hR1 := hR.u_firstWord hi hj (v := f) e1
          refine v_aload 0 o dX5_words_32 rfl ?_
          refine v_iload 5 o dX5_words_34 rfl ?_
          refine v_put _ o dX5_words_36 cf2 7 (by decide) (by decide) fl_X5_180 (hR1.p0 hi hj) rfl rfl (Nat.le_of_ble_eq_true rfl) rfl (fun μ2 e2 => ?_)
          have hR2 := hR1.u_catchword hi hj (v := t) e2
          have e9 : sp_words σ (nI i) (nI j) f t = uI (uI (th σ 0) 5 (12 * i + j) f) 6 (12 * i + j) t := by simp [sp_words, th, hP, ti, tj, hF, hT]
          exact v_vret o dX5_words_39 hr (Nat.le_of_ble_eq_true rfl) (Nat.le_of_ble_eq_true rfl) (by rw [e9]; exact ⟨rfl, rfl, _, _, hR2.thk 0⟩)

set_option maxRecDepth 100000 in
set_option maxHeartbeats 4000000 in
theorem k_search {l : Launch} (hl : l.stackTraces = false) {g : mG} {x z z0 : Nat} {B : Nat → Nat} {μ0 μ : mM} {σ τ : Sg} (hR : RC g x B z0 μ0 σ τ μ) (hI : Inv σ) (b : Int32) : Ct l g yX5_search [Cond.code yX5_search cX5_search 4 (some .boolean)] { frames := 7, cells := 1, slots := 6, locals := 104 } [.ref x, .int b] μ z (clP g x z0 μ0 (some (.int (sp_search σ b).1)) (sp_search σ b).2) (clX ["java/lang/IndexOutOfBoundsException"] σ (sp_search σ b).2 μ) := by
  cases hB : isB σ b with
  | false =>
    refine Ct.of hl (by decide +kernel) (Nat.le_of_ble_eq_true rfl) ?_
    intro p e s mi args below meth c o hnm hr hx
    have o : Ok p l s mi args meth c g cX5_search 4 RX5 := o
    refine v_lv [(0, .ref x), (1, .int b)] rfl ?_
    refine v_aload_n 0 o dX5_search_0 rfl rfl ?_
    refine v_iload_n 1 o dX5_search_1 rfl rfl ?_
    refine v_callV [.int b] [] o dX5_search_2 cw_X5_79 im_X5_bookAt se_X5_bookAt cf5 hR.h0 (c_bookAt_f hl hR b hB) rfl rfl (by decide) (by decide) (Nat.le_of_ble_eq_true rfl) (fun _ _ _ _ h => h.elim) ?_
    rintro _ _ z9 hz ⟨rfl, rfl, -⟩
    exact v_out o hx (by decide) (by decide) ⟨⟨0, (by simp [sp_search, hB] : (sp_search σ b).2 = th σ 1), rfl⟩, rfl⟩
  | true =>
    obtain ⟨i, hi, rfl⟩ := isB_t hI hB
    have h6 := hI.1
    have h12 := hI.2.1 i
    have ti : tn (nI i) = i := tn_nI (by omega)
    refine Ct.of hl (by decide +kernel) (Nat.le_of_ble_eq_true rfl) ?_
    intro p e s mi args below meth c o hnm hr hx
    have o : Ok p l s mi args meth c g cX5_search 4 RX5 := o
    refine v_lv [(0, .ref x), (1, .int (nI i))] rfl ?_
    refine v_aload_n 0 o dX5_search_0 rfl rfl ?_
    refine v_iload_n 1 o dX5_search_1 rfl rfl ?_
    refine v_callVr (v := .ref (B i)) [.int (nI i)] [] o dX5_search_2 cw_X5_79 im_X5_bookAt se_X5_bookAt cf5 hR.h0 (c_bookAt_t hl hR i hi) rfl rfl (by decide) ⟨rfl, rfl⟩ (by decide) (Nat.le_of_ble_eq_true rfl) ?_
    refine v_astore_n [(2, .ref (B i)), (0, .ref x), (1, .int (nI i))] o dX5_search_5 rfl (by decide) rfl ?_
    refine v_aload_n 0 o dX5_search_6 rfl rfl ?_
    refine v_get (v := .int (bI (σ.2.1 0 i))) o dX5_search_7 cf0 6 (by decide) fl_X5_235 (hR.bk hi) rfl ?_
    refine v_istore_n [(3, .int (bI (σ.2.1 0 i))), (2, .ref (B i)), (0, .ref x), (1, .int (nI i))] o dX5_search_10 rfl (by decide) rfl ?_
    refine v_aload_n 1 o dX5_search_11 rfl rfl ?_
    refine v_iconst 1 o dX5_search_12 rfl ?_
    refine v_top (bI true) rfl ?_
    refine v_put _ o dX5_search_13 cf0 6 (by decide) (by decide) fl_X5_235 (hR.bk hi) (narrow_bI _) (fits_bI _) (Nat.le_of_ble_eq_true rfl) rfl (fun μ1 e1 => ?_)
    have hR1 := hR.u_searched hi (v := true) e1
    refine v_iload_n 0 o dX5_search_16 rfl rfl ?_
    have e9 : sp_search σ (nI i) = (bI (σ.2.1 0 i), uB (th σ 0) 0 i true) := by simp [sp_search, th, hB, ti]
    exact v_zret o dX5_search_17 hr (narrow_bI _) (Nat.le_of_ble_eq_true rfl) (Nat.le_of_ble_eq_true rfl) (by rw [e9]; exact ⟨rfl, rfl, _, _, hR1.thk 0⟩)

set_option maxRecDepth 100000 in
set_option maxHeartbeats 4000000 in
theorem k_takeDown {l : Launch} (hl : l.stackTraces = false) {g : mG} {x z z0 : Nat} {B : Nat → Nat} {μ0 μ : mM} {σ τ : Sg} (hR : RC g x B z0 μ0 σ τ μ) (hI : Inv σ) (b : Int32) (w : Bool) : Ct l g yX5_takeDown [Cond.code yX5_takeDown cX5_takeDown 5 (some .boolean)] { frames := 7, cells := 1, slots := 6, locals := 104 } [.ref x, .int b, .int (bI w)] μ z (clP g x z0 μ0 (some (.int (sp_takeDown σ b w).1)) (sp_takeDown σ b w).2) (clX ["java/lang/IndexOutOfBoundsException"] σ (sp_takeDown σ b w).2 μ) := by
  cases hB : isB σ b with
  | false =>
    refine Ct.of hl (by decide +kernel) (Nat.le_of_ble_eq_true rfl) ?_
    intro p e s mi args below meth c o hnm hr hx
    have o : Ok p l s mi args meth c g cX5_takeDown 5 RX5 := o
    refine v_lv [(0, .ref x), (1, .int b), (2, .int (bI w))] rfl ?_
    refine v_aload_n 0 o dX5_takeDown_0 rfl rfl ?_
    refine v_iload_n 1 o dX5_takeDown_1 rfl rfl ?_
    refine v_callV [.int b] [] o dX5_takeDown_2 cw_X5_79 im_X5_bookAt se_X5_bookAt cf5 hR.h0 (c_bookAt_f hl hR b hB) rfl rfl (by decide) (by decide) (Nat.le_of_ble_eq_true rfl) (fun _ _ _ _ h => h.elim) ?_
    rintro _ _ z9 hz ⟨rfl, rfl, -⟩
    exact v_out o hx (by decide) (by decide) ⟨⟨0, (by simp [sp_takeDown, hB] : (sp_takeDown σ b w).2 = th σ 1), rfl⟩, rfl⟩
  | true =>
    obtain ⟨i, hi, rfl⟩ := isB_t hI hB
    have h6 := hI.1
    have h12 := hI.2.1 i
    have ti : tn (nI i) = i := tn_nI (by omega)
    refine Ct.of hl (by decide +kernel) (Nat.le_of_ble_eq_true rfl) ?_
    intro p e s mi args below meth c o hnm hr hx
    have o : Ok p l s mi args meth c g cX5_takeDown 5 RX5 := o
    refine v_lv [(0, .ref x), (1, .int (nI i)), (2, .int (bI w))] rfl ?_
    refine v_aload_n 0 o dX5_takeDown_0 rfl rfl ?_
    refine v_iload_n 1 o dX5_takeDown_1 rfl rfl ?_
    refine v_callVr (v := .ref (B i)) [.int (nI i)] [] o dX5_takeDown_2 cw_X5_79 im_X5_bookAt se_X5_bookAt cf5 hR.h0 (c_bookAt_t hl hR i hi) rfl rfl (by decide) ⟨rfl, rfl⟩ (by decide) (Nat.le_of_ble_eq_true rfl) ?_
    refine v_astore_n [(3, .ref (B i)), (0, .ref x), (1, .int (nI i)), (2, .int (bI w))] o dX5_takeDown_5 rfl (by decide) rfl ?_
    refine v_aload_n 0 o dX5_takeDown_6 rfl rfl ?_
    refine v_get (v := .int (bI (σ.2.1 1 i))) o dX5_takeDown_7 cf0 7 (by decide) fl_X5_238 (hR.bk hi) rfl ?_
    refine v_istore [(4, .int (bI (σ.2.1 1 i))), (3, .ref (B i)), (0, .ref x), (1, .int (nI i)), (2, .int (bI w))] o dX5_takeDown_10 (by decide) rfl ?_
    refine v_aload_n 1 o dX5_takeDown_12 rfl rfl ?_
    refine v_iload_n 4 o dX5_takeDown_13 rfl rfl ?_
    refine v_put _ o dX5_takeDown_14 cf0 7 (by decide) (by decide) fl_X5_238 (hR.bk hi) (narrow_bI _) (fits_bI _) (Nat.le_of_ble_eq_true rfl) rfl (fun μ1 e1 => ?_)
    have hR1 := hR.u_takenDown hi (v := w) e1
    refine v_iload 0 o dX5_takeDown_17 rfl ?_
    have e9 : sp_takeDown σ (nI i) w = (bI (σ.2.1 1 i), uB (th σ 0) 1 i w) := by simp [sp_takeDown, th, hB, ti]
    exact v_zret o dX5_takeDown_19 hr (narrow_bI _) (Nat.le_of_ble_eq_true rfl) (Nat.le_of_ble_eq_true rfl) (by rw [e9]; exact ⟨rfl, rfl, _, _, hR1.thk 0⟩)

set_option maxRecDepth 100000 in
set_option maxHeartbeats 4000000 in
theorem k_died {l : Launch} (hl : l.stackTraces = false) {g : mG} {x z z0 : Nat} {B : Nat → Nat} {μ0 μ : mM} {σ τ : Sg} (hR : RC g x B z0 μ0 σ τ μ) (hI : Inv σ) (b y : Int32) : Ct l g yX5_died [Cond.code yX5_died cX5_died 4 none] { frames := 7, cells := 1, slots := 6, locals := 104 } [.ref x, .int b, .int y] μ z (clP g x z0 μ0 none (sp_died σ b y)) (clX ["java/lang/IndexOutOfBoundsException", "java/lang/IllegalArgumentException", "java/lang/IllegalStateException"] σ (sp_died σ b y) μ) := by
  cases hB : isB σ b with
  | false =>
    refine Ct.of hl (by decide +kernel) (Nat.le_of_ble_eq_true rfl) ?_
    intro p e s mi args below meth c o hnm hr hx
    have o : Ok p l s mi args meth c g cX5_died 4 RX5 := o
    refine v_lv [(0, .ref x), (1, .int b), (2, .int y)] rfl ?_
    refine v_aload_n 0 o dX5_died_0 rfl rfl ?_
    refine v_iload_n 1 o dX5_died_1 rfl rfl ?_
    refine v_callV [.int b] [] o dX5_died_2 cw_X5_79 im_X5_bookAt se_X5_bookAt cf5 hR.h0 (c_bookAt_f hl hR b hB) rfl rfl (by decide) (by decide) (Nat.le_of_ble_eq_true rfl) (fun _ _ _ _ h => h.elim) ?_
    rintro _ _ z9 hz ⟨rfl, rfl, -⟩
    exact v_out o hx (by decide) (by decide) ⟨⟨0, (by simp [sp_died, hB] : (sp_died σ b y) = th σ 1), rfl⟩, rfl⟩
  | true =>
    obtain ⟨i, hi, rfl⟩ := isB_t hI hB
    have h6 := hI.1
    have h12 := hI.2.1 i
    have ti : tn (nI i) = i := tn_nI (by omega)
    cases hY : inR y (nI 1500) (nI 3000) with
    | false =>
      refine Ct.of hl (by decide +kernel) (Nat.le_of_ble_eq_true rfl) ?_
      intro p e s mi args below meth c o hnm hr hx
      have o : Ok p l s mi args meth c g cX5_died 4 RX5 := o
      refine v_lv [(0, .ref x), (1, .int (nI i)), (2, .int y)] rfl ?_
      refine v_aload_n 0 o dX5_died_0 rfl rfl ?_
      refine v_iload_n 1 o dX5_died_1 rfl rfl ?_
      refine v_callVr (v := .ref (B i)) [.int (nI i)] [] o dX5_died_2 cw_X5_79 im_X5_bookAt se_X5_bookAt cf5 hR.h0 (c_bookAt_t hl hR i hi) rfl rfl (by decide) ⟨rfl, rfl⟩ (by decide) (Nat.le_of_ble_eq_true rfl) ?_
      refine v_astore_n [(3, .ref (B i)), (0, .ref x), (1, .int (nI i)), (2, .int y)] o dX5_died_5 rfl (by decide) rfl ?_
      refine v_iload_n 3 o dX5_died_6 rfl rfl ?_
      refine v_sipush 1500 o dX5_died_7 (by decide) ?_
      refine v_sipush 3000 o dX5_died_10 (by decide) ?_
      refine v_callS [.int y, .int (nI 1500), .int (nI 3000)] [] o dX5_died_13 cw_X5_54 st_X5_needArgument (c_needArg_f hl y (nI 1500) (nI 3000) hY) rfl rfl (by decide) (by decide) (Nat.le_of_ble_eq_true rfl) (fun _ _ _ _ h => h.elim) ?_
      rintro _ _ z9 hz ⟨rfl, rfl, -⟩
      exact v_out o hx (by decide) (by decide) ⟨⟨1, (by simp [sp_died, hB, ti, hY] : (sp_died σ (nI i) y) = th σ 2), rfl⟩, rfl⟩
    | true =>
      refine Ct.of hl (by decide +kernel) (Nat.le_of_ble_eq_true rfl) ?_
      intro p e s mi args below meth c o hnm hr hx
      have o : Ok p l s mi args meth c g cX5_died 4 RX5 := o
      refine v_lv [(0, .ref x), (1, .int (nI i)), (2, .int y)] rfl ?_
      refine v_aload_n 0 o dX5_died_0 rfl rfl ?_
      refine v_iload_n 1 o dX5_died_1 rfl rfl ?_
      refine v_callVr (v := .ref (B i)) [.int (nI i)] [] o dX5_died_2 cw_X5_79 im_X5_bookAt se_X5_bookAt cf5 hR.h0 (c_bookAt_t hl hR i hi) rfl rfl (by decide) ⟨rfl, rfl⟩ (by decide) (Nat.le_of_ble_eq_true rfl) ?_
      refine v_astore_n [(3, .ref (B i)), (0, .ref x), (1, .int (nI i)), (2, .int y)] o dX5_died_5 rfl (by decide) rfl ?_
      refine v_iload_n 3 o dX5_died_6 rfl rfl ?_
      refine v_sipush 1500 o dX5_died_7 (by decide) ?_
      refine v_sipush 3000 o dX5_died_10 (by decide) ?_
      refine v_callS [.int y, .int (nI 1500), .int (nI 3000)] [] o dX5_died_13 cw_X5_54 st_X5_needArgument (c_needArg_t hl y (nI 1500) (nI 3000) hY) rfl rfl (by decide) (by decide) (Nat.le_of_ble_eq_true rfl) ?_ (fun _ _ _ _ h => h.elim)
      rintro _ _ _ _ ⟨rfl, rfl, hz9⟩
      subst hz9
      refine v_st [] rfl ?_
      refine v_aload_n 0 o dX5_died_16 rfl rfl ?_
      refine v_get (v := .int (σ.2.2.1 3 i)) o dX5_died_17 cf0 4 (by decide) fl_X5_230 (hR.bk hi) rfl ?_
      refine v_iconst_i (-1) o dX5_died_20 (by decide) ?_
      refine v_icmp_eq 34 o dX5_died_21 (by decide) (fun c21 => ?_) (fun c21 => ?_)
      · refine v_aload_n 0 o dX5_died_34 rfl rfl ?_
        refine v_iload_n 3 o dX5_died_35 rfl rfl ?_
        refine v_put _ o dX5_died_36 cf0 4 (by decide) (by decide) fl_X5_230 (hR.bk hi) rfl rfl (Nat.le_of_ble_eq_true rfl) rfl (fun μ1 e1 => ?_)
        have hR1 := hR.u_death hi (v := y) e1
        have e9 : sp_died σ (nI i) y = uI (th σ 0) 3 i y := by simp [sp_died, th, hB, ti, hY, c21]
        exact v_vret o dX5_died_39 hr (Nat.le_of_ble_eq_true rfl) (Nat.le_of_ble_eq_true rfl) (by rw [e9]; exact ⟨rfl, rfl, _, _, hR1.thk 0⟩)
      · exact v_throw (E := "java/lang/IllegalStateException") (text := "the year of the death is known") o hx dX5_died_24 dX5_died_27 dX5_died_28 dX5_died_30 dX5_died_33 (by decide +kernel) (by decide +kernel) tw_ISE (by decide) (Nat.le_of_ble_eq_true rfl) (by decide) (by decide) (by decide) (by decide) (fun z' hz => ⟨⟨2, (by simp [sp_died, hB, ti, hY, c21] : (sp_died σ (nI i) y) = th σ 3), rfl⟩, rfl⟩)

set_option maxRecDepth 100000 in
set_option maxHeartbeats 4000000 in
theorem k_term {l : Launch} (hl : l.stackTraces = false) {g : mG} {x z z0 : Nat} {B : Nat → Nat} {μ0 μ : mM} {σ τ : Sg} (hR : RC g x B z0 μ0 σ τ μ) (hI : Inv σ) (v y : Int32) : Ct l g yX5_term [Cond.code yX5_term cX5_term 4 (some .int)] { frames := 7, cells := 1, slots := 6, locals := 104 } [.ref x, .int v, .int y] μ z (clP g x z0 μ0 (some (.int (sp_term σ v y).1)) (sp_term σ v y).2) (clX ["java/lang/IndexOutOfBoundsException", "java/lang/IllegalArgumentException"] σ (sp_term σ v y).2 μ) := by
  cases hV : isV v with
  | false =>
    have hO : okI v 4 = false := by rw [← isV_ok]; exact hV
    have hVr : inR v (nI 0) (nI 3) = false := hV
    refine Ct.of hl (by decide +kernel) (Nat.le_of_ble_eq_true rfl) ?_
    intro p e s mi args below meth c o hnm hr hx
    have o : Ok p l s mi args meth c g cX5_term 4 RX5 := o
    refine v_lv [(0, .ref x), (1, .int v), (2, .int y)] rfl ?_
    refine v_iload_n 1 o dX5_term_0 rfl rfl ?_
    refine v_callS [.int v] [] o dX5_term_1 cw_X5_227 st_X5_needLand (c_needLand_f hl v hO) rfl rfl (by decide) (by decide) (Nat.le_of_ble_eq_true rfl) (fun _ _ _ _ h => h.elim) ?_
    rintro _ _ z9 hz ⟨rfl, rfl, -⟩
    exact v_out o hx (by decide) (by decide) ⟨⟨0, (by simp [sp_term, hVr] : (sp_term σ v y).2 = th σ 1), rfl⟩, rfl⟩
  | true =>
    obtain ⟨vn, hv, rfl⟩ := isV_t hV
    have tv : tn (nI vn) = vn := tn_nI (by omega)
    have hVr : inR (nI vn) (nI 0) (nI 3) = true := hV
    cases hY : inR y (nI 0) (nI 120) with
    | false =>
      refine Ct.of hl (by decide +kernel) (Nat.le_of_ble_eq_true rfl) ?_
      intro p e s mi args below meth c o hnm hr hx
      have o : Ok p l s mi args meth c g cX5_term 4 RX5 := o
      refine v_lv [(0, .ref x), (1, .int (nI vn)), (2, .int y)] rfl ?_
      refine v_iload_n 1 o dX5_term_0 rfl rfl ?_
      refine v_callS [.int (nI vn)] [] o dX5_term_1 cw_X5_227 st_X5_needLand (c_needLand_t hl vn (by omega)) rfl rfl (by decide) (by decide) (Nat.le_of_ble_eq_true rfl) ?_ (fun _ _ _ _ h => h.elim)
      rintro _ _ _ _ ⟨rfl, rfl, hz9⟩
      subst hz9
      refine v_st [] rfl ?_
      refine v_iload_n 2 o dX5_term_4 rfl rfl ?_
      refine v_iconst 0 o dX5_term_5 rfl ?_
      refine v_bipush 120 o dX5_term_6 (by decide) ?_
      refine v_callS [.int y, .int (nI 0), .int (nI 120)] [] o dX5_term_8 cw_X5_54 st_X5_needArgument (c_needArg_f hl y (nI 0) (nI 120) hY) rfl rfl (by decide) (by decide) (Nat.le_of_ble_eq_true rfl) (fun _ _ _ _ h => h.elim) ?_
      rintro _ _ z9 hz ⟨rfl, rfl, -⟩
      exact v_out o hx (by decide) (by decide) ⟨⟨1, (by simp [sp_term, hVr, tv, hY] : (sp_term σ (nI vn) y).2 = th σ 2), rfl⟩, rfl⟩
    | true =>
      refine Ct.of hl (by decide +kernel) (Nat.le_of_ble_eq_true rfl) ?_
      intro p e s mi args below meth c o hnm hr hx
      have o : Ok p l s mi args meth c g cX5_term 4 RX5 := o
      refine v_lv [(0, .ref x), (1, .int (nI vn)), (2, .int y)] rfl ?_
      refine v_iload_n 1 o dX5_term_0 rfl rfl ?_
      refine v_callS [.int (nI vn)] [] o dX5_term_1 cw_X5_227 st_X5_needLand (c_needLand_t hl vn (by omega)) rfl rfl (by decide) (by decide) (Nat.le_of_ble_eq_true rfl) ?_ (fun _ _ _ _ h => h.elim)
      rintro _ _ _ _ ⟨rfl, rfl, hz9⟩
      subst hz9
      refine v_st [] rfl ?_
      refine v_iload_n 2 o dX5_term_4 rfl rfl ?_
      refine v_iconst 0 o dX5_term_5 rfl ?_
      refine v_bipush 120 o dX5_term_6 (by decide) ?_
      refine v_callS [.int y, .int (nI 0), .int (nI 120)] [] o dX5_term_8 cw_X5_54 st_X5_needArgument (c_needArg_t hl y (nI 0) (nI 120) hY) rfl rfl (by decide) (by decide) (Nat.le_of_ble_eq_true rfl) ?_ (fun _ _ _ _ h => h.elim)
      rintro _ _ _ _ ⟨rfl, rfl, hz9⟩
      subst hz9
      refine v_st [] rfl ?_
      refine v_aload_n 0 o dX5_term_11 rfl rfl ?_
      refine v_get (v := .ref (x + 11)) o dX5_term_12 cf5 8 (by decide) fl_X5_44 hR.h0 rfl ?_
      refine v_iload_n 1 o dX5_term_15 rfl rfl ?_
      refine v_iald (σ.2.2.1 7 vn) o dX5_term_16 (by omega) (by decide) hR.h11 rfl ?_
      refine v_istore_n [(3, .int (σ.2.2.1 7 vn)), (0, .ref x), (1, .int (nI vn)), (2, .int y)] o dX5_term_17 rfl (by decide) rfl ?_
      refine v_aload_n 1 o dX5_term_18 rfl rfl ?_
      refine v_get (v := .ref (x + 11)) o dX5_term_19 cf5 8 (by decide) fl_X5_44 hR.h0 rfl ?_
      refine v_iload_n 2 o dX5_term_22 rfl rfl ?_
      refine v_iload_n 3 o dX5_term_23 rfl rfl ?_
      refine v_iast o dX5_term_24 (by omega) (by decide) hR.h11 (fun μ1 e1 => ?_)
      have hR1 := hR.u_terms (k0 := vn) (v := y) e1
      refine v_iload_n 0 o dX5_term_25 rfl rfl ?_
      have e9 : sp_term σ (nI vn) y = (σ.2.2.1 7 vn, uI (th σ 0) 7 vn y) := by simp [sp_term, th, hVr, tv, hY]
      exact v_iret o dX5_term_26 hr (Nat.le_of_ble_eq_true rfl) (Nat.le_of_ble_eq_true rfl) (by rw [e9]; exact ⟨rfl, rfl, _, _, hR1.thk 0⟩)

set_option maxRecDepth 100000 in
set_option maxHeartbeats 4000000 in
theorem k_pass {l : Launch} (hl : l.stackTraces = false) {g : mG} {x z z0 : Nat} {B : Nat → Nat} {μ0 μ : mM} {σ τ : Sg} (hR : RC g x B z0 μ0 σ τ μ) (hI : Inv σ) (y : Int32) : Ct l g yX5_pass [Cond.code yX5_pass cX5_pass 2 (some .int)] { frames := 7, cells := 1, slots := 6, locals := 104 } [.ref x, .int y] μ z (clP g x z0 μ0 (some (.int (sp_pass σ y).1)) (sp_pass σ y).2) (clX ["java/lang/IllegalArgumentException", "java/lang/IllegalStateException"] σ (sp_pass σ y).2 μ) := by
  cases hY : inR y (nI 1) (nI 100) with
  | false =>
    refine Ct.of hl (by decide +kernel) (Nat.le_of_ble_eq_true rfl) ?_
    intro p e s mi args below meth c o hnm hr hx
    have o : Ok p l s mi args meth c g cX5_pass 2 RX5 := o
    refine v_lv [(0, .ref x), (1, .int y)] rfl ?_
    refine v_iload_n 1 o dX5_pass_0 rfl rfl ?_
    refine v_iconst 1 o dX5_pass_1 rfl ?_
    refine v_bipush 100 o dX5_pass_2 (by decide) ?_
    refine v_callS [.int y, .int (nI 1), .int (nI 100)] [] o dX5_pass_4 cw_X5_54 st_X5_needArgument (c_needArg_f hl y (nI 1) (nI 100) hY) rfl rfl (by decide) (by decide) (Nat.le_of_ble_eq_true rfl) (fun _ _ _ _ h => h.elim) ?_
    rintro _ _ z9 hz ⟨rfl, rfl, -⟩
    exact v_out o hx (by decide) (by decide) ⟨⟨0, (by simp [sp_pass, hY] : (sp_pass σ y).2 = th σ 1), rfl⟩, rfl⟩
  | true =>
    refine Ct.of hl (by decide +kernel) (Nat.le_of_ble_eq_true rfl) ?_
    intro p e s mi args below meth c o hnm hr hx
    have o : Ok p l s mi args meth c g cX5_pass 2 RX5 := o
    refine v_lv [(0, .ref x), (1, .int y)] rfl ?_
    refine v_iload_n 1 o dX5_pass_0 rfl rfl ?_
    refine v_iconst 1 o dX5_pass_1 rfl ?_
    refine v_bipush 100 o dX5_pass_2 (by decide) ?_
    refine v_callS [.int y, .int (nI 1), .int (nI 100)] [] o dX5_pass_4 cw_X5_54 st_X5_needArgument (c_needArg_t hl y (nI 1) (nI 100) hY) rfl rfl (by decide) (by decide) (Nat.le_of_ble_eq_true rfl) ?_ (fun _ _ _ _ h => h.elim)
    rintro _ _ _ _ ⟨rfl, rfl, hz9⟩
    subst hz9
    refine v_st [] rfl ?_
    refine v_aload_n 0 o dX5_pass_7 rfl rfl ?_
    refine v_get (v := .int (σ.2.2.1 8 1)) o dX5_pass_8 cf5 7 (by decide) fl_X5_40 hR.h0 rfl ?_
    refine v_iload_n 1 o dX5_pass_11 rfl rfl ?_
    refine v_iadd ((σ.2.2.1 8 1) + y) o dX5_pass_12 rfl ?_
    refine v_sipush 4000 o dX5_pass_13 (by decide) ?_
    refine v_icmp_le 29 o dX5_pass_16 (by decide) (fun c16 => ?_) (fun c16 => ?_)
    · refine v_aload_n 0 o dX5_pass_29 rfl rfl ?_
      refine v_dup o dX5_pass_30 rfl ?_
      refine v_get (v := .int (σ.2.2.1 8 1)) o dX5_pass_31 cf5 7 (by decide) fl_X5_40 hR.h0 rfl ?_
      refine v_iload_n 1 o dX5_pass_34 rfl rfl ?_
      refine v_iadd ((σ.2.2.1 8 1) + y) o dX5_pass_35 rfl ?_
      refine v_put _ o dX5_pass_36 cf5 7 (by decide) (by decide) fl_X5_40 hR.h0 rfl rfl (Nat.le_of_ble_eq_true rfl) rfl (fun μ1 e1 => ?_)
      have hR1 := hR.u_year (v := (σ.2.2.1 8 1) + y) e1
      refine v_aload_n 0 o dX5_pass_39 rfl rfl ?_
      refine v_get (v := .int ((σ.2.2.1 8 1) + y)) o dX5_pass_40 cf5 7 (by decide) fl_X5_40 hR1.h0 rfl ?_
      have e9 : sp_pass σ y = ((σ.2.2.1 8 1) + y, uI (th σ 0) 8 1 ((σ.2.2.1 8 1) + y)) := by simp [sp_pass, th, hY, Int32.not_lt.mpr c16]
      exact v_iret o dX5_pass_43 hr (Nat.le_of_ble_eq_true rfl) (Nat.le_of_ble_eq_true rfl) (by rw [e9]; exact ⟨rfl, rfl, _, _, hR1.thk 0⟩)
    · exact v_throw (E := "java/lang/IllegalStateException") (text := "the year would be above the last one") o hx dX5_pass_19 dX5_pass_22 dX5_pass_23 dX5_pass_25 dX5_pass_28 (by decide +kernel) (by decide +kernel) tw_ISE (by decide) (Nat.le_of_ble_eq_true rfl) (by decide) (by decide) (by decide) (by decide) (fun z' hz => ⟨⟨1, (by simp [sp_pass, hY, Int32.not_le.mp c16] : (sp_pass σ y).2 = th σ 2), rfl⟩, rfl⟩)

