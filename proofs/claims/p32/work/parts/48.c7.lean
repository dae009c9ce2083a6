/-- nodes above d are joined -/
def JN (F : Nat → Int64) (d : Nat) (f : Nat → Int64) : Prop := ∀ n, d < n → n < 32 → f n = trn F 4 (n - 1)
theorem JN.z {F f : Nat → Int64} (h : ∀ k, k < 16 → f (16 + k) = F k) : JN F 15 f := fun n h1 h2 => by
  rw [trn_leaf F (show 15 ≤ n - 1 by omega) 4, ← h (n - 1 - 15) (by omega), show 16 + (n - 1 - 15) = n by omega]
theorem JN.s {F f : Nat → Int64} {d : Nat} (h : JN F (d + 1) f) (hd : d < 15) : JN F d (vp_updL f (d + 1) (31 * f (2 * (d + 1)) + f (2 * (d + 1) + 1))) := fun n h1 h2 => by
  unfold vp_updL
  by_cases q : n = d + 1
  · subst q
    rw [if_pos rfl, h (2 * (d + 1)) (by omega) (by omega), h (2 * (d + 1) + 1) (by omega) (by omega)]
    show _ = trn F 4 d
    rw [trn_node F hd]
    rfl
  · rw [if_neg q]
    exact h n (by omega) h2
set_option maxRecDepth 100000 in
set_option maxHeartbeats 4000000 in
theorem c_join {l : Launch} (hl : l.stackTraces = false) {g : mG} {z : Nat} {μ : mM} {r : Nat} {f F : Nat → Int64} (he : μ r = some (.inl (g.2.1 2, aL 32 f))) (hF : ∀ k, k < 16 → f (16 + k) = F k) : Ct l g yX4_joinUpwards [Cond.code yX4_joinUpwards cX4_joinUpwards 2 none] { frames := 0, cells := 0, slots := 0, locals := 0 } [.ref r] μ z (fun q μ' z' => q = none ∧ (∃ f', μ' = up μ r (.inl (g.2.1 2, aL 32 f')) ∧ JN F 0 f') ∧ z = z') (noX) := by
  refine Ct.of hl (by decide +kernel) (Nat.le_of_ble_eq_true rfl) ?_
  intro p e s mi args below meth c o hnm hr hx
  have o : Ok p l s mi args meth c g cX4_joinUpwards 2 RX4 := o
  refine v_lv [(0, .ref r)] rfl ?_
  have L : ∀ (d : Nat) (fq : Nat → Int64) (μq : mM), d ≤ 15 → JN F d fq → μq r = some (.inl (g.2.1 2, aL 32 fq)) → (∀ a, a ≠ r → μq a = μ a) → V p l e { frames := 0, cells := 0, slots := 0, locals := 0 } s mi args below meth c (vx_MQ below (cQc g (fun q μ' z' => q = none ∧ (∃ f', μ' = up μ r (.inl (g.2.1 2, aL 32 f')) ∧ JN F 0 f') ∧ z = z')) (cXC g (noX)) args s ({ frames := 0, cells := 0, slots := 0, locals := 0 } : Room).cells ({ frames := 0, cells := 0, slots := 0, locals := 0 } : Room).slots (gA g)) g μq z 0 0 3 [(0, .ref r), (1, .int (nI d))] [] := by
    intro d
    induction d with
    | zero =>
      intro fq μq hd hJ hq hf
      refine v_iload_n 1 o dX4_joinUpwards_3 rfl rfl ?_
      refine v_iconst 1 o dX4_joinUpwards_4 rfl ?_
      refine v_icmp_lt_n 34 o dX4_joinUpwards_5 (by decide) (by decide) (by decide) (fun c5 => ?_) (fun c5 => absurd c5 (by omega))
      exact v_vret o dX4_joinUpwards_34 hr (Nat.le_of_ble_eq_true rfl) (Nat.le_of_ble_eq_true rfl) ⟨rfl, ⟨fq, up_ext hq hf, hJ⟩, rfl⟩
    | succ d ih =>
      intro fq μq hd hJ hq hf
      refine v_iload_n 1 o dX4_joinUpwards_3 rfl rfl ?_
      refine v_iconst 1 o dX4_joinUpwards_4 rfl ?_
      refine v_icmp_lt_n 34 o dX4_joinUpwards_5 (by decide) (by omega) (by decide) (fun c5 => absurd c5 (by omega)) (fun c5 => ?_)
      refine v_aload_n 0 o dX4_joinUpwards_8 rfl rfl ?_
      refine v_iload_n 1 o dX4_joinUpwards_9 rfl rfl ?_
      refine v_ldc2 (31) o dX4_joinUpwards_10 ct_X4_34 ?_
      refine v_aload_n 0 o dX4_joinUpwards_13 rfl rfl ?_
      refine v_iconst 2 o dX4_joinUpwards_14 rfl ?_
      refine v_iload_n 1 o dX4_joinUpwards_15 rfl rfl ?_
      refine v_imul (nI (2 * (d + 1))) o dX4_joinUpwards_16 (pk_mul 2 (d + 1)) ?_
      refine v_lald (fq (2 * (d + 1))) o dX4_joinUpwards_17 (by omega) (by decide) hq rfl ?_
      refine v_lmul (31 * (fq (2 * (d + 1)))) o dX4_joinUpwards_18 rfl ?_
      refine v_aload_n 0 o dX4_joinUpwards_19 rfl rfl ?_
      refine v_iconst 2 o dX4_joinUpwards_20 rfl ?_
      refine v_iload_n 1 o dX4_joinUpwards_21 rfl rfl ?_
      refine v_imul (nI (2 * (d + 1))) o dX4_joinUpwards_22 (pk_mul 2 (d + 1)) ?_
      refine v_iconst 1 o dX4_joinUpwards_23 rfl ?_
      refine v_iadd (nI (2 * (d + 1) + 1)) o dX4_joinUpwards_24 (nI_add (2 * (d + 1)) 1) ?_
      refine v_lald (fq (2 * (d + 1) + 1)) o dX4_joinUpwards_25 (by omega) (by decide) hq rfl ?_
      refine v_ladd ((31 * (fq (2 * (d + 1)))) + (fq (2 * (d + 1) + 1))) o dX4_joinUpwards_26 rfl ?_
      refine v_last o dX4_joinUpwards_27 (by omega) (by decide) hq (fun μ1 e1 => ?_)
      refine v_iinc (nI d) [(1, .int (nI d)), (0, .ref r)] o dX4_joinUpwards_28 1 rfl ((iinc_m1 (d + 1)).trans (mI_s d)) (by decide) rfl ?_
      refine v_goto 3 o dX4_joinUpwards_31 (by decide) ?_
      refine v_sub [(0, .ref r), (1, .int (nI d))] [1, 0] rfl ?_
      exact ih _ _ (by omega) (hJ.s (by omega)) (by rw [e1, up_s]) (fun a ha => by rw [e1, up_n ha]; exact hf a ha)
  refine v_bipush 15 o dX4_joinUpwards_0 (by decide) ?_
  refine v_istore_n [(1, .int (nI 15)), (0, .ref r)] o dX4_joinUpwards_2 rfl (by decide) rfl ?_
  refine v_sub [(0, .ref r), (1, .int (nI 15))] [1, 0] rfl ?_
  exact L 15 f μ (by decide) (JN.z hF) he (fun _ _ => rfl)

theorem leafB_in {σ : Sg} {i j : Nat} (h : j < σ.1 0 i) : leafB σ i j = imgP σ (12 * i + j) := by
  unfold leafB imgP
  by_cases q : σ.2.1 2 (12 * i + j) = true
  · rw [if_pos ⟨h, q⟩, if_pos q]
  · rw [if_neg (fun w => q w.2), if_neg q]
theorem leafV_in {σ : Sg} {v i j : Nat} (h : j < σ.1 0 i) : leafV σ v i j = cpyP σ v (12 * i + j) := by
  unfold leafV cpyP
  by_cases q : σ.2.1 5 (72 * v + (12 * i + j)) = true
  · rw [if_pos ⟨h, q⟩, if_pos q]
  · rw [if_neg (fun w => q w.2), if_neg q]
theorem leafB_out {σ : Sg} {i j : Nat} (h : σ.1 0 i ≤ j) : leafB σ i j = 0 := if_neg (fun w => absurd w.1 (Nat.not_lt.mpr h))
theorem leafV_out {σ : Sg} {v i j : Nat} (h : σ.1 0 i ≤ j) : leafV σ v i j = 0 := if_neg (fun w => absurd w.1 (Nat.not_lt.mpr h))
/-- the first j leaves are laid -/
def PL (σ : Sg) (v i : Nat) (τ : Sg) (j : Nat) : Prop := ∀ k, k < j → τ.2.2.2 0 (16 + k) = leafB σ i k ∧ τ.2.2.2 1 (16 + k) = leafV σ v i k
theorem PL.s {σ τ : Sg} {v i j : Nat} {a b : Int64} (h : PL σ v i τ j) (ha : leafB σ i j = a) (hb : leafV σ v i j = b) : PL σ v i (uL (uL τ 0 (16 + j) a) 1 (16 + j) b) (j + 1) := fun k hk => by
  by_cases q : k = j
  · subst q
    refine ⟨?_, ?_⟩
    · show u2 (u2 τ.2.2.2 0 (16 + k) a) 1 (16 + k) b 0 (16 + k) = _
      rw [u2_k (by decide), u2_s, ha]
    · show u2 (u2 τ.2.2.2 0 (16 + k) a) 1 (16 + k) b 1 (16 + k) = _
      rw [u2_s, hb]
  · have h1 := h k (by omega)
    refine ⟨?_, ?_⟩
    · show u2 (u2 τ.2.2.2 0 (16 + j) a) 1 (16 + j) b 0 (16 + k) = _
      rw [u2_k (by decide), u2_i (by omega), h1.1]
    · show u2 (u2 τ.2.2.2 0 (16 + j) a) 1 (16 + j) b 1 (16 + k) = _
      rw [u2_i (by omega), u2_k (by decide), h1.2]
def sL (τ : Sg) (q : Nat) (f : Nat → Int64) : Sg := (τ.1, τ.2.1, τ.2.2.1, fun k i => if k = q then f i else τ.2.2.2 k i)
theorem RC.joinB {g : mG} {x : Nat} {B : Nat → Nat} {z0 : Nat} {μ0 μ μ1 : mM} {σ τ : Sg} {f : Nat → Int64} (h : RC g x B z0 μ0 σ τ μ) (e : μ1 = up μ (x + 4) (.inl (g.2.1 2, aL 32 f))) : RC g x B z0 μ0 σ (sL τ 0 f) μ1 := by
  subst e
  exact h.setH 4 (by decide) rfl rfl rfl (fun j hj hne => by
    rcases (show j = 0 ∨ j = 1 ∨ j = 2 ∨ j = 3 ∨ j = 5 ∨ j = 6 ∨ j = 7 ∨ j = 8 ∨ j = 9 ∨ j = 10 ∨ j = 11 by omega) with rfl | rfl | rfl | rfl | rfl | rfl | rfl | rfl | rfl | rfl | rfl <;> rfl) (fun i hi => ⟨rfl, fun j hj c hc => rfl⟩)
theorem RC.joinV {g : mG} {x : Nat} {B : Nat → Nat} {z0 : Nat} {μ0 μ μ1 : mM} {σ τ : Sg} {f : Nat → Int64} (h : RC g x B z0 μ0 σ τ μ) (e : μ1 = up μ (x + 5) (.inl (g.2.1 2, aL 32 f))) : RC g x B z0 μ0 σ (sL τ 1 f) μ1 := by
  subst e
  exact h.setH 5 (by decide) rfl rfl rfl (fun j hj hne => by
    rcases (show j = 0 ∨ j = 1 ∨ j = 2 ∨ j = 3 ∨ j = 4 ∨ j = 6 ∨ j = 7 ∨ j = 8 ∨ j = 9 ∨ j = 10 ∨ j = 11 by omega) with rfl | rfl | rfl | rfl | rfl | rfl | rfl | rfl | rfl | rfl | rfl <;> rfl) (fun i hi => ⟨rfl, fun j hj c hc => rfl⟩)
/-- both trees stand -/
def JT (σ : Sg) (v i : Nat) (τ : Sg) : Prop := ∀ n, 0 < n → n < 32 → τ.2.2.2 0 n = trn (leafB σ i) 4 (n - 1) ∧ τ.2.2.2 1 n = trn (leafV σ v i) 4 (n - 1)
set_option maxRecDepth 100000 in
set_option maxHeartbeats 4000000 in
theorem c_plant {l : Launch} (hl : l.stackTraces = false) {g : mG} {x z z0 : Nat} {B : Nat → Nat} {μ0 μ : mM} {σ τ : Sg} (hR : RC g x B z0 μ0 σ τ μ) (i : Nat) (hi : i < σ.1 3 0) (v : Nat) (hv : v < 4) : Ct l g yX4_plant [Cond.code yX4_plant cX4_plant 5 none] { frames := 2, cells := 0, slots := 0, locals := 42 } [.ref (x + 3), .ref (B i + 1), .int (nI v)] μ z (fun r μ' z' => r = none ∧ (∃ τ', RC g x B z0 μ0 σ τ' μ' ∧ JT σ v i τ') ∧ z = z') (noX) := by
  refine Ct.of hl (by decide +kernel) (Nat.le_of_ble_eq_true rfl) ?_
  intro p e s mi args below meth c o hnm hr hx
  have o : Ok p l s mi args meth c g cX4_plant 5 RX4 := o
  refine v_lv [(0, .ref (x + 3)), (1, .ref (B i + 1)), (2, .int (nI v))] rfl ?_
  have h12 := hR.np i
  have L : ∀ (d j : Nat) (τq : Sg) (μq : mM), j + d = 16 → RC g x B z0 μ0 σ τq μq → PL σ v i τq j → V p l e { frames := 2, cells := 0, slots := 0, locals := 42 } s mi args below meth c (vx_MQ below (cQc g (fun r μ' z' => r = none ∧ (∃ τ', RC g x B z0 μ0 σ τ' μ' ∧ JT σ v i τ') ∧ z = z')) (cXC g (noX)) args s ({ frames := 2, cells := 0, slots := 0, locals := 42 } : Room).cells ({ frames := 2, cells := 0, slots := 0, locals := 42 } : Room).slots (gA g)) g μq z 0 0 2 [(0, .ref (x + 3)), (1, .ref (B i + 1)), (2, .int (nI v)), (3, .int (nI j))] [] := by
    intro d
    induction d with
    | zero =>
      intro j τq μq hj16 hRq hPj
      have hP : PL σ v i τq 16 := (show j = 16 by omega) ▸ hPj
      refine v_iload_n 3 o dX4_plant_2 rfl rfl ?_
      refine v_bipush 16 o dX4_plant_3 (by decide) ?_
      refine v_icmp_ge_n 76 o dX4_plant_5 (by decide) (by omega) (by decide) (fun c5 => ?_) (fun c5 => absurd c5 (by omega))
      refine v_aload_n 0 o dX4_plant_76 rfl rfl ?_
      refine v_get (v := .ref (x + 4)) o dX4_plant_77 cf4 0 (by decide) fl_X4_9 hRq.h3 rfl ?_
      refine v_callS [.ref (x + 4)] [] o dX4_plant_80 cw_X4_30 st_X4_joinUpwards (c_join hl hRq.h4 (F := leafB σ i) (fun k hk => (hP k hk).1)) rfl rfl (by decide) (by decide) (Nat.le_of_ble_eq_true rfl) ?_ (fun _ _ _ _ h => h.elim)
      rintro _ μ1 _ _ ⟨rfl, ⟨f1, e1, J1⟩, rfl⟩
      have hR1 := hRq.joinB e1
      refine v_st [] rfl ?_
      refine v_aload_n 0 o dX4_plant_83 rfl rfl ?_
      refine v_get (v := .ref (x + 5)) o dX4_plant_84 cf4 1 (by decide) fl_X4_13 hR1.h3 rfl ?_
      refine v_callS [.ref (x + 5)] [] o dX4_plant_87 cw_X4_30 st_X4_joinUpwards (c_join hl hR1.h5 (F := leafV σ v i) (fun k hk => (hP k hk).2)) rfl rfl (by decide) (by decide) (Nat.le_of_ble_eq_true rfl) ?_ (fun _ _ _ _ h => h.elim)
      rintro _ μ2 _ _ ⟨rfl, ⟨f2, e2, J2⟩, rfl⟩
      have hR2 := hR1.joinV e2
      refine v_st [] rfl ?_
      exact v_vret o dX4_plant_90 hr (Nat.le_of_ble_eq_true rfl) (Nat.le_of_ble_eq_true rfl) ⟨rfl, ⟨_, hR2, fun n h1 h2 => ⟨J1 n h1 h2, J2 n h1 h2⟩⟩, rfl⟩
    | succ d ih =>
      intro j τq μq hj16 hRq hP
      refine v_iload_n 3 o dX4_plant_2 rfl rfl ?_
      refine v_bipush 16 o dX4_plant_3 (by decide) ?_
      refine v_icmp_ge_n 76 o dX4_plant_5 (by decide) (by omega) (by decide) (fun c5 => absurd c5 (by omega)) (fun c5 => ?_)
      refine v_iload_n 3 o dX4_plant_8 rfl rfl ?_
      refine v_aload_n 1 o dX4_plant_9 rfl rfl ?_
      refine v_alen (t0 := 3) o dX4_plant_10 rfl (hRq.ps hi) ?_
      refine v_top (nI (σ.1 0 i)) rfl ?_
      refine v_icmp_ge_n 18 o dX4_plant_11 (by decide) (by omega) (by omega) (fun c11 => ?_) (fun c11 => ?_)
      · refine v_iconst 0 o dX4_plant_18 rfl ?_
        refine v_istore [(4, .int (nI 0)), (0, .ref (x + 3)), (1, .ref (B i + 1)), (2, .int (nI v)), (3, .int (nI j))] o dX4_plant_19 (by decide) rfl ?_
        refine v_aload_n 1 o dX4_plant_21 rfl rfl ?_
        refine v_get (v := .ref (x + 4)) o dX4_plant_22 cf4 0 (by decide) fl_X4_9 hRq.h3 rfl ?_
        refine v_bipush 16 o dX4_plant_25 (by decide) ?_
        refine v_iload_n 4 o dX4_plant_27 rfl rfl ?_
        refine v_iadd (nI (16 + j)) o dX4_plant_28 (nI_add 16 j) ?_
        refine v_iload 0 o dX4_plant_29 rfl ?_
        refine v_if_eq_n 43 o dX4_plant_31 (by decide) (by decide) (fun c31 => ?_) (fun c31 => absurd c31 (by omega))
        refine v_lconst 0 o dX4_plant_43 (by decide) ?_
        refine v_last o dX4_plant_44 (by omega) (by decide) hRq.h4 (fun μ3 e3 => ?_)
        have hR3 := hRq.u_tb (k0 := 16 + j) (v := 0) e3
        refine v_aload_n 1 o dX4_plant_45 rfl rfl ?_
        refine v_get (v := .ref (x + 5)) o dX4_plant_46 cf4 1 (by decide) fl_X4_13 hR3.h3 rfl ?_
        refine v_bipush 16 o dX4_plant_49 (by decide) ?_
        refine v_iload_n 4 o dX4_plant_51 rfl rfl ?_
        refine v_iadd (nI (16 + j)) o dX4_plant_52 (nI_add 16 j) ?_
        refine v_iload 0 o dX4_plant_53 rfl ?_
        refine v_if_eq_n 68 o dX4_plant_55 (by decide) (by decide) (fun c55 => ?_) (fun c55 => absurd c55 (by omega))
        refine v_lconst 0 o dX4_plant_68 (by decide) ?_
        refine v_last o dX4_plant_69 (by omega) (by decide) hR3.h5 (fun μ4 e4 => ?_)
        have hR4 := hR3.u_tv (k0 := 16 + j) (v := 0) e4
        refine v_iinc (nI (j + 1)) [(3, .int (nI (j + 1))), (4, .int (nI 0)), (0, .ref (x + 3)), (1, .ref (B i + 1)), (2, .int (nI v))] o dX4_plant_70 4 rfl (iinc_n j 1) (by decide) rfl ?_
        refine v_goto 2 o dX4_plant_73 (by decide) ?_
        refine v_sub [(0, .ref (x + 3)), (1, .ref (B i + 1)), (2, .int (nI v)), (3, .int (nI (j + 1)))] [2, 3, 4, 0] rfl ?_
        exact ih (j + 1) _ _ (by omega) hR4 (hP.s (leafB_out c11) (leafV_out c11))
      · refine v_iconst 1 o dX4_plant_14 rfl ?_
        refine v_goto 19 o dX4_plant_15 (by decide) ?_
        refine v_istore [(4, .int (nI 1)), (0, .ref (x + 3)), (1, .ref (B i + 1)), (2, .int (nI v)), (3, .int (nI j))] o dX4_plant_19 (by decide) rfl ?_
        refine v_aload_n 1 o dX4_plant_21 rfl rfl ?_
        refine v_get (v := .ref (x + 4)) o dX4_plant_22 cf4 0 (by decide) fl_X4_9 hRq.h3 rfl ?_
        refine v_bipush 16 o dX4_plant_25 (by decide) ?_
        refine v_iload_n 4 o dX4_plant_27 rfl rfl ?_
        refine v_iadd (nI (16 + j)) o dX4_plant_28 (nI_add 16 j) ?_
        refine v_iload 0 o dX4_plant_29 rfl ?_
        refine v_if_eq_n 43 o dX4_plant_31 (by decide) (by decide) (fun c31 => absurd c31 (by omega)) (fun c31 => ?_)
        refine v_aload_n 2 o dX4_plant_34 rfl rfl ?_
        refine v_iload_n 4 o dX4_plant_35 rfl rfl ?_
        refine v_aald (t0 := 3) (.ref (pA B i j)) o dX4_plant_36 rfl (Nat.not_le.mp c11) (by omega) (hRq.ps hi) (by simp only [if_pos (show j < σ.1 0 i from (Nat.not_le.mp c11))]; rfl) ?_
        refine v_callVr (v := .long (imgP σ (12 * i + j))) [] [.int (nI (16 + j)), .ref (x + 4)] o dX4_plant_37 cw_X4_20 im_X2_imageProof se_X2_imageProof cf2 (hRq.p0 hi (Nat.not_le.mp c11)) (c_imageProof hl hRq i j hi (Nat.not_le.mp c11)) rfl rfl (by decide) ⟨rfl, rfl⟩ (by decide) (Nat.le_of_ble_eq_true rfl) ?_
        refine v_goto 44 o dX4_plant_40 (by decide) ?_
        refine v_last o dX4_plant_44 (by omega) (by decide) hRq.h4 (fun μ5 e5 => ?_)
        have hR5 := hRq.u_tb (k0 := 16 + j) (v := imgP σ (12 * i + j)) e5
        refine v_aload_n 1 o dX4_plant_45 rfl rfl ?_
        refine v_get (v := .ref (x + 5)) o dX4_plant_46 cf4 1 (by decide) fl_X4_13 hR5.h3 rfl ?_
        refine v_bipush 16 o dX4_plant_49 (by decide) ?_
        refine v_iload_n 4 o dX4_plant_51 rfl rfl ?_
        refine v_iadd (nI (16 + j)) o dX4_plant_52 (nI_add 16 j) ?_
        refine v_iload 0 o dX4_plant_53 rfl ?_
        refine v_if_eq_n 68 o dX4_plant_55 (by decide) (by decide) (fun c55 => absurd c55 (by omega)) (fun c55 => ?_)
        refine v_aload_n 2 o dX4_plant_58 rfl rfl ?_
        refine v_iload_n 4 o dX4_plant_59 rfl rfl ?_
        refine v_aald (t0 := 3) (.ref (pA B i j)) o dX4_plant_60 rfl (Nat.not_le.mp c11) (by omega) (hR5.ps hi) (by simp only [if_pos (show j < σ.1 0 i from (Nat.not_le.mp c11))]; rfl) ?_
        refine v_iload_n 3 o dX4_plant_61 rfl rfl ?_
        refine v_callVr (v := .long (cpyP σ v (12 * i + j))) [.int (nI v)] [.int (nI (16 + j)), .ref (x + 5)] o dX4_plant_62 cw_X4_26 im_X2_copyProof se_X2_copyProof cf2 (hR5.p0 hi (Nat.not_le.mp c11)) (c_copyProof hl hR5 i j hi (Nat.not_le.mp c11) v (by omega)) rfl rfl (by decide) ⟨rfl, rfl⟩ (by decide) (Nat.le_of_ble_eq_true rfl) ?_
        refine v_goto 69 o dX4_plant_65 (by decide) ?_
        refine v_last o dX4_plant_69 (by omega) (by decide) hR5.h5 (fun μ6 e6 => ?_)
        have hR6 := hR5.u_tv (k0 := 16 + j) (v := cpyP σ v (12 * i + j)) e6
        refine v_iinc (nI (j + 1)) [(3, .int (nI (j + 1))), (4, .int (nI 1)), (0, .ref (x + 3)), (1, .ref (B i + 1)), (2, .int (nI v))] o dX4_plant_70 4 rfl (iinc_n j 1) (by decide) rfl ?_
        refine v_goto 2 o dX4_plant_73 (by decide) ?_
        refine v_sub [(0, .ref (x + 3)), (1, .ref (B i + 1)), (2, .int (nI v)), (3, .int (nI (j + 1)))] [2, 3, 4, 0] rfl ?_
        exact ih (j + 1) _ _ (by omega) hR6 (hP.s (leafB_in (Nat.not_le.mp c11)) (leafV_in (Nat.not_le.mp c11)))
  refine v_iconst 0 o dX4_plant_0 rfl ?_
  refine v_istore_n [(3, .int (nI 0)), (0, .ref (x + 3)), (1, .ref (B i + 1)), (2, .int (nI v))] o dX4_plant_1 rfl (by decide) rfl ?_
  refine v_sub [(0, .ref (x + 3)), (1, .ref (B i + 1)), (2, .int (nI v)), (3, .int (nI 0))] [1, 2, 3, 0] rfl ?_
  exact L 16 0 _ _ rfl hR (fun k hk => absurd hk (Nat.not_lt_zero k))

