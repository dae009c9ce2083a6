theorem puts_N (σ : Sg) (a : Nat) (its : Int64) : ∀ v, (puts σ a its v).1 = σ.1
  | 0 => rfl
  | v + 1 => by
    rw [← puts_N σ a its v]
    show (putv (puts σ a its v) a its v).1 = _
    unfold putv
    split <;> rfl
theorem puts_eta (σ : Sg) (a : Nat) (its : Int64) (v : Nat) : puts σ a its v = (σ.1, (puts σ a its v).2) := Prod.ext (puts_N σ a its v) rfl
theorem puts_et2 (f : Nat → Nat → Nat) (s0 : (Nat → Nat → Bool) × (Nat → Nat → Int32) × (Nat → Nat → Int64)) (a : Nat) (its : Int64) (v : Nat) : puts (f, s0) a its v = (f, (puts (f, s0) a its v).2) := puts_eta (f, s0) a its v
theorem puts_th (σ : Sg) (a : Nat) (its : Int64) (c : Nat) : ∀ v, puts (th σ c) a its v = th (puts σ a its v) c
  | 0 => rfl
  | v + 1 => by
    show putv (puts (th σ c) a its v) a its v = th (putv (puts σ a its v) a its v) c
    rw [puts_th σ a its c v]
    unfold putv
    show (if (puts σ a its v).2.1 6 v = true then _ else _) = _
    split <;> rfl
theorem puts_b {σ : Sg} {a : Nat} {its : Int64} {v : Nat} (h : (puts σ a its v).2.1 6 v = true) : puts σ a its (v + 1) = puts σ a its v := if_pos h
theorem puts_g {σ : Sg} {a : Nat} {its : Int64} {v : Nat} (h : (puts σ a its v).2.1 6 v = false) : puts σ a its (v + 1) = uL (uB (puts σ a its v) 5 (72 * v + a) true) 1 (72 * v + a) its := if_neg (by rw [h]; decide)
theorem uB_43 (σ : Sg) (p : Nat) (a b : Bool) : uB (uB σ 4 p a) 3 p b = uB (uB σ 3 p b) 4 p a := by
  have : u2 (u2 σ.2.1 4 p a) 3 p b = u2 (u2 σ.2.1 3 p b) 4 p a := funext fun k => funext fun i => by
    unfold u2
    by_cases h : k = 3 ∧ i = p
    · rw [if_pos h, if_neg (by omega), if_pos h]
    · rw [if_neg h]
      by_cases w : k = 4 ∧ i = p
      · rw [if_pos w, if_pos w]
      · rw [if_neg w, if_neg w, if_neg h]
  show (σ.1, u2 (u2 σ.2.1 4 p a) 3 p b, σ.2.2) = (σ.1, u2 (u2 σ.2.1 3 p b) 4 p a, σ.2.2)
  rw [this]
set_option maxRecDepth 100000 in
set_option maxHeartbeats 4000000 in
theorem k_shot {l : Launch} (hl : l.stackTraces = false) {g : mG} {x z z0 : Nat} {B : Nat → Nat} {μ0 μ : mM} {σ τ : Sg} (hR : RC g x B z0 μ0 σ τ μ) (hI : Inv σ) (b q angle : Int32) (its : Int64) : Ct l g yX5_shot [Cond.code yX5_shot cX5_shot 10 (some .int)] { frames := 7, cells := 1, slots := 6, locals := 104 } [.ref x, .int b, .int q, .int angle, .long its] μ z (clP g x z0 μ0 (some (.int (sp_shot σ b q angle its).1)) (sp_shot σ b q angle its).2) (clX ["java/lang/IndexOutOfBoundsException", "java/lang/IllegalArgumentException", "java/lang/IllegalStateException"] σ (sp_shot σ b q angle its).2 μ) := by
  cases hB : isB σ b with
  | false =>
    have hP : isP σ b q = false := isP_f hB
    refine Ct.of hl (by decide +kernel) (Nat.le_of_ble_eq_true rfl) ?_
    intro p e s mi args below meth c o hnm hr hx
    have o : Ok p l s mi args meth c g cX5_shot 10 RX5 := o
    refine v_lv [(0, .ref x), (1, .int b), (2, .int q), (3, .int angle), (4, .long its)] rfl ?_
    refine v_aload_n 0 o dX5_shot_0 rfl rfl ?_
    refine v_iload_n 1 o dX5_shot_1 rfl rfl ?_
    refine v_callV [.int b] [] o dX5_shot_2 cw_X5_79 im_X5_bookAt se_X5_bookAt cf5 hR.h0 (c_bookAt_f hl hR b hB) rfl rfl (by decide) (by decide) (Nat.le_of_ble_eq_true rfl) (fun _ _ _ _ h => h.elim) ?_
    rintro _ _ z9 hz ⟨rfl, rfl, -⟩
    exact v_out o hx (by decide) (by decide) ⟨⟨0, (by simp [sp_shot, hP] : (sp_shot σ b q angle its).2 = th σ 1), rfl⟩, rfl⟩
  | true =>
    obtain ⟨i, hi, rfl⟩ := isB_t hI hB
    have h6 := hI.1
    have h12 := hI.2.1 i
    have ti : tn (nI i) = i := tn_nI (by omega)
    cases hQ : okI q (σ.1 0 i) with
    | false =>
      have hP : isP σ (nI i) q = false := by unfold isP; rw [hB, ti, hQ]; rfl
      refine Ct.of hl (by decide +kernel) (Nat.le_of_ble_eq_true rfl) ?_
      intro p e s mi args below meth c o hnm hr hx
      have o : Ok p l s mi args meth c g cX5_shot 10 RX5 := o
      refine v_lv [(0, .ref x), (1, .int (nI i)), (2, .int q), (3, .int angle), (4, .long its)] rfl ?_
      refine v_aload_n 0 o dX5_shot_0 rfl rfl ?_
      refine v_iload_n 1 o dX5_shot_1 rfl rfl ?_
      refine v_callVr (v := .ref (B i)) [.int (nI i)] [] o dX5_shot_2 cw_X5_79 im_X5_bookAt se_X5_bookAt cf5 hR.h0 (c_bookAt_t hl hR i hi) rfl rfl (by decide) ⟨rfl, rfl⟩ (by decide) (Nat.le_of_ble_eq_true rfl) ?_
      refine v_astore [(6, .ref (B i)), (0, .ref x), (1, .int (nI i)), (2, .int q), (3, .int angle), (4, .long its)] o dX5_shot_5 (by decide) rfl ?_
      refine v_aload 0 o dX5_shot_7 rfl ?_
      refine v_iload_n 3 o dX5_shot_9 rfl rfl ?_
      refine v_callS [.ref (B i), .int q] [] o dX5_shot_10 cw_X5_83 st_X5_pageAt (c_pageAt_f hl hR i q hi hQ) rfl rfl (by decide) (by decide) (Nat.le_of_ble_eq_true rfl) (fun _ _ _ _ h => h.elim) ?_
      rintro _ _ z9 hz ⟨rfl, rfl, -⟩
      exact v_out o hx (by decide) (by decide) ⟨⟨0, (by simp [sp_shot, hP] : (sp_shot σ (nI i) q angle its).2 = th σ 1), rfl⟩, rfl⟩
    | true =>
      obtain ⟨j, hj, rfl⟩ := okI_t hQ (by omega)
      have hP := isP_nI hI hi hj
      have tj : tn (nI j) = j := tn_nI (by omega)
      cases hA : inR angle (nI 30) (nI 180) with
      | false =>
        refine Ct.of hl (by decide +kernel) (Nat.le_of_ble_eq_true rfl) ?_
        intro p e s mi args below meth c o hnm hr hx
        have o : Ok p l s mi args meth c g cX5_shot 10 RX5 := o
        refine v_lv [(0, .ref x), (1, .int (nI i)), (2, .int (nI j)), (3, .int angle), (4, .long its)] rfl ?_
        refine v_aload_n 0 o dX5_shot_0 rfl rfl ?_
        refine v_iload_n 1 o dX5_shot_1 rfl rfl ?_
        refine v_callVr (v := .ref (B i)) [.int (nI i)] [] o dX5_shot_2 cw_X5_79 im_X5_bookAt se_X5_bookAt cf5 hR.h0 (c_bookAt_t hl hR i hi) rfl rfl (by decide) ⟨rfl, rfl⟩ (by decide) (Nat.le_of_ble_eq_true rfl) ?_
        refine v_astore [(6, .ref (B i)), (0, .ref x), (1, .int (nI i)), (2, .int (nI j)), (3, .int angle), (4, .long its)] o dX5_shot_5 (by decide) rfl ?_
        refine v_aload 0 o dX5_shot_7 rfl ?_
        refine v_iload_n 3 o dX5_shot_9 rfl rfl ?_
        refine v_callSr (v := .ref (pA B i j)) [.ref (B i), .int (nI j)] [] o dX5_shot_10 cw_X5_83 st_X5_pageAt (c_pageAt_t hl hR i j hi hj) rfl rfl (by decide) ⟨rfl, rfl⟩ (by decide) (Nat.le_of_ble_eq_true rfl) ?_
        refine v_astore [(7, .ref (pA B i j)), (6, .ref (B i)), (0, .ref x), (1, .int (nI i)), (2, .int (nI j)), (3, .int angle), (4, .long its)] o dX5_shot_13 (by decide) rfl ?_
        refine v_iload_n 5 o dX5_shot_15 rfl rfl ?_
        refine v_bipush 30 o dX5_shot_16 (by decide) ?_
        refine v_sipush 180 o dX5_shot_18 (by decide) ?_
        refine v_callS [.int angle, .int (nI 30), .int (nI 180)] [] o dX5_shot_21 cw_X5_54 st_X5_needArgument (c_needArg_f hl angle (nI 30) (nI 180) hA) rfl rfl (by decide) (by decide) (Nat.le_of_ble_eq_true rfl) (fun _ _ _ _ h => h.elim) ?_
        rintro _ _ z9 hz ⟨rfl, rfl, -⟩
        exact v_out o hx (by decide) (by decide) ⟨⟨1, (by simp [sp_shot, hP, ti, tj, hA] : (sp_shot σ (nI i) (nI j) angle its).2 = th σ 2), rfl⟩, rfl⟩
      | true =>
        refine Ct.of hl (by decide +kernel) (Nat.le_of_ble_eq_true rfl) ?_
        intro p e s mi args below meth c o hnm hr hx
        have o : Ok p l s mi args meth c g cX5_shot 10 RX5 := o
        refine v_lv [(0, .ref x), (1, .int (nI i)), (2, .int (nI j)), (3, .int angle), (4, .long its)] rfl ?_
        have L : ∀ (s0 : (Nat → Nat → Bool) × (Nat → Nat → Int32) × (Nat → Nat → Int64)) (vv : Int32), s0.2.1 1 i = vv → sp_shot σ (nI i) (nI j) angle its = (vv, puts (th (σ.1, s0) 0) (12 * i + j) its 4) → ∀ (d v : Nat) (μq : mM), v + d = 4 → RC g x B z0 μ0 (σ.1, (puts (σ.1, s0) (12 * i + j) its v).2) τ μq → V p l e { frames := 7, cells := 1, slots := 6, locals := 104 } s mi args below meth c (vx_MQ below (cQc g (clP g x z0 μ0 (some (.int (sp_shot σ (nI i) (nI j) angle its).1)) (sp_shot σ (nI i) (nI j) angle its).2)) (cXC g (clX ["java/lang/IndexOutOfBoundsException", "java/lang/IllegalArgumentException", "java/lang/IllegalStateException"] σ (sp_shot σ (nI i) (nI j) angle its).2 μ)) args s ({ frames := 7, cells := 1, slots := 6, locals := 104 } : Room).cells ({ frames := 7, cells := 1, slots := 6, locals := 104 } : Room).slots (gA g)) g μq z 0 0 158 [(0, .ref x), (4, .long its), (6, .ref (B i)), (7, .ref (pA B i j)), (9, .int (nI v))] [] := by
          intro s0 vv hvv e9 d
          induction d with
          | zero =>
            intro v μq hv hRq
            obtain rfl : v = 4 := by omega
            refine v_iload 4 o dX5_shot_158 rfl ?_
            refine v_iconst 4 o dX5_shot_160 rfl ?_
            refine v_icmp_ge_n 189 o dX5_shot_161 (by decide) (by decide) (by decide) (fun c161 => ?_) (fun c161 => absurd c161 (by omega))
            refine v_aload 2 o dX5_shot_189 rfl ?_
            refine v_get (v := .int ((σ.1, (puts (σ.1, s0) (12 * i + j) its 4).2).2.2.1 1 i)) o dX5_shot_191 cf0 3 (by decide) fl_X5_92 (hRq.bk hi) rfl ?_
            exact v_iret o dX5_shot_194 hr (Nat.le_of_ble_eq_true rfl) (Nat.le_of_ble_eq_true rfl) (by rw [e9]; exact ⟨by rw [← hvv]; exact congrArg (fun q => some (Value.int q)) (congrFun (congrFun (puts_I (σ.1, s0) (12 * i + j) its 4) 1) i), by rw [puts_th]; exact th_31 _ _, B, τ, by rw [puts_th, puts_eta]; exact hRq.thk 0⟩)
          | succ d ih =>
            intro v μq hvd hRq
            have hv : v < 4 := by omega
            refine v_iload 4 o dX5_shot_158 rfl ?_
            refine v_iconst 4 o dX5_shot_160 rfl ?_
            refine v_icmp_ge_n 189 o dX5_shot_161 (by decide) (by omega) (by decide) (fun c161 => absurd c161 (by omega)) (fun c161 => ?_)
            refine v_aload_n 0 o dX5_shot_164 rfl rfl ?_
            refine v_get (v := .ref (x + 2)) o dX5_shot_165 cf5 3 (by decide) fl_X5_15 hRq.h0 rfl ?_
            refine v_iload 4 o dX5_shot_168 rfl ?_
            refine v_zald (bI ((σ.1, (puts (σ.1, s0) (12 * i + j) its v).2).2.1 6 v)) o dX5_shot_170 (by omega) (by decide) hRq.h2 rfl ?_
            refine v_if_ne_b 183 o dX5_shot_171 (by decide) (fun c171 => ?_) (fun c171 => ?_)
            · refine v_iinc (nI (v + 1)) [(9, .int (nI (v + 1))), (0, .ref x), (4, .long its), (6, .ref (B i)), (7, .ref (pA B i j))] o dX5_shot_183 4 rfl (iinc_n v 1) (by decide) rfl ?_
              refine v_goto 158 o dX5_shot_186 (by decide) ?_
              refine v_sub [(0, .ref x), (4, .long its), (6, .ref (B i)), (7, .ref (pA B i j)), (9, .int (nI (v + 1)))] [1, 2, 3, 4, 0] rfl ?_
              exact ih (v + 1) _ (by omega) (by rw [← puts_et2, puts_b (by rw [puts_et2]; exact c171), puts_et2]; exact hRq)
            · refine v_aload 3 o dX5_shot_174 rfl ?_
              refine v_iload 4 o dX5_shot_176 rfl ?_
              refine v_lload 1 o dX5_shot_178 rfl ?_
              refine v_callV [.int (nI v), .long its] [] o dX5_shot_180 cw_X5_118 im_X2_putCopy se_X2_putCopy cf2 (hRq.p0 hi hj) (c_putCopy hl hRq i j hi hj v (by omega) its) rfl rfl (by decide) (by decide) (Nat.le_of_ble_eq_true rfl) ?_ (fun _ _ _ _ h => h.elim)
              rintro _ μ1 _ _ ⟨rfl, hR1, rfl⟩
              refine v_st [] rfl ?_
              refine v_iinc (nI (v + 1)) [(9, .int (nI (v + 1))), (0, .ref x), (4, .long its), (6, .ref (B i)), (7, .ref (pA B i j))] o dX5_shot_183 4 rfl (iinc_n v 1) (by decide) rfl ?_
              refine v_goto 158 o dX5_shot_186 (by decide) ?_
              refine v_sub [(0, .ref x), (4, .long its), (6, .ref (B i)), (7, .ref (pA B i j)), (9, .int (nI (v + 1)))] [1, 2, 3, 4, 0] rfl ?_
              exact ih (v + 1) _ (by omega) (by rw [← puts_et2, puts_g (by rw [puts_et2]; exact c171), puts_et2]; exact hR1)
        refine v_aload_n 0 o dX5_shot_0 rfl rfl ?_
        refine v_iload_n 1 o dX5_shot_1 rfl rfl ?_
        refine v_callVr (v := .ref (B i)) [.int (nI i)] [] o dX5_shot_2 cw_X5_79 im_X5_bookAt se_X5_bookAt cf5 hR.h0 (c_bookAt_t hl hR i hi) rfl rfl (by decide) ⟨rfl, rfl⟩ (by decide) (Nat.le_of_ble_eq_true rfl) ?_
        refine v_astore [(6, .ref (B i)), (0, .ref x), (1, .int (nI i)), (2, .int (nI j)), (3, .int angle), (4, .long its)] o dX5_shot_5 (by decide) rfl ?_
        refine v_aload 0 o dX5_shot_7 rfl ?_
        refine v_iload_n 3 o dX5_shot_9 rfl rfl ?_
        refine v_callSr (v := .ref (pA B i j)) [.ref (B i), .int (nI j)] [] o dX5_shot_10 cw_X5_83 st_X5_pageAt (c_pageAt_t hl hR i j hi hj) rfl rfl (by decide) ⟨rfl, rfl⟩ (by decide) (Nat.le_of_ble_eq_true rfl) ?_
        refine v_astore [(7, .ref (pA B i j)), (6, .ref (B i)), (0, .ref x), (1, .int (nI i)), (2, .int (nI j)), (3, .int angle), (4, .long its)] o dX5_shot_13 (by decide) rfl ?_
        refine v_iload_n 5 o dX5_shot_15 rfl rfl ?_
        refine v_bipush 30 o dX5_shot_16 (by decide) ?_
        refine v_sipush 180 o dX5_shot_18 (by decide) ?_
        refine v_callS [.int angle, .int (nI 30), .int (nI 180)] [] o dX5_shot_21 cw_X5_54 st_X5_needArgument (c_needArg_t hl angle (nI 30) (nI 180) hA) rfl rfl (by decide) (by decide) (Nat.le_of_ble_eq_true rfl) ?_ (fun _ _ _ _ h => h.elim)
        rintro _ _ _ _ ⟨rfl, rfl, hz9⟩
        subst hz9
        refine v_st [] rfl ?_
        refine v_iload_n 5 o dX5_shot_24 rfl rfl ?_
        refine v_bipush 90 o dX5_shot_25 (by decide) ?_
        refine v_icmp_le 34 o dX5_shot_27 (by decide) (fun c27 => ?_) (fun c27 => ?_)
        · refine v_iconst 1 o dX5_shot_34 rfl ?_
          refine v_istore [(8, .int (nI 1)), (7, .ref (pA B i j)), (6, .ref (B i)), (0, .ref x), (1, .int (nI i)), (2, .int (nI j)), (3, .int angle), (4, .long its)] o dX5_shot_35 (by decide) rfl ?_
          refine v_iload_n 6 o dX5_shot_37 rfl rfl ?_
          refine v_aload 2 o dX5_shot_38 rfl ?_
          refine v_get (v := .int (σ.2.2.1 0 i)) o dX5_shot_40 cf0 1 (by decide) fl_X5_87 (hR.bk hi) rfl ?_
          refine v_icmp_le 56 o dX5_shot_43 (by decide) (fun c43 => ?_) (fun c43 => ?_)
          · refine v_aload 2 o dX5_shot_56 rfl ?_
            refine v_get (v := .int (σ.2.2.1 1 i)) o dX5_shot_58 cf0 3 (by decide) fl_X5_92 (hR.bk hi) rfl ?_
            refine v_iload 0 o dX5_shot_61 rfl ?_
            refine v_icmp_ge 76 o dX5_shot_63 (by decide) (fun c63 => ?_) (fun c63 => ?_)
            · refine v_aload 1 o dX5_shot_76 rfl ?_
              refine v_get (v := .int (bI (σ.2.1 2 (12 * i + j)))) o dX5_shot_78 cf2 0 (by decide) fl_X5_97 (hR.p0 hi hj) rfl ?_
              refine v_if_eq_b 102 o dX5_shot_81 (by decide) (fun c81 => ?_) (fun c81 => ?_)
              · refine v_aload 2 o dX5_shot_102 rfl ?_
                refine v_dup o dX5_shot_104 rfl ?_
                refine v_get (v := .int (σ.2.2.1 1 i)) o dX5_shot_105 cf0 3 (by decide) fl_X5_92 (hR.bk hi) rfl ?_
                refine v_iload 0 o dX5_shot_108 rfl ?_
                refine v_isub ((σ.2.2.1 1 i) - (nI 1)) o dX5_shot_110 rfl ?_
                refine v_put _ o dX5_shot_111 cf0 3 (by decide) (by decide) fl_X5_92 (hR.bk hi) rfl rfl (Nat.le_of_ble_eq_true rfl) rfl (fun μ2 e2 => ?_)
                have hR2 := hR.u_strength hi (v := (σ.2.2.1 1 i) - (nI 1)) e2
                refine v_aload 2 o dX5_shot_114 rfl ?_
                refine v_dup o dX5_shot_116 rfl ?_
                refine v_get (v := .int (σ.2.2.1 4 i)) o dX5_shot_117 cf0 5 (by decide) fl_X5_108 (hR2.bk hi) rfl ?_
                refine v_iconst 1 o dX5_shot_120 rfl ?_
                refine v_iadd ((σ.2.2.1 4 i) + (nI 1)) o dX5_shot_121 rfl ?_
                refine v_put _ o dX5_shot_122 cf0 5 (by decide) (by decide) fl_X5_108 (hR2.bk hi) rfl rfl (Nat.le_of_ble_eq_true rfl) rfl (fun μ3 e3 => ?_)
                have hR3 := hR2.u_shotsTaken hi (v := (σ.2.2.1 4 i) + (nI 1)) e3
                refine v_aload 1 o dX5_shot_125 rfl ?_
                refine v_lload 7 o dX5_shot_127 rfl ?_
                refine v_aload_n 3 o dX5_shot_129 rfl rfl ?_
                refine v_get (v := .int (σ.2.2.1 8 0)) o dX5_shot_130 cf5 2 (by decide) fl_X5_111 hR3.h0 rfl ?_
                refine v_iconst 5 o dX5_shot_133 rfl ?_
                refine v_icmp_le 141 o dX5_shot_134 (by decide) (fun c134 => ?_) (fun c134 => ?_)
                · refine v_iconst 0 o dX5_shot_141 rfl ?_
                  refine v_top (bI false) rfl ?_
                  refine v_callV [.long its, .int (bI false)] [] o dX5_shot_142 cw_X5_114 im_X2_takeShot se_X2_takeShot cf2 (hR3.p0 hi hj) (c_takeShot hl hR3 i j hi hj its false) rfl rfl (by decide) (by decide) (Nat.le_of_ble_eq_true rfl) ?_ (fun _ _ _ _ h => h.elim)
                  rintro _ μ4 _ _ ⟨rfl, hR4, rfl⟩
                  refine v_st [] rfl ?_
                  refine v_aload_n 3 o dX5_shot_145 rfl rfl ?_
                  refine v_dup o dX5_shot_146 rfl ?_
                  refine v_get (v := .int (σ.2.2.1 8 0)) o dX5_shot_147 cf5 2 (by decide) fl_X5_111 hR4.h0 rfl ?_
                  refine v_iconst 1 o dX5_shot_150 rfl ?_
                  refine v_iadd ((σ.2.2.1 8 0) + (nI 1)) o dX5_shot_151 rfl ?_
                  refine v_put _ o dX5_shot_152 cf5 2 (by decide) (by decide) fl_X5_111 hR4.h0 rfl rfl (Nat.le_of_ble_eq_true rfl) rfl (fun μ5 e5 => ?_)
                  have hR5 := hR4.u_drift (v := (σ.2.2.1 8 0) + (nI 1)) e5
                  refine v_iconst 0 o dX5_shot_155 rfl ?_
                  refine v_istore [(9, .int (nI 0)), (8, .int (nI 1)), (7, .ref (pA B i j)), (6, .ref (B i)), (0, .ref x), (1, .int (nI i)), (2, .int (nI j)), (3, .int angle), (4, .long its)] o dX5_shot_156 (by decide) rfl ?_
                  have e9 : sp_shot σ (nI i) (nI j) angle its = (σ.2.2.1 1 i - nI 1, puts (uI (uL (uB (uB (uB (uI (uI (th σ 0) 1 i ((σ.2.2.1 1 i) - (nI 1))) 4 i ((σ.2.2.1 4 i) + (nI 1))) 2 (12 * i + j) true) 3 (12 * i + j) false) 4 (12 * i + j) false) 0 (12 * i + j) its) 8 0 ((σ.2.2.1 8 0) + (nI 1))) (12 * i + j) its 4) := by simp [sp_shot, th, uB_43, hP, ti, tj, hA, costI, Int32.not_lt.mpr c27, c43, c63, c81, Int32.not_lt.mpr c134]
                  refine v_sub [(0, .ref x), (4, .long its), (6, .ref (B i)), (7, .ref (pA B i j)), (9, .int (nI 0))] [4, 8, 3, 2, 0] rfl ?_
                  exact L (uI (uL (uB (uB (uB (uI (uI σ 1 i ((σ.2.2.1 1 i) - (nI 1))) 4 i ((σ.2.2.1 4 i) + (nI 1))) 2 (12 * i + j) true) 3 (12 * i + j) false) 4 (12 * i + j) false) 0 (12 * i + j) its) 8 0 ((σ.2.2.1 8 0) + (nI 1))).2 (σ.2.2.1 1 i - nI 1) (by simp [uI, uB, uL, u2]) e9 4 0 _ rfl hR5
                · refine v_iconst 1 o dX5_shot_137 rfl ?_
                  refine v_goto 142 o dX5_shot_138 (by decide) ?_
                  refine v_top (bI true) rfl ?_
                  refine v_callV [.long its, .int (bI true)] [] o dX5_shot_142 cw_X5_114 im_X2_takeShot se_X2_takeShot cf2 (hR3.p0 hi hj) (c_takeShot hl hR3 i j hi hj its true) rfl rfl (by decide) (by decide) (Nat.le_of_ble_eq_true rfl) ?_ (fun _ _ _ _ h => h.elim)
                  rintro _ μ6 _ _ ⟨rfl, hR6, rfl⟩
                  refine v_st [] rfl ?_
                  refine v_aload_n 3 o dX5_shot_145 rfl rfl ?_
                  refine v_dup o dX5_shot_146 rfl ?_
                  refine v_get (v := .int (σ.2.2.1 8 0)) o dX5_shot_147 cf5 2 (by decide) fl_X5_111 hR6.h0 rfl ?_
                  refine v_iconst 1 o dX5_shot_150 rfl ?_
                  refine v_iadd ((σ.2.2.1 8 0) + (nI 1)) o dX5_shot_151 rfl ?_
                  refine v_put _ o dX5_shot_152 cf5 2 (by decide) (by decide) fl_X5_111 hR6.h0 rfl rfl (Nat.le_of_ble_eq_true rfl) rfl (fun μ7 e7 => ?_)
                  have hR7 := hR6.u_drift (v := (σ.2.2.1 8 0) + (nI 1)) e7
                  refine v_iconst 0 o dX5_shot_155 rfl ?_
                  refine v_istore [(9, .int (nI 0)), (8, .int (nI 1)), (7, .ref (pA B i j)), (6, .ref (B i)), (0, .ref x), (1, .int (nI i)), (2, .int (nI j)), (3, .int angle), (4, .long its)] o dX5_shot_156 (by decide) rfl ?_
                  have e9 : sp_shot σ (nI i) (nI j) angle its = (σ.2.2.1 1 i - nI 1, puts (uI (uL (uB (uB (uB (uI (uI (th σ 0) 1 i ((σ.2.2.1 1 i) - (nI 1))) 4 i ((σ.2.2.1 4 i) + (nI 1))) 2 (12 * i + j) true) 3 (12 * i + j) true) 4 (12 * i + j) false) 0 (12 * i + j) its) 8 0 ((σ.2.2.1 8 0) + (nI 1))) (12 * i + j) its 4) := by simp [sp_shot, th, uB_43, hP, ti, tj, hA, costI, Int32.not_lt.mpr c27, c43, c63, c81, Int32.not_le.mp c134]
                  refine v_sub [(0, .ref x), (4, .long its), (6, .ref (B i)), (7, .ref (pA B i j)), (9, .int (nI 0))] [4, 8, 3, 2, 0] rfl ?_
                  exact L (uI (uL (uB (uB (uB (uI (uI σ 1 i ((σ.2.2.1 1 i) - (nI 1))) 4 i ((σ.2.2.1 4 i) + (nI 1))) 2 (12 * i + j) true) 3 (12 * i + j) true) 4 (12 * i + j) false) 0 (12 * i + j) its) 8 0 ((σ.2.2.1 8 0) + (nI 1))).2 (σ.2.2.1 1 i - nI 1) (by simp [uI, uB, uL, u2]) e9 4 0 _ rfl hR7
              · refine v_aload 1 o dX5_shot_84 rfl ?_
                refine v_get (v := .int (bI (σ.2.1 4 (12 * i + j)))) o dX5_shot_86 cf2 2 (by decide) fl_X5_103 (hR.p0 hi hj) rfl ?_
                refine v_if_ne_b 102 o dX5_shot_89 (by decide) (fun c89 => ?_) (fun c89 => ?_)
                · refine v_aload 2 o dX5_shot_102 rfl ?_
                  refine v_dup o dX5_shot_104 rfl ?_
                  refine v_get (v := .int (σ.2.2.1 1 i)) o dX5_shot_105 cf0 3 (by decide) fl_X5_92 (hR.bk hi) rfl ?_
                  refine v_iload 0 o dX5_shot_108 rfl ?_
                  refine v_isub ((σ.2.2.1 1 i) - (nI 1)) o dX5_shot_110 rfl ?_
                  refine v_put _ o dX5_shot_111 cf0 3 (by decide) (by decide) fl_X5_92 (hR.bk hi) rfl rfl (Nat.le_of_ble_eq_true rfl) rfl (fun μ8 e8 => ?_)
                  have hR8 := hR.u_strength hi (v := (σ.2.2.1 1 i) - (nI 1)) e8
                  refine v_aload 2 o dX5_shot_114 rfl ?_
                  refine v_dup o dX5_shot_116 rfl ?_
                  refine v_get (v := .int (σ.2.2.1 4 i)) o dX5_shot_117 cf0 5 (by decide) fl_X5_108 (hR8.bk hi) rfl ?_
                  refine v_iconst 1 o dX5_shot_120 rfl ?_
                  refine v_iadd ((σ.2.2.1 4 i) + (nI 1)) o dX5_shot_121 rfl ?_
                  refine v_put _ o dX5_shot_122 cf0 5 (by decide) (by decide) fl_X5_108 (hR8.bk hi) rfl rfl (Nat.le_of_ble_eq_true rfl) rfl (fun μ9 e9 => ?_)
                  have hR9 := hR8.u_shotsTaken hi (v := (σ.2.2.1 4 i) + (nI 1)) e9
                  refine v_aload 1 o dX5_shot_125 rfl ?_
                  refine v_lload 7 o dX5_shot_127 rfl ?_
                  refine v_aload_n 3 o dX5_shot_129 rfl rfl ?_
                  refine v_get (v := .int (σ.2.2.1 8 0)) o dX5_shot_130 cf5 2 (by decide) fl_X5_111 hR9.h0 rfl ?_
                  refine v_iconst 5 o dX5_shot_133 rfl ?_
                  refine v_icmp_le 141 o dX5_shot_134 (by decide) (fun c134 => ?_) (fun c134 => ?_)
                  · refine v_iconst 0 o dX5_shot_141 rfl ?_
                    refine v_top (bI false) rfl ?_
                    refine v_callV [.long its, .int (bI false)] [] o dX5_shot_142 cw_X5_114 im_X2_takeShot se_X2_takeShot cf2 (hR9.p0 hi hj) (c_takeShot hl hR9 i j hi hj its false) rfl rfl (by decide) (by decide) (Nat.le_of_ble_eq_true rfl) ?_ (fun _ _ _ _ h => h.elim)
                    rintro _ μ10 _ _ ⟨rfl, hR10, rfl⟩
                    refine v_st [] rfl ?_
                    refine v_aload_n 3 o dX5_shot_145 rfl rfl ?_
                    refine v_dup o dX5_shot_146 rfl ?_
                    refine v_get (v := .int (σ.2.2.1 8 0)) o dX5_shot_147 cf5 2 (by decide) fl_X5_111 hR10.h0 rfl ?_
                    refine v_iconst 1 o dX5_shot_150 rfl ?_
                    refine v_iadd ((σ.2.2.1 8 0) + (nI 1)) o dX5_shot_151 rfl ?_
                    refine v_put _ o dX5_shot_152 cf5 2 (by decide) (by decide) fl_X5_111 hR10.h0 rfl rfl (Nat.le_of_ble_eq_true rfl) rfl (fun μ11 e11 => ?_)
                    have hR11 := hR10.u_drift (v := (σ.2.2.1 8 0) + (nI 1)) e11
                    refine v_iconst 0 o dX5_shot_155 rfl ?_
                    refine v_istore [(9, .int (nI 0)), (8, .int (nI 1)), (7, .ref (pA B i j)), (6, .ref (B i)), (0, .ref x), (1, .int (nI i)), (2, .int (nI j)), (3, .int angle), (4, .long its)] o dX5_shot_156 (by decide) rfl ?_
                    have e9 : sp_shot σ (nI i) (nI j) angle its = (σ.2.2.1 1 i - nI 1, puts (uI (uL (uB (uB (uB (uI (uI (th σ 0) 1 i ((σ.2.2.1 1 i) - (nI 1))) 4 i ((σ.2.2.1 4 i) + (nI 1))) 2 (12 * i + j) true) 3 (12 * i + j) false) 4 (12 * i + j) false) 0 (12 * i + j) its) 8 0 ((σ.2.2.1 8 0) + (nI 1))) (12 * i + j) its 4) := by simp [sp_shot, th, uB_43, hP, ti, tj, hA, costI, Int32.not_lt.mpr c27, c43, c63, c81, c89, Int32.not_lt.mpr c134]
                    refine v_sub [(0, .ref x), (4, .long its), (6, .ref (B i)), (7, .ref (pA B i j)), (9, .int (nI 0))] [4, 8, 3, 2, 0] rfl ?_
                    exact L (uI (uL (uB (uB (uB (uI (uI σ 1 i ((σ.2.2.1 1 i) - (nI 1))) 4 i ((σ.2.2.1 4 i) + (nI 1))) 2 (12 * i + j) true) 3 (12 * i + j) false) 4 (12 * i + j) false) 0 (12 * i + j) its) 8 0 ((σ.2.2.1 8 0) + (nI 1))).2 (σ.2.2.1 1 i - nI 1) (by simp [uI, uB, uL, u2]) e9 4 0 _ rfl hR11
                  · refine v_iconst 1 o dX5_shot_137 rfl ?_
                    refine v_goto 142 o dX5_shot_138 (by decide) ?_
                    refine v_top (bI true) rfl ?_
                    refine v_callV [.long its, .int (bI true)] [] o dX5_shot_142 cw_X5_114 im_X2_takeShot se_X2_takeShot cf2 (hR9.p0 hi hj) (c_takeShot hl hR9 i j hi hj its true) rfl rfl (by decide) (by decide) (Nat.le_of_ble_eq_true rfl) ?_ (fun _ _ _ _ h => h.elim)
                    rintro _ μ12 _ _ ⟨rfl, hR12, rfl⟩
                    refine v_st [] rfl ?_
                    refine v_aload_n 3 o dX5_shot_145 rfl rfl ?_
                    refine v_dup o dX5_shot_146 rfl ?_
                    refine v_get (v := .int (σ.2.2.1 8 0)) o dX5_shot_147 cf5 2 (by decide) fl_X5_111 hR12.h0 rfl ?_
                    refine v_iconst 1 o dX5_shot_150 rfl ?_
                    refine v_iadd ((σ.2.2.1 8 0) + (nI 1)) o dX5_shot_151 rfl ?_
                    refine v_put _ o dX5_shot_152 cf5 2 (by decide) (by decide) fl_X5_111 hR12.h0 rfl rfl (Nat.le_of_ble_eq_true rfl) rfl (fun μ13 e13 => ?_)
                    have hR13 := hR12.u_drift (v := (σ.2.2.1 8 0) + (nI 1)) e13
                    refine v_iconst 0 o dX5_shot_155 rfl ?_
                    refine v_istore [(9, .int (nI 0)), (8, .int (nI 1)), (7, .ref (pA B i j)), (6, .ref (B i)), (0, .ref x), (1, .int (nI i)), (2, .int (nI j)), (3, .int angle), (4, .long its)] o dX5_shot_156 (by decide) rfl ?_
                    have e9 : sp_shot σ (nI i) (nI j) angle its = (σ.2.2.1 1 i - nI 1, puts (uI (uL (uB (uB (uB (uI (uI (th σ 0) 1 i ((σ.2.2.1 1 i) - (nI 1))) 4 i ((σ.2.2.1 4 i) + (nI 1))) 2 (12 * i + j) true) 3 (12 * i + j) true) 4 (12 * i + j) false) 0 (12 * i + j) its) 8 0 ((σ.2.2.1 8 0) + (nI 1))) (12 * i + j) its 4) := by simp [sp_shot, th, uB_43, hP, ti, tj, hA, costI, Int32.not_lt.mpr c27, c43, c63, c81, c89, Int32.not_le.mp c134]
                    refine v_sub [(0, .ref x), (4, .long its), (6, .ref (B i)), (7, .ref (pA B i j)), (9, .int (nI 0))] [4, 8, 3, 2, 0] rfl ?_
                    exact L (uI (uL (uB (uB (uB (uI (uI σ 1 i ((σ.2.2.1 1 i) - (nI 1))) 4 i ((σ.2.2.1 4 i) + (nI 1))) 2 (12 * i + j) true) 3 (12 * i + j) true) 4 (12 * i + j) false) 0 (12 * i + j) its) 8 0 ((σ.2.2.1 8 0) + (nI 1))).2 (σ.2.2.1 1 i - nI 1) (by simp [uI, uB, uL, u2]) e9 4 0 _ rfl hR13
                · exact v_throw (E := "java/lang/IllegalStateException") (text := "there is a shot that is not faulty") o hx dX5_shot_92 dX5_shot_95 dX5_shot_96 dX5_shot_98 dX5_shot_101 (by decide +kernel) (by decide +kernel) tw_ISE (by decide) (Nat.le_of_ble_eq_true rfl) (by decide) (by decide) (by decide) (by decide) (fun z' hz => ⟨⟨2, (by simp [sp_shot, hP, ti, tj, hA, costI, Int32.not_lt.mpr c27, c43, c63, c81, c89] : (sp_shot σ (nI i) (nI j) angle its).2 = th σ 3), rfl⟩, rfl⟩)
            · exact v_throw (E := "java/lang/IllegalStateException") (text := "the book has less strength than the shot costs") o hx dX5_shot_66 dX5_shot_69 dX5_shot_70 dX5_shot_72 dX5_shot_75 (by decide +kernel) (by decide +kernel) tw_ISE (by decide) (Nat.le_of_ble_eq_true rfl) (by decide) (by decide) (by decide) (by decide) (fun z' hz => ⟨⟨2, (by simp [sp_shot, hP, ti, tj, hA, costI, Int32.not_lt.mpr c27, c43, c63] : (sp_shot σ (nI i) (nI j) angle its).2 = th σ 3), rfl⟩, rfl⟩)
          · exact v_throw (E := "java/lang/IllegalStateException") (text := "the book does not open as wide as that") o hx dX5_shot_46 dX5_shot_49 dX5_shot_50 dX5_shot_52 dX5_shot_55 (by decide +kernel) (by decide +kernel) tw_ISE (by decide) (Nat.le_of_ble_eq_true rfl) (by decide) (by decide) (by decide) (by decide) (fun z' hz => ⟨⟨2, (by simp [sp_shot, hP, ti, tj, hA, costI, Int32.not_lt.mpr c27, c43] : (sp_shot σ (nI i) (nI j) angle its).2 = th σ 3), rfl⟩, rfl⟩)
        · refine v_iconst 2 o dX5_shot_30 rfl ?_
          refine v_goto 35 o dX5_shot_31 (by decide) ?_
          refine v_istore [(8, .int (nI 2)), (7, .ref (pA B i j)), (6, .ref (B i)), (0, .ref x), (1, .int (nI i)), (2, .int (nI j)), (3, .int angle), (4, .long its)] o dX5_shot_35 (by decide) rfl ?_
          refine v_iload_n 6 o dX5_shot_37 rfl rfl ?_
          refine v_aload 2 o dX5_shot_38 rfl ?_
          refine v_get (v := .int (σ.2.2.1 0 i)) o dX5_shot_40 cf0 1 (by decide) fl_X5_87 (hR.bk hi) rfl ?_
          refine v_icmp_le 56 o dX5_shot_43 (by decide) (fun c43 => ?_) (fun c43 => ?_)
          · refine v_aload 2 o dX5_shot_56 rfl ?_
            refine v_get (v := .int (σ.2.2.1 1 i)) o dX5_shot_58 cf0 3 (by decide) fl_X5_92 (hR.bk hi) rfl ?_
            refine v_iload 0 o dX5_shot_61 rfl ?_
            refine v_icmp_ge 76 o dX5_shot_63 (by decide) (fun c63 => ?_) (fun c63 => ?_)
            · refine v_aload 1 o dX5_shot_76 rfl ?_
              refine v_get (v := .int (bI (σ.2.1 2 (12 * i + j)))) o dX5_shot_78 cf2 0 (by decide) fl_X5_97 (hR.p0 hi hj) rfl ?_
              refine v_if_eq_b 102 o dX5_shot_81 (by decide) (fun c81 => ?_) (fun c81 => ?_)
              · refine v_aload 2 o dX5_shot_102 rfl ?_
                refine v_dup o dX5_shot_104 rfl ?_
                refine v_get (v := .int (σ.2.2.1 1 i)) o dX5_shot_105 cf0 3 (by decide) fl_X5_92 (hR.bk hi) rfl ?_
                refine v_iload 0 o dX5_shot_108 rfl ?_
                refine v_isub ((σ.2.2.1 1 i) - (nI 2)) o dX5_shot_110 rfl ?_
                refine v_put _ o dX5_shot_111 cf0 3 (by decide) (by decide) fl_X5_92 (hR.bk hi) rfl rfl (Nat.le_of_ble_eq_true rfl) rfl (fun μ14 e14 => ?_)
                have hR14 := hR.u_strength hi (v := (σ.2.2.1 1 i) - (nI 2)) e14
                refine v_aload 2 o dX5_shot_114 rfl ?_
                refine v_dup o dX5_shot_116 rfl ?_
                refine v_get (v := .int (σ.2.2.1 4 i)) o dX5_shot_117 cf0 5 (by decide) fl_X5_108 (hR14.bk hi) rfl ?_
                refine v_iconst 1 o dX5_shot_120 rfl ?_
                refine v_iadd ((σ.2.2.1 4 i) + (nI 1)) o dX5_shot_121 rfl ?_
                refine v_put _ o dX5_shot_122 cf0 5 (by decide) (by decide) fl_X5_108 (hR14.bk hi) rfl rfl (Nat.le_of_ble_eq_true rfl) rfl (fun μ15 e15 => ?_)
                have hR15 := hR14.u_shotsTaken hi (v := (σ.2.2.1 4 i) + (nI 1)) e15
                refine v_aload 1 o dX5_shot_125 rfl ?_
                refine v_lload 7 o dX5_shot_127 rfl ?_
                refine v_aload_n 3 o dX5_shot_129 rfl rfl ?_
                refine v_get (v := .int (σ.2.2.1 8 0)) o dX5_shot_130 cf5 2 (by decide) fl_X5_111 hR15.h0 rfl ?_
                refine v_iconst 5 o dX5_shot_133 rfl ?_
                refine v_icmp_le 141 o dX5_shot_134 (by decide) (fun c134 => ?_) (fun c134 => ?_)
                · refine v_iconst 0 o dX5_shot_141 rfl ?_
                  refine v_top (bI false) rfl ?_
                  refine v_callV [.long its, .int (bI false)] [] o dX5_shot_142 cw_X5_114 im_X2_takeShot se_X2_takeShot cf2 (hR15.p0 hi hj) (c_takeShot hl hR15 i j hi hj its false) rfl rfl (by decide) (by decide) (Nat.le_of_ble_eq_true rfl) ?_ (fun _ _ _ _ h => h.elim)
                  rintro _ μ16 _ _ ⟨rfl, hR16, rfl⟩
                  refine v_st [] rfl ?_
                  refine v_aload_n 3 o dX5_shot_145 rfl rfl ?_
                  refine v_dup o dX5_shot_146 rfl ?_
                  refine v_get (v := .int (σ.2.2.1 8 0)) o dX5_shot_147 cf5 2 (by decide) fl_X5_111 hR16.h0 rfl ?_
                  refine v_iconst 1 o dX5_shot_150 rfl ?_
                  refine v_iadd ((σ.2.2.1 8 0) + (nI 1)) o dX5_shot_151 rfl ?_
                  refine v_put _ o dX5_shot_152 cf5 2 (by decide) (by decide) fl_X5_111 hR16.h0 rfl rfl (Nat.le_of_ble_eq_true rfl) rfl (fun μ17 e17 => ?_)
                  have hR17 := hR16.u_drift (v := (σ.2.2.1 8 0) + (nI 1)) e17
                  refine v_iconst 0 o dX5_shot_155 rfl ?_
                  refine v_istore [(9, .int (nI 0)), (8, .int (nI 2)), (7, .ref (pA B i j)), (6, .ref (B i)), (0, .ref x), (1, .int (nI i)), (2, .int (nI j)), (3, .int angle), (4, .long its)] o dX5_shot_156 (by decide) rfl ?_
                  have e9 : sp_shot σ (nI i) (nI j) angle its = (σ.2.2.1 1 i - nI 2, puts (uI (uL (uB (uB (uB (uI (uI (th σ 0) 1 i ((σ.2.2.1 1 i) - (nI 2))) 4 i ((σ.2.2.1 4 i) + (nI 1))) 2 (12 * i + j) true) 3 (12 * i + j) false) 4 (12 * i + j) false) 0 (12 * i + j) its) 8 0 ((σ.2.2.1 8 0) + (nI 1))) (12 * i + j) its 4) := by simp [sp_shot, th, uB_43, hP, ti, tj, hA, costI, Int32.not_le.mp c27, c43, c63, c81, Int32.not_lt.mpr c134]
                  refine v_sub [(0, .ref x), (4, .long its), (6, .ref (B i)), (7, .ref (pA B i j)), (9, .int (nI 0))] [4, 8, 3, 2, 0] rfl ?_
                  exact L (uI (uL (uB (uB (uB (uI (uI σ 1 i ((σ.2.2.1 1 i) - (nI 2))) 4 i ((σ.2.2.1 4 i) + (nI 1))) 2 (12 * i + j) true) 3 (12 * i + j) false) 4 (12 * i + j) false) 0 (12 * i + j) its) 8 0 ((σ.2.2.1 8 0) + (nI 1))).2 (σ.2.2.1 1 i - nI 2) (by simp [uI, uB, uL, u2]) e9 4 0 _ rfl hR17
                · refine v_iconst 1 o dX5_shot_137 rfl ?_
                  refine v_goto 142 o dX5_shot_138 (by decide) ?_
                  refine v_top (bI true) rfl ?_
                  refine v_callV [.long its, .int (bI true)] [] o dX5_shot_142 cw_X5_114 im_X2_takeShot se_X2_takeShot cf2 (hR15.p0 hi hj) (c_takeShot hl hR15 i j hi hj its true) rfl rfl (by decide) (by decide) (Nat.le_of_ble_eq_true rfl) ?_ (fun _ _ _ _ h => h.elim)
                  rintro _ μ18 _ _ ⟨rfl, hR18, rfl⟩
                  refine v_st [] rfl ?_
                  refine v_aload_n 3 o dX5_shot_145 rfl rfl ?_
                  refine v_dup o dX5_shot_146 rfl ?_
                  refine v_get (v := .int (σ.2.2.1 8 0)) o dX5_shot_147 cf5 2 (by decide) fl_X5_111 hR18.h0 rfl ?_
                  refine v_iconst 1 o dX5_shot_150 rfl ?_
                  refine v_iadd ((σ.2.2.1 8 0) + (nI 1)) o dX5_shot_151 rfl ?_
                  refine v_put _ o dX5_shot_152 cf5 2 (by decide) (by decide) fl_X5_111 hR18.h0 rfl rfl (Nat.le_of_ble_eq_true rfl) rfl (fun μ19 e19 => ?_)
                  have hR19 := hR18.u_drift (v := (σ.2.2.1 8 0) + (nI 1)) e19
                  refine v_iconst 0 o dX5_shot_155 rfl ?_
                  refine v_istore [(9, .int (nI 0)), (8, .int (nI 2)), (7, .ref (pA B i j)), (6, .ref (B i)), (0, .ref x), (1, .int (nI i)), (2, .int (nI j)), (3, .int angle), (4, .long its)] o dX5_shot_156 (by decide) rfl ?_
                  have e9 : sp_shot σ (nI i) (nI j) angle its = (σ.2.2.1 1 i - nI 2, puts (uI (uL (uB (uB (uB (uI (uI (th σ 0) 1 i ((σ.2.2.1 1 i) - (nI 2))) 4 i ((σ.2.2.1 4 i) + (nI 1))) 2 (12 * i + j) true) 3 (12 * i + j) true) 4 (12 * i + j) false) 0 (12 * i + j) its) 8 0 ((σ.2.2.1 8 0) + (nI 1))) (12 * i + j) its 4) := by simp [sp_shot, th, uB_43, hP, ti, tj, hA, costI, Int32.not_le.mp c27, c43, c63, c81, Int32.not_le.mp c134]
                  refine v_sub [(0, .ref x), (4, .long its), (6, .ref (B i)), (7, .ref (pA B i j)), (9, .int (nI 0))] [4, 8, 3, 2, 0] rfl ?_
                  exact L (uI (uL (uB (uB (uB (uI (uI σ 1 i ((σ.2.2.1 1 i) - (nI 2))) 4 i ((σ.2.2.1 4 i) + (nI 1))) 2 (12 * i + j) true) 3 (12 * i + j) true) 4 (12 * i + j) false) 0 (12 * i + j) its) 8 0 ((σ.2.2.1 8 0) + (nI 1))).2 (σ.2.2.1 1 i - nI 2) (by simp [uI, uB, uL, u2]) e9 4 0 _ rfl hR19
              · refine v_aload 1 o dX5_shot_84 rfl ?_
                refine v_get (v := .int (bI (σ.2.1 4 (12 * i + j)))) o dX5_shot_86 cf2 2 (by decide) fl_X5_103 (hR.p0 hi hj) rfl ?_
                refine v_if_ne_b 102 o dX5_shot_89 (by decide) (fun c89 => ?_) (fun c89 => ?_)
                · refine v_aload 2 o dX5_shot_102 rfl ?_
                  refine v_dup o dX5_shot_104 rfl ?_
                  refine v_get (v := .int (σ.2.2.1 1 i)) o dX5_shot_105 cf0 3 (by decide) fl_X5_92 (hR.bk hi) rfl ?_
                  refine v_iload 0 o dX5_shot_108 rfl ?_
                  refine v_isub ((σ.2.2.1 1 i) - (nI 2)) o dX5_shot_110 rfl ?_
                  refine v_put _ o dX5_shot_111 cf0 3 (by decide) (by decide) fl_X5_92 (hR.bk hi) rfl rfl (Nat.le_of_ble_eq_true rfl) rfl (fun μ20 e20 => ?_)
                  have hR20 := hR.u_strength hi (v := (σ.2.2.1 1 i) - (nI 2)) e20
                  refine v_aload 2 o dX5_shot_114 rfl ?_
                  refine v_dup o dX5_shot_116 rfl ?_
                  refine v_get (v := .int (σ.2.2.1 4 i)) o dX5_shot_117 cf0 5 (by decide) fl_X5_108 (hR20.bk hi) rfl ?_
                  refine v_iconst 1 o dX5_shot_120 rfl ?_
                  refine v_iadd ((σ.2.2.1 4 i) + (nI 1)) o dX5_shot_121 rfl ?_
                  refine v_put _ o dX5_shot_122 cf0 5 (by decide) (by decide) fl_X5_108 (hR20.bk hi) rfl rfl (Nat.le_of_ble_eq_true rfl) rfl (fun μ21 e21 => ?_)
                  have hR21 := hR20.u_shotsTaken hi (v := (σ.2.2.1 4 i) + (nI 1)) e21
                  refine v_aload 1 o dX5_shot_125 rfl ?_
                  refine v_lload 7 o dX5_shot_127 rfl ?_
                  refine v_aload_n 3 o dX5_shot_129 rfl rfl ?_
                  refine v_get (v := .int (σ.2.2.1 8 0)) o dX5_shot_130 cf5 2 (by decide) fl_X5_111 hR21.h0 rfl ?_
                  refine v_iconst 5 o dX5_shot_133 rfl ?_
                  refine v_icmp_le 141 o dX5_shot_134 (by decide) (fun c134 => ?_) (fun c134 => ?_)
                  · refine v_iconst 0 o dX5_shot_141 rfl ?_
                    refine v_top (bI false) rfl ?_
                    refine v_callV [.long its, .int (bI false)] [] o dX5_shot_142 cw_X5_114 im_X2_takeShot se_X2_takeShot cf2 (hR21.p0 hi hj) (c_takeShot hl hR21 i j hi hj its false) rfl rfl (by decide) (by decide) (Nat.le_of_ble_eq_true rfl) ?_ (fun _ _ _ _ h => h.elim)
                    rintro _ μ22 _ _ ⟨rfl, hR22, rfl⟩
                    refine v_st [] rfl ?_
                    refine v_aload_n 3 o dX5_shot_145 rfl rfl ?_
                    refine v_dup o dX5_shot_146 rfl ?_
                    refine v_get (v := .int (σ.2.2.1 8 0)) o dX5_shot_147 cf5 2 (by decide) fl_X5_111 hR22.h0 rfl ?_
                    refine v_iconst 1 o dX5_shot_150 rfl ?_
                    refine v_iadd ((σ.2.2.1 8 0) + (nI 1)) o dX5_shot_151 rfl ?_
                    refine v_put _ o dX5_shot_152 cf5 2 (by decide) (by decide) fl_X5_111 hR22.h0 rfl rfl (Nat.le_of_ble_eq_true rfl) rfl (fun μ23 e23 => ?_)
                    have hR23 := hR22.u_drift (v := (σ.2.2.1 8 0) + (nI 1)) e23
                    refine v_iconst 0 o dX5_shot_155 rfl ?_
                    refine v_istore [(9, .int (nI 0)), (8, .int (nI 2)), (7, .ref (pA B i j)), (6, .ref (B i)), (0, .ref x), (1, .int (nI i)), (2, .int (nI j)), (3, .int angle), (4, .long its)] o dX5_shot_156 (by decide) rfl ?_
                    have e9 : sp_shot σ (nI i) (nI j) angle its = (σ.2.2.1 1 i - nI 2, puts (uI (uL (uB (uB (uB (uI (uI (th σ 0) 1 i ((σ.2.2.1 1 i) - (nI 2))) 4 i ((σ.2.2.1 4 i) + (nI 1))) 2 (12 * i + j) true) 3 (12 * i + j) false) 4 (12 * i + j) false) 0 (12 * i + j) its) 8 0 ((σ.2.2.1 8 0) + (nI 1))) (12 * i + j) its 4) := by simp [sp_shot, th, uB_43, hP, ti, tj, hA, costI, Int32.not_le.mp c27, c43, c63, c81, c89, Int32.not_lt.mpr c134]
                    refine v_sub [(0, .ref x), (4, .long its), (6, .ref (B i)), (7, .ref (pA B i j)), (9, .int (nI 0))] [4, 8, 3, 2, 0] rfl ?_
                    exact L (uI (uL (uB (uB (uB (uI (uI σ 1 i ((σ.2.2.1 1 i) - (nI 2))) 4 i ((σ.2.2.1 4 i) + (nI 1))) 2 (12 * i + j) true) 3 (12 * i + j) false) 4 (12 * i + j) false) 0 (12 * i + j) its) 8 0 ((σ.2.2.1 8 0) + (nI 1))).2 (σ.2.2.1 1 i - nI 2) (by simp [uI, uB, uL, u2]) e9 4 0 _ rfl hR23
                  · refine v_iconst 1 o dX5_shot_137 rfl ?_
                    refine v_goto 142 o dX5_shot_138 (by decide) ?_
                    refine v_top (bI true) rfl ?_
                    refine v_callV [.long its, .int (bI true)] [] o dX5_shot_142 cw_X5_114 im_X2_takeShot se_X2_takeShot cf2 (hR21.p0 hi hj) (c_takeShot hl hR21 i j hi hj its true) rfl rfl (by decide) (by decide) (Nat.le_of_ble_eq_true rfl) ?_ (fun _ _ _ _ h => h.elim)
                    rintro _ μ24 _ _ ⟨rfl, hR24, rfl⟩
                    refine v_st [] rfl ?_
                    refine v_aload_n 3 o dX5_shot_145 rfl rfl ?_
                    refine v_dup o dX5_shot_146 rfl ?_
                    refine v_get (v := .int (σ.2.2.1 8 0)) o dX5_shot_147 cf5 2 (by decide) fl_X5_111 hR24.h0 rfl ?_
                    refine v_iconst 1 o dX5_shot_150 rfl ?_
                    refine v_iadd ((σ.2.2.1 8 0) + (nI 1)) o dX5_shot_151 rfl ?_
                    refine v_put _ o dX5_shot_152 cf5 2 (by decide) (by decide) fl_X5_111 hR24.h0 rfl rfl (Nat.le_of_ble_eq_true rfl) rfl (fun μ25 e25 => ?_)
                    have hR25 := hR24.u_drift (v := (σ.2.2.1 8 0) + (nI 1)) e25
                    refine v_iconst 0 o dX5_shot_155 rfl ?_
                    refine v_istore [(9, .int (nI 0)), (8, .int (nI 2)), (7, .ref (pA B i j)), (6, .ref (B i)), (0, .ref x), (1, .int (nI i)), (2, .int (nI j)), (3, .int angle), (4, .long its)] o dX5_shot_156 (by decide) rfl ?_
                    have e9 : sp_shot σ (nI i) (nI j) angle its = (σ.2.2.1 1 i - nI 2, puts (uI (uL (uB (uB (uB (uI (uI (th σ 0) 1 i ((σ.2.2.1 1 i) - (nI 2))) 4 i ((σ.2.2.1 4 i) + (nI 1))) 2 (12 * i + j) true) 3 (12 * i + j) true) 4 (12 * i + j) false) 0 (12 * i + j) its) 8 0 ((σ.2.2.1 8 0) + (nI 1))) (12 * i + j) its 4) := by simp [sp_shot, th, uB_43, hP, ti, tj, hA, costI, Int32.not_le.mp c27, c43, c63, c81, c89, Int32.not_le.mp c134]
                    refine v_sub [(0, .ref x), (4, .long its), (6, .ref (B i)), (7, .ref (pA B i j)), (9, .int (nI 0))] [4, 8, 3, 2, 0] rfl ?_
                    exact L (uI (uL (uB (uB (uB (uI (uI σ 1 i ((σ.2.2.1 1 i) - (nI 2))) 4 i ((σ.2.2.1 4 i) + (nI 1))) 2 (12 * i + j) true) 3 (12 * i + j) true) 4 (12 * i + j) false) 0 (12 * i + j) its) 8 0 ((σ.2.2.1 8 0) + (nI 1))).2 (σ.2.2.1 1 i - nI 2) (by simp [uI, uB, uL, u2]) e9 4 0 _ rfl hR25
                · exact v_throw (E := "java/lang/IllegalStateException") (text := "there is a shot that is not faulty") o hx dX5_shot_92 dX5_shot_95 dX5_shot_96 dX5_shot_98 dX5_shot_101 (by decide +kernel) (by decide +kernel) tw_ISE (by decide) (Nat.le_of_ble_eq_true rfl) (by decide) (by decide) (by decide) (by decide) (fun z' hz => ⟨⟨2, (by simp [sp_shot, hP, ti, tj, hA, costI, Int32.not_le.mp c27, c43, c63, c81, c89] : (sp_shot σ (nI i) (nI j) angle its).2 = th σ 3), rfl⟩, rfl⟩)
            · exact v_throw (E := "java/lang/IllegalStateException") (text := "the book has less strength than the shot costs") o hx dX5_shot_66 dX5_shot_69 dX5_shot_70 dX5_shot_72 dX5_shot_75 (by decide +kernel) (by decide +kernel) tw_ISE (by decide) (Nat.le_of_ble_eq_true rfl) (by decide) (by decide) (by decide) (by decide) (fun z' hz => ⟨⟨2, (by simp [sp_shot, hP, ti, tj, hA, costI, Int32.not_le.mp c27, c43, c63] : (sp_shot σ (nI i) (nI j) angle its).2 = th σ 3), rfl⟩, rfl⟩)
          · exact v_throw (E := "java/lang/IllegalStateException") (text := "the book does not open as wide as that") o hx dX5_shot_46 dX5_shot_49 dX5_shot_50 dX5_shot_52 dX5_shot_55 (by decide +kernel) (by decide +kernel) tw_ISE (by decide) (Nat.le_of_ble_eq_true rfl) (by decide) (by decide) (by decide) (by decide) (fun z' hz => ⟨⟨2, (by simp [sp_shot, hP, ti, tj, hA, costI, Int32.not_le.mp c27, c43] : (sp_shot σ (nI i) (nI j) angle its).2 = th σ 3), rfl⟩, rfl⟩)

