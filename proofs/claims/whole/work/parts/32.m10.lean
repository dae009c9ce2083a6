def chk (σ : Sg) (v b j : Nat) (τ : Sg) : Prop := scr τ (uN (uN σ 3 1 0) 3 2 (cnt (seenB σ v b) j)) ∧ (∀ k, k < 31 → τ.2.2.2 2 k = trn (leafB σ b) 4 k ∧ τ.2.2.2 3 k = trn (leafV σ v b) 4 k) ∧ ∀ k, k < j → τ.2.1 7 k = seenB σ v b k
theorem chk_0 {σ τ : Sg} {v b : Nat} (h : ly2 (uN σ 3 1 0) v b 0 τ) : chk σ v b 0 (uN τ 3 2 0) := ⟨h.1.N 3 2 0, fun k hk => h.2 k (Nat.zero_le _) hk, fun k hk => absurd hk (by omega)⟩
theorem chk_l {σ τ : Sg} {v b j : Nat} (h : chk σ v b j τ) : τ.1 3 2 = cnt (seenB σ v b) j := (congrFun (h.1.1 3 (by decide) (by decide)) 2).trans (u2_s (f := (uN σ 3 1 0).1) (k := 3) (i := 2) (v := cnt (seenB σ v b) j))
theorem u2_u2 {α : Type} (f : Nat → Nat → α) (k i : Nat) (v w : α) : u2 (u2 f k i v) k i w = u2 f k i w := by
  funext a b
  unfold u2
  split <;> rfl
theorem chk_s {σ τ : Sg} {v b j n : Nat} {x : Bool} (h : chk σ v b j τ) (hx : x = seenB σ v b j) (hn : n = cnt (seenB σ v b) (j + 1)) : chk σ v b (j + 1) (uN (uB τ 7 j x) 3 2 n) := by
  refine ⟨?_, h.2.1, fun k hk => ?_⟩
  · have h1 := (h.1.B j x).N 3 2 n
    rw [hn] at h1 ⊢
    have e : uN (uN (uN σ 3 1 0) 3 2 (cnt (seenB σ v b) j)) 3 2 (cnt (seenB σ v b) (j + 1)) = uN (uN σ 3 1 0) 3 2 (cnt (seenB σ v b) (j + 1)) := by
      unfold uN
      rw [u2_u2]
    rw [e] at h1
    exact h1
  · show u2 τ.2.1 7 j x 7 k = _
    by_cases e : k = j
    · subst e
      rw [u2_s, hx]
    · rw [u2_i e]
      exact h.2.2 k (by omega)
theorem chk_ne {σ τ : Sg} {v b j k : Nat} (h : chk σ v b j τ) (hk : k < 31) : neB σ v b k = decide (τ.2.2.2 2 k ≠ τ.2.2.2 3 k) := by
  unfold neB
  rw [(h.2.1 k hk).1, (h.2.1 k hk).2]
theorem or_0 (x : Int32) : x ||| nI 0 = x := by
  show x ||| 0 = x
  simp
theorem sh16 {j : Nat} (h : 15 ≤ j) : nI j - nI 16 + nI 1 = nI (j - 15) := by
  obtain ⟨k, rfl⟩ : ∃ k, j = k + 15 := ⟨j - 15, by omega⟩
  rw [Nat.add_sub_cancel, ← nI_add, Int32.sub_eq_add_neg, Int32.add_assoc, Int32.add_assoc]
  show nI k + (nI 15 + (-nI 16 + nI 1)) = nI k
  rw [show nI 15 + (-nI 16 + nI 1) = 0 by decide, Int32.add_zero]
theorem toldF_t {f : Nat → Bool} {k : Nat} (h : f k = true) (h2 : 15 ≤ k) : toldF f (k + 1) = toldF f k ||| (nI 1 <<< (nI (k - 15) &&& 31)) := by
  show (if (f k && decide (15 ≤ k)) = true then _ else _) = _
  rw [h, decide_eq_true h2]
  rfl
theorem toldF_f {f : Nat → Bool} {k : Nat} (h : f k = true → ¬ 15 ≤ k) : toldF f (k + 1) = toldF f k := by
  rw [toldF]
  exact if_neg (by
    rw [Bool.and_eq_true, decide_eq_true_eq]
    exact fun q => h q.1 q.2)
set_option maxRecDepth 100000 in
set_option maxHeartbeats 4000000 in
theorem m_check {l : Launch} (hl : l.stackTraces = false) {g : mG} {m z : Nat} {μ0 μ : mM} {σ : Sg} (hR : RM g m μ0 σ μ) (hI : Inv σ) (v b : Int32) : Ct l g yX6_check [Cond.code yX6_check cX6_check 6 (some .int)] { frames := 2, cells := 0, slots := 0, locals := 46 } [.ref m, .int v, .int b] μ z (wrS g m μ0 (some (.int (sp_check σ v b).1)) (sp_check σ v b).2 z) noX := by
  cases hV : isV v with
  | false =>
    refine Ct.of hl (by decide +kernel) (Nat.le_of_ble_eq_true rfl) ?_
    intro p e s mi args below meth c o hnm hr hx
    have o : Ok p l s mi args meth c g cX6_check 6 RX6 := o
    refine v_lv [(0, .ref m), (1, .int v), (2, .int b)] rfl ?_
    refine v_aload_n 0 o dX6_check_0 rfl rfl ?_
    refine v_iload_n 1 o dX6_check_1 rfl rfl ?_
    refine v_callSr (v := .int (bI (isV v))) [.int v] [.ref m] o dX6_check_2 cw_X6_130 st_X6_isVault (m_isVault hl hR v) rfl rfl (by decide) ⟨rfl, rfl⟩ (by decide) (Nat.le_of_ble_eq_true rfl) ?_
    refine v_top (bI false) (by rw [hV]) ?_
    refine v_if_eq_b 20 o dX6_check_5 (by decide) (fun c5 => ?_) (fun c5 => absurd c5 (by simp_all))
    refine v_iconst 1 o dX6_check_20 rfl ?_
    refine v_callV [.int (nI 1)] [] o dX6_check_21 cw_X6_109 im_X6_goesWell se_X6_goesWell cf6 hR.o (m_goesWell hl hR 1 (by first | decide | omega)) rfl rfl (by decide) (by decide) (Nat.le_of_ble_eq_true rfl) ?_ (fun _ _ _ _ h => h.elim)
    rintro _ μ1 _ _ ⟨rfl, hR1, rfl⟩
    refine v_st [.int (bI false)] rfl ?_
    refine v_if_ne_b 29 o dX6_check_24 (by decide) (fun c24 => absurd c24 (by simp_all)) (fun c24 => ?_)
    refine v_iconst 0 o dX6_check_27 rfl ?_
    have e9 : sp_check σ v b = (nI 0, uN σ 3 1 1) := by simp [sp_check, th, hV]
    exact v_iret o dX6_check_28 hr (Nat.le_of_ble_eq_true rfl) (Nat.le_of_ble_eq_true rfl) (by rw [e9]; exact ⟨rfl, ⟨_, scr.rf, hR1⟩, rfl⟩)
  | true =>
    cases hP : isB σ b with
    | false =>
      refine Ct.of hl (by decide +kernel) (Nat.le_of_ble_eq_true rfl) ?_
      intro p e s mi args below meth c o hnm hr hx
      have o : Ok p l s mi args meth c g cX6_check 6 RX6 := o
      refine v_lv [(0, .ref m), (1, .int v), (2, .int b)] rfl ?_
      refine v_aload_n 0 o dX6_check_0 rfl rfl ?_
      refine v_iload_n 1 o dX6_check_1 rfl rfl ?_
      refine v_callSr (v := .int (bI (isV v))) [.int v] [.ref m] o dX6_check_2 cw_X6_130 st_X6_isVault (m_isVault hl hR v) rfl rfl (by decide) ⟨rfl, rfl⟩ (by decide) (Nat.le_of_ble_eq_true rfl) ?_
      refine v_top (bI true) (by rw [hV]) ?_
      refine v_if_eq_b 20 o dX6_check_5 (by decide) (fun c5 => absurd c5 (by simp_all)) (fun c5 => ?_)
      refine v_aload_n 0 o dX6_check_8 rfl rfl ?_
      refine v_iload_n 2 o dX6_check_9 rfl rfl ?_
      refine v_callVr (v := .int (bI (isB σ b))) [.int b] [.ref m] o dX6_check_10 cw_X6_101 im_X6_isBook se_X6_isBook cf6 hR.o (m_isBook hl hR b) rfl rfl (by decide) ⟨rfl, rfl⟩ (by decide) (Nat.le_of_ble_eq_true rfl) ?_
      refine v_top (bI false) (by rw [hP]) ?_
      refine v_if_eq_b 20 o dX6_check_13 (by decide) (fun c13 => ?_) (fun c13 => absurd c13 (by simp_all))
      refine v_iconst 1 o dX6_check_20 rfl ?_
      refine v_callV [.int (nI 1)] [] o dX6_check_21 cw_X6_109 im_X6_goesWell se_X6_goesWell cf6 hR.o (m_goesWell hl hR 1 (by first | decide | omega)) rfl rfl (by decide) (by decide) (Nat.le_of_ble_eq_true rfl) ?_ (fun _ _ _ _ h => h.elim)
      rintro _ μ2 _ _ ⟨rfl, hR2, rfl⟩
      refine v_st [.int (bI false)] rfl ?_
      refine v_if_ne_b 29 o dX6_check_24 (by decide) (fun c24 => absurd c24 (by simp_all)) (fun c24 => ?_)
      refine v_iconst 0 o dX6_check_27 rfl ?_
      have e9 : sp_check σ v b = (nI 0, uN σ 3 1 1) := by simp [sp_check, th, hV, hP]
      exact v_iret o dX6_check_28 hr (Nat.le_of_ble_eq_true rfl) (Nat.le_of_ble_eq_true rfl) (by rw [e9]; exact ⟨rfl, ⟨_, scr.rf, hR2⟩, rfl⟩)
    | true =>
      obtain ⟨v, hv, rfl⟩ := isV_t hV
      have tv : tn (nI v) = v := tn_nI (by omega)
      obtain ⟨i, hi, rfl⟩ := isB_t hI hP
      have h6 := hI.1
      have h12 := hI.2.1 i
      have ti : tn (nI i) = i := tn_nI (by omega)
      have e9 : sp_check σ (nI v) (nI i) = (toldF (fun k => seenB σ v i k && neB σ v i k) 31, uN (uN σ 3 1 0) 3 2 (cnt (seenB σ v i) 31)) := by simp [sp_check, th, hV, hP, tv, ti]
      refine Ct.of hl (by decide +kernel) (Nat.le_of_ble_eq_true rfl) ?_
      intro p e s mi args below meth c o hnm hr hx
      have o : Ok p l s mi args meth c g cX6_check 6 RX6 := o
      refine v_lv [(0, .ref m), (1, .int (nI v)), (2, .int (nI i))] rfl ?_
      have L : ∀ (d j : Nat) (τ : Sg) (μq : mM), j + d = 31 → chk σ v i j τ → RM g m μ0 τ μq → V p l e { frames := 2, cells := 0, slots := 0, locals := 46 } s mi args below meth c (vx_MQ below (cQc g (wrS g m μ0 (some (.int (sp_check σ (nI v) (nI i)).1)) (sp_check σ (nI v) (nI i)).2 z)) (cXC g noX) args s ({ frames := 2, cells := 0, slots := 0, locals := 46 } : Room).cells ({ frames := 2, cells := 0, slots := 0, locals := 46 } : Room).slots (gA g)) g μq z 0 0 45 [(0, .ref m), (3, .int (toldF (fun k => seenB σ v i k && neB σ v i k) j)), (4, .int (nI j))] [] := by
        intro d
        induction d with
        | zero =>
          intro j τ μq hj hC hRq
          refine v_iload 2 o dX6_check_45 rfl ?_
          refine v_bipush 31 o dX6_check_47 (by decide) ?_
          refine v_icmp_ge_n 186 o dX6_check_49 (by decide) (by omega) (by decide) (fun c49 => ?_) (fun c49 => absurd c49 (by omega))
          refine v_iload_n 1 o dX6_check_186 rfl rfl ?_
          exact v_iret o dX6_check_187 hr (Nat.le_of_ble_eq_true rfl) (Nat.le_of_ble_eq_true rfl) (by rw [e9, ← show j = 31 by omega]; exact ⟨rfl, ⟨_, hC.1, hRq⟩, rfl⟩)
        | succ d ih =>
          intro j τ μq hj hC hRq
          have hlk := chk_l hC
          have hcl := cnt_le (seenB σ v i) j
          refine v_iload 2 o dX6_check_45 rfl ?_
          refine v_bipush 31 o dX6_check_47 (by decide) ?_
          refine v_icmp_ge_n 186 o dX6_check_49 (by decide) (by omega) (by decide) (fun c49 => absurd c49 (by omega)) (fun c49 => ?_)
          refine v_iload 2 o dX6_check_52 rfl ?_
          refine v_iconst 1 o dX6_check_54 rfl ?_
          refine v_isub (mI j) o dX6_check_55 rfl ?_
          refine v_iconst 2 o dX6_check_56 rfl ?_
          refine v_idiv (nI ((j - 1) / 2)) o dX6_check_57 (by decide) (mI_half (by omega)) ?_
          refine v_istore [(5, .int (nI ((j - 1) / 2))), (0, .ref m), (3, .int (toldF (fun k => seenB σ v i k && neB σ v i k) j)), (4, .int (nI j))] o dX6_check_58 (by decide) rfl ?_
          refine v_aload_n 1 o dX6_check_60 rfl rfl ?_
          refine v_get (v := .ref (m + 20)) o dX6_check_61 cf6 22 (by decide) fl_X6_69 hRq.o rfl ?_
          refine v_iload 3 o dX6_check_64 rfl ?_
          refine v_iload 3 o dX6_check_66 rfl ?_
          refine v_if_eq_n 99 o dX6_check_68 (by decide) (by omega) (fun c68 => ?_) (fun c68 => ?_)
          · refine v_iconst 1 o dX6_check_99 rfl ?_
            refine v_goto 104 o dX6_check_100 (by decide) ?_
            refine v_top (bI true) rfl ?_
            refine v_zast o dX6_check_104 (by omega) (by decide) (nar_bI _) hRq.a20 (fun μ3 e3 => ?_)
            have hR3 := hRq.p20 (i0 := j) (v := true) e3
            refine v_aload_n 1 o dX6_check_105 rfl rfl ?_
            refine v_dup o dX6_check_106 rfl ?_
            refine v_get (v := .int (nI (τ.1 3 2))) o dX6_check_107 cf6 23 (by decide) fl_X6_139 hR3.o rfl ?_
            refine v_aload_n 1 o dX6_check_110 rfl rfl ?_
            refine v_get (v := .ref (m + 20)) o dX6_check_111 cf6 22 (by decide) fl_X6_69 hR3.o rfl ?_
            refine v_iload 3 o dX6_check_114 rfl ?_
            refine v_zald (bI true) o dX6_check_116 (by omega) (by decide) hR3.a20 (congrArg bI u2_s) ?_
            refine v_if_eq_b 124 o dX6_check_117 (by decide) (fun c117 => absurd c117 (by simp_all)) (fun c117 => ?_)
            refine v_iconst 1 o dX6_check_120 rfl ?_
            refine v_goto 125 o dX6_check_121 (by decide) ?_
            refine v_iadd (nI (τ.1 3 2 + 1)) o dX6_check_125 (nI_add (τ.1 3 2) 1) ?_
            refine v_put _ o dX6_check_126 cf6 23 (by decide) (by decide) fl_X6_139 hR3.o rfl rfl (Nat.le_of_ble_eq_true rfl) rfl (fun μ4 e4 => ?_)
            have hR4 := hR3.s_looked (v := τ.1 3 2 + 1) e4
            refine v_iload_n 2 o dX6_check_129 rfl rfl ?_
            refine v_aload_n 1 o dX6_check_130 rfl rfl ?_
            refine v_get (v := .ref (m + 20)) o dX6_check_131 cf6 22 (by decide) fl_X6_69 hR4.o rfl ?_
            refine v_iload 3 o dX6_check_134 rfl ?_
            refine v_zald (bI true) o dX6_check_136 (by omega) (by decide) hR4.a20 (congrArg bI u2_s) ?_
            refine v_if_eq_b 177 o dX6_check_137 (by decide) (fun c137 => absurd c137 (by simp_all)) (fun c137 => ?_)
            refine v_iload 3 o dX6_check_140 rfl ?_
            refine v_bipush 15 o dX6_check_142 (by decide) ?_
            refine v_icmp_lt_n 177 o dX6_check_144 (by decide) (by omega) (by decide) (fun c144 => ?_) (fun c144 => ?_)
            · refine v_iconst 0 o dX6_check_177 rfl ?_
              refine v_ior ((toldF (fun k => seenB σ v i k && neB σ v i k) j) ||| (nI 0)) o dX6_check_178 rfl ?_
              refine v_istore_n [(3, .int ((toldF (fun k => seenB σ v i k && neB σ v i k) j) ||| (nI 0))), (5, .int (nI ((j - 1) / 2))), (0, .ref m), (4, .int (nI j))] o dX6_check_179 rfl (by decide) rfl ?_
              refine v_iinc (nI (j + 1)) [(4, .int (nI (j + 1))), (3, .int ((toldF (fun k => seenB σ v i k && neB σ v i k) j) ||| (nI 0))), (5, .int (nI ((j - 1) / 2))), (0, .ref m)] o dX6_check_180 3 rfl (iinc_n j 1) (by decide) rfl ?_
              refine v_goto 45 o dX6_check_183 (by decide) ?_
              have hx : true = seenB σ v i j := by rw [seenB_s σ v i j (by omega)]; simp [c68]
              have hn : τ.1 3 2 + 1 = cnt (seenB σ v i) (j + 1) := by rw [cnt_t hx.symm, ← hlk]
              refine v_sub [(0, .ref m), (3, .int ((toldF (fun k => seenB σ v i k && neB σ v i k) j) ||| (nI 0))), (4, .int (nI (j + 1)))] [3, 1, 0] rfl ?_
              refine v_lv [(0, .ref m), (3, .int (toldF (fun k => seenB σ v i k && neB σ v i k) (j + 1))), (4, .int (nI (j + 1)))] (by rw [or_0, toldF_f (f := (fun k => seenB σ v i k && neB σ v i k)) (k := j) (fun _ => by omega)]) ?_
              exact ih (j + 1) _ _ (by omega) (chk_s hC hx hn) hR4
            · refine v_aload_n 1 o dX6_check_147 rfl rfl ?_
              refine v_get (v := .ref (m + 18)) o dX6_check_148 cf6 20 (by decide) fl_X6_63 hR4.o rfl ?_
              refine v_iload 3 o dX6_check_151 rfl ?_
              refine v_lald (τ.2.2.2 2 j) o dX6_check_153 (by omega) (by decide) hR4.a18 rfl ?_
              refine v_aload_n 1 o dX6_check_154 rfl rfl ?_
              refine v_get (v := .ref (m + 19)) o dX6_check_155 cf6 21 (by decide) fl_X6_66 hR4.o rfl ?_
              refine v_iload 3 o dX6_check_158 rfl ?_
              refine v_lald (τ.2.2.2 3 j) o dX6_check_160 (by omega) (by decide) hR4.a19 rfl ?_
              refine v_lcmp o dX6_check_161 ?_
              refine v_if_eq_c 177 o dX6_check_162 (by decide) (fun c162 => ?_) (fun c162 => ?_)
              · refine v_iconst 0 o dX6_check_177 rfl ?_
                refine v_ior ((toldF (fun k => seenB σ v i k && neB σ v i k) j) ||| (nI 0)) o dX6_check_178 rfl ?_
                refine v_istore_n [(3, .int ((toldF (fun k => seenB σ v i k && neB σ v i k) j) ||| (nI 0))), (5, .int (nI ((j - 1) / 2))), (0, .ref m), (4, .int (nI j))] o dX6_check_179 rfl (by decide) rfl ?_
                refine v_iinc (nI (j + 1)) [(4, .int (nI (j + 1))), (3, .int ((toldF (fun k => seenB σ v i k && neB σ v i k) j) ||| (nI 0))), (5, .int (nI ((j - 1) / 2))), (0, .ref m)] o dX6_check_180 3 rfl (iinc_n j 1) (by decide) rfl ?_
                refine v_goto 45 o dX6_check_183 (by decide) ?_
                have hx : true = seenB σ v i j := by rw [seenB_s σ v i j (by omega)]; simp [c68]
                have hn : τ.1 3 2 + 1 = cnt (seenB σ v i) (j + 1) := by rw [cnt_t hx.symm, ← hlk]
                refine v_sub [(0, .ref m), (3, .int ((toldF (fun k => seenB σ v i k && neB σ v i k) j) ||| (nI 0))), (4, .int (nI (j + 1)))] [3, 1, 0] rfl ?_
                refine v_lv [(0, .ref m), (3, .int (toldF (fun k => seenB σ v i k && neB σ v i k) (j + 1))), (4, .int (nI (j + 1)))] (by rw [or_0, toldF_f (f := (fun k => seenB σ v i k && neB σ v i k)) (k := j) (fun q => absurd q (by simp [chk_ne hC (show j < 31 by omega), c162]))]) ?_
                exact ih (j + 1) _ _ (by omega) (chk_s hC hx hn) hR4
              · refine v_iconst 1 o dX6_check_165 rfl ?_
                refine v_iload 3 o dX6_check_166 rfl ?_
                refine v_bipush 16 o dX6_check_168 (by decide) ?_
                refine v_isub (nI j - nI 16) o dX6_check_170 rfl ?_
                refine v_iconst 1 o dX6_check_171 rfl ?_
                refine v_iadd (nI (j - 15)) o dX6_check_172 (sh16 (by omega)) ?_
                refine v_ishl ((nI 1) <<< ((nI (j - 15)) &&& 31)) o dX6_check_173 rfl ?_
                refine v_goto 178 o dX6_check_174 (by decide) ?_
                refine v_ior ((toldF (fun k => seenB σ v i k && neB σ v i k) j) ||| ((nI 1) <<< ((nI (j - 15)) &&& 31))) o dX6_check_178 rfl ?_
                refine v_istore_n [(3, .int ((toldF (fun k => seenB σ v i k && neB σ v i k) j) ||| ((nI 1) <<< ((nI (j - 15)) &&& 31)))), (5, .int (nI ((j - 1) / 2))), (0, .ref m), (4, .int (nI j))] o dX6_check_179 rfl (by decide) rfl ?_
                refine v_iinc (nI (j + 1)) [(4, .int (nI (j + 1))), (3, .int ((toldF (fun k => seenB σ v i k && neB σ v i k) j) ||| ((nI 1) <<< ((nI (j - 15)) &&& 31)))), (5, .int (nI ((j - 1) / 2))), (0, .ref m)] o dX6_check_180 3 rfl (iinc_n j 1) (by decide) rfl ?_
                refine v_goto 45 o dX6_check_183 (by decide) ?_
                have hx : true = seenB σ v i j := by rw [seenB_s σ v i j (by omega)]; simp [c68]
                have hn : τ.1 3 2 + 1 = cnt (seenB σ v i) (j + 1) := by rw [cnt_t hx.symm, ← hlk]
                refine v_sub [(0, .ref m), (3, .int ((toldF (fun k => seenB σ v i k && neB σ v i k) j) ||| ((nI 1) <<< ((nI (j - 15)) &&& 31)))), (4, .int (nI (j + 1)))] [3, 1, 0] rfl ?_
                refine v_lv [(0, .ref m), (3, .int (toldF (fun k => seenB σ v i k && neB σ v i k) (j + 1))), (4, .int (nI (j + 1)))] (by rw [toldF_t (f := (fun k => seenB σ v i k && neB σ v i k)) (k := j) (by simp [← hx, chk_ne hC (show j < 31 by omega), c162]) (by omega)]) ?_
                exact ih (j + 1) _ _ (by omega) (chk_s hC hx hn) hR4
          · refine v_aload_n 1 o dX6_check_71 rfl rfl ?_
            refine v_get (v := .ref (m + 20)) o dX6_check_72 cf6 22 (by decide) fl_X6_69 hRq.o rfl ?_
            refine v_iload 0 o dX6_check_75 rfl ?_
            refine v_zald (bI (τ.2.1 7 ((j - 1) / 2))) o dX6_check_77 (by omega) (by decide) hRq.a20 rfl ?_
            refine v_if_eq_b 103 o dX6_check_78 (by decide) (fun c78 => ?_) (fun c78 => ?_)
            · refine v_iconst 0 o dX6_check_103 rfl ?_
              refine v_top (bI false) rfl ?_
              refine v_zast o dX6_check_104 (by omega) (by decide) (nar_bI _) hRq.a20 (fun μ5 e5 => ?_)
              have hR5 := hRq.p20 (i0 := j) (v := false) e5
              refine v_aload_n 1 o dX6_check_105 rfl rfl ?_
              refine v_dup o dX6_check_106 rfl ?_
              refine v_get (v := .int (nI (τ.1 3 2))) o dX6_check_107 cf6 23 (by decide) fl_X6_139 hR5.o rfl ?_
              refine v_aload_n 1 o dX6_check_110 rfl rfl ?_
              refine v_get (v := .ref (m + 20)) o dX6_check_111 cf6 22 (by decide) fl_X6_69 hR5.o rfl ?_
              refine v_iload 3 o dX6_check_114 rfl ?_
              refine v_zald (bI false) o dX6_check_116 (by omega) (by decide) hR5.a20 (congrArg bI u2_s) ?_
              refine v_if_eq_b 124 o dX6_check_117 (by decide) (fun c117 => ?_) (fun c117 => absurd c117 (by simp_all))
              refine v_iconst 0 o dX6_check_124 rfl ?_
              refine v_iadd (nI (τ.1 3 2)) o dX6_check_125 (nI_add (τ.1 3 2) 0) ?_
              refine v_put _ o dX6_check_126 cf6 23 (by decide) (by decide) fl_X6_139 hR5.o rfl rfl (Nat.le_of_ble_eq_true rfl) rfl (fun μ6 e6 => ?_)
              have hR6 := hR5.s_looked (v := τ.1 3 2) e6
              refine v_iload_n 2 o dX6_check_129 rfl rfl ?_
              refine v_aload_n 1 o dX6_check_130 rfl rfl ?_
              refine v_get (v := .ref (m + 20)) o dX6_check_131 cf6 22 (by decide) fl_X6_69 hR6.o rfl ?_
              refine v_iload 3 o dX6_check_134 rfl ?_
              refine v_zald (bI false) o dX6_check_136 (by omega) (by decide) hR6.a20 (congrArg bI u2_s) ?_
              refine v_if_eq_b 177 o dX6_check_137 (by decide) (fun c137 => ?_) (fun c137 => absurd c137 (by simp_all))
              refine v_iconst 0 o dX6_check_177 rfl ?_
              refine v_ior ((toldF (fun k => seenB σ v i k && neB σ v i k) j) ||| (nI 0)) o dX6_check_178 rfl ?_
              refine v_istore_n [(3, .int ((toldF (fun k => seenB σ v i k && neB σ v i k) j) ||| (nI 0))), (5, .int (nI ((j - 1) / 2))), (0, .ref m), (4, .int (nI j))] o dX6_check_179 rfl (by decide) rfl ?_
              refine v_iinc (nI (j + 1)) [(4, .int (nI (j + 1))), (3, .int ((toldF (fun k => seenB σ v i k && neB σ v i k) j) ||| (nI 0))), (5, .int (nI ((j - 1) / 2))), (0, .ref m)] o dX6_check_180 3 rfl (iinc_n j 1) (by decide) rfl ?_
              refine v_goto 45 o dX6_check_183 (by decide) ?_
              have hx : false = seenB σ v i j := by rw [seenB_s σ v i j (by omega), ← hC.2.2 _ (by omega), c78]; simp [c68]
              have hn : τ.1 3 2 = cnt (seenB σ v i) (j + 1) := by rw [cnt_f hx.symm, ← hlk]
              refine v_sub [(0, .ref m), (3, .int ((toldF (fun k => seenB σ v i k && neB σ v i k) j) ||| (nI 0))), (4, .int (nI (j + 1)))] [3, 1, 0] rfl ?_
              refine v_lv [(0, .ref m), (3, .int (toldF (fun k => seenB σ v i k && neB σ v i k) (j + 1))), (4, .int (nI (j + 1)))] (by rw [or_0, toldF_f (f := (fun k => seenB σ v i k && neB σ v i k)) (k := j) (fun q => absurd q (by simp [← hx]))]) ?_
              exact ih (j + 1) _ _ (by omega) (chk_s hC hx hn) hR6
            · refine v_aload_n 1 o dX6_check_81 rfl rfl ?_
              refine v_get (v := .ref (m + 18)) o dX6_check_82 cf6 20 (by decide) fl_X6_63 hRq.o rfl ?_
              refine v_iload 0 o dX6_check_85 rfl ?_
              refine v_lald (τ.2.2.2 2 ((j - 1) / 2)) o dX6_check_87 (by omega) (by decide) hRq.a18 rfl ?_
              refine v_aload_n 1 o dX6_check_88 rfl rfl ?_
              refine v_get (v := .ref (m + 19)) o dX6_check_89 cf6 21 (by decide) fl_X6_66 hRq.o rfl ?_
              refine v_iload 0 o dX6_check_92 rfl ?_
              refine v_lald (τ.2.2.2 3 ((j - 1) / 2)) o dX6_check_94 (by omega) (by decide) hRq.a19 rfl ?_
              refine v_lcmp o dX6_check_95 ?_
              refine v_if_eq_c 103 o dX6_check_96 (by decide) (fun c96 => ?_) (fun c96 => ?_)
              · refine v_iconst 0 o dX6_check_103 rfl ?_
                refine v_top (bI false) rfl ?_
                refine v_zast o dX6_check_104 (by omega) (by decide) (nar_bI _) hRq.a20 (fun μ7 e7 => ?_)
                have hR7 := hRq.p20 (i0 := j) (v := false) e7
                refine v_aload_n 1 o dX6_check_105 rfl rfl ?_
                refine v_dup o dX6_check_106 rfl ?_
                refine v_get (v := .int (nI (τ.1 3 2))) o dX6_check_107 cf6 23 (by decide) fl_X6_139 hR7.o rfl ?_
                refine v_aload_n 1 o dX6_check_110 rfl rfl ?_
                refine v_get (v := .ref (m + 20)) o dX6_check_111 cf6 22 (by decide) fl_X6_69 hR7.o rfl ?_
                refine v_iload 3 o dX6_check_114 rfl ?_
                refine v_zald (bI false) o dX6_check_116 (by omega) (by decide) hR7.a20 (congrArg bI u2_s) ?_
                refine v_if_eq_b 124 o dX6_check_117 (by decide) (fun c117 => ?_) (fun c117 => absurd c117 (by simp_all))
                refine v_iconst 0 o dX6_check_124 rfl ?_
                refine v_iadd (nI (τ.1 3 2)) o dX6_check_125 (nI_add (τ.1 3 2) 0) ?_
                refine v_put _ o dX6_check_126 cf6 23 (by decide) (by decide) fl_X6_139 hR7.o rfl rfl (Nat.le_of_ble_eq_true rfl) rfl (fun μ8 e8 => ?_)
                have hR8 := hR7.s_looked (v := τ.1 3 2) e8
                refine v_iload_n 2 o dX6_check_129 rfl rfl ?_
                refine v_aload_n 1 o dX6_check_130 rfl rfl ?_
                refine v_get (v := .ref (m + 20)) o dX6_check_131 cf6 22 (by decide) fl_X6_69 hR8.o rfl ?_
                refine v_iload 3 o dX6_check_134 rfl ?_
                refine v_zald (bI false) o dX6_check_136 (by omega) (by decide) hR8.a20 (congrArg bI u2_s) ?_
                refine v_if_eq_b 177 o dX6_check_137 (by decide) (fun c137 => ?_) (fun c137 => absurd c137 (by simp_all))
                refine v_iconst 0 o dX6_check_177 rfl ?_
                refine v_ior ((toldF (fun k => seenB σ v i k && neB σ v i k) j) ||| (nI 0)) o dX6_check_178 rfl ?_
                refine v_istore_n [(3, .int ((toldF (fun k => seenB σ v i k && neB σ v i k) j) ||| (nI 0))), (5, .int (nI ((j - 1) / 2))), (0, .ref m), (4, .int (nI j))] o dX6_check_179 rfl (by decide) rfl ?_
                refine v_iinc (nI (j + 1)) [(4, .int (nI (j + 1))), (3, .int ((toldF (fun k => seenB σ v i k && neB σ v i k) j) ||| (nI 0))), (5, .int (nI ((j - 1) / 2))), (0, .ref m)] o dX6_check_180 3 rfl (iinc_n j 1) (by decide) rfl ?_
                refine v_goto 45 o dX6_check_183 (by decide) ?_
                have hx : false = seenB σ v i j := by rw [seenB_s σ v i j (by omega), ← hC.2.2 _ (by omega), c78, chk_ne hC (by omega)]; simp [c68, c96]
                have hn : τ.1 3 2 = cnt (seenB σ v i) (j + 1) := by rw [cnt_f hx.symm, ← hlk]
                refine v_sub [(0, .ref m), (3, .int ((toldF (fun k => seenB σ v i k && neB σ v i k) j) ||| (nI 0))), (4, .int (nI (j + 1)))] [3, 1, 0] rfl ?_
                refine v_lv [(0, .ref m), (3, .int (toldF (fun k => seenB σ v i k && neB σ v i k) (j + 1))), (4, .int (nI (j + 1)))] (by rw [or_0, toldF_f (f := (fun k => seenB σ v i k && neB σ v i k)) (k := j) (fun q => absurd q (by simp [← hx]))]) ?_
                exact ih (j + 1) _ _ (by omega) (chk_s hC hx hn) hR8
              · refine v_iconst 1 o dX6_check_99 rfl ?_
                refine v_goto 104 o dX6_check_100 (by decide) ?_
                refine v_top (bI true) rfl ?_
                refine v_zast o dX6_check_104 (by omega) (by decide) (nar_bI _) hRq.a20 (fun μ9 e9 => ?_)
                have hR9 := hRq.p20 (i0 := j) (v := true) e9
                refine v_aload_n 1 o dX6_check_105 rfl rfl ?_
                refine v_dup o dX6_check_106 rfl ?_
                refine v_get (v := .int (nI (τ.1 3 2))) o dX6_check_107 cf6 23 (by decide) fl_X6_139 hR9.o rfl ?_
                refine v_aload_n 1 o dX6_check_110 rfl rfl ?_
                refine v_get (v := .ref (m + 20)) o dX6_check_111 cf6 22 (by decide) fl_X6_69 hR9.o rfl ?_
                refine v_iload 3 o dX6_check_114 rfl ?_
                refine v_zald (bI true) o dX6_check_116 (by omega) (by decide) hR9.a20 (congrArg bI u2_s) ?_
                refine v_if_eq_b 124 o dX6_check_117 (by decide) (fun c117 => absurd c117 (by simp_all)) (fun c117 => ?_)
                refine v_iconst 1 o dX6_check_120 rfl ?_
                refine v_goto 125 o dX6_check_121 (by decide) ?_
                refine v_iadd (nI (τ.1 3 2 + 1)) o dX6_check_125 (nI_add (τ.1 3 2) 1) ?_
                refine v_put _ o dX6_check_126 cf6 23 (by decide) (by decide) fl_X6_139 hR9.o rfl rfl (Nat.le_of_ble_eq_true rfl) rfl (fun μ10 e10 => ?_)
                have hR10 := hR9.s_looked (v := τ.1 3 2 + 1) e10
                refine v_iload_n 2 o dX6_check_129 rfl rfl ?_
                refine v_aload_n 1 o dX6_check_130 rfl rfl ?_
                refine v_get (v := .ref (m + 20)) o dX6_check_131 cf6 22 (by decide) fl_X6_69 hR10.o rfl ?_
                refine v_iload 3 o dX6_check_134 rfl ?_
                refine v_zald (bI true) o dX6_check_136 (by omega) (by decide) hR10.a20 (congrArg bI u2_s) ?_
                refine v_if_eq_b 177 o dX6_check_137 (by decide) (fun c137 => absurd c137 (by simp_all)) (fun c137 => ?_)
                refine v_iload 3 o dX6_check_140 rfl ?_
                refine v_bipush 15 o dX6_check_142 (by decide) ?_
                refine v_icmp_lt_n 177 o dX6_check_144 (by decide) (by omega) (by decide) (fun c144 => ?_) (fun c144 => ?_)
                · refine v_iconst 0 o dX6_check_177 rfl ?_
                  refine v_ior ((toldF (fun k => seenB σ v i k && neB σ v i k) j) ||| (nI 0)) o dX6_check_178 rfl ?_
                  refine v_istore_n [(3, .int ((toldF (fun k => seenB σ v i k && neB σ v i k) j) ||| (nI 0))), (5, .int (nI ((j - 1) / 2))), (0, .ref m), (4, .int (nI j))] o dX6_check_179 rfl (by decide) rfl ?_
                  refine v_iinc (nI (j + 1)) [(4, .int (nI (j + 1))), (3, .int ((toldF (fun k => seenB σ v i k && neB σ v i k) j) ||| (nI 0))), (5, .int (nI ((j - 1) / 2))), (0, .ref m)] o dX6_check_180 3 rfl (iinc_n j 1) (by decide) rfl ?_
                  refine v_goto 45 o dX6_check_183 (by decide) ?_
                  have hx : true = seenB σ v i j := by rw [seenB_s σ v i j (by omega), ← hC.2.2 _ (by omega), c78, chk_ne hC (by omega)]; simp [c68, c96]
                  have hn : τ.1 3 2 + 1 = cnt (seenB σ v i) (j + 1) := by rw [cnt_t hx.symm, ← hlk]
                  refine v_sub [(0, .ref m), (3, .int ((toldF (fun k => seenB σ v i k && neB σ v i k) j) ||| (nI 0))), (4, .int (nI (j + 1)))] [3, 1, 0] rfl ?_
                  refine v_lv [(0, .ref m), (3, .int (toldF (fun k => seenB σ v i k && neB σ v i k) (j + 1))), (4, .int (nI (j + 1)))] (by rw [or_0, toldF_f (f := (fun k => seenB σ v i k && neB σ v i k)) (k := j) (fun _ => by omega)]) ?_
                  exact ih (j + 1) _ _ (by omega) (chk_s hC hx hn) hR10
                · refine v_aload_n 1 o dX6_check_147 rfl rfl ?_
                  refine v_get (v := .ref (m + 18)) o dX6_check_148 cf6 20 (by decide) fl_X6_63 hR10.o rfl ?_
                  refine v_iload 3 o dX6_check_151 rfl ?_
                  refine v_lald (τ.2.2.2 2 j) o dX6_check_153 (by omega) (by decide) hR10.a18 rfl ?_
                  refine v_aload_n 1 o dX6_check_154 rfl rfl ?_
                  refine v_get (v := .ref (m + 19)) o dX6_check_155 cf6 21 (by decide) fl_X6_66 hR10.o rfl ?_
                  refine v_iload 3 o dX6_check_158 rfl ?_
                  refine v_lald (τ.2.2.2 3 j) o dX6_check_160 (by omega) (by decide) hR10.a19 rfl ?_
                  refine v_lcmp o dX6_check_161 ?_
                  refine v_if_eq_c 177 o dX6_check_162 (by decide) (fun c162 => ?_) (fun c162 => ?_)
                  · refine v_iconst 0 o dX6_check_177 rfl ?_
                    refine v_ior ((toldF (fun k => seenB σ v i k && neB σ v i k) j) ||| (nI 0)) o dX6_check_178 rfl ?_
                    refine v_istore_n [(3, .int ((toldF (fun k => seenB σ v i k && neB σ v i k) j) ||| (nI 0))), (5, .int (nI ((j - 1) / 2))), (0, .ref m), (4, .int (nI j))] o dX6_check_179 rfl (by decide) rfl ?_
                    refine v_iinc (nI (j + 1)) [(4, .int (nI (j + 1))), (3, .int ((toldF (fun k => seenB σ v i k && neB σ v i k) j) ||| (nI 0))), (5, .int (nI ((j - 1) / 2))), (0, .ref m)] o dX6_check_180 3 rfl (iinc_n j 1) (by decide) rfl ?_
                    refine v_goto 45 o dX6_check_183 (by decide) ?_
                    have hx : true = seenB σ v i j := by rw [seenB_s σ v i j (by omega), ← hC.2.2 _ (by omega), c78, chk_ne hC (by omega)]; simp [c68, c96]
                    have hn : τ.1 3 2 + 1 = cnt (seenB σ v i) (j + 1) := by rw [cnt_t hx.symm, ← hlk]
                    refine v_sub [(0, .ref m), (3, .int ((toldF (fun k => seenB σ v i k && neB σ v i k) j) ||| (nI 0))), (4, .int (nI (j + 1)))] [3, 1, 0] rfl ?_
                    refine v_lv [(0, .ref m), (3, .int (toldF (fun k => seenB σ v i k && neB σ v i k) (j + 1))), (4, .int (nI (j + 1)))] (by rw [or_0, toldF_f (f := (fun k => seenB σ v i k && neB σ v i k)) (k := j) (fun q => absurd q (by simp [chk_ne hC (show j < 31 by omega), c162]))]) ?_
                    exact ih (j + 1) _ _ (by omega) (chk_s hC hx hn) hR10
                  · refine v_iconst 1 o dX6_check_165 rfl ?_
                    refine v_iload 3 o dX6_check_166 rfl ?_
                    refine v_bipush 16 o dX6_check_168 (by decide) ?_
                    refine v_isub (nI j - nI 16) o dX6_check_170 rfl ?_
                    refine v_iconst 1 o dX6_check_171 rfl ?_
                    refine v_iadd (nI (j - 15)) o dX6_check_172 (sh16 (by omega)) ?_
                    refine v_ishl ((nI 1) <<< ((nI (j - 15)) &&& 31)) o dX6_check_173 rfl ?_
                    refine v_goto 178 o dX6_check_174 (by decide) ?_
                    refine v_ior ((toldF (fun k => seenB σ v i k && neB σ v i k) j) ||| ((nI 1) <<< ((nI (j - 15)) &&& 31))) o dX6_check_178 rfl ?_
                    refine v_istore_n [(3, .int ((toldF (fun k => seenB σ v i k && neB σ v i k) j) ||| ((nI 1) <<< ((nI (j - 15)) &&& 31)))), (5, .int (nI ((j - 1) / 2))), (0, .ref m), (4, .int (nI j))] o dX6_check_179 rfl (by decide) rfl ?_
                    refine v_iinc (nI (j + 1)) [(4, .int (nI (j + 1))), (3, .int ((toldF (fun k => seenB σ v i k && neB σ v i k) j) ||| ((nI 1) <<< ((nI (j - 15)) &&& 31)))), (5, .int (nI ((j - 1) / 2))), (0, .ref m)] o dX6_check_180 3 rfl (iinc_n j 1) (by decide) rfl ?_
                    refine v_goto 45 o dX6_check_183 (by decide) ?_
                    have hx : true = seenB σ v i j := by rw [seenB_s σ v i j (by omega), ← hC.2.2 _ (by omega), c78, chk_ne hC (by omega)]; simp [c68, c96]
                    have hn : τ.1 3 2 + 1 = cnt (seenB σ v i) (j + 1) := by rw [cnt_t hx.symm, ← hlk]
                    refine v_sub [(0, .ref m), (3, .int ((toldF (fun k => seenB σ v i k && neB σ v i k) j) ||| ((nI 1) <<< ((nI (j - 15)) &&& 31)))), (4, .int (nI (j + 1)))] [3, 1, 0] rfl ?_
                    refine v_lv [(0, .ref m), (3, .int (toldF (fun k => seenB σ v i k && neB σ v i k) (j + 1))), (4, .int (nI (j + 1)))] (by rw [toldF_t (f := (fun k => seenB σ v i k && neB σ v i k)) (k := j) (by simp [← hx, chk_ne hC (show j < 31 by omega), c162]) (by omega)]) ?_
                    exact ih (j + 1) _ _ (by omega) (chk_s hC hx hn) hR10
      refine v_aload_n 0 o dX6_check_0 rfl rfl ?_
      refine v_iload_n 1 o dX6_check_1 rfl rfl ?_
      refine v_callSr (v := .int (bI (isV (nI v)))) [.int (nI v)] [.ref m] o dX6_check_2 cw_X6_130 st_X6_isVault (m_isVault hl hR (nI v)) rfl rfl (by decide) ⟨rfl, rfl⟩ (by decide) (Nat.le_of_ble_eq_true rfl) ?_
      refine v_top (bI true) (by rw [hV]) ?_
      refine v_if_eq_b 20 o dX6_check_5 (by decide) (fun c5 => absurd c5 (by simp_all)) (fun c5 => ?_)
      refine v_aload_n 0 o dX6_check_8 rfl rfl ?_
      refine v_iload_n 2 o dX6_check_9 rfl rfl ?_
      refine v_callVr (v := .int (bI (isB σ (nI i)))) [.int (nI i)] [.ref m] o dX6_check_10 cw_X6_101 im_X6_isBook se_X6_isBook cf6 hR.o (m_isBook hl hR (nI i)) rfl rfl (by decide) ⟨rfl, rfl⟩ (by decide) (Nat.le_of_ble_eq_true rfl) ?_
      refine v_top (bI true) (by rw [hP]) ?_
      refine v_if_eq_b 20 o dX6_check_13 (by decide) (fun c13 => absurd c13 (by simp_all)) (fun c13 => ?_)
      refine v_iconst 0 o dX6_check_16 rfl ?_
      refine v_goto 21 o dX6_check_17 (by decide) ?_
      refine v_callV [.int (nI 0)] [] o dX6_check_21 cw_X6_109 im_X6_goesWell se_X6_goesWell cf6 hR.o (m_goesWell hl hR 0 (by first | decide | omega)) rfl rfl (by decide) (by decide) (Nat.le_of_ble_eq_true rfl) ?_ (fun _ _ _ _ h => h.elim)
      rintro _ μ11 _ _ ⟨rfl, hR11, rfl⟩
      refine v_st [.int (bI true)] rfl ?_
      refine v_if_ne_b 29 o dX6_check_24 (by decide) (fun c24 => ?_) (fun c24 => absurd c24 (by simp_all))
      refine v_aload_n 0 o dX6_check_29 rfl rfl ?_
      refine v_iload_n 1 o dX6_check_30 rfl rfl ?_
      refine v_iload_n 2 o dX6_check_31 rfl rfl ?_
      refine v_callV [.int (nI v), .int (nI i)] [] o dX6_check_32 cw_X6_135 im_X6_layTrees se_X6_layTrees cf6 hR11.o (m_layTrees hl hR11 hI v i (by omega) (by omega)) rfl rfl (by decide) (by decide) (Nat.le_of_ble_eq_true rfl) ?_ (fun _ _ _ _ h => h.elim)
      rintro _ μt _ _ ⟨rfl, ⟨τ, hL, hRt⟩, rfl⟩
      refine v_st [] rfl ?_
      refine v_iconst 0 o dX6_check_35 rfl ?_
      refine v_istore_n [(3, .int (nI 0)), (0, .ref m), (1, .int (nI v)), (2, .int (nI i))] o dX6_check_36 rfl (by decide) rfl ?_
      refine v_aload_n 1 o dX6_check_37 rfl rfl ?_
      refine v_iconst 0 o dX6_check_38 rfl ?_
      refine v_put _ o dX6_check_39 cf6 23 (by decide) (by decide) fl_X6_139 hRt.o rfl rfl (Nat.le_of_ble_eq_true rfl) rfl (fun μ12 e12 => ?_)
      have hR12 := hRt.s_looked (v := 0) e12
      refine v_iconst 0 o dX6_check_42 rfl ?_
      refine v_istore [(4, .int (nI 0)), (3, .int (nI 0)), (0, .ref m), (1, .int (nI v)), (2, .int (nI i))] o dX6_check_43 (by decide) rfl ?_
      refine v_sub [(0, .ref m), (3, .int (nI 0)), (4, .int (nI 0))] [2, 1, 0] rfl ?_
      refine v_lv [(0, .ref m), (3, .int (toldF (fun k => seenB σ v i k && neB σ v i k) 0)), (4, .int (nI 0))] rfl ?_
      exact L 31 0 _ _ (by omega) (chk_0 hL) hR12

