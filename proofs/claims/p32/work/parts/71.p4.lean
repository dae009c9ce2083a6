/-- the law's act: an answer and a state that it makes of each state -/
def GF (f : Sg → Int64 × Sg) : Prop := ∀ e σ, e ≤ 1000 → JV e σ → JV (e + 1) (f σ).2 ∧ (Bad (f σ).1 → (f σ).2 = σ)
theorem gf_i (sp : Sg → Int32 × Sg) (hI : ∀ σ, Inv σ → Inv (sp σ).2) (h : ∀ e σ, e ≤ 1000 → Inv σ → JX e σ → Sp e σ (sp σ)) : GF (fun σ => ((wa (sp σ)).toInt64, th (sp σ).2 0)) := fun e σ he hJ =>
  ⟨⟨(hI σ hJ.1).t 0, th_31 _ 0, ((h e σ he hJ.1 hJ.2.2).1).t 0⟩, fun hb => (h e σ he hJ.1 hJ.2.2).2.bad hJ.2.1 hb⟩
theorem JV.mono {e : Nat} {σ : Sg} (h : JV e σ) : JV (e + 1) σ := ⟨h.1, h.2.1, h.2.2.mono⟩
theorem gf_copy (v b q : Int32) : GF (fun σ => (wl (sp_copy σ v b q), th (sp_copy σ v b q).2 0)) := fun e σ he hJ => by
  obtain ⟨k, hk⟩ := ro_copy σ v b q
  have h2 : th (sp_copy σ v b q).2 0 = σ := by rw [hk, th_norm hJ.2.1]
  refine ⟨?_, fun _ => h2⟩
  show JV (e + 1) (th (sp_copy σ v b q).2 0)
  rw [h2]
  exact hJ.mono
theorem s_sh : ∀ n, n < 32 → ((nI n &&& 31).toBitVec.smod 32).toNat = n := by decide
theorem nI_or (a b : Nat) : nI a ||| nI b = nI (a ||| b) := by
  apply Int32.toBitVec_inj.mp
  rw [Int32.toBitVec_or]
  apply BitVec.eq_of_getLsbD_eq
  intro i hi
  simp [nI, BitVec.getLsbD_ofNat, Nat.testBit_or, hi]
/-- the leaves that are told, as a number -/
def toldN (f : Nat → Bool) : Nat → Nat
  | 0 => 0
  | k + 1 => if f k && decide (15 ≤ k) then toldN f k ||| 2 ^ (k - 15) else toldN f k
theorem toldN_lt (f : Nat → Bool) : ∀ n, toldN f n < 2 ^ (n - 15)
  | 0 => Nat.zero_lt_one
  | n + 1 => by
    have ih := toldN_lt f n
    have hm : 2 ^ (n - 15) ≤ 2 ^ (n + 1 - 15) := Nat.pow_le_pow_right (by decide) (by omega)
    unfold toldN
    split
    · rename_i h
      rw [Bool.and_eq_true, decide_eq_true_eq] at h
      exact Nat.or_lt_two_pow (Nat.lt_of_lt_of_le ih hm) (Nat.pow_lt_pow_right (by decide) (by omega))
    · exact Nat.lt_of_lt_of_le ih hm
theorem toldF_is (f : Nat → Bool) : ∀ n, n ≤ 31 → toldF f n = nI (toldN f n)
  | 0, _ => rfl
  | n + 1, hn => by
    unfold toldF toldN
    rw [toldF_is f n (by omega)]
    split
    · rename_i h
      rw [Bool.and_eq_true, decide_eq_true_eq] at h
      rw [pk_shlN (n := 1) _ (n - 15) (s_sh (n - 15) (by omega)) (by rw [Nat.one_mul]; exact Nat.pow_lt_pow_right (by decide) (by omega)), Nat.one_mul, nI_or]
    · rfl
theorem gf_check (v b : Int32) : GF (fun σ => ((wa (sp_check σ v b)).toInt64 * 100 + (nI ((sp_check σ v b).2.1 3 2)).toInt64, th (sp_check σ v b).2 0)) := fun e σ he hJ => by
  refine ⟨⟨(I_check hJ.1 v b).t 0, th_31 _ 0, ?_⟩, fun hb => ?_⟩
  · show JX (e + 1) (th (sp_check σ v b).2 0)
    unfold sp_check
    split
    · exact hJ.2.2.mono
    · exact hJ.2.2.mono
  · show th (sp_check σ v b).2 0 = σ
    have hb' : Bad ((wa (sp_check σ v b)).toInt64 * 100 + (nI ((sp_check σ v b).2.1 3 2)).toInt64) := hb
    by_cases hc : (isV v && isB σ b) = true
    · exfalso
      have e1 : sp_check σ v b = (toldF (fun k => seenB σ (tn v) (tn b) k && neB σ (tn v) (tn b) k) 31, uN (th σ 0) 3 2 (cnt (seenB σ (tn v) (tn b)) 31)) := if_pos hc
      rw [e1] at hb'
      have e2 : wa (toldF (fun k => seenB σ (tn v) (tn b) k && neB σ (tn v) (tn b) k) 31, uN (th σ 0) 3 2 (cnt (seenB σ (tn v) (tn b)) 31)) = toldF (fun k => seenB σ (tn v) (tn b) k && neB σ (tn v) (tn b) k) 31 := if_pos rfl
      rw [e2, toldF_is _ 31 (Nat.le_refl _)] at hb'
      have hc2 : cnt (seenB σ (tn v) (tn b)) 31 ≤ 31 := cnt_le _ 31
      have hl := toldN_lt (fun k => seenB σ (tn v) (tn b) k && neB σ (tn v) (tn b) k) 31
      have e3 : (uN (th σ 0) 3 2 (cnt (seenB σ (tn v) (tn b)) 31)).1 3 2 = cnt (seenB σ (tn v) (tn b)) 31 := by
        show u2 (th σ 0).1 3 2 (cnt (seenB σ (tn v) (tn b)) 31) 3 2 = _
        exact u2_s
      rw [e3] at hb'
      generalize toldN (fun k => seenB σ (tn v) (tn b) k && neB σ (tn v) (tn b) k) 31 = t at hb' hl
      generalize cnt (seenB σ (tn v) (tn b)) 31 = w at hb' hc2
      have hl2 : t < 65536 := hl
      refine not_bad ?_ hb'
      have a1 : ((nI t).toInt64 * 100 + (nI w).toInt64).toInt = ((t * 100 + w : Nat) : Int) := by
        rw [nI_l (by omega), nI_l (by omega), show (100 : Int64) = lN 100 from rfl, lN_mul, lN_add, lN_toInt (by omega)]
      rw [a1]
      omega
    · have e1 : sp_check σ v b = (nI 0, th σ 1) := if_neg hc
      rw [e1, th_norm hJ.2.1]
def AV (rm : Room) (f : Sg → Int64 × Sg) (pc : Nat) (lv : Nat → List (Nat × Value)) (st : List Value) : Prop := ∀ (p : Program) (l : Launch) (e : Env) (s : State) (mi : MethodId) (args : Array Value) (below : List Frame) (meth : Method) (c : Code) (g : mG) (x z z0 : Nat) (B : Nat → Nat) (μ0 μ : mM) (σ τ : Sg), l.stackTraces = false → Ok p l s mi args meth c g cL_act 11 RL → meth.sig.returnType = some .long → z0 ≤ z → RC g x B z0 μ0 σ τ μ → Inv σ →
  V p l e rm s mi args below meth c (vx_MQ below (cQc g (lP g x z0 μ0 (.long (f σ).1) (f σ).2)) (cXC g noX) args s rm.cells rm.slots (gA g)) g μ z 0 0 pc (lv x) st
set_option maxRecDepth 100000 in
set_option maxHeartbeats 4000000 in
theorem la_452 (v bk pg vt pl lt wh mu : Int32) (odd is : Bool) : ∃ f : Sg → Int64 × Sg, GF f ∧ AV { frames := 11, cells := 122, slots := 584, locals := 267 } f 452 (fun x => [(10, .int (bI is)), (9, .int mu), (8, .int wh), (7, .int lt), (6, .int pl), (5, .int vt), (4, .int pg), (3, .int bk), (2, .int (bI odd)), (0, .ref x), (1, .int v)]) [] := by
  cases odd <;> by_cases h64 : v &&& nI 64 ≤ 0
  · refine ⟨(fun σ => ((wa (sp_book σ (nI (1 + (lwN (v >>> ((nI 3) &&& 31)) 8))) ((nI 60) + ((nI 2) * mu)) ((nI 1) + mu) (nI (lwN (v >>> ((nI 5) &&& 31)) 10)) (nI (1900 + (lwN (v >>> ((nI 8) &&& 31)) 100))))).toInt64, th (sp_book σ (nI (1 + (lwN (v >>> ((nI 3) &&& 31)) 8))) ((nI 60) + ((nI 2) * mu)) ((nI 1) + mu) (nI (lwN (v >>> ((nI 5) &&& 31)) 10)) (nI (1900 + (lwN (v >>> ((nI 8) &&& 31)) 100)))).2 0)), gf_i (fun σ => (sp_book σ (nI (1 + (lwN (v >>> ((nI 3) &&& 31)) 8))) ((nI 60) + ((nI 2) * mu)) ((nI 1) + mu) (nI (lwN (v >>> ((nI 5) &&& 31)) 10)) (nI (1900 + (lwN (v >>> ((nI 8) &&& 31)) 100))))) (fun σ h => I_book h _ _ _ _ _) (fun e σ he hI hJ => s_book hI hJ _ _ _ _ _), ?_⟩
    intro p l e s mi args below meth c g x z z0 B μ0 μ σ τ hl o hr hz0 hR hI
    refine v_lv [(10, .int (bI is)), (9, .int mu), (8, .int wh), (7, .int lt), (6, .int pl), (5, .int vt), (4, .int pg), (3, .int bk), (2, .int (bI false)), (0, .ref x), (1, .int v)] rfl ?_
    refine v_aload_n 9 o dL_act_452 rfl rfl ?_
    refine v_iload_n 8 o dL_act_453 rfl rfl ?_
    refine v_if_eq_b 462 o dL_act_454 (by decide) (fun c454 => ?_) (fun c454 => absurd c454 (by simp_all))
    refine v_iconst 1 o dL_act_462 rfl ?_
    refine v_iload_n 10 o dL_act_463 rfl rfl ?_
    refine v_iconst 3 o dL_act_464 rfl ?_
    refine v_ishr (v >>> ((nI 3) &&& 31)) o dL_act_465 rfl ?_
    refine v_bipush 8 o dL_act_466 (by decide) ?_
    refine v_callSr (v := .int (nI (lwN (v >>> ((nI 3) &&& 31)) 8))) [.int (v >>> ((nI 3) &&& 31)), .int (nI 8)] [.int (nI 1), .ref x] o dL_act_468 cw_L_111 st_L_low (l_low hl (v >>> ((nI 3) &&& 31)) 8 (by decide) (by decide)) rfl rfl (by decide) ⟨rfl, rfl⟩ (by decide) (Nat.le_of_ble_eq_true rfl) ?_
    refine v_iadd (nI (1 + (lwN (v >>> ((nI 3) &&& 31)) 8))) o dL_act_471 (nI_add 1 (lwN (v >>> ((nI 3) &&& 31)) 8)) ?_
    refine v_iload_n 8 o dL_act_472 rfl rfl ?_
    refine v_if_eq_b 481 o dL_act_473 (by decide) (fun c473 => ?_) (fun c473 => absurd c473 (by simp_all))
    refine v_bipush 60 o dL_act_481 (by decide) ?_
    refine v_iconst 2 o dL_act_483 rfl ?_
    refine v_iload 1 o dL_act_484 rfl ?_
    refine v_imul ((nI 2) * mu) o dL_act_486 rfl ?_
    refine v_iadd ((nI 60) + ((nI 2) * mu)) o dL_act_487 rfl ?_
    refine v_iload_n 8 o dL_act_488 rfl rfl ?_
    refine v_if_eq_b 497 o dL_act_489 (by decide) (fun c489 => ?_) (fun c489 => absurd c489 (by simp_all))
    refine v_iconst 1 o dL_act_497 rfl ?_
    refine v_iload 1 o dL_act_498 rfl ?_
    refine v_iadd ((nI 1) + mu) o dL_act_500 rfl ?_
    refine v_iload_n 8 o dL_act_501 rfl rfl ?_
    refine v_if_eq_b 510 o dL_act_502 (by decide) (fun c502 => ?_) (fun c502 => absurd c502 (by simp_all))
    refine v_iload_n 10 o dL_act_510 rfl rfl ?_
    refine v_iconst 5 o dL_act_511 rfl ?_
    refine v_ishr (v >>> ((nI 5) &&& 31)) o dL_act_512 rfl ?_
    refine v_bipush 10 o dL_act_513 (by decide) ?_
    refine v_callSr (v := .int (nI (lwN (v >>> ((nI 5) &&& 31)) 10))) [.int (v >>> ((nI 5) &&& 31)), .int (nI 10)] [.int ((nI 1) + mu), .int ((nI 60) + ((nI 2) * mu)), .int (nI (1 + (lwN (v >>> ((nI 3) &&& 31)) 8))), .ref x] o dL_act_515 cw_L_111 st_L_low (l_low hl (v >>> ((nI 5) &&& 31)) 10 (by decide) (by decide)) rfl rfl (by decide) ⟨rfl, rfl⟩ (by decide) (Nat.le_of_ble_eq_true rfl) ?_
    refine v_iload_n 8 o dL_act_518 rfl rfl ?_
    refine v_if_eq_b 526 o dL_act_519 (by decide) (fun c519 => ?_) (fun c519 => absurd c519 (by simp_all))
    refine v_iload_n 10 o dL_act_526 rfl rfl ?_
    refine v_bipush 64 o dL_act_527 (by decide) ?_
    refine v_iand (v &&& (nI 64)) o dL_act_529 rfl ?_
    refine v_if_le 537 o dL_act_530 (by decide) (fun c530 => ?_) (fun c530 => absurd c530 (not_not_intro h64))
    refine v_sipush 1900 o dL_act_537 (by decide) ?_
    refine v_iload_n 10 o dL_act_540 rfl rfl ?_
    refine v_bipush 8 o dL_act_541 (by decide) ?_
    refine v_ishr (v >>> ((nI 8) &&& 31)) o dL_act_543 rfl ?_
    refine v_bipush 100 o dL_act_544 (by decide) ?_
    refine v_callSr (v := .int (nI (lwN (v >>> ((nI 8) &&& 31)) 100))) [.int (v >>> ((nI 8) &&& 31)), .int (nI 100)] [.int (nI 1900), .int (nI (lwN (v >>> ((nI 5) &&& 31)) 10)), .int ((nI 1) + mu), .int ((nI 60) + ((nI 2) * mu)), .int (nI (1 + (lwN (v >>> ((nI 3) &&& 31)) 8))), .ref x] o dL_act_546 cw_L_111 st_L_low (l_low hl (v >>> ((nI 8) &&& 31)) 100 (by decide) (by decide)) rfl rfl (by decide) ⟨rfl, rfl⟩ (by decide) (Nat.le_of_ble_eq_true rfl) ?_
    refine v_iadd (nI (1900 + (lwN (v >>> ((nI 8) &&& 31)) 100))) o dL_act_549 (nI_add 1900 (lwN (v >>> ((nI 8) &&& 31)) 100)) ?_
    refine v_callSW [.ref x, .int (nI (1 + (lwN (v >>> ((nI 3) &&& 31)) 8))), .int ((nI 60) + ((nI 2) * mu)), .int ((nI 1) + mu), .int (nI (lwN (v >>> ((nI 5) &&& 31)) 10)), .int (nI (1900 + (lwN (v >>> ((nI 8) &&& 31)) 100)))] [] o dL_act_550 cwh_L_116 (l_book hl hR hI hz0 (nI (1 + (lwN (v >>> ((nI 3) &&& 31)) 8))) ((nI 60) + ((nI 2) * mu)) ((nI 1) + mu) (nI (lwN (v >>> ((nI 5) &&& 31)) 10)) (nI (1900 + (lwN (v >>> ((nI 8) &&& 31)) 100)))) rfl rfl ⟨Nat.le_of_ble_eq_true rfl, Nat.le_of_ble_eq_true rfl⟩ ⟨Nat.le_of_ble_eq_true rfl, Nat.le_of_ble_eq_true rfl⟩ (Nat.le_of_ble_eq_true rfl) ?_ (fun _ _ _ _ h => h.elim)
    rintro r9 μ9 z9 hz9 ⟨rfl, B9, τ9, hR9⟩
    refine v_st [.int (wa (sp_book σ (nI (1 + (lwN (v >>> ((nI 3) &&& 31)) 8))) ((nI 60) + ((nI 2) * mu)) ((nI 1) + mu) (nI (lwN (v >>> ((nI 5) &&& 31)) 10)) (nI (1900 + (lwN (v >>> ((nI 8) &&& 31)) 100)))))] rfl ?_
    refine v_i2l ((wa (sp_book σ (nI (1 + (lwN (v >>> ((nI 3) &&& 31)) 8))) ((nI 60) + ((nI 2) * mu)) ((nI 1) + mu) (nI (lwN (v >>> ((nI 5) &&& 31)) 10)) (nI (1900 + (lwN (v >>> ((nI 8) &&& 31)) 100))))).toInt64) o dL_act_553 rfl ?_
    exact v_lret o dL_act_554 hr (Nat.le_of_ble_eq_true rfl) (Nat.le_of_ble_eq_true rfl) ⟨rfl, B9, τ9, hR9⟩
  · refine ⟨(fun σ => ((wa (sp_book σ (nI (1 + (lwN (v >>> ((nI 3) &&& 31)) 8))) ((nI 60) + ((nI 2) * mu)) ((nI 1) + mu) (nI (lwN (v >>> ((nI 5) &&& 31)) 10)) (-1))).toInt64, th (sp_book σ (nI (1 + (lwN (v >>> ((nI 3) &&& 31)) 8))) ((nI 60) + ((nI 2) * mu)) ((nI 1) + mu) (nI (lwN (v >>> ((nI 5) &&& 31)) 10)) (-1)).2 0)), gf_i (fun σ => (sp_book σ (nI (1 + (lwN (v >>> ((nI 3) &&& 31)) 8))) ((nI 60) + ((nI 2) * mu)) ((nI 1) + mu) (nI (lwN (v >>> ((nI 5) &&& 31)) 10)) (-1))) (fun σ h => I_book h _ _ _ _ _) (fun e σ he hI hJ => s_book hI hJ _ _ _ _ _), ?_⟩
    intro p l e s mi args below meth c g x z z0 B μ0 μ σ τ hl o hr hz0 hR hI
    refine v_lv [(10, .int (bI is)), (9, .int mu), (8, .int wh), (7, .int lt), (6, .int pl), (5, .int vt), (4, .int pg), (3, .int bk), (2, .int (bI false)), (0, .ref x), (1, .int v)] rfl ?_
    refine v_aload_n 9 o dL_act_452 rfl rfl ?_
    refine v_iload_n 8 o dL_act_453 rfl rfl ?_
    refine v_if_eq_b 462 o dL_act_454 (by decide) (fun c454 => ?_) (fun c454 => absurd c454 (by simp_all))
    refine v_iconst 1 o dL_act_462 rfl ?_
    refine v_iload_n 10 o dL_act_463 rfl rfl ?_
    refine v_iconst 3 o dL_act_464 rfl ?_
    refine v_ishr (v >>> ((nI 3) &&& 31)) o dL_act_465 rfl ?_
    refine v_bipush 8 o dL_act_466 (by decide) ?_
    refine v_callSr (v := .int (nI (lwN (v >>> ((nI 3) &&& 31)) 8))) [.int (v >>> ((nI 3) &&& 31)), .int (nI 8)] [.int (nI 1), .ref x] o dL_act_468 cw_L_111 st_L_low (l_low hl (v >>> ((nI 3) &&& 31)) 8 (by decide) (by decide)) rfl rfl (by decide) ⟨rfl, rfl⟩ (by decide) (Nat.le_of_ble_eq_true rfl) ?_
    refine v_iadd (nI (1 + (lwN (v >>> ((nI 3) &&& 31)) 8))) o dL_act_471 (nI_add 1 (lwN (v >>> ((nI 3) &&& 31)) 8)) ?_
    refine v_iload_n 8 o dL_act_472 rfl rfl ?_
    refine v_if_eq_b 481 o dL_act_473 (by decide) (fun c473 => ?_) (fun c473 => absurd c473 (by simp_all))
    refine v_bipush 60 o dL_act_481 (by decide) ?_
    refine v_iconst 2 o dL_act_483 rfl ?_
    refine v_iload 1 o dL_act_484 rfl ?_
    refine v_imul ((nI 2) * mu) o dL_act_486 rfl ?_
    refine v_iadd ((nI 60) + ((nI 2) * mu)) o dL_act_487 rfl ?_
    refine v_iload_n 8 o dL_act_488 rfl rfl ?_
    refine v_if_eq_b 497 o dL_act_489 (by decide) (fun c489 => ?_) (fun c489 => absurd c489 (by simp_all))
    refine v_iconst 1 o dL_act_497 rfl ?_
    refine v_iload 1 o dL_act_498 rfl ?_
    refine v_iadd ((nI 1) + mu) o dL_act_500 rfl ?_
    refine v_iload_n 8 o dL_act_501 rfl rfl ?_
    refine v_if_eq_b 510 o dL_act_502 (by decide) (fun c502 => ?_) (fun c502 => absurd c502 (by simp_all))
    refine v_iload_n 10 o dL_act_510 rfl rfl ?_
    refine v_iconst 5 o dL_act_511 rfl ?_
    refine v_ishr (v >>> ((nI 5) &&& 31)) o dL_act_512 rfl ?_
    refine v_bipush 10 o dL_act_513 (by decide) ?_
    refine v_callSr (v := .int (nI (lwN (v >>> ((nI 5) &&& 31)) 10))) [.int (v >>> ((nI 5) &&& 31)), .int (nI 10)] [.int ((nI 1) + mu), .int ((nI 60) + ((nI 2) * mu)), .int (nI (1 + (lwN (v >>> ((nI 3) &&& 31)) 8))), .ref x] o dL_act_515 cw_L_111 st_L_low (l_low hl (v >>> ((nI 5) &&& 31)) 10 (by decide) (by decide)) rfl rfl (by decide) ⟨rfl, rfl⟩ (by decide) (Nat.le_of_ble_eq_true rfl) ?_
    refine v_iload_n 8 o dL_act_518 rfl rfl ?_
    refine v_if_eq_b 526 o dL_act_519 (by decide) (fun c519 => ?_) (fun c519 => absurd c519 (by simp_all))
    refine v_iload_n 10 o dL_act_526 rfl rfl ?_
    refine v_bipush 64 o dL_act_527 (by decide) ?_
    refine v_iand (v &&& (nI 64)) o dL_act_529 rfl ?_
    refine v_if_le 537 o dL_act_530 (by decide) (fun c530 => absurd c530 h64) (fun c530 => ?_)
    refine v_iconst_i (-1) o dL_act_533 (by decide) ?_
    refine v_goto 550 o dL_act_534 (by decide) ?_
    refine v_callSW [.ref x, .int (nI (1 + (lwN (v >>> ((nI 3) &&& 31)) 8))), .int ((nI 60) + ((nI 2) * mu)), .int ((nI 1) + mu), .int (nI (lwN (v >>> ((nI 5) &&& 31)) 10)), .int (-1)] [] o dL_act_550 cwh_L_116 (l_book hl hR hI hz0 (nI (1 + (lwN (v >>> ((nI 3) &&& 31)) 8))) ((nI 60) + ((nI 2) * mu)) ((nI 1) + mu) (nI (lwN (v >>> ((nI 5) &&& 31)) 10)) (-1)) rfl rfl ⟨Nat.le_of_ble_eq_true rfl, Nat.le_of_ble_eq_true rfl⟩ ⟨Nat.le_of_ble_eq_true rfl, Nat.le_of_ble_eq_true rfl⟩ (Nat.le_of_ble_eq_true rfl) ?_ (fun _ _ _ _ h => h.elim)
    rintro r9 μ9 z9 hz9 ⟨rfl, B9, τ9, hR9⟩
    refine v_st [.int (wa (sp_book σ (nI (1 + (lwN (v >>> ((nI 3) &&& 31)) 8))) ((nI 60) + ((nI 2) * mu)) ((nI 1) + mu) (nI (lwN (v >>> ((nI 5) &&& 31)) 10)) (-1)))] rfl ?_
    refine v_i2l ((wa (sp_book σ (nI (1 + (lwN (v >>> ((nI 3) &&& 31)) 8))) ((nI 60) + ((nI 2) * mu)) ((nI 1) + mu) (nI (lwN (v >>> ((nI 5) &&& 31)) 10)) (-1))).toInt64) o dL_act_553 rfl ?_
    exact v_lret o dL_act_554 hr (Nat.le_of_ble_eq_true rfl) (Nat.le_of_ble_eq_true rfl) ⟨rfl, B9, τ9, hR9⟩
  · refine ⟨(fun σ => ((wa (sp_book σ mu mu mu mu v)).toInt64, th (sp_book σ mu mu mu mu v).2 0)), gf_i (fun σ => (sp_book σ mu mu mu mu v)) (fun σ h => I_book h _ _ _ _ _) (fun e σ he hI hJ => s_book hI hJ _ _ _ _ _), ?_⟩
    intro p l e s mi args below meth c g x z z0 B μ0 μ σ τ hl o hr hz0 hR hI
    refine v_lv [(10, .int (bI is)), (9, .int mu), (8, .int wh), (7, .int lt), (6, .int pl), (5, .int vt), (4, .int pg), (3, .int bk), (2, .int (bI true)), (0, .ref x), (1, .int v)] rfl ?_
    refine v_aload_n 9 o dL_act_452 rfl rfl ?_
    refine v_iload_n 8 o dL_act_453 rfl rfl ?_
    refine v_if_eq_b 462 o dL_act_454 (by decide) (fun c454 => absurd c454 (by simp_all)) (fun c454 => ?_)
    refine v_iload 1 o dL_act_457 rfl ?_
    refine v_goto 472 o dL_act_459 (by decide) ?_
    refine v_iload_n 8 o dL_act_472 rfl rfl ?_
    refine v_if_eq_b 481 o dL_act_473 (by decide) (fun c473 => absurd c473 (by simp_all)) (fun c473 => ?_)
    refine v_iload 1 o dL_act_476 rfl ?_
    refine v_goto 488 o dL_act_478 (by decide) ?_
    refine v_iload_n 8 o dL_act_488 rfl rfl ?_
    refine v_if_eq_b 497 o dL_act_489 (by decide) (fun c489 => absurd c489 (by simp_all)) (fun c489 => ?_)
    refine v_iload 1 o dL_act_492 rfl ?_
    refine v_goto 501 o dL_act_494 (by decide) ?_
    refine v_iload_n 8 o dL_act_501 rfl rfl ?_
    refine v_if_eq_b 510 o dL_act_502 (by decide) (fun c502 => absurd c502 (by simp_all)) (fun c502 => ?_)
    refine v_iload 1 o dL_act_505 rfl ?_
    refine v_goto 518 o dL_act_507 (by decide) ?_
    refine v_iload_n 8 o dL_act_518 rfl rfl ?_
    refine v_if_eq_b 526 o dL_act_519 (by decide) (fun c519 => absurd c519 (by simp_all)) (fun c519 => ?_)
    refine v_iload_n 10 o dL_act_522 rfl rfl ?_
    refine v_goto 550 o dL_act_523 (by decide) ?_
    refine v_callSW [.ref x, .int mu, .int mu, .int mu, .int mu, .int v] [] o dL_act_550 cwh_L_116 (l_book hl hR hI hz0 mu mu mu mu v) rfl rfl ⟨Nat.le_of_ble_eq_true rfl, Nat.le_of_ble_eq_true rfl⟩ ⟨Nat.le_of_ble_eq_true rfl, Nat.le_of_ble_eq_true rfl⟩ (Nat.le_of_ble_eq_true rfl) ?_ (fun _ _ _ _ h => h.elim)
    rintro r9 μ9 z9 hz9 ⟨rfl, B9, τ9, hR9⟩
    refine v_st [.int (wa (sp_book σ mu mu mu mu v))] rfl ?_
    refine v_i2l ((wa (sp_book σ mu mu mu mu v)).toInt64) o dL_act_553 rfl ?_
    exact v_lret o dL_act_554 hr (Nat.le_of_ble_eq_true rfl) (Nat.le_of_ble_eq_true rfl) ⟨rfl, B9, τ9, hR9⟩
  · refine ⟨(fun σ => ((wa (sp_book σ mu mu mu mu v)).toInt64, th (sp_book σ mu mu mu mu v).2 0)), gf_i (fun σ => (sp_book σ mu mu mu mu v)) (fun σ h => I_book h _ _ _ _ _) (fun e σ he hI hJ => s_book hI hJ _ _ _ _ _), ?_⟩
    intro p l e s mi args below meth c g x z z0 B μ0 μ σ τ hl o hr hz0 hR hI
    refine v_lv [(10, .int (bI is)), (9, .int mu), (8, .int wh), (7, .int lt), (6, .int pl), (5, .int vt), (4, .int pg), (3, .int bk), (2, .int (bI true)), (0, .ref x), (1, .int v)] rfl ?_
    refine v_aload_n 9 o dL_act_452 rfl rfl ?_
    refine v_iload_n 8 o dL_act_453 rfl rfl ?_
    refine v_if_eq_b 462 o dL_act_454 (by decide) (fun c454 => absurd c454 (by simp_all)) (fun c454 => ?_)
    refine v_iload 1 o dL_act_457 rfl ?_
    refine v_goto 472 o dL_act_459 (by decide) ?_
    refine v_iload_n 8 o dL_act_472 rfl rfl ?_
    refine v_if_eq_b 481 o dL_act_473 (by decide) (fun c473 => absurd c473 (by simp_all)) (fun c473 => ?_)
    refine v_iload 1 o dL_act_476 rfl ?_
    refine v_goto 488 o dL_act_478 (by decide) ?_
    refine v_iload_n 8 o dL_act_488 rfl rfl ?_
    refine v_if_eq_b 497 o dL_act_489 (by decide) (fun c489 => absurd c489 (by simp_all)) (fun c489 => ?_)
    refine v_iload 1 o dL_act_492 rfl ?_
    refine v_goto 501 o dL_act_494 (by decide) ?_
    refine v_iload_n 8 o dL_act_501 rfl rfl ?_
    refine v_if_eq_b 510 o dL_act_502 (by decide) (fun c502 => absurd c502 (by simp_all)) (fun c502 => ?_)
    refine v_iload 1 o dL_act_505 rfl ?_
    refine v_goto 518 o dL_act_507 (by decide) ?_
    refine v_iload_n 8 o dL_act_518 rfl rfl ?_
    refine v_if_eq_b 526 o dL_act_519 (by decide) (fun c519 => absurd c519 (by simp_all)) (fun c519 => ?_)
    refine v_iload_n 10 o dL_act_522 rfl rfl ?_
    refine v_goto 550 o dL_act_523 (by decide) ?_
    refine v_callSW [.ref x, .int mu, .int mu, .int mu, .int mu, .int v] [] o dL_act_550 cwh_L_116 (l_book hl hR hI hz0 mu mu mu mu v) rfl rfl ⟨Nat.le_of_ble_eq_true rfl, Nat.le_of_ble_eq_true rfl⟩ ⟨Nat.le_of_ble_eq_true rfl, Nat.le_of_ble_eq_true rfl⟩ (Nat.le_of_ble_eq_true rfl) ?_ (fun _ _ _ _ h => h.elim)
    rintro r9 μ9 z9 hz9 ⟨rfl, B9, τ9, hR9⟩
    refine v_st [.int (wa (sp_book σ mu mu mu mu v))] rfl ?_
    refine v_i2l ((wa (sp_book σ mu mu mu mu v)).toInt64) o dL_act_553 rfl ?_
    exact v_lret o dL_act_554 hr (Nat.le_of_ble_eq_true rfl) (Nat.le_of_ble_eq_true rfl) ⟨rfl, B9, τ9, hR9⟩

set_option maxRecDepth 100000 in
set_option maxHeartbeats 4000000 in
theorem la_555 (v bk pg vt pl lt wh mu : Int32) (odd is : Bool) : ∃ f : Sg → Int64 × Sg, GF f ∧ AV { frames := 11, cells := 122, slots := 584, locals := 267 } f 555 (fun x => [(10, .int (bI is)), (9, .int mu), (8, .int wh), (7, .int lt), (6, .int pl), (5, .int vt), (4, .int pg), (3, .int bk), (2, .int (bI odd)), (0, .ref x), (1, .int v)]) [] := by
  refine ⟨(fun σ => ((wa (sp_next σ)).toInt64, th (sp_next σ).2 0)), gf_i (fun σ => (sp_next σ)) (fun σ h => I_next h ) (fun e σ he hI hJ => (ro_next σ ).elim fun k h => sp_ro hJ k h), ?_⟩
  intro p l e s mi args below meth c g x z z0 B μ0 μ σ τ hl o hr hz0 hR hI
  refine v_lv [(10, .int (bI is)), (9, .int mu), (8, .int wh), (7, .int lt), (6, .int pl), (5, .int vt), (4, .int pg), (3, .int bk), (2, .int (bI odd)), (0, .ref x), (1, .int v)] rfl ?_
  refine v_aload_n 9 o dL_act_555 rfl rfl ?_
  refine v_callV [] [] o dL_act_556 cw_L_119 im_X5_next se_X5_next cf5 hR.h0 (k_next hl hR ) rfl rfl ⟨Nat.le_of_ble_eq_true rfl, Nat.le_of_ble_eq_true rfl⟩ ⟨Nat.le_of_ble_eq_true rfl, Nat.le_of_ble_eq_true rfl⟩ (Nat.le_of_ble_eq_true rfl) ?_ (fun _ _ _ _ h => h.elim)
  rintro r9 μ9 z9 - ⟨rfl, h31, B9, τ9, hR9⟩
  refine v_st [.int ((sp_next σ).1)] rfl ?_
  refine v_i2l (((sp_next σ).1).toInt64) o dL_act_559 rfl ?_
  exact v_lret o dL_act_560 hr (Nat.le_of_ble_eq_true rfl) (Nat.le_of_ble_eq_true rfl) ⟨(by show some (Value.long (sp_next σ).1.toInt64) = some (Value.long (wa (sp_next σ)).toInt64); rw [wa_r (p := (sp_next σ)) h31]), B9, τ9, hR9.thk 0⟩

set_option maxRecDepth 100000 in
set_option maxHeartbeats 4000000 in
theorem la_561 (v bk pg vt pl lt wh mu : Int32) (odd is : Bool) : ∃ f : Sg → Int64 × Sg, GF f ∧ AV { frames := 11, cells := 122, slots := 584, locals := 267 } f 561 (fun x => [(10, .int (bI is)), (9, .int mu), (8, .int wh), (7, .int lt), (6, .int pl), (5, .int vt), (4, .int pg), (3, .int bk), (2, .int (bI odd)), (0, .ref x), (1, .int v)]) [] := by
  cases odd
  · refine ⟨(fun σ => ((wa (sp_shot σ bk pg (nI (30 + (lwN (v >>> ((nI 9) &&& 31)) 90))) (v.toInt64 * 1000003))).toInt64, th (sp_shot σ bk pg (nI (30 + (lwN (v >>> ((nI 9) &&& 31)) 90))) (v.toInt64 * 1000003)).2 0)), gf_i (fun σ => (sp_shot σ bk pg (nI (30 + (lwN (v >>> ((nI 9) &&& 31)) 90))) (v.toInt64 * 1000003))) (fun σ h => I_shot h _ _ _ _) (fun e σ he hI hJ => s_shot hI hJ _ _ _ _), ?_⟩
    intro p l e s mi args below meth c g x z z0 B μ0 μ σ τ hl o hr hz0 hR hI
    refine v_lv [(10, .int (bI is)), (9, .int mu), (8, .int wh), (7, .int lt), (6, .int pl), (5, .int vt), (4, .int pg), (3, .int bk), (2, .int (bI false)), (0, .ref x), (1, .int v)] rfl ?_
    refine v_aload_n 9 o dL_act_561 rfl rfl ?_
    refine v_iload_n 7 o dL_act_562 rfl rfl ?_
    refine v_iload 6 o dL_act_563 rfl ?_
    refine v_iload_n 8 o dL_act_565 rfl rfl ?_
    refine v_if_eq_b 574 o dL_act_566 (by decide) (fun c566 => ?_) (fun c566 => absurd c566 (by simp_all))
    refine v_bipush 30 o dL_act_574 (by decide) ?_
    refine v_iload_n 10 o dL_act_576 rfl rfl ?_
    refine v_bipush 9 o dL_act_577 (by decide) ?_
    refine v_ishr (v >>> ((nI 9) &&& 31)) o dL_act_579 rfl ?_
    refine v_bipush 90 o dL_act_580 (by decide) ?_
    refine v_callSr (v := .int (nI (lwN (v >>> ((nI 9) &&& 31)) 90))) [.int (v >>> ((nI 9) &&& 31)), .int (nI 90)] [.int (nI 30), .int pg, .int bk, .ref x] o dL_act_582 cw_L_111 st_L_low (l_low hl (v >>> ((nI 9) &&& 31)) 90 (by decide) (by decide)) rfl rfl (by decide) ⟨rfl, rfl⟩ (by decide) (Nat.le_of_ble_eq_true rfl) ?_
    refine v_iadd (nI (30 + (lwN (v >>> ((nI 9) &&& 31)) 90))) o dL_act_585 (nI_add 30 (lwN (v >>> ((nI 9) &&& 31)) 90)) ?_
    refine v_iload_n 10 o dL_act_586 rfl rfl ?_
    refine v_i2l (v.toInt64) o dL_act_587 rfl ?_
    refine v_ldc2 (1000003) o dL_act_588 ct_L_123 ?_
    refine v_lmul (v.toInt64 * 1000003) o dL_act_591 rfl ?_
    refine v_callSW [.ref x, .int bk, .int pg, .int (nI (30 + (lwN (v >>> ((nI 9) &&& 31)) 90))), .long (v.toInt64 * 1000003)] [] o dL_act_592 cwh_L_125 (l_shot hl hR hI bk pg (nI (30 + (lwN (v >>> ((nI 9) &&& 31)) 90))) (v.toInt64 * 1000003)) rfl rfl ⟨Nat.le_of_ble_eq_true rfl, Nat.le_of_ble_eq_true rfl⟩ ⟨Nat.le_of_ble_eq_true rfl, Nat.le_of_ble_eq_true rfl⟩ (Nat.le_of_ble_eq_true rfl) ?_ (fun _ _ _ _ h => h.elim)
    rintro r9 μ9 z9 hz9 ⟨rfl, B9, τ9, hR9⟩
    refine v_st [.int (wa (sp_shot σ bk pg (nI (30 + (lwN (v >>> ((nI 9) &&& 31)) 90))) (v.toInt64 * 1000003)))] rfl ?_
    refine v_i2l ((wa (sp_shot σ bk pg (nI (30 + (lwN (v >>> ((nI 9) &&& 31)) 90))) (v.toInt64 * 1000003))).toInt64) o dL_act_595 rfl ?_
    exact v_lret o dL_act_596 hr (Nat.le_of_ble_eq_true rfl) (Nat.le_of_ble_eq_true rfl) ⟨rfl, B9, τ9, hR9⟩
  · refine ⟨(fun σ => ((wa (sp_shot σ bk pg mu (v.toInt64 * 1000003))).toInt64, th (sp_shot σ bk pg mu (v.toInt64 * 1000003)).2 0)), gf_i (fun σ => (sp_shot σ bk pg mu (v.toInt64 * 1000003))) (fun σ h => I_shot h _ _ _ _) (fun e σ he hI hJ => s_shot hI hJ _ _ _ _), ?_⟩
    intro p l e s mi args below meth c g x z z0 B μ0 μ σ τ hl o hr hz0 hR hI
    refine v_lv [(10, .int (bI is)), (9, .int mu), (8, .int wh), (7, .int lt), (6, .int pl), (5, .int vt), (4, .int pg), (3, .int bk), (2, .int (bI true)), (0, .ref x), (1, .int v)] rfl ?_
    refine v_aload_n 9 o dL_act_561 rfl rfl ?_
    refine v_iload_n 7 o dL_act_562 rfl rfl ?_
    refine v_iload 6 o dL_act_563 rfl ?_
    refine v_iload_n 8 o dL_act_565 rfl rfl ?_
    refine v_if_eq_b 574 o dL_act_566 (by decide) (fun c566 => absurd c566 (by simp_all)) (fun c566 => ?_)
    refine v_iload 1 o dL_act_569 rfl ?_
    refine v_goto 586 o dL_act_571 (by decide) ?_
    refine v_iload_n 10 o dL_act_586 rfl rfl ?_
    refine v_i2l (v.toInt64) o dL_act_587 rfl ?_
    refine v_ldc2 (1000003) o dL_act_588 ct_L_123 ?_
    refine v_lmul (v.toInt64 * 1000003) o dL_act_591 rfl ?_
    refine v_callSW [.ref x, .int bk, .int pg, .int mu, .long (v.toInt64 * 1000003)] [] o dL_act_592 cwh_L_125 (l_shot hl hR hI bk pg mu (v.toInt64 * 1000003)) rfl rfl ⟨Nat.le_of_ble_eq_true rfl, Nat.le_of_ble_eq_true rfl⟩ ⟨Nat.le_of_ble_eq_true rfl, Nat.le_of_ble_eq_true rfl⟩ (Nat.le_of_ble_eq_true rfl) ?_ (fun _ _ _ _ h => h.elim)
    rintro r9 μ9 z9 hz9 ⟨rfl, B9, τ9, hR9⟩
    refine v_st [.int (wa (sp_shot σ bk pg mu (v.toInt64 * 1000003)))] rfl ?_
    refine v_i2l ((wa (sp_shot σ bk pg mu (v.toInt64 * 1000003))).toInt64) o dL_act_595 rfl ?_
    exact v_lret o dL_act_596 hr (Nat.le_of_ble_eq_true rfl) (Nat.le_of_ble_eq_true rfl) ⟨rfl, B9, τ9, hR9⟩

set_option maxRecDepth 100000 in
set_option maxHeartbeats 4000000 in
theorem la_597 (v bk pg vt pl lt wh mu : Int32) (odd is : Bool) : ∃ f : Sg → Int64 × Sg, GF f ∧ AV { frames := 11, cells := 122, slots := 584, locals := 267 } f 597 (fun x => [(10, .int (bI is)), (9, .int mu), (8, .int wh), (7, .int lt), (6, .int pl), (5, .int vt), (4, .int pg), (3, .int bk), (2, .int (bI odd)), (0, .ref x), (1, .int v)]) [] := by
  refine ⟨(fun σ => ((wa (sp_look σ bk pg)).toInt64, th (sp_look σ bk pg).2 0)), gf_i (fun σ => (sp_look σ bk pg)) (fun σ h => I_look h _ _) (fun e σ he hI hJ => s_look hI hJ _ _), ?_⟩
  intro p l e s mi args below meth c g x z z0 B μ0 μ σ τ hl o hr hz0 hR hI
  refine v_lv [(10, .int (bI is)), (9, .int mu), (8, .int wh), (7, .int lt), (6, .int pl), (5, .int vt), (4, .int pg), (3, .int bk), (2, .int (bI odd)), (0, .ref x), (1, .int v)] rfl ?_
  refine v_aload_n 9 o dL_act_597 rfl rfl ?_
  refine v_iload_n 7 o dL_act_598 rfl rfl ?_
  refine v_iload 6 o dL_act_599 rfl ?_
  refine v_callSW [.ref x, .int bk, .int pg] [] o dL_act_601 cwh_L_128 (l_look hl hR hI bk pg) rfl rfl ⟨Nat.le_of_ble_eq_true rfl, Nat.le_of_ble_eq_true rfl⟩ ⟨Nat.le_of_ble_eq_true rfl, Nat.le_of_ble_eq_true rfl⟩ (Nat.le_of_ble_eq_true rfl) ?_ (fun _ _ _ _ h => h.elim)
  rintro r9 μ9 z9 hz9 ⟨rfl, B9, τ9, hR9⟩
  refine v_st [.int (wa (sp_look σ bk pg))] rfl ?_
  refine v_i2l ((wa (sp_look σ bk pg)).toInt64) o dL_act_604 rfl ?_
  exact v_lret o dL_act_605 hr (Nat.le_of_ble_eq_true rfl) (Nat.le_of_ble_eq_true rfl) ⟨rfl, B9, τ9, hR9⟩

set_option maxRecDepth 100000 in
set_option maxHeartbeats 4000000 in
theorem la_606 (v bk pg vt pl lt wh mu : Int32) (odd is : Bool) : ∃ f : Sg → Int64 × Sg, GF f ∧ AV { frames := 11, cells := 122, slots := 584, locals := 267 } f 606 (fun x => [(10, .int (bI is)), (9, .int mu), (8, .int wh), (7, .int lt), (6, .int pl), (5, .int vt), (4, .int pg), (3, .int bk), (2, .int (bI odd)), (0, .ref x), (1, .int v)]) [] := by
  by_cases h3 : lwN (v >>> (nI 9 &&& 31)) 3 = 0
  · refine ⟨(fun σ => ((wa (sp_calibrate σ)).toInt64, th (sp_calibrate σ).2 0)), gf_i (fun σ => (sp_calibrate σ)) (fun σ h => I_calibrate h) (fun e σ he hI hJ => s_calibrate hJ he), ?_⟩
    intro p l e s mi args below meth c g x z z0 B μ0 μ σ τ hl o hr hz0 hR hI
    refine v_lv [(10, .int (bI is)), (9, .int mu), (8, .int wh), (7, .int lt), (6, .int pl), (5, .int vt), (4, .int pg), (3, .int bk), (2, .int (bI odd)), (0, .ref x), (1, .int v)] rfl ?_
    refine v_iload_n 10 o dL_act_606 rfl rfl ?_
    refine v_bipush 9 o dL_act_607 (by decide) ?_
    refine v_ishr (v >>> ((nI 9) &&& 31)) o dL_act_609 rfl ?_
    refine v_iconst 3 o dL_act_610 rfl ?_
    refine v_callSr (v := .int (nI (lwN (v >>> ((nI 9) &&& 31)) 3))) [.int (v >>> ((nI 9) &&& 31)), .int (nI 3)] [] o dL_act_611 cw_L_111 st_L_low (l_low hl (v >>> ((nI 9) &&& 31)) 3 (by decide) (by decide)) rfl rfl (by decide) ⟨rfl, rfl⟩ (by decide) (Nat.le_of_ble_eq_true rfl) ?_
    refine v_if_ne_n 625 o dL_act_614 (by decide) (Nat.lt_trans (lwN_lt (by decide)) (by decide)) (fun c614 => absurd c614 (not_not_intro h3)) (fun c614 => ?_)
    refine v_aload_n 9 o dL_act_617 rfl rfl ?_
    refine v_callV [] [] o dL_act_618 cw_L_131 im_X5_calibrate se_X5_calibrate cf5 hR.h0 (k_calibrate hl hR ) rfl rfl ⟨Nat.le_of_ble_eq_true rfl, Nat.le_of_ble_eq_true rfl⟩ ⟨Nat.le_of_ble_eq_true rfl, Nat.le_of_ble_eq_true rfl⟩ (Nat.le_of_ble_eq_true rfl) ?_ (fun _ _ _ _ h => h.elim)
    rintro r9 μ9 z9 - ⟨rfl, h31, B9, τ9, hR9⟩
    refine v_st [.int ((sp_calibrate σ).1)] rfl ?_
    refine v_i2l (((sp_calibrate σ).1).toInt64) o dL_act_621 rfl ?_
    refine v_goto 630 o dL_act_622 (by decide) ?_
    exact v_lret o dL_act_630 hr (Nat.le_of_ble_eq_true rfl) (Nat.le_of_ble_eq_true rfl) ⟨(by show some (Value.long (sp_calibrate σ).1.toInt64) = some (Value.long (wa (sp_calibrate σ)).toInt64); rw [wa_r (p := (sp_calibrate σ)) h31]), B9, τ9, hR9.thk 0⟩
  · refine ⟨(fun σ => ((wa (sp_looked σ)).toInt64, th (sp_looked σ).2 0)), gf_i (fun σ => (sp_looked σ)) (fun σ h => I_looked h ) (fun e σ he hI hJ => (ro_looked σ ).elim fun k h => sp_ro hJ k h), ?_⟩
    intro p l e s mi args below meth c g x z z0 B μ0 μ σ τ hl o hr hz0 hR hI
    refine v_lv [(10, .int (bI is)), (9, .int mu), (8, .int wh), (7, .int lt), (6, .int pl), (5, .int vt), (4, .int pg), (3, .int bk), (2, .int (bI odd)), (0, .ref x), (1, .int v)] rfl ?_
    refine v_iload_n 10 o dL_act_606 rfl rfl ?_
    refine v_bipush 9 o dL_act_607 (by decide) ?_
    refine v_ishr (v >>> ((nI 9) &&& 31)) o dL_act_609 rfl ?_
    refine v_iconst 3 o dL_act_610 rfl ?_
    refine v_callSr (v := .int (nI (lwN (v >>> ((nI 9) &&& 31)) 3))) [.int (v >>> ((nI 9) &&& 31)), .int (nI 3)] [] o dL_act_611 cw_L_111 st_L_low (l_low hl (v >>> ((nI 9) &&& 31)) 3 (by decide) (by decide)) rfl rfl (by decide) ⟨rfl, rfl⟩ (by decide) (Nat.le_of_ble_eq_true rfl) ?_
    refine v_if_ne_n 625 o dL_act_614 (by decide) (Nat.lt_trans (lwN_lt (by decide)) (by decide)) (fun c614 => ?_) (fun c614 => absurd c614 h3)
    refine v_aload_n 9 o dL_act_625 rfl rfl ?_
    refine v_callV [] [] o dL_act_626 cw_L_134 im_X5_looked se_X5_looked cf5 hR.h0 (k_looked hl hR ) rfl rfl ⟨Nat.le_of_ble_eq_true rfl, Nat.le_of_ble_eq_true rfl⟩ ⟨Nat.le_of_ble_eq_true rfl, Nat.le_of_ble_eq_true rfl⟩ (Nat.le_of_ble_eq_true rfl) ?_ (fun _ _ _ _ h => h.elim)
    rintro r9 μ9 z9 - ⟨rfl, h31, B9, τ9, hR9⟩
    refine v_st [.int ((sp_looked σ).1)] rfl ?_
    refine v_i2l (((sp_looked σ).1).toInt64) o dL_act_629 rfl ?_
    exact v_lret o dL_act_630 hr (Nat.le_of_ble_eq_true rfl) (Nat.le_of_ble_eq_true rfl) ⟨(by show some (Value.long (sp_looked σ).1.toInt64) = some (Value.long (wa (sp_looked σ)).toInt64); rw [wa_r (p := (sp_looked σ)) h31]), B9, τ9, hR9.thk 0⟩

set_option maxRecDepth 100000 in
set_option maxHeartbeats 4000000 in
theorem la_631 (v bk pg vt pl lt wh mu : Int32) (odd is : Bool) : ∃ f : Sg → Int64 × Sg, GF f ∧ AV { frames := 11, cells := 122, slots := 584, locals := 267 } f 631 (fun x => [(10, .int (bI is)), (9, .int mu), (8, .int wh), (7, .int lt), (6, .int pl), (5, .int vt), (4, .int pg), (3, .int bk), (2, .int (bI odd)), (0, .ref x), (1, .int v)]) [] := by
  cases odd
  · refine ⟨(fun σ => ((wa (sp_rot σ vt bk pg (nI (lwN (v >>> ((nI 3) &&& 31)) 64)))).toInt64, th (sp_rot σ vt bk pg (nI (lwN (v >>> ((nI 3) &&& 31)) 64))).2 0)), gf_i (fun σ => (sp_rot σ vt bk pg (nI (lwN (v >>> ((nI 3) &&& 31)) 64)))) (fun σ h => I_rot h _ _ _ _) (fun e σ he hI hJ => s_rot hJ _ _ _ _), ?_⟩
    intro p l e s mi args below meth c g x z z0 B μ0 μ σ τ hl o hr hz0 hR hI
    refine v_lv [(10, .int (bI is)), (9, .int mu), (8, .int wh), (7, .int lt), (6, .int pl), (5, .int vt), (4, .int pg), (3, .int bk), (2, .int (bI false)), (0, .ref x), (1, .int v)] rfl ?_
    refine v_aload_n 9 o dL_act_631 rfl rfl ?_
    refine v_iload 5 o dL_act_632 rfl ?_
    refine v_iload_n 7 o dL_act_634 rfl rfl ?_
    refine v_iload 6 o dL_act_635 rfl ?_
    refine v_iload_n 8 o dL_act_637 rfl rfl ?_
    refine v_if_eq_b 646 o dL_act_638 (by decide) (fun c638 => ?_) (fun c638 => absurd c638 (by simp_all))
    refine v_iload_n 10 o dL_act_646 rfl rfl ?_
    refine v_iconst 3 o dL_act_647 rfl ?_
    refine v_ishr (v >>> ((nI 3) &&& 31)) o dL_act_648 rfl ?_
    refine v_bipush 64 o dL_act_649 (by decide) ?_
    refine v_callSr (v := .int (nI (lwN (v >>> ((nI 3) &&& 31)) 64))) [.int (v >>> ((nI 3) &&& 31)), .int (nI 64)] [.int pg, .int bk, .int vt, .ref x] o dL_act_651 cw_L_111 st_L_low (l_low hl (v >>> ((nI 3) &&& 31)) 64 (by decide) (by decide)) rfl rfl (by decide) ⟨rfl, rfl⟩ (by decide) (Nat.le_of_ble_eq_true rfl) ?_
    refine v_callSW [.ref x, .int vt, .int bk, .int pg, .int (nI (lwN (v >>> ((nI 3) &&& 31)) 64))] [] o dL_act_654 cwh_L_137 (l_rot hl hR hI vt bk pg (nI (lwN (v >>> ((nI 3) &&& 31)) 64))) rfl rfl ⟨Nat.le_of_ble_eq_true rfl, Nat.le_of_ble_eq_true rfl⟩ ⟨Nat.le_of_ble_eq_true rfl, Nat.le_of_ble_eq_true rfl⟩ (Nat.le_of_ble_eq_true rfl) ?_ (fun _ _ _ _ h => h.elim)
    rintro r9 μ9 z9 hz9 ⟨rfl, B9, τ9, hR9⟩
    refine v_st [.int (wa (sp_rot σ vt bk pg (nI (lwN (v >>> ((nI 3) &&& 31)) 64))))] rfl ?_
    refine v_i2l ((wa (sp_rot σ vt bk pg (nI (lwN (v >>> ((nI 3) &&& 31)) 64)))).toInt64) o dL_act_657 rfl ?_
    exact v_lret o dL_act_658 hr (Nat.le_of_ble_eq_true rfl) (Nat.le_of_ble_eq_true rfl) ⟨rfl, B9, τ9, hR9⟩
  · refine ⟨(fun σ => ((wa (sp_rot σ vt bk pg mu)).toInt64, th (sp_rot σ vt bk pg mu).2 0)), gf_i (fun σ => (sp_rot σ vt bk pg mu)) (fun σ h => I_rot h _ _ _ _) (fun e σ he hI hJ => s_rot hJ _ _ _ _), ?_⟩
    intro p l e s mi args below meth c g x z z0 B μ0 μ σ τ hl o hr hz0 hR hI
    refine v_lv [(10, .int (bI is)), (9, .int mu), (8, .int wh), (7, .int lt), (6, .int pl), (5, .int vt), (4, .int pg), (3, .int bk), (2, .int (bI true)), (0, .ref x), (1, .int v)] rfl ?_
    refine v_aload_n 9 o dL_act_631 rfl rfl ?_
    refine v_iload 5 o dL_act_632 rfl ?_
    refine v_iload_n 7 o dL_act_634 rfl rfl ?_
    refine v_iload 6 o dL_act_635 rfl ?_
    refine v_iload_n 8 o dL_act_637 rfl rfl ?_
    refine v_if_eq_b 646 o dL_act_638 (by decide) (fun c638 => absurd c638 (by simp_all)) (fun c638 => ?_)
    refine v_iload 1 o dL_act_641 rfl ?_
    refine v_goto 654 o dL_act_643 (by decide) ?_
    refine v_callSW [.ref x, .int vt, .int bk, .int pg, .int mu] [] o dL_act_654 cwh_L_137 (l_rot hl hR hI vt bk pg mu) rfl rfl ⟨Nat.le_of_ble_eq_true rfl, Nat.le_of_ble_eq_true rfl⟩ ⟨Nat.le_of_ble_eq_true rfl, Nat.le_of_ble_eq_true rfl⟩ (Nat.le_of_ble_eq_true rfl) ?_ (fun _ _ _ _ h => h.elim)
    rintro r9 μ9 z9 hz9 ⟨rfl, B9, τ9, hR9⟩
    refine v_st [.int (wa (sp_rot σ vt bk pg mu))] rfl ?_
    refine v_i2l ((wa (sp_rot σ vt bk pg mu)).toInt64) o dL_act_657 rfl ?_
    exact v_lret o dL_act_658 hr (Nat.le_of_ble_eq_true rfl) (Nat.le_of_ble_eq_true rfl) ⟨rfl, B9, τ9, hR9⟩

set_option maxRecDepth 100000 in
set_option maxHeartbeats 4000000 in
theorem la_659 (v bk pg vt pl lt wh mu : Int32) (odd is : Bool) : ∃ f : Sg → Int64 × Sg, GF f ∧ AV { frames := 11, cells := 122, slots := 584, locals := 267 } f 659 (fun x => [(10, .int (bI is)), (9, .int mu), (8, .int wh), (7, .int lt), (6, .int pl), (5, .int vt), (4, .int pg), (3, .int bk), (2, .int (bI odd)), (0, .ref x), (1, .int v)]) [] := by
  refine ⟨(fun σ => ((wa (sp_burn σ vt)).toInt64, th (sp_burn σ vt).2 0)), gf_i (fun σ => (sp_burn σ vt)) (fun σ h => I_burn h _) (fun e σ he hI hJ => s_burn hJ _), ?_⟩
  intro p l e s mi args below meth c g x z z0 B μ0 μ σ τ hl o hr hz0 hR hI
  refine v_lv [(10, .int (bI is)), (9, .int mu), (8, .int wh), (7, .int lt), (6, .int pl), (5, .int vt), (4, .int pg), (3, .int bk), (2, .int (bI odd)), (0, .ref x), (1, .int v)] rfl ?_
  refine v_aload_n 9 o dL_act_659 rfl rfl ?_
  refine v_iload 5 o dL_act_660 rfl ?_
  refine v_callSW [.ref x, .int vt] [] o dL_act_662 cwh_L_140 (l_burn hl hR hI vt) rfl rfl ⟨Nat.le_of_ble_eq_true rfl, Nat.le_of_ble_eq_true rfl⟩ ⟨Nat.le_of_ble_eq_true rfl, Nat.le_of_ble_eq_true rfl⟩ (Nat.le_of_ble_eq_true rfl) ?_ (fun _ _ _ _ h => h.elim)
  rintro r9 μ9 z9 hz9 ⟨rfl, B9, τ9, hR9⟩
  refine v_st [.int (wa (sp_burn σ vt))] rfl ?_
  refine v_i2l ((wa (sp_burn σ vt)).toInt64) o dL_act_665 rfl ?_
  exact v_lret o dL_act_666 hr (Nat.le_of_ble_eq_true rfl) (Nat.le_of_ble_eq_true rfl) ⟨rfl, B9, τ9, hR9⟩

set_option maxRecDepth 100000 in
set_option maxHeartbeats 4000000 in
theorem la_667 (v bk pg vt pl lt wh mu : Int32) (odd is : Bool) : ∃ f : Sg → Int64 × Sg, GF f ∧ AV { frames := 11, cells := 122, slots := 584, locals := 267 } f 667 (fun x => [(10, .int (bI is)), (9, .int mu), (8, .int wh), (7, .int lt), (6, .int pl), (5, .int vt), (4, .int pg), (3, .int bk), (2, .int (bI odd)), (0, .ref x), (1, .int v)]) [] := by
  refine ⟨(fun σ => ((wa (0, sp_build σ vt)).toInt64, th (0, sp_build σ vt).2 0)), gf_i (fun σ => (0, sp_build σ vt)) (fun σ h => I_build h _) (fun e σ he hI hJ => s_build hJ _), ?_⟩
  intro p l e s mi args below meth c g x z z0 B μ0 μ σ τ hl o hr hz0 hR hI
  refine v_lv [(10, .int (bI is)), (9, .int mu), (8, .int wh), (7, .int lt), (6, .int pl), (5, .int vt), (4, .int pg), (3, .int bk), (2, .int (bI odd)), (0, .ref x), (1, .int v)] rfl ?_
  refine v_aload_n 9 o dL_act_667 rfl rfl ?_
  refine v_iload 5 o dL_act_668 rfl ?_
  refine v_callSW [.ref x, .int vt] [] o dL_act_670 cwh_L_143 (l_build hl hR hI vt) rfl rfl ⟨Nat.le_of_ble_eq_true rfl, Nat.le_of_ble_eq_true rfl⟩ ⟨Nat.le_of_ble_eq_true rfl, Nat.le_of_ble_eq_true rfl⟩ (Nat.le_of_ble_eq_true rfl) ?_ (fun _ _ _ _ h => h.elim)
  rintro r9 μ9 z9 hz9 ⟨rfl, B9, τ9, hR9⟩
  refine v_st [.int (wa (0, sp_build σ vt))] rfl ?_
  refine v_i2l ((wa (0, sp_build σ vt)).toInt64) o dL_act_673 rfl ?_
  exact v_lret o dL_act_674 hr (Nat.le_of_ble_eq_true rfl) (Nat.le_of_ble_eq_true rfl) ⟨rfl, B9, τ9, hR9⟩

set_option maxRecDepth 100000 in
set_option maxHeartbeats 4000000 in
theorem la_675 (v bk pg vt pl lt wh mu : Int32) (odd is : Bool) : ∃ f : Sg → Int64 × Sg, GF f ∧ AV { frames := 11, cells := 122, slots := 584, locals := 267 } f 675 (fun x => [(10, .int (bI is)), (9, .int mu), (8, .int wh), (7, .int lt), (6, .int pl), (5, .int vt), (4, .int pg), (3, .int bk), (2, .int (bI odd)), (0, .ref x), (1, .int v)]) [] := by
  refine ⟨(fun σ => ((wa (sp_check σ vt bk)).toInt64 * 100 + (nI ((sp_check σ vt bk).2.1 3 2)).toInt64, th (sp_check σ vt bk).2 0)), gf_check vt bk, ?_⟩
  intro p l e s mi args below meth c g x z z0 B μ0 μ σ τ hl o hr hz0 hR hI
  refine v_lv [(10, .int (bI is)), (9, .int mu), (8, .int wh), (7, .int lt), (6, .int pl), (5, .int vt), (4, .int pg), (3, .int bk), (2, .int (bI odd)), (0, .ref x), (1, .int v)] rfl ?_
  refine v_aload_n 9 o dL_act_675 rfl rfl ?_
  refine v_iload 5 o dL_act_676 rfl ?_
  refine v_iload_n 7 o dL_act_678 rfl rfl ?_
  refine v_callSW [.ref x, .int vt, .int bk] [] o dL_act_679 cwh_L_145 (l_check hl hR hI vt bk) rfl rfl ⟨Nat.le_of_ble_eq_true rfl, Nat.le_of_ble_eq_true rfl⟩ ⟨Nat.le_of_ble_eq_true rfl, Nat.le_of_ble_eq_true rfl⟩ (Nat.le_of_ble_eq_true rfl) ?_ (fun _ _ _ _ h => h.elim)
  rintro r9 μ9 z9 hz9 ⟨rfl, B9, τ9, hR9⟩
  refine v_st [.int (wa (sp_check σ vt bk))] rfl ?_
  refine v_i2l ((wa (sp_check σ vt bk)).toInt64) o dL_act_682 rfl ?_
  refine v_ldc2 (100) o dL_act_683 ct_L_147 ?_
  refine v_lmul (((wa (sp_check σ vt bk)).toInt64) * 100) o dL_act_686 rfl ?_
  refine v_aload_n 9 o dL_act_687 rfl rfl ?_
  refine v_callV [] [.long (((wa (sp_check σ vt bk)).toInt64) * 100)] o dL_act_688 cw_L_134 im_X5_looked se_X5_looked cf5 hR9.h0 (k_looked hl hR9 ) rfl rfl ⟨Nat.le_of_ble_eq_true rfl, Nat.le_of_ble_eq_true rfl⟩ ⟨Nat.le_of_ble_eq_true rfl, Nat.le_of_ble_eq_true rfl⟩ (Nat.le_of_ble_eq_true rfl) ?_ (fun _ _ _ _ h => h.elim)
  rintro r8 μ8 z8 - ⟨rfl, h31, B8, τ8, hR8⟩
  refine v_st [.int ((sp_looked (th (sp_check σ vt bk).2 0)).1), .long (((wa (sp_check σ vt bk)).toInt64) * 100)] rfl ?_
  refine v_i2l (((sp_looked (th (sp_check σ vt bk).2 0)).1).toInt64) o dL_act_691 rfl ?_
  refine v_ladd ((((wa (sp_check σ vt bk)).toInt64) * 100) + (((sp_looked (th (sp_check σ vt bk).2 0)).1).toInt64)) o dL_act_692 rfl ?_
  exact v_lret o dL_act_693 hr (Nat.le_of_ble_eq_true rfl) (Nat.le_of_ble_eq_true rfl) ⟨rfl, B8, τ8, (by show RC g x B8 z0 μ0 (th (sp_check σ vt bk).2 0) τ8 μ8; rw [← th_th (sp_check σ vt bk).2 0 0]; exact hR8)⟩

set_option maxRecDepth 100000 in
set_option maxHeartbeats 4000000 in
theorem la_694 (v bk pg vt pl lt wh mu : Int32) (odd is : Bool) : ∃ f : Sg → Int64 × Sg, GF f ∧ AV { frames := 11, cells := 122, slots := 584, locals := 267 } f 694 (fun x => [(10, .int (bI is)), (9, .int mu), (8, .int wh), (7, .int lt), (6, .int pl), (5, .int vt), (4, .int pg), (3, .int bk), (2, .int (bI odd)), (0, .ref x), (1, .int v)]) [] := by
  refine ⟨(fun σ => ((wa (sp_mend σ vt bk)).toInt64, th (sp_mend σ vt bk).2 0)), gf_i (fun σ => (sp_mend σ vt bk)) (fun σ h => I_mend h _ _) (fun e σ he hI hJ => s_mend hI hJ _ _), ?_⟩
  intro p l e s mi args below meth c g x z z0 B μ0 μ σ τ hl o hr hz0 hR hI
  refine v_lv [(10, .int (bI is)), (9, .int mu), (8, .int wh), (7, .int lt), (6, .int pl), (5, .int vt), (4, .int pg), (3, .int bk), (2, .int (bI odd)), (0, .ref x), (1, .int v)] rfl ?_
  refine v_aload_n 9 o dL_act_694 rfl rfl ?_
  refine v_iload 5 o dL_act_695 rfl ?_
  refine v_iload_n 7 o dL_act_697 rfl rfl ?_
  refine v_callSW [.ref x, .int vt, .int bk] [] o dL_act_698 cwh_L_149 (l_mend hl hR hI vt bk) rfl rfl ⟨Nat.le_of_ble_eq_true rfl, Nat.le_of_ble_eq_true rfl⟩ ⟨Nat.le_of_ble_eq_true rfl, Nat.le_of_ble_eq_true rfl⟩ (Nat.le_of_ble_eq_true rfl) ?_ (fun _ _ _ _ h => h.elim)
  rintro r9 μ9 z9 hz9 ⟨rfl, B9, τ9, hR9⟩
  refine v_st [.int (wa (sp_mend σ vt bk))] rfl ?_
  refine v_i2l ((wa (sp_mend σ vt bk)).toInt64) o dL_act_701 rfl ?_
  exact v_lret o dL_act_702 hr (Nat.le_of_ble_eq_true rfl) (Nat.le_of_ble_eq_true rfl) ⟨rfl, B9, τ9, hR9⟩

set_option maxRecDepth 100000 in
set_option maxHeartbeats 4000000 in
theorem la_703 (v bk pg vt pl lt wh mu : Int32) (odd is : Bool) : ∃ f : Sg → Int64 × Sg, GF f ∧ AV { frames := 11, cells := 122, slots := 584, locals := 267 } f 703 (fun x => [(10, .int (bI is)), (9, .int mu), (8, .int wh), (7, .int lt), (6, .int pl), (5, .int vt), (4, .int pg), (3, .int bk), (2, .int (bI odd)), (0, .ref x), (1, .int v)]) [] := by
  refine ⟨(fun σ => (wl (sp_copy σ vt bk pg), th (sp_copy σ vt bk pg).2 0)), gf_copy vt bk pg, ?_⟩
  intro p l e s mi args below meth c g x z z0 B μ0 μ σ τ hl o hr hz0 hR hI
  refine v_lv [(10, .int (bI is)), (9, .int mu), (8, .int wh), (7, .int lt), (6, .int pl), (5, .int vt), (4, .int pg), (3, .int bk), (2, .int (bI odd)), (0, .ref x), (1, .int v)] rfl ?_
  refine v_aload_n 9 o dL_act_703 rfl rfl ?_
  refine v_iload 5 o dL_act_704 rfl ?_
  refine v_iload_n 7 o dL_act_706 rfl rfl ?_
  refine v_iload 6 o dL_act_707 rfl ?_
  refine v_callSW [.ref x, .int vt, .int bk, .int pg] [] o dL_act_709 cwh_L_151 (l_copy hl hR hI vt bk pg) rfl rfl ⟨Nat.le_of_ble_eq_true rfl, Nat.le_of_ble_eq_true rfl⟩ ⟨Nat.le_of_ble_eq_true rfl, Nat.le_of_ble_eq_true rfl⟩ (Nat.le_of_ble_eq_true rfl) ?_ (fun _ _ _ _ h => h.elim)
  rintro r9 μ9 z9 hz9 ⟨rfl, B9, τ9, hR9⟩
  refine v_st [.long (wl (sp_copy σ vt bk pg))] rfl ?_
  exact v_lret o dL_act_712 hr (Nat.le_of_ble_eq_true rfl) (Nat.le_of_ble_eq_true rfl) ⟨rfl, B9, τ9, hR9⟩

set_option maxRecDepth 100000 in
set_option maxHeartbeats 4000000 in
theorem la_713 (v bk pg vt pl lt wh mu : Int32) (odd is : Bool) : ∃ f : Sg → Int64 × Sg, GF f ∧ AV { frames := 11, cells := 122, slots := 584, locals := 267 } f 713 (fun x => [(10, .int (bI is)), (9, .int mu), (8, .int wh), (7, .int lt), (6, .int pl), (5, .int vt), (4, .int pg), (3, .int bk), (2, .int (bI odd)), (0, .ref x), (1, .int v)]) [] := by
  refine ⟨(fun σ => ((wa (sp_isLost σ bk pg)).toInt64, th (sp_isLost σ bk pg).2 0)), gf_i (fun σ => (sp_isLost σ bk pg)) (fun σ h => I_isLost h _ _) (fun e σ he hI hJ => (ro_isLost σ _ _).elim fun k h => sp_ro hJ k h), ?_⟩
  intro p l e s mi args below meth c g x z z0 B μ0 μ σ τ hl o hr hz0 hR hI
  refine v_lv [(10, .int (bI is)), (9, .int mu), (8, .int wh), (7, .int lt), (6, .int pl), (5, .int vt), (4, .int pg), (3, .int bk), (2, .int (bI odd)), (0, .ref x), (1, .int v)] rfl ?_
  refine v_aload_n 9 o dL_act_713 rfl rfl ?_
  refine v_iload_n 7 o dL_act_714 rfl rfl ?_
  refine v_iload 6 o dL_act_715 rfl ?_
  refine v_callSW [.ref x, .int bk, .int pg] [] o dL_act_717 cwh_L_154 (l_isLost hl hR hI bk pg) rfl rfl ⟨Nat.le_of_ble_eq_true rfl, Nat.le_of_ble_eq_true rfl⟩ ⟨Nat.le_of_ble_eq_true rfl, Nat.le_of_ble_eq_true rfl⟩ (Nat.le_of_ble_eq_true rfl) ?_ (fun _ _ _ _ h => h.elim)
  rintro r9 μ9 z9 hz9 ⟨rfl, B9, τ9, hR9⟩
  refine v_st [.int (wa (sp_isLost σ bk pg))] rfl ?_
  refine v_i2l ((wa (sp_isLost σ bk pg)).toInt64) o dL_act_720 rfl ?_
  exact v_lret o dL_act_721 hr (Nat.le_of_ble_eq_true rfl) (Nat.le_of_ble_eq_true rfl) ⟨rfl, B9, τ9, hR9⟩

set_option maxRecDepth 100000 in
set_option maxHeartbeats 4000000 in
theorem la_722 (v bk pg vt pl lt wh mu : Int32) (odd is : Bool) : ∃ f : Sg → Int64 × Sg, GF f ∧ AV { frames := 11, cells := 122, slots := 584, locals := 267 } f 722 (fun x => [(10, .int (bI is)), (9, .int mu), (8, .int wh), (7, .int lt), (6, .int pl), (5, .int vt), (4, .int pg), (3, .int bk), (2, .int (bI odd)), (0, .ref x), (1, .int v)]) [] := by
  cases odd
  · refine ⟨(fun σ => ((wa (0, sp_words σ bk pg (nI (lwN (v >>> ((nI 9) &&& 31)) 3)) (nI (lwN (v >>> ((nI 12) &&& 31)) 3)))).toInt64, th (0, sp_words σ bk pg (nI (lwN (v >>> ((nI 9) &&& 31)) 3)) (nI (lwN (v >>> ((nI 12) &&& 31)) 3))).2 0)), gf_i (fun σ => (0, sp_words σ bk pg (nI (lwN (v >>> ((nI 9) &&& 31)) 3)) (nI (lwN (v >>> ((nI 12) &&& 31)) 3)))) (fun σ h => I_words h _ _ _ _) (fun e σ he hI hJ => s_words hJ _ _ _ _), ?_⟩
    intro p l e s mi args below meth c g x z z0 B μ0 μ σ τ hl o hr hz0 hR hI
    refine v_lv [(10, .int (bI is)), (9, .int mu), (8, .int wh), (7, .int lt), (6, .int pl), (5, .int vt), (4, .int pg), (3, .int bk), (2, .int (bI false)), (0, .ref x), (1, .int v)] rfl ?_
    refine v_aload_n 9 o dL_act_722 rfl rfl ?_
    refine v_iload_n 7 o dL_act_723 rfl rfl ?_
    refine v_iload 6 o dL_act_724 rfl ?_
    refine v_iload_n 8 o dL_act_726 rfl rfl ?_
    refine v_if_eq_b 735 o dL_act_727 (by decide) (fun c727 => ?_) (fun c727 => absurd c727 (by simp_all))
    refine v_iload_n 10 o dL_act_735 rfl rfl ?_
    refine v_bipush 9 o dL_act_736 (by decide) ?_
    refine v_ishr (v >>> ((nI 9) &&& 31)) o dL_act_738 rfl ?_
    refine v_iconst 3 o dL_act_739 rfl ?_
    refine v_callSr (v := .int (nI (lwN (v >>> ((nI 9) &&& 31)) 3))) [.int (v >>> ((nI 9) &&& 31)), .int (nI 3)] [.int pg, .int bk, .ref x] o dL_act_740 cw_L_111 st_L_low (l_low hl (v >>> ((nI 9) &&& 31)) 3 (by decide) (by decide)) rfl rfl (by decide) ⟨rfl, rfl⟩ (by decide) (Nat.le_of_ble_eq_true rfl) ?_
    refine v_iload_n 8 o dL_act_743 rfl rfl ?_
    refine v_if_eq_b 752 o dL_act_744 (by decide) (fun c744 => ?_) (fun c744 => absurd c744 (by simp_all))
    refine v_iload_n 10 o dL_act_752 rfl rfl ?_
    refine v_bipush 12 o dL_act_753 (by decide) ?_
    refine v_ishr (v >>> ((nI 12) &&& 31)) o dL_act_755 rfl ?_
    refine v_iconst 3 o dL_act_756 rfl ?_
    refine v_callSr (v := .int (nI (lwN (v >>> ((nI 12) &&& 31)) 3))) [.int (v >>> ((nI 12) &&& 31)), .int (nI 3)] [.int (nI (lwN (v >>> ((nI 9) &&& 31)) 3)), .int pg, .int bk, .ref x] o dL_act_757 cw_L_111 st_L_low (l_low hl (v >>> ((nI 12) &&& 31)) 3 (by decide) (by decide)) rfl rfl (by decide) ⟨rfl, rfl⟩ (by decide) (Nat.le_of_ble_eq_true rfl) ?_
    refine v_callSW [.ref x, .int bk, .int pg, .int (nI (lwN (v >>> ((nI 9) &&& 31)) 3)), .int (nI (lwN (v >>> ((nI 12) &&& 31)) 3))] [] o dL_act_760 cwh_L_156 (l_words hl hR hI bk pg (nI (lwN (v >>> ((nI 9) &&& 31)) 3)) (nI (lwN (v >>> ((nI 12) &&& 31)) 3))) rfl rfl ⟨Nat.le_of_ble_eq_true rfl, Nat.le_of_ble_eq_true rfl⟩ ⟨Nat.le_of_ble_eq_true rfl, Nat.le_of_ble_eq_true rfl⟩ (Nat.le_of_ble_eq_true rfl) ?_ (fun _ _ _ _ h => h.elim)
    rintro r9 μ9 z9 hz9 ⟨rfl, B9, τ9, hR9⟩
    refine v_st [.int (wa (0, sp_words σ bk pg (nI (lwN (v >>> ((nI 9) &&& 31)) 3)) (nI (lwN (v >>> ((nI 12) &&& 31)) 3))))] rfl ?_
    refine v_i2l ((wa (0, sp_words σ bk pg (nI (lwN (v >>> ((nI 9) &&& 31)) 3)) (nI (lwN (v >>> ((nI 12) &&& 31)) 3)))).toInt64) o dL_act_763 rfl ?_
    exact v_lret o dL_act_764 hr (Nat.le_of_ble_eq_true rfl) (Nat.le_of_ble_eq_true rfl) ⟨rfl, B9, τ9, hR9⟩
  · refine ⟨(fun σ => ((wa (0, sp_words σ bk pg mu mu)).toInt64, th (0, sp_words σ bk pg mu mu).2 0)), gf_i (fun σ => (0, sp_words σ bk pg mu mu)) (fun σ h => I_words h _ _ _ _) (fun e σ he hI hJ => s_words hJ _ _ _ _), ?_⟩
    intro p l e s mi args below meth c g x z z0 B μ0 μ σ τ hl o hr hz0 hR hI
    refine v_lv [(10, .int (bI is)), (9, .int mu), (8, .int wh), (7, .int lt), (6, .int pl), (5, .int vt), (4, .int pg), (3, .int bk), (2, .int (bI true)), (0, .ref x), (1, .int v)] rfl ?_
    refine v_aload_n 9 o dL_act_722 rfl rfl ?_
    refine v_iload_n 7 o dL_act_723 rfl rfl ?_
    refine v_iload 6 o dL_act_724 rfl ?_
    refine v_iload_n 8 o dL_act_726 rfl rfl ?_
    refine v_if_eq_b 735 o dL_act_727 (by decide) (fun c727 => absurd c727 (by simp_all)) (fun c727 => ?_)
    refine v_iload 1 o dL_act_730 rfl ?_
    refine v_goto 743 o dL_act_732 (by decide) ?_
    refine v_iload_n 8 o dL_act_743 rfl rfl ?_
    refine v_if_eq_b 752 o dL_act_744 (by decide) (fun c744 => absurd c744 (by simp_all)) (fun c744 => ?_)
    refine v_iload 1 o dL_act_747 rfl ?_
    refine v_goto 760 o dL_act_749 (by decide) ?_
    refine v_callSW [.ref x, .int bk, .int pg, .int mu, .int mu] [] o dL_act_760 cwh_L_156 (l_words hl hR hI bk pg mu mu) rfl rfl ⟨Nat.le_of_ble_eq_true rfl, Nat.le_of_ble_eq_true rfl⟩ ⟨Nat.le_of_ble_eq_true rfl, Nat.le_of_ble_eq_true rfl⟩ (Nat.le_of_ble_eq_true rfl) ?_ (fun _ _ _ _ h => h.elim)
    rintro r9 μ9 z9 hz9 ⟨rfl, B9, τ9, hR9⟩
    refine v_st [.int (wa (0, sp_words σ bk pg mu mu))] rfl ?_
    refine v_i2l ((wa (0, sp_words σ bk pg mu mu)).toInt64) o dL_act_763 rfl ?_
    exact v_lret o dL_act_764 hr (Nat.le_of_ble_eq_true rfl) (Nat.le_of_ble_eq_true rfl) ⟨rfl, B9, τ9, hR9⟩

set_option maxRecDepth 100000 in
set_option maxHeartbeats 4000000 in
theorem la_765 (v bk pg vt pl lt wh mu : Int32) (odd is : Bool) : ∃ f : Sg → Int64 × Sg, GF f ∧ AV { frames := 11, cells := 122, slots := 584, locals := 267 } f 765 (fun x => [(10, .int (bI is)), (9, .int mu), (8, .int wh), (7, .int lt), (6, .int pl), (5, .int vt), (4, .int pg), (3, .int bk), (2, .int (bI odd)), (0, .ref x), (1, .int v)]) [] := by
  refine ⟨(fun σ => ((wa (sp_order σ bk pg)).toInt64, th (sp_order σ bk pg).2 0)), gf_i (fun σ => (sp_order σ bk pg)) (fun σ h => I_order h _ _) (fun e σ he hI hJ => (ro_order σ _ _).elim fun k h => sp_ro hJ k h), ?_⟩
  intro p l e s mi args below meth c g x z z0 B μ0 μ σ τ hl o hr hz0 hR hI
  refine v_lv [(10, .int (bI is)), (9, .int mu), (8, .int wh), (7, .int lt), (6, .int pl), (5, .int vt), (4, .int pg), (3, .int bk), (2, .int (bI odd)), (0, .ref x), (1, .int v)] rfl ?_
  refine v_aload_n 9 o dL_act_765 rfl rfl ?_
  refine v_iload_n 7 o dL_act_766 rfl rfl ?_
  refine v_iload 6 o dL_act_767 rfl ?_
  refine v_callSW [.ref x, .int bk, .int pg] [] o dL_act_769 cwh_L_158 (l_order hl hR hI bk pg) rfl rfl ⟨Nat.le_of_ble_eq_true rfl, Nat.le_of_ble_eq_true rfl⟩ ⟨Nat.le_of_ble_eq_true rfl, Nat.le_of_ble_eq_true rfl⟩ (Nat.le_of_ble_eq_true rfl) ?_ (fun _ _ _ _ h => h.elim)
  rintro r9 μ9 z9 hz9 ⟨rfl, B9, τ9, hR9⟩
  refine v_st [.int (wa (sp_order σ bk pg))] rfl ?_
  refine v_i2l ((wa (sp_order σ bk pg)).toInt64) o dL_act_772 rfl ?_
  exact v_lret o dL_act_773 hr (Nat.le_of_ble_eq_true rfl) (Nat.le_of_ble_eq_true rfl) ⟨rfl, B9, τ9, hR9⟩

set_option maxRecDepth 100000 in
set_option maxHeartbeats 4000000 in
theorem la_774 (v bk pg vt pl lt wh mu : Int32) (odd is : Bool) : ∃ f : Sg → Int64 × Sg, GF f ∧ AV { frames := 11, cells := 122, slots := 584, locals := 267 } f 774 (fun x => [(10, .int (bI is)), (9, .int mu), (8, .int wh), (7, .int lt), (6, .int pl), (5, .int vt), (4, .int pg), (3, .int bk), (2, .int (bI odd)), (0, .ref x), (1, .int v)]) [] := by
  refine ⟨(fun σ => ((wa (sp_gold σ bk pg pl lt)).toInt64, th (sp_gold σ bk pg pl lt).2 0)), gf_i (fun σ => (sp_gold σ bk pg pl lt)) (fun σ h => I_gold h _ _ _ _) (fun e σ he hI hJ => s_gold hI hJ _ _ _ _), ?_⟩
  intro p l e s mi args below meth c g x z z0 B μ0 μ σ τ hl o hr hz0 hR hI
  refine v_lv [(10, .int (bI is)), (9, .int mu), (8, .int wh), (7, .int lt), (6, .int pl), (5, .int vt), (4, .int pg), (3, .int bk), (2, .int (bI odd)), (0, .ref x), (1, .int v)] rfl ?_
  refine v_aload_n 9 o dL_act_774 rfl rfl ?_
  refine v_iload_n 7 o dL_act_775 rfl rfl ?_
  refine v_iload 6 o dL_act_776 rfl ?_
  refine v_iload 4 o dL_act_778 rfl ?_
  refine v_iload 3 o dL_act_780 rfl ?_
  refine v_callSW [.ref x, .int bk, .int pg, .int pl, .int lt] [] o dL_act_782 cwh_L_160 (l_gold hl hR hI bk pg pl lt) rfl rfl ⟨Nat.le_of_ble_eq_true rfl, Nat.le_of_ble_eq_true rfl⟩ ⟨Nat.le_of_ble_eq_true rfl, Nat.le_of_ble_eq_true rfl⟩ (Nat.le_of_ble_eq_true rfl) ?_ (fun _ _ _ _ h => h.elim)
  rintro r9 μ9 z9 hz9 ⟨rfl, B9, τ9, hR9⟩
  refine v_st [.int (wa (sp_gold σ bk pg pl lt))] rfl ?_
  refine v_i2l ((wa (sp_gold σ bk pg pl lt)).toInt64) o dL_act_785 rfl ?_
  exact v_lret o dL_act_786 hr (Nat.le_of_ble_eq_true rfl) (Nat.le_of_ble_eq_true rfl) ⟨rfl, B9, τ9, hR9⟩

set_option maxRecDepth 100000 in
set_option maxHeartbeats 4000000 in
theorem la_787 (v bk pg vt pl lt wh mu : Int32) (odd is : Bool) : ∃ f : Sg → Int64 × Sg, GF f ∧ AV { frames := 11, cells := 122, slots := 584, locals := 267 } f 787 (fun x => [(10, .int (bI is)), (9, .int mu), (8, .int wh), (7, .int lt), (6, .int pl), (5, .int vt), (4, .int pg), (3, .int bk), (2, .int (bI odd)), (0, .ref x), (1, .int v)]) [] := by
  refine ⟨(fun σ => ((wa (sp_key σ wh bk pg pl lt)).toInt64, th (sp_key σ wh bk pg pl lt).2 0)), gf_i (fun σ => (sp_key σ wh bk pg pl lt)) (fun σ h => I_key h _ _ _ _ _) (fun e σ he hI hJ => s_key hI hJ _ _ _ _ _), ?_⟩
  intro p l e s mi args below meth c g x z z0 B μ0 μ σ τ hl o hr hz0 hR hI
  refine v_lv [(10, .int (bI is)), (9, .int mu), (8, .int wh), (7, .int lt), (6, .int pl), (5, .int vt), (4, .int pg), (3, .int bk), (2, .int (bI odd)), (0, .ref x), (1, .int v)] rfl ?_
  refine v_aload_n 9 o dL_act_787 rfl rfl ?_
  refine v_iload 2 o dL_act_788 rfl ?_
  refine v_iload_n 7 o dL_act_790 rfl rfl ?_
  refine v_iload 6 o dL_act_791 rfl ?_
  refine v_iload 4 o dL_act_793 rfl ?_
  refine v_iload 3 o dL_act_795 rfl ?_
  refine v_callSW [.ref x, .int wh, .int bk, .int pg, .int pl, .int lt] [] o dL_act_797 cwh_L_162 (l_key hl hR hI wh bk pg pl lt) rfl rfl ⟨Nat.le_of_ble_eq_true rfl, Nat.le_of_ble_eq_true rfl⟩ ⟨Nat.le_of_ble_eq_true rfl, Nat.le_of_ble_eq_true rfl⟩ (Nat.le_of_ble_eq_true rfl) ?_ (fun _ _ _ _ h => h.elim)
  rintro r9 μ9 z9 hz9 ⟨rfl, B9, τ9, hR9⟩
  refine v_st [.int (wa (sp_key σ wh bk pg pl lt))] rfl ?_
  refine v_i2l ((wa (sp_key σ wh bk pg pl lt)).toInt64) o dL_act_800 rfl ?_
  exact v_lret o dL_act_801 hr (Nat.le_of_ble_eq_true rfl) (Nat.le_of_ble_eq_true rfl) ⟨rfl, B9, τ9, hR9⟩

set_option maxRecDepth 100000 in
set_option maxHeartbeats 4000000 in
theorem la_802 (v bk pg vt pl lt wh mu : Int32) (odd is : Bool) : ∃ f : Sg → Int64 × Sg, GF f ∧ AV { frames := 11, cells := 122, slots := 584, locals := 267 } f 802 (fun x => [(10, .int (bI is)), (9, .int mu), (8, .int wh), (7, .int lt), (6, .int pl), (5, .int vt), (4, .int pg), (3, .int bk), (2, .int (bI odd)), (0, .ref x), (1, .int v)]) [] := by
  refine ⟨(fun σ => ((wa (sp_trust σ wh)).toInt64, th (sp_trust σ wh).2 0)), gf_i (fun σ => (sp_trust σ wh)) (fun σ h => I_trust h _) (fun e σ he hI hJ => (ro_trust σ _).elim fun k h => sp_ro hJ k h), ?_⟩
  intro p l e s mi args below meth c g x z z0 B μ0 μ σ τ hl o hr hz0 hR hI
  refine v_lv [(10, .int (bI is)), (9, .int mu), (8, .int wh), (7, .int lt), (6, .int pl), (5, .int vt), (4, .int pg), (3, .int bk), (2, .int (bI odd)), (0, .ref x), (1, .int v)] rfl ?_
  refine v_aload_n 9 o dL_act_802 rfl rfl ?_
  refine v_iload 2 o dL_act_803 rfl ?_
  refine v_callSW [.ref x, .int wh] [] o dL_act_805 cwh_L_164 (l_trust hl hR hI wh) rfl rfl ⟨Nat.le_of_ble_eq_true rfl, Nat.le_of_ble_eq_true rfl⟩ ⟨Nat.le_of_ble_eq_true rfl, Nat.le_of_ble_eq_true rfl⟩ (Nat.le_of_ble_eq_true rfl) ?_ (fun _ _ _ _ h => h.elim)
  rintro r9 μ9 z9 hz9 ⟨rfl, B9, τ9, hR9⟩
  refine v_st [.int (wa (sp_trust σ wh))] rfl ?_
  refine v_i2l ((wa (sp_trust σ wh)).toInt64) o dL_act_808 rfl ?_
  exact v_lret o dL_act_809 hr (Nat.le_of_ble_eq_true rfl) (Nat.le_of_ble_eq_true rfl) ⟨rfl, B9, τ9, hR9⟩

set_option maxRecDepth 100000 in
set_option maxHeartbeats 4000000 in
theorem la_810 (v bk pg vt pl lt wh mu : Int32) (odd is : Bool) : ∃ f : Sg → Int64 × Sg, GF f ∧ AV { frames := 11, cells := 122, slots := 584, locals := 267 } f 810 (fun x => [(10, .int (bI is)), (9, .int mu), (8, .int wh), (7, .int lt), (6, .int pl), (5, .int vt), (4, .int pg), (3, .int bk), (2, .int (bI odd)), (0, .ref x), (1, .int v)]) [] := by
  refine ⟨(fun σ => ((wa (sp_pay σ wh)).toInt64, th (sp_pay σ wh).2 0)), gf_i (fun σ => (sp_pay σ wh)) (fun σ h => I_pay h _) (fun e σ he hI hJ => (ro_pay σ _).elim fun k h => sp_ro hJ k h), ?_⟩
  intro p l e s mi args below meth c g x z z0 B μ0 μ σ τ hl o hr hz0 hR hI
  refine v_lv [(10, .int (bI is)), (9, .int mu), (8, .int wh), (7, .int lt), (6, .int pl), (5, .int vt), (4, .int pg), (3, .int bk), (2, .int (bI odd)), (0, .ref x), (1, .int v)] rfl ?_
  refine v_aload_n 9 o dL_act_810 rfl rfl ?_
  refine v_iload 2 o dL_act_811 rfl ?_
  refine v_callSW [.ref x, .int wh] [] o dL_act_813 cwh_L_166 (l_pay hl hR hI wh) rfl rfl ⟨Nat.le_of_ble_eq_true rfl, Nat.le_of_ble_eq_true rfl⟩ ⟨Nat.le_of_ble_eq_true rfl, Nat.le_of_ble_eq_true rfl⟩ (Nat.le_of_ble_eq_true rfl) ?_ (fun _ _ _ _ h => h.elim)
  rintro r9 μ9 z9 hz9 ⟨rfl, B9, τ9, hR9⟩
  refine v_st [.int (wa (sp_pay σ wh))] rfl ?_
  refine v_i2l ((wa (sp_pay σ wh)).toInt64) o dL_act_816 rfl ?_
  exact v_lret o dL_act_817 hr (Nat.le_of_ble_eq_true rfl) (Nat.le_of_ble_eq_true rfl) ⟨rfl, B9, τ9, hR9⟩

set_option maxRecDepth 100000 in
set_option maxHeartbeats 4000000 in
theorem la_818 (v bk pg vt pl lt wh mu : Int32) (odd is : Bool) : ∃ f : Sg → Int64 × Sg, GF f ∧ AV { frames := 11, cells := 122, slots := 584, locals := 267 } f 818 (fun x => [(10, .int (bI is)), (9, .int mu), (8, .int wh), (7, .int lt), (6, .int pl), (5, .int vt), (4, .int pg), (3, .int bk), (2, .int (bI odd)), (0, .ref x), (1, .int v)]) [] := by
  refine ⟨(fun σ => ((wa (sp_read σ bk pg pl)).toInt64, th (sp_read σ bk pg pl).2 0)), gf_i (fun σ => (sp_read σ bk pg pl)) (fun σ h => I_read h _ _ _) (fun e σ he hI hJ => (ro_read σ _ _ _).elim fun k h => sp_ro hJ k h), ?_⟩
  intro p l e s mi args below meth c g x z z0 B μ0 μ σ τ hl o hr hz0 hR hI
  refine v_lv [(10, .int (bI is)), (9, .int mu), (8, .int wh), (7, .int lt), (6, .int pl), (5, .int vt), (4, .int pg), (3, .int bk), (2, .int (bI odd)), (0, .ref x), (1, .int v)] rfl ?_
  refine v_aload_n 9 o dL_act_818 rfl rfl ?_
  refine v_iload_n 7 o dL_act_819 rfl rfl ?_
  refine v_iload 6 o dL_act_820 rfl ?_
  refine v_iload 4 o dL_act_822 rfl ?_
  refine v_callSW [.ref x, .int bk, .int pg, .int pl] [] o dL_act_824 cwh_L_168 (l_read hl hR hI bk pg pl) rfl rfl ⟨Nat.le_of_ble_eq_true rfl, Nat.le_of_ble_eq_true rfl⟩ ⟨Nat.le_of_ble_eq_true rfl, Nat.le_of_ble_eq_true rfl⟩ (Nat.le_of_ble_eq_true rfl) ?_ (fun _ _ _ _ h => h.elim)
  rintro r9 μ9 z9 hz9 ⟨rfl, B9, τ9, hR9⟩
  refine v_st [.int (wa (sp_read σ bk pg pl))] rfl ?_
  refine v_i2l ((wa (sp_read σ bk pg pl)).toInt64) o dL_act_827 rfl ?_
  exact v_lret o dL_act_828 hr (Nat.le_of_ble_eq_true rfl) (Nat.le_of_ble_eq_true rfl) ⟨rfl, B9, τ9, hR9⟩

set_option maxRecDepth 100000 in
set_option maxHeartbeats 4000000 in
theorem la_829 (v bk pg vt pl lt wh mu : Int32) (odd is : Bool) : ∃ f : Sg → Int64 × Sg, GF f ∧ AV { frames := 11, cells := 122, slots := 584, locals := 267 } f 829 (fun x => [(10, .int (bI is)), (9, .int mu), (8, .int wh), (7, .int lt), (6, .int pl), (5, .int vt), (4, .int pg), (3, .int bk), (2, .int (bI odd)), (0, .ref x), (1, .int v)]) [] := by
  refine ⟨(fun σ => ((wa (sp_doubt σ bk pg pl)).toInt64, th (sp_doubt σ bk pg pl).2 0)), gf_i (fun σ => (sp_doubt σ bk pg pl)) (fun σ h => I_doubt h _ _ _) (fun e σ he hI hJ => (ro_doubt σ _ _ _).elim fun k h => sp_ro hJ k h), ?_⟩
  intro p l e s mi args below meth c g x z z0 B μ0 μ σ τ hl o hr hz0 hR hI
  refine v_lv [(10, .int (bI is)), (9, .int mu), (8, .int wh), (7, .int lt), (6, .int pl), (5, .int vt), (4, .int pg), (3, .int bk), (2, .int (bI odd)), (0, .ref x), (1, .int v)] rfl ?_
  refine v_aload_n 9 o dL_act_829 rfl rfl ?_
  refine v_iload_n 7 o dL_act_830 rfl rfl ?_
  refine v_iload 6 o dL_act_831 rfl ?_
  refine v_iload 4 o dL_act_833 rfl ?_
  refine v_callSW [.ref x, .int bk, .int pg, .int pl] [] o dL_act_835 cwh_L_171 (l_doubt hl hR hI bk pg pl) rfl rfl ⟨Nat.le_of_ble_eq_true rfl, Nat.le_of_ble_eq_true rfl⟩ ⟨Nat.le_of_ble_eq_true rfl, Nat.le_of_ble_eq_true rfl⟩ (Nat.le_of_ble_eq_true rfl) ?_ (fun _ _ _ _ h => h.elim)
  rintro r9 μ9 z9 hz9 ⟨rfl, B9, τ9, hR9⟩
  refine v_st [.int (wa (sp_doubt σ bk pg pl))] rfl ?_
  refine v_i2l ((wa (sp_doubt σ bk pg pl)).toInt64) o dL_act_838 rfl ?_
  exact v_lret o dL_act_839 hr (Nat.le_of_ble_eq_true rfl) (Nat.le_of_ble_eq_true rfl) ⟨rfl, B9, τ9, hR9⟩

set_option maxRecDepth 100000 in
set_option maxHeartbeats 4000000 in
theorem la_840 (v bk pg vt pl lt wh mu : Int32) (odd is : Bool) : ∃ f : Sg → Int64 × Sg, GF f ∧ AV { frames := 11, cells := 122, slots := 584, locals := 267 } f 840 (fun x => [(10, .int (bI is)), (9, .int mu), (8, .int wh), (7, .int lt), (6, .int pl), (5, .int vt), (4, .int pg), (3, .int bk), (2, .int (bI odd)), (0, .ref x), (1, .int v)]) [] := by
  cases odd
  · refine ⟨(fun σ => ((wa (sp_pass σ (nI (1 + (lwN (v >>> ((nI 9) &&& 31)) 20))))).toInt64, th (sp_pass σ (nI (1 + (lwN (v >>> ((nI 9) &&& 31)) 20)))).2 0)), gf_i (fun σ => (sp_pass σ (nI (1 + (lwN (v >>> ((nI 9) &&& 31)) 20))))) (fun σ h => I_pass h _) (fun e σ he hI hJ => s_pass hJ _), ?_⟩
    intro p l e s mi args below meth c g x z z0 B μ0 μ σ τ hl o hr hz0 hR hI
    refine v_lv [(10, .int (bI is)), (9, .int mu), (8, .int wh), (7, .int lt), (6, .int pl), (5, .int vt), (4, .int pg), (3, .int bk), (2, .int (bI false)), (0, .ref x), (1, .int v)] rfl ?_
    refine v_aload_n 9 o dL_act_840 rfl rfl ?_
    refine v_iload_n 8 o dL_act_841 rfl rfl ?_
    refine v_if_eq_b 850 o dL_act_842 (by decide) (fun c842 => ?_) (fun c842 => absurd c842 (by simp_all))
    refine v_iconst 1 o dL_act_850 rfl ?_
    refine v_iload_n 10 o dL_act_851 rfl rfl ?_
    refine v_bipush 9 o dL_act_852 (by decide) ?_
    refine v_ishr (v >>> ((nI 9) &&& 31)) o dL_act_854 rfl ?_
    refine v_bipush 20 o dL_act_855 (by decide) ?_
    refine v_callSr (v := .int (nI (lwN (v >>> ((nI 9) &&& 31)) 20))) [.int (v >>> ((nI 9) &&& 31)), .int (nI 20)] [.int (nI 1), .ref x] o dL_act_857 cw_L_111 st_L_low (l_low hl (v >>> ((nI 9) &&& 31)) 20 (by decide) (by decide)) rfl rfl (by decide) ⟨rfl, rfl⟩ (by decide) (Nat.le_of_ble_eq_true rfl) ?_
    refine v_iadd (nI (1 + (lwN (v >>> ((nI 9) &&& 31)) 20))) o dL_act_860 (nI_add 1 (lwN (v >>> ((nI 9) &&& 31)) 20)) ?_
    refine v_callSW [.ref x, .int (nI (1 + (lwN (v >>> ((nI 9) &&& 31)) 20)))] [] o dL_act_861 cwh_L_173 (l_pass hl hR hI (nI (1 + (lwN (v >>> ((nI 9) &&& 31)) 20)))) rfl rfl ⟨Nat.le_of_ble_eq_true rfl, Nat.le_of_ble_eq_true rfl⟩ ⟨Nat.le_of_ble_eq_true rfl, Nat.le_of_ble_eq_true rfl⟩ (Nat.le_of_ble_eq_true rfl) ?_ (fun _ _ _ _ h => h.elim)
    rintro r9 μ9 z9 hz9 ⟨rfl, B9, τ9, hR9⟩
    refine v_st [.int (wa (sp_pass σ (nI (1 + (lwN (v >>> ((nI 9) &&& 31)) 20)))))] rfl ?_
    refine v_i2l ((wa (sp_pass σ (nI (1 + (lwN (v >>> ((nI 9) &&& 31)) 20))))).toInt64) o dL_act_864 rfl ?_
    exact v_lret o dL_act_865 hr (Nat.le_of_ble_eq_true rfl) (Nat.le_of_ble_eq_true rfl) ⟨rfl, B9, τ9, hR9⟩
  · refine ⟨(fun σ => ((wa (sp_pass σ mu)).toInt64, th (sp_pass σ mu).2 0)), gf_i (fun σ => (sp_pass σ mu)) (fun σ h => I_pass h _) (fun e σ he hI hJ => s_pass hJ _), ?_⟩
    intro p l e s mi args below meth c g x z z0 B μ0 μ σ τ hl o hr hz0 hR hI
    refine v_lv [(10, .int (bI is)), (9, .int mu), (8, .int wh), (7, .int lt), (6, .int pl), (5, .int vt), (4, .int pg), (3, .int bk), (2, .int (bI true)), (0, .ref x), (1, .int v)] rfl ?_
    refine v_aload_n 9 o dL_act_840 rfl rfl ?_
    refine v_iload_n 8 o dL_act_841 rfl rfl ?_
    refine v_if_eq_b 850 o dL_act_842 (by decide) (fun c842 => absurd c842 (by simp_all)) (fun c842 => ?_)
    refine v_iload 1 o dL_act_845 rfl ?_
    refine v_goto 861 o dL_act_847 (by decide) ?_
    refine v_callSW [.ref x, .int mu] [] o dL_act_861 cwh_L_173 (l_pass hl hR hI mu) rfl rfl ⟨Nat.le_of_ble_eq_true rfl, Nat.le_of_ble_eq_true rfl⟩ ⟨Nat.le_of_ble_eq_true rfl, Nat.le_of_ble_eq_true rfl⟩ (Nat.le_of_ble_eq_true rfl) ?_ (fun _ _ _ _ h => h.elim)
    rintro r9 μ9 z9 hz9 ⟨rfl, B9, τ9, hR9⟩
    refine v_st [.int (wa (sp_pass σ mu))] rfl ?_
    refine v_i2l ((wa (sp_pass σ mu)).toInt64) o dL_act_864 rfl ?_
    exact v_lret o dL_act_865 hr (Nat.le_of_ble_eq_true rfl) (Nat.le_of_ble_eq_true rfl) ⟨rfl, B9, τ9, hR9⟩

set_option maxRecDepth 100000 in
set_option maxHeartbeats 4000000 in
theorem la_866 (v bk pg vt pl lt wh mu : Int32) (odd is : Bool) : ∃ f : Sg → Int64 × Sg, GF f ∧ AV { frames := 11, cells := 122, slots := 584, locals := 267 } f 866 (fun x => [(10, .int (bI is)), (9, .int mu), (8, .int wh), (7, .int lt), (6, .int pl), (5, .int vt), (4, .int pg), (3, .int bk), (2, .int (bI odd)), (0, .ref x), (1, .int v)]) [] := by
  cases odd
  · refine ⟨(fun σ => ((wa (sp_term σ pl (nI (lwN (v >>> ((nI 3) &&& 31)) 121)))).toInt64, th (sp_term σ pl (nI (lwN (v >>> ((nI 3) &&& 31)) 121))).2 0)), gf_i (fun σ => (sp_term σ pl (nI (lwN (v >>> ((nI 3) &&& 31)) 121)))) (fun σ h => I_term h _ _) (fun e σ he hI hJ => s_term hJ _ _), ?_⟩
    intro p l e s mi args below meth c g x z z0 B μ0 μ σ τ hl o hr hz0 hR hI
    refine v_lv [(10, .int (bI is)), (9, .int mu), (8, .int wh), (7, .int lt), (6, .int pl), (5, .int vt), (4, .int pg), (3, .int bk), (2, .int (bI false)), (0, .ref x), (1, .int v)] rfl ?_
    refine v_aload_n 9 o dL_act_866 rfl rfl ?_
    refine v_iload 4 o dL_act_867 rfl ?_
    refine v_iload_n 8 o dL_act_869 rfl rfl ?_
    refine v_if_eq_b 878 o dL_act_870 (by decide) (fun c870 => ?_) (fun c870 => absurd c870 (by simp_all))
    refine v_iload_n 10 o dL_act_878 rfl rfl ?_
    refine v_iconst 3 o dL_act_879 rfl ?_
    refine v_ishr (v >>> ((nI 3) &&& 31)) o dL_act_880 rfl ?_
    refine v_bipush 121 o dL_act_881 (by decide) ?_
    refine v_callSr (v := .int (nI (lwN (v >>> ((nI 3) &&& 31)) 121))) [.int (v >>> ((nI 3) &&& 31)), .int (nI 121)] [.int pl, .ref x] o dL_act_883 cw_L_111 st_L_low (l_low hl (v >>> ((nI 3) &&& 31)) 121 (by decide) (by decide)) rfl rfl (by decide) ⟨rfl, rfl⟩ (by decide) (Nat.le_of_ble_eq_true rfl) ?_
    refine v_callSW [.ref x, .int pl, .int (nI (lwN (v >>> ((nI 3) &&& 31)) 121))] [] o dL_act_886 cwh_L_175 (l_term hl hR hI pl (nI (lwN (v >>> ((nI 3) &&& 31)) 121))) rfl rfl ⟨Nat.le_of_ble_eq_true rfl, Nat.le_of_ble_eq_true rfl⟩ ⟨Nat.le_of_ble_eq_true rfl, Nat.le_of_ble_eq_true rfl⟩ (Nat.le_of_ble_eq_true rfl) ?_ (fun _ _ _ _ h => h.elim)
    rintro r9 μ9 z9 hz9 ⟨rfl, B9, τ9, hR9⟩
    refine v_st [.int (wa (sp_term σ pl (nI (lwN (v >>> ((nI 3) &&& 31)) 121))))] rfl ?_
    refine v_i2l ((wa (sp_term σ pl (nI (lwN (v >>> ((nI 3) &&& 31)) 121)))).toInt64) o dL_act_889 rfl ?_
    exact v_lret o dL_act_890 hr (Nat.le_of_ble_eq_true rfl) (Nat.le_of_ble_eq_true rfl) ⟨rfl, B9, τ9, hR9⟩
  · refine ⟨(fun σ => ((wa (sp_term σ pl mu)).toInt64, th (sp_term σ pl mu).2 0)), gf_i (fun σ => (sp_term σ pl mu)) (fun σ h => I_term h _ _) (fun e σ he hI hJ => s_term hJ _ _), ?_⟩
    intro p l e s mi args below meth c g x z z0 B μ0 μ σ τ hl o hr hz0 hR hI
    refine v_lv [(10, .int (bI is)), (9, .int mu), (8, .int wh), (7, .int lt), (6, .int pl), (5, .int vt), (4, .int pg), (3, .int bk), (2, .int (bI true)), (0, .ref x), (1, .int v)] rfl ?_
    refine v_aload_n 9 o dL_act_866 rfl rfl ?_
    refine v_iload 4 o dL_act_867 rfl ?_
    refine v_iload_n 8 o dL_act_869 rfl rfl ?_
    refine v_if_eq_b 878 o dL_act_870 (by decide) (fun c870 => absurd c870 (by simp_all)) (fun c870 => ?_)
    refine v_iload 1 o dL_act_873 rfl ?_
    refine v_goto 886 o dL_act_875 (by decide) ?_
    refine v_callSW [.ref x, .int pl, .int mu] [] o dL_act_886 cwh_L_175 (l_term hl hR hI pl mu) rfl rfl ⟨Nat.le_of_ble_eq_true rfl, Nat.le_of_ble_eq_true rfl⟩ ⟨Nat.le_of_ble_eq_true rfl, Nat.le_of_ble_eq_true rfl⟩ (Nat.le_of_ble_eq_true rfl) ?_ (fun _ _ _ _ h => h.elim)
    rintro r9 μ9 z9 hz9 ⟨rfl, B9, τ9, hR9⟩
    refine v_st [.int (wa (sp_term σ pl mu))] rfl ?_
    refine v_i2l ((wa (sp_term σ pl mu)).toInt64) o dL_act_889 rfl ?_
    exact v_lret o dL_act_890 hr (Nat.le_of_ble_eq_true rfl) (Nat.le_of_ble_eq_true rfl) ⟨rfl, B9, τ9, hR9⟩

set_option maxRecDepth 100000 in
set_option maxHeartbeats 4000000 in
theorem la_891 (v bk pg vt pl lt wh mu : Int32) (odd is : Bool) : ∃ f : Sg → Int64 × Sg, GF f ∧ AV { frames := 11, cells := 122, slots := 584, locals := 267 } f 891 (fun x => [(10, .int (bI is)), (9, .int mu), (8, .int wh), (7, .int lt), (6, .int pl), (5, .int vt), (4, .int pg), (3, .int bk), (2, .int (bI odd)), (0, .ref x), (1, .int v)]) [] := by
  cases odd <;> by_cases h3 : lwN (v >>> (nI 9 &&& 31)) 2 = 0
  · refine ⟨(fun σ => ((wa (0, sp_died σ bk (nI (1900 + (lwN (v >>> ((nI 3) &&& 31)) 150))))).toInt64, th (0, sp_died σ bk (nI (1900 + (lwN (v >>> ((nI 3) &&& 31)) 150)))).2 0)), gf_i (fun σ => (0, sp_died σ bk (nI (1900 + (lwN (v >>> ((nI 3) &&& 31)) 150))))) (fun σ h => I_died h _ _) (fun e σ he hI hJ => s_died hJ _ _), ?_⟩
    intro p l e s mi args below meth c g x z z0 B μ0 μ σ τ hl o hr hz0 hR hI
    refine v_lv [(10, .int (bI is)), (9, .int mu), (8, .int wh), (7, .int lt), (6, .int pl), (5, .int vt), (4, .int pg), (3, .int bk), (2, .int (bI false)), (0, .ref x), (1, .int v)] rfl ?_
    refine v_iload_n 10 o dL_act_891 rfl rfl ?_
    refine v_bipush 9 o dL_act_892 (by decide) ?_
    refine v_ishr (v >>> ((nI 9) &&& 31)) o dL_act_894 rfl ?_
    refine v_iconst 2 o dL_act_895 rfl ?_
    refine v_callSr (v := .int (nI (lwN (v >>> ((nI 9) &&& 31)) 2))) [.int (v >>> ((nI 9) &&& 31)), .int (nI 2)] [] o dL_act_896 cw_L_111 st_L_low (l_low hl (v >>> ((nI 9) &&& 31)) 2 (by decide) (by decide)) rfl rfl (by decide) ⟨rfl, rfl⟩ (by decide) (Nat.le_of_ble_eq_true rfl) ?_
    refine v_if_ne_n 933 o dL_act_899 (by decide) (Nat.lt_trans (lwN_lt (by decide)) (by decide)) (fun c899 => absurd c899 (not_not_intro h3)) (fun c899 => ?_)
    refine v_aload_n 9 o dL_act_902 rfl rfl ?_
    refine v_iload_n 7 o dL_act_903 rfl rfl ?_
    refine v_iload_n 8 o dL_act_904 rfl rfl ?_
    refine v_if_eq_b 913 o dL_act_905 (by decide) (fun c905 => ?_) (fun c905 => absurd c905 (by simp_all))
    refine v_sipush 1900 o dL_act_913 (by decide) ?_
    refine v_iload_n 10 o dL_act_916 rfl rfl ?_
    refine v_iconst 3 o dL_act_917 rfl ?_
    refine v_ishr (v >>> ((nI 3) &&& 31)) o dL_act_918 rfl ?_
    refine v_sipush 150 o dL_act_919 (by decide) ?_
    refine v_callSr (v := .int (nI (lwN (v >>> ((nI 3) &&& 31)) 150))) [.int (v >>> ((nI 3) &&& 31)), .int (nI 150)] [.int (nI 1900), .int bk, .ref x] o dL_act_922 cw_L_111 st_L_low (l_low hl (v >>> ((nI 3) &&& 31)) 150 (by decide) (by decide)) rfl rfl (by decide) ⟨rfl, rfl⟩ (by decide) (Nat.le_of_ble_eq_true rfl) ?_
    refine v_iadd (nI (1900 + (lwN (v >>> ((nI 3) &&& 31)) 150))) o dL_act_925 (nI_add 1900 (lwN (v >>> ((nI 3) &&& 31)) 150)) ?_
    refine v_callSW [.ref x, .int bk, .int (nI (1900 + (lwN (v >>> ((nI 3) &&& 31)) 150)))] [] o dL_act_926 cwh_L_177 (l_died hl hR hI bk (nI (1900 + (lwN (v >>> ((nI 3) &&& 31)) 150)))) rfl rfl ⟨Nat.le_of_ble_eq_true rfl, Nat.le_of_ble_eq_true rfl⟩ ⟨Nat.le_of_ble_eq_true rfl, Nat.le_of_ble_eq_true rfl⟩ (Nat.le_of_ble_eq_true rfl) ?_ (fun _ _ _ _ h => h.elim)
    rintro r9 μ9 z9 hz9 ⟨rfl, B9, τ9, hR9⟩
    refine v_st [.int (wa (0, sp_died σ bk (nI (1900 + (lwN (v >>> ((nI 3) &&& 31)) 150)))))] rfl ?_
    refine v_i2l ((wa (0, sp_died σ bk (nI (1900 + (lwN (v >>> ((nI 3) &&& 31)) 150))))).toInt64) o dL_act_929 rfl ?_
    refine v_goto 939 o dL_act_930 (by decide) ?_
    exact v_lret o dL_act_939 hr (Nat.le_of_ble_eq_true rfl) (Nat.le_of_ble_eq_true rfl) ⟨rfl, B9, τ9, hR9⟩
  · refine ⟨(fun σ => ((wa (sp_search σ bk)).toInt64, th (sp_search σ bk).2 0)), gf_i (fun σ => (sp_search σ bk)) (fun σ h => I_search h _) (fun e σ he hI hJ => s_search hJ _), ?_⟩
    intro p l e s mi args below meth c g x z z0 B μ0 μ σ τ hl o hr hz0 hR hI
    refine v_lv [(10, .int (bI is)), (9, .int mu), (8, .int wh), (7, .int lt), (6, .int pl), (5, .int vt), (4, .int pg), (3, .int bk), (2, .int (bI false)), (0, .ref x), (1, .int v)] rfl ?_
    refine v_iload_n 10 o dL_act_891 rfl rfl ?_
    refine v_bipush 9 o dL_act_892 (by decide) ?_
    refine v_ishr (v >>> ((nI 9) &&& 31)) o dL_act_894 rfl ?_
    refine v_iconst 2 o dL_act_895 rfl ?_
    refine v_callSr (v := .int (nI (lwN (v >>> ((nI 9) &&& 31)) 2))) [.int (v >>> ((nI 9) &&& 31)), .int (nI 2)] [] o dL_act_896 cw_L_111 st_L_low (l_low hl (v >>> ((nI 9) &&& 31)) 2 (by decide) (by decide)) rfl rfl (by decide) ⟨rfl, rfl⟩ (by decide) (Nat.le_of_ble_eq_true rfl) ?_
    refine v_if_ne_n 933 o dL_act_899 (by decide) (Nat.lt_trans (lwN_lt (by decide)) (by decide)) (fun c899 => ?_) (fun c899 => absurd c899 h3)
    refine v_aload_n 9 o dL_act_933 rfl rfl ?_
    refine v_iload_n 7 o dL_act_934 rfl rfl ?_
    refine v_callSW [.ref x, .int bk] [] o dL_act_935 cwh_L_179 (l_search hl hR hI bk) rfl rfl ⟨Nat.le_of_ble_eq_true rfl, Nat.le_of_ble_eq_true rfl⟩ ⟨Nat.le_of_ble_eq_true rfl, Nat.le_of_ble_eq_true rfl⟩ (Nat.le_of_ble_eq_true rfl) ?_ (fun _ _ _ _ h => h.elim)
    rintro r9 μ9 z9 hz9 ⟨rfl, B9, τ9, hR9⟩
    refine v_st [.int (wa (sp_search σ bk))] rfl ?_
    refine v_i2l ((wa (sp_search σ bk)).toInt64) o dL_act_938 rfl ?_
    exact v_lret o dL_act_939 hr (Nat.le_of_ble_eq_true rfl) (Nat.le_of_ble_eq_true rfl) ⟨rfl, B9, τ9, hR9⟩
  · refine ⟨(fun σ => ((wa (0, sp_died σ bk mu)).toInt64, th (0, sp_died σ bk mu).2 0)), gf_i (fun σ => (0, sp_died σ bk mu)) (fun σ h => I_died h _ _) (fun e σ he hI hJ => s_died hJ _ _), ?_⟩
    intro p l e s mi args below meth c g x z z0 B μ0 μ σ τ hl o hr hz0 hR hI
    refine v_lv [(10, .int (bI is)), (9, .int mu), (8, .int wh), (7, .int lt), (6, .int pl), (5, .int vt), (4, .int pg), (3, .int bk), (2, .int (bI true)), (0, .ref x), (1, .int v)] rfl ?_
    refine v_iload_n 10 o dL_act_891 rfl rfl ?_
    refine v_bipush 9 o dL_act_892 (by decide) ?_
    refine v_ishr (v >>> ((nI 9) &&& 31)) o dL_act_894 rfl ?_
    refine v_iconst 2 o dL_act_895 rfl ?_
    refine v_callSr (v := .int (nI (lwN (v >>> ((nI 9) &&& 31)) 2))) [.int (v >>> ((nI 9) &&& 31)), .int (nI 2)] [] o dL_act_896 cw_L_111 st_L_low (l_low hl (v >>> ((nI 9) &&& 31)) 2 (by decide) (by decide)) rfl rfl (by decide) ⟨rfl, rfl⟩ (by decide) (Nat.le_of_ble_eq_true rfl) ?_
    refine v_if_ne_n 933 o dL_act_899 (by decide) (Nat.lt_trans (lwN_lt (by decide)) (by decide)) (fun c899 => absurd c899 (not_not_intro h3)) (fun c899 => ?_)
    refine v_aload_n 9 o dL_act_902 rfl rfl ?_
    refine v_iload_n 7 o dL_act_903 rfl rfl ?_
    refine v_iload_n 8 o dL_act_904 rfl rfl ?_
    refine v_if_eq_b 913 o dL_act_905 (by decide) (fun c905 => absurd c905 (by simp_all)) (fun c905 => ?_)
    refine v_iload 1 o dL_act_908 rfl ?_
    refine v_goto 926 o dL_act_910 (by decide) ?_
    refine v_callSW [.ref x, .int bk, .int mu] [] o dL_act_926 cwh_L_177 (l_died hl hR hI bk mu) rfl rfl ⟨Nat.le_of_ble_eq_true rfl, Nat.le_of_ble_eq_true rfl⟩ ⟨Nat.le_of_ble_eq_true rfl, Nat.le_of_ble_eq_true rfl⟩ (Nat.le_of_ble_eq_true rfl) ?_ (fun _ _ _ _ h => h.elim)
    rintro r9 μ9 z9 hz9 ⟨rfl, B9, τ9, hR9⟩
    refine v_st [.int (wa (0, sp_died σ bk mu))] rfl ?_
    refine v_i2l ((wa (0, sp_died σ bk mu)).toInt64) o dL_act_929 rfl ?_
    refine v_goto 939 o dL_act_930 (by decide) ?_
    exact v_lret o dL_act_939 hr (Nat.le_of_ble_eq_true rfl) (Nat.le_of_ble_eq_true rfl) ⟨rfl, B9, τ9, hR9⟩
  · refine ⟨(fun σ => ((wa (sp_search σ bk)).toInt64, th (sp_search σ bk).2 0)), gf_i (fun σ => (sp_search σ bk)) (fun σ h => I_search h _) (fun e σ he hI hJ => s_search hJ _), ?_⟩
    intro p l e s mi args below meth c g x z z0 B μ0 μ σ τ hl o hr hz0 hR hI
    refine v_lv [(10, .int (bI is)), (9, .int mu), (8, .int wh), (7, .int lt), (6, .int pl), (5, .int vt), (4, .int pg), (3, .int bk), (2, .int (bI true)), (0, .ref x), (1, .int v)] rfl ?_
    refine v_iload_n 10 o dL_act_891 rfl rfl ?_
    refine v_bipush 9 o dL_act_892 (by decide) ?_
    refine v_ishr (v >>> ((nI 9) &&& 31)) o dL_act_894 rfl ?_
    refine v_iconst 2 o dL_act_895 rfl ?_
    refine v_callSr (v := .int (nI (lwN (v >>> ((nI 9) &&& 31)) 2))) [.int (v >>> ((nI 9) &&& 31)), .int (nI 2)] [] o dL_act_896 cw_L_111 st_L_low (l_low hl (v >>> ((nI 9) &&& 31)) 2 (by decide) (by decide)) rfl rfl (by decide) ⟨rfl, rfl⟩ (by decide) (Nat.le_of_ble_eq_true rfl) ?_
    refine v_if_ne_n 933 o dL_act_899 (by decide) (Nat.lt_trans (lwN_lt (by decide)) (by decide)) (fun c899 => ?_) (fun c899 => absurd c899 h3)
    refine v_aload_n 9 o dL_act_933 rfl rfl ?_
    refine v_iload_n 7 o dL_act_934 rfl rfl ?_
    refine v_callSW [.ref x, .int bk] [] o dL_act_935 cwh_L_179 (l_search hl hR hI bk) rfl rfl ⟨Nat.le_of_ble_eq_true rfl, Nat.le_of_ble_eq_true rfl⟩ ⟨Nat.le_of_ble_eq_true rfl, Nat.le_of_ble_eq_true rfl⟩ (Nat.le_of_ble_eq_true rfl) ?_ (fun _ _ _ _ h => h.elim)
    rintro r9 μ9 z9 hz9 ⟨rfl, B9, τ9, hR9⟩
    refine v_st [.int (wa (sp_search σ bk))] rfl ?_
    refine v_i2l ((wa (sp_search σ bk)).toInt64) o dL_act_938 rfl ?_
    exact v_lret o dL_act_939 hr (Nat.le_of_ble_eq_true rfl) (Nat.le_of_ble_eq_true rfl) ⟨rfl, B9, τ9, hR9⟩

set_option maxRecDepth 100000 in
set_option maxHeartbeats 4000000 in
theorem la_940 (v bk pg vt pl lt wh mu : Int32) (odd is : Bool) : ∃ f : Sg → Int64 × Sg, GF f ∧ AV { frames := 11, cells := 122, slots := 584, locals := 267 } f 940 (fun x => [(10, .int (bI is)), (9, .int mu), (8, .int wh), (7, .int lt), (6, .int pl), (5, .int vt), (4, .int pg), (3, .int bk), (2, .int (bI odd)), (0, .ref x), (1, .int v)]) [] := by
  refine ⟨(fun σ => ((wa (sp_takeDown σ bk is)).toInt64, th (sp_takeDown σ bk is).2 0)), gf_i (fun σ => (sp_takeDown σ bk is)) (fun σ h => I_takeDown h _ _) (fun e σ he hI hJ => s_takeDown hJ _ _), ?_⟩
  intro p l e s mi args below meth c g x z z0 B μ0 μ σ τ hl o hr hz0 hR hI
  refine v_lv [(10, .int (bI is)), (9, .int mu), (8, .int wh), (7, .int lt), (6, .int pl), (5, .int vt), (4, .int pg), (3, .int bk), (2, .int (bI odd)), (0, .ref x), (1, .int v)] rfl ?_
  refine v_aload_n 9 o dL_act_940 rfl rfl ?_
  refine v_iload_n 7 o dL_act_941 rfl rfl ?_
  refine v_iload 0 o dL_act_942 rfl ?_
  refine v_callSW [.ref x, .int bk, .int (bI is)] [] o dL_act_944 cwh_L_181 (l_takeDown hl hR hI bk is) rfl rfl ⟨Nat.le_of_ble_eq_true rfl, Nat.le_of_ble_eq_true rfl⟩ ⟨Nat.le_of_ble_eq_true rfl, Nat.le_of_ble_eq_true rfl⟩ (Nat.le_of_ble_eq_true rfl) ?_ (fun _ _ _ _ h => h.elim)
  rintro r9 μ9 z9 hz9 ⟨rfl, B9, τ9, hR9⟩
  refine v_st [.int (wa (sp_takeDown σ bk is))] rfl ?_
  refine v_i2l ((wa (sp_takeDown σ bk is)).toInt64) o dL_act_947 rfl ?_
  exact v_lret o dL_act_948 hr (Nat.le_of_ble_eq_true rfl) (Nat.le_of_ble_eq_true rfl) ⟨rfl, B9, τ9, hR9⟩

set_option maxRecDepth 100000 in
set_option maxHeartbeats 4000000 in
theorem la_949 (v bk pg vt pl lt wh mu : Int32) (odd is : Bool) : ∃ f : Sg → Int64 × Sg, GF f ∧ AV { frames := 11, cells := 122, slots := 584, locals := 267 } f 949 (fun x => [(10, .int (bI is)), (9, .int mu), (8, .int wh), (7, .int lt), (6, .int pl), (5, .int vt), (4, .int pg), (3, .int bk), (2, .int (bI odd)), (0, .ref x), (1, .int v)]) [] := by
  refine ⟨(fun σ => ((wa (sp_whyNot σ bk pg pl)).toInt64, th (sp_whyNot σ bk pg pl).2 0)), gf_i (fun σ => (sp_whyNot σ bk pg pl)) (fun σ h => I_whyNot h _ _ _) (fun e σ he hI hJ => (ro_whyNot σ _ _ _).elim fun k h => sp_ro hJ k h), ?_⟩
  intro p l e s mi args below meth c g x z z0 B μ0 μ σ τ hl o hr hz0 hR hI
  refine v_lv [(10, .int (bI is)), (9, .int mu), (8, .int wh), (7, .int lt), (6, .int pl), (5, .int vt), (4, .int pg), (3, .int bk), (2, .int (bI odd)), (0, .ref x), (1, .int v)] rfl ?_
  refine v_aload_n 9 o dL_act_949 rfl rfl ?_
  refine v_iload_n 7 o dL_act_950 rfl rfl ?_
  refine v_iload 6 o dL_act_951 rfl ?_
  refine v_iload 4 o dL_act_953 rfl ?_
  refine v_callSW [.ref x, .int bk, .int pg, .int pl] [] o dL_act_955 cwh_L_184 (l_whyNot hl hR hI bk pg pl) rfl rfl ⟨Nat.le_of_ble_eq_true rfl, Nat.le_of_ble_eq_true rfl⟩ ⟨Nat.le_of_ble_eq_true rfl, Nat.le_of_ble_eq_true rfl⟩ (Nat.le_of_ble_eq_true rfl) ?_ (fun _ _ _ _ h => h.elim)
  rintro r9 μ9 z9 hz9 ⟨rfl, B9, τ9, hR9⟩
  refine v_st [.int (wa (sp_whyNot σ bk pg pl))] rfl ?_
  refine v_i2l ((wa (sp_whyNot σ bk pg pl)).toInt64) o dL_act_958 rfl ?_
  exact v_lret o dL_act_959 hr (Nat.le_of_ble_eq_true rfl) (Nat.le_of_ble_eq_true rfl) ⟨rfl, B9, τ9, hR9⟩

set_option maxRecDepth 100000 in
set_option maxHeartbeats 4000000 in
theorem la_960 (v bk pg vt pl lt wh mu : Int32) (odd is : Bool) : ∃ f : Sg → Int64 × Sg, GF f ∧ AV { frames := 11, cells := 122, slots := 584, locals := 267 } f 960 (fun x => [(10, .int (bI is)), (9, .int mu), (8, .int wh), (7, .int lt), (6, .int pl), (5, .int vt), (4, .int pg), (3, .int bk), (2, .int (bI odd)), (0, .ref x), (1, .int v)]) [] := by
  cases odd
  · refine ⟨(fun σ => ((wa (sp_about σ bk (nI (lwN (v >>> ((nI 9) &&& 31)) 6)))).toInt64, th (sp_about σ bk (nI (lwN (v >>> ((nI 9) &&& 31)) 6))).2 0)), gf_i (fun σ => (sp_about σ bk (nI (lwN (v >>> ((nI 9) &&& 31)) 6)))) (fun σ h => I_about h _ _) (fun e σ he hI hJ => (ro_about σ _ _).elim fun k h => sp_ro hJ k h), ?_⟩
    intro p l e s mi args below meth c g x z z0 B μ0 μ σ τ hl o hr hz0 hR hI
    refine v_lv [(10, .int (bI is)), (9, .int mu), (8, .int wh), (7, .int lt), (6, .int pl), (5, .int vt), (4, .int pg), (3, .int bk), (2, .int (bI false)), (0, .ref x), (1, .int v)] rfl ?_
    refine v_aload_n 9 o dL_act_960 rfl rfl ?_
    refine v_iload_n 7 o dL_act_961 rfl rfl ?_
    refine v_iload_n 8 o dL_act_962 rfl rfl ?_
    refine v_if_eq_b 971 o dL_act_963 (by decide) (fun c963 => ?_) (fun c963 => absurd c963 (by simp_all))
    refine v_iload_n 10 o dL_act_971 rfl rfl ?_
    refine v_bipush 9 o dL_act_972 (by decide) ?_
    refine v_ishr (v >>> ((nI 9) &&& 31)) o dL_act_974 rfl ?_
    refine v_bipush 6 o dL_act_975 (by decide) ?_
    refine v_callSr (v := .int (nI (lwN (v >>> ((nI 9) &&& 31)) 6))) [.int (v >>> ((nI 9) &&& 31)), .int (nI 6)] [.int bk, .ref x] o dL_act_977 cw_L_111 st_L_low (l_low hl (v >>> ((nI 9) &&& 31)) 6 (by decide) (by decide)) rfl rfl (by decide) ⟨rfl, rfl⟩ (by decide) (Nat.le_of_ble_eq_true rfl) ?_
    refine v_callSW [.ref x, .int bk, .int (nI (lwN (v >>> ((nI 9) &&& 31)) 6))] [] o dL_act_980 cwh_L_186 (l_about hl hR hI bk (nI (lwN (v >>> ((nI 9) &&& 31)) 6))) rfl rfl ⟨Nat.le_of_ble_eq_true rfl, Nat.le_of_ble_eq_true rfl⟩ ⟨Nat.le_of_ble_eq_true rfl, Nat.le_of_ble_eq_true rfl⟩ (Nat.le_of_ble_eq_true rfl) ?_ (fun _ _ _ _ h => h.elim)
    rintro r9 μ9 z9 hz9 ⟨rfl, B9, τ9, hR9⟩
    refine v_st [.int (wa (sp_about σ bk (nI (lwN (v >>> ((nI 9) &&& 31)) 6))))] rfl ?_
    refine v_i2l ((wa (sp_about σ bk (nI (lwN (v >>> ((nI 9) &&& 31)) 6)))).toInt64) o dL_act_983 rfl ?_
    exact v_lret o dL_act_984 hr (Nat.le_of_ble_eq_true rfl) (Nat.le_of_ble_eq_true rfl) ⟨rfl, B9, τ9, hR9⟩
  · refine ⟨(fun σ => ((wa (sp_about σ bk mu)).toInt64, th (sp_about σ bk mu).2 0)), gf_i (fun σ => (sp_about σ bk mu)) (fun σ h => I_about h _ _) (fun e σ he hI hJ => (ro_about σ _ _).elim fun k h => sp_ro hJ k h), ?_⟩
    intro p l e s mi args below meth c g x z z0 B μ0 μ σ τ hl o hr hz0 hR hI
    refine v_lv [(10, .int (bI is)), (9, .int mu), (8, .int wh), (7, .int lt), (6, .int pl), (5, .int vt), (4, .int pg), (3, .int bk), (2, .int (bI true)), (0, .ref x), (1, .int v)] rfl ?_
    refine v_aload_n 9 o dL_act_960 rfl rfl ?_
    refine v_iload_n 7 o dL_act_961 rfl rfl ?_
    refine v_iload_n 8 o dL_act_962 rfl rfl ?_
    refine v_if_eq_b 971 o dL_act_963 (by decide) (fun c963 => absurd c963 (by simp_all)) (fun c963 => ?_)
    refine v_iload 1 o dL_act_966 rfl ?_
    refine v_goto 980 o dL_act_968 (by decide) ?_
    refine v_callSW [.ref x, .int bk, .int mu] [] o dL_act_980 cwh_L_186 (l_about hl hR hI bk mu) rfl rfl ⟨Nat.le_of_ble_eq_true rfl, Nat.le_of_ble_eq_true rfl⟩ ⟨Nat.le_of_ble_eq_true rfl, Nat.le_of_ble_eq_true rfl⟩ (Nat.le_of_ble_eq_true rfl) ?_ (fun _ _ _ _ h => h.elim)
    rintro r9 μ9 z9 hz9 ⟨rfl, B9, τ9, hR9⟩
    refine v_st [.int (wa (sp_about σ bk mu))] rfl ?_
    refine v_i2l ((wa (sp_about σ bk mu)).toInt64) o dL_act_983 rfl ?_
    exact v_lret o dL_act_984 hr (Nat.le_of_ble_eq_true rfl) (Nat.le_of_ble_eq_true rfl) ⟨rfl, B9, τ9, hR9⟩

set_option maxRecDepth 100000 in
set_option maxHeartbeats 4000000 in
theorem la_sw (v bk pg vt pl lt wh mu : Int32) (odd is : Bool) (t : Nat) (ht : t < 54) : ∃ f : Sg → Int64 × Sg, GF f ∧ AV { frames := 11, cells := 122, slots := 584, locals := 267 } f 226 (fun x => [(10, .int (bI is)), (9, .int mu), (8, .int wh), (7, .int lt), (6, .int pl), (5, .int vt), (4, .int pg), (3, .int bk), (2, .int (bI odd)), (0, .ref x), (1, .int v)]) [.int (nI t)] := by
  rcases (show t = 0 ∨ t = 1 ∨ t = 2 ∨ t = 3 ∨ t = 4 ∨ t = 5 ∨ t = 6 ∨ t = 7 ∨ t = 8 ∨ t = 9 ∨ t = 10 ∨ t = 11 ∨ t = 12 ∨ t = 13 ∨ t = 14 ∨ t = 15 ∨ t = 16 ∨ t = 17 ∨ t = 18 ∨ t = 19 ∨ t = 20 ∨ t = 21 ∨ t = 22 ∨ t = 23 ∨ t = 24 ∨ t = 25 ∨ t = 26 ∨ t = 27 ∨ t = 28 ∨ t = 29 ∨ t = 30 ∨ t = 31 ∨ t = 32 ∨ t = 33 ∨ t = 34 ∨ t = 35 ∨ t = 36 ∨ t = 37 ∨ t = 38 ∨ t = 39 ∨ t = 40 ∨ t = 41 ∨ t = 42 ∨ t = 43 ∨ t = 44 ∨ t = 45 ∨ t = 46 ∨ t = 47 ∨ t = 48 ∨ t = 49 ∨ t = 50 ∨ t = 51 ∨ t = 52 ∨ t = 53 by omega) with rfl | rfl | rfl | rfl | rfl | rfl | rfl | rfl | rfl | rfl | rfl | rfl | rfl | rfl | rfl | rfl | rfl | rfl | rfl | rfl | rfl | rfl | rfl | rfl | rfl | rfl | rfl | rfl | rfl | rfl | rfl | rfl | rfl | rfl | rfl | rfl | rfl | rfl | rfl | rfl | rfl | rfl | rfl | rfl | rfl | rfl | rfl | rfl | rfl | rfl | rfl | rfl | rfl | rfl
  · obtain ⟨f, hf, hV⟩ := la_452 v bk pg vt pl lt wh mu odd is
    refine ⟨f, hf, fun p l e s mi args below meth c g x z z0 B μ0 μ σ τ hl o hr hz0 hR hI => ?_⟩
    exact v_tabIn 452 o dL_act_226 (by decide) (by decide) rfl (by decide) (hV p l e s mi args below meth c g x z z0 B μ0 μ σ τ hl o hr hz0 hR hI)
  · obtain ⟨f, hf, hV⟩ := la_452 v bk pg vt pl lt wh mu odd is
    refine ⟨f, hf, fun p l e s mi args below meth c g x z z0 B μ0 μ σ τ hl o hr hz0 hR hI => ?_⟩
    exact v_tabIn 452 o dL_act_226 (by decide) (by decide) rfl (by decide) (hV p l e s mi args below meth c g x z z0 B μ0 μ σ τ hl o hr hz0 hR hI)
  · obtain ⟨f, hf, hV⟩ := la_452 v bk pg vt pl lt wh mu odd is
    refine ⟨f, hf, fun p l e s mi args below meth c g x z z0 B μ0 μ σ τ hl o hr hz0 hR hI => ?_⟩
    exact v_tabIn 452 o dL_act_226 (by decide) (by decide) rfl (by decide) (hV p l e s mi args below meth c g x z z0 B μ0 μ σ τ hl o hr hz0 hR hI)
  · obtain ⟨f, hf, hV⟩ := la_555 v bk pg vt pl lt wh mu odd is
    refine ⟨f, hf, fun p l e s mi args below meth c g x z z0 B μ0 μ σ τ hl o hr hz0 hR hI => ?_⟩
    exact v_tabIn 555 o dL_act_226 (by decide) (by decide) rfl (by decide) (hV p l e s mi args below meth c g x z z0 B μ0 μ σ τ hl o hr hz0 hR hI)
  · obtain ⟨f, hf, hV⟩ := la_561 v bk pg vt pl lt wh mu odd is
    refine ⟨f, hf, fun p l e s mi args below meth c g x z z0 B μ0 μ σ τ hl o hr hz0 hR hI => ?_⟩
    exact v_tabIn 561 o dL_act_226 (by decide) (by decide) rfl (by decide) (hV p l e s mi args below meth c g x z z0 B μ0 μ σ τ hl o hr hz0 hR hI)
  · obtain ⟨f, hf, hV⟩ := la_561 v bk pg vt pl lt wh mu odd is
    refine ⟨f, hf, fun p l e s mi args below meth c g x z z0 B μ0 μ σ τ hl o hr hz0 hR hI => ?_⟩
    exact v_tabIn 561 o dL_act_226 (by decide) (by decide) rfl (by decide) (hV p l e s mi args below meth c g x z z0 B μ0 μ σ τ hl o hr hz0 hR hI)
  · obtain ⟨f, hf, hV⟩ := la_561 v bk pg vt pl lt wh mu odd is
    refine ⟨f, hf, fun p l e s mi args below meth c g x z z0 B μ0 μ σ τ hl o hr hz0 hR hI => ?_⟩
    exact v_tabIn 561 o dL_act_226 (by decide) (by decide) rfl (by decide) (hV p l e s mi args below meth c g x z z0 B μ0 μ σ τ hl o hr hz0 hR hI)
  · obtain ⟨f, hf, hV⟩ := la_561 v bk pg vt pl lt wh mu odd is
    refine ⟨f, hf, fun p l e s mi args below meth c g x z z0 B μ0 μ σ τ hl o hr hz0 hR hI => ?_⟩
    exact v_tabIn 561 o dL_act_226 (by decide) (by decide) rfl (by decide) (hV p l e s mi args below meth c g x z z0 B μ0 μ σ τ hl o hr hz0 hR hI)
  · obtain ⟨f, hf, hV⟩ := la_561 v bk pg vt pl lt wh mu odd is
    refine ⟨f, hf, fun p l e s mi args below meth c g x z z0 B μ0 μ σ τ hl o hr hz0 hR hI => ?_⟩
    exact v_tabIn 561 o dL_act_226 (by decide) (by decide) rfl (by decide) (hV p l e s mi args below meth c g x z z0 B μ0 μ σ τ hl o hr hz0 hR hI)
  · obtain ⟨f, hf, hV⟩ := la_561 v bk pg vt pl lt wh mu odd is
    refine ⟨f, hf, fun p l e s mi args below meth c g x z z0 B μ0 μ σ τ hl o hr hz0 hR hI => ?_⟩
    exact v_tabIn 561 o dL_act_226 (by decide) (by decide) rfl (by decide) (hV p l e s mi args below meth c g x z z0 B μ0 μ σ τ hl o hr hz0 hR hI)
  · obtain ⟨f, hf, hV⟩ := la_561 v bk pg vt pl lt wh mu odd is
    refine ⟨f, hf, fun p l e s mi args below meth c g x z z0 B μ0 μ σ τ hl o hr hz0 hR hI => ?_⟩
    exact v_tabIn 561 o dL_act_226 (by decide) (by decide) rfl (by decide) (hV p l e s mi args below meth c g x z z0 B μ0 μ σ τ hl o hr hz0 hR hI)
  · obtain ⟨f, hf, hV⟩ := la_561 v bk pg vt pl lt wh mu odd is
    refine ⟨f, hf, fun p l e s mi args below meth c g x z z0 B μ0 μ σ τ hl o hr hz0 hR hI => ?_⟩
    exact v_tabIn 561 o dL_act_226 (by decide) (by decide) rfl (by decide) (hV p l e s mi args below meth c g x z z0 B μ0 μ σ τ hl o hr hz0 hR hI)
  · obtain ⟨f, hf, hV⟩ := la_561 v bk pg vt pl lt wh mu odd is
    refine ⟨f, hf, fun p l e s mi args below meth c g x z z0 B μ0 μ σ τ hl o hr hz0 hR hI => ?_⟩
    exact v_tabIn 561 o dL_act_226 (by decide) (by decide) rfl (by decide) (hV p l e s mi args below meth c g x z z0 B μ0 μ σ τ hl o hr hz0 hR hI)
  · obtain ⟨f, hf, hV⟩ := la_597 v bk pg vt pl lt wh mu odd is
    refine ⟨f, hf, fun p l e s mi args below meth c g x z z0 B μ0 μ σ τ hl o hr hz0 hR hI => ?_⟩
    exact v_tabIn 597 o dL_act_226 (by decide) (by decide) rfl (by decide) (hV p l e s mi args below meth c g x z z0 B μ0 μ σ τ hl o hr hz0 hR hI)
  · obtain ⟨f, hf, hV⟩ := la_597 v bk pg vt pl lt wh mu odd is
    refine ⟨f, hf, fun p l e s mi args below meth c g x z z0 B μ0 μ σ τ hl o hr hz0 hR hI => ?_⟩
    exact v_tabIn 597 o dL_act_226 (by decide) (by decide) rfl (by decide) (hV p l e s mi args below meth c g x z z0 B μ0 μ σ τ hl o hr hz0 hR hI)
  · obtain ⟨f, hf, hV⟩ := la_597 v bk pg vt pl lt wh mu odd is
    refine ⟨f, hf, fun p l e s mi args below meth c g x z z0 B μ0 μ σ τ hl o hr hz0 hR hI => ?_⟩
    exact v_tabIn 597 o dL_act_226 (by decide) (by decide) rfl (by decide) (hV p l e s mi args below meth c g x z z0 B μ0 μ σ τ hl o hr hz0 hR hI)
  · obtain ⟨f, hf, hV⟩ := la_606 v bk pg vt pl lt wh mu odd is
    refine ⟨f, hf, fun p l e s mi args below meth c g x z z0 B μ0 μ σ τ hl o hr hz0 hR hI => ?_⟩
    exact v_tabIn 606 o dL_act_226 (by decide) (by decide) rfl (by decide) (hV p l e s mi args below meth c g x z z0 B μ0 μ σ τ hl o hr hz0 hR hI)
  · obtain ⟨f, hf, hV⟩ := la_631 v bk pg vt pl lt wh mu odd is
    refine ⟨f, hf, fun p l e s mi args below meth c g x z z0 B μ0 μ σ τ hl o hr hz0 hR hI => ?_⟩
    exact v_tabIn 631 o dL_act_226 (by decide) (by decide) rfl (by decide) (hV p l e s mi args below meth c g x z z0 B μ0 μ σ τ hl o hr hz0 hR hI)
  · obtain ⟨f, hf, hV⟩ := la_631 v bk pg vt pl lt wh mu odd is
    refine ⟨f, hf, fun p l e s mi args below meth c g x z z0 B μ0 μ σ τ hl o hr hz0 hR hI => ?_⟩
    exact v_tabIn 631 o dL_act_226 (by decide) (by decide) rfl (by decide) (hV p l e s mi args below meth c g x z z0 B μ0 μ σ τ hl o hr hz0 hR hI)
  · obtain ⟨f, hf, hV⟩ := la_631 v bk pg vt pl lt wh mu odd is
    refine ⟨f, hf, fun p l e s mi args below meth c g x z z0 B μ0 μ σ τ hl o hr hz0 hR hI => ?_⟩
    exact v_tabIn 631 o dL_act_226 (by decide) (by decide) rfl (by decide) (hV p l e s mi args below meth c g x z z0 B μ0 μ σ τ hl o hr hz0 hR hI)
  · obtain ⟨f, hf, hV⟩ := la_631 v bk pg vt pl lt wh mu odd is
    refine ⟨f, hf, fun p l e s mi args below meth c g x z z0 B μ0 μ σ τ hl o hr hz0 hR hI => ?_⟩
    exact v_tabIn 631 o dL_act_226 (by decide) (by decide) rfl (by decide) (hV p l e s mi args below meth c g x z z0 B μ0 μ σ τ hl o hr hz0 hR hI)
  · obtain ⟨f, hf, hV⟩ := la_659 v bk pg vt pl lt wh mu odd is
    refine ⟨f, hf, fun p l e s mi args below meth c g x z z0 B μ0 μ σ τ hl o hr hz0 hR hI => ?_⟩
    exact v_tabIn 659 o dL_act_226 (by decide) (by decide) rfl (by decide) (hV p l e s mi args below meth c g x z z0 B μ0 μ σ τ hl o hr hz0 hR hI)
  · obtain ⟨f, hf, hV⟩ := la_667 v bk pg vt pl lt wh mu odd is
    refine ⟨f, hf, fun p l e s mi args below meth c g x z z0 B μ0 μ σ τ hl o hr hz0 hR hI => ?_⟩
    exact v_tabIn 667 o dL_act_226 (by decide) (by decide) rfl (by decide) (hV p l e s mi args below meth c g x z z0 B μ0 μ σ τ hl o hr hz0 hR hI)
  · obtain ⟨f, hf, hV⟩ := la_675 v bk pg vt pl lt wh mu odd is
    refine ⟨f, hf, fun p l e s mi args below meth c g x z z0 B μ0 μ σ τ hl o hr hz0 hR hI => ?_⟩
    exact v_tabIn 675 o dL_act_226 (by decide) (by decide) rfl (by decide) (hV p l e s mi args below meth c g x z z0 B μ0 μ σ τ hl o hr hz0 hR hI)
  · obtain ⟨f, hf, hV⟩ := la_675 v bk pg vt pl lt wh mu odd is
    refine ⟨f, hf, fun p l e s mi args below meth c g x z z0 B μ0 μ σ τ hl o hr hz0 hR hI => ?_⟩
    exact v_tabIn 675 o dL_act_226 (by decide) (by decide) rfl (by decide) (hV p l e s mi args below meth c g x z z0 B μ0 μ σ τ hl o hr hz0 hR hI)
  · obtain ⟨f, hf, hV⟩ := la_675 v bk pg vt pl lt wh mu odd is
    refine ⟨f, hf, fun p l e s mi args below meth c g x z z0 B μ0 μ σ τ hl o hr hz0 hR hI => ?_⟩
    exact v_tabIn 675 o dL_act_226 (by decide) (by decide) rfl (by decide) (hV p l e s mi args below meth c g x z z0 B μ0 μ σ τ hl o hr hz0 hR hI)
  · obtain ⟨f, hf, hV⟩ := la_694 v bk pg vt pl lt wh mu odd is
    refine ⟨f, hf, fun p l e s mi args below meth c g x z z0 B μ0 μ σ τ hl o hr hz0 hR hI => ?_⟩
    exact v_tabIn 694 o dL_act_226 (by decide) (by decide) rfl (by decide) (hV p l e s mi args below meth c g x z z0 B μ0 μ σ τ hl o hr hz0 hR hI)
  · obtain ⟨f, hf, hV⟩ := la_694 v bk pg vt pl lt wh mu odd is
    refine ⟨f, hf, fun p l e s mi args below meth c g x z z0 B μ0 μ σ τ hl o hr hz0 hR hI => ?_⟩
    exact v_tabIn 694 o dL_act_226 (by decide) (by decide) rfl (by decide) (hV p l e s mi args below meth c g x z z0 B μ0 μ σ τ hl o hr hz0 hR hI)
  · obtain ⟨f, hf, hV⟩ := la_703 v bk pg vt pl lt wh mu odd is
    refine ⟨f, hf, fun p l e s mi args below meth c g x z z0 B μ0 μ σ τ hl o hr hz0 hR hI => ?_⟩
    exact v_tabIn 703 o dL_act_226 (by decide) (by decide) rfl (by decide) (hV p l e s mi args below meth c g x z z0 B μ0 μ σ τ hl o hr hz0 hR hI)
  · obtain ⟨f, hf, hV⟩ := la_713 v bk pg vt pl lt wh mu odd is
    refine ⟨f, hf, fun p l e s mi args below meth c g x z z0 B μ0 μ σ τ hl o hr hz0 hR hI => ?_⟩
    exact v_tabIn 713 o dL_act_226 (by decide) (by decide) rfl (by decide) (hV p l e s mi args below meth c g x z z0 B μ0 μ σ τ hl o hr hz0 hR hI)
  · obtain ⟨f, hf, hV⟩ := la_722 v bk pg vt pl lt wh mu odd is
    refine ⟨f, hf, fun p l e s mi args below meth c g x z z0 B μ0 μ σ τ hl o hr hz0 hR hI => ?_⟩
    exact v_tabIn 722 o dL_act_226 (by decide) (by decide) rfl (by decide) (hV p l e s mi args below meth c g x z z0 B μ0 μ σ τ hl o hr hz0 hR hI)
  · obtain ⟨f, hf, hV⟩ := la_722 v bk pg vt pl lt wh mu odd is
    refine ⟨f, hf, fun p l e s mi args below meth c g x z z0 B μ0 μ σ τ hl o hr hz0 hR hI => ?_⟩
    exact v_tabIn 722 o dL_act_226 (by decide) (by decide) rfl (by decide) (hV p l e s mi args below meth c g x z z0 B μ0 μ σ τ hl o hr hz0 hR hI)
  · obtain ⟨f, hf, hV⟩ := la_722 v bk pg vt pl lt wh mu odd is
    refine ⟨f, hf, fun p l e s mi args below meth c g x z z0 B μ0 μ σ τ hl o hr hz0 hR hI => ?_⟩
    exact v_tabIn 722 o dL_act_226 (by decide) (by decide) rfl (by decide) (hV p l e s mi args below meth c g x z z0 B μ0 μ σ τ hl o hr hz0 hR hI)
  · obtain ⟨f, hf, hV⟩ := la_765 v bk pg vt pl lt wh mu odd is
    refine ⟨f, hf, fun p l e s mi args below meth c g x z z0 B μ0 μ σ τ hl o hr hz0 hR hI => ?_⟩
    exact v_tabIn 765 o dL_act_226 (by decide) (by decide) rfl (by decide) (hV p l e s mi args below meth c g x z z0 B μ0 μ σ τ hl o hr hz0 hR hI)
  · obtain ⟨f, hf, hV⟩ := la_765 v bk pg vt pl lt wh mu odd is
    refine ⟨f, hf, fun p l e s mi args below meth c g x z z0 B μ0 μ σ τ hl o hr hz0 hR hI => ?_⟩
    exact v_tabIn 765 o dL_act_226 (by decide) (by decide) rfl (by decide) (hV p l e s mi args below meth c g x z z0 B μ0 μ σ τ hl o hr hz0 hR hI)
  · obtain ⟨f, hf, hV⟩ := la_774 v bk pg vt pl lt wh mu odd is
    refine ⟨f, hf, fun p l e s mi args below meth c g x z z0 B μ0 μ σ τ hl o hr hz0 hR hI => ?_⟩
    exact v_tabIn 774 o dL_act_226 (by decide) (by decide) rfl (by decide) (hV p l e s mi args below meth c g x z z0 B μ0 μ σ τ hl o hr hz0 hR hI)
  · obtain ⟨f, hf, hV⟩ := la_774 v bk pg vt pl lt wh mu odd is
    refine ⟨f, hf, fun p l e s mi args below meth c g x z z0 B μ0 μ σ τ hl o hr hz0 hR hI => ?_⟩
    exact v_tabIn 774 o dL_act_226 (by decide) (by decide) rfl (by decide) (hV p l e s mi args below meth c g x z z0 B μ0 μ σ τ hl o hr hz0 hR hI)
  · obtain ⟨f, hf, hV⟩ := la_774 v bk pg vt pl lt wh mu odd is
    refine ⟨f, hf, fun p l e s mi args below meth c g x z z0 B μ0 μ σ τ hl o hr hz0 hR hI => ?_⟩
    exact v_tabIn 774 o dL_act_226 (by decide) (by decide) rfl (by decide) (hV p l e s mi args below meth c g x z z0 B μ0 μ σ τ hl o hr hz0 hR hI)
  · obtain ⟨f, hf, hV⟩ := la_787 v bk pg vt pl lt wh mu odd is
    refine ⟨f, hf, fun p l e s mi args below meth c g x z z0 B μ0 μ σ τ hl o hr hz0 hR hI => ?_⟩
    exact v_tabIn 787 o dL_act_226 (by decide) (by decide) rfl (by decide) (hV p l e s mi args below meth c g x z z0 B μ0 μ σ τ hl o hr hz0 hR hI)
  · obtain ⟨f, hf, hV⟩ := la_787 v bk pg vt pl lt wh mu odd is
    refine ⟨f, hf, fun p l e s mi args below meth c g x z z0 B μ0 μ σ τ hl o hr hz0 hR hI => ?_⟩
    exact v_tabIn 787 o dL_act_226 (by decide) (by decide) rfl (by decide) (hV p l e s mi args below meth c g x z z0 B μ0 μ σ τ hl o hr hz0 hR hI)
  · obtain ⟨f, hf, hV⟩ := la_787 v bk pg vt pl lt wh mu odd is
    refine ⟨f, hf, fun p l e s mi args below meth c g x z z0 B μ0 μ σ τ hl o hr hz0 hR hI => ?_⟩
    exact v_tabIn 787 o dL_act_226 (by decide) (by decide) rfl (by decide) (hV p l e s mi args below meth c g x z z0 B μ0 μ σ τ hl o hr hz0 hR hI)
  · obtain ⟨f, hf, hV⟩ := la_787 v bk pg vt pl lt wh mu odd is
    refine ⟨f, hf, fun p l e s mi args below meth c g x z z0 B μ0 μ σ τ hl o hr hz0 hR hI => ?_⟩
    exact v_tabIn 787 o dL_act_226 (by decide) (by decide) rfl (by decide) (hV p l e s mi args below meth c g x z z0 B μ0 μ σ τ hl o hr hz0 hR hI)
  · obtain ⟨f, hf, hV⟩ := la_787 v bk pg vt pl lt wh mu odd is
    refine ⟨f, hf, fun p l e s mi args below meth c g x z z0 B μ0 μ σ τ hl o hr hz0 hR hI => ?_⟩
    exact v_tabIn 787 o dL_act_226 (by decide) (by decide) rfl (by decide) (hV p l e s mi args below meth c g x z z0 B μ0 μ σ τ hl o hr hz0 hR hI)
  · obtain ⟨f, hf, hV⟩ := la_787 v bk pg vt pl lt wh mu odd is
    refine ⟨f, hf, fun p l e s mi args below meth c g x z z0 B μ0 μ σ τ hl o hr hz0 hR hI => ?_⟩
    exact v_tabIn 787 o dL_act_226 (by decide) (by decide) rfl (by decide) (hV p l e s mi args below meth c g x z z0 B μ0 μ σ τ hl o hr hz0 hR hI)
  · obtain ⟨f, hf, hV⟩ := la_802 v bk pg vt pl lt wh mu odd is
    refine ⟨f, hf, fun p l e s mi args below meth c g x z z0 B μ0 μ σ τ hl o hr hz0 hR hI => ?_⟩
    exact v_tabIn 802 o dL_act_226 (by decide) (by decide) rfl (by decide) (hV p l e s mi args below meth c g x z z0 B μ0 μ σ τ hl o hr hz0 hR hI)
  · obtain ⟨f, hf, hV⟩ := la_810 v bk pg vt pl lt wh mu odd is
    refine ⟨f, hf, fun p l e s mi args below meth c g x z z0 B μ0 μ σ τ hl o hr hz0 hR hI => ?_⟩
    exact v_tabIn 810 o dL_act_226 (by decide) (by decide) rfl (by decide) (hV p l e s mi args below meth c g x z z0 B μ0 μ σ τ hl o hr hz0 hR hI)
  · obtain ⟨f, hf, hV⟩ := la_818 v bk pg vt pl lt wh mu odd is
    refine ⟨f, hf, fun p l e s mi args below meth c g x z z0 B μ0 μ σ τ hl o hr hz0 hR hI => ?_⟩
    exact v_tabIn 818 o dL_act_226 (by decide) (by decide) rfl (by decide) (hV p l e s mi args below meth c g x z z0 B μ0 μ σ τ hl o hr hz0 hR hI)
  · obtain ⟨f, hf, hV⟩ := la_829 v bk pg vt pl lt wh mu odd is
    refine ⟨f, hf, fun p l e s mi args below meth c g x z z0 B μ0 μ σ τ hl o hr hz0 hR hI => ?_⟩
    exact v_tabIn 829 o dL_act_226 (by decide) (by decide) rfl (by decide) (hV p l e s mi args below meth c g x z z0 B μ0 μ σ τ hl o hr hz0 hR hI)
  · obtain ⟨f, hf, hV⟩ := la_840 v bk pg vt pl lt wh mu odd is
    refine ⟨f, hf, fun p l e s mi args below meth c g x z z0 B μ0 μ σ τ hl o hr hz0 hR hI => ?_⟩
    exact v_tabIn 840 o dL_act_226 (by decide) (by decide) rfl (by decide) (hV p l e s mi args below meth c g x z z0 B μ0 μ σ τ hl o hr hz0 hR hI)
  · obtain ⟨f, hf, hV⟩ := la_866 v bk pg vt pl lt wh mu odd is
    refine ⟨f, hf, fun p l e s mi args below meth c g x z z0 B μ0 μ σ τ hl o hr hz0 hR hI => ?_⟩
    exact v_tabIn 866 o dL_act_226 (by decide) (by decide) rfl (by decide) (hV p l e s mi args below meth c g x z z0 B μ0 μ σ τ hl o hr hz0 hR hI)
  · obtain ⟨f, hf, hV⟩ := la_891 v bk pg vt pl lt wh mu odd is
    refine ⟨f, hf, fun p l e s mi args below meth c g x z z0 B μ0 μ σ τ hl o hr hz0 hR hI => ?_⟩
    exact v_tabIn 891 o dL_act_226 (by decide) (by decide) rfl (by decide) (hV p l e s mi args below meth c g x z z0 B μ0 μ σ τ hl o hr hz0 hR hI)
  · obtain ⟨f, hf, hV⟩ := la_940 v bk pg vt pl lt wh mu odd is
    refine ⟨f, hf, fun p l e s mi args below meth c g x z z0 B μ0 μ σ τ hl o hr hz0 hR hI => ?_⟩
    exact v_tabIn 940 o dL_act_226 (by decide) (by decide) rfl (by decide) (hV p l e s mi args below meth c g x z z0 B μ0 μ σ τ hl o hr hz0 hR hI)
  · obtain ⟨f, hf, hV⟩ := la_949 v bk pg vt pl lt wh mu odd is
    refine ⟨f, hf, fun p l e s mi args below meth c g x z z0 B μ0 μ σ τ hl o hr hz0 hR hI => ?_⟩
    exact v_tabIn 949 o dL_act_226 (by decide) (by decide) rfl (by decide) (hV p l e s mi args below meth c g x z z0 B μ0 μ σ τ hl o hr hz0 hR hI)
  · obtain ⟨f, hf, hV⟩ := la_960 v bk pg vt pl lt wh mu odd is
    refine ⟨f, hf, fun p l e s mi args below meth c g x z z0 B μ0 μ σ τ hl o hr hz0 hR hI => ?_⟩
    exact v_tabOut 960 o dL_act_226 (by decide) (by decide) (hV p l e s mi args below meth c g x z z0 B μ0 μ σ τ hl o hr hz0 hR hI)
set_option maxRecDepth 100000 in
set_option maxHeartbeats 4000000 in
theorem l_act (v : Int32) : ∃ f : Sg → Int64 × Sg, GF f ∧ ∀ {l : Launch} (hl : l.stackTraces = false) {g : mG} {x z z0 : Nat} {B : Nat → Nat} {μ0 μ : mM} {σ τ : Sg} (hR : RC g x B z0 μ0 σ τ μ) (hI : Inv σ) (hz0 : z0 ≤ z), Ct l g yL_act [Cond.code yL_act cL_act 11 (some .long)] { frames := 11, cells := 122, slots := 584, locals := 267 } [.ref x, .int v] μ z (lP g x z0 μ0 (.long (f σ).1) (f σ).2) (noX) := by
  by_cases h14 : lwN (v >>> (nI 26 &&& 31)) 14 = 0 <;> by_cases h15 : v >>> (nI 15 &&& 31) &&& nI 1 = nI 1
  · obtain ⟨f, hf, hV⟩ := la_sw v ((nI (lwN (v >>> ((nI 4) &&& 31)) 9)) - (nI 2)) ((nI (lwN (v >>> ((nI 7) &&& 31)) 15)) - (nI 2)) ((nI (lwN (v >>> ((nI 9) &&& 31)) 7)) - (nI 1)) ((nI (lwN (v >>> ((nI 11) &&& 31)) 7)) - (nI 1)) ((nI (lwN (v >>> ((nI 5) &&& 31)) 30)) - (nI 2)) ((nI (lwN (v >>> ((nI 13) &&& 31)) 8)) - (nI 1)) (v >>> ((nI 9) &&& 31)) true true (lwN v 54) (lwN_lt (by decide))
    refine ⟨f, hf, fun {l} hl {g x z z0 B μ0 μ σ τ} hR hI hz0 => ?_⟩
    refine Ct.of hl (by decide +kernel) (Nat.le_of_ble_eq_true rfl) ?_
    intro p e s mi args below meth c o hnm hr hx
    have o : Ok p l s mi args meth c g cL_act 11 RL := o
    refine v_lv [(0, .ref x), (1, .int v)] rfl ?_
    refine v_iload_n 1 o dL_act_0 rfl rfl ?_
    refine v_bipush 26 o dL_act_1 (by decide) ?_
    refine v_ishr (v >>> ((nI 26) &&& 31)) o dL_act_3 rfl ?_
    refine v_bipush 14 o dL_act_4 (by decide) ?_
    refine v_callSr (v := .int (nI (lwN (v >>> ((nI 26) &&& 31)) 14))) [.int (v >>> ((nI 26) &&& 31)), .int (nI 14)] [] o dL_act_6 cw_L_111 st_L_low (l_low hl (v >>> ((nI 26) &&& 31)) 14 (by decide) (by decide)) rfl rfl (by decide) ⟨rfl, rfl⟩ (by decide) (Nat.le_of_ble_eq_true rfl) ?_
    refine v_if_ne_n 16 o dL_act_9 (by decide) (Nat.lt_trans (lwN_lt (by decide)) (by decide)) (fun c9 => absurd c9 (not_not_intro h14)) (fun c9 => ?_)
    refine v_iconst 1 o dL_act_12 rfl ?_
    refine v_goto 17 o dL_act_13 (by decide) ?_
    refine v_istore_n [(2, .int (nI 1)), (0, .ref x), (1, .int v)] o dL_act_17 rfl (by decide) rfl ?_
    refine v_lv [(2, .int (bI true)), (0, .ref x), (1, .int v)] rfl ?_
    refine v_iload_n 0 o dL_act_18 rfl rfl ?_
    refine v_if_eq_b 35 o dL_act_19 (by decide) (fun c19 => absurd c19 (by simp_all)) (fun c19 => ?_)
    refine v_iload_n 2 o dL_act_22 rfl rfl ?_
    refine v_iconst 4 o dL_act_23 rfl ?_
    refine v_ishr (v >>> ((nI 4) &&& 31)) o dL_act_24 rfl ?_
    refine v_bipush 9 o dL_act_25 (by decide) ?_
    refine v_callSr (v := .int (nI (lwN (v >>> ((nI 4) &&& 31)) 9))) [.int (v >>> ((nI 4) &&& 31)), .int (nI 9)] [] o dL_act_27 cw_L_111 st_L_low (l_low hl (v >>> ((nI 4) &&& 31)) 9 (by decide) (by decide)) rfl rfl (by decide) ⟨rfl, rfl⟩ (by decide) (Nat.le_of_ble_eq_true rfl) ?_
    refine v_iconst 2 o dL_act_30 rfl ?_
    refine v_isub ((nI (lwN (v >>> ((nI 4) &&& 31)) 9)) - (nI 2)) o dL_act_31 rfl ?_
    refine v_goto 42 o dL_act_32 (by decide) ?_
    refine v_istore_n [(3, .int ((nI (lwN (v >>> ((nI 4) &&& 31)) 9)) - (nI 2))), (2, .int (bI true)), (0, .ref x), (1, .int v)] o dL_act_42 rfl (by decide) rfl ?_
    refine v_iload_n 1 o dL_act_43 rfl rfl ?_
    refine v_if_eq_b 61 o dL_act_44 (by decide) (fun c44 => absurd c44 (by simp_all)) (fun c44 => ?_)
    refine v_iload_n 3 o dL_act_47 rfl rfl ?_
    refine v_bipush 7 o dL_act_48 (by decide) ?_
    refine v_ishr (v >>> ((nI 7) &&& 31)) o dL_act_50 rfl ?_
    refine v_bipush 15 o dL_act_51 (by decide) ?_
    refine v_callSr (v := .int (nI (lwN (v >>> ((nI 7) &&& 31)) 15))) [.int (v >>> ((nI 7) &&& 31)), .int (nI 15)] [] o dL_act_53 cw_L_111 st_L_low (l_low hl (v >>> ((nI 7) &&& 31)) 15 (by decide) (by decide)) rfl rfl (by decide) ⟨rfl, rfl⟩ (by decide) (Nat.le_of_ble_eq_true rfl) ?_
    refine v_iconst 2 o dL_act_56 rfl ?_
    refine v_isub ((nI (lwN (v >>> ((nI 7) &&& 31)) 15)) - (nI 2)) o dL_act_57 rfl ?_
    refine v_goto 69 o dL_act_58 (by decide) ?_
    refine v_istore [(4, .int ((nI (lwN (v >>> ((nI 7) &&& 31)) 15)) - (nI 2))), (3, .int ((nI (lwN (v >>> ((nI 4) &&& 31)) 9)) - (nI 2))), (2, .int (bI true)), (0, .ref x), (1, .int v)] o dL_act_69 (by decide) rfl ?_
    refine v_iload_n 2 o dL_act_71 rfl rfl ?_
    refine v_if_eq_b 89 o dL_act_72 (by decide) (fun c72 => absurd c72 (by simp_all)) (fun c72 => ?_)
    refine v_iload_n 4 o dL_act_75 rfl rfl ?_
    refine v_bipush 9 o dL_act_76 (by decide) ?_
    refine v_ishr (v >>> ((nI 9) &&& 31)) o dL_act_78 rfl ?_
    refine v_bipush 7 o dL_act_79 (by decide) ?_
    refine v_callSr (v := .int (nI (lwN (v >>> ((nI 9) &&& 31)) 7))) [.int (v >>> ((nI 9) &&& 31)), .int (nI 7)] [] o dL_act_81 cw_L_111 st_L_low (l_low hl (v >>> ((nI 9) &&& 31)) 7 (by decide) (by decide)) rfl rfl (by decide) ⟨rfl, rfl⟩ (by decide) (Nat.le_of_ble_eq_true rfl) ?_
    refine v_iconst 1 o dL_act_84 rfl ?_
    refine v_isub ((nI (lwN (v >>> ((nI 9) &&& 31)) 7)) - (nI 1)) o dL_act_85 rfl ?_
    refine v_goto 97 o dL_act_86 (by decide) ?_
    refine v_istore [(5, .int ((nI (lwN (v >>> ((nI 9) &&& 31)) 7)) - (nI 1))), (4, .int ((nI (lwN (v >>> ((nI 7) &&& 31)) 15)) - (nI 2))), (3, .int ((nI (lwN (v >>> ((nI 4) &&& 31)) 9)) - (nI 2))), (2, .int (bI true)), (0, .ref x), (1, .int v)] o dL_act_97 (by decide) rfl ?_
    refine v_iload_n 3 o dL_act_99 rfl rfl ?_
    refine v_if_eq_b 117 o dL_act_100 (by decide) (fun c100 => absurd c100 (by simp_all)) (fun c100 => ?_)
    refine v_iload_n 5 o dL_act_103 rfl rfl ?_
    refine v_bipush 11 o dL_act_104 (by decide) ?_
    refine v_ishr (v >>> ((nI 11) &&& 31)) o dL_act_106 rfl ?_
    refine v_bipush 7 o dL_act_107 (by decide) ?_
    refine v_callSr (v := .int (nI (lwN (v >>> ((nI 11) &&& 31)) 7))) [.int (v >>> ((nI 11) &&& 31)), .int (nI 7)] [] o dL_act_109 cw_L_111 st_L_low (l_low hl (v >>> ((nI 11) &&& 31)) 7 (by decide) (by decide)) rfl rfl (by decide) ⟨rfl, rfl⟩ (by decide) (Nat.le_of_ble_eq_true rfl) ?_
    refine v_iconst 1 o dL_act_112 rfl ?_
    refine v_isub ((nI (lwN (v >>> ((nI 11) &&& 31)) 7)) - (nI 1)) o dL_act_113 rfl ?_
    refine v_goto 125 o dL_act_114 (by decide) ?_
    refine v_istore [(6, .int ((nI (lwN (v >>> ((nI 11) &&& 31)) 7)) - (nI 1))), (5, .int ((nI (lwN (v >>> ((nI 9) &&& 31)) 7)) - (nI 1))), (4, .int ((nI (lwN (v >>> ((nI 7) &&& 31)) 15)) - (nI 2))), (3, .int ((nI (lwN (v >>> ((nI 4) &&& 31)) 9)) - (nI 2))), (2, .int (bI true)), (0, .ref x), (1, .int v)] o dL_act_125 (by decide) rfl ?_
    refine v_iload_n 4 o dL_act_127 rfl rfl ?_
    refine v_if_eq_b 144 o dL_act_128 (by decide) (fun c128 => absurd c128 (by simp_all)) (fun c128 => ?_)
    refine v_iload_n 6 o dL_act_131 rfl rfl ?_
    refine v_iconst 5 o dL_act_132 rfl ?_
    refine v_ishr (v >>> ((nI 5) &&& 31)) o dL_act_133 rfl ?_
    refine v_bipush 30 o dL_act_134 (by decide) ?_
    refine v_callSr (v := .int (nI (lwN (v >>> ((nI 5) &&& 31)) 30))) [.int (v >>> ((nI 5) &&& 31)), .int (nI 30)] [] o dL_act_136 cw_L_111 st_L_low (l_low hl (v >>> ((nI 5) &&& 31)) 30 (by decide) (by decide)) rfl rfl (by decide) ⟨rfl, rfl⟩ (by decide) (Nat.le_of_ble_eq_true rfl) ?_
    refine v_iconst 2 o dL_act_139 rfl ?_
    refine v_isub ((nI (lwN (v >>> ((nI 5) &&& 31)) 30)) - (nI 2)) o dL_act_140 rfl ?_
    refine v_goto 151 o dL_act_141 (by decide) ?_
    refine v_istore [(7, .int ((nI (lwN (v >>> ((nI 5) &&& 31)) 30)) - (nI 2))), (6, .int ((nI (lwN (v >>> ((nI 11) &&& 31)) 7)) - (nI 1))), (5, .int ((nI (lwN (v >>> ((nI 9) &&& 31)) 7)) - (nI 1))), (4, .int ((nI (lwN (v >>> ((nI 7) &&& 31)) 15)) - (nI 2))), (3, .int ((nI (lwN (v >>> ((nI 4) &&& 31)) 9)) - (nI 2))), (2, .int (bI true)), (0, .ref x), (1, .int v)] o dL_act_151 (by decide) rfl ?_
    refine v_iload_n 5 o dL_act_153 rfl rfl ?_
    refine v_if_eq_b 171 o dL_act_154 (by decide) (fun c154 => absurd c154 (by simp_all)) (fun c154 => ?_)
    refine v_iload_n 7 o dL_act_157 rfl rfl ?_
    refine v_bipush 13 o dL_act_158 (by decide) ?_
    refine v_ishr (v >>> ((nI 13) &&& 31)) o dL_act_160 rfl ?_
    refine v_bipush 8 o dL_act_161 (by decide) ?_
    refine v_callSr (v := .int (nI (lwN (v >>> ((nI 13) &&& 31)) 8))) [.int (v >>> ((nI 13) &&& 31)), .int (nI 8)] [] o dL_act_163 cw_L_111 st_L_low (l_low hl (v >>> ((nI 13) &&& 31)) 8 (by decide) (by decide)) rfl rfl (by decide) ⟨rfl, rfl⟩ (by decide) (Nat.le_of_ble_eq_true rfl) ?_
    refine v_iconst 1 o dL_act_166 rfl ?_
    refine v_isub ((nI (lwN (v >>> ((nI 13) &&& 31)) 8)) - (nI 1)) o dL_act_167 rfl ?_
    refine v_goto 179 o dL_act_168 (by decide) ?_
    refine v_istore [(8, .int ((nI (lwN (v >>> ((nI 13) &&& 31)) 8)) - (nI 1))), (7, .int ((nI (lwN (v >>> ((nI 5) &&& 31)) 30)) - (nI 2))), (6, .int ((nI (lwN (v >>> ((nI 11) &&& 31)) 7)) - (nI 1))), (5, .int ((nI (lwN (v >>> ((nI 9) &&& 31)) 7)) - (nI 1))), (4, .int ((nI (lwN (v >>> ((nI 7) &&& 31)) 15)) - (nI 2))), (3, .int ((nI (lwN (v >>> ((nI 4) &&& 31)) 9)) - (nI 2))), (2, .int (bI true)), (0, .ref x), (1, .int v)] o dL_act_179 (by decide) rfl ?_
    refine v_iload_n 6 o dL_act_181 rfl rfl ?_
    refine v_if_eq_b 192 o dL_act_182 (by decide) (fun c182 => absurd c182 (by simp_all)) (fun c182 => ?_)
    refine v_iload_n 8 o dL_act_185 rfl rfl ?_
    refine v_bipush 9 o dL_act_186 (by decide) ?_
    refine v_ishr (v >>> ((nI 9) &&& 31)) o dL_act_188 rfl ?_
    refine v_goto 201 o dL_act_189 (by decide) ?_
    refine v_istore [(9, .int (v >>> ((nI 9) &&& 31))), (8, .int ((nI (lwN (v >>> ((nI 13) &&& 31)) 8)) - (nI 1))), (7, .int ((nI (lwN (v >>> ((nI 5) &&& 31)) 30)) - (nI 2))), (6, .int ((nI (lwN (v >>> ((nI 11) &&& 31)) 7)) - (nI 1))), (5, .int ((nI (lwN (v >>> ((nI 9) &&& 31)) 7)) - (nI 1))), (4, .int ((nI (lwN (v >>> ((nI 7) &&& 31)) 15)) - (nI 2))), (3, .int ((nI (lwN (v >>> ((nI 4) &&& 31)) 9)) - (nI 2))), (2, .int (bI true)), (0, .ref x), (1, .int v)] o dL_act_201 (by decide) rfl ?_
    refine v_iload_n 9 o dL_act_203 rfl rfl ?_
    refine v_bipush 15 o dL_act_204 (by decide) ?_
    refine v_ishr (v >>> ((nI 15) &&& 31)) o dL_act_206 rfl ?_
    refine v_iconst 1 o dL_act_207 rfl ?_
    refine v_iand ((v >>> ((nI 15) &&& 31)) &&& (nI 1)) o dL_act_208 rfl ?_
    refine v_iconst 1 o dL_act_209 rfl ?_
    refine v_icmp_ne 217 o dL_act_210 (by decide) (fun c210 => absurd c210 (not_not_intro h15)) (fun c210 => ?_)
    refine v_iconst 1 o dL_act_213 rfl ?_
    refine v_goto 218 o dL_act_214 (by decide) ?_
    refine v_istore [(10, .int (nI 1)), (9, .int (v >>> ((nI 9) &&& 31))), (8, .int ((nI (lwN (v >>> ((nI 13) &&& 31)) 8)) - (nI 1))), (7, .int ((nI (lwN (v >>> ((nI 5) &&& 31)) 30)) - (nI 2))), (6, .int ((nI (lwN (v >>> ((nI 11) &&& 31)) 7)) - (nI 1))), (5, .int ((nI (lwN (v >>> ((nI 9) &&& 31)) 7)) - (nI 1))), (4, .int ((nI (lwN (v >>> ((nI 7) &&& 31)) 15)) - (nI 2))), (3, .int ((nI (lwN (v >>> ((nI 4) &&& 31)) 9)) - (nI 2))), (2, .int (bI true)), (0, .ref x), (1, .int v)] o dL_act_218 (by decide) rfl ?_
    refine v_lv [(10, .int (bI true)), (9, .int (v >>> ((nI 9) &&& 31))), (8, .int ((nI (lwN (v >>> ((nI 13) &&& 31)) 8)) - (nI 1))), (7, .int ((nI (lwN (v >>> ((nI 5) &&& 31)) 30)) - (nI 2))), (6, .int ((nI (lwN (v >>> ((nI 11) &&& 31)) 7)) - (nI 1))), (5, .int ((nI (lwN (v >>> ((nI 9) &&& 31)) 7)) - (nI 1))), (4, .int ((nI (lwN (v >>> ((nI 7) &&& 31)) 15)) - (nI 2))), (3, .int ((nI (lwN (v >>> ((nI 4) &&& 31)) 9)) - (nI 2))), (2, .int (bI true)), (0, .ref x), (1, .int v)] rfl ?_
    refine v_iload_n 10 o dL_act_220 rfl rfl ?_
    refine v_bipush 54 o dL_act_221 (by decide) ?_
    refine v_callSr (v := .int (nI (lwN v 54))) [.int v, .int (nI 54)] [] o dL_act_223 cw_L_111 st_L_low (l_low hl v 54 (by decide) (by decide)) rfl rfl (by decide) ⟨rfl, rfl⟩ (by decide) (Nat.le_of_ble_eq_true rfl) ?_
    exact hV p l e s mi args below meth c g x z z0 B μ0 μ σ τ hl o hr hz0 hR hI
  · obtain ⟨f, hf, hV⟩ := la_sw v ((nI (lwN (v >>> ((nI 4) &&& 31)) 9)) - (nI 2)) ((nI (lwN (v >>> ((nI 7) &&& 31)) 15)) - (nI 2)) ((nI (lwN (v >>> ((nI 9) &&& 31)) 7)) - (nI 1)) ((nI (lwN (v >>> ((nI 11) &&& 31)) 7)) - (nI 1)) ((nI (lwN (v >>> ((nI 5) &&& 31)) 30)) - (nI 2)) ((nI (lwN (v >>> ((nI 13) &&& 31)) 8)) - (nI 1)) (v >>> ((nI 9) &&& 31)) true false (lwN v 54) (lwN_lt (by decide))
    refine ⟨f, hf, fun {l} hl {g x z z0 B μ0 μ σ τ} hR hI hz0 => ?_⟩
    refine Ct.of hl (by decide +kernel) (Nat.le_of_ble_eq_true rfl) ?_
    intro p e s mi args below meth c o hnm hr hx
    have o : Ok p l s mi args meth c g cL_act 11 RL := o
    refine v_lv [(0, .ref x), (1, .int v)] rfl ?_
    refine v_iload_n 1 o dL_act_0 rfl rfl ?_
    refine v_bipush 26 o dL_act_1 (by decide) ?_
    refine v_ishr (v >>> ((nI 26) &&& 31)) o dL_act_3 rfl ?_
    refine v_bipush 14 o dL_act_4 (by decide) ?_
    refine v_callSr (v := .int (nI (lwN (v >>> ((nI 26) &&& 31)) 14))) [.int (v >>> ((nI 26) &&& 31)), .int (nI 14)] [] o dL_act_6 cw_L_111 st_L_low (l_low hl (v >>> ((nI 26) &&& 31)) 14 (by decide) (by decide)) rfl rfl (by decide) ⟨rfl, rfl⟩ (by decide) (Nat.le_of_ble_eq_true rfl) ?_
    refine v_if_ne_n 16 o dL_act_9 (by decide) (Nat.lt_trans (lwN_lt (by decide)) (by decide)) (fun c9 => absurd c9 (not_not_intro h14)) (fun c9 => ?_)
    refine v_iconst 1 o dL_act_12 rfl ?_
    refine v_goto 17 o dL_act_13 (by decide) ?_
    refine v_istore_n [(2, .int (nI 1)), (0, .ref x), (1, .int v)] o dL_act_17 rfl (by decide) rfl ?_
    refine v_lv [(2, .int (bI true)), (0, .ref x), (1, .int v)] rfl ?_
    refine v_iload_n 0 o dL_act_18 rfl rfl ?_
    refine v_if_eq_b 35 o dL_act_19 (by decide) (fun c19 => absurd c19 (by simp_all)) (fun c19 => ?_)
    refine v_iload_n 2 o dL_act_22 rfl rfl ?_
    refine v_iconst 4 o dL_act_23 rfl ?_
    refine v_ishr (v >>> ((nI 4) &&& 31)) o dL_act_24 rfl ?_
    refine v_bipush 9 o dL_act_25 (by decide) ?_
    refine v_callSr (v := .int (nI (lwN (v >>> ((nI 4) &&& 31)) 9))) [.int (v >>> ((nI 4) &&& 31)), .int (nI 9)] [] o dL_act_27 cw_L_111 st_L_low (l_low hl (v >>> ((nI 4) &&& 31)) 9 (by decide) (by decide)) rfl rfl (by decide) ⟨rfl, rfl⟩ (by decide) (Nat.le_of_ble_eq_true rfl) ?_
    refine v_iconst 2 o dL_act_30 rfl ?_
    refine v_isub ((nI (lwN (v >>> ((nI 4) &&& 31)) 9)) - (nI 2)) o dL_act_31 rfl ?_
    refine v_goto 42 o dL_act_32 (by decide) ?_
    refine v_istore_n [(3, .int ((nI (lwN (v >>> ((nI 4) &&& 31)) 9)) - (nI 2))), (2, .int (bI true)), (0, .ref x), (1, .int v)] o dL_act_42 rfl (by decide) rfl ?_
    refine v_iload_n 1 o dL_act_43 rfl rfl ?_
    refine v_if_eq_b 61 o dL_act_44 (by decide) (fun c44 => absurd c44 (by simp_all)) (fun c44 => ?_)
    refine v_iload_n 3 o dL_act_47 rfl rfl ?_
    refine v_bipush 7 o dL_act_48 (by decide) ?_
    refine v_ishr (v >>> ((nI 7) &&& 31)) o dL_act_50 rfl ?_
    refine v_bipush 15 o dL_act_51 (by decide) ?_
    refine v_callSr (v := .int (nI (lwN (v >>> ((nI 7) &&& 31)) 15))) [.int (v >>> ((nI 7) &&& 31)), .int (nI 15)] [] o dL_act_53 cw_L_111 st_L_low (l_low hl (v >>> ((nI 7) &&& 31)) 15 (by decide) (by decide)) rfl rfl (by decide) ⟨rfl, rfl⟩ (by decide) (Nat.le_of_ble_eq_true rfl) ?_
    refine v_iconst 2 o dL_act_56 rfl ?_
    refine v_isub ((nI (lwN (v >>> ((nI 7) &&& 31)) 15)) - (nI 2)) o dL_act_57 rfl ?_
    refine v_goto 69 o dL_act_58 (by decide) ?_
    refine v_istore [(4, .int ((nI (lwN (v >>> ((nI 7) &&& 31)) 15)) - (nI 2))), (3, .int ((nI (lwN (v >>> ((nI 4) &&& 31)) 9)) - (nI 2))), (2, .int (bI true)), (0, .ref x), (1, .int v)] o dL_act_69 (by decide) rfl ?_
    refine v_iload_n 2 o dL_act_71 rfl rfl ?_
    refine v_if_eq_b 89 o dL_act_72 (by decide) (fun c72 => absurd c72 (by simp_all)) (fun c72 => ?_)
    refine v_iload_n 4 o dL_act_75 rfl rfl ?_
    refine v_bipush 9 o dL_act_76 (by decide) ?_
    refine v_ishr (v >>> ((nI 9) &&& 31)) o dL_act_78 rfl ?_
    refine v_bipush 7 o dL_act_79 (by decide) ?_
    refine v_callSr (v := .int (nI (lwN (v >>> ((nI 9) &&& 31)) 7))) [.int (v >>> ((nI 9) &&& 31)), .int (nI 7)] [] o dL_act_81 cw_L_111 st_L_low (l_low hl (v >>> ((nI 9) &&& 31)) 7 (by decide) (by decide)) rfl rfl (by decide) ⟨rfl, rfl⟩ (by decide) (Nat.le_of_ble_eq_true rfl) ?_
    refine v_iconst 1 o dL_act_84 rfl ?_
    refine v_isub ((nI (lwN (v >>> ((nI 9) &&& 31)) 7)) - (nI 1)) o dL_act_85 rfl ?_
    refine v_goto 97 o dL_act_86 (by decide) ?_
    refine v_istore [(5, .int ((nI (lwN (v >>> ((nI 9) &&& 31)) 7)) - (nI 1))), (4, .int ((nI (lwN (v >>> ((nI 7) &&& 31)) 15)) - (nI 2))), (3, .int ((nI (lwN (v >>> ((nI 4) &&& 31)) 9)) - (nI 2))), (2, .int (bI true)), (0, .ref x), (1, .int v)] o dL_act_97 (by decide) rfl ?_
    refine v_iload_n 3 o dL_act_99 rfl rfl ?_
    refine v_if_eq_b 117 o dL_act_100 (by decide) (fun c100 => absurd c100 (by simp_all)) (fun c100 => ?_)
    refine v_iload_n 5 o dL_act_103 rfl rfl ?_
    refine v_bipush 11 o dL_act_104 (by decide) ?_
    refine v_ishr (v >>> ((nI 11) &&& 31)) o dL_act_106 rfl ?_
    refine v_bipush 7 o dL_act_107 (by decide) ?_
    refine v_callSr (v := .int (nI (lwN (v >>> ((nI 11) &&& 31)) 7))) [.int (v >>> ((nI 11) &&& 31)), .int (nI 7)] [] o dL_act_109 cw_L_111 st_L_low (l_low hl (v >>> ((nI 11) &&& 31)) 7 (by decide) (by decide)) rfl rfl (by decide) ⟨rfl, rfl⟩ (by decide) (Nat.le_of_ble_eq_true rfl) ?_
    refine v_iconst 1 o dL_act_112 rfl ?_
    refine v_isub ((nI (lwN (v >>> ((nI 11) &&& 31)) 7)) - (nI 1)) o dL_act_113 rfl ?_
    refine v_goto 125 o dL_act_114 (by decide) ?_
    refine v_istore [(6, .int ((nI (lwN (v >>> ((nI 11) &&& 31)) 7)) - (nI 1))), (5, .int ((nI (lwN (v >>> ((nI 9) &&& 31)) 7)) - (nI 1))), (4, .int ((nI (lwN (v >>> ((nI 7) &&& 31)) 15)) - (nI 2))), (3, .int ((nI (lwN (v >>> ((nI 4) &&& 31)) 9)) - (nI 2))), (2, .int (bI true)), (0, .ref x), (1, .int v)] o dL_act_125 (by decide) rfl ?_
    refine v_iload_n 4 o dL_act_127 rfl rfl ?_
    refine v_if_eq_b 144 o dL_act_128 (by decide) (fun c128 => absurd c128 (by simp_all)) (fun c128 => ?_)
    refine v_iload_n 6 o dL_act_131 rfl rfl ?_
    refine v_iconst 5 o dL_act_132 rfl ?_
    refine v_ishr (v >>> ((nI 5) &&& 31)) o dL_act_133 rfl ?_
    refine v_bipush 30 o dL_act_134 (by decide) ?_
    refine v_callSr (v := .int (nI (lwN (v >>> ((nI 5) &&& 31)) 30))) [.int (v >>> ((nI 5) &&& 31)), .int (nI 30)] [] o dL_act_136 cw_L_111 st_L_low (l_low hl (v >>> ((nI 5) &&& 31)) 30 (by decide) (by decide)) rfl rfl (by decide) ⟨rfl, rfl⟩ (by decide) (Nat.le_of_ble_eq_true rfl) ?_
    refine v_iconst 2 o dL_act_139 rfl ?_
    refine v_isub ((nI (lwN (v >>> ((nI 5) &&& 31)) 30)) - (nI 2)) o dL_act_140 rfl ?_
    refine v_goto 151 o dL_act_141 (by decide) ?_
    refine v_istore [(7, .int ((nI (lwN (v >>> ((nI 5) &&& 31)) 30)) - (nI 2))), (6, .int ((nI (lwN (v >>> ((nI 11) &&& 31)) 7)) - (nI 1))), (5, .int ((nI (lwN (v >>> ((nI 9) &&& 31)) 7)) - (nI 1))), (4, .int ((nI (lwN (v >>> ((nI 7) &&& 31)) 15)) - (nI 2))), (3, .int ((nI (lwN (v >>> ((nI 4) &&& 31)) 9)) - (nI 2))), (2, .int (bI true)), (0, .ref x), (1, .int v)] o dL_act_151 (by decide) rfl ?_
    refine v_iload_n 5 o dL_act_153 rfl rfl ?_
    refine v_if_eq_b 171 o dL_act_154 (by decide) (fun c154 => absurd c154 (by simp_all)) (fun c154 => ?_)
    refine v_iload_n 7 o dL_act_157 rfl rfl ?_
    refine v_bipush 13 o dL_act_158 (by decide) ?_
    refine v_ishr (v >>> ((nI 13) &&& 31)) o dL_act_160 rfl ?_
    refine v_bipush 8 o dL_act_161 (by decide) ?_
    refine v_callSr (v := .int (nI (lwN (v >>> ((nI 13) &&& 31)) 8))) [.int (v >>> ((nI 13) &&& 31)), .int (nI 8)] [] o dL_act_163 cw_L_111 st_L_low (l_low hl (v >>> ((nI 13) &&& 31)) 8 (by decide) (by decide)) rfl rfl (by decide) ⟨rfl, rfl⟩ (by decide) (Nat.le_of_ble_eq_true rfl) ?_
    refine v_iconst 1 o dL_act_166 rfl ?_
    refine v_isub ((nI (lwN (v >>> ((nI 13) &&& 31)) 8)) - (nI 1)) o dL_act_167 rfl ?_
    refine v_goto 179 o dL_act_168 (by decide) ?_
    refine v_istore [(8, .int ((nI (lwN (v >>> ((nI 13) &&& 31)) 8)) - (nI 1))), (7, .int ((nI (lwN (v >>> ((nI 5) &&& 31)) 30)) - (nI 2))), (6, .int ((nI (lwN (v >>> ((nI 11) &&& 31)) 7)) - (nI 1))), (5, .int ((nI (lwN (v >>> ((nI 9) &&& 31)) 7)) - (nI 1))), (4, .int ((nI (lwN (v >>> ((nI 7) &&& 31)) 15)) - (nI 2))), (3, .int ((nI (lwN (v >>> ((nI 4) &&& 31)) 9)) - (nI 2))), (2, .int (bI true)), (0, .ref x), (1, .int v)] o dL_act_179 (by decide) rfl ?_
    refine v_iload_n 6 o dL_act_181 rfl rfl ?_
    refine v_if_eq_b 192 o dL_act_182 (by decide) (fun c182 => absurd c182 (by simp_all)) (fun c182 => ?_)
    refine v_iload_n 8 o dL_act_185 rfl rfl ?_
    refine v_bipush 9 o dL_act_186 (by decide) ?_
    refine v_ishr (v >>> ((nI 9) &&& 31)) o dL_act_188 rfl ?_
    refine v_goto 201 o dL_act_189 (by decide) ?_
    refine v_istore [(9, .int (v >>> ((nI 9) &&& 31))), (8, .int ((nI (lwN (v >>> ((nI 13) &&& 31)) 8)) - (nI 1))), (7, .int ((nI (lwN (v >>> ((nI 5) &&& 31)) 30)) - (nI 2))), (6, .int ((nI (lwN (v >>> ((nI 11) &&& 31)) 7)) - (nI 1))), (5, .int ((nI (lwN (v >>> ((nI 9) &&& 31)) 7)) - (nI 1))), (4, .int ((nI (lwN (v >>> ((nI 7) &&& 31)) 15)) - (nI 2))), (3, .int ((nI (lwN (v >>> ((nI 4) &&& 31)) 9)) - (nI 2))), (2, .int (bI true)), (0, .ref x), (1, .int v)] o dL_act_201 (by decide) rfl ?_
    refine v_iload_n 9 o dL_act_203 rfl rfl ?_
    refine v_bipush 15 o dL_act_204 (by decide) ?_
    refine v_ishr (v >>> ((nI 15) &&& 31)) o dL_act_206 rfl ?_
    refine v_iconst 1 o dL_act_207 rfl ?_
    refine v_iand ((v >>> ((nI 15) &&& 31)) &&& (nI 1)) o dL_act_208 rfl ?_
    refine v_iconst 1 o dL_act_209 rfl ?_
    refine v_icmp_ne 217 o dL_act_210 (by decide) (fun c210 => ?_) (fun c210 => absurd c210 h15)
    refine v_iconst 0 o dL_act_217 rfl ?_
    refine v_istore [(10, .int (nI 0)), (9, .int (v >>> ((nI 9) &&& 31))), (8, .int ((nI (lwN (v >>> ((nI 13) &&& 31)) 8)) - (nI 1))), (7, .int ((nI (lwN (v >>> ((nI 5) &&& 31)) 30)) - (nI 2))), (6, .int ((nI (lwN (v >>> ((nI 11) &&& 31)) 7)) - (nI 1))), (5, .int ((nI (lwN (v >>> ((nI 9) &&& 31)) 7)) - (nI 1))), (4, .int ((nI (lwN (v >>> ((nI 7) &&& 31)) 15)) - (nI 2))), (3, .int ((nI (lwN (v >>> ((nI 4) &&& 31)) 9)) - (nI 2))), (2, .int (bI true)), (0, .ref x), (1, .int v)] o dL_act_218 (by decide) rfl ?_
    refine v_lv [(10, .int (bI false)), (9, .int (v >>> ((nI 9) &&& 31))), (8, .int ((nI (lwN (v >>> ((nI 13) &&& 31)) 8)) - (nI 1))), (7, .int ((nI (lwN (v >>> ((nI 5) &&& 31)) 30)) - (nI 2))), (6, .int ((nI (lwN (v >>> ((nI 11) &&& 31)) 7)) - (nI 1))), (5, .int ((nI (lwN (v >>> ((nI 9) &&& 31)) 7)) - (nI 1))), (4, .int ((nI (lwN (v >>> ((nI 7) &&& 31)) 15)) - (nI 2))), (3, .int ((nI (lwN (v >>> ((nI 4) &&& 31)) 9)) - (nI 2))), (2, .int (bI true)), (0, .ref x), (1, .int v)] rfl ?_
    refine v_iload_n 10 o dL_act_220 rfl rfl ?_
    refine v_bipush 54 o dL_act_221 (by decide) ?_
    refine v_callSr (v := .int (nI (lwN v 54))) [.int v, .int (nI 54)] [] o dL_act_223 cw_L_111 st_L_low (l_low hl v 54 (by decide) (by decide)) rfl rfl (by decide) ⟨rfl, rfl⟩ (by decide) (Nat.le_of_ble_eq_true rfl) ?_
    exact hV p l e s mi args below meth c g x z z0 B μ0 μ σ τ hl o hr hz0 hR hI
  · obtain ⟨f, hf, hV⟩ := la_sw v (nI (lwN (v >>> ((nI 4) &&& 31)) 3)) (nI (lwN (v >>> ((nI 7) &&& 31)) 4)) (nI (lwN (v >>> ((nI 9) &&& 31)) 4)) (nI (lwN (v >>> ((nI 11) &&& 31)) 4)) (nI (lwN (v >>> ((nI 5) &&& 31)) 3)) (nI (lwN (v >>> ((nI 13) &&& 31)) 5)) (nI (lwN (v >>> ((nI 9) &&& 31)) 60)) false true (lwN v 54) (lwN_lt (by decide))
    refine ⟨f, hf, fun {l} hl {g x z z0 B μ0 μ σ τ} hR hI hz0 => ?_⟩
    refine Ct.of hl (by decide +kernel) (Nat.le_of_ble_eq_true rfl) ?_
    intro p e s mi args below meth c o hnm hr hx
    have o : Ok p l s mi args meth c g cL_act 11 RL := o
    refine v_lv [(0, .ref x), (1, .int v)] rfl ?_
    refine v_iload_n 1 o dL_act_0 rfl rfl ?_
    refine v_bipush 26 o dL_act_1 (by decide) ?_
    refine v_ishr (v >>> ((nI 26) &&& 31)) o dL_act_3 rfl ?_
    refine v_bipush 14 o dL_act_4 (by decide) ?_
    refine v_callSr (v := .int (nI (lwN (v >>> ((nI 26) &&& 31)) 14))) [.int (v >>> ((nI 26) &&& 31)), .int (nI 14)] [] o dL_act_6 cw_L_111 st_L_low (l_low hl (v >>> ((nI 26) &&& 31)) 14 (by decide) (by decide)) rfl rfl (by decide) ⟨rfl, rfl⟩ (by decide) (Nat.le_of_ble_eq_true rfl) ?_
    refine v_if_ne_n 16 o dL_act_9 (by decide) (Nat.lt_trans (lwN_lt (by decide)) (by decide)) (fun c9 => ?_) (fun c9 => absurd c9 h14)
    refine v_iconst 0 o dL_act_16 rfl ?_
    refine v_istore_n [(2, .int (nI 0)), (0, .ref x), (1, .int v)] o dL_act_17 rfl (by decide) rfl ?_
    refine v_lv [(2, .int (bI false)), (0, .ref x), (1, .int v)] rfl ?_
    refine v_iload_n 0 o dL_act_18 rfl rfl ?_
    refine v_if_eq_b 35 o dL_act_19 (by decide) (fun c19 => ?_) (fun c19 => absurd c19 (by simp_all))
    refine v_iload_n 2 o dL_act_35 rfl rfl ?_
    refine v_iconst 4 o dL_act_36 rfl ?_
    refine v_ishr (v >>> ((nI 4) &&& 31)) o dL_act_37 rfl ?_
    refine v_iconst 3 o dL_act_38 rfl ?_
    refine v_callSr (v := .int (nI (lwN (v >>> ((nI 4) &&& 31)) 3))) [.int (v >>> ((nI 4) &&& 31)), .int (nI 3)] [] o dL_act_39 cw_L_111 st_L_low (l_low hl (v >>> ((nI 4) &&& 31)) 3 (by decide) (by decide)) rfl rfl (by decide) ⟨rfl, rfl⟩ (by decide) (Nat.le_of_ble_eq_true rfl) ?_
    refine v_istore_n [(3, .int (nI (lwN (v >>> ((nI 4) &&& 31)) 3))), (2, .int (bI false)), (0, .ref x), (1, .int v)] o dL_act_42 rfl (by decide) rfl ?_
    refine v_iload_n 1 o dL_act_43 rfl rfl ?_
    refine v_if_eq_b 61 o dL_act_44 (by decide) (fun c44 => ?_) (fun c44 => absurd c44 (by simp_all))
    refine v_iload_n 3 o dL_act_61 rfl rfl ?_
    refine v_bipush 7 o dL_act_62 (by decide) ?_
    refine v_ishr (v >>> ((nI 7) &&& 31)) o dL_act_64 rfl ?_
    refine v_iconst 4 o dL_act_65 rfl ?_
    refine v_callSr (v := .int (nI (lwN (v >>> ((nI 7) &&& 31)) 4))) [.int (v >>> ((nI 7) &&& 31)), .int (nI 4)] [] o dL_act_66 cw_L_111 st_L_low (l_low hl (v >>> ((nI 7) &&& 31)) 4 (by decide) (by decide)) rfl rfl (by decide) ⟨rfl, rfl⟩ (by decide) (Nat.le_of_ble_eq_true rfl) ?_
    refine v_istore [(4, .int (nI (lwN (v >>> ((nI 7) &&& 31)) 4))), (3, .int (nI (lwN (v >>> ((nI 4) &&& 31)) 3))), (2, .int (bI false)), (0, .ref x), (1, .int v)] o dL_act_69 (by decide) rfl ?_
    refine v_iload_n 2 o dL_act_71 rfl rfl ?_
    refine v_if_eq_b 89 o dL_act_72 (by decide) (fun c72 => ?_) (fun c72 => absurd c72 (by simp_all))
    refine v_iload_n 4 o dL_act_89 rfl rfl ?_
    refine v_bipush 9 o dL_act_90 (by decide) ?_
    refine v_ishr (v >>> ((nI 9) &&& 31)) o dL_act_92 rfl ?_
    refine v_iconst 4 o dL_act_93 rfl ?_
    refine v_callSr (v := .int (nI (lwN (v >>> ((nI 9) &&& 31)) 4))) [.int (v >>> ((nI 9) &&& 31)), .int (nI 4)] [] o dL_act_94 cw_L_111 st_L_low (l_low hl (v >>> ((nI 9) &&& 31)) 4 (by decide) (by decide)) rfl rfl (by decide) ⟨rfl, rfl⟩ (by decide) (Nat.le_of_ble_eq_true rfl) ?_
    refine v_istore [(5, .int (nI (lwN (v >>> ((nI 9) &&& 31)) 4))), (4, .int (nI (lwN (v >>> ((nI 7) &&& 31)) 4))), (3, .int (nI (lwN (v >>> ((nI 4) &&& 31)) 3))), (2, .int (bI false)), (0, .ref x), (1, .int v)] o dL_act_97 (by decide) rfl ?_
    refine v_iload_n 3 o dL_act_99 rfl rfl ?_
    refine v_if_eq_b 117 o dL_act_100 (by decide) (fun c100 => ?_) (fun c100 => absurd c100 (by simp_all))
    refine v_iload_n 5 o dL_act_117 rfl rfl ?_
    refine v_bipush 11 o dL_act_118 (by decide) ?_
    refine v_ishr (v >>> ((nI 11) &&& 31)) o dL_act_120 rfl ?_
    refine v_iconst 4 o dL_act_121 rfl ?_
    refine v_callSr (v := .int (nI (lwN (v >>> ((nI 11) &&& 31)) 4))) [.int (v >>> ((nI 11) &&& 31)), .int (nI 4)] [] o dL_act_122 cw_L_111 st_L_low (l_low hl (v >>> ((nI 11) &&& 31)) 4 (by decide) (by decide)) rfl rfl (by decide) ⟨rfl, rfl⟩ (by decide) (Nat.le_of_ble_eq_true rfl) ?_
    refine v_istore [(6, .int (nI (lwN (v >>> ((nI 11) &&& 31)) 4))), (5, .int (nI (lwN (v >>> ((nI 9) &&& 31)) 4))), (4, .int (nI (lwN (v >>> ((nI 7) &&& 31)) 4))), (3, .int (nI (lwN (v >>> ((nI 4) &&& 31)) 3))), (2, .int (bI false)), (0, .ref x), (1, .int v)] o dL_act_125 (by decide) rfl ?_
    refine v_iload_n 4 o dL_act_127 rfl rfl ?_
    refine v_if_eq_b 144 o dL_act_128 (by decide) (fun c128 => ?_) (fun c128 => absurd c128 (by simp_all))
    refine v_iload_n 6 o dL_act_144 rfl rfl ?_
    refine v_iconst 5 o dL_act_145 rfl ?_
    refine v_ishr (v >>> ((nI 5) &&& 31)) o dL_act_146 rfl ?_
    refine v_iconst 3 o dL_act_147 rfl ?_
    refine v_callSr (v := .int (nI (lwN (v >>> ((nI 5) &&& 31)) 3))) [.int (v >>> ((nI 5) &&& 31)), .int (nI 3)] [] o dL_act_148 cw_L_111 st_L_low (l_low hl (v >>> ((nI 5) &&& 31)) 3 (by decide) (by decide)) rfl rfl (by decide) ⟨rfl, rfl⟩ (by decide) (Nat.le_of_ble_eq_true rfl) ?_
    refine v_istore [(7, .int (nI (lwN (v >>> ((nI 5) &&& 31)) 3))), (6, .int (nI (lwN (v >>> ((nI 11) &&& 31)) 4))), (5, .int (nI (lwN (v >>> ((nI 9) &&& 31)) 4))), (4, .int (nI (lwN (v >>> ((nI 7) &&& 31)) 4))), (3, .int (nI (lwN (v >>> ((nI 4) &&& 31)) 3))), (2, .int (bI false)), (0, .ref x), (1, .int v)] o dL_act_151 (by decide) rfl ?_
    refine v_iload_n 5 o dL_act_153 rfl rfl ?_
    refine v_if_eq_b 171 o dL_act_154 (by decide) (fun c154 => ?_) (fun c154 => absurd c154 (by simp_all))
    refine v_iload_n 7 o dL_act_171 rfl rfl ?_
    refine v_bipush 13 o dL_act_172 (by decide) ?_
    refine v_ishr (v >>> ((nI 13) &&& 31)) o dL_act_174 rfl ?_
    refine v_iconst 5 o dL_act_175 rfl ?_
    refine v_callSr (v := .int (nI (lwN (v >>> ((nI 13) &&& 31)) 5))) [.int (v >>> ((nI 13) &&& 31)), .int (nI 5)] [] o dL_act_176 cw_L_111 st_L_low (l_low hl (v >>> ((nI 13) &&& 31)) 5 (by decide) (by decide)) rfl rfl (by decide) ⟨rfl, rfl⟩ (by decide) (Nat.le_of_ble_eq_true rfl) ?_
    refine v_istore [(8, .int (nI (lwN (v >>> ((nI 13) &&& 31)) 5))), (7, .int (nI (lwN (v >>> ((nI 5) &&& 31)) 3))), (6, .int (nI (lwN (v >>> ((nI 11) &&& 31)) 4))), (5, .int (nI (lwN (v >>> ((nI 9) &&& 31)) 4))), (4, .int (nI (lwN (v >>> ((nI 7) &&& 31)) 4))), (3, .int (nI (lwN (v >>> ((nI 4) &&& 31)) 3))), (2, .int (bI false)), (0, .ref x), (1, .int v)] o dL_act_179 (by decide) rfl ?_
    refine v_iload_n 6 o dL_act_181 rfl rfl ?_
    refine v_if_eq_b 192 o dL_act_182 (by decide) (fun c182 => ?_) (fun c182 => absurd c182 (by simp_all))
    refine v_iload_n 8 o dL_act_192 rfl rfl ?_
    refine v_bipush 9 o dL_act_193 (by decide) ?_
    refine v_ishr (v >>> ((nI 9) &&& 31)) o dL_act_195 rfl ?_
    refine v_bipush 60 o dL_act_196 (by decide) ?_
    refine v_callSr (v := .int (nI (lwN (v >>> ((nI 9) &&& 31)) 60))) [.int (v >>> ((nI 9) &&& 31)), .int (nI 60)] [] o dL_act_198 cw_L_111 st_L_low (l_low hl (v >>> ((nI 9) &&& 31)) 60 (by decide) (by decide)) rfl rfl (by decide) ⟨rfl, rfl⟩ (by decide) (Nat.le_of_ble_eq_true rfl) ?_
    refine v_istore [(9, .int (nI (lwN (v >>> ((nI 9) &&& 31)) 60))), (8, .int (nI (lwN (v >>> ((nI 13) &&& 31)) 5))), (7, .int (nI (lwN (v >>> ((nI 5) &&& 31)) 3))), (6, .int (nI (lwN (v >>> ((nI 11) &&& 31)) 4))), (5, .int (nI (lwN (v >>> ((nI 9) &&& 31)) 4))), (4, .int (nI (lwN (v >>> ((nI 7) &&& 31)) 4))), (3, .int (nI (lwN (v >>> ((nI 4) &&& 31)) 3))), (2, .int (bI false)), (0, .ref x), (1, .int v)] o dL_act_201 (by decide) rfl ?_
    refine v_iload_n 9 o dL_act_203 rfl rfl ?_
    refine v_bipush 15 o dL_act_204 (by decide) ?_
    refine v_ishr (v >>> ((nI 15) &&& 31)) o dL_act_206 rfl ?_
    refine v_iconst 1 o dL_act_207 rfl ?_
    refine v_iand ((v >>> ((nI 15) &&& 31)) &&& (nI 1)) o dL_act_208 rfl ?_
    refine v_iconst 1 o dL_act_209 rfl ?_
    refine v_icmp_ne 217 o dL_act_210 (by decide) (fun c210 => absurd c210 (not_not_intro h15)) (fun c210 => ?_)
    refine v_iconst 1 o dL_act_213 rfl ?_
    refine v_goto 218 o dL_act_214 (by decide) ?_
    refine v_istore [(10, .int (nI 1)), (9, .int (nI (lwN (v >>> ((nI 9) &&& 31)) 60))), (8, .int (nI (lwN (v >>> ((nI 13) &&& 31)) 5))), (7, .int (nI (lwN (v >>> ((nI 5) &&& 31)) 3))), (6, .int (nI (lwN (v >>> ((nI 11) &&& 31)) 4))), (5, .int (nI (lwN (v >>> ((nI 9) &&& 31)) 4))), (4, .int (nI (lwN (v >>> ((nI 7) &&& 31)) 4))), (3, .int (nI (lwN (v >>> ((nI 4) &&& 31)) 3))), (2, .int (bI false)), (0, .ref x), (1, .int v)] o dL_act_218 (by decide) rfl ?_
    refine v_lv [(10, .int (bI true)), (9, .int (nI (lwN (v >>> ((nI 9) &&& 31)) 60))), (8, .int (nI (lwN (v >>> ((nI 13) &&& 31)) 5))), (7, .int (nI (lwN (v >>> ((nI 5) &&& 31)) 3))), (6, .int (nI (lwN (v >>> ((nI 11) &&& 31)) 4))), (5, .int (nI (lwN (v >>> ((nI 9) &&& 31)) 4))), (4, .int (nI (lwN (v >>> ((nI 7) &&& 31)) 4))), (3, .int (nI (lwN (v >>> ((nI 4) &&& 31)) 3))), (2, .int (bI false)), (0, .ref x), (1, .int v)] rfl ?_
    refine v_iload_n 10 o dL_act_220 rfl rfl ?_
    refine v_bipush 54 o dL_act_221 (by decide) ?_
    refine v_callSr (v := .int (nI (lwN v 54))) [.int v, .int (nI 54)] [] o dL_act_223 cw_L_111 st_L_low (l_low hl v 54 (by decide) (by decide)) rfl rfl (by decide) ⟨rfl, rfl⟩ (by decide) (Nat.le_of_ble_eq_true rfl) ?_
    exact hV p l e s mi args below meth c g x z z0 B μ0 μ σ τ hl o hr hz0 hR hI
  · obtain ⟨f, hf, hV⟩ := la_sw v (nI (lwN (v >>> ((nI 4) &&& 31)) 3)) (nI (lwN (v >>> ((nI 7) &&& 31)) 4)) (nI (lwN (v >>> ((nI 9) &&& 31)) 4)) (nI (lwN (v >>> ((nI 11) &&& 31)) 4)) (nI (lwN (v >>> ((nI 5) &&& 31)) 3)) (nI (lwN (v >>> ((nI 13) &&& 31)) 5)) (nI (lwN (v >>> ((nI 9) &&& 31)) 60)) false false (lwN v 54) (lwN_lt (by decide))
    refine ⟨f, hf, fun {l} hl {g x z z0 B μ0 μ σ τ} hR hI hz0 => ?_⟩
    refine Ct.of hl (by decide +kernel) (Nat.le_of_ble_eq_true rfl) ?_
    intro p e s mi args below meth c o hnm hr hx
    have o : Ok p l s mi args meth c g cL_act 11 RL := o
    refine v_lv [(0, .ref x), (1, .int v)] rfl ?_
    refine v_iload_n 1 o dL_act_0 rfl rfl ?_
    refine v_bipush 26 o dL_act_1 (by decide) ?_
    refine v_ishr (v >>> ((nI 26) &&& 31)) o dL_act_3 rfl ?_
    refine v_bipush 14 o dL_act_4 (by decide) ?_
    refine v_callSr (v := .int (nI (lwN (v >>> ((nI 26) &&& 31)) 14))) [.int (v >>> ((nI 26) &&& 31)), .int (nI 14)] [] o dL_act_6 cw_L_111 st_L_low (l_low hl (v >>> ((nI 26) &&& 31)) 14 (by decide) (by decide)) rfl rfl (by decide) ⟨rfl, rfl⟩ (by decide) (Nat.le_of_ble_eq_true rfl) ?_
    refine v_if_ne_n 16 o dL_act_9 (by decide) (Nat.lt_trans (lwN_lt (by decide)) (by decide)) (fun c9 => ?_) (fun c9 => absurd c9 h14)
    refine v_iconst 0 o dL_act_16 rfl ?_
    refine v_istore_n [(2, .int (nI 0)), (0, .ref x), (1, .int v)] o dL_act_17 rfl (by decide) rfl ?_
    refine v_lv [(2, .int (bI false)), (0, .ref x), (1, .int v)] rfl ?_
    refine v_iload_n 0 o dL_act_18 rfl rfl ?_
    refine v_if_eq_b 35 o dL_act_19 (by decide) (fun c19 => ?_) (fun c19 => absurd c19 (by simp_all))
    refine v_iload_n 2 o dL_act_35 rfl rfl ?_
    refine v_iconst 4 o dL_act_36 rfl ?_
    refine v_ishr (v >>> ((nI 4) &&& 31)) o dL_act_37 rfl ?_
    refine v_iconst 3 o dL_act_38 rfl ?_
    refine v_callSr (v := .int (nI (lwN (v >>> ((nI 4) &&& 31)) 3))) [.int (v >>> ((nI 4) &&& 31)), .int (nI 3)] [] o dL_act_39 cw_L_111 st_L_low (l_low hl (v >>> ((nI 4) &&& 31)) 3 (by decide) (by decide)) rfl rfl (by decide) ⟨rfl, rfl⟩ (by decide) (Nat.le_of_ble_eq_true rfl) ?_
    refine v_istore_n [(3, .int (nI (lwN (v >>> ((nI 4) &&& 31)) 3))), (2, .int (bI false)), (0, .ref x), (1, .int v)] o dL_act_42 rfl (by decide) rfl ?_
    refine v_iload_n 1 o dL_act_43 rfl rfl ?_
    refine v_if_eq_b 61 o dL_act_44 (by decide) (fun c44 => ?_) (fun c44 => absurd c44 (by simp_all))
    refine v_iload_n 3 o dL_act_61 rfl rfl ?_
    refine v_bipush 7 o dL_act_62 (by decide) ?_
    refine v_ishr (v >>> ((nI 7) &&& 31)) o dL_act_64 rfl ?_
    refine v_iconst 4 o dL_act_65 rfl ?_
    refine v_callSr (v := .int (nI (lwN (v >>> ((nI 7) &&& 31)) 4))) [.int (v >>> ((nI 7) &&& 31)), .int (nI 4)] [] o dL_act_66 cw_L_111 st_L_low (l_low hl (v >>> ((nI 7) &&& 31)) 4 (by decide) (by decide)) rfl rfl (by decide) ⟨rfl, rfl⟩ (by decide) (Nat.le_of_ble_eq_true rfl) ?_
    refine v_istore [(4, .int (nI (lwN (v >>> ((nI 7) &&& 31)) 4))), (3, .int (nI (lwN (v >>> ((nI 4) &&& 31)) 3))), (2, .int (bI false)), (0, .ref x), (1, .int v)] o dL_act_69 (by decide) rfl ?_
    refine v_iload_n 2 o dL_act_71 rfl rfl ?_
    refine v_if_eq_b 89 o dL_act_72 (by decide) (fun c72 => ?_) (fun c72 => absurd c72 (by simp_all))
    refine v_iload_n 4 o dL_act_89 rfl rfl ?_
    refine v_bipush 9 o dL_act_90 (by decide) ?_
    refine v_ishr (v >>> ((nI 9) &&& 31)) o dL_act_92 rfl ?_
    refine v_iconst 4 o dL_act_93 rfl ?_
    refine v_callSr (v := .int (nI (lwN (v >>> ((nI 9) &&& 31)) 4))) [.int (v >>> ((nI 9) &&& 31)), .int (nI 4)] [] o dL_act_94 cw_L_111 st_L_low (l_low hl (v >>> ((nI 9) &&& 31)) 4 (by decide) (by decide)) rfl rfl (by decide) ⟨rfl, rfl⟩ (by decide) (Nat.le_of_ble_eq_true rfl) ?_
    refine v_istore [(5, .int (nI (lwN (v >>> ((nI 9) &&& 31)) 4))), (4, .int (nI (lwN (v >>> ((nI 7) &&& 31)) 4))), (3, .int (nI (lwN (v >>> ((nI 4) &&& 31)) 3))), (2, .int (bI false)), (0, .ref x), (1, .int v)] o dL_act_97 (by decide) rfl ?_
    refine v_iload_n 3 o dL_act_99 rfl rfl ?_
    refine v_if_eq_b 117 o dL_act_100 (by decide) (fun c100 => ?_) (fun c100 => absurd c100 (by simp_all))
    refine v_iload_n 5 o dL_act_117 rfl rfl ?_
    refine v_bipush 11 o dL_act_118 (by decide) ?_
    refine v_ishr (v >>> ((nI 11) &&& 31)) o dL_act_120 rfl ?_
    refine v_iconst 4 o dL_act_121 rfl ?_
    refine v_callSr (v := .int (nI (lwN (v >>> ((nI 11) &&& 31)) 4))) [.int (v >>> ((nI 11) &&& 31)), .int (nI 4)] [] o dL_act_122 cw_L_111 st_L_low (l_low hl (v >>> ((nI 11) &&& 31)) 4 (by decide) (by decide)) rfl rfl (by decide) ⟨rfl, rfl⟩ (by decide) (Nat.le_of_ble_eq_true rfl) ?_
    refine v_istore [(6, .int (nI (lwN (v >>> ((nI 11) &&& 31)) 4))), (5, .int (nI (lwN (v >>> ((nI 9) &&& 31)) 4))), (4, .int (nI (lwN (v >>> ((nI 7) &&& 31)) 4))), (3, .int (nI (lwN (v >>> ((nI 4) &&& 31)) 3))), (2, .int (bI false)), (0, .ref x), (1, .int v)] o dL_act_125 (by decide) rfl ?_
    refine v_iload_n 4 o dL_act_127 rfl rfl ?_
    refine v_if_eq_b 144 o dL_act_128 (by decide) (fun c128 => ?_) (fun c128 => absurd c128 (by simp_all))
    refine v_iload_n 6 o dL_act_144 rfl rfl ?_
    refine v_iconst 5 o dL_act_145 rfl ?_
    refine v_ishr (v >>> ((nI 5) &&& 31)) o dL_act_146 rfl ?_
    refine v_iconst 3 o dL_act_147 rfl ?_
    refine v_callSr (v := .int (nI (lwN (v >>> ((nI 5) &&& 31)) 3))) [.int (v >>> ((nI 5) &&& 31)), .int (nI 3)] [] o dL_act_148 cw_L_111 st_L_low (l_low hl (v >>> ((nI 5) &&& 31)) 3 (by decide) (by decide)) rfl rfl (by decide) ⟨rfl, rfl⟩ (by decide) (Nat.le_of_ble_eq_true rfl) ?_
    refine v_istore [(7, .int (nI (lwN (v >>> ((nI 5) &&& 31)) 3))), (6, .int (nI (lwN (v >>> ((nI 11) &&& 31)) 4))), (5, .int (nI (lwN (v >>> ((nI 9) &&& 31)) 4))), (4, .int (nI (lwN (v >>> ((nI 7) &&& 31)) 4))), (3, .int (nI (lwN (v >>> ((nI 4) &&& 31)) 3))), (2, .int (bI false)), (0, .ref x), (1, .int v)] o dL_act_151 (by decide) rfl ?_
    refine v_iload_n 5 o dL_act_153 rfl rfl ?_
    refine v_if_eq_b 171 o dL_act_154 (by decide) (fun c154 => ?_) (fun c154 => absurd c154 (by simp_all))
    refine v_iload_n 7 o dL_act_171 rfl rfl ?_
    refine v_bipush 13 o dL_act_172 (by decide) ?_
    refine v_ishr (v >>> ((nI 13) &&& 31)) o dL_act_174 rfl ?_
    refine v_iconst 5 o dL_act_175 rfl ?_
    refine v_callSr (v := .int (nI (lwN (v >>> ((nI 13) &&& 31)) 5))) [.int (v >>> ((nI 13) &&& 31)), .int (nI 5)] [] o dL_act_176 cw_L_111 st_L_low (l_low hl (v >>> ((nI 13) &&& 31)) 5 (by decide) (by decide)) rfl rfl (by decide) ⟨rfl, rfl⟩ (by decide) (Nat.le_of_ble_eq_true rfl) ?_
    refine v_istore [(8, .int (nI (lwN (v >>> ((nI 13) &&& 31)) 5))), (7, .int (nI (lwN (v >>> ((nI 5) &&& 31)) 3))), (6, .int (nI (lwN (v >>> ((nI 11) &&& 31)) 4))), (5, .int (nI (lwN (v >>> ((nI 9) &&& 31)) 4))), (4, .int (nI (lwN (v >>> ((nI 7) &&& 31)) 4))), (3, .int (nI (lwN (v >>> ((nI 4) &&& 31)) 3))), (2, .int (bI false)), (0, .ref x), (1, .int v)] o dL_act_179 (by decide) rfl ?_
    refine v_iload_n 6 o dL_act_181 rfl rfl ?_
    refine v_if_eq_b 192 o dL_act_182 (by decide) (fun c182 => ?_) (fun c182 => absurd c182 (by simp_all))
    refine v_iload_n 8 o dL_act_192 rfl rfl ?_
    refine v_bipush 9 o dL_act_193 (by decide) ?_
    refine v_ishr (v >>> ((nI 9) &&& 31)) o dL_act_195 rfl ?_
    refine v_bipush 60 o dL_act_196 (by decide) ?_
    refine v_callSr (v := .int (nI (lwN (v >>> ((nI 9) &&& 31)) 60))) [.int (v >>> ((nI 9) &&& 31)), .int (nI 60)] [] o dL_act_198 cw_L_111 st_L_low (l_low hl (v >>> ((nI 9) &&& 31)) 60 (by decide) (by decide)) rfl rfl (by decide) ⟨rfl, rfl⟩ (by decide) (Nat.le_of_ble_eq_true rfl) ?_
    refine v_istore [(9, .int (nI (lwN (v >>> ((nI 9) &&& 31)) 60))), (8, .int (nI (lwN (v >>> ((nI 13) &&& 31)) 5))), (7, .int (nI (lwN (v >>> ((nI 5) &&& 31)) 3))), (6, .int (nI (lwN (v >>> ((nI 11) &&& 31)) 4))), (5, .int (nI (lwN (v >>> ((nI 9) &&& 31)) 4))), (4, .int (nI (lwN (v >>> ((nI 7) &&& 31)) 4))), (3, .int (nI (lwN (v >>> ((nI 4) &&& 31)) 3))), (2, .int (bI false)), (0, .ref x), (1, .int v)] o dL_act_201 (by decide) rfl ?_
    refine v_iload_n 9 o dL_act_203 rfl rfl ?_
    refine v_bipush 15 o dL_act_204 (by decide) ?_
    refine v_ishr (v >>> ((nI 15) &&& 31)) o dL_act_206 rfl ?_
    refine v_iconst 1 o dL_act_207 rfl ?_
    refine v_iand ((v >>> ((nI 15) &&& 31)) &&& (nI 1)) o dL_act_208 rfl ?_
    refine v_iconst 1 o dL_act_209 rfl ?_
    refine v_icmp_ne 217 o dL_act_210 (by decide) (fun c210 => ?_) (fun c210 => absurd c210 h15)
    refine v_iconst 0 o dL_act_217 rfl ?_
    refine v_istore [(10, .int (nI 0)), (9, .int (nI (lwN (v >>> ((nI 9) &&& 31)) 60))), (8, .int (nI (lwN (v >>> ((nI 13) &&& 31)) 5))), (7, .int (nI (lwN (v >>> ((nI 5) &&& 31)) 3))), (6, .int (nI (lwN (v >>> ((nI 11) &&& 31)) 4))), (5, .int (nI (lwN (v >>> ((nI 9) &&& 31)) 4))), (4, .int (nI (lwN (v >>> ((nI 7) &&& 31)) 4))), (3, .int (nI (lwN (v >>> ((nI 4) &&& 31)) 3))), (2, .int (bI false)), (0, .ref x), (1, .int v)] o dL_act_218 (by decide) rfl ?_
    refine v_lv [(10, .int (bI false)), (9, .int (nI (lwN (v >>> ((nI 9) &&& 31)) 60))), (8, .int (nI (lwN (v >>> ((nI 13) &&& 31)) 5))), (7, .int (nI (lwN (v >>> ((nI 5) &&& 31)) 3))), (6, .int (nI (lwN (v >>> ((nI 11) &&& 31)) 4))), (5, .int (nI (lwN (v >>> ((nI 9) &&& 31)) 4))), (4, .int (nI (lwN (v >>> ((nI 7) &&& 31)) 4))), (3, .int (nI (lwN (v >>> ((nI 4) &&& 31)) 3))), (2, .int (bI false)), (0, .ref x), (1, .int v)] rfl ?_
    refine v_iload_n 10 o dL_act_220 rfl rfl ?_
    refine v_bipush 54 o dL_act_221 (by decide) ?_
    refine v_callSr (v := .int (nI (lwN v 54))) [.int v, .int (nI 54)] [] o dL_act_223 cw_L_111 st_L_low (l_low hl v 54 (by decide) (by decide)) rfl rfl (by decide) ⟨rfl, rfl⟩ (by decide) (Nat.le_of_ble_eq_true rfl) ?_
    exact hV p l e s mi args below meth c g x z z0 B μ0 μ σ τ hl o hr hz0 hR hI
