section MKP
variable {p : Program} {l : Launch} {e : Env} {R : Room} {s : State} {m : MethodId} {args : Array Value} {below : List Frame} {meth : Method} {c : Code} {Q : State → Prop} {g : mG} {μ : mM} {z k n pc : Nat} {lv : List (Nat × Value)} {st : List Value} {cc : ByteArray} {nL : Nat} {own : String}
theorem v_ldc {ix : Nat} (v : Int32) (o : Ok p l s m args meth c g cc nL own) (d : decode cc pc = .ok (.ldc ix, 2)) (hc : Cond.constant own ix v ∈ mT) (kk : V p l e R s m args below meth c Q g μ z k n (pc + 2) lv (.int v :: st)) : V p l e R s m args below meth c Q g μ z k n (pc) lv (st) := fun H locs ls h1 h2 h3 => lv_ldc o.1 o.2.1 o.2.2.2.1 (o.2.2.2.2.2.2.2.2 _ hc) d (kk H locs ls h1 h2 h3)
theorem v_irem {x y : Int32} (r : Int32) (o : Ok p l s m args meth c g cc nL own) (d : decode cc pc = .ok (.irem, 1)) (h0 : ¬ y = 0) (hr : x - x / y * y = r) (kk : V p l e R s m args below meth c Q g μ z k n (pc + 1) lv (.int r :: st)) : V p l e R s m args below meth c Q g μ z k n pc lv (.int y :: .int x :: st) := by
  subst hr
  exact fun H locs ls h1 h2 h3 => lv_irem o.1 o.2.1 d h0 (kk H locs ls h1 h2 h3)
end MKP
def lP (g : mG) (x z0 : Nat) (μ0 : mM) (v : Value) (σ' : Sg) : Option Value → mM → Nat → Prop := fun r μ' _ => r = some v ∧ ∃ B' τ', RC g x B' z0 μ0 σ' τ' μ'
/-- what low answers -/
def lwN (v : Int32) (k : Nat) : Nat := v.toBitVec.toNat % 2 ^ 31 % k
theorem lwN_lt {v : Int32} {k : Nat} (h : 0 < k) : lwN v k < k := Nat.mod_lt _ h
theorem lwN_is (v : Int32) {k : Nat} (h0 : 0 < k) (hk : k < 2 ^ 31) : (v &&& 2147483647) - (v &&& 2147483647) / nI k * nI k = nI (lwN v k) := by
  have h := pk_and v (m := 2147483647) 31 (by decide)
  rw [h, pk_div (Nat.mod_lt _ (by decide)) h0 hk, pk_mul, pk_sub (Nat.div_mul_le_self _ _)]
  unfold lwN
  congr 1
  have := Nat.div_add_mod (v.toBitVec.toNat % 2 ^ 31) k
  have h2 := Nat.mul_comm k (v.toBitVec.toNat % 2 ^ 31 / k)
  omega
set_option maxRecDepth 100000 in
set_option maxHeartbeats 4000000 in
theorem l_low {l : Launch} (hl : l.stackTraces = false) {g : mG} {z : Nat} {μ : mM} (v : Int32) (k : Nat) (h0 : 0 < k) (hk : k < 2 ^ 31) : Ct l g yL_low [Cond.code yL_low cL_low 2 (some .int)] { frames := 0, cells := 0, slots := 0, locals := 0 } [.int v, .int (nI k)] μ z (rdP (some (.int (nI (lwN v k)))) μ z) (noX) := by
  refine Ct.of hl (by decide +kernel) (Nat.le_of_ble_eq_true rfl) ?_
  intro p e s mi args below meth c o hnm hr hx
  have o : Ok p l s mi args meth c g cL_low 2 RL := o
  refine v_lv [(0, .int v), (1, .int (nI k))] rfl ?_
  refine v_iload_n 0 o dL_low_0 rfl rfl ?_
  refine v_ldc (2147483647) o dL_low_1 ct_L_7 ?_
  refine v_iand (v &&& 2147483647) o dL_low_3 rfl ?_
  refine v_iload_n 1 o dL_low_4 rfl rfl ?_
  refine v_irem (nI (lwN v k)) o dL_low_5 (fun q => ?_) (lwN_is v h0 hk) ?_
  · have := congrArg Int32.toInt q
    rw [nI_toInt hk, show (0 : Int32).toInt = 0 from rfl] at this
    omega
  exact v_iret o dL_low_6 hr (Nat.le_of_ble_eq_true rfl) (Nat.le_of_ble_eq_true rfl) ⟨rfl, rfl, rfl⟩
theorem bb_b (b : Bool) : bI b = 0 ∨ bI b = 1 := by cases b <;> decide
theorem bb_look (σ : Sg) (b q : Int32) : (sp_look σ b q).1 = 0 ∨ (sp_look σ b q).1 = 1 := by
  unfold sp_look
  split
  · split
    · exact bb_b _
    · exact Or.inl rfl
  · exact Or.inl rfl
theorem bb_rot (σ : Sg) (v b q t : Int32) : (sp_rot σ v b q t).1 = 0 ∨ (sp_rot σ v b q t).1 = 1 := by
  unfold sp_rot
  split
  · split
    · split
      · exact bb_b _
      · exact Or.inl rfl
    · exact Or.inl rfl
  · exact Or.inl rfl
theorem bb_isLost (σ : Sg) (b q : Int32) : (sp_isLost σ b q).1 = 0 ∨ (sp_isLost σ b q).1 = 1 := by
  unfold sp_isLost
  split
  · exact bb_b _
  · exact Or.inl rfl
theorem bb_search (σ : Sg) (b : Int32) : (sp_search σ b).1 = 0 ∨ (sp_search σ b).1 = 1 := by
  unfold sp_search
  split
  · exact bb_b _
  · exact Or.inl rfl
theorem bb_takeDown (σ : Sg) (b : Int32) (w : Bool) : (sp_takeDown σ b w).1 = 0 ∨ (sp_takeDown σ b w).1 = 1 := by
  unfold sp_takeDown
  split
  · exact bb_b _
  · exact Or.inl rfl
set_option maxRecDepth 100000 in
set_option maxHeartbeats 4000000 in
theorem l_book {l : Launch} (hl : l.stackTraces = false) {g : mG} {x z z0 : Nat} {B : Nat → Nat} {μ0 μ : mM} {σ τ : Sg} (hR : RC g x B z0 μ0 σ τ μ) (hI : Inv σ) (hz0 : z0 ≤ z) (a0 : Int32) (a1 : Int32) (a2 : Int32) (a3 : Int32) (a4 : Int32) : Ct l g yL_book [Cond.codeWith yL_book cL_book 7 (some .int) [(0, 11, 12, 14), (0, 11, 17, 17)]] { frames := 8, cells := 122, slots := 584, locals := 130 } [.ref x, .int a0, .int a1, .int a2, .int a3, .int a4] μ z (lP g x z0 μ0 (.int (wa (sp_book σ a0 a1 a2 a3 a4))) (th (sp_book σ a0 a1 a2 a3 a4).2 0)) (noX) := by
  refine Ct.ofH hl (by decide +kernel) (Nat.le_of_ble_eq_true rfl) ?_
  intro p e s mi args below meth c o hnm hr hex
  have o : Ok p l s mi args meth c g cL_book 7 RL := o
  refine v_lv [(0, .ref x), (1, .int a0), (2, .int a1), (3, .int a2), (4, .int a3), (5, .int a4)] rfl ?_
  refine v_aload_n 0 o dL_book_0 rfl rfl ?_
  refine v_iload_n 1 o dL_book_1 rfl rfl ?_
  refine v_iload_n 2 o dL_book_2 rfl rfl ?_
  refine v_iload_n 3 o dL_book_3 rfl rfl ?_
  refine v_iload 4 o dL_book_4 rfl ?_
  refine v_iload 5 o dL_book_6 rfl ?_
  refine v_callV [.int a0, .int a1, .int a2, .int a3, .int a4] [] o dL_book_8 cw_L_8 im_X5_book se_X5_book cf5 hR.h0 (k_book hl hR hI hz0 a0 a1 a2 a3 a4) rfl rfl ⟨Nat.le_of_ble_eq_true rfl, Nat.le_of_ble_eq_true rfl⟩ ⟨Nat.le_of_ble_eq_true rfl, Nat.le_of_ble_eq_true rfl⟩ (Nat.le_of_ble_eq_true rfl) ?_ ?_
  · rintro r9 μ9 z9 - ⟨rfl, h31, B9, τ9, hR9⟩
    refine v_st [.int ((sp_book σ a0 a1 a2 a3 a4).1)] rfl ?_
    exact v_iret o dL_book_11 hr (Nat.le_of_ble_eq_true rfl) (Nat.le_of_ble_eq_true rfl) ⟨(by rw [wa_r (p := (sp_book σ a0 a1 a2 a3 a4)) h31]), B9, τ9, hR9.thk 0⟩
  · rintro E μ9 z9 - ⟨⟨k, hk, hE⟩, rfl⟩
    rcases k with _ | _ | k
    · cases hE
      refine v_catch o [] ⟨0, 11, 12, 14⟩ [⟨0, 11, 17, 17⟩] hex (fun y hy => by cases hy) rfl (by decide) cl_L_14 ca_A (fun q => ?_)
      refine v_astore [(6, .ref q), (0, .ref x), (1, .int a0), (2, .int a1), (3, .int a2), (4, .int a3), (5, .int a4)] o dL_book_12 (by decide) rfl ?_
      refine v_ldc (-99999999) o dL_book_14 ct_L_16 ?_
      exact v_iret o dL_book_16 hr (Nat.le_of_ble_eq_true rfl) (Nat.le_of_ble_eq_true rfl) ⟨by rw [wa_t (p := (sp_book σ a0 a1 a2 a3 a4)) hk], B, τ, by rw [(hk : (sp_book σ a0 a1 a2 a3 a4).2 = _)]; exact (hR.thk _).thk 0⟩
    · cases hE
      refine v_catch o [⟨0, 11, 12, 14⟩] ⟨0, 11, 17, 17⟩ [] hex (by
          intro y hy
          simp only [List.mem_cons, List.not_mem_nil, or_false] at hy
          rcases hy with rfl
          · exact ⟨by decide, _, cl_L_14, by decide⟩) rfl (by decide) cl_L_17 ca_S (fun q => ?_)
      refine v_astore [(6, .ref q), (0, .ref x), (1, .int a0), (2, .int a1), (3, .int a2), (4, .int a3), (5, .int a4)] o dL_book_17 (by decide) rfl ?_
      refine v_ldc (-99999999) o dL_book_19 ct_L_16 ?_
      exact v_iret o dL_book_21 hr (Nat.le_of_ble_eq_true rfl) (Nat.le_of_ble_eq_true rfl) ⟨by rw [wa_t (p := (sp_book σ a0 a1 a2 a3 a4)) hk], B, τ, by rw [(hk : (sp_book σ a0 a1 a2 a3 a4).2 = _)]; exact (hR.thk _).thk 0⟩
    · cases hE

set_option maxRecDepth 100000 in
set_option maxHeartbeats 4000000 in
theorem l_shot {l : Launch} (hl : l.stackTraces = false) {g : mG} {x z z0 : Nat} {B : Nat → Nat} {μ0 μ : mM} {σ τ : Sg} (hR : RC g x B z0 μ0 σ τ μ) (hI : Inv σ) (a0 : Int32) (a1 : Int32) (a2 : Int32) (a3 : Int64) : Ct l g yL_shot [Cond.codeWith yL_shot cL_shot 7 (some .int) [(0, 9, 10, 23), (0, 9, 15, 14), (0, 9, 20, 17)]] { frames := 8, cells := 1, slots := 6, locals := 133 } [.ref x, .int a0, .int a1, .int a2, .long a3] μ z (lP g x z0 μ0 (.int (wa (sp_shot σ a0 a1 a2 a3))) (th (sp_shot σ a0 a1 a2 a3).2 0)) (noX) := by
  refine Ct.ofH hl (by decide +kernel) (Nat.le_of_ble_eq_true rfl) ?_
  intro p e s mi args below meth c o hnm hr hex
  have o : Ok p l s mi args meth c g cL_shot 7 RL := o
  refine v_lv [(0, .ref x), (1, .int a0), (2, .int a1), (3, .int a2), (4, .long a3)] rfl ?_
  refine v_aload_n 0 o dL_shot_0 rfl rfl ?_
  refine v_iload_n 1 o dL_shot_1 rfl rfl ?_
  refine v_iload_n 2 o dL_shot_2 rfl rfl ?_
  refine v_iload_n 3 o dL_shot_3 rfl rfl ?_
  refine v_lload 4 o dL_shot_4 rfl ?_
  refine v_callV [.int a0, .int a1, .int a2, .long a3] [] o dL_shot_6 cw_L_19 im_X5_shot se_X5_shot cf5 hR.h0 (k_shot hl hR hI a0 a1 a2 a3) rfl rfl ⟨Nat.le_of_ble_eq_true rfl, Nat.le_of_ble_eq_true rfl⟩ ⟨Nat.le_of_ble_eq_true rfl, Nat.le_of_ble_eq_true rfl⟩ (Nat.le_of_ble_eq_true rfl) ?_ ?_
  · rintro r9 μ9 z9 - ⟨rfl, h31, B9, τ9, hR9⟩
    refine v_st [.int ((sp_shot σ a0 a1 a2 a3).1)] rfl ?_
    exact v_iret o dL_shot_9 hr (Nat.le_of_ble_eq_true rfl) (Nat.le_of_ble_eq_true rfl) ⟨(by rw [wa_r (p := (sp_shot σ a0 a1 a2 a3)) h31]), B9, τ9, hR9.thk 0⟩
  · rintro E μ9 z9 - ⟨⟨k, hk, hE⟩, rfl⟩
    rcases k with _ | _ | _ | k
    · cases hE
      refine v_catch o [] ⟨0, 9, 10, 23⟩ [⟨0, 9, 15, 14⟩, ⟨0, 9, 20, 17⟩] hex (fun y hy => by cases hy) rfl (by decide) cl_L_23 ca_O (fun q => ?_)
      refine v_astore [(6, .ref q), (0, .ref x), (1, .int a0), (2, .int a1), (3, .int a2), (4, .long a3)] o dL_shot_10 (by decide) rfl ?_
      refine v_ldc (-99999999) o dL_shot_12 ct_L_16 ?_
      exact v_iret o dL_shot_14 hr (Nat.le_of_ble_eq_true rfl) (Nat.le_of_ble_eq_true rfl) ⟨by rw [wa_t (p := (sp_shot σ a0 a1 a2 a3)) hk], B, τ, by rw [(hk : (sp_shot σ a0 a1 a2 a3).2 = _)]; exact (hR.thk _).thk 0⟩
    · cases hE
      refine v_catch o [⟨0, 9, 10, 23⟩] ⟨0, 9, 15, 14⟩ [⟨0, 9, 20, 17⟩] hex (by
          intro y hy
          simp only [List.mem_cons, List.not_mem_nil, or_false] at hy
          rcases hy with rfl
          · exact ⟨by decide, _, cl_L_23, by decide⟩) rfl (by decide) cl_L_14 ca_A (fun q => ?_)
      refine v_astore [(6, .ref q), (0, .ref x), (1, .int a0), (2, .int a1), (3, .int a2), (4, .long a3)] o dL_shot_15 (by decide) rfl ?_
      refine v_ldc (-99999999) o dL_shot_17 ct_L_16 ?_
      exact v_iret o dL_shot_19 hr (Nat.le_of_ble_eq_true rfl) (Nat.le_of_ble_eq_true rfl) ⟨by rw [wa_t (p := (sp_shot σ a0 a1 a2 a3)) hk], B, τ, by rw [(hk : (sp_shot σ a0 a1 a2 a3).2 = _)]; exact (hR.thk _).thk 0⟩
    · cases hE
      refine v_catch o [⟨0, 9, 10, 23⟩, ⟨0, 9, 15, 14⟩] ⟨0, 9, 20, 17⟩ [] hex (by
          intro y hy
          simp only [List.mem_cons, List.not_mem_nil, or_false] at hy
          rcases hy with rfl | rfl
          · exact ⟨by decide, _, cl_L_23, by decide⟩
          · exact ⟨by decide, _, cl_L_14, by decide⟩) rfl (by decide) cl_L_17 ca_S (fun q => ?_)
      refine v_astore [(6, .ref q), (0, .ref x), (1, .int a0), (2, .int a1), (3, .int a2), (4, .long a3)] o dL_shot_20 (by decide) rfl ?_
      refine v_ldc (-99999999) o dL_shot_22 ct_L_16 ?_
      exact v_iret o dL_shot_24 hr (Nat.le_of_ble_eq_true rfl) (Nat.le_of_ble_eq_true rfl) ⟨by rw [wa_t (p := (sp_shot σ a0 a1 a2 a3)) hk], B, τ, by rw [(hk : (sp_shot σ a0 a1 a2 a3).2 = _)]; exact (hR.thk _).thk 0⟩
    · cases hE

set_option maxRecDepth 100000 in
set_option maxHeartbeats 4000000 in
theorem l_look {l : Launch} (hl : l.stackTraces = false) {g : mG} {x z z0 : Nat} {B : Nat → Nat} {μ0 μ : mM} {σ τ : Sg} (hR : RC g x B z0 μ0 σ τ μ) (hI : Inv σ) (a0 : Int32) (a1 : Int32) : Ct l g yL_look [Cond.codeWith yL_look cL_look 4 (some .int) [(0, 14, 15, 23), (0, 14, 19, 17)]] { frames := 8, cells := 1, slots := 6, locals := 127 } [.ref x, .int a0, .int a1] μ z (lP g x z0 μ0 (.int (wa (sp_look σ a0 a1))) (th (sp_look σ a0 a1).2 0)) (noX) := by
  refine Ct.ofH hl (by decide +kernel) (Nat.le_of_ble_eq_true rfl) ?_
  intro p e s mi args below meth c o hnm hr hex
  have o : Ok p l s mi args meth c g cL_look 4 RL := o
  refine v_lv [(0, .ref x), (1, .int a0), (2, .int a1)] rfl ?_
  refine v_aload_n 0 o dL_look_0 rfl rfl ?_
  refine v_iload_n 1 o dL_look_1 rfl rfl ?_
  refine v_iload_n 2 o dL_look_2 rfl rfl ?_
  refine v_callV [.int a0, .int a1] [] o dL_look_3 cw_L_25 im_X5_look se_X5_look cf5 hR.h0 (k_look hl hR hI a0 a1) rfl rfl ⟨Nat.le_of_ble_eq_true rfl, Nat.le_of_ble_eq_true rfl⟩ ⟨Nat.le_of_ble_eq_true rfl, Nat.le_of_ble_eq_true rfl⟩ (Nat.le_of_ble_eq_true rfl) ?_ ?_
  · rintro r9 μ9 z9 - ⟨rfl, h31, B9, τ9, hR9⟩
    refine v_st [.int ((sp_look σ a0 a1).1)] rfl ?_
    refine v_if_eq 13 o dL_look_6 (by decide) (fun c6 => ?_) (fun c6 => ?_)
    · refine v_iconst 0 o dL_look_13 rfl ?_
      exact v_iret o dL_look_14 hr (Nat.le_of_ble_eq_true rfl) (Nat.le_of_ble_eq_true rfl) ⟨(by rw [wa_r (p := (sp_look σ a0 a1)) h31, (c6 : (sp_look σ a0 a1).1 = _)]; rfl), B9, τ9, hR9.thk 0⟩
    · refine v_iconst 1 o dL_look_9 rfl ?_
      refine v_goto 14 o dL_look_10 (by decide) ?_
      exact v_iret o dL_look_14 hr (Nat.le_of_ble_eq_true rfl) (Nat.le_of_ble_eq_true rfl) ⟨(by rw [wa_r (p := (sp_look σ a0 a1)) h31, ((bb_look σ a0 a1).resolve_left c6 : (sp_look σ a0 a1).1 = _)]; rfl), B9, τ9, hR9.thk 0⟩
  · rintro E μ9 z9 - ⟨⟨k, hk, hE⟩, rfl⟩
    rcases k with _ | _ | k
    · cases hE
      refine v_catch o [] ⟨0, 14, 15, 23⟩ [⟨0, 14, 19, 17⟩] hex (fun y hy => by cases hy) rfl (by decide) cl_L_23 ca_O (fun q => ?_)
      refine v_astore_n [(3, .ref q), (0, .ref x), (1, .int a0), (2, .int a1)] o dL_look_15 rfl (by decide) rfl ?_
      refine v_ldc (-99999999) o dL_look_16 ct_L_16 ?_
      exact v_iret o dL_look_18 hr (Nat.le_of_ble_eq_true rfl) (Nat.le_of_ble_eq_true rfl) ⟨by rw [wa_t (p := (sp_look σ a0 a1)) hk], B, τ, by rw [(hk : (sp_look σ a0 a1).2 = _)]; exact (hR.thk _).thk 0⟩
    · cases hE
      refine v_catch o [⟨0, 14, 15, 23⟩] ⟨0, 14, 19, 17⟩ [] hex (by
          intro y hy
          simp only [List.mem_cons, List.not_mem_nil, or_false] at hy
          rcases hy with rfl
          · exact ⟨by decide, _, cl_L_23, by decide⟩) rfl (by decide) cl_L_17 ca_S (fun q => ?_)
      refine v_astore_n [(3, .ref q), (0, .ref x), (1, .int a0), (2, .int a1)] o dL_look_19 rfl (by decide) rfl ?_
      refine v_ldc (-99999999) o dL_look_20 ct_L_16 ?_
      exact v_iret o dL_look_22 hr (Nat.le_of_ble_eq_true rfl) (Nat.le_of_ble_eq_true rfl) ⟨by rw [wa_t (p := (sp_look σ a0 a1)) hk], B, τ, by rw [(hk : (sp_look σ a0 a1).2 = _)]; exact (hR.thk _).thk 0⟩
    · cases hE

set_option maxRecDepth 100000 in
set_option maxHeartbeats 4000000 in
theorem l_rot {l : Launch} (hl : l.stackTraces = false) {g : mG} {x z z0 : Nat} {B : Nat → Nat} {μ0 μ : mM} {σ τ : Sg} (hR : RC g x B z0 μ0 σ τ μ) (hI : Inv σ) (a0 : Int32) (a1 : Int32) (a2 : Int32) (a3 : Int32) : Ct l g yL_rot [Cond.codeWith yL_rot cL_rot 6 (some .int) [(0, 17, 18, 23), (0, 17, 23, 14), (0, 17, 28, 17)]] { frames := 8, cells := 1, slots := 6, locals := 129 } [.ref x, .int a0, .int a1, .int a2, .int a3] μ z (lP g x z0 μ0 (.int (wa (sp_rot σ a0 a1 a2 a3))) (th (sp_rot σ a0 a1 a2 a3).2 0)) (noX) := by
  refine Ct.ofH hl (by decide +kernel) (Nat.le_of_ble_eq_true rfl) ?_
  intro p e s mi args below meth c o hnm hr hex
  have o : Ok p l s mi args meth c g cL_rot 6 RL := o
  refine v_lv [(0, .ref x), (1, .int a0), (2, .int a1), (3, .int a2), (4, .int a3)] rfl ?_
  refine v_aload_n 0 o dL_rot_0 rfl rfl ?_
  refine v_iload_n 1 o dL_rot_1 rfl rfl ?_
  refine v_iload_n 2 o dL_rot_2 rfl rfl ?_
  refine v_iload_n 3 o dL_rot_3 rfl rfl ?_
  refine v_iload 4 o dL_rot_4 rfl ?_
  refine v_callV [.int a0, .int a1, .int a2, .int a3] [] o dL_rot_6 cw_L_29 im_X5_rot se_X5_rot cf5 hR.h0 (k_rot hl hR hI a0 a1 a2 a3) rfl rfl ⟨Nat.le_of_ble_eq_true rfl, Nat.le_of_ble_eq_true rfl⟩ ⟨Nat.le_of_ble_eq_true rfl, Nat.le_of_ble_eq_true rfl⟩ (Nat.le_of_ble_eq_true rfl) ?_ ?_
  · rintro r9 μ9 z9 - ⟨rfl, h31, B9, τ9, hR9⟩
    refine v_st [.int ((sp_rot σ a0 a1 a2 a3).1)] rfl ?_
    refine v_if_eq 16 o dL_rot_9 (by decide) (fun c9 => ?_) (fun c9 => ?_)
    · refine v_iconst 0 o dL_rot_16 rfl ?_
      exact v_iret o dL_rot_17 hr (Nat.le_of_ble_eq_true rfl) (Nat.le_of_ble_eq_true rfl) ⟨(by rw [wa_r (p := (sp_rot σ a0 a1 a2 a3)) h31, (c9 : (sp_rot σ a0 a1 a2 a3).1 = _)]; rfl), B9, τ9, hR9.thk 0⟩
    · refine v_iconst 1 o dL_rot_12 rfl ?_
      refine v_goto 17 o dL_rot_13 (by decide) ?_
      exact v_iret o dL_rot_17 hr (Nat.le_of_ble_eq_true rfl) (Nat.le_of_ble_eq_true rfl) ⟨(by rw [wa_r (p := (sp_rot σ a0 a1 a2 a3)) h31, ((bb_rot σ a0 a1 a2 a3).resolve_left c9 : (sp_rot σ a0 a1 a2 a3).1 = _)]; rfl), B9, τ9, hR9.thk 0⟩
  · rintro E μ9 z9 - ⟨⟨k, hk, hE⟩, rfl⟩
    rcases k with _ | _ | _ | k
    · cases hE
      refine v_catch o [] ⟨0, 17, 18, 23⟩ [⟨0, 17, 23, 14⟩, ⟨0, 17, 28, 17⟩] hex (fun y hy => by cases hy) rfl (by decide) cl_L_23 ca_O (fun q => ?_)
      refine v_astore [(5, .ref q), (0, .ref x), (1, .int a0), (2, .int a1), (3, .int a2), (4, .int a3)] o dL_rot_18 (by decide) rfl ?_
      refine v_ldc (-99999999) o dL_rot_20 ct_L_16 ?_
      exact v_iret o dL_rot_22 hr (Nat.le_of_ble_eq_true rfl) (Nat.le_of_ble_eq_true rfl) ⟨by rw [wa_t (p := (sp_rot σ a0 a1 a2 a3)) hk], B, τ, by rw [(hk : (sp_rot σ a0 a1 a2 a3).2 = _)]; exact (hR.thk _).thk 0⟩
    · cases hE
      refine v_catch o [⟨0, 17, 18, 23⟩] ⟨0, 17, 23, 14⟩ [⟨0, 17, 28, 17⟩] hex (by
          intro y hy
          simp only [List.mem_cons, List.not_mem_nil, or_false] at hy
          rcases hy with rfl
          · exact ⟨by decide, _, cl_L_23, by decide⟩) rfl (by decide) cl_L_14 ca_A (fun q => ?_)
      refine v_astore [(5, .ref q), (0, .ref x), (1, .int a0), (2, .int a1), (3, .int a2), (4, .int a3)] o dL_rot_23 (by decide) rfl ?_
      refine v_ldc (-99999999) o dL_rot_25 ct_L_16 ?_
      exact v_iret o dL_rot_27 hr (Nat.le_of_ble_eq_true rfl) (Nat.le_of_ble_eq_true rfl) ⟨by rw [wa_t (p := (sp_rot σ a0 a1 a2 a3)) hk], B, τ, by rw [(hk : (sp_rot σ a0 a1 a2 a3).2 = _)]; exact (hR.thk _).thk 0⟩
    · cases hE
      refine v_catch o [⟨0, 17, 18, 23⟩, ⟨0, 17, 23, 14⟩] ⟨0, 17, 28, 17⟩ [] hex (by
          intro y hy
          simp only [List.mem_cons, List.not_mem_nil, or_false] at hy
          rcases hy with rfl | rfl
          · exact ⟨by decide, _, cl_L_23, by decide⟩
          · exact ⟨by decide, _, cl_L_14, by decide⟩) rfl (by decide) cl_L_17 ca_S (fun q => ?_)
      refine v_astore [(5, .ref q), (0, .ref x), (1, .int a0), (2, .int a1), (3, .int a2), (4, .int a3)] o dL_rot_28 (by decide) rfl ?_
      refine v_ldc (-99999999) o dL_rot_30 ct_L_16 ?_
      exact v_iret o dL_rot_32 hr (Nat.le_of_ble_eq_true rfl) (Nat.le_of_ble_eq_true rfl) ⟨by rw [wa_t (p := (sp_rot σ a0 a1 a2 a3)) hk], B, τ, by rw [(hk : (sp_rot σ a0 a1 a2 a3).2 = _)]; exact (hR.thk _).thk 0⟩
    · cases hE

set_option maxRecDepth 100000 in
set_option maxHeartbeats 4000000 in
theorem l_burn {l : Launch} (hl : l.stackTraces = false) {g : mG} {x z z0 : Nat} {B : Nat → Nat} {μ0 μ : mM} {σ τ : Sg} (hR : RC g x B z0 μ0 σ τ μ) (hI : Inv σ) (a0 : Int32) : Ct l g yL_burn [Cond.codeWith yL_burn cL_burn 3 (some .int) [(0, 5, 6, 23), (0, 5, 10, 17)]] { frames := 9, cells := 1, slots := 6, locals := 149 } [.ref x, .int a0] μ z (lP g x z0 μ0 (.int (wa (sp_burn σ a0))) (th (sp_burn σ a0).2 0)) (noX) := by
  refine Ct.ofH hl (by decide +kernel) (Nat.le_of_ble_eq_true rfl) ?_
  intro p e s mi args below meth c o hnm hr hex
  have o : Ok p l s mi args meth c g cL_burn 3 RL := o
  refine v_lv [(0, .ref x), (1, .int a0)] rfl ?_
  refine v_aload_n 0 o dL_burn_0 rfl rfl ?_
  refine v_iload_n 1 o dL_burn_1 rfl rfl ?_
  refine v_callV [.int a0] [] o dL_burn_2 cw_L_33 im_X5_burn se_X5_burn cf5 hR.h0 (k_burn hl hR hI a0) rfl rfl ⟨Nat.le_of_ble_eq_true rfl, Nat.le_of_ble_eq_true rfl⟩ ⟨Nat.le_of_ble_eq_true rfl, Nat.le_of_ble_eq_true rfl⟩ (Nat.le_of_ble_eq_true rfl) ?_ ?_
  · rintro r9 μ9 z9 - ⟨rfl, h31, B9, τ9, hR9⟩
    refine v_st [.int ((sp_burn σ a0).1)] rfl ?_
    exact v_iret o dL_burn_5 hr (Nat.le_of_ble_eq_true rfl) (Nat.le_of_ble_eq_true rfl) ⟨(by rw [wa_r (p := (sp_burn σ a0)) h31]), B9, τ9, hR9.thk 0⟩
  · rintro E μ9 z9 - ⟨⟨k, hk, hE⟩, rfl⟩
    rcases k with _ | _ | k
    · cases hE
      refine v_catch o [] ⟨0, 5, 6, 23⟩ [⟨0, 5, 10, 17⟩] hex (fun y hy => by cases hy) rfl (by decide) cl_L_23 ca_O (fun q => ?_)
      refine v_astore_n [(2, .ref q), (0, .ref x), (1, .int a0)] o dL_burn_6 rfl (by decide) rfl ?_
      refine v_ldc (-99999999) o dL_burn_7 ct_L_16 ?_
      exact v_iret o dL_burn_9 hr (Nat.le_of_ble_eq_true rfl) (Nat.le_of_ble_eq_true rfl) ⟨by rw [wa_t (p := (sp_burn σ a0)) hk], B, τ, by rw [(hk : (sp_burn σ a0).2 = _)]; exact (hR.thk _).thk 0⟩
    · cases hE
      refine v_catch o [⟨0, 5, 6, 23⟩] ⟨0, 5, 10, 17⟩ [] hex (by
          intro y hy
          simp only [List.mem_cons, List.not_mem_nil, or_false] at hy
          rcases hy with rfl
          · exact ⟨by decide, _, cl_L_23, by decide⟩) rfl (by decide) cl_L_17 ca_S (fun q => ?_)
      refine v_astore_n [(2, .ref q), (0, .ref x), (1, .int a0)] o dL_burn_10 rfl (by decide) rfl ?_
      refine v_ldc (-99999999) o dL_burn_11 ct_L_16 ?_
      exact v_iret o dL_burn_13 hr (Nat.le_of_ble_eq_true rfl) (Nat.le_of_ble_eq_true rfl) ⟨by rw [wa_t (p := (sp_burn σ a0)) hk], B, τ, by rw [(hk : (sp_burn σ a0).2 = _)]; exact (hR.thk _).thk 0⟩
    · cases hE

set_option maxRecDepth 100000 in
set_option maxHeartbeats 4000000 in
theorem l_build {l : Launch} (hl : l.stackTraces = false) {g : mG} {x z z0 : Nat} {B : Nat → Nat} {μ0 μ : mM} {σ τ : Sg} (hR : RC g x B z0 μ0 σ τ μ) (hI : Inv σ) (a0 : Int32) : Ct l g yL_build [Cond.codeWith yL_build cL_build 3 (some .int) [(0, 6, 7, 23), (0, 6, 11, 17)]] { frames := 8, cells := 1, slots := 6, locals := 123 } [.ref x, .int a0] μ z (lP g x z0 μ0 (.int (wa (0, sp_build σ a0))) (th (0, sp_build σ a0).2 0)) (noX) := by
  refine Ct.ofH hl (by decide +kernel) (Nat.le_of_ble_eq_true rfl) ?_
  intro p e s mi args below meth c o hnm hr hex
  have o : Ok p l s mi args meth c g cL_build 3 RL := o
  refine v_lv [(0, .ref x), (1, .int a0)] rfl ?_
  refine v_aload_n 0 o dL_build_0 rfl rfl ?_
  refine v_iload_n 1 o dL_build_1 rfl rfl ?_
  refine v_callV [.int a0] [] o dL_build_2 cw_L_37 im_X5_build se_X5_build cf5 hR.h0 (k_build hl hR hI a0) rfl rfl ⟨Nat.le_of_ble_eq_true rfl, Nat.le_of_ble_eq_true rfl⟩ ⟨Nat.le_of_ble_eq_true rfl, Nat.le_of_ble_eq_true rfl⟩ (Nat.le_of_ble_eq_true rfl) ?_ ?_
  · rintro r9 μ9 z9 - ⟨rfl, h31, B9, τ9, hR9⟩
    refine v_st [] rfl ?_
    refine v_iconst 0 o dL_build_5 rfl ?_
    exact v_iret o dL_build_6 hr (Nat.le_of_ble_eq_true rfl) (Nat.le_of_ble_eq_true rfl) ⟨(by rw [wa_r (p := (0, sp_build σ a0)) h31]; rfl), B9, τ9, hR9.thk 0⟩
  · rintro E μ9 z9 - ⟨⟨k, hk, hE⟩, rfl⟩
    rcases k with _ | _ | k
    · cases hE
      refine v_catch o [] ⟨0, 6, 7, 23⟩ [⟨0, 6, 11, 17⟩] hex (fun y hy => by cases hy) rfl (by decide) cl_L_23 ca_O (fun q => ?_)
      refine v_astore_n [(2, .ref q), (0, .ref x), (1, .int a0)] o dL_build_7 rfl (by decide) rfl ?_
      refine v_ldc (-99999999) o dL_build_8 ct_L_16 ?_
      exact v_iret o dL_build_10 hr (Nat.le_of_ble_eq_true rfl) (Nat.le_of_ble_eq_true rfl) ⟨by rw [wa_t (p := (0, sp_build σ a0)) hk], B, τ, by rw [(hk : (0, sp_build σ a0).2 = _)]; exact (hR.thk _).thk 0⟩
    · cases hE
      refine v_catch o [⟨0, 6, 7, 23⟩] ⟨0, 6, 11, 17⟩ [] hex (by
          intro y hy
          simp only [List.mem_cons, List.not_mem_nil, or_false] at hy
          rcases hy with rfl
          · exact ⟨by decide, _, cl_L_23, by decide⟩) rfl (by decide) cl_L_17 ca_S (fun q => ?_)
      refine v_astore_n [(2, .ref q), (0, .ref x), (1, .int a0)] o dL_build_11 rfl (by decide) rfl ?_
      refine v_ldc (-99999999) o dL_build_12 ct_L_16 ?_
      exact v_iret o dL_build_14 hr (Nat.le_of_ble_eq_true rfl) (Nat.le_of_ble_eq_true rfl) ⟨by rw [wa_t (p := (0, sp_build σ a0)) hk], B, τ, by rw [(hk : (0, sp_build σ a0).2 = _)]; exact (hR.thk _).thk 0⟩
    · cases hE

set_option maxRecDepth 100000 in
set_option maxHeartbeats 4000000 in
theorem l_check {l : Launch} (hl : l.stackTraces = false) {g : mG} {x z z0 : Nat} {B : Nat → Nat} {μ0 μ : mM} {σ τ : Sg} (hR : RC g x B z0 μ0 σ τ μ) (hI : Inv σ) (a0 : Int32) (a1 : Int32) : Ct l g yL_check [Cond.codeWith yL_check cL_check 4 (some .int) [(0, 6, 7, 23)]] { frames := 8, cells := 1, slots := 6, locals := 127 } [.ref x, .int a0, .int a1] μ z (lP g x z0 μ0 (.int (wa (sp_check σ a0 a1))) (th (sp_check σ a0 a1).2 0)) (noX) := by
  refine Ct.ofH hl (by decide +kernel) (Nat.le_of_ble_eq_true rfl) ?_
  intro p e s mi args below meth c o hnm hr hex
  have o : Ok p l s mi args meth c g cL_check 4 RL := o
  refine v_lv [(0, .ref x), (1, .int a0), (2, .int a1)] rfl ?_
  refine v_aload_n 0 o dL_check_0 rfl rfl ?_
  refine v_iload_n 1 o dL_check_1 rfl rfl ?_
  refine v_iload_n 2 o dL_check_2 rfl rfl ?_
  refine v_callV [.int a0, .int a1] [] o dL_check_3 cw_L_41 im_X5_check se_X5_check cf5 hR.h0 (k_check hl hR hI a0 a1) rfl rfl ⟨Nat.le_of_ble_eq_true rfl, Nat.le_of_ble_eq_true rfl⟩ ⟨Nat.le_of_ble_eq_true rfl, Nat.le_of_ble_eq_true rfl⟩ (Nat.le_of_ble_eq_true rfl) ?_ ?_
  · rintro r9 μ9 z9 - ⟨rfl, h31, B9, τ9, hR9⟩
    refine v_st [.int ((sp_check σ a0 a1).1)] rfl ?_
    exact v_iret o dL_check_6 hr (Nat.le_of_ble_eq_true rfl) (Nat.le_of_ble_eq_true rfl) ⟨(by rw [wa_r (p := (sp_check σ a0 a1)) h31]), B9, τ9, hR9.thk 0⟩
  · rintro E μ9 z9 - ⟨⟨k, hk, hE⟩, rfl⟩
    rcases k with _ | k
    · cases hE
      refine v_catch o [] ⟨0, 6, 7, 23⟩ [] hex (fun y hy => by cases hy) rfl (by decide) cl_L_23 ca_O (fun q => ?_)
      refine v_astore_n [(3, .ref q), (0, .ref x), (1, .int a0), (2, .int a1)] o dL_check_7 rfl (by decide) rfl ?_
      refine v_ldc (-99999999) o dL_check_8 ct_L_16 ?_
      exact v_iret o dL_check_10 hr (Nat.le_of_ble_eq_true rfl) (Nat.le_of_ble_eq_true rfl) ⟨by rw [wa_t (p := (sp_check σ a0 a1)) hk], B, τ, by rw [(hk : (sp_check σ a0 a1).2 = _)]; exact (hR.thk _).thk 0⟩
    · cases hE

set_option maxRecDepth 100000 in
set_option maxHeartbeats 4000000 in
theorem l_mend {l : Launch} (hl : l.stackTraces = false) {g : mG} {x z z0 : Nat} {B : Nat → Nat} {μ0 μ : mM} {σ τ : Sg} (hR : RC g x B z0 μ0 σ τ μ) (hI : Inv σ) (a0 : Int32) (a1 : Int32) : Ct l g yL_mend [Cond.codeWith yL_mend cL_mend 4 (some .int) [(0, 6, 7, 23), (0, 6, 11, 17)]] { frames := 9, cells := 1, slots := 6, locals := 151 } [.ref x, .int a0, .int a1] μ z (lP g x z0 μ0 (.int (wa (sp_mend σ a0 a1))) (th (sp_mend σ a0 a1).2 0)) (noX) := by
  refine Ct.ofH hl (by decide +kernel) (Nat.le_of_ble_eq_true rfl) ?_
  intro p e s mi args below meth c o hnm hr hex
  have o : Ok p l s mi args meth c g cL_mend 4 RL := o
  refine v_lv [(0, .ref x), (1, .int a0), (2, .int a1)] rfl ?_
  refine v_aload_n 0 o dL_mend_0 rfl rfl ?_
  refine v_iload_n 1 o dL_mend_1 rfl rfl ?_
  refine v_iload_n 2 o dL_mend_2 rfl rfl ?_
  refine v_callV [.int a0, .int a1] [] o dL_mend_3 cw_L_45 im_X5_mend se_X5_mend cf5 hR.h0 (k_mend hl hR hI a0 a1) rfl rfl ⟨Nat.le_of_ble_eq_true rfl, Nat.le_of_ble_eq_true rfl⟩ ⟨Nat.le_of_ble_eq_true rfl, Nat.le_of_ble_eq_true rfl⟩ (Nat.le_of_ble_eq_true rfl) ?_ ?_
  · rintro r9 μ9 z9 - ⟨rfl, h31, B9, τ9, hR9⟩
    refine v_st [.int ((sp_mend σ a0 a1).1)] rfl ?_
    exact v_iret o dL_mend_6 hr (Nat.le_of_ble_eq_true rfl) (Nat.le_of_ble_eq_true rfl) ⟨(by rw [wa_r (p := (sp_mend σ a0 a1)) h31]), B9, τ9, hR9.thk 0⟩
  · rintro E μ9 z9 - ⟨⟨k, hk, hE⟩, rfl⟩
    rcases k with _ | _ | k
    · cases hE
      refine v_catch o [] ⟨0, 6, 7, 23⟩ [⟨0, 6, 11, 17⟩] hex (fun y hy => by cases hy) rfl (by decide) cl_L_23 ca_O (fun q => ?_)
      refine v_astore_n [(3, .ref q), (0, .ref x), (1, .int a0), (2, .int a1)] o dL_mend_7 rfl (by decide) rfl ?_
      refine v_ldc (-99999999) o dL_mend_8 ct_L_16 ?_
      exact v_iret o dL_mend_10 hr (Nat.le_of_ble_eq_true rfl) (Nat.le_of_ble_eq_true rfl) ⟨by rw [wa_t (p := (sp_mend σ a0 a1)) hk], B, τ, by rw [(hk : (sp_mend σ a0 a1).2 = _)]; exact (hR.thk _).thk 0⟩
    · cases hE
      refine v_catch o [⟨0, 6, 7, 23⟩] ⟨0, 6, 11, 17⟩ [] hex (by
          intro y hy
          simp only [List.mem_cons, List.not_mem_nil, or_false] at hy
          rcases hy with rfl
          · exact ⟨by decide, _, cl_L_23, by decide⟩) rfl (by decide) cl_L_17 ca_S (fun q => ?_)
      refine v_astore_n [(3, .ref q), (0, .ref x), (1, .int a0), (2, .int a1)] o dL_mend_11 rfl (by decide) rfl ?_
      refine v_ldc (-99999999) o dL_mend_12 ct_L_16 ?_
      exact v_iret o dL_mend_14 hr (Nat.le_of_ble_eq_true rfl) (Nat.le_of_ble_eq_true rfl) ⟨by rw [wa_t (p := (sp_mend σ a0 a1)) hk], B, τ, by rw [(hk : (sp_mend σ a0 a1).2 = _)]; exact (hR.thk _).thk 0⟩
    · cases hE

set_option maxRecDepth 100000 in
set_option maxHeartbeats 4000000 in
theorem l_copy {l : Launch} (hl : l.stackTraces = false) {g : mG} {x z z0 : Nat} {B : Nat → Nat} {μ0 μ : mM} {σ τ : Sg} (hR : RC g x B z0 μ0 σ τ μ) (hI : Inv σ) (a0 : Int32) (a1 : Int32) (a2 : Int32) : Ct l g yL_copy [Cond.codeWith yL_copy cL_copy 5 (some .long) [(0, 7, 8, 23), (0, 7, 14, 17)]] { frames := 8, cells := 1, slots := 6, locals := 128 } [.ref x, .int a0, .int a1, .int a2] μ z (lP g x z0 μ0 (.long (wl (sp_copy σ a0 a1 a2))) (th (sp_copy σ a0 a1 a2).2 0)) (noX) := by
  refine Ct.ofH hl (by decide +kernel) (Nat.le_of_ble_eq_true rfl) ?_
  intro p e s mi args below meth c o hnm hr hex
  have o : Ok p l s mi args meth c g cL_copy 5 RL := o
  refine v_lv [(0, .ref x), (1, .int a0), (2, .int a1), (3, .int a2)] rfl ?_
  refine v_aload_n 0 o dL_copy_0 rfl rfl ?_
  refine v_iload_n 1 o dL_copy_1 rfl rfl ?_
  refine v_iload_n 2 o dL_copy_2 rfl rfl ?_
  refine v_iload_n 3 o dL_copy_3 rfl rfl ?_
  refine v_callV [.int a0, .int a1, .int a2] [] o dL_copy_4 cw_L_48 im_X5_copy se_X5_copy cf5 hR.h0 (k_copy hl hR hI a0 a1 a2) rfl rfl ⟨Nat.le_of_ble_eq_true rfl, Nat.le_of_ble_eq_true rfl⟩ ⟨Nat.le_of_ble_eq_true rfl, Nat.le_of_ble_eq_true rfl⟩ (Nat.le_of_ble_eq_true rfl) ?_ ?_
  · rintro r9 μ9 z9 - ⟨rfl, h31, B9, τ9, hR9⟩
    refine v_st [.long ((sp_copy σ a0 a1 a2).1)] rfl ?_
    exact v_lret o dL_copy_7 hr (Nat.le_of_ble_eq_true rfl) (Nat.le_of_ble_eq_true rfl) ⟨(by rw [wl_r (p := (sp_copy σ a0 a1 a2)) h31]), B9, τ9, hR9.thk 0⟩
  · rintro E μ9 z9 - ⟨⟨k, hk, hE⟩, rfl⟩
    rcases k with _ | _ | k
    · cases hE
      refine v_catch o [] ⟨0, 7, 8, 23⟩ [⟨0, 7, 14, 17⟩] hex (fun y hy => by cases hy) rfl (by decide) cl_L_23 ca_O (fun q => ?_)
      refine v_astore [(4, .ref q), (0, .ref x), (1, .int a0), (2, .int a1), (3, .int a2)] o dL_copy_8 (by decide) rfl ?_
      refine v_ldc2 (-9000000000000000) o dL_copy_10 ct_L_52 ?_
      exact v_lret o dL_copy_13 hr (Nat.le_of_ble_eq_true rfl) (Nat.le_of_ble_eq_true rfl) ⟨by rw [wl_t (p := (sp_copy σ a0 a1 a2)) hk], B, τ, by rw [(hk : (sp_copy σ a0 a1 a2).2 = _)]; exact (hR.thk _).thk 0⟩
    · cases hE
      refine v_catch o [⟨0, 7, 8, 23⟩] ⟨0, 7, 14, 17⟩ [] hex (by
          intro y hy
          simp only [List.mem_cons, List.not_mem_nil, or_false] at hy
          rcases hy with rfl
          · exact ⟨by decide, _, cl_L_23, by decide⟩) rfl (by decide) cl_L_17 ca_S (fun q => ?_)
      refine v_astore [(4, .ref q), (0, .ref x), (1, .int a0), (2, .int a1), (3, .int a2)] o dL_copy_14 (by decide) rfl ?_
      refine v_ldc2 (-9000000000000000) o dL_copy_16 ct_L_52 ?_
      exact v_lret o dL_copy_19 hr (Nat.le_of_ble_eq_true rfl) (Nat.le_of_ble_eq_true rfl) ⟨by rw [wl_t (p := (sp_copy σ a0 a1 a2)) hk], B, τ, by rw [(hk : (sp_copy σ a0 a1 a2).2 = _)]; exact (hR.thk _).thk 0⟩
    · cases hE

set_option maxRecDepth 100000 in
set_option maxHeartbeats 4000000 in
theorem l_isLost {l : Launch} (hl : l.stackTraces = false) {g : mG} {x z z0 : Nat} {B : Nat → Nat} {μ0 μ : mM} {σ τ : Sg} (hR : RC g x B z0 μ0 σ τ μ) (hI : Inv σ) (a0 : Int32) (a1 : Int32) : Ct l g yL_isLost [Cond.codeWith yL_isLost cL_isLost 4 (some .int) [(0, 14, 15, 23)]] { frames := 8, cells := 1, slots := 6, locals := 126 } [.ref x, .int a0, .int a1] μ z (lP g x z0 μ0 (.int (wa (sp_isLost σ a0 a1))) (th (sp_isLost σ a0 a1).2 0)) (noX) := by
  refine Ct.ofH hl (by decide +kernel) (Nat.le_of_ble_eq_true rfl) ?_
  intro p e s mi args below meth c o hnm hr hex
  have o : Ok p l s mi args meth c g cL_isLost 4 RL := o
  refine v_lv [(0, .ref x), (1, .int a0), (2, .int a1)] rfl ?_
  refine v_aload_n 0 o dL_isLost_0 rfl rfl ?_
  refine v_iload_n 1 o dL_isLost_1 rfl rfl ?_
  refine v_iload_n 2 o dL_isLost_2 rfl rfl ?_
  refine v_callV [.int a0, .int a1] [] o dL_isLost_3 cw_L_54 im_X5_isLost se_X5_isLost cf5 hR.h0 (k_isLost hl hR hI a0 a1) rfl rfl ⟨Nat.le_of_ble_eq_true rfl, Nat.le_of_ble_eq_true rfl⟩ ⟨Nat.le_of_ble_eq_true rfl, Nat.le_of_ble_eq_true rfl⟩ (Nat.le_of_ble_eq_true rfl) ?_ ?_
  · rintro r9 μ9 z9 - ⟨rfl, h31, B9, τ9, hR9⟩
    refine v_st [.int ((sp_isLost σ a0 a1).1)] rfl ?_
    refine v_if_eq 13 o dL_isLost_6 (by decide) (fun c6 => ?_) (fun c6 => ?_)
    · refine v_iconst 0 o dL_isLost_13 rfl ?_
      exact v_iret o dL_isLost_14 hr (Nat.le_of_ble_eq_true rfl) (Nat.le_of_ble_eq_true rfl) ⟨(by rw [wa_r (p := (sp_isLost σ a0 a1)) h31, (c6 : (sp_isLost σ a0 a1).1 = _)]; rfl), B9, τ9, hR9.thk 0⟩
    · refine v_iconst 1 o dL_isLost_9 rfl ?_
      refine v_goto 14 o dL_isLost_10 (by decide) ?_
      exact v_iret o dL_isLost_14 hr (Nat.le_of_ble_eq_true rfl) (Nat.le_of_ble_eq_true rfl) ⟨(by rw [wa_r (p := (sp_isLost σ a0 a1)) h31, ((bb_isLost σ a0 a1).resolve_left c6 : (sp_isLost σ a0 a1).1 = _)]; rfl), B9, τ9, hR9.thk 0⟩
  · rintro E μ9 z9 - ⟨⟨k, hk, hE⟩, rfl⟩
    rcases k with _ | k
    · cases hE
      refine v_catch o [] ⟨0, 14, 15, 23⟩ [] hex (fun y hy => by cases hy) rfl (by decide) cl_L_23 ca_O (fun q => ?_)
      refine v_astore_n [(3, .ref q), (0, .ref x), (1, .int a0), (2, .int a1)] o dL_isLost_15 rfl (by decide) rfl ?_
      refine v_ldc (-99999999) o dL_isLost_16 ct_L_16 ?_
      exact v_iret o dL_isLost_18 hr (Nat.le_of_ble_eq_true rfl) (Nat.le_of_ble_eq_true rfl) ⟨by rw [wa_t (p := (sp_isLost σ a0 a1)) hk], B, τ, by rw [(hk : (sp_isLost σ a0 a1).2 = _)]; exact (hR.thk _).thk 0⟩
    · cases hE

set_option maxRecDepth 100000 in
set_option maxHeartbeats 4000000 in
theorem l_words {l : Launch} (hl : l.stackTraces = false) {g : mG} {x z z0 : Nat} {B : Nat → Nat} {μ0 μ : mM} {σ τ : Sg} (hR : RC g x B z0 μ0 σ τ μ) (hI : Inv σ) (a0 : Int32) (a1 : Int32) (a2 : Int32) (a3 : Int32) : Ct l g yL_words [Cond.codeWith yL_words cL_words 6 (some .int) [(0, 10, 11, 23), (0, 10, 16, 14)]] { frames := 8, cells := 1, slots := 6, locals := 129 } [.ref x, .int a0, .int a1, .int a2, .int a3] μ z (lP g x z0 μ0 (.int (wa (0, sp_words σ a0 a1 a2 a3))) (th (0, sp_words σ a0 a1 a2 a3).2 0)) (noX) := by
  refine Ct.ofH hl (by decide +kernel) (Nat.le_of_ble_eq_true rfl) ?_
  intro p e s mi args below meth c o hnm hr hex
  have o : Ok p l s mi args meth c g cL_words 6 RL := o
  refine v_lv [(0, .ref x), (1, .int a0), (2, .int a1), (3, .int a2), (4, .int a3)] rfl ?_
  refine v_aload_n 0 o dL_words_0 rfl rfl ?_
  refine v_iload_n 1 o dL_words_1 rfl rfl ?_
  refine v_iload_n 2 o dL_words_2 rfl rfl ?_
  refine v_iload_n 3 o dL_words_3 rfl rfl ?_
  refine v_iload 4 o dL_words_4 rfl ?_
  refine v_callV [.int a0, .int a1, .int a2, .int a3] [] o dL_words_6 cw_L_57 im_X5_words se_X5_words cf5 hR.h0 (k_words hl hR hI a0 a1 a2 a3) rfl rfl ⟨Nat.le_of_ble_eq_true rfl, Nat.le_of_ble_eq_true rfl⟩ ⟨Nat.le_of_ble_eq_true rfl, Nat.le_of_ble_eq_true rfl⟩ (Nat.le_of_ble_eq_true rfl) ?_ ?_
  · rintro r9 μ9 z9 - ⟨rfl, h31, B9, τ9, hR9⟩
    refine v_st [] rfl ?_
    refine v_iconst 0 o dL_words_9 rfl ?_
    exact v_iret o dL_words_10 hr (Nat.le_of_ble_eq_true rfl) (Nat.le_of_ble_eq_true rfl) ⟨(by rw [wa_r (p := (0, sp_words σ a0 a1 a2 a3)) h31]; rfl), B9, τ9, hR9.thk 0⟩
  · rintro E μ9 z9 - ⟨⟨k, hk, hE⟩, rfl⟩
    rcases k with _ | _ | k
    · cases hE
      refine v_catch o [] ⟨0, 10, 11, 23⟩ [⟨0, 10, 16, 14⟩] hex (fun y hy => by cases hy) rfl (by decide) cl_L_23 ca_O (fun q => ?_)
      refine v_astore [(5, .ref q), (0, .ref x), (1, .int a0), (2, .int a1), (3, .int a2), (4, .int a3)] o dL_words_11 (by decide) rfl ?_
      refine v_ldc (-99999999) o dL_words_13 ct_L_16 ?_
      exact v_iret o dL_words_15 hr (Nat.le_of_ble_eq_true rfl) (Nat.le_of_ble_eq_true rfl) ⟨by rw [wa_t (p := (0, sp_words σ a0 a1 a2 a3)) hk], B, τ, by rw [(hk : (0, sp_words σ a0 a1 a2 a3).2 = _)]; exact (hR.thk _).thk 0⟩
    · cases hE
      refine v_catch o [⟨0, 10, 11, 23⟩] ⟨0, 10, 16, 14⟩ [] hex (by
          intro y hy
          simp only [List.mem_cons, List.not_mem_nil, or_false] at hy
          rcases hy with rfl
          · exact ⟨by decide, _, cl_L_23, by decide⟩) rfl (by decide) cl_L_14 ca_A (fun q => ?_)
      refine v_astore [(5, .ref q), (0, .ref x), (1, .int a0), (2, .int a1), (3, .int a2), (4, .int a3)] o dL_words_16 (by decide) rfl ?_
      refine v_ldc (-99999999) o dL_words_18 ct_L_16 ?_
      exact v_iret o dL_words_20 hr (Nat.le_of_ble_eq_true rfl) (Nat.le_of_ble_eq_true rfl) ⟨by rw [wa_t (p := (0, sp_words σ a0 a1 a2 a3)) hk], B, τ, by rw [(hk : (0, sp_words σ a0 a1 a2 a3).2 = _)]; exact (hR.thk _).thk 0⟩
    · cases hE

set_option maxRecDepth 100000 in
set_option maxHeartbeats 4000000 in
theorem l_order {l : Launch} (hl : l.stackTraces = false) {g : mG} {x z z0 : Nat} {B : Nat → Nat} {μ0 μ : mM} {σ τ : Sg} (hR : RC g x B z0 μ0 σ τ μ) (hI : Inv σ) (a0 : Int32) (a1 : Int32) : Ct l g yL_order [Cond.codeWith yL_order cL_order 4 (some .int) [(0, 6, 7, 23), (0, 6, 11, 17)]] { frames := 10, cells := 1, slots := 6, locals := 244 } [.ref x, .int a0, .int a1] μ z (lP g x z0 μ0 (.int (wa (sp_order σ a0 a1))) (th (sp_order σ a0 a1).2 0)) (noX) := by
  refine Ct.ofH hl (by decide +kernel) (Nat.le_of_ble_eq_true rfl) ?_
  intro p e s mi args below meth c o hnm hr hex
  have o : Ok p l s mi args meth c g cL_order 4 RL := o
  refine v_lv [(0, .ref x), (1, .int a0), (2, .int a1)] rfl ?_
  refine v_aload_n 0 o dL_order_0 rfl rfl ?_
  refine v_iload_n 1 o dL_order_1 rfl rfl ?_
  refine v_iload_n 2 o dL_order_2 rfl rfl ?_
  refine v_callV [.int a0, .int a1] [] o dL_order_3 cw_L_61 im_X5_order se_X5_order cf5 hR.h0 (k_order hl hR hI a0 a1) rfl rfl ⟨Nat.le_of_ble_eq_true rfl, Nat.le_of_ble_eq_true rfl⟩ ⟨Nat.le_of_ble_eq_true rfl, Nat.le_of_ble_eq_true rfl⟩ (Nat.le_of_ble_eq_true rfl) ?_ ?_
  · rintro r9 μ9 z9 - ⟨rfl, h31, B9, τ9, hR9⟩
    refine v_st [.int ((sp_order σ a0 a1).1)] rfl ?_
    exact v_iret o dL_order_6 hr (Nat.le_of_ble_eq_true rfl) (Nat.le_of_ble_eq_true rfl) ⟨(by rw [wa_r (p := (sp_order σ a0 a1)) h31]), B9, τ9, hR9.thk 0⟩
  · rintro E μ9 z9 - ⟨⟨k, hk, hE⟩, rfl⟩
    rcases k with _ | _ | k
    · cases hE
      refine v_catch o [] ⟨0, 6, 7, 23⟩ [⟨0, 6, 11, 17⟩] hex (fun y hy => by cases hy) rfl (by decide) cl_L_23 ca_O (fun q => ?_)
      refine v_astore_n [(3, .ref q), (0, .ref x), (1, .int a0), (2, .int a1)] o dL_order_7 rfl (by decide) rfl ?_
      refine v_ldc (-99999999) o dL_order_8 ct_L_16 ?_
      exact v_iret o dL_order_10 hr (Nat.le_of_ble_eq_true rfl) (Nat.le_of_ble_eq_true rfl) ⟨by rw [wa_t (p := (sp_order σ a0 a1)) hk], B, τ, by rw [(hk : (sp_order σ a0 a1).2 = _)]; exact (hR.thk _).thk 0⟩
    · cases hE
      refine v_catch o [⟨0, 6, 7, 23⟩] ⟨0, 6, 11, 17⟩ [] hex (by
          intro y hy
          simp only [List.mem_cons, List.not_mem_nil, or_false] at hy
          rcases hy with rfl
          · exact ⟨by decide, _, cl_L_23, by decide⟩) rfl (by decide) cl_L_17 ca_S (fun q => ?_)
      refine v_astore_n [(3, .ref q), (0, .ref x), (1, .int a0), (2, .int a1)] o dL_order_11 rfl (by decide) rfl ?_
      refine v_ldc (-99999999) o dL_order_12 ct_L_16 ?_
      exact v_iret o dL_order_14 hr (Nat.le_of_ble_eq_true rfl) (Nat.le_of_ble_eq_true rfl) ⟨by rw [wa_t (p := (sp_order σ a0 a1)) hk], B, τ, by rw [(hk : (sp_order σ a0 a1).2 = _)]; exact (hR.thk _).thk 0⟩
    · cases hE

set_option maxRecDepth 100000 in
set_option maxHeartbeats 4000000 in
theorem l_orderAnew {l : Launch} (hl : l.stackTraces = false) {g : mG} {x z z0 : Nat} {B : Nat → Nat} {μ0 μ : mM} {σ τ : Sg} (hR : RC g x B z0 μ0 σ τ μ) (hI : Inv σ) (a0 : Int32) (a1 : Int32) : Ct l g yL_orderAnew [Cond.codeWith yL_orderAnew cL_orderAnew 4 (some .int) [(0, 6, 7, 23), (0, 6, 11, 17)]] { frames := 9, cells := 1, slots := 6, locals := 150 } [.ref x, .int a0, .int a1] μ z (lP g x z0 μ0 (.int (wa (sp_order σ a0 a1))) (th (sp_order σ a0 a1).2 0)) (noX) := by
  refine Ct.ofH hl (by decide +kernel) (Nat.le_of_ble_eq_true rfl) ?_
  intro p e s mi args below meth c o hnm hr hex
  have o : Ok p l s mi args meth c g cL_orderAnew 4 RL := o
  refine v_lv [(0, .ref x), (1, .int a0), (2, .int a1)] rfl ?_
  refine v_aload_n 0 o dL_orderAnew_0 rfl rfl ?_
  refine v_iload_n 1 o dL_orderAnew_1 rfl rfl ?_
  refine v_iload_n 2 o dL_orderAnew_2 rfl rfl ?_
  refine v_callV [.int a0, .int a1] [] o dL_orderAnew_3 cw_L_64 im_X5_orderAnew se_X5_orderAnew cf5 hR.h0 (k_orderAnew hl hR hI a0 a1) rfl rfl ⟨Nat.le_of_ble_eq_true rfl, Nat.le_of_ble_eq_true rfl⟩ ⟨Nat.le_of_ble_eq_true rfl, Nat.le_of_ble_eq_true rfl⟩ (Nat.le_of_ble_eq_true rfl) ?_ ?_
  · rintro r9 μ9 z9 - ⟨rfl, h31, B9, τ9, hR9⟩
    refine v_st [.int ((sp_order σ a0 a1).1)] rfl ?_
    exact v_iret o dL_orderAnew_6 hr (Nat.le_of_ble_eq_true rfl) (Nat.le_of_ble_eq_true rfl) ⟨(by rw [wa_r (p := (sp_order σ a0 a1)) h31]), B9, τ9, hR9.thk 0⟩
  · rintro E μ9 z9 - ⟨⟨k, hk, hE⟩, rfl⟩
    rcases k with _ | _ | k
    · cases hE
      refine v_catch o [] ⟨0, 6, 7, 23⟩ [⟨0, 6, 11, 17⟩] hex (fun y hy => by cases hy) rfl (by decide) cl_L_23 ca_O (fun q => ?_)
      refine v_astore_n [(3, .ref q), (0, .ref x), (1, .int a0), (2, .int a1)] o dL_orderAnew_7 rfl (by decide) rfl ?_
      refine v_ldc (-99999999) o dL_orderAnew_8 ct_L_16 ?_
      exact v_iret o dL_orderAnew_10 hr (Nat.le_of_ble_eq_true rfl) (Nat.le_of_ble_eq_true rfl) ⟨by rw [wa_t (p := (sp_order σ a0 a1)) hk], B, τ, by rw [(hk : (sp_order σ a0 a1).2 = _)]; exact (hR.thk _).thk 0⟩
    · cases hE
      refine v_catch o [⟨0, 6, 7, 23⟩] ⟨0, 6, 11, 17⟩ [] hex (by
          intro y hy
          simp only [List.mem_cons, List.not_mem_nil, or_false] at hy
          rcases hy with rfl
          · exact ⟨by decide, _, cl_L_23, by decide⟩) rfl (by decide) cl_L_17 ca_S (fun q => ?_)
      refine v_astore_n [(3, .ref q), (0, .ref x), (1, .int a0), (2, .int a1)] o dL_orderAnew_11 rfl (by decide) rfl ?_
      refine v_ldc (-99999999) o dL_orderAnew_12 ct_L_16 ?_
      exact v_iret o dL_orderAnew_14 hr (Nat.le_of_ble_eq_true rfl) (Nat.le_of_ble_eq_true rfl) ⟨by rw [wa_t (p := (sp_order σ a0 a1)) hk], B, τ, by rw [(hk : (sp_order σ a0 a1).2 = _)]; exact (hR.thk _).thk 0⟩
    · cases hE

set_option maxRecDepth 100000 in
set_option maxHeartbeats 4000000 in
theorem l_gold {l : Launch} (hl : l.stackTraces = false) {g : mG} {x z z0 : Nat} {B : Nat → Nat} {μ0 μ : mM} {σ τ : Sg} (hR : RC g x B z0 μ0 σ τ μ) (hI : Inv σ) (a0 : Int32) (a1 : Int32) (a2 : Int32) (a3 : Int32) : Ct l g yL_gold [Cond.codeWith yL_gold cL_gold 6 (some .int) [(0, 9, 10, 23), (0, 9, 15, 14)]] { frames := 8, cells := 1, slots := 6, locals := 130 } [.ref x, .int a0, .int a1, .int a2, .int a3] μ z (lP g x z0 μ0 (.int (wa (sp_gold σ a0 a1 a2 a3))) (th (sp_gold σ a0 a1 a2 a3).2 0)) (noX) := by
  refine Ct.ofH hl (by decide +kernel) (Nat.le_of_ble_eq_true rfl) ?_
  intro p e s mi args below meth c o hnm hr hex
  have o : Ok p l s mi args meth c g cL_gold 6 RL := o
  refine v_lv [(0, .ref x), (1, .int a0), (2, .int a1), (3, .int a2), (4, .int a3)] rfl ?_
  refine v_aload_n 0 o dL_gold_0 rfl rfl ?_
  refine v_iload_n 1 o dL_gold_1 rfl rfl ?_
  refine v_iload_n 2 o dL_gold_2 rfl rfl ?_
  refine v_iload_n 3 o dL_gold_3 rfl rfl ?_
  refine v_iload 4 o dL_gold_4 rfl ?_
  refine v_callV [.int a0, .int a1, .int a2, .int a3] [] o dL_gold_6 cw_L_67 im_X5_gold se_X5_gold cf5 hR.h0 (k_gold hl hR hI a0 a1 a2 a3) rfl rfl ⟨Nat.le_of_ble_eq_true rfl, Nat.le_of_ble_eq_true rfl⟩ ⟨Nat.le_of_ble_eq_true rfl, Nat.le_of_ble_eq_true rfl⟩ (Nat.le_of_ble_eq_true rfl) ?_ ?_
  · rintro r9 μ9 z9 - ⟨rfl, h31, B9, τ9, hR9⟩
    refine v_st [.int ((sp_gold σ a0 a1 a2 a3).1)] rfl ?_
    exact v_iret o dL_gold_9 hr (Nat.le_of_ble_eq_true rfl) (Nat.le_of_ble_eq_true rfl) ⟨(by rw [wa_r (p := (sp_gold σ a0 a1 a2 a3)) h31]), B9, τ9, hR9.thk 0⟩
  · rintro E μ9 z9 - ⟨⟨k, hk, hE⟩, rfl⟩
    rcases k with _ | _ | k
    · cases hE
      refine v_catch o [] ⟨0, 9, 10, 23⟩ [⟨0, 9, 15, 14⟩] hex (fun y hy => by cases hy) rfl (by decide) cl_L_23 ca_O (fun q => ?_)
      refine v_astore [(5, .ref q), (0, .ref x), (1, .int a0), (2, .int a1), (3, .int a2), (4, .int a3)] o dL_gold_10 (by decide) rfl ?_
      refine v_ldc (-99999999) o dL_gold_12 ct_L_16 ?_
      exact v_iret o dL_gold_14 hr (Nat.le_of_ble_eq_true rfl) (Nat.le_of_ble_eq_true rfl) ⟨by rw [wa_t (p := (sp_gold σ a0 a1 a2 a3)) hk], B, τ, by rw [(hk : (sp_gold σ a0 a1 a2 a3).2 = _)]; exact (hR.thk _).thk 0⟩
    · cases hE
      refine v_catch o [⟨0, 9, 10, 23⟩] ⟨0, 9, 15, 14⟩ [] hex (by
          intro y hy
          simp only [List.mem_cons, List.not_mem_nil, or_false] at hy
          rcases hy with rfl
          · exact ⟨by decide, _, cl_L_23, by decide⟩) rfl (by decide) cl_L_14 ca_A (fun q => ?_)
      refine v_astore [(5, .ref q), (0, .ref x), (1, .int a0), (2, .int a1), (3, .int a2), (4, .int a3)] o dL_gold_15 (by decide) rfl ?_
      refine v_ldc (-99999999) o dL_gold_17 ct_L_16 ?_
      exact v_iret o dL_gold_19 hr (Nat.le_of_ble_eq_true rfl) (Nat.le_of_ble_eq_true rfl) ⟨by rw [wa_t (p := (sp_gold σ a0 a1 a2 a3)) hk], B, τ, by rw [(hk : (sp_gold σ a0 a1 a2 a3).2 = _)]; exact (hR.thk _).thk 0⟩
    · cases hE

set_option maxRecDepth 100000 in
set_option maxHeartbeats 4000000 in
theorem l_key {l : Launch} (hl : l.stackTraces = false) {g : mG} {x z z0 : Nat} {B : Nat → Nat} {μ0 μ : mM} {σ τ : Sg} (hR : RC g x B z0 μ0 σ τ μ) (hI : Inv σ) (a0 : Int32) (a1 : Int32) (a2 : Int32) (a3 : Int32) (a4 : Int32) : Ct l g yL_key [Cond.codeWith yL_key cL_key 7 (some .int) [(0, 11, 12, 23), (0, 11, 17, 14)]] { frames := 8, cells := 1, slots := 6, locals := 131 } [.ref x, .int a0, .int a1, .int a2, .int a3, .int a4] μ z (lP g x z0 μ0 (.int (wa (sp_key σ a0 a1 a2 a3 a4))) (th (sp_key σ a0 a1 a2 a3 a4).2 0)) (noX) := by
  refine Ct.ofH hl (by decide +kernel) (Nat.le_of_ble_eq_true rfl) ?_
  intro p e s mi args below meth c o hnm hr hex
  have o : Ok p l s mi args meth c g cL_key 7 RL := o
  refine v_lv [(0, .ref x), (1, .int a0), (2, .int a1), (3, .int a2), (4, .int a3), (5, .int a4)] rfl ?_
  refine v_aload_n 0 o dL_key_0 rfl rfl ?_
  refine v_iload_n 1 o dL_key_1 rfl rfl ?_
  refine v_iload_n 2 o dL_key_2 rfl rfl ?_
  refine v_iload_n 3 o dL_key_3 rfl rfl ?_
  refine v_iload 4 o dL_key_4 rfl ?_
  refine v_iload 5 o dL_key_6 rfl ?_
  refine v_callV [.int a0, .int a1, .int a2, .int a3, .int a4] [] o dL_key_8 cw_L_71 im_X5_key se_X5_key cf5 hR.h0 (k_key hl hR hI a0 a1 a2 a3 a4) rfl rfl ⟨Nat.le_of_ble_eq_true rfl, Nat.le_of_ble_eq_true rfl⟩ ⟨Nat.le_of_ble_eq_true rfl, Nat.le_of_ble_eq_true rfl⟩ (Nat.le_of_ble_eq_true rfl) ?_ ?_
  · rintro r9 μ9 z9 - ⟨rfl, h31, B9, τ9, hR9⟩
    refine v_st [.int ((sp_key σ a0 a1 a2 a3 a4).1)] rfl ?_
    exact v_iret o dL_key_11 hr (Nat.le_of_ble_eq_true rfl) (Nat.le_of_ble_eq_true rfl) ⟨(by rw [wa_r (p := (sp_key σ a0 a1 a2 a3 a4)) h31]), B9, τ9, hR9.thk 0⟩
  · rintro E μ9 z9 - ⟨⟨k, hk, hE⟩, rfl⟩
    rcases k with _ | _ | k
    · cases hE
      refine v_catch o [] ⟨0, 11, 12, 23⟩ [⟨0, 11, 17, 14⟩] hex (fun y hy => by cases hy) rfl (by decide) cl_L_23 ca_O (fun q => ?_)
      refine v_astore [(6, .ref q), (0, .ref x), (1, .int a0), (2, .int a1), (3, .int a2), (4, .int a3), (5, .int a4)] o dL_key_12 (by decide) rfl ?_
      refine v_ldc (-99999999) o dL_key_14 ct_L_16 ?_
      exact v_iret o dL_key_16 hr (Nat.le_of_ble_eq_true rfl) (Nat.le_of_ble_eq_true rfl) ⟨by rw [wa_t (p := (sp_key σ a0 a1 a2 a3 a4)) hk], B, τ, by rw [(hk : (sp_key σ a0 a1 a2 a3 a4).2 = _)]; exact (hR.thk _).thk 0⟩
    · cases hE
      refine v_catch o [⟨0, 11, 12, 23⟩] ⟨0, 11, 17, 14⟩ [] hex (by
          intro y hy
          simp only [List.mem_cons, List.not_mem_nil, or_false] at hy
          rcases hy with rfl
          · exact ⟨by decide, _, cl_L_23, by decide⟩) rfl (by decide) cl_L_14 ca_A (fun q => ?_)
      refine v_astore [(6, .ref q), (0, .ref x), (1, .int a0), (2, .int a1), (3, .int a2), (4, .int a3), (5, .int a4)] o dL_key_17 (by decide) rfl ?_
      refine v_ldc (-99999999) o dL_key_19 ct_L_16 ?_
      exact v_iret o dL_key_21 hr (Nat.le_of_ble_eq_true rfl) (Nat.le_of_ble_eq_true rfl) ⟨by rw [wa_t (p := (sp_key σ a0 a1 a2 a3 a4)) hk], B, τ, by rw [(hk : (sp_key σ a0 a1 a2 a3 a4).2 = _)]; exact (hR.thk _).thk 0⟩
    · cases hE

set_option maxRecDepth 100000 in
set_option maxHeartbeats 4000000 in
theorem l_trust {l : Launch} (hl : l.stackTraces = false) {g : mG} {x z z0 : Nat} {B : Nat → Nat} {μ0 μ : mM} {σ τ : Sg} (hR : RC g x B z0 μ0 σ τ μ) (hI : Inv σ) (a0 : Int32) : Ct l g yL_trust [Cond.codeWith yL_trust cL_trust 3 (some .int) [(0, 5, 6, 23)]] { frames := 8, cells := 1, slots := 6, locals := 123 } [.ref x, .int a0] μ z (lP g x z0 μ0 (.int (wa (sp_trust σ a0))) (th (sp_trust σ a0).2 0)) (noX) := by
  refine Ct.ofH hl (by decide +kernel) (Nat.le_of_ble_eq_true rfl) ?_
  intro p e s mi args below meth c o hnm hr hex
  have o : Ok p l s mi args meth c g cL_trust 3 RL := o
  refine v_lv [(0, .ref x), (1, .int a0)] rfl ?_
  refine v_aload_n 0 o dL_trust_0 rfl rfl ?_
  refine v_iload_n 1 o dL_trust_1 rfl rfl ?_
  refine v_callV [.int a0] [] o dL_trust_2 cw_L_74 im_X5_trust se_X5_trust cf5 hR.h0 (k_trust hl hR hI a0) rfl rfl ⟨Nat.le_of_ble_eq_true rfl, Nat.le_of_ble_eq_true rfl⟩ ⟨Nat.le_of_ble_eq_true rfl, Nat.le_of_ble_eq_true rfl⟩ (Nat.le_of_ble_eq_true rfl) ?_ ?_
  · rintro r9 μ9 z9 - ⟨rfl, h31, B9, τ9, hR9⟩
    refine v_st [.int ((sp_trust σ a0).1)] rfl ?_
    exact v_iret o dL_trust_5 hr (Nat.le_of_ble_eq_true rfl) (Nat.le_of_ble_eq_true rfl) ⟨(by rw [wa_r (p := (sp_trust σ a0)) h31]), B9, τ9, hR9.thk 0⟩
  · rintro E μ9 z9 - ⟨⟨k, hk, hE⟩, rfl⟩
    rcases k with _ | k
    · cases hE
      refine v_catch o [] ⟨0, 5, 6, 23⟩ [] hex (fun y hy => by cases hy) rfl (by decide) cl_L_23 ca_O (fun q => ?_)
      refine v_astore_n [(2, .ref q), (0, .ref x), (1, .int a0)] o dL_trust_6 rfl (by decide) rfl ?_
      refine v_ldc (-99999999) o dL_trust_7 ct_L_16 ?_
      exact v_iret o dL_trust_9 hr (Nat.le_of_ble_eq_true rfl) (Nat.le_of_ble_eq_true rfl) ⟨by rw [wa_t (p := (sp_trust σ a0)) hk], B, τ, by rw [(hk : (sp_trust σ a0).2 = _)]; exact (hR.thk _).thk 0⟩
    · cases hE

set_option maxRecDepth 100000 in
set_option maxHeartbeats 4000000 in
theorem l_pay {l : Launch} (hl : l.stackTraces = false) {g : mG} {x z z0 : Nat} {B : Nat → Nat} {μ0 μ : mM} {σ τ : Sg} (hR : RC g x B z0 μ0 σ τ μ) (hI : Inv σ) (a0 : Int32) : Ct l g yL_pay [Cond.codeWith yL_pay cL_pay 3 (some .int) [(0, 5, 6, 23)]] { frames := 8, cells := 1, slots := 6, locals := 128 } [.ref x, .int a0] μ z (lP g x z0 μ0 (.int (wa (sp_pay σ a0))) (th (sp_pay σ a0).2 0)) (noX) := by
  refine Ct.ofH hl (by decide +kernel) (Nat.le_of_ble_eq_true rfl) ?_
  intro p e s mi args below meth c o hnm hr hex
  have o : Ok p l s mi args meth c g cL_pay 3 RL := o
  refine v_lv [(0, .ref x), (1, .int a0)] rfl ?_
  refine v_aload_n 0 o dL_pay_0 rfl rfl ?_
  refine v_iload_n 1 o dL_pay_1 rfl rfl ?_
  refine v_callV [.int a0] [] o dL_pay_2 cw_L_77 im_X5_pay se_X5_pay cf5 hR.h0 (k_pay hl hR hI a0) rfl rfl ⟨Nat.le_of_ble_eq_true rfl, Nat.le_of_ble_eq_true rfl⟩ ⟨Nat.le_of_ble_eq_true rfl, Nat.le_of_ble_eq_true rfl⟩ (Nat.le_of_ble_eq_true rfl) ?_ ?_
  · rintro r9 μ9 z9 - ⟨rfl, h31, B9, τ9, hR9⟩
    refine v_st [.int ((sp_pay σ a0).1)] rfl ?_
    exact v_iret o dL_pay_5 hr (Nat.le_of_ble_eq_true rfl) (Nat.le_of_ble_eq_true rfl) ⟨(by rw [wa_r (p := (sp_pay σ a0)) h31]), B9, τ9, hR9.thk 0⟩
  · rintro E μ9 z9 - ⟨⟨k, hk, hE⟩, rfl⟩
    rcases k with _ | k
    · cases hE
      refine v_catch o [] ⟨0, 5, 6, 23⟩ [] hex (fun y hy => by cases hy) rfl (by decide) cl_L_23 ca_O (fun q => ?_)
      refine v_astore_n [(2, .ref q), (0, .ref x), (1, .int a0)] o dL_pay_6 rfl (by decide) rfl ?_
      refine v_ldc (-99999999) o dL_pay_7 ct_L_16 ?_
      exact v_iret o dL_pay_9 hr (Nat.le_of_ble_eq_true rfl) (Nat.le_of_ble_eq_true rfl) ⟨by rw [wa_t (p := (sp_pay σ a0)) hk], B, τ, by rw [(hk : (sp_pay σ a0).2 = _)]; exact (hR.thk _).thk 0⟩
    · cases hE

set_option maxRecDepth 100000 in
set_option maxHeartbeats 4000000 in
theorem l_read {l : Launch} (hl : l.stackTraces = false) {g : mG} {x z z0 : Nat} {B : Nat → Nat} {μ0 μ : mM} {σ τ : Sg} (hR : RC g x B z0 μ0 σ τ μ) (hI : Inv σ) (a0 : Int32) (a1 : Int32) (a2 : Int32) : Ct l g yL_read [Cond.codeWith yL_read cL_read 5 (some .int) [(0, 7, 8, 23)]] { frames := 8, cells := 1, slots := 6, locals := 128 } [.ref x, .int a0, .int a1, .int a2] μ z (lP g x z0 μ0 (.int (wa (sp_read σ a0 a1 a2))) (th (sp_read σ a0 a1 a2).2 0)) (noX) := by
  refine Ct.ofH hl (by decide +kernel) (Nat.le_of_ble_eq_true rfl) ?_
  intro p e s mi args below meth c o hnm hr hex
  have o : Ok p l s mi args meth c g cL_read 5 RL := o
  refine v_lv [(0, .ref x), (1, .int a0), (2, .int a1), (3, .int a2)] rfl ?_
  refine v_aload_n 0 o dL_read_0 rfl rfl ?_
  refine v_iload_n 1 o dL_read_1 rfl rfl ?_
  refine v_iload_n 2 o dL_read_2 rfl rfl ?_
  refine v_iload_n 3 o dL_read_3 rfl rfl ?_
  refine v_callV [.int a0, .int a1, .int a2] [] o dL_read_4 cw_L_80 im_X5_read se_X5_read cf5 hR.h0 (k_read hl hR hI a0 a1 a2) rfl rfl ⟨Nat.le_of_ble_eq_true rfl, Nat.le_of_ble_eq_true rfl⟩ ⟨Nat.le_of_ble_eq_true rfl, Nat.le_of_ble_eq_true rfl⟩ (Nat.le_of_ble_eq_true rfl) ?_ ?_
  · rintro r9 μ9 z9 - ⟨rfl, h31, B9, τ9, hR9⟩
    refine v_st [.int ((sp_read σ a0 a1 a2).1)] rfl ?_
    exact v_iret o dL_read_7 hr (Nat.le_of_ble_eq_true rfl) (Nat.le_of_ble_eq_true rfl) ⟨(by rw [wa_r (p := (sp_read σ a0 a1 a2)) h31]), B9, τ9, hR9.thk 0⟩
  · rintro E μ9 z9 - ⟨⟨k, hk, hE⟩, rfl⟩
    rcases k with _ | k
    · cases hE
      refine v_catch o [] ⟨0, 7, 8, 23⟩ [] hex (fun y hy => by cases hy) rfl (by decide) cl_L_23 ca_O (fun q => ?_)
      refine v_astore [(4, .ref q), (0, .ref x), (1, .int a0), (2, .int a1), (3, .int a2)] o dL_read_8 (by decide) rfl ?_
      refine v_ldc (-99999999) o dL_read_10 ct_L_16 ?_
      exact v_iret o dL_read_12 hr (Nat.le_of_ble_eq_true rfl) (Nat.le_of_ble_eq_true rfl) ⟨by rw [wa_t (p := (sp_read σ a0 a1 a2)) hk], B, τ, by rw [(hk : (sp_read σ a0 a1 a2).2 = _)]; exact (hR.thk _).thk 0⟩
    · cases hE

set_option maxRecDepth 100000 in
set_option maxHeartbeats 4000000 in
theorem l_doubt {l : Launch} (hl : l.stackTraces = false) {g : mG} {x z z0 : Nat} {B : Nat → Nat} {μ0 μ : mM} {σ τ : Sg} (hR : RC g x B z0 μ0 σ τ μ) (hI : Inv σ) (a0 : Int32) (a1 : Int32) (a2 : Int32) : Ct l g yL_doubt [Cond.codeWith yL_doubt cL_doubt 5 (some .int) [(0, 7, 8, 23)]] { frames := 8, cells := 1, slots := 6, locals := 128 } [.ref x, .int a0, .int a1, .int a2] μ z (lP g x z0 μ0 (.int (wa (sp_doubt σ a0 a1 a2))) (th (sp_doubt σ a0 a1 a2).2 0)) (noX) := by
  refine Ct.ofH hl (by decide +kernel) (Nat.le_of_ble_eq_true rfl) ?_
  intro p e s mi args below meth c o hnm hr hex
  have o : Ok p l s mi args meth c g cL_doubt 5 RL := o
  refine v_lv [(0, .ref x), (1, .int a0), (2, .int a1), (3, .int a2)] rfl ?_
  refine v_aload_n 0 o dL_doubt_0 rfl rfl ?_
  refine v_iload_n 1 o dL_doubt_1 rfl rfl ?_
  refine v_iload_n 2 o dL_doubt_2 rfl rfl ?_
  refine v_iload_n 3 o dL_doubt_3 rfl rfl ?_
  refine v_callV [.int a0, .int a1, .int a2] [] o dL_doubt_4 cw_L_84 im_X5_doubt se_X5_doubt cf5 hR.h0 (k_doubt hl hR hI a0 a1 a2) rfl rfl ⟨Nat.le_of_ble_eq_true rfl, Nat.le_of_ble_eq_true rfl⟩ ⟨Nat.le_of_ble_eq_true rfl, Nat.le_of_ble_eq_true rfl⟩ (Nat.le_of_ble_eq_true rfl) ?_ ?_
  · rintro r9 μ9 z9 - ⟨rfl, h31, B9, τ9, hR9⟩
    refine v_st [.int ((sp_doubt σ a0 a1 a2).1)] rfl ?_
    exact v_iret o dL_doubt_7 hr (Nat.le_of_ble_eq_true rfl) (Nat.le_of_ble_eq_true rfl) ⟨(by rw [wa_r (p := (sp_doubt σ a0 a1 a2)) h31]), B9, τ9, hR9.thk 0⟩
  · rintro E μ9 z9 - ⟨⟨k, hk, hE⟩, rfl⟩
    rcases k with _ | k
    · cases hE
      refine v_catch o [] ⟨0, 7, 8, 23⟩ [] hex (fun y hy => by cases hy) rfl (by decide) cl_L_23 ca_O (fun q => ?_)
      refine v_astore [(4, .ref q), (0, .ref x), (1, .int a0), (2, .int a1), (3, .int a2)] o dL_doubt_8 (by decide) rfl ?_
      refine v_ldc (-99999999) o dL_doubt_10 ct_L_16 ?_
      exact v_iret o dL_doubt_12 hr (Nat.le_of_ble_eq_true rfl) (Nat.le_of_ble_eq_true rfl) ⟨by rw [wa_t (p := (sp_doubt σ a0 a1 a2)) hk], B, τ, by rw [(hk : (sp_doubt σ a0 a1 a2).2 = _)]; exact (hR.thk _).thk 0⟩
    · cases hE

set_option maxRecDepth 100000 in
set_option maxHeartbeats 4000000 in
theorem l_pass {l : Launch} (hl : l.stackTraces = false) {g : mG} {x z z0 : Nat} {B : Nat → Nat} {μ0 μ : mM} {σ τ : Sg} (hR : RC g x B z0 μ0 σ τ μ) (hI : Inv σ) (a0 : Int32) : Ct l g yL_pass [Cond.codeWith yL_pass cL_pass 3 (some .int) [(0, 5, 6, 14), (0, 5, 10, 17)]] { frames := 8, cells := 1, slots := 6, locals := 125 } [.ref x, .int a0] μ z (lP g x z0 μ0 (.int (wa (sp_pass σ a0))) (th (sp_pass σ a0).2 0)) (noX) := by
  refine Ct.ofH hl (by decide +kernel) (Nat.le_of_ble_eq_true rfl) ?_
  intro p e s mi args below meth c o hnm hr hex
  have o : Ok p l s mi args meth c g cL_pass 3 RL := o
  refine v_lv [(0, .ref x), (1, .int a0)] rfl ?_
  refine v_aload_n 0 o dL_pass_0 rfl rfl ?_
  refine v_iload_n 1 o dL_pass_1 rfl rfl ?_
  refine v_callV [.int a0] [] o dL_pass_2 cw_L_87 im_X5_pass se_X5_pass cf5 hR.h0 (k_pass hl hR hI a0) rfl rfl ⟨Nat.le_of_ble_eq_true rfl, Nat.le_of_ble_eq_true rfl⟩ ⟨Nat.le_of_ble_eq_true rfl, Nat.le_of_ble_eq_true rfl⟩ (Nat.le_of_ble_eq_true rfl) ?_ ?_
  · rintro r9 μ9 z9 - ⟨rfl, h31, B9, τ9, hR9⟩
    refine v_st [.int ((sp_pass σ a0).1)] rfl ?_
    exact v_iret o dL_pass_5 hr (Nat.le_of_ble_eq_true rfl) (Nat.le_of_ble_eq_true rfl) ⟨(by rw [wa_r (p := (sp_pass σ a0)) h31]), B9, τ9, hR9.thk 0⟩
  · rintro E μ9 z9 - ⟨⟨k, hk, hE⟩, rfl⟩
    rcases k with _ | _ | k
    · cases hE
      refine v_catch o [] ⟨0, 5, 6, 14⟩ [⟨0, 5, 10, 17⟩] hex (fun y hy => by cases hy) rfl (by decide) cl_L_14 ca_A (fun q => ?_)
      refine v_astore_n [(2, .ref q), (0, .ref x), (1, .int a0)] o dL_pass_6 rfl (by decide) rfl ?_
      refine v_ldc (-99999999) o dL_pass_7 ct_L_16 ?_
      exact v_iret o dL_pass_9 hr (Nat.le_of_ble_eq_true rfl) (Nat.le_of_ble_eq_true rfl) ⟨by rw [wa_t (p := (sp_pass σ a0)) hk], B, τ, by rw [(hk : (sp_pass σ a0).2 = _)]; exact (hR.thk _).thk 0⟩
    · cases hE
      refine v_catch o [⟨0, 5, 6, 14⟩] ⟨0, 5, 10, 17⟩ [] hex (by
          intro y hy
          simp only [List.mem_cons, List.not_mem_nil, or_false] at hy
          rcases hy with rfl
          · exact ⟨by decide, _, cl_L_14, by decide⟩) rfl (by decide) cl_L_17 ca_S (fun q => ?_)
      refine v_astore_n [(2, .ref q), (0, .ref x), (1, .int a0)] o dL_pass_10 rfl (by decide) rfl ?_
      refine v_ldc (-99999999) o dL_pass_11 ct_L_16 ?_
      exact v_iret o dL_pass_13 hr (Nat.le_of_ble_eq_true rfl) (Nat.le_of_ble_eq_true rfl) ⟨by rw [wa_t (p := (sp_pass σ a0)) hk], B, τ, by rw [(hk : (sp_pass σ a0).2 = _)]; exact (hR.thk _).thk 0⟩
    · cases hE

set_option maxRecDepth 100000 in
set_option maxHeartbeats 4000000 in
theorem l_term {l : Launch} (hl : l.stackTraces = false) {g : mG} {x z z0 : Nat} {B : Nat → Nat} {μ0 μ : mM} {σ τ : Sg} (hR : RC g x B z0 μ0 σ τ μ) (hI : Inv σ) (a0 : Int32) (a1 : Int32) : Ct l g yL_term [Cond.codeWith yL_term cL_term 4 (some .int) [(0, 6, 7, 23), (0, 6, 11, 14)]] { frames := 8, cells := 1, slots := 6, locals := 127 } [.ref x, .int a0, .int a1] μ z (lP g x z0 μ0 (.int (wa (sp_term σ a0 a1))) (th (sp_term σ a0 a1).2 0)) (noX) := by
  refine Ct.ofH hl (by decide +kernel) (Nat.le_of_ble_eq_true rfl) ?_
  intro p e s mi args below meth c o hnm hr hex
  have o : Ok p l s mi args meth c g cL_term 4 RL := o
  refine v_lv [(0, .ref x), (1, .int a0), (2, .int a1)] rfl ?_
  refine v_aload_n 0 o dL_term_0 rfl rfl ?_
  refine v_iload_n 1 o dL_term_1 rfl rfl ?_
  refine v_iload_n 2 o dL_term_2 rfl rfl ?_
  refine v_callV [.int a0, .int a1] [] o dL_term_3 cw_L_90 im_X5_term se_X5_term cf5 hR.h0 (k_term hl hR hI a0 a1) rfl rfl ⟨Nat.le_of_ble_eq_true rfl, Nat.le_of_ble_eq_true rfl⟩ ⟨Nat.le_of_ble_eq_true rfl, Nat.le_of_ble_eq_true rfl⟩ (Nat.le_of_ble_eq_true rfl) ?_ ?_
  · rintro r9 μ9 z9 - ⟨rfl, h31, B9, τ9, hR9⟩
    refine v_st [.int ((sp_term σ a0 a1).1)] rfl ?_
    exact v_iret o dL_term_6 hr (Nat.le_of_ble_eq_true rfl) (Nat.le_of_ble_eq_true rfl) ⟨(by rw [wa_r (p := (sp_term σ a0 a1)) h31]), B9, τ9, hR9.thk 0⟩
  · rintro E μ9 z9 - ⟨⟨k, hk, hE⟩, rfl⟩
    rcases k with _ | _ | k
    · cases hE
      refine v_catch o [] ⟨0, 6, 7, 23⟩ [⟨0, 6, 11, 14⟩] hex (fun y hy => by cases hy) rfl (by decide) cl_L_23 ca_O (fun q => ?_)
      refine v_astore_n [(3, .ref q), (0, .ref x), (1, .int a0), (2, .int a1)] o dL_term_7 rfl (by decide) rfl ?_
      refine v_ldc (-99999999) o dL_term_8 ct_L_16 ?_
      exact v_iret o dL_term_10 hr (Nat.le_of_ble_eq_true rfl) (Nat.le_of_ble_eq_true rfl) ⟨by rw [wa_t (p := (sp_term σ a0 a1)) hk], B, τ, by rw [(hk : (sp_term σ a0 a1).2 = _)]; exact (hR.thk _).thk 0⟩
    · cases hE
      refine v_catch o [⟨0, 6, 7, 23⟩] ⟨0, 6, 11, 14⟩ [] hex (by
          intro y hy
          simp only [List.mem_cons, List.not_mem_nil, or_false] at hy
          rcases hy with rfl
          · exact ⟨by decide, _, cl_L_23, by decide⟩) rfl (by decide) cl_L_14 ca_A (fun q => ?_)
      refine v_astore_n [(3, .ref q), (0, .ref x), (1, .int a0), (2, .int a1)] o dL_term_11 rfl (by decide) rfl ?_
      refine v_ldc (-99999999) o dL_term_12 ct_L_16 ?_
      exact v_iret o dL_term_14 hr (Nat.le_of_ble_eq_true rfl) (Nat.le_of_ble_eq_true rfl) ⟨by rw [wa_t (p := (sp_term σ a0 a1)) hk], B, τ, by rw [(hk : (sp_term σ a0 a1).2 = _)]; exact (hR.thk _).thk 0⟩
    · cases hE

set_option maxRecDepth 100000 in
set_option maxHeartbeats 4000000 in
theorem l_died {l : Launch} (hl : l.stackTraces = false) {g : mG} {x z z0 : Nat} {B : Nat → Nat} {μ0 μ : mM} {σ τ : Sg} (hR : RC g x B z0 μ0 σ τ μ) (hI : Inv σ) (a0 : Int32) (a1 : Int32) : Ct l g yL_died [Cond.codeWith yL_died cL_died 4 (some .int) [(0, 7, 8, 23), (0, 7, 12, 14), (0, 7, 16, 17)]] { frames := 8, cells := 1, slots := 6, locals := 127 } [.ref x, .int a0, .int a1] μ z (lP g x z0 μ0 (.int (wa (0, sp_died σ a0 a1))) (th (0, sp_died σ a0 a1).2 0)) (noX) := by
  refine Ct.ofH hl (by decide +kernel) (Nat.le_of_ble_eq_true rfl) ?_
  intro p e s mi args below meth c o hnm hr hex
  have o : Ok p l s mi args meth c g cL_died 4 RL := o
  refine v_lv [(0, .ref x), (1, .int a0), (2, .int a1)] rfl ?_
  refine v_aload_n 0 o dL_died_0 rfl rfl ?_
  refine v_iload_n 1 o dL_died_1 rfl rfl ?_
  refine v_iload_n 2 o dL_died_2 rfl rfl ?_
  refine v_callV [.int a0, .int a1] [] o dL_died_3 cw_L_93 im_X5_died se_X5_died cf5 hR.h0 (k_died hl hR hI a0 a1) rfl rfl ⟨Nat.le_of_ble_eq_true rfl, Nat.le_of_ble_eq_true rfl⟩ ⟨Nat.le_of_ble_eq_true rfl, Nat.le_of_ble_eq_true rfl⟩ (Nat.le_of_ble_eq_true rfl) ?_ ?_
  · rintro r9 μ9 z9 - ⟨rfl, h31, B9, τ9, hR9⟩
    refine v_st [] rfl ?_
    refine v_iconst 0 o dL_died_6 rfl ?_
    exact v_iret o dL_died_7 hr (Nat.le_of_ble_eq_true rfl) (Nat.le_of_ble_eq_true rfl) ⟨(by rw [wa_r (p := (0, sp_died σ a0 a1)) h31]; rfl), B9, τ9, hR9.thk 0⟩
  · rintro E μ9 z9 - ⟨⟨k, hk, hE⟩, rfl⟩
    rcases k with _ | _ | _ | k
    · cases hE
      refine v_catch o [] ⟨0, 7, 8, 23⟩ [⟨0, 7, 12, 14⟩, ⟨0, 7, 16, 17⟩] hex (fun y hy => by cases hy) rfl (by decide) cl_L_23 ca_O (fun q => ?_)
      refine v_astore_n [(3, .ref q), (0, .ref x), (1, .int a0), (2, .int a1)] o dL_died_8 rfl (by decide) rfl ?_
      refine v_ldc (-99999999) o dL_died_9 ct_L_16 ?_
      exact v_iret o dL_died_11 hr (Nat.le_of_ble_eq_true rfl) (Nat.le_of_ble_eq_true rfl) ⟨by rw [wa_t (p := (0, sp_died σ a0 a1)) hk], B, τ, by rw [(hk : (0, sp_died σ a0 a1).2 = _)]; exact (hR.thk _).thk 0⟩
    · cases hE
      refine v_catch o [⟨0, 7, 8, 23⟩] ⟨0, 7, 12, 14⟩ [⟨0, 7, 16, 17⟩] hex (by
          intro y hy
          simp only [List.mem_cons, List.not_mem_nil, or_false] at hy
          rcases hy with rfl
          · exact ⟨by decide, _, cl_L_23, by decide⟩) rfl (by decide) cl_L_14 ca_A (fun q => ?_)
      refine v_astore_n [(3, .ref q), (0, .ref x), (1, .int a0), (2, .int a1)] o dL_died_12 rfl (by decide) rfl ?_
      refine v_ldc (-99999999) o dL_died_13 ct_L_16 ?_
      exact v_iret o dL_died_15 hr (Nat.le_of_ble_eq_true rfl) (Nat.le_of_ble_eq_true rfl) ⟨by rw [wa_t (p := (0, sp_died σ a0 a1)) hk], B, τ, by rw [(hk : (0, sp_died σ a0 a1).2 = _)]; exact (hR.thk _).thk 0⟩
    · cases hE
      refine v_catch o [⟨0, 7, 8, 23⟩, ⟨0, 7, 12, 14⟩] ⟨0, 7, 16, 17⟩ [] hex (by
          intro y hy
          simp only [List.mem_cons, List.not_mem_nil, or_false] at hy
          rcases hy with rfl | rfl
          · exact ⟨by decide, _, cl_L_23, by decide⟩
          · exact ⟨by decide, _, cl_L_14, by decide⟩) rfl (by decide) cl_L_17 ca_S (fun q => ?_)
      refine v_astore_n [(3, .ref q), (0, .ref x), (1, .int a0), (2, .int a1)] o dL_died_16 rfl (by decide) rfl ?_
      refine v_ldc (-99999999) o dL_died_17 ct_L_16 ?_
      exact v_iret o dL_died_19 hr (Nat.le_of_ble_eq_true rfl) (Nat.le_of_ble_eq_true rfl) ⟨by rw [wa_t (p := (0, sp_died σ a0 a1)) hk], B, τ, by rw [(hk : (0, sp_died σ a0 a1).2 = _)]; exact (hR.thk _).thk 0⟩
    · cases hE

set_option maxRecDepth 100000 in
set_option maxHeartbeats 4000000 in
theorem l_search {l : Launch} (hl : l.stackTraces = false) {g : mG} {x z z0 : Nat} {B : Nat → Nat} {μ0 μ : mM} {σ τ : Sg} (hR : RC g x B z0 μ0 σ τ μ) (hI : Inv σ) (a0 : Int32) : Ct l g yL_search [Cond.codeWith yL_search cL_search 3 (some .int) [(0, 13, 14, 23)]] { frames := 8, cells := 1, slots := 6, locals := 127 } [.ref x, .int a0] μ z (lP g x z0 μ0 (.int (wa (sp_search σ a0))) (th (sp_search σ a0).2 0)) (noX) := by
  refine Ct.ofH hl (by decide +kernel) (Nat.le_of_ble_eq_true rfl) ?_
  intro p e s mi args below meth c o hnm hr hex
  have o : Ok p l s mi args meth c g cL_search 3 RL := o
  refine v_lv [(0, .ref x), (1, .int a0)] rfl ?_
  refine v_aload_n 0 o dL_search_0 rfl rfl ?_
  refine v_iload_n 1 o dL_search_1 rfl rfl ?_
  refine v_callV [.int a0] [] o dL_search_2 cw_L_97 im_X5_search se_X5_search cf5 hR.h0 (k_search hl hR hI a0) rfl rfl ⟨Nat.le_of_ble_eq_true rfl, Nat.le_of_ble_eq_true rfl⟩ ⟨Nat.le_of_ble_eq_true rfl, Nat.le_of_ble_eq_true rfl⟩ (Nat.le_of_ble_eq_true rfl) ?_ ?_
  · rintro r9 μ9 z9 - ⟨rfl, h31, B9, τ9, hR9⟩
    refine v_st [.int ((sp_search σ a0).1)] rfl ?_
    refine v_if_eq 12 o dL_search_5 (by decide) (fun c5 => ?_) (fun c5 => ?_)
    · refine v_iconst 0 o dL_search_12 rfl ?_
      exact v_iret o dL_search_13 hr (Nat.le_of_ble_eq_true rfl) (Nat.le_of_ble_eq_true rfl) ⟨(by rw [wa_r (p := (sp_search σ a0)) h31, (c5 : (sp_search σ a0).1 = _)]; rfl), B9, τ9, hR9.thk 0⟩
    · refine v_iconst 1 o dL_search_8 rfl ?_
      refine v_goto 13 o dL_search_9 (by decide) ?_
      exact v_iret o dL_search_13 hr (Nat.le_of_ble_eq_true rfl) (Nat.le_of_ble_eq_true rfl) ⟨(by rw [wa_r (p := (sp_search σ a0)) h31, ((bb_search σ a0).resolve_left c5 : (sp_search σ a0).1 = _)]; rfl), B9, τ9, hR9.thk 0⟩
  · rintro E μ9 z9 - ⟨⟨k, hk, hE⟩, rfl⟩
    rcases k with _ | k
    · cases hE
      refine v_catch o [] ⟨0, 13, 14, 23⟩ [] hex (fun y hy => by cases hy) rfl (by decide) cl_L_23 ca_O (fun q => ?_)
      refine v_astore_n [(2, .ref q), (0, .ref x), (1, .int a0)] o dL_search_14 rfl (by decide) rfl ?_
      refine v_ldc (-99999999) o dL_search_15 ct_L_16 ?_
      exact v_iret o dL_search_17 hr (Nat.le_of_ble_eq_true rfl) (Nat.le_of_ble_eq_true rfl) ⟨by rw [wa_t (p := (sp_search σ a0)) hk], B, τ, by rw [(hk : (sp_search σ a0).2 = _)]; exact (hR.thk _).thk 0⟩
    · cases hE

set_option maxRecDepth 100000 in
set_option maxHeartbeats 4000000 in
theorem l_takeDown {l : Launch} (hl : l.stackTraces = false) {g : mG} {x z z0 : Nat} {B : Nat → Nat} {μ0 μ : mM} {σ τ : Sg} (hR : RC g x B z0 μ0 σ τ μ) (hI : Inv σ) (a0 : Int32) (a1 : Bool) : Ct l g yL_takeDown [Cond.codeWith yL_takeDown cL_takeDown 4 (some .int) [(0, 14, 15, 23)]] { frames := 8, cells := 1, slots := 6, locals := 128 } [.ref x, .int a0, .int (bI a1)] μ z (lP g x z0 μ0 (.int (wa (sp_takeDown σ a0 a1))) (th (sp_takeDown σ a0 a1).2 0)) (noX) := by
  refine Ct.ofH hl (by decide +kernel) (Nat.le_of_ble_eq_true rfl) ?_
  intro p e s mi args below meth c o hnm hr hex
  have o : Ok p l s mi args meth c g cL_takeDown 4 RL := o
  refine v_lv [(0, .ref x), (1, .int a0), (2, .int (bI a1))] rfl ?_
  refine v_aload_n 0 o dL_takeDown_0 rfl rfl ?_
  refine v_iload_n 1 o dL_takeDown_1 rfl rfl ?_
  refine v_iload_n 2 o dL_takeDown_2 rfl rfl ?_
  refine v_callV [.int a0, .int (bI a1)] [] o dL_takeDown_3 cw_L_101 im_X5_takeDown se_X5_takeDown cf5 hR.h0 (k_takeDown hl hR hI a0 a1) rfl rfl ⟨Nat.le_of_ble_eq_true rfl, Nat.le_of_ble_eq_true rfl⟩ ⟨Nat.le_of_ble_eq_true rfl, Nat.le_of_ble_eq_true rfl⟩ (Nat.le_of_ble_eq_true rfl) ?_ ?_
  · rintro r9 μ9 z9 - ⟨rfl, h31, B9, τ9, hR9⟩
    refine v_st [.int ((sp_takeDown σ a0 a1).1)] rfl ?_
    refine v_if_eq 13 o dL_takeDown_6 (by decide) (fun c6 => ?_) (fun c6 => ?_)
    · refine v_iconst 0 o dL_takeDown_13 rfl ?_
      exact v_iret o dL_takeDown_14 hr (Nat.le_of_ble_eq_true rfl) (Nat.le_of_ble_eq_true rfl) ⟨(by rw [wa_r (p := (sp_takeDown σ a0 a1)) h31, (c6 : (sp_takeDown σ a0 a1).1 = _)]; rfl), B9, τ9, hR9.thk 0⟩
    · refine v_iconst 1 o dL_takeDown_9 rfl ?_
      refine v_goto 14 o dL_takeDown_10 (by decide) ?_
      exact v_iret o dL_takeDown_14 hr (Nat.le_of_ble_eq_true rfl) (Nat.le_of_ble_eq_true rfl) ⟨(by rw [wa_r (p := (sp_takeDown σ a0 a1)) h31, ((bb_takeDown σ a0 a1).resolve_left c6 : (sp_takeDown σ a0 a1).1 = _)]; rfl), B9, τ9, hR9.thk 0⟩
  · rintro E μ9 z9 - ⟨⟨k, hk, hE⟩, rfl⟩
    rcases k with _ | k
    · cases hE
      refine v_catch o [] ⟨0, 14, 15, 23⟩ [] hex (fun y hy => by cases hy) rfl (by decide) cl_L_23 ca_O (fun q => ?_)
      refine v_astore_n [(3, .ref q), (0, .ref x), (1, .int a0), (2, .int (bI a1))] o dL_takeDown_15 rfl (by decide) rfl ?_
      refine v_ldc (-99999999) o dL_takeDown_16 ct_L_16 ?_
      exact v_iret o dL_takeDown_18 hr (Nat.le_of_ble_eq_true rfl) (Nat.le_of_ble_eq_true rfl) ⟨by rw [wa_t (p := (sp_takeDown σ a0 a1)) hk], B, τ, by rw [(hk : (sp_takeDown σ a0 a1).2 = _)]; exact (hR.thk _).thk 0⟩
    · cases hE

set_option maxRecDepth 100000 in
set_option maxHeartbeats 4000000 in
theorem l_whyNot {l : Launch} (hl : l.stackTraces = false) {g : mG} {x z z0 : Nat} {B : Nat → Nat} {μ0 μ : mM} {σ τ : Sg} (hR : RC g x B z0 μ0 σ τ μ) (hI : Inv σ) (a0 : Int32) (a1 : Int32) (a2 : Int32) : Ct l g yL_whyNot [Cond.codeWith yL_whyNot cL_whyNot 5 (some .int) [(0, 7, 8, 23)]] { frames := 8, cells := 1, slots := 6, locals := 129 } [.ref x, .int a0, .int a1, .int a2] μ z (lP g x z0 μ0 (.int (wa (sp_whyNot σ a0 a1 a2))) (th (sp_whyNot σ a0 a1 a2).2 0)) (noX) := by
  refine Ct.ofH hl (by decide +kernel) (Nat.le_of_ble_eq_true rfl) ?_
  intro p e s mi args below meth c o hnm hr hex
  have o : Ok p l s mi args meth c g cL_whyNot 5 RL := o
  refine v_lv [(0, .ref x), (1, .int a0), (2, .int a1), (3, .int a2)] rfl ?_
  refine v_aload_n 0 o dL_whyNot_0 rfl rfl ?_
  refine v_iload_n 1 o dL_whyNot_1 rfl rfl ?_
  refine v_iload_n 2 o dL_whyNot_2 rfl rfl ?_
  refine v_iload_n 3 o dL_whyNot_3 rfl rfl ?_
  refine v_callV [.int a0, .int a1, .int a2] [] o dL_whyNot_4 cw_L_105 im_X5_whyNot se_X5_whyNot cf5 hR.h0 (k_whyNot hl hR hI a0 a1 a2) rfl rfl ⟨Nat.le_of_ble_eq_true rfl, Nat.le_of_ble_eq_true rfl⟩ ⟨Nat.le_of_ble_eq_true rfl, Nat.le_of_ble_eq_true rfl⟩ (Nat.le_of_ble_eq_true rfl) ?_ ?_
  · rintro r9 μ9 z9 - ⟨rfl, h31, B9, τ9, hR9⟩
    refine v_st [.int ((sp_whyNot σ a0 a1 a2).1)] rfl ?_
    exact v_iret o dL_whyNot_7 hr (Nat.le_of_ble_eq_true rfl) (Nat.le_of_ble_eq_true rfl) ⟨(by rw [wa_r (p := (sp_whyNot σ a0 a1 a2)) h31]), B9, τ9, hR9.thk 0⟩
  · rintro E μ9 z9 - ⟨⟨k, hk, hE⟩, rfl⟩
    rcases k with _ | k
    · cases hE
      refine v_catch o [] ⟨0, 7, 8, 23⟩ [] hex (fun y hy => by cases hy) rfl (by decide) cl_L_23 ca_O (fun q => ?_)
      refine v_astore [(4, .ref q), (0, .ref x), (1, .int a0), (2, .int a1), (3, .int a2)] o dL_whyNot_8 (by decide) rfl ?_
      refine v_ldc (-99999999) o dL_whyNot_10 ct_L_16 ?_
      exact v_iret o dL_whyNot_12 hr (Nat.le_of_ble_eq_true rfl) (Nat.le_of_ble_eq_true rfl) ⟨by rw [wa_t (p := (sp_whyNot σ a0 a1 a2)) hk], B, τ, by rw [(hk : (sp_whyNot σ a0 a1 a2).2 = _)]; exact (hR.thk _).thk 0⟩
    · cases hE

set_option maxRecDepth 100000 in
set_option maxHeartbeats 4000000 in
theorem l_about {l : Launch} (hl : l.stackTraces = false) {g : mG} {x z z0 : Nat} {B : Nat → Nat} {μ0 μ : mM} {σ τ : Sg} (hR : RC g x B z0 μ0 σ τ μ) (hI : Inv σ) (a0 : Int32) (a1 : Int32) : Ct l g yL_about [Cond.codeWith yL_about cL_about 4 (some .int) [(0, 6, 7, 23), (0, 6, 11, 14)]] { frames := 8, cells := 1, slots := 6, locals := 152 } [.ref x, .int a0, .int a1] μ z (lP g x z0 μ0 (.int (wa (sp_about σ a0 a1))) (th (sp_about σ a0 a1).2 0)) (noX) := by
  refine Ct.ofH hl (by decide +kernel) (Nat.le_of_ble_eq_true rfl) ?_
  intro p e s mi args below meth c o hnm hr hex
  have o : Ok p l s mi args meth c g cL_about 4 RL := o
  refine v_lv [(0, .ref x), (1, .int a0), (2, .int a1)] rfl ?_
  refine v_aload_n 0 o dL_about_0 rfl rfl ?_
  refine v_iload_n 1 o dL_about_1 rfl rfl ?_
  refine v_iload_n 2 o dL_about_2 rfl rfl ?_
  refine v_callV [.int a0, .int a1] [] o dL_about_3 cw_L_108 im_X5_about se_X5_about cf5 hR.h0 (k_about hl hR hI a0 a1) rfl rfl ⟨Nat.le_of_ble_eq_true rfl, Nat.le_of_ble_eq_true rfl⟩ ⟨Nat.le_of_ble_eq_true rfl, Nat.le_of_ble_eq_true rfl⟩ (Nat.le_of_ble_eq_true rfl) ?_ ?_
  · rintro r9 μ9 z9 - ⟨rfl, h31, B9, τ9, hR9⟩
    refine v_st [.int ((sp_about σ a0 a1).1)] rfl ?_
    exact v_iret o dL_about_6 hr (Nat.le_of_ble_eq_true rfl) (Nat.le_of_ble_eq_true rfl) ⟨(by rw [wa_r (p := (sp_about σ a0 a1)) h31]), B9, τ9, hR9.thk 0⟩
  · rintro E μ9 z9 - ⟨⟨k, hk, hE⟩, rfl⟩
    rcases k with _ | _ | k
    · cases hE
      refine v_catch o [] ⟨0, 6, 7, 23⟩ [⟨0, 6, 11, 14⟩] hex (fun y hy => by cases hy) rfl (by decide) cl_L_23 ca_O (fun q => ?_)
      refine v_astore_n [(3, .ref q), (0, .ref x), (1, .int a0), (2, .int a1)] o dL_about_7 rfl (by decide) rfl ?_
      refine v_ldc (-99999999) o dL_about_8 ct_L_16 ?_
      exact v_iret o dL_about_10 hr (Nat.le_of_ble_eq_true rfl) (Nat.le_of_ble_eq_true rfl) ⟨by rw [wa_t (p := (sp_about σ a0 a1)) hk], B, τ, by rw [(hk : (sp_about σ a0 a1).2 = _)]; exact (hR.thk _).thk 0⟩
    · cases hE
      refine v_catch o [⟨0, 6, 7, 23⟩] ⟨0, 6, 11, 14⟩ [] hex (by
          intro y hy
          simp only [List.mem_cons, List.not_mem_nil, or_false] at hy
          rcases hy with rfl
          · exact ⟨by decide, _, cl_L_23, by decide⟩) rfl (by decide) cl_L_14 ca_A (fun q => ?_)
      refine v_astore_n [(3, .ref q), (0, .ref x), (1, .int a0), (2, .int a1)] o dL_about_11 rfl (by decide) rfl ?_
      refine v_ldc (-99999999) o dL_about_12 ct_L_16 ?_
      exact v_iret o dL_about_14 hr (Nat.le_of_ble_eq_true rfl) (Nat.le_of_ble_eq_true rfl) ⟨by rw [wa_t (p := (sp_about σ a0 a1)) hk], B, τ, by rw [(hk : (sp_about σ a0 a1).2 = _)]; exact (hR.thk _).thk 0⟩
    · cases hE

