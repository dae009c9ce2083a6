def wP (g : mG) (x z0 : Nat) (μ : mM) (u : Nat) (v : Int64) (σ' : Sg) : Option Value → mM → Nat → Prop := fun r μ' _ => r = some (.int (nI (σ'.1 3 1))) ∧ ∃ B' τ' f', RC g x B' z0 (up μ u (.inl (g.2.1 2, aL 1 f'))) σ' τ' μ' ∧ (nI (σ'.1 3 1) = 0 → f' 0 = v)
def wP0 (g : mG) (x z0 : Nat) (μ : mM) (σ' : Sg) : Option Value → mM → Nat → Prop := fun r μ' _ => r = some (.int (nI (σ'.1 3 1))) ∧ ∃ B' τ', RC g x B' z0 μ σ' τ' μ'
theorem bb_b (b : Bool) : bI b = 0 ∨ bI b = 1 := by cases b <;> decide
theorem bb_look (σ : Sg) (b q : Int32) : (sp_look σ b q).1 = 0 ∨ (sp_look σ b q).1 = 1 := by
  unfold sp_look
  split
  · split
    · exact bb_b _
    · exact Or.inl rfl
  · exact Or.inl rfl
theorem bb_rot (σ : Sg) (v b q t : Int32) : (sp_rot σ v b q t).1 = 0 ∨ (sp_rot σ v b q t).1 = 1 := by
  unfold sp_rot
  split
  · split
    · split
      · exact bb_b _
      · exact Or.inl rfl
    · exact Or.inl rfl
  · exact Or.inl rfl
theorem bb_isLost (σ : Sg) (b q : Int32) : (sp_isLost σ b q).1 = 0 ∨ (sp_isLost σ b q).1 = 1 := by
  unfold sp_isLost
  split
  · exact bb_b _
  · exact Or.inl rfl
theorem bb_search (σ : Sg) (b : Int32) : (sp_search σ b).1 = 0 ∨ (sp_search σ b).1 = 1 := by
  unfold sp_search
  split
  · exact bb_b _
  · exact Or.inl rfl
theorem bb_takeDown (σ : Sg) (b : Int32) (w : Bool) : (sp_takeDown σ b w).1 = 0 ∨ (sp_takeDown σ b w).1 = 1 := by
  unfold sp_takeDown
  split
  · exact bb_b _
  · exact Or.inl rfl
set_option maxRecDepth 100000 in
set_option maxHeartbeats 4000000 in
theorem w_book {l : Launch} (hl : l.stackTraces = false) {g : mG} {x z z0 : Nat} {B : Nat → Nat} {μ0 μ : mM} {σ τ : Sg} (hR : RC g x B z0 μ0 σ τ μ) (hI : Inv σ) (hz0 : z0 ≤ z) (a0 : Int32) (a1 : Int32) (a2 : Int32) (a3 : Int32) (a4 : Int32) {u : Nat} {f : Nat → Int64} (hu : x + 12 ≤ u) (hu2 : u < z0) (he : μ u = some (.inl (g.2.1 2, aL 1 f))) : Ct l g yL_book [Cond.codeWith yL_book cL_book 8 (some .int) [(0, 16, 19, 13), (0, 16, 23, 15)]] { frames := 8, cells := 122, slots := 584, locals := 130 } [.ref x, .int a0, .int a1, .int a2, .int a3, .int a4, .ref u] μ z (wP g x z0 μ u (sp_book σ a0 a1 a2 a3 a4).1.toInt64 (sp_book σ a0 a1 a2 a3 a4).2) (noX) := by
  refine Ct.ofH hl (by decide +kernel) (Nat.le_of_ble_eq_true rfl) ?_
  intro p e s mi args below meth c o hnm hr hex
  have o : Ok p l s mi args meth c g cL_book 8 RL := o
  refine v_lv [(0, .ref x), (1, .int a0), (2, .int a1), (3, .int a2), (4, .int a3), (5, .int a4), (6, .ref u)] rfl ?_
  refine v_aload 6 o dL_book_0 rfl ?_
  refine v_iconst 0 o dL_book_2 rfl ?_
  refine v_aload_n 0 o dL_book_3 rfl rfl ?_
  refine v_iload_n 1 o dL_book_4 rfl rfl ?_
  refine v_iload_n 2 o dL_book_5 rfl rfl ?_
  refine v_iload_n 3 o dL_book_6 rfl rfl ?_
  refine v_iload 4 o dL_book_7 rfl ?_
  refine v_iload 5 o dL_book_9 rfl ?_
  refine v_callV [.int a0, .int a1, .int a2, .int a3, .int a4] [.int (nI 0), .ref u] o dL_book_11 cw_L_7 im_X5_book se_X5_book cf5 hR.h0 (k_book hl hR.base hI hz0 a0 a1 a2 a3 a4) rfl rfl ⟨Nat.le_of_ble_eq_true rfl, Nat.le_of_ble_eq_true rfl⟩ ⟨Nat.le_of_ble_eq_true rfl, Nat.le_of_ble_eq_true rfl⟩ (Nat.le_of_ble_eq_true rfl) ?_ ?_
  · rintro r9 μ9 z9 - ⟨rfl, h31, B9, τ9, hR9⟩
    refine v_st [.int ((sp_book σ a0 a1 a2 a3 a4).1), .int (nI 0), .ref u] rfl ?_
    refine v_i2l (((sp_book σ a0 a1 a2 a3 a4).1).toInt64) o dL_book_14 rfl ?_
    refine v_last o dL_book_15 (by decide) (by decide) ((hR9.2.2.2 u (by omega) hu2).trans he) (fun μ8 e8 => ?_)
    refine v_goto 27 o dL_book_16 (by decide) ?_
    refine v_iconst 0 o dL_book_27 rfl ?_
    exact v_iret o dL_book_28 hr (Nat.le_of_ble_eq_true rfl) (Nat.le_of_ble_eq_true rfl) ⟨by rw [h31], B9, τ9, vp_updL f 0 (((sp_book σ a0 a1 a2 a3 a4).1).toInt64), by rw [e8]; exact hR9.outw hu hu2 _, fun _ => (if_pos rfl : vp_updL f 0 (((sp_book σ a0 a1 a2 a3 a4).1).toInt64) 0 = ((sp_book σ a0 a1 a2 a3 a4).1).toInt64).trans rfl⟩
  · rintro E μ9 z9 - ⟨⟨k, hk, hE⟩, rfl⟩
    rcases k with _ | _ | k
    · cases hE
      refine v_catch o [] ⟨0, 16, 19, 13⟩ [⟨0, 16, 23, 15⟩] hex (fun y hy => by cases hy) rfl (by decide) cl_L_13 ca_A (fun q => ?_)
      refine v_astore [(7, .ref q), (0, .ref x), (1, .int a0), (2, .int a1), (3, .int a2), (4, .int a3), (5, .int a4), (6, .ref u)] o dL_book_19 (by decide) rfl ?_
      refine v_iconst 1 o dL_book_21 rfl ?_
      exact v_iret o dL_book_22 hr (Nat.le_of_ble_eq_true rfl) (Nat.le_of_ble_eq_true rfl) ⟨by rw [hk, th_31], B, τ, f, by rw [hk, up_self he]; exact hR.base.thk _, fun h => (by rw [hk, th_31] at h; exact absurd h (by decide))⟩
    · cases hE
      refine v_catch o [⟨0, 16, 19, 13⟩] ⟨0, 16, 23, 15⟩ [] hex (by
          intro y hy
          simp only [List.mem_cons, List.not_mem_nil, or_false] at hy
          rcases hy with rfl
          · exact ⟨by decide, _, cl_L_13, by decide⟩) rfl (by decide) cl_L_15 ca_S (fun q => ?_)
      refine v_astore [(7, .ref q), (0, .ref x), (1, .int a0), (2, .int a1), (3, .int a2), (4, .int a3), (5, .int a4), (6, .ref u)] o dL_book_23 (by decide) rfl ?_
      refine v_iconst 2 o dL_book_25 rfl ?_
      exact v_iret o dL_book_26 hr (Nat.le_of_ble_eq_true rfl) (Nat.le_of_ble_eq_true rfl) ⟨by rw [hk, th_31], B, τ, f, by rw [hk, up_self he]; exact hR.base.thk _, fun h => (by rw [hk, th_31] at h; exact absurd h (by decide))⟩
    · cases hE

set_option maxRecDepth 100000 in
set_option maxHeartbeats 4000000 in
theorem w_shot {l : Launch} (hl : l.stackTraces = false) {g : mG} {x z z0 : Nat} {B : Nat → Nat} {μ0 μ : mM} {σ τ : Sg} (hR : RC g x B z0 μ0 σ τ μ) (hI : Inv σ) (a0 : Int32) (a1 : Int32) (a2 : Int32) (a3 : Int64) {u : Nat} {f : Nat → Int64} (hu : x + 12 ≤ u) (hu2 : u < z0) (he : μ u = some (.inl (g.2.1 2, aL 1 f))) : Ct l g yL_shot [Cond.codeWith yL_shot cL_shot 8 (some .int) [(0, 14, 17, 21), (0, 14, 21, 13), (0, 14, 25, 15)]] { frames := 8, cells := 1, slots := 6, locals := 133 } [.ref x, .int a0, .int a1, .int a2, .long a3, .ref u] μ z (wP g x z0 μ u (sp_shot σ a0 a1 a2 a3).1.toInt64 (sp_shot σ a0 a1 a2 a3).2) (noX) := by
  refine Ct.ofH hl (by decide +kernel) (Nat.le_of_ble_eq_true rfl) ?_
  intro p e s mi args below meth c o hnm hr hex
  have o : Ok p l s mi args meth c g cL_shot 8 RL := o
  refine v_lv [(0, .ref x), (1, .int a0), (2, .int a1), (3, .int a2), (4, .long a3), (6, .ref u)] rfl ?_
  refine v_aload 5 o dL_shot_0 rfl ?_
  refine v_iconst 0 o dL_shot_2 rfl ?_
  refine v_aload_n 0 o dL_shot_3 rfl rfl ?_
  refine v_iload_n 1 o dL_shot_4 rfl rfl ?_
  refine v_iload_n 2 o dL_shot_5 rfl rfl ?_
  refine v_iload_n 3 o dL_shot_6 rfl rfl ?_
  refine v_lload 4 o dL_shot_7 rfl ?_
  refine v_callV [.int a0, .int a1, .int a2, .long a3] [.int (nI 0), .ref u] o dL_shot_9 cw_L_17 im_X5_shot se_X5_shot cf5 hR.h0 (k_shot hl hR.base hI a0 a1 a2 a3) rfl rfl ⟨Nat.le_of_ble_eq_true rfl, Nat.le_of_ble_eq_true rfl⟩ ⟨Nat.le_of_ble_eq_true rfl, Nat.le_of_ble_eq_true rfl⟩ (Nat.le_of_ble_eq_true rfl) ?_ ?_
  · rintro r9 μ9 z9 - ⟨rfl, h31, B9, τ9, hR9⟩
    refine v_st [.int ((sp_shot σ a0 a1 a2 a3).1), .int (nI 0), .ref u] rfl ?_
    refine v_i2l (((sp_shot σ a0 a1 a2 a3).1).toInt64) o dL_shot_12 rfl ?_
    refine v_last o dL_shot_13 (by decide) (by decide) ((hR9.2.2.2 u (by omega) hu2).trans he) (fun μ8 e8 => ?_)
    refine v_goto 29 o dL_shot_14 (by decide) ?_
    refine v_iconst 0 o dL_shot_29 rfl ?_
    exact v_iret o dL_shot_30 hr (Nat.le_of_ble_eq_true rfl) (Nat.le_of_ble_eq_true rfl) ⟨by rw [h31], B9, τ9, vp_updL f 0 (((sp_shot σ a0 a1 a2 a3).1).toInt64), by rw [e8]; exact hR9.outw hu hu2 _, fun _ => (if_pos rfl : vp_updL f 0 (((sp_shot σ a0 a1 a2 a3).1).toInt64) 0 = ((sp_shot σ a0 a1 a2 a3).1).toInt64).trans rfl⟩
  · rintro E μ9 z9 - ⟨⟨k, hk, hE⟩, rfl⟩
    rcases k with _ | _ | _ | k
    · cases hE
      refine v_catch o [] ⟨0, 14, 17, 21⟩ [⟨0, 14, 21, 13⟩, ⟨0, 14, 25, 15⟩] hex (fun y hy => by cases hy) rfl (by decide) cl_L_21 ca_O (fun q => ?_)
      refine v_astore [(7, .ref q), (0, .ref x), (1, .int a0), (2, .int a1), (3, .int a2), (4, .long a3), (6, .ref u)] o dL_shot_17 (by decide) rfl ?_
      refine v_iconst 1 o dL_shot_19 rfl ?_
      exact v_iret o dL_shot_20 hr (Nat.le_of_ble_eq_true rfl) (Nat.le_of_ble_eq_true rfl) ⟨by rw [hk, th_31], B, τ, f, by rw [hk, up_self he]; exact hR.base.thk _, fun h => (by rw [hk, th_31] at h; exact absurd h (by decide))⟩
    · cases hE
      refine v_catch o [⟨0, 14, 17, 21⟩] ⟨0, 14, 21, 13⟩ [⟨0, 14, 25, 15⟩] hex (by
          intro y hy
          simp only [List.mem_cons, List.not_mem_nil, or_false] at hy
          rcases hy with rfl
          · exact ⟨by decide, _, cl_L_21, by decide⟩) rfl (by decide) cl_L_13 ca_A (fun q => ?_)
      refine v_astore [(7, .ref q), (0, .ref x), (1, .int a0), (2, .int a1), (3, .int a2), (4, .long a3), (6, .ref u)] o dL_shot_21 (by decide) rfl ?_
      refine v_iconst 2 o dL_shot_23 rfl ?_
      exact v_iret o dL_shot_24 hr (Nat.le_of_ble_eq_true rfl) (Nat.le_of_ble_eq_true rfl) ⟨by rw [hk, th_31], B, τ, f, by rw [hk, up_self he]; exact hR.base.thk _, fun h => (by rw [hk, th_31] at h; exact absurd h (by decide))⟩
    · cases hE
      refine v_catch o [⟨0, 14, 17, 21⟩, ⟨0, 14, 21, 13⟩] ⟨0, 14, 25, 15⟩ [] hex (by
          intro y hy
          simp only [List.mem_cons, List.not_mem_nil, or_false] at hy
          rcases hy with rfl | rfl
          · exact ⟨by decide, _, cl_L_21, by decide⟩
          · exact ⟨by decide, _, cl_L_13, by decide⟩) rfl (by decide) cl_L_15 ca_S (fun q => ?_)
      refine v_astore [(7, .ref q), (0, .ref x), (1, .int a0), (2, .int a1), (3, .int a2), (4, .long a3), (6, .ref u)] o dL_shot_25 (by decide) rfl ?_
      refine v_iconst 3 o dL_shot_27 rfl ?_
      exact v_iret o dL_shot_28 hr (Nat.le_of_ble_eq_true rfl) (Nat.le_of_ble_eq_true rfl) ⟨by rw [hk, th_31], B, τ, f, by rw [hk, up_self he]; exact hR.base.thk _, fun h => (by rw [hk, th_31] at h; exact absurd h (by decide))⟩
    · cases hE

set_option maxRecDepth 100000 in
set_option maxHeartbeats 4000000 in
theorem w_look {l : Launch} (hl : l.stackTraces = false) {g : mG} {x z z0 : Nat} {B : Nat → Nat} {μ0 μ : mM} {σ τ : Sg} (hR : RC g x B z0 μ0 σ τ μ) (hI : Inv σ) (a0 : Int32) (a1 : Int32) {u : Nat} {f : Nat → Int64} (hu : x + 12 ≤ u) (hu2 : u < z0) (he : μ u = some (.inl (g.2.1 2, aL 1 f))) : Ct l g yL_look [Cond.codeWith yL_look cL_look 5 (some .int) [(0, 17, 20, 21), (0, 17, 24, 15)]] { frames := 8, cells := 1, slots := 6, locals := 127 } [.ref x, .int a0, .int a1, .ref u] μ z (wP g x z0 μ u (sp_look σ a0 a1).1.toInt64 (sp_look σ a0 a1).2) (noX) := by
  refine Ct.ofH hl (by decide +kernel) (Nat.le_of_ble_eq_true rfl) ?_
  intro p e s mi args below meth c o hnm hr hex
  have o : Ok p l s mi args meth c g cL_look 5 RL := o
  refine v_lv [(0, .ref x), (1, .int a0), (2, .int a1), (3, .ref u)] rfl ?_
  refine v_aload_n 3 o dL_look_0 rfl rfl ?_
  refine v_iconst 0 o dL_look_1 rfl ?_
  refine v_aload_n 0 o dL_look_2 rfl rfl ?_
  refine v_iload_n 1 o dL_look_3 rfl rfl ?_
  refine v_iload_n 2 o dL_look_4 rfl rfl ?_
  refine v_callV [.int a0, .int a1] [.int (nI 0), .ref u] o dL_look_5 cw_L_23 im_X5_look se_X5_look cf5 hR.h0 (k_look hl hR.base hI a0 a1) rfl rfl ⟨Nat.le_of_ble_eq_true rfl, Nat.le_of_ble_eq_true rfl⟩ ⟨Nat.le_of_ble_eq_true rfl, Nat.le_of_ble_eq_true rfl⟩ (Nat.le_of_ble_eq_true rfl) ?_ ?_
  · rintro r9 μ9 z9 - ⟨rfl, h31, B9, τ9, hR9⟩
    refine v_st [.int ((sp_look σ a0 a1).1), .int (nI 0), .ref u] rfl ?_
    refine v_if_eq 15 o dL_look_8 (by decide) (fun c8 => ?_) (fun c8 => ?_)
    · refine v_lconst 0 o dL_look_15 (by decide) ?_
      refine v_last o dL_look_16 (by decide) (by decide) ((hR9.2.2.2 u (by omega) hu2).trans he) (fun μ8 e8 => ?_)
      refine v_goto 28 o dL_look_17 (by decide) ?_
      refine v_iconst 0 o dL_look_28 rfl ?_
      exact v_iret o dL_look_29 hr (Nat.le_of_ble_eq_true rfl) (Nat.le_of_ble_eq_true rfl) ⟨by rw [h31], B9, τ9, vp_updL f 0 (0), by rw [e8]; exact hR9.outw hu hu2 _, fun _ => (if_pos rfl : vp_updL f 0 (0) 0 = 0).trans (by show _ = _; rw [c8]; rfl)⟩
    · refine v_lconst 1 o dL_look_11 (by decide) ?_
      refine v_goto 16 o dL_look_12 (by decide) ?_
      refine v_last o dL_look_16 (by decide) (by decide) ((hR9.2.2.2 u (by omega) hu2).trans he) (fun μ8 e8 => ?_)
      refine v_goto 28 o dL_look_17 (by decide) ?_
      refine v_iconst 0 o dL_look_28 rfl ?_
      exact v_iret o dL_look_29 hr (Nat.le_of_ble_eq_true rfl) (Nat.le_of_ble_eq_true rfl) ⟨by rw [h31], B9, τ9, vp_updL f 0 (1), by rw [e8]; exact hR9.outw hu hu2 _, fun _ => (if_pos rfl : vp_updL f 0 (1) 0 = 1).trans (by show _ = _; rw [(bb_look σ a0 a1).resolve_left c8]; rfl)⟩
  · rintro E μ9 z9 - ⟨⟨k, hk, hE⟩, rfl⟩
    rcases k with _ | _ | k
    · cases hE
      refine v_catch o [] ⟨0, 17, 20, 21⟩ [⟨0, 17, 24, 15⟩] hex (fun y hy => by cases hy) rfl (by decide) cl_L_21 ca_O (fun q => ?_)
      refine v_astore [(4, .ref q), (0, .ref x), (1, .int a0), (2, .int a1), (3, .ref u)] o dL_look_20 (by decide) rfl ?_
      refine v_iconst 1 o dL_look_22 rfl ?_
      exact v_iret o dL_look_23 hr (Nat.le_of_ble_eq_true rfl) (Nat.le_of_ble_eq_true rfl) ⟨by rw [hk, th_31], B, τ, f, by rw [hk, up_self he]; exact hR.base.thk _, fun h => (by rw [hk, th_31] at h; exact absurd h (by decide))⟩
    · cases hE
      refine v_catch o [⟨0, 17, 20, 21⟩] ⟨0, 17, 24, 15⟩ [] hex (by
          intro y hy
          simp only [List.mem_cons, List.not_mem_nil, or_false] at hy
          rcases hy with rfl
          · exact ⟨by decide, _, cl_L_21, by decide⟩) rfl (by decide) cl_L_15 ca_S (fun q => ?_)
      refine v_astore [(4, .ref q), (0, .ref x), (1, .int a0), (2, .int a1), (3, .ref u)] o dL_look_24 (by decide) rfl ?_
      refine v_iconst 2 o dL_look_26 rfl ?_
      exact v_iret o dL_look_27 hr (Nat.le_of_ble_eq_true rfl) (Nat.le_of_ble_eq_true rfl) ⟨by rw [hk, th_31], B, τ, f, by rw [hk, up_self he]; exact hR.base.thk _, fun h => (by rw [hk, th_31] at h; exact absurd h (by decide))⟩
    · cases hE

set_option maxRecDepth 100000 in
set_option maxHeartbeats 4000000 in
theorem w_rot {l : Launch} (hl : l.stackTraces = false) {g : mG} {x z z0 : Nat} {B : Nat → Nat} {μ0 μ : mM} {σ τ : Sg} (hR : RC g x B z0 μ0 σ τ μ) (hI : Inv σ) (a0 : Int32) (a1 : Int32) (a2 : Int32) (a3 : Int32) {u : Nat} {f : Nat → Int64} (hu : x + 12 ≤ u) (hu2 : u < z0) (he : μ u = some (.inl (g.2.1 2, aL 1 f))) : Ct l g yL_rot [Cond.codeWith yL_rot cL_rot 7 (some .int) [(0, 21, 24, 21), (0, 21, 28, 13), (0, 21, 32, 15)]] { frames := 8, cells := 1, slots := 6, locals := 129 } [.ref x, .int a0, .int a1, .int a2, .int a3, .ref u] μ z (wP g x z0 μ u (sp_rot σ a0 a1 a2 a3).1.toInt64 (sp_rot σ a0 a1 a2 a3).2) (noX) := by
  refine Ct.ofH hl (by decide +kernel) (Nat.le_of_ble_eq_true rfl) ?_
  intro p e s mi args below meth c o hnm hr hex
  have o : Ok p l s mi args meth c g cL_rot 7 RL := o
  refine v_lv [(0, .ref x), (1, .int a0), (2, .int a1), (3, .int a2), (4, .int a3), (5, .ref u)] rfl ?_
  refine v_aload 5 o dL_rot_0 rfl ?_
  refine v_iconst 0 o dL_rot_2 rfl ?_
  refine v_aload_n 0 o dL_rot_3 rfl rfl ?_
  refine v_iload_n 1 o dL_rot_4 rfl rfl ?_
  refine v_iload_n 2 o dL_rot_5 rfl rfl ?_
  refine v_iload_n 3 o dL_rot_6 rfl rfl ?_
  refine v_iload 4 o dL_rot_7 rfl ?_
  refine v_callV [.int a0, .int a1, .int a2, .int a3] [.int (nI 0), .ref u] o dL_rot_9 cw_L_27 im_X5_rot se_X5_rot cf5 hR.h0 (k_rot hl hR.base hI a0 a1 a2 a3) rfl rfl ⟨Nat.le_of_ble_eq_true rfl, Nat.le_of_ble_eq_true rfl⟩ ⟨Nat.le_of_ble_eq_true rfl, Nat.le_of_ble_eq_true rfl⟩ (Nat.le_of_ble_eq_true rfl) ?_ ?_
  · rintro r9 μ9 z9 - ⟨rfl, h31, B9, τ9, hR9⟩
    refine v_st [.int ((sp_rot σ a0 a1 a2 a3).1), .int (nI 0), .ref u] rfl ?_
    refine v_if_eq 19 o dL_rot_12 (by decide) (fun c12 => ?_) (fun c12 => ?_)
    · refine v_lconst 0 o dL_rot_19 (by decide) ?_
      refine v_last o dL_rot_20 (by decide) (by decide) ((hR9.2.2.2 u (by omega) hu2).trans he) (fun μ8 e8 => ?_)
      refine v_goto 36 o dL_rot_21 (by decide) ?_
      refine v_iconst 0 o dL_rot_36 rfl ?_
      exact v_iret o dL_rot_37 hr (Nat.le_of_ble_eq_true rfl) (Nat.le_of_ble_eq_true rfl) ⟨by rw [h31], B9, τ9, vp_updL f 0 (0), by rw [e8]; exact hR9.outw hu hu2 _, fun _ => (if_pos rfl : vp_updL f 0 (0) 0 = 0).trans (by show _ = _; rw [c12]; rfl)⟩
    · refine v_lconst 1 o dL_rot_15 (by decide) ?_
      refine v_goto 20 o dL_rot_16 (by decide) ?_
      refine v_last o dL_rot_20 (by decide) (by decide) ((hR9.2.2.2 u (by omega) hu2).trans he) (fun μ8 e8 => ?_)
      refine v_goto 36 o dL_rot_21 (by decide) ?_
      refine v_iconst 0 o dL_rot_36 rfl ?_
      exact v_iret o dL_rot_37 hr (Nat.le_of_ble_eq_true rfl) (Nat.le_of_ble_eq_true rfl) ⟨by rw [h31], B9, τ9, vp_updL f 0 (1), by rw [e8]; exact hR9.outw hu hu2 _, fun _ => (if_pos rfl : vp_updL f 0 (1) 0 = 1).trans (by show _ = _; rw [(bb_rot σ a0 a1 a2 a3).resolve_left c12]; rfl)⟩
  · rintro E μ9 z9 - ⟨⟨k, hk, hE⟩, rfl⟩
    rcases k with _ | _ | _ | k
    · cases hE
      refine v_catch o [] ⟨0, 21, 24, 21⟩ [⟨0, 21, 28, 13⟩, ⟨0, 21, 32, 15⟩] hex (fun y hy => by cases hy) rfl (by decide) cl_L_21 ca_O (fun q => ?_)
      refine v_astore [(6, .ref q), (0, .ref x), (1, .int a0), (2, .int a1), (3, .int a2), (4, .int a3), (5, .ref u)] o dL_rot_24 (by decide) rfl ?_
      refine v_iconst 1 o dL_rot_26 rfl ?_
      exact v_iret o dL_rot_27 hr (Nat.le_of_ble_eq_true rfl) (Nat.le_of_ble_eq_true rfl) ⟨by rw [hk, th_31], B, τ, f, by rw [hk, up_self he]; exact hR.base.thk _, fun h => (by rw [hk, th_31] at h; exact absurd h (by decide))⟩
    · cases hE
      refine v_catch o [⟨0, 21, 24, 21⟩] ⟨0, 21, 28, 13⟩ [⟨0, 21, 32, 15⟩] hex (by
          intro y hy
          simp only [List.mem_cons, List.not_mem_nil, or_false] at hy
          rcases hy with rfl
          · exact ⟨by decide, _, cl_L_21, by decide⟩) rfl (by decide) cl_L_13 ca_A (fun q => ?_)
      refine v_astore [(6, .ref q), (0, .ref x), (1, .int a0), (2, .int a1), (3, .int a2), (4, .int a3), (5, .ref u)] o dL_rot_28 (by decide) rfl ?_
      refine v_iconst 2 o dL_rot_30 rfl ?_
      exact v_iret o dL_rot_31 hr (Nat.le_of_ble_eq_true rfl) (Nat.le_of_ble_eq_true rfl) ⟨by rw [hk, th_31], B, τ, f, by rw [hk, up_self he]; exact hR.base.thk _, fun h => (by rw [hk, th_31] at h; exact absurd h (by decide))⟩
    · cases hE
      refine v_catch o [⟨0, 21, 24, 21⟩, ⟨0, 21, 28, 13⟩] ⟨0, 21, 32, 15⟩ [] hex (by
          intro y hy
          simp only [List.mem_cons, List.not_mem_nil, or_false] at hy
          rcases hy with rfl | rfl
          · exact ⟨by decide, _, cl_L_21, by decide⟩
          · exact ⟨by decide, _, cl_L_13, by decide⟩) rfl (by decide) cl_L_15 ca_S (fun q => ?_)
      refine v_astore [(6, .ref q), (0, .ref x), (1, .int a0), (2, .int a1), (3, .int a2), (4, .int a3), (5, .ref u)] o dL_rot_32 (by decide) rfl ?_
      refine v_iconst 3 o dL_rot_34 rfl ?_
      exact v_iret o dL_rot_35 hr (Nat.le_of_ble_eq_true rfl) (Nat.le_of_ble_eq_true rfl) ⟨by rw [hk, th_31], B, τ, f, by rw [hk, up_self he]; exact hR.base.thk _, fun h => (by rw [hk, th_31] at h; exact absurd h (by decide))⟩
    · cases hE

set_option maxRecDepth 100000 in
set_option maxHeartbeats 4000000 in
theorem w_burn {l : Launch} (hl : l.stackTraces = false) {g : mG} {x z z0 : Nat} {B : Nat → Nat} {μ0 μ : mM} {σ τ : Sg} (hR : RC g x B z0 μ0 σ τ μ) (hI : Inv σ) (a0 : Int32) {u : Nat} {f : Nat → Int64} (hu : x + 12 ≤ u) (hu2 : u < z0) (he : μ u = some (.inl (g.2.1 2, aL 1 f))) : Ct l g yL_burn [Cond.codeWith yL_burn cL_burn 4 (some .int) [(0, 9, 12, 21), (0, 9, 15, 15)]] { frames := 9, cells := 1, slots := 6, locals := 149 } [.ref x, .int a0, .ref u] μ z (wP g x z0 μ u (sp_burn σ a0).1.toInt64 (sp_burn σ a0).2) (noX) := by
  refine Ct.ofH hl (by decide +kernel) (Nat.le_of_ble_eq_true rfl) ?_
  intro p e s mi args below meth c o hnm hr hex
  have o : Ok p l s mi args meth c g cL_burn 4 RL := o
  refine v_lv [(0, .ref x), (1, .int a0), (2, .ref u)] rfl ?_
  refine v_aload_n 2 o dL_burn_0 rfl rfl ?_
  refine v_iconst 0 o dL_burn_1 rfl ?_
  refine v_aload_n 0 o dL_burn_2 rfl rfl ?_
  refine v_iload_n 1 o dL_burn_3 rfl rfl ?_
  refine v_callV [.int a0] [.int (nI 0), .ref u] o dL_burn_4 cw_L_31 im_X5_burn se_X5_burn cf5 hR.h0 (k_burn hl hR.base hI a0) rfl rfl ⟨Nat.le_of_ble_eq_true rfl, Nat.le_of_ble_eq_true rfl⟩ ⟨Nat.le_of_ble_eq_true rfl, Nat.le_of_ble_eq_true rfl⟩ (Nat.le_of_ble_eq_true rfl) ?_ ?_
  · rintro r9 μ9 z9 - ⟨rfl, h31, B9, τ9, hR9⟩
    refine v_st [.int ((sp_burn σ a0).1), .int (nI 0), .ref u] rfl ?_
    refine v_i2l (((sp_burn σ a0).1).toInt64) o dL_burn_7 rfl ?_
    refine v_last o dL_burn_8 (by decide) (by decide) ((hR9.2.2.2 u (by omega) hu2).trans he) (fun μ8 e8 => ?_)
    refine v_goto 18 o dL_burn_9 (by decide) ?_
    refine v_iconst 0 o dL_burn_18 rfl ?_
    exact v_iret o dL_burn_19 hr (Nat.le_of_ble_eq_true rfl) (Nat.le_of_ble_eq_true rfl) ⟨by rw [h31], B9, τ9, vp_updL f 0 (((sp_burn σ a0).1).toInt64), by rw [e8]; exact hR9.outw hu hu2 _, fun _ => (if_pos rfl : vp_updL f 0 (((sp_burn σ a0).1).toInt64) 0 = ((sp_burn σ a0).1).toInt64).trans rfl⟩
  · rintro E μ9 z9 - ⟨⟨k, hk, hE⟩, rfl⟩
    rcases k with _ | _ | k
    · cases hE
      refine v_catch o [] ⟨0, 9, 12, 21⟩ [⟨0, 9, 15, 15⟩] hex (fun y hy => by cases hy) rfl (by decide) cl_L_21 ca_O (fun q => ?_)
      refine v_astore_n [(3, .ref q), (0, .ref x), (1, .int a0), (2, .ref u)] o dL_burn_12 rfl (by decide) rfl ?_
      refine v_iconst 1 o dL_burn_13 rfl ?_
      exact v_iret o dL_burn_14 hr (Nat.le_of_ble_eq_true rfl) (Nat.le_of_ble_eq_true rfl) ⟨by rw [hk, th_31], B, τ, f, by rw [hk, up_self he]; exact hR.base.thk _, fun h => (by rw [hk, th_31] at h; exact absurd h (by decide))⟩
    · cases hE
      refine v_catch o [⟨0, 9, 12, 21⟩] ⟨0, 9, 15, 15⟩ [] hex (by
          intro y hy
          simp only [List.mem_cons, List.not_mem_nil, or_false] at hy
          rcases hy with rfl
          · exact ⟨by decide, _, cl_L_21, by decide⟩) rfl (by decide) cl_L_15 ca_S (fun q => ?_)
      refine v_astore_n [(3, .ref q), (0, .ref x), (1, .int a0), (2, .ref u)] o dL_burn_15 rfl (by decide) rfl ?_
      refine v_iconst 2 o dL_burn_16 rfl ?_
      exact v_iret o dL_burn_17 hr (Nat.le_of_ble_eq_true rfl) (Nat.le_of_ble_eq_true rfl) ⟨by rw [hk, th_31], B, τ, f, by rw [hk, up_self he]; exact hR.base.thk _, fun h => (by rw [hk, th_31] at h; exact absurd h (by decide))⟩
    · cases hE

set_option maxRecDepth 100000 in
set_option maxHeartbeats 4000000 in
theorem w_build {l : Launch} (hl : l.stackTraces = false) {g : mG} {x z z0 : Nat} {B : Nat → Nat} {μ0 μ : mM} {σ τ : Sg} (hR : RC g x B z0 μ0 σ τ μ) (hI : Inv σ) (a0 : Int32) : Ct l g yL_build [Cond.codeWith yL_build cL_build 3 (some .int) [(0, 5, 8, 21), (0, 5, 11, 15)]] { frames := 8, cells := 1, slots := 6, locals := 123 } [.ref x, .int a0] μ z (wP0 g x z0 μ (sp_build σ a0)) (noX) := by
  refine Ct.ofH hl (by decide +kernel) (Nat.le_of_ble_eq_true rfl) ?_
  intro p e s mi args below meth c o hnm hr hex
  have o : Ok p l s mi args meth c g cL_build 3 RL := o
  refine v_lv [(0, .ref x), (1, .int a0)] rfl ?_
  refine v_aload_n 0 o dL_build_0 rfl rfl ?_
  refine v_iload_n 1 o dL_build_1 rfl rfl ?_
  refine v_callV [.int a0] [] o dL_build_2 cw_L_35 im_X5_build se_X5_build cf5 hR.h0 (k_build hl hR.base hI a0) rfl rfl ⟨Nat.le_of_ble_eq_true rfl, Nat.le_of_ble_eq_true rfl⟩ ⟨Nat.le_of_ble_eq_true rfl, Nat.le_of_ble_eq_true rfl⟩ (Nat.le_of_ble_eq_true rfl) ?_ ?_
  · rintro r9 μ9 z9 - ⟨rfl, h31, B9, τ9, hR9⟩
    refine v_st [] rfl ?_
    refine v_goto 14 o dL_build_5 (by decide) ?_
    refine v_iconst 0 o dL_build_14 rfl ?_
    exact v_iret o dL_build_15 hr (Nat.le_of_ble_eq_true rfl) (Nat.le_of_ble_eq_true rfl) ⟨by rw [h31], B9, τ9, hR9⟩
  · rintro E μ9 z9 - ⟨⟨k, hk, hE⟩, rfl⟩
    rcases k with _ | _ | k
    · cases hE
      refine v_catch o [] ⟨0, 5, 8, 21⟩ [⟨0, 5, 11, 15⟩] hex (fun y hy => by cases hy) rfl (by decide) cl_L_21 ca_O (fun q => ?_)
      refine v_astore_n [(2, .ref q), (0, .ref x), (1, .int a0)] o dL_build_8 rfl (by decide) rfl ?_
      refine v_iconst 1 o dL_build_9 rfl ?_
      exact v_iret o dL_build_10 hr (Nat.le_of_ble_eq_true rfl) (Nat.le_of_ble_eq_true rfl) ⟨by rw [hk, th_31], B, τ, by rw [hk]; exact hR.base.thk _⟩
    · cases hE
      refine v_catch o [⟨0, 5, 8, 21⟩] ⟨0, 5, 11, 15⟩ [] hex (by
          intro y hy
          simp only [List.mem_cons, List.not_mem_nil, or_false] at hy
          rcases hy with rfl
          · exact ⟨by decide, _, cl_L_21, by decide⟩) rfl (by decide) cl_L_15 ca_S (fun q => ?_)
      refine v_astore_n [(2, .ref q), (0, .ref x), (1, .int a0)] o dL_build_11 rfl (by decide) rfl ?_
      refine v_iconst 2 o dL_build_12 rfl ?_
      exact v_iret o dL_build_13 hr (Nat.le_of_ble_eq_true rfl) (Nat.le_of_ble_eq_true rfl) ⟨by rw [hk, th_31], B, τ, by rw [hk]; exact hR.base.thk _⟩
    · cases hE

set_option maxRecDepth 100000 in
set_option maxHeartbeats 4000000 in
theorem w_check {l : Launch} (hl : l.stackTraces = false) {g : mG} {x z z0 : Nat} {B : Nat → Nat} {μ0 μ : mM} {σ τ : Sg} (hR : RC g x B z0 μ0 σ τ μ) (hI : Inv σ) (a0 : Int32) (a1 : Int32) {u : Nat} {f : Nat → Int64} (hu : x + 12 ≤ u) (hu2 : u < z0) (he : μ u = some (.inl (g.2.1 2, aL 1 f))) : Ct l g yL_check [Cond.codeWith yL_check cL_check 5 (some .int) [(0, 10, 13, 21)]] { frames := 8, cells := 1, slots := 6, locals := 127 } [.ref x, .int a0, .int a1, .ref u] μ z (wP g x z0 μ u (sp_check σ a0 a1).1.toInt64 (sp_check σ a0 a1).2) (noX) := by
  refine Ct.ofH hl (by decide +kernel) (Nat.le_of_ble_eq_true rfl) ?_
  intro p e s mi args below meth c o hnm hr hex
  have o : Ok p l s mi args meth c g cL_check 5 RL := o
  refine v_lv [(0, .ref x), (1, .int a0), (2, .int a1), (3, .ref u)] rfl ?_
  refine v_aload_n 3 o dL_check_0 rfl rfl ?_
  refine v_iconst 0 o dL_check_1 rfl ?_
  refine v_aload_n 0 o dL_check_2 rfl rfl ?_
  refine v_iload_n 1 o dL_check_3 rfl rfl ?_
  refine v_iload_n 2 o dL_check_4 rfl rfl ?_
  refine v_callV [.int a0, .int a1] [.int (nI 0), .ref u] o dL_check_5 cw_L_39 im_X5_check se_X5_check cf5 hR.h0 (k_check hl hR.base hI a0 a1) rfl rfl ⟨Nat.le_of_ble_eq_true rfl, Nat.le_of_ble_eq_true rfl⟩ ⟨Nat.le_of_ble_eq_true rfl, Nat.le_of_ble_eq_true rfl⟩ (Nat.le_of_ble_eq_true rfl) ?_ ?_
  · rintro r9 μ9 z9 - ⟨rfl, h31, B9, τ9, hR9⟩
    refine v_st [.int ((sp_check σ a0 a1).1), .int (nI 0), .ref u] rfl ?_
    refine v_i2l (((sp_check σ a0 a1).1).toInt64) o dL_check_8 rfl ?_
    refine v_last o dL_check_9 (by decide) (by decide) ((hR9.2.2.2 u (by omega) hu2).trans he) (fun μ8 e8 => ?_)
    refine v_goto 17 o dL_check_10 (by decide) ?_
    refine v_iconst 0 o dL_check_17 rfl ?_
    exact v_iret o dL_check_18 hr (Nat.le_of_ble_eq_true rfl) (Nat.le_of_ble_eq_true rfl) ⟨by rw [h31], B9, τ9, vp_updL f 0 (((sp_check σ a0 a1).1).toInt64), by rw [e8]; exact hR9.outw hu hu2 _, fun _ => (if_pos rfl : vp_updL f 0 (((sp_check σ a0 a1).1).toInt64) 0 = ((sp_check σ a0 a1).1).toInt64).trans rfl⟩
  · rintro E μ9 z9 - ⟨⟨k, hk, hE⟩, rfl⟩
    rcases k with _ | k
    · cases hE
      refine v_catch o [] ⟨0, 10, 13, 21⟩ [] hex (fun y hy => by cases hy) rfl (by decide) cl_L_21 ca_O (fun q => ?_)
      refine v_astore [(4, .ref q), (0, .ref x), (1, .int a0), (2, .int a1), (3, .ref u)] o dL_check_13 (by decide) rfl ?_
      refine v_iconst 1 o dL_check_15 rfl ?_
      exact v_iret o dL_check_16 hr (Nat.le_of_ble_eq_true rfl) (Nat.le_of_ble_eq_true rfl) ⟨by rw [hk, th_31], B, τ, f, by rw [hk, up_self he]; exact hR.base.thk _, fun h => (by rw [hk, th_31] at h; exact absurd h (by decide))⟩
    · cases hE

set_option maxRecDepth 100000 in
set_option maxHeartbeats 4000000 in
theorem w_mend {l : Launch} (hl : l.stackTraces = false) {g : mG} {x z z0 : Nat} {B : Nat → Nat} {μ0 μ : mM} {σ τ : Sg} (hR : RC g x B z0 μ0 σ τ μ) (hI : Inv σ) (a0 : Int32) (a1 : Int32) {u : Nat} {f : Nat → Int64} (hu : x + 12 ≤ u) (hu2 : u < z0) (he : μ u = some (.inl (g.2.1 2, aL 1 f))) : Ct l g yL_mend [Cond.codeWith yL_mend cL_mend 5 (some .int) [(0, 10, 13, 21), (0, 10, 17, 15)]] { frames := 9, cells := 1, slots := 6, locals := 151 } [.ref x, .int a0, .int a1, .ref u] μ z (wP g x z0 μ u (sp_mend σ a0 a1).1.toInt64 (sp_mend σ a0 a1).2) (noX) := by
  refine Ct.ofH hl (by decide +kernel) (Nat.le_of_ble_eq_true rfl) ?_
  intro p e s mi args below meth c o hnm hr hex
  have o : Ok p l s mi args meth c g cL_mend 5 RL := o
  refine v_lv [(0, .ref x), (1, .int a0), (2, .int a1), (3, .ref u)] rfl ?_
  refine v_aload_n 3 o dL_mend_0 rfl rfl ?_
  refine v_iconst 0 o dL_mend_1 rfl ?_
  refine v_aload_n 0 o dL_mend_2 rfl rfl ?_
  refine v_iload_n 1 o dL_mend_3 rfl rfl ?_
  refine v_iload_n 2 o dL_mend_4 rfl rfl ?_
  refine v_callV [.int a0, .int a1] [.int (nI 0), .ref u] o dL_mend_5 cw_L_43 im_X5_mend se_X5_mend cf5 hR.h0 (k_mend hl hR.base hI a0 a1) rfl rfl ⟨Nat.le_of_ble_eq_true rfl, Nat.le_of_ble_eq_true rfl⟩ ⟨Nat.le_of_ble_eq_true rfl, Nat.le_of_ble_eq_true rfl⟩ (Nat.le_of_ble_eq_true rfl) ?_ ?_
  · rintro r9 μ9 z9 - ⟨rfl, h31, B9, τ9, hR9⟩
    refine v_st [.int ((sp_mend σ a0 a1).1), .int (nI 0), .ref u] rfl ?_
    refine v_i2l (((sp_mend σ a0 a1).1).toInt64) o dL_mend_8 rfl ?_
    refine v_last o dL_mend_9 (by decide) (by decide) ((hR9.2.2.2 u (by omega) hu2).trans he) (fun μ8 e8 => ?_)
    refine v_goto 21 o dL_mend_10 (by decide) ?_
    refine v_iconst 0 o dL_mend_21 rfl ?_
    exact v_iret o dL_mend_22 hr (Nat.le_of_ble_eq_true rfl) (Nat.le_of_ble_eq_true rfl) ⟨by rw [h31], B9, τ9, vp_updL f 0 (((sp_mend σ a0 a1).1).toInt64), by rw [e8]; exact hR9.outw hu hu2 _, fun _ => (if_pos rfl : vp_updL f 0 (((sp_mend σ a0 a1).1).toInt64) 0 = ((sp_mend σ a0 a1).1).toInt64).trans rfl⟩
  · rintro E μ9 z9 - ⟨⟨k, hk, hE⟩, rfl⟩
    rcases k with _ | _ | k
    · cases hE
      refine v_catch o [] ⟨0, 10, 13, 21⟩ [⟨0, 10, 17, 15⟩] hex (fun y hy => by cases hy) rfl (by decide) cl_L_21 ca_O (fun q => ?_)
      refine v_astore [(4, .ref q), (0, .ref x), (1, .int a0), (2, .int a1), (3, .ref u)] o dL_mend_13 (by decide) rfl ?_
      refine v_iconst 1 o dL_mend_15 rfl ?_
      exact v_iret o dL_mend_16 hr (Nat.le_of_ble_eq_true rfl) (Nat.le_of_ble_eq_true rfl) ⟨by rw [hk, th_31], B, τ, f, by rw [hk, up_self he]; exact hR.base.thk _, fun h => (by rw [hk, th_31] at h; exact absurd h (by decide))⟩
    · cases hE
      refine v_catch o [⟨0, 10, 13, 21⟩] ⟨0, 10, 17, 15⟩ [] hex (by
          intro y hy
          simp only [List.mem_cons, List.not_mem_nil, or_false] at hy
          rcases hy with rfl
          · exact ⟨by decide, _, cl_L_21, by decide⟩) rfl (by decide) cl_L_15 ca_S (fun q => ?_)
      refine v_astore [(4, .ref q), (0, .ref x), (1, .int a0), (2, .int a1), (3, .ref u)] o dL_mend_17 (by decide) rfl ?_
      refine v_iconst 2 o dL_mend_19 rfl ?_
      exact v_iret o dL_mend_20 hr (Nat.le_of_ble_eq_true rfl) (Nat.le_of_ble_eq_true rfl) ⟨by rw [hk, th_31], B, τ, f, by rw [hk, up_self he]; exact hR.base.thk _, fun h => (by rw [hk, th_31] at h; exact absurd h (by decide))⟩
    · cases hE

set_option maxRecDepth 100000 in
set_option maxHeartbeats 4000000 in
theorem w_copy {l : Launch} (hl : l.stackTraces = false) {g : mG} {x z z0 : Nat} {B : Nat → Nat} {μ0 μ : mM} {σ τ : Sg} (hR : RC g x B z0 μ0 σ τ μ) (hI : Inv σ) (a0 : Int32) (a1 : Int32) (a2 : Int32) {u : Nat} {f : Nat → Int64} (hu : x + 12 ≤ u) (hu2 : u < z0) (he : μ u = some (.inl (g.2.1 2, aL 1 f))) : Ct l g yL_copy [Cond.codeWith yL_copy cL_copy 6 (some .int) [(0, 11, 14, 21), (0, 11, 18, 15)]] { frames := 8, cells := 1, slots := 6, locals := 128 } [.ref x, .int a0, .int a1, .int a2, .ref u] μ z (wP g x z0 μ u (sp_copy σ a0 a1 a2).1 (sp_copy σ a0 a1 a2).2) (noX) := by
  refine Ct.ofH hl (by decide +kernel) (Nat.le_of_ble_eq_true rfl) ?_
  intro p e s mi args below meth c o hnm hr hex
  have o : Ok p l s mi args meth c g cL_copy 6 RL := o
  refine v_lv [(0, .ref x), (1, .int a0), (2, .int a1), (3, .int a2), (4, .ref u)] rfl ?_
  refine v_aload 4 o dL_copy_0 rfl ?_
  refine v_iconst 0 o dL_copy_2 rfl ?_
  refine v_aload_n 0 o dL_copy_3 rfl rfl ?_
  refine v_iload_n 1 o dL_copy_4 rfl rfl ?_
  refine v_iload_n 2 o dL_copy_5 rfl rfl ?_
  refine v_iload_n 3 o dL_copy_6 rfl rfl ?_
  refine v_callV [.int a0, .int a1, .int a2] [.int (nI 0), .ref u] o dL_copy_7 cw_L_46 im_X5_copy se_X5_copy cf5 hR.h0 (k_copy hl hR.base hI a0 a1 a2) rfl rfl ⟨Nat.le_of_ble_eq_true rfl, Nat.le_of_ble_eq_true rfl⟩ ⟨Nat.le_of_ble_eq_true rfl, Nat.le_of_ble_eq_true rfl⟩ (Nat.le_of_ble_eq_true rfl) ?_ ?_
  · rintro r9 μ9 z9 - ⟨rfl, h31, B9, τ9, hR9⟩
    refine v_st [.long ((sp_copy σ a0 a1 a2).1), .int (nI 0), .ref u] rfl ?_
    refine v_last o dL_copy_10 (by decide) (by decide) ((hR9.2.2.2 u (by omega) hu2).trans he) (fun μ8 e8 => ?_)
    refine v_goto 22 o dL_copy_11 (by decide) ?_
    refine v_iconst 0 o dL_copy_22 rfl ?_
    exact v_iret o dL_copy_23 hr (Nat.le_of_ble_eq_true rfl) (Nat.le_of_ble_eq_true rfl) ⟨by rw [h31], B9, τ9, vp_updL f 0 ((sp_copy σ a0 a1 a2).1), by rw [e8]; exact hR9.outw hu hu2 _, fun _ => (if_pos rfl : vp_updL f 0 ((sp_copy σ a0 a1 a2).1) 0 = (sp_copy σ a0 a1 a2).1).trans rfl⟩
  · rintro E μ9 z9 - ⟨⟨k, hk, hE⟩, rfl⟩
    rcases k with _ | _ | k
    · cases hE
      refine v_catch o [] ⟨0, 11, 14, 21⟩ [⟨0, 11, 18, 15⟩] hex (fun y hy => by cases hy) rfl (by decide) cl_L_21 ca_O (fun q => ?_)
      refine v_astore [(5, .ref q), (0, .ref x), (1, .int a0), (2, .int a1), (3, .int a2), (4, .ref u)] o dL_copy_14 (by decide) rfl ?_
      refine v_iconst 1 o dL_copy_16 rfl ?_
      exact v_iret o dL_copy_17 hr (Nat.le_of_ble_eq_true rfl) (Nat.le_of_ble_eq_true rfl) ⟨by rw [hk, th_31], B, τ, f, by rw [hk, up_self he]; exact hR.base.thk _, fun h => (by rw [hk, th_31] at h; exact absurd h (by decide))⟩
    · cases hE
      refine v_catch o [⟨0, 11, 14, 21⟩] ⟨0, 11, 18, 15⟩ [] hex (by
          intro y hy
          simp only [List.mem_cons, List.not_mem_nil, or_false] at hy
          rcases hy with rfl
          · exact ⟨by decide, _, cl_L_21, by decide⟩) rfl (by decide) cl_L_15 ca_S (fun q => ?_)
      refine v_astore [(5, .ref q), (0, .ref x), (1, .int a0), (2, .int a1), (3, .int a2), (4, .ref u)] o dL_copy_18 (by decide) rfl ?_
      refine v_iconst 2 o dL_copy_20 rfl ?_
      exact v_iret o dL_copy_21 hr (Nat.le_of_ble_eq_true rfl) (Nat.le_of_ble_eq_true rfl) ⟨by rw [hk, th_31], B, τ, f, by rw [hk, up_self he]; exact hR.base.thk _, fun h => (by rw [hk, th_31] at h; exact absurd h (by decide))⟩
    · cases hE

set_option maxRecDepth 100000 in
set_option maxHeartbeats 4000000 in
theorem w_isLost {l : Launch} (hl : l.stackTraces = false) {g : mG} {x z z0 : Nat} {B : Nat → Nat} {μ0 μ : mM} {σ τ : Sg} (hR : RC g x B z0 μ0 σ τ μ) (hI : Inv σ) (a0 : Int32) (a1 : Int32) {u : Nat} {f : Nat → Int64} (hu : x + 12 ≤ u) (hu2 : u < z0) (he : μ u = some (.inl (g.2.1 2, aL 1 f))) : Ct l g yL_isLost [Cond.codeWith yL_isLost cL_isLost 5 (some .int) [(0, 17, 20, 21)]] { frames := 8, cells := 1, slots := 6, locals := 126 } [.ref x, .int a0, .int a1, .ref u] μ z (wP g x z0 μ u (sp_isLost σ a0 a1).1.toInt64 (sp_isLost σ a0 a1).2) (noX) := by
  refine Ct.ofH hl (by decide +kernel) (Nat.le_of_ble_eq_true rfl) ?_
  intro p e s mi args below meth c o hnm hr hex
  have o : Ok p l s mi args meth c g cL_isLost 5 RL := o
  refine v_lv [(0, .ref x), (1, .int a0), (2, .int a1), (3, .ref u)] rfl ?_
  refine v_aload_n 3 o dL_isLost_0 rfl rfl ?_
  refine v_iconst 0 o dL_isLost_1 rfl ?_
  refine v_aload_n 0 o dL_isLost_2 rfl rfl ?_
  refine v_iload_n 1 o dL_isLost_3 rfl rfl ?_
  refine v_iload_n 2 o dL_isLost_4 rfl rfl ?_
  refine v_callV [.int a0, .int a1] [.int (nI 0), .ref u] o dL_isLost_5 cw_L_50 im_X5_isLost se_X5_isLost cf5 hR.h0 (k_isLost hl hR.base hI a0 a1) rfl rfl ⟨Nat.le_of_ble_eq_true rfl, Nat.le_of_ble_eq_true rfl⟩ ⟨Nat.le_of_ble_eq_true rfl, Nat.le_of_ble_eq_true rfl⟩ (Nat.le_of_ble_eq_true rfl) ?_ ?_
  · rintro r9 μ9 z9 - ⟨rfl, h31, B9, τ9, hR9⟩
    refine v_st [.int ((sp_isLost σ a0 a1).1), .int (nI 0), .ref u] rfl ?_
    refine v_if_eq 15 o dL_isLost_8 (by decide) (fun c8 => ?_) (fun c8 => ?_)
    · refine v_lconst 0 o dL_isLost_15 (by decide) ?_
      refine v_last o dL_isLost_16 (by decide) (by decide) ((hR9.2.2.2 u (by omega) hu2).trans he) (fun μ8 e8 => ?_)
      refine v_goto 24 o dL_isLost_17 (by decide) ?_
      refine v_iconst 0 o dL_isLost_24 rfl ?_
      exact v_iret o dL_isLost_25 hr (Nat.le_of_ble_eq_true rfl) (Nat.le_of_ble_eq_true rfl) ⟨by rw [h31], B9, τ9, vp_updL f 0 (0), by rw [e8]; exact hR9.outw hu hu2 _, fun _ => (if_pos rfl : vp_updL f 0 (0) 0 = 0).trans (by show _ = _; rw [c8]; rfl)⟩
    · refine v_lconst 1 o dL_isLost_11 (by decide) ?_
      refine v_goto 16 o dL_isLost_12 (by decide) ?_
      refine v_last o dL_isLost_16 (by decide) (by decide) ((hR9.2.2.2 u (by omega) hu2).trans he) (fun μ8 e8 => ?_)
      refine v_goto 24 o dL_isLost_17 (by decide) ?_
      refine v_iconst 0 o dL_isLost_24 rfl ?_
      exact v_iret o dL_isLost_25 hr (Nat.le_of_ble_eq_true rfl) (Nat.le_of_ble_eq_true rfl) ⟨by rw [h31], B9, τ9, vp_updL f 0 (1), by rw [e8]; exact hR9.outw hu hu2 _, fun _ => (if_pos rfl : vp_updL f 0 (1) 0 = 1).trans (by show _ = _; rw [(bb_isLost σ a0 a1).resolve_left c8]; rfl)⟩
  · rintro E μ9 z9 - ⟨⟨k, hk, hE⟩, rfl⟩
    rcases k with _ | k
    · cases hE
      refine v_catch o [] ⟨0, 17, 20, 21⟩ [] hex (fun y hy => by cases hy) rfl (by decide) cl_L_21 ca_O (fun q => ?_)
      refine v_astore [(4, .ref q), (0, .ref x), (1, .int a0), (2, .int a1), (3, .ref u)] o dL_isLost_20 (by decide) rfl ?_
      refine v_iconst 1 o dL_isLost_22 rfl ?_
      exact v_iret o dL_isLost_23 hr (Nat.le_of_ble_eq_true rfl) (Nat.le_of_ble_eq_true rfl) ⟨by rw [hk, th_31], B, τ, f, by rw [hk, up_self he]; exact hR.base.thk _, fun h => (by rw [hk, th_31] at h; exact absurd h (by decide))⟩
    · cases hE

set_option maxRecDepth 100000 in
set_option maxHeartbeats 4000000 in
theorem w_words {l : Launch} (hl : l.stackTraces = false) {g : mG} {x z z0 : Nat} {B : Nat → Nat} {μ0 μ : mM} {σ τ : Sg} (hR : RC g x B z0 μ0 σ τ μ) (hI : Inv σ) (a0 : Int32) (a1 : Int32) (a2 : Int32) (a3 : Int32) : Ct l g yL_words [Cond.codeWith yL_words cL_words 6 (some .int) [(0, 9, 12, 21), (0, 9, 16, 13)]] { frames := 8, cells := 1, slots := 6, locals := 129 } [.ref x, .int a0, .int a1, .int a2, .int a3] μ z (wP0 g x z0 μ (sp_words σ a0 a1 a2 a3)) (noX) := by
  refine Ct.ofH hl (by decide +kernel) (Nat.le_of_ble_eq_true rfl) ?_
  intro p e s mi args below meth c o hnm hr hex
  have o : Ok p l s mi args meth c g cL_words 6 RL := o
  refine v_lv [(0, .ref x), (1, .int a0), (2, .int a1), (3, .int a2), (4, .int a3)] rfl ?_
  refine v_aload_n 0 o dL_words_0 rfl rfl ?_
  refine v_iload_n 1 o dL_words_1 rfl rfl ?_
  refine v_iload_n 2 o dL_words_2 rfl rfl ?_
  refine v_iload_n 3 o dL_words_3 rfl rfl ?_
  refine v_iload 4 o dL_words_4 rfl ?_
  refine v_callV [.int a0, .int a1, .int a2, .int a3] [] o dL_words_6 cw_L_53 im_X5_words se_X5_words cf5 hR.h0 (k_words hl hR.base hI a0 a1 a2 a3) rfl rfl ⟨Nat.le_of_ble_eq_true rfl, Nat.le_of_ble_eq_true rfl⟩ ⟨Nat.le_of_ble_eq_true rfl, Nat.le_of_ble_eq_true rfl⟩ (Nat.le_of_ble_eq_true rfl) ?_ ?_
  · rintro r9 μ9 z9 - ⟨rfl, h31, B9, τ9, hR9⟩
    refine v_st [] rfl ?_
    refine v_goto 20 o dL_words_9 (by decide) ?_
    refine v_iconst 0 o dL_words_20 rfl ?_
    exact v_iret o dL_words_21 hr (Nat.le_of_ble_eq_true rfl) (Nat.le_of_ble_eq_true rfl) ⟨by rw [h31], B9, τ9, hR9⟩
  · rintro E μ9 z9 - ⟨⟨k, hk, hE⟩, rfl⟩
    rcases k with _ | _ | k
    · cases hE
      refine v_catch o [] ⟨0, 9, 12, 21⟩ [⟨0, 9, 16, 13⟩] hex (fun y hy => by cases hy) rfl (by decide) cl_L_21 ca_O (fun q => ?_)
      refine v_astore [(5, .ref q), (0, .ref x), (1, .int a0), (2, .int a1), (3, .int a2), (4, .int a3)] o dL_words_12 (by decide) rfl ?_
      refine v_iconst 1 o dL_words_14 rfl ?_
      exact v_iret o dL_words_15 hr (Nat.le_of_ble_eq_true rfl) (Nat.le_of_ble_eq_true rfl) ⟨by rw [hk, th_31], B, τ, by rw [hk]; exact hR.base.thk _⟩
    · cases hE
      refine v_catch o [⟨0, 9, 12, 21⟩] ⟨0, 9, 16, 13⟩ [] hex (by
          intro y hy
          simp only [List.mem_cons, List.not_mem_nil, or_false] at hy
          rcases hy with rfl
          · exact ⟨by decide, _, cl_L_21, by decide⟩) rfl (by decide) cl_L_13 ca_A (fun q => ?_)
      refine v_astore [(5, .ref q), (0, .ref x), (1, .int a0), (2, .int a1), (3, .int a2), (4, .int a3)] o dL_words_16 (by decide) rfl ?_
      refine v_iconst 2 o dL_words_18 rfl ?_
      exact v_iret o dL_words_19 hr (Nat.le_of_ble_eq_true rfl) (Nat.le_of_ble_eq_true rfl) ⟨by rw [hk, th_31], B, τ, by rw [hk]; exact hR.base.thk _⟩
    · cases hE

set_option maxRecDepth 100000 in
set_option maxHeartbeats 4000000 in
theorem w_order {l : Launch} (hl : l.stackTraces = false) {g : mG} {x z z0 : Nat} {B : Nat → Nat} {μ0 μ : mM} {σ τ : Sg} (hR : RC g x B z0 μ0 σ τ μ) (hI : Inv σ) (a0 : Int32) (a1 : Int32) {u : Nat} {f : Nat → Int64} (hu : x + 12 ≤ u) (hu2 : u < z0) (he : μ u = some (.inl (g.2.1 2, aL 1 f))) : Ct l g yL_order [Cond.codeWith yL_order cL_order 5 (some .int) [(0, 10, 13, 21), (0, 10, 17, 15)]] { frames := 10, cells := 1, slots := 6, locals := 244 } [.ref x, .int a0, .int a1, .ref u] μ z (wP g x z0 μ u (sp_order σ a0 a1).1.toInt64 (sp_order σ a0 a1).2) (noX) := by
  refine Ct.ofH hl (by decide +kernel) (Nat.le_of_ble_eq_true rfl) ?_
  intro p e s mi args below meth c o hnm hr hex
  have o : Ok p l s mi args meth c g cL_order 5 RL := o
  refine v_lv [(0, .ref x), (1, .int a0), (2, .int a1), (3, .ref u)] rfl ?_
  refine v_aload_n 3 o dL_order_0 rfl rfl ?_
  refine v_iconst 0 o dL_order_1 rfl ?_
  refine v_aload_n 0 o dL_order_2 rfl rfl ?_
  refine v_iload_n 1 o dL_order_3 rfl rfl ?_
  refine v_iload_n 2 o dL_order_4 rfl rfl ?_
  refine v_callV [.int a0, .int a1] [.int (nI 0), .ref u] o dL_order_5 cw_L_57 im_X5_order se_X5_order cf5 hR.h0 (k_order hl hR.base hI a0 a1) rfl rfl ⟨Nat.le_of_ble_eq_true rfl, Nat.le_of_ble_eq_true rfl⟩ ⟨Nat.le_of_ble_eq_true rfl, Nat.le_of_ble_eq_true rfl⟩ (Nat.le_of_ble_eq_true rfl) ?_ ?_
  · rintro r9 μ9 z9 - ⟨rfl, h31, B9, τ9, hR9⟩
    refine v_st [.int ((sp_order σ a0 a1).1), .int (nI 0), .ref u] rfl ?_
    refine v_i2l (((sp_order σ a0 a1).1).toInt64) o dL_order_8 rfl ?_
    refine v_last o dL_order_9 (by decide) (by decide) ((hR9.2.2.2 u (by omega) hu2).trans he) (fun μ8 e8 => ?_)
    refine v_goto 21 o dL_order_10 (by decide) ?_
    refine v_iconst 0 o dL_order_21 rfl ?_
    exact v_iret o dL_order_22 hr (Nat.le_of_ble_eq_true rfl) (Nat.le_of_ble_eq_true rfl) ⟨by rw [h31], B9, τ9, vp_updL f 0 (((sp_order σ a0 a1).1).toInt64), by rw [e8]; exact hR9.outw hu hu2 _, fun _ => (if_pos rfl : vp_updL f 0 (((sp_order σ a0 a1).1).toInt64) 0 = ((sp_order σ a0 a1).1).toInt64).trans rfl⟩
  · rintro E μ9 z9 - ⟨⟨k, hk, hE⟩, rfl⟩
    rcases k with _ | _ | k
    · cases hE
      refine v_catch o [] ⟨0, 10, 13, 21⟩ [⟨0, 10, 17, 15⟩] hex (fun y hy => by cases hy) rfl (by decide) cl_L_21 ca_O (fun q => ?_)
      refine v_astore [(4, .ref q), (0, .ref x), (1, .int a0), (2, .int a1), (3, .ref u)] o dL_order_13 (by decide) rfl ?_
      refine v_iconst 1 o dL_order_15 rfl ?_
      exact v_iret o dL_order_16 hr (Nat.le_of_ble_eq_true rfl) (Nat.le_of_ble_eq_true rfl) ⟨by rw [hk, th_31], B, τ, f, by rw [hk, up_self he]; exact hR.base.thk _, fun h => (by rw [hk, th_31] at h; exact absurd h (by decide))⟩
    · cases hE
      refine v_catch o [⟨0, 10, 13, 21⟩] ⟨0, 10, 17, 15⟩ [] hex (by
          intro y hy
          simp only [List.mem_cons, List.not_mem_nil, or_false] at hy
          rcases hy with rfl
          · exact ⟨by decide, _, cl_L_21, by decide⟩) rfl (by decide) cl_L_15 ca_S (fun q => ?_)
      refine v_astore [(4, .ref q), (0, .ref x), (1, .int a0), (2, .int a1), (3, .ref u)] o dL_order_17 (by decide) rfl ?_
      refine v_iconst 2 o dL_order_19 rfl ?_
      exact v_iret o dL_order_20 hr (Nat.le_of_ble_eq_true rfl) (Nat.le_of_ble_eq_true rfl) ⟨by rw [hk, th_31], B, τ, f, by rw [hk, up_self he]; exact hR.base.thk _, fun h => (by rw [hk, th_31] at h; exact absurd h (by decide))⟩
    · cases hE

set_option maxRecDepth 100000 in
set_option maxHeartbeats 4000000 in
theorem w_orderAnew {l : Launch} (hl : l.stackTraces = false) {g : mG} {x z z0 : Nat} {B : Nat → Nat} {μ0 μ : mM} {σ τ : Sg} (hR : RC g x B z0 μ0 σ τ μ) (hI : Inv σ) (a0 : Int32) (a1 : Int32) {u : Nat} {f : Nat → Int64} (hu : x + 12 ≤ u) (hu2 : u < z0) (he : μ u = some (.inl (g.2.1 2, aL 1 f))) : Ct l g yL_orderAnew [Cond.codeWith yL_orderAnew cL_orderAnew 5 (some .int) [(0, 10, 13, 21), (0, 10, 17, 15)]] { frames := 9, cells := 1, slots := 6, locals := 150 } [.ref x, .int a0, .int a1, .ref u] μ z (wP g x z0 μ u (sp_order σ a0 a1).1.toInt64 (sp_order σ a0 a1).2) (noX) := by
  refine Ct.ofH hl (by decide +kernel) (Nat.le_of_ble_eq_true rfl) ?_
  intro p e s mi args below meth c o hnm hr hex
  have o : Ok p l s mi args meth c g cL_orderAnew 5 RL := o
  refine v_lv [(0, .ref x), (1, .int a0), (2, .int a1), (3, .ref u)] rfl ?_
  refine v_aload_n 3 o dL_orderAnew_0 rfl rfl ?_
  refine v_iconst 0 o dL_orderAnew_1 rfl ?_
  refine v_aload_n 0 o dL_orderAnew_2 rfl rfl ?_
  refine v_iload_n 1 o dL_orderAnew_3 rfl rfl ?_
  refine v_iload_n 2 o dL_orderAnew_4 rfl rfl ?_
  refine v_callV [.int a0, .int a1] [.int (nI 0), .ref u] o dL_orderAnew_5 cw_L_60 im_X5_orderAnew se_X5_orderAnew cf5 hR.h0 (k_orderAnew hl hR.base hI a0 a1) rfl rfl ⟨Nat.le_of_ble_eq_true rfl, Nat.le_of_ble_eq_true rfl⟩ ⟨Nat.le_of_ble_eq_true rfl, Nat.le_of_ble_eq_true rfl⟩ (Nat.le_of_ble_eq_true rfl) ?_ ?_
  · rintro r9 μ9 z9 - ⟨rfl, h31, B9, τ9, hR9⟩
    refine v_st [.int ((sp_order σ a0 a1).1), .int (nI 0), .ref u] rfl ?_
    refine v_i2l (((sp_order σ a0 a1).1).toInt64) o dL_orderAnew_8 rfl ?_
    refine v_last o dL_orderAnew_9 (by decide) (by decide) ((hR9.2.2.2 u (by omega) hu2).trans he) (fun μ8 e8 => ?_)
    refine v_goto 21 o dL_orderAnew_10 (by decide) ?_
    refine v_iconst 0 o dL_orderAnew_21 rfl ?_
    exact v_iret o dL_orderAnew_22 hr (Nat.le_of_ble_eq_true rfl) (Nat.le_of_ble_eq_true rfl) ⟨by rw [h31], B9, τ9, vp_updL f 0 (((sp_order σ a0 a1).1).toInt64), by rw [e8]; exact hR9.outw hu hu2 _, fun _ => (if_pos rfl : vp_updL f 0 (((sp_order σ a0 a1).1).toInt64) 0 = ((sp_order σ a0 a1).1).toInt64).trans rfl⟩
  · rintro E μ9 z9 - ⟨⟨k, hk, hE⟩, rfl⟩
    rcases k with _ | _ | k
    · cases hE
      refine v_catch o [] ⟨0, 10, 13, 21⟩ [⟨0, 10, 17, 15⟩] hex (fun y hy => by cases hy) rfl (by decide) cl_L_21 ca_O (fun q => ?_)
      refine v_astore [(4, .ref q), (0, .ref x), (1, .int a0), (2, .int a1), (3, .ref u)] o dL_orderAnew_13 (by decide) rfl ?_
      refine v_iconst 1 o dL_orderAnew_15 rfl ?_
      exact v_iret o dL_orderAnew_16 hr (Nat.le_of_ble_eq_true rfl) (Nat.le_of_ble_eq_true rfl) ⟨by rw [hk, th_31], B, τ, f, by rw [hk, up_self he]; exact hR.base.thk _, fun h => (by rw [hk, th_31] at h; exact absurd h (by decide))⟩
    · cases hE
      refine v_catch o [⟨0, 10, 13, 21⟩] ⟨0, 10, 17, 15⟩ [] hex (by
          intro y hy
          simp only [List.mem_cons, List.not_mem_nil, or_false] at hy
          rcases hy with rfl
          · exact ⟨by decide, _, cl_L_21, by decide⟩) rfl (by decide) cl_L_15 ca_S (fun q => ?_)
      refine v_astore [(4, .ref q), (0, .ref x), (1, .int a0), (2, .int a1), (3, .ref u)] o dL_orderAnew_17 (by decide) rfl ?_
      refine v_iconst 2 o dL_orderAnew_19 rfl ?_
      exact v_iret o dL_orderAnew_20 hr (Nat.le_of_ble_eq_true rfl) (Nat.le_of_ble_eq_true rfl) ⟨by rw [hk, th_31], B, τ, f, by rw [hk, up_self he]; exact hR.base.thk _, fun h => (by rw [hk, th_31] at h; exact absurd h (by decide))⟩
    · cases hE

set_option maxRecDepth 100000 in
set_option maxHeartbeats 4000000 in
theorem w_gold {l : Launch} (hl : l.stackTraces = false) {g : mG} {x z z0 : Nat} {B : Nat → Nat} {μ0 μ : mM} {σ τ : Sg} (hR : RC g x B z0 μ0 σ τ μ) (hI : Inv σ) (a0 : Int32) (a1 : Int32) (a2 : Int32) (a3 : Int32) {u : Nat} {f : Nat → Int64} (hu : x + 12 ≤ u) (hu2 : u < z0) (he : μ u = some (.inl (g.2.1 2, aL 1 f))) : Ct l g yL_gold [Cond.codeWith yL_gold cL_gold 7 (some .int) [(0, 14, 17, 21), (0, 14, 21, 13)]] { frames := 8, cells := 1, slots := 6, locals := 130 } [.ref x, .int a0, .int a1, .int a2, .int a3, .ref u] μ z (wP g x z0 μ u (sp_gold σ a0 a1 a2 a3).1.toInt64 (sp_gold σ a0 a1 a2 a3).2) (noX) := by
  refine Ct.ofH hl (by decide +kernel) (Nat.le_of_ble_eq_true rfl) ?_
  intro p e s mi args below meth c o hnm hr hex
  have o : Ok p l s mi args meth c g cL_gold 7 RL := o
  refine v_lv [(0, .ref x), (1, .int a0), (2, .int a1), (3, .int a2), (4, .int a3), (5, .ref u)] rfl ?_
  refine v_aload 5 o dL_gold_0 rfl ?_
  refine v_iconst 0 o dL_gold_2 rfl ?_
  refine v_aload_n 0 o dL_gold_3 rfl rfl ?_
  refine v_iload_n 1 o dL_gold_4 rfl rfl ?_
  refine v_iload_n 2 o dL_gold_5 rfl rfl ?_
  refine v_iload_n 3 o dL_gold_6 rfl rfl ?_
  refine v_iload 4 o dL_gold_7 rfl ?_
  refine v_callV [.int a0, .int a1, .int a2, .int a3] [.int (nI 0), .ref u] o dL_gold_9 cw_L_63 im_X5_gold se_X5_gold cf5 hR.h0 (k_gold hl hR.base hI a0 a1 a2 a3) rfl rfl ⟨Nat.le_of_ble_eq_true rfl, Nat.le_of_ble_eq_true rfl⟩ ⟨Nat.le_of_ble_eq_true rfl, Nat.le_of_ble_eq_true rfl⟩ (Nat.le_of_ble_eq_true rfl) ?_ ?_
  · rintro r9 μ9 z9 - ⟨rfl, h31, B9, τ9, hR9⟩
    refine v_st [.int ((sp_gold σ a0 a1 a2 a3).1), .int (nI 0), .ref u] rfl ?_
    refine v_i2l (((sp_gold σ a0 a1 a2 a3).1).toInt64) o dL_gold_12 rfl ?_
    refine v_last o dL_gold_13 (by decide) (by decide) ((hR9.2.2.2 u (by omega) hu2).trans he) (fun μ8 e8 => ?_)
    refine v_goto 25 o dL_gold_14 (by decide) ?_
    refine v_iconst 0 o dL_gold_25 rfl ?_
    exact v_iret o dL_gold_26 hr (Nat.le_of_ble_eq_true rfl) (Nat.le_of_ble_eq_true rfl) ⟨by rw [h31], B9, τ9, vp_updL f 0 (((sp_gold σ a0 a1 a2 a3).1).toInt64), by rw [e8]; exact hR9.outw hu hu2 _, fun _ => (if_pos rfl : vp_updL f 0 (((sp_gold σ a0 a1 a2 a3).1).toInt64) 0 = ((sp_gold σ a0 a1 a2 a3).1).toInt64).trans rfl⟩
  · rintro E μ9 z9 - ⟨⟨k, hk, hE⟩, rfl⟩
    rcases k with _ | _ | k
    · cases hE
      refine v_catch o [] ⟨0, 14, 17, 21⟩ [⟨0, 14, 21, 13⟩] hex (fun y hy => by cases hy) rfl (by decide) cl_L_21 ca_O (fun q => ?_)
      refine v_astore [(6, .ref q), (0, .ref x), (1, .int a0), (2, .int a1), (3, .int a2), (4, .int a3), (5, .ref u)] o dL_gold_17 (by decide) rfl ?_
      refine v_iconst 1 o dL_gold_19 rfl ?_
      exact v_iret o dL_gold_20 hr (Nat.le_of_ble_eq_true rfl) (Nat.le_of_ble_eq_true rfl) ⟨by rw [hk, th_31], B, τ, f, by rw [hk, up_self he]; exact hR.base.thk _, fun h => (by rw [hk, th_31] at h; exact absurd h (by decide))⟩
    · cases hE
      refine v_catch o [⟨0, 14, 17, 21⟩] ⟨0, 14, 21, 13⟩ [] hex (by
          intro y hy
          simp only [List.mem_cons, List.not_mem_nil, or_false] at hy
          rcases hy with rfl
          · exact ⟨by decide, _, cl_L_21, by decide⟩) rfl (by decide) cl_L_13 ca_A (fun q => ?_)
      refine v_astore [(6, .ref q), (0, .ref x), (1, .int a0), (2, .int a1), (3, .int a2), (4, .int a3), (5, .ref u)] o dL_gold_21 (by decide) rfl ?_
      refine v_iconst 2 o dL_gold_23 rfl ?_
      exact v_iret o dL_gold_24 hr (Nat.le_of_ble_eq_true rfl) (Nat.le_of_ble_eq_true rfl) ⟨by rw [hk, th_31], B, τ, f, by rw [hk, up_self he]; exact hR.base.thk _, fun h => (by rw [hk, th_31] at h; exact absurd h (by decide))⟩
    · cases hE

set_option maxRecDepth 100000 in
set_option maxHeartbeats 4000000 in
theorem w_key {l : Launch} (hl : l.stackTraces = false) {g : mG} {x z z0 : Nat} {B : Nat → Nat} {μ0 μ : mM} {σ τ : Sg} (hR : RC g x B z0 μ0 σ τ μ) (hI : Inv σ) (a0 : Int32) (a1 : Int32) (a2 : Int32) (a3 : Int32) (a4 : Int32) {u : Nat} {f : Nat → Int64} (hu : x + 12 ≤ u) (hu2 : u < z0) (he : μ u = some (.inl (g.2.1 2, aL 1 f))) : Ct l g yL_key [Cond.codeWith yL_key cL_key 8 (some .int) [(0, 16, 19, 21), (0, 16, 23, 13)]] { frames := 8, cells := 1, slots := 6, locals := 131 } [.ref x, .int a0, .int a1, .int a2, .int a3, .int a4, .ref u] μ z (wP g x z0 μ u (sp_key σ a0 a1 a2 a3 a4).1.toInt64 (sp_key σ a0 a1 a2 a3 a4).2) (noX) := by
  refine Ct.ofH hl (by decide +kernel) (Nat.le_of_ble_eq_true rfl) ?_
  intro p e s mi args below meth c o hnm hr hex
  have o : Ok p l s mi args meth c g cL_key 8 RL := o
  refine v_lv [(0, .ref x), (1, .int a0), (2, .int a1), (3, .int a2), (4, .int a3), (5, .int a4), (6, .ref u)] rfl ?_
  refine v_aload 6 o dL_key_0 rfl ?_
  refine v_iconst 0 o dL_key_2 rfl ?_
  refine v_aload_n 0 o dL_key_3 rfl rfl ?_
  refine v_iload_n 1 o dL_key_4 rfl rfl ?_
  refine v_iload_n 2 o dL_key_5 rfl rfl ?_
  refine v_iload_n 3 o dL_key_6 rfl rfl ?_
  refine v_iload 4 o dL_key_7 rfl ?_
  refine v_iload 5 o dL_key_9 rfl ?_
  refine v_callV [.int a0, .int a1, .int a2, .int a3, .int a4] [.int (nI 0), .ref u] o dL_key_11 cw_L_67 im_X5_key se_X5_key cf5 hR.h0 (k_key hl hR.base hI a0 a1 a2 a3 a4) rfl rfl ⟨Nat.le_of_ble_eq_true rfl, Nat.le_of_ble_eq_true rfl⟩ ⟨Nat.le_of_ble_eq_true rfl, Nat.le_of_ble_eq_true rfl⟩ (Nat.le_of_ble_eq_true rfl) ?_ ?_
  · rintro r9 μ9 z9 - ⟨rfl, h31, B9, τ9, hR9⟩
    refine v_st [.int ((sp_key σ a0 a1 a2 a3 a4).1), .int (nI 0), .ref u] rfl ?_
    refine v_i2l (((sp_key σ a0 a1 a2 a3 a4).1).toInt64) o dL_key_14 rfl ?_
    refine v_last o dL_key_15 (by decide) (by decide) ((hR9.2.2.2 u (by omega) hu2).trans he) (fun μ8 e8 => ?_)
    refine v_goto 27 o dL_key_16 (by decide) ?_
    refine v_iconst 0 o dL_key_27 rfl ?_
    exact v_iret o dL_key_28 hr (Nat.le_of_ble_eq_true rfl) (Nat.le_of_ble_eq_true rfl) ⟨by rw [h31], B9, τ9, vp_updL f 0 (((sp_key σ a0 a1 a2 a3 a4).1).toInt64), by rw [e8]; exact hR9.outw hu hu2 _, fun _ => (if_pos rfl : vp_updL f 0 (((sp_key σ a0 a1 a2 a3 a4).1).toInt64) 0 = ((sp_key σ a0 a1 a2 a3 a4).1).toInt64).trans rfl⟩
  · rintro E μ9 z9 - ⟨⟨k, hk, hE⟩, rfl⟩
    rcases k with _ | _ | k
    · cases hE
      refine v_catch o [] ⟨0, 16, 19, 21⟩ [⟨0, 16, 23, 13⟩] hex (fun y hy => by cases hy) rfl (by decide) cl_L_21 ca_O (fun q => ?_)
      refine v_astore [(7, .ref q), (0, .ref x), (1, .int a0), (2, .int a1), (3, .int a2), (4, .int a3), (5, .int a4), (6, .ref u)] o dL_key_19 (by decide) rfl ?_
      refine v_iconst 1 o dL_key_21 rfl ?_
      exact v_iret o dL_key_22 hr (Nat.le_of_ble_eq_true rfl) (Nat.le_of_ble_eq_true rfl) ⟨by rw [hk, th_31], B, τ, f, by rw [hk, up_self he]; exact hR.base.thk _, fun h => (by rw [hk, th_31] at h; exact absurd h (by decide))⟩
    · cases hE
      refine v_catch o [⟨0, 16, 19, 21⟩] ⟨0, 16, 23, 13⟩ [] hex (by
          intro y hy
          simp only [List.mem_cons, List.not_mem_nil, or_false] at hy
          rcases hy with rfl
          · exact ⟨by decide, _, cl_L_21, by decide⟩) rfl (by decide) cl_L_13 ca_A (fun q => ?_)
      refine v_astore [(7, .ref q), (0, .ref x), (1, .int a0), (2, .int a1), (3, .int a2), (4, .int a3), (5, .int a4), (6, .ref u)] o dL_key_23 (by decide) rfl ?_
      refine v_iconst 2 o dL_key_25 rfl ?_
      exact v_iret o dL_key_26 hr (Nat.le_of_ble_eq_true rfl) (Nat.le_of_ble_eq_true rfl) ⟨by rw [hk, th_31], B, τ, f, by rw [hk, up_self he]; exact hR.base.thk _, fun h => (by rw [hk, th_31] at h; exact absurd h (by decide))⟩
    · cases hE

set_option maxRecDepth 100000 in
set_option maxHeartbeats 4000000 in
theorem w_trust {l : Launch} (hl : l.stackTraces = false) {g : mG} {x z z0 : Nat} {B : Nat → Nat} {μ0 μ : mM} {σ τ : Sg} (hR : RC g x B z0 μ0 σ τ μ) (hI : Inv σ) (a0 : Int32) {u : Nat} {f : Nat → Int64} (hu : x + 12 ≤ u) (hu2 : u < z0) (he : μ u = some (.inl (g.2.1 2, aL 1 f))) : Ct l g yL_trust [Cond.codeWith yL_trust cL_trust 4 (some .int) [(0, 9, 12, 21)]] { frames := 8, cells := 1, slots := 6, locals := 123 } [.ref x, .int a0, .ref u] μ z (wP g x z0 μ u (sp_trust σ a0).1.toInt64 (sp_trust σ a0).2) (noX) := by
  refine Ct.ofH hl (by decide +kernel) (Nat.le_of_ble_eq_true rfl) ?_
  intro p e s mi args below meth c o hnm hr hex
  have o : Ok p l s mi args meth c g cL_trust 4 RL := o
  refine v_lv [(0, .ref x), (1, .int a0), (2, .ref u)] rfl ?_
  refine v_aload_n 2 o dL_trust_0 rfl rfl ?_
  refine v_iconst 0 o dL_trust_1 rfl ?_
  refine v_aload_n 0 o dL_trust_2 rfl rfl ?_
  refine v_iload_n 1 o dL_trust_3 rfl rfl ?_
  refine v_callV [.int a0] [.int (nI 0), .ref u] o dL_trust_4 cw_L_70 im_X5_trust se_X5_trust cf5 hR.h0 (k_trust hl hR.base hI a0) rfl rfl ⟨Nat.le_of_ble_eq_true rfl, Nat.le_of_ble_eq_true rfl⟩ ⟨Nat.le_of_ble_eq_true rfl, Nat.le_of_ble_eq_true rfl⟩ (Nat.le_of_ble_eq_true rfl) ?_ ?_
  · rintro r9 μ9 z9 - ⟨rfl, h31, B9, τ9, hR9⟩
    refine v_st [.int ((sp_trust σ a0).1), .int (nI 0), .ref u] rfl ?_
    refine v_i2l (((sp_trust σ a0).1).toInt64) o dL_trust_7 rfl ?_
    refine v_last o dL_trust_8 (by decide) (by decide) ((hR9.2.2.2 u (by omega) hu2).trans he) (fun μ8 e8 => ?_)
    refine v_goto 15 o dL_trust_9 (by decide) ?_
    refine v_iconst 0 o dL_trust_15 rfl ?_
    exact v_iret o dL_trust_16 hr (Nat.le_of_ble_eq_true rfl) (Nat.le_of_ble_eq_true rfl) ⟨by rw [h31], B9, τ9, vp_updL f 0 (((sp_trust σ a0).1).toInt64), by rw [e8]; exact hR9.outw hu hu2 _, fun _ => (if_pos rfl : vp_updL f 0 (((sp_trust σ a0).1).toInt64) 0 = ((sp_trust σ a0).1).toInt64).trans rfl⟩
  · rintro E μ9 z9 - ⟨⟨k, hk, hE⟩, rfl⟩
    rcases k with _ | k
    · cases hE
      refine v_catch o [] ⟨0, 9, 12, 21⟩ [] hex (fun y hy => by cases hy) rfl (by decide) cl_L_21 ca_O (fun q => ?_)
      refine v_astore_n [(3, .ref q), (0, .ref x), (1, .int a0), (2, .ref u)] o dL_trust_12 rfl (by decide) rfl ?_
      refine v_iconst 1 o dL_trust_13 rfl ?_
      exact v_iret o dL_trust_14 hr (Nat.le_of_ble_eq_true rfl) (Nat.le_of_ble_eq_true rfl) ⟨by rw [hk, th_31], B, τ, f, by rw [hk, up_self he]; exact hR.base.thk _, fun h => (by rw [hk, th_31] at h; exact absurd h (by decide))⟩
    · cases hE

set_option maxRecDepth 100000 in
set_option maxHeartbeats 4000000 in
theorem w_pay {l : Launch} (hl : l.stackTraces = false) {g : mG} {x z z0 : Nat} {B : Nat → Nat} {μ0 μ : mM} {σ τ : Sg} (hR : RC g x B z0 μ0 σ τ μ) (hI : Inv σ) (a0 : Int32) {u : Nat} {f : Nat → Int64} (hu : x + 12 ≤ u) (hu2 : u < z0) (he : μ u = some (.inl (g.2.1 2, aL 1 f))) : Ct l g yL_pay [Cond.codeWith yL_pay cL_pay 4 (some .int) [(0, 9, 12, 21)]] { frames := 8, cells := 1, slots := 6, locals := 128 } [.ref x, .int a0, .ref u] μ z (wP g x z0 μ u (sp_pay σ a0).1.toInt64 (sp_pay σ a0).2) (noX) := by
  refine Ct.ofH hl (by decide +kernel) (Nat.le_of_ble_eq_true rfl) ?_
  intro p e s mi args below meth c o hnm hr hex
  have o : Ok p l s mi args meth c g cL_pay 4 RL := o
  refine v_lv [(0, .ref x), (1, .int a0), (2, .ref u)] rfl ?_
  refine v_aload_n 2 o dL_pay_0 rfl rfl ?_
  refine v_iconst 0 o dL_pay_1 rfl ?_
  refine v_aload_n 0 o dL_pay_2 rfl rfl ?_
  refine v_iload_n 1 o dL_pay_3 rfl rfl ?_
  refine v_callV [.int a0] [.int (nI 0), .ref u] o dL_pay_4 cw_L_73 im_X5_pay se_X5_pay cf5 hR.h0 (k_pay hl hR.base hI a0) rfl rfl ⟨Nat.le_of_ble_eq_true rfl, Nat.le_of_ble_eq_true rfl⟩ ⟨Nat.le_of_ble_eq_true rfl, Nat.le_of_ble_eq_true rfl⟩ (Nat.le_of_ble_eq_true rfl) ?_ ?_
  · rintro r9 μ9 z9 - ⟨rfl, h31, B9, τ9, hR9⟩
    refine v_st [.int ((sp_pay σ a0).1), .int (nI 0), .ref u] rfl ?_
    refine v_i2l (((sp_pay σ a0).1).toInt64) o dL_pay_7 rfl ?_
    refine v_last o dL_pay_8 (by decide) (by decide) ((hR9.2.2.2 u (by omega) hu2).trans he) (fun μ8 e8 => ?_)
    refine v_goto 15 o dL_pay_9 (by decide) ?_
    refine v_iconst 0 o dL_pay_15 rfl ?_
    exact v_iret o dL_pay_16 hr (Nat.le_of_ble_eq_true rfl) (Nat.le_of_ble_eq_true rfl) ⟨by rw [h31], B9, τ9, vp_updL f 0 (((sp_pay σ a0).1).toInt64), by rw [e8]; exact hR9.outw hu hu2 _, fun _ => (if_pos rfl : vp_updL f 0 (((sp_pay σ a0).1).toInt64) 0 = ((sp_pay σ a0).1).toInt64).trans rfl⟩
  · rintro E μ9 z9 - ⟨⟨k, hk, hE⟩, rfl⟩
    rcases k with _ | k
    · cases hE
      refine v_catch o [] ⟨0, 9, 12, 21⟩ [] hex (fun y hy => by cases hy) rfl (by decide) cl_L_21 ca_O (fun q => ?_)
      refine v_astore_n [(3, .ref q), (0, .ref x), (1, .int a0), (2, .ref u)] o dL_pay_12 rfl (by decide) rfl ?_
      refine v_iconst 1 o dL_pay_13 rfl ?_
      exact v_iret o dL_pay_14 hr (Nat.le_of_ble_eq_true rfl) (Nat.le_of_ble_eq_true rfl) ⟨by rw [hk, th_31], B, τ, f, by rw [hk, up_self he]; exact hR.base.thk _, fun h => (by rw [hk, th_31] at h; exact absurd h (by decide))⟩
    · cases hE

set_option maxRecDepth 100000 in
set_option maxHeartbeats 4000000 in
theorem w_read {l : Launch} (hl : l.stackTraces = false) {g : mG} {x z z0 : Nat} {B : Nat → Nat} {μ0 μ : mM} {σ τ : Sg} (hR : RC g x B z0 μ0 σ τ μ) (hI : Inv σ) (a0 : Int32) (a1 : Int32) (a2 : Int32) {u : Nat} {f : Nat → Int64} (hu : x + 12 ≤ u) (hu2 : u < z0) (he : μ u = some (.inl (g.2.1 2, aL 1 f))) : Ct l g yL_read [Cond.codeWith yL_read cL_read 6 (some .int) [(0, 12, 15, 21)]] { frames := 8, cells := 1, slots := 6, locals := 128 } [.ref x, .int a0, .int a1, .int a2, .ref u] μ z (wP g x z0 μ u (sp_read σ a0 a1 a2).1.toInt64 (sp_read σ a0 a1 a2).2) (noX) := by
  refine Ct.ofH hl (by decide +kernel) (Nat.le_of_ble_eq_true rfl) ?_
  intro p e s mi args below meth c o hnm hr hex
  have o : Ok p l s mi args meth c g cL_read 6 RL := o
  refine v_lv [(0, .ref x), (1, .int a0), (2, .int a1), (3, .int a2), (4, .ref u)] rfl ?_
  refine v_aload 4 o dL_read_0 rfl ?_
  refine v_iconst 0 o dL_read_2 rfl ?_
  refine v_aload_n 0 o dL_read_3 rfl rfl ?_
  refine v_iload_n 1 o dL_read_4 rfl rfl ?_
  refine v_iload_n 2 o dL_read_5 rfl rfl ?_
  refine v_iload_n 3 o dL_read_6 rfl rfl ?_
  refine v_callV [.int a0, .int a1, .int a2] [.int (nI 0), .ref u] o dL_read_7 cw_L_76 im_X5_read se_X5_read cf5 hR.h0 (k_read hl hR.base hI a0 a1 a2) rfl rfl ⟨Nat.le_of_ble_eq_true rfl, Nat.le_of_ble_eq_true rfl⟩ ⟨Nat.le_of_ble_eq_true rfl, Nat.le_of_ble_eq_true rfl⟩ (Nat.le_of_ble_eq_true rfl) ?_ ?_
  · rintro r9 μ9 z9 - ⟨rfl, h31, B9, τ9, hR9⟩
    refine v_st [.int ((sp_read σ a0 a1 a2).1), .int (nI 0), .ref u] rfl ?_
    refine v_i2l (((sp_read σ a0 a1 a2).1).toInt64) o dL_read_10 rfl ?_
    refine v_last o dL_read_11 (by decide) (by decide) ((hR9.2.2.2 u (by omega) hu2).trans he) (fun μ8 e8 => ?_)
    refine v_goto 19 o dL_read_12 (by decide) ?_
    refine v_iconst 0 o dL_read_19 rfl ?_
    exact v_iret o dL_read_20 hr (Nat.le_of_ble_eq_true rfl) (Nat.le_of_ble_eq_true rfl) ⟨by rw [h31], B9, τ9, vp_updL f 0 (((sp_read σ a0 a1 a2).1).toInt64), by rw [e8]; exact hR9.outw hu hu2 _, fun _ => (if_pos rfl : vp_updL f 0 (((sp_read σ a0 a1 a2).1).toInt64) 0 = ((sp_read σ a0 a1 a2).1).toInt64).trans rfl⟩
  · rintro E μ9 z9 - ⟨⟨k, hk, hE⟩, rfl⟩
    rcases k with _ | k
    · cases hE
      refine v_catch o [] ⟨0, 12, 15, 21⟩ [] hex (fun y hy => by cases hy) rfl (by decide) cl_L_21 ca_O (fun q => ?_)
      refine v_astore [(5, .ref q), (0, .ref x), (1, .int a0), (2, .int a1), (3, .int a2), (4, .ref u)] o dL_read_15 (by decide) rfl ?_
      refine v_iconst 1 o dL_read_17 rfl ?_
      exact v_iret o dL_read_18 hr (Nat.le_of_ble_eq_true rfl) (Nat.le_of_ble_eq_true rfl) ⟨by rw [hk, th_31], B, τ, f, by rw [hk, up_self he]; exact hR.base.thk _, fun h => (by rw [hk, th_31] at h; exact absurd h (by decide))⟩
    · cases hE

set_option maxRecDepth 100000 in
set_option maxHeartbeats 4000000 in
theorem w_doubt {l : Launch} (hl : l.stackTraces = false) {g : mG} {x z z0 : Nat} {B : Nat → Nat} {μ0 μ : mM} {σ τ : Sg} (hR : RC g x B z0 μ0 σ τ μ) (hI : Inv σ) (a0 : Int32) (a1 : Int32) (a2 : Int32) {u : Nat} {f : Nat → Int64} (hu : x + 12 ≤ u) (hu2 : u < z0) (he : μ u = some (.inl (g.2.1 2, aL 1 f))) : Ct l g yL_doubt [Cond.codeWith yL_doubt cL_doubt 6 (some .int) [(0, 12, 15, 21)]] { frames := 8, cells := 1, slots := 6, locals := 128 } [.ref x, .int a0, .int a1, .int a2, .ref u] μ z (wP g x z0 μ u (sp_doubt σ a0 a1 a2).1.toInt64 (sp_doubt σ a0 a1 a2).2) (noX) := by
  refine Ct.ofH hl (by decide +kernel) (Nat.le_of_ble_eq_true rfl) ?_
  intro p e s mi args below meth c o hnm hr hex
  have o : Ok p l s mi args meth c g cL_doubt 6 RL := o
  refine v_lv [(0, .ref x), (1, .int a0), (2, .int a1), (3, .int a2), (4, .ref u)] rfl ?_
  refine v_aload 4 o dL_doubt_0 rfl ?_
  refine v_iconst 0 o dL_doubt_2 rfl ?_
  refine v_aload_n 0 o dL_doubt_3 rfl rfl ?_
  refine v_iload_n 1 o dL_doubt_4 rfl rfl ?_
  refine v_iload_n 2 o dL_doubt_5 rfl rfl ?_
  refine v_iload_n 3 o dL_doubt_6 rfl rfl ?_
  refine v_callV [.int a0, .int a1, .int a2] [.int (nI 0), .ref u] o dL_doubt_7 cw_L_80 im_X5_doubt se_X5_doubt cf5 hR.h0 (k_doubt hl hR.base hI a0 a1 a2) rfl rfl ⟨Nat.le_of_ble_eq_true rfl, Nat.le_of_ble_eq_true rfl⟩ ⟨Nat.le_of_ble_eq_true rfl, Nat.le_of_ble_eq_true rfl⟩ (Nat.le_of_ble_eq_true rfl) ?_ ?_
  · rintro r9 μ9 z9 - ⟨rfl, h31, B9, τ9, hR9⟩
    refine v_st [.int ((sp_doubt σ a0 a1 a2).1), .int (nI 0), .ref u] rfl ?_
    refine v_i2l (((sp_doubt σ a0 a1 a2).1).toInt64) o dL_doubt_10 rfl ?_
    refine v_last o dL_doubt_11 (by decide) (by decide) ((hR9.2.2.2 u (by omega) hu2).trans he) (fun μ8 e8 => ?_)
    refine v_goto 19 o dL_doubt_12 (by decide) ?_
    refine v_iconst 0 o dL_doubt_19 rfl ?_
    exact v_iret o dL_doubt_20 hr (Nat.le_of_ble_eq_true rfl) (Nat.le_of_ble_eq_true rfl) ⟨by rw [h31], B9, τ9, vp_updL f 0 (((sp_doubt σ a0 a1 a2).1).toInt64), by rw [e8]; exact hR9.outw hu hu2 _, fun _ => (if_pos rfl : vp_updL f 0 (((sp_doubt σ a0 a1 a2).1).toInt64) 0 = ((sp_doubt σ a0 a1 a2).1).toInt64).trans rfl⟩
  · rintro E μ9 z9 - ⟨⟨k, hk, hE⟩, rfl⟩
    rcases k with _ | k
    · cases hE
      refine v_catch o [] ⟨0, 12, 15, 21⟩ [] hex (fun y hy => by cases hy) rfl (by decide) cl_L_21 ca_O (fun q => ?_)
      refine v_astore [(5, .ref q), (0, .ref x), (1, .int a0), (2, .int a1), (3, .int a2), (4, .ref u)] o dL_doubt_15 (by decide) rfl ?_
      refine v_iconst 1 o dL_doubt_17 rfl ?_
      exact v_iret o dL_doubt_18 hr (Nat.le_of_ble_eq_true rfl) (Nat.le_of_ble_eq_true rfl) ⟨by rw [hk, th_31], B, τ, f, by rw [hk, up_self he]; exact hR.base.thk _, fun h => (by rw [hk, th_31] at h; exact absurd h (by decide))⟩
    · cases hE

set_option maxRecDepth 100000 in
set_option maxHeartbeats 4000000 in
theorem w_pass {l : Launch} (hl : l.stackTraces = false) {g : mG} {x z z0 : Nat} {B : Nat → Nat} {μ0 μ : mM} {σ τ : Sg} (hR : RC g x B z0 μ0 σ τ μ) (hI : Inv σ) (a0 : Int32) {u : Nat} {f : Nat → Int64} (hu : x + 12 ≤ u) (hu2 : u < z0) (he : μ u = some (.inl (g.2.1 2, aL 1 f))) : Ct l g yL_pass [Cond.codeWith yL_pass cL_pass 4 (some .int) [(0, 9, 12, 13), (0, 9, 15, 15)]] { frames := 8, cells := 1, slots := 6, locals := 125 } [.ref x, .int a0, .ref u] μ z (wP g x z0 μ u (sp_pass σ a0).1.toInt64 (sp_pass σ a0).2) (noX) := by
  refine Ct.ofH hl (by decide +kernel) (Nat.le_of_ble_eq_true rfl) ?_
  intro p e s mi args below meth c o hnm hr hex
  have o : Ok p l s mi args meth c g cL_pass 4 RL := o
  refine v_lv [(0, .ref x), (1, .int a0), (2, .ref u)] rfl ?_
  refine v_aload_n 2 o dL_pass_0 rfl rfl ?_
  refine v_iconst 0 o dL_pass_1 rfl ?_
  refine v_aload_n 0 o dL_pass_2 rfl rfl ?_
  refine v_iload_n 1 o dL_pass_3 rfl rfl ?_
  refine v_callV [.int a0] [.int (nI 0), .ref u] o dL_pass_4 cw_L_83 im_X5_pass se_X5_pass cf5 hR.h0 (k_pass hl hR.base hI a0) rfl rfl ⟨Nat.le_of_ble_eq_true rfl, Nat.le_of_ble_eq_true rfl⟩ ⟨Nat.le_of_ble_eq_true rfl, Nat.le_of_ble_eq_true rfl⟩ (Nat.le_of_ble_eq_true rfl) ?_ ?_
  · rintro r9 μ9 z9 - ⟨rfl, h31, B9, τ9, hR9⟩
    refine v_st [.int ((sp_pass σ a0).1), .int (nI 0), .ref u] rfl ?_
    refine v_i2l (((sp_pass σ a0).1).toInt64) o dL_pass_7 rfl ?_
    refine v_last o dL_pass_8 (by decide) (by decide) ((hR9.2.2.2 u (by omega) hu2).trans he) (fun μ8 e8 => ?_)
    refine v_goto 18 o dL_pass_9 (by decide) ?_
    refine v_iconst 0 o dL_pass_18 rfl ?_
    exact v_iret o dL_pass_19 hr (Nat.le_of_ble_eq_true rfl) (Nat.le_of_ble_eq_true rfl) ⟨by rw [h31], B9, τ9, vp_updL f 0 (((sp_pass σ a0).1).toInt64), by rw [e8]; exact hR9.outw hu hu2 _, fun _ => (if_pos rfl : vp_updL f 0 (((sp_pass σ a0).1).toInt64) 0 = ((sp_pass σ a0).1).toInt64).trans rfl⟩
  · rintro E μ9 z9 - ⟨⟨k, hk, hE⟩, rfl⟩
    rcases k with _ | _ | k
    · cases hE
      refine v_catch o [] ⟨0, 9, 12, 13⟩ [⟨0, 9, 15, 15⟩] hex (fun y hy => by cases hy) rfl (by decide) cl_L_13 ca_A (fun q => ?_)
      refine v_astore_n [(3, .ref q), (0, .ref x), (1, .int a0), (2, .ref u)] o dL_pass_12 rfl (by decide) rfl ?_
      refine v_iconst 1 o dL_pass_13 rfl ?_
      exact v_iret o dL_pass_14 hr (Nat.le_of_ble_eq_true rfl) (Nat.le_of_ble_eq_true rfl) ⟨by rw [hk, th_31], B, τ, f, by rw [hk, up_self he]; exact hR.base.thk _, fun h => (by rw [hk, th_31] at h; exact absurd h (by decide))⟩
    · cases hE
      refine v_catch o [⟨0, 9, 12, 13⟩] ⟨0, 9, 15, 15⟩ [] hex (by
          intro y hy
          simp only [List.mem_cons, List.not_mem_nil, or_false] at hy
          rcases hy with rfl
          · exact ⟨by decide, _, cl_L_13, by decide⟩) rfl (by decide) cl_L_15 ca_S (fun q => ?_)
      refine v_astore_n [(3, .ref q), (0, .ref x), (1, .int a0), (2, .ref u)] o dL_pass_15 rfl (by decide) rfl ?_
      refine v_iconst 2 o dL_pass_16 rfl ?_
      exact v_iret o dL_pass_17 hr (Nat.le_of_ble_eq_true rfl) (Nat.le_of_ble_eq_true rfl) ⟨by rw [hk, th_31], B, τ, f, by rw [hk, up_self he]; exact hR.base.thk _, fun h => (by rw [hk, th_31] at h; exact absurd h (by decide))⟩
    · cases hE

set_option maxRecDepth 100000 in
set_option maxHeartbeats 4000000 in
theorem w_term {l : Launch} (hl : l.stackTraces = false) {g : mG} {x z z0 : Nat} {B : Nat → Nat} {μ0 μ : mM} {σ τ : Sg} (hR : RC g x B z0 μ0 σ τ μ) (hI : Inv σ) (a0 : Int32) (a1 : Int32) {u : Nat} {f : Nat → Int64} (hu : x + 12 ≤ u) (hu2 : u < z0) (he : μ u = some (.inl (g.2.1 2, aL 1 f))) : Ct l g yL_term [Cond.codeWith yL_term cL_term 5 (some .int) [(0, 10, 13, 21), (0, 10, 17, 13)]] { frames := 8, cells := 1, slots := 6, locals := 127 } [.ref x, .int a0, .int a1, .ref u] μ z (wP g x z0 μ u (sp_term σ a0 a1).1.toInt64 (sp_term σ a0 a1).2) (noX) := by
  refine Ct.ofH hl (by decide +kernel) (Nat.le_of_ble_eq_true rfl) ?_
  intro p e s mi args below meth c o hnm hr hex
  have o : Ok p l s mi args meth c g cL_term 5 RL := o
  refine v_lv [(0, .ref x), (1, .int a0), (2, .int a1), (3, .ref u)] rfl ?_
  refine v_aload_n 3 o dL_term_0 rfl rfl ?_
  refine v_iconst 0 o dL_term_1 rfl ?_
  refine v_aload_n 0 o dL_term_2 rfl rfl ?_
  refine v_iload_n 1 o dL_term_3 rfl rfl ?_
  refine v_iload_n 2 o dL_term_4 rfl rfl ?_
  refine v_callV [.int a0, .int a1] [.int (nI 0), .ref u] o dL_term_5 cw_L_86 im_X5_term se_X5_term cf5 hR.h0 (k_term hl hR.base hI a0 a1) rfl rfl ⟨Nat.le_of_ble_eq_true rfl, Nat.le_of_ble_eq_true rfl⟩ ⟨Nat.le_of_ble_eq_true rfl, Nat.le_of_ble_eq_true rfl⟩ (Nat.le_of_ble_eq_true rfl) ?_ ?_
  · rintro r9 μ9 z9 - ⟨rfl, h31, B9, τ9, hR9⟩
    refine v_st [.int ((sp_term σ a0 a1).1), .int (nI 0), .ref u] rfl ?_
    refine v_i2l (((sp_term σ a0 a1).1).toInt64) o dL_term_8 rfl ?_
    refine v_last o dL_term_9 (by decide) (by decide) ((hR9.2.2.2 u (by omega) hu2).trans he) (fun μ8 e8 => ?_)
    refine v_goto 21 o dL_term_10 (by decide) ?_
    refine v_iconst 0 o dL_term_21 rfl ?_
    exact v_iret o dL_term_22 hr (Nat.le_of_ble_eq_true rfl) (Nat.le_of_ble_eq_true rfl) ⟨by rw [h31], B9, τ9, vp_updL f 0 (((sp_term σ a0 a1).1).toInt64), by rw [e8]; exact hR9.outw hu hu2 _, fun _ => (if_pos rfl : vp_updL f 0 (((sp_term σ a0 a1).1).toInt64) 0 = ((sp_term σ a0 a1).1).toInt64).trans rfl⟩
  · rintro E μ9 z9 - ⟨⟨k, hk, hE⟩, rfl⟩
    rcases k with _ | _ | k
    · cases hE
      refine v_catch o [] ⟨0, 10, 13, 21⟩ [⟨0, 10, 17, 13⟩] hex (fun y hy => by cases hy) rfl (by decide) cl_L_21 ca_O (fun q => ?_)
      refine v_astore [(4, .ref q), (0, .ref x), (1, .int a0), (2, .int a1), (3, .ref u)] o dL_term_13 (by decide) rfl ?_
      refine v_iconst 1 o dL_term_15 rfl ?_
      exact v_iret o dL_term_16 hr (Nat.le_of_ble_eq_true rfl) (Nat.le_of_ble_eq_true rfl) ⟨by rw [hk, th_31], B, τ, f, by rw [hk, up_self he]; exact hR.base.thk _, fun h => (by rw [hk, th_31] at h; exact absurd h (by decide))⟩
    · cases hE
      refine v_catch o [⟨0, 10, 13, 21⟩] ⟨0, 10, 17, 13⟩ [] hex (by
          intro y hy
          simp only [List.mem_cons, List.not_mem_nil, or_false] at hy
          rcases hy with rfl
          · exact ⟨by decide, _, cl_L_21, by decide⟩) rfl (by decide) cl_L_13 ca_A (fun q => ?_)
      refine v_astore [(4, .ref q), (0, .ref x), (1, .int a0), (2, .int a1), (3, .ref u)] o dL_term_17 (by decide) rfl ?_
      refine v_iconst 2 o dL_term_19 rfl ?_
      exact v_iret o dL_term_20 hr (Nat.le_of_ble_eq_true rfl) (Nat.le_of_ble_eq_true rfl) ⟨by rw [hk, th_31], B, τ, f, by rw [hk, up_self he]; exact hR.base.thk _, fun h => (by rw [hk, th_31] at h; exact absurd h (by decide))⟩
    · cases hE

set_option maxRecDepth 100000 in
set_option maxHeartbeats 4000000 in
theorem w_died {l : Launch} (hl : l.stackTraces = false) {g : mG} {x z z0 : Nat} {B : Nat → Nat} {μ0 μ : mM} {σ τ : Sg} (hR : RC g x B z0 μ0 σ τ μ) (hI : Inv σ) (a0 : Int32) (a1 : Int32) : Ct l g yL_died [Cond.codeWith yL_died cL_died 4 (some .int) [(0, 6, 9, 21), (0, 6, 12, 13), (0, 6, 15, 15)]] { frames := 8, cells := 1, slots := 6, locals := 127 } [.ref x, .int a0, .int a1] μ z (wP0 g x z0 μ (sp_died σ a0 a1)) (noX) := by
  refine Ct.ofH hl (by decide +kernel) (Nat.le_of_ble_eq_true rfl) ?_
  intro p e s mi args below meth c o hnm hr hex
  have o : Ok p l s mi args meth c g cL_died 4 RL := o
  refine v_lv [(0, .ref x), (1, .int a0), (2, .int a1)] rfl ?_
  refine v_aload_n 0 o dL_died_0 rfl rfl ?_
  refine v_iload_n 1 o dL_died_1 rfl rfl ?_
  refine v_iload_n 2 o dL_died_2 rfl rfl ?_
  refine v_callV [.int a0, .int a1] [] o dL_died_3 cw_L_89 im_X5_died se_X5_died cf5 hR.h0 (k_died hl hR.base hI a0 a1) rfl rfl ⟨Nat.le_of_ble_eq_true rfl, Nat.le_of_ble_eq_true rfl⟩ ⟨Nat.le_of_ble_eq_true rfl, Nat.le_of_ble_eq_true rfl⟩ (Nat.le_of_ble_eq_true rfl) ?_ ?_
  · rintro r9 μ9 z9 - ⟨rfl, h31, B9, τ9, hR9⟩
    refine v_st [] rfl ?_
    refine v_goto 18 o dL_died_6 (by decide) ?_
    refine v_iconst 0 o dL_died_18 rfl ?_
    exact v_iret o dL_died_19 hr (Nat.le_of_ble_eq_true rfl) (Nat.le_of_ble_eq_true rfl) ⟨by rw [h31], B9, τ9, hR9⟩
  · rintro E μ9 z9 - ⟨⟨k, hk, hE⟩, rfl⟩
    rcases k with _ | _ | _ | k
    · cases hE
      refine v_catch o [] ⟨0, 6, 9, 21⟩ [⟨0, 6, 12, 13⟩, ⟨0, 6, 15, 15⟩] hex (fun y hy => by cases hy) rfl (by decide) cl_L_21 ca_O (fun q => ?_)
      refine v_astore_n [(3, .ref q), (0, .ref x), (1, .int a0), (2, .int a1)] o dL_died_9 rfl (by decide) rfl ?_
      refine v_iconst 1 o dL_died_10 rfl ?_
      exact v_iret o dL_died_11 hr (Nat.le_of_ble_eq_true rfl) (Nat.le_of_ble_eq_true rfl) ⟨by rw [hk, th_31], B, τ, by rw [hk]; exact hR.base.thk _⟩
    · cases hE
      refine v_catch o [⟨0, 6, 9, 21⟩] ⟨0, 6, 12, 13⟩ [⟨0, 6, 15, 15⟩] hex (by
          intro y hy
          simp only [List.mem_cons, List.not_mem_nil, or_false] at hy
          rcases hy with rfl
          · exact ⟨by decide, _, cl_L_21, by decide⟩) rfl (by decide) cl_L_13 ca_A (fun q => ?_)
      refine v_astore_n [(3, .ref q), (0, .ref x), (1, .int a0), (2, .int a1)] o dL_died_12 rfl (by decide) rfl ?_
      refine v_iconst 2 o dL_died_13 rfl ?_
      exact v_iret o dL_died_14 hr (Nat.le_of_ble_eq_true rfl) (Nat.le_of_ble_eq_true rfl) ⟨by rw [hk, th_31], B, τ, by rw [hk]; exact hR.base.thk _⟩
    · cases hE
      refine v_catch o [⟨0, 6, 9, 21⟩, ⟨0, 6, 12, 13⟩] ⟨0, 6, 15, 15⟩ [] hex (by
          intro y hy
          simp only [List.mem_cons, List.not_mem_nil, or_false] at hy
          rcases hy with rfl | rfl
          · exact ⟨by decide, _, cl_L_21, by decide⟩
          · exact ⟨by decide, _, cl_L_13, by decide⟩) rfl (by decide) cl_L_15 ca_S (fun q => ?_)
      refine v_astore_n [(3, .ref q), (0, .ref x), (1, .int a0), (2, .int a1)] o dL_died_15 rfl (by decide) rfl ?_
      refine v_iconst 3 o dL_died_16 rfl ?_
      exact v_iret o dL_died_17 hr (Nat.le_of_ble_eq_true rfl) (Nat.le_of_ble_eq_true rfl) ⟨by rw [hk, th_31], B, τ, by rw [hk]; exact hR.base.thk _⟩
    · cases hE

set_option maxRecDepth 100000 in
set_option maxHeartbeats 4000000 in
theorem w_search {l : Launch} (hl : l.stackTraces = false) {g : mG} {x z z0 : Nat} {B : Nat → Nat} {μ0 μ : mM} {σ τ : Sg} (hR : RC g x B z0 μ0 σ τ μ) (hI : Inv σ) (a0 : Int32) {u : Nat} {f : Nat → Int64} (hu : x + 12 ≤ u) (hu2 : u < z0) (he : μ u = some (.inl (g.2.1 2, aL 1 f))) : Ct l g yL_search [Cond.codeWith yL_search cL_search 4 (some .int) [(0, 16, 19, 21)]] { frames := 8, cells := 1, slots := 6, locals := 127 } [.ref x, .int a0, .ref u] μ z (wP g x z0 μ u (sp_search σ a0).1.toInt64 (sp_search σ a0).2) (noX) := by
  refine Ct.ofH hl (by decide +kernel) (Nat.le_of_ble_eq_true rfl) ?_
  intro p e s mi args below meth c o hnm hr hex
  have o : Ok p l s mi args meth c g cL_search 4 RL := o
  refine v_lv [(0, .ref x), (1, .int a0), (2, .ref u)] rfl ?_
  refine v_aload_n 2 o dL_search_0 rfl rfl ?_
  refine v_iconst 0 o dL_search_1 rfl ?_
  refine v_aload_n 0 o dL_search_2 rfl rfl ?_
  refine v_iload_n 1 o dL_search_3 rfl rfl ?_
  refine v_callV [.int a0] [.int (nI 0), .ref u] o dL_search_4 cw_L_93 im_X5_search se_X5_search cf5 hR.h0 (k_search hl hR.base hI a0) rfl rfl ⟨Nat.le_of_ble_eq_true rfl, Nat.le_of_ble_eq_true rfl⟩ ⟨Nat.le_of_ble_eq_true rfl, Nat.le_of_ble_eq_true rfl⟩ (Nat.le_of_ble_eq_true rfl) ?_ ?_
  · rintro r9 μ9 z9 - ⟨rfl, h31, B9, τ9, hR9⟩
    refine v_st [.int ((sp_search σ a0).1), .int (nI 0), .ref u] rfl ?_
    refine v_if_eq 14 o dL_search_7 (by decide) (fun c7 => ?_) (fun c7 => ?_)
    · refine v_lconst 0 o dL_search_14 (by decide) ?_
      refine v_last o dL_search_15 (by decide) (by decide) ((hR9.2.2.2 u (by omega) hu2).trans he) (fun μ8 e8 => ?_)
      refine v_goto 22 o dL_search_16 (by decide) ?_
      refine v_iconst 0 o dL_search_22 rfl ?_
      exact v_iret o dL_search_23 hr (Nat.le_of_ble_eq_true rfl) (Nat.le_of_ble_eq_true rfl) ⟨by rw [h31], B9, τ9, vp_updL f 0 (0), by rw [e8]; exact hR9.outw hu hu2 _, fun _ => (if_pos rfl : vp_updL f 0 (0) 0 = 0).trans (by show _ = _; rw [c7]; rfl)⟩
    · refine v_lconst 1 o dL_search_10 (by decide) ?_
      refine v_goto 15 o dL_search_11 (by decide) ?_
      refine v_last o dL_search_15 (by decide) (by decide) ((hR9.2.2.2 u (by omega) hu2).trans he) (fun μ8 e8 => ?_)
      refine v_goto 22 o dL_search_16 (by decide) ?_
      refine v_iconst 0 o dL_search_22 rfl ?_
      exact v_iret o dL_search_23 hr (Nat.le_of_ble_eq_true rfl) (Nat.le_of_ble_eq_true rfl) ⟨by rw [h31], B9, τ9, vp_updL f 0 (1), by rw [e8]; exact hR9.outw hu hu2 _, fun _ => (if_pos rfl : vp_updL f 0 (1) 0 = 1).trans (by show _ = _; rw [(bb_search σ a0).resolve_left c7]; rfl)⟩
  · rintro E μ9 z9 - ⟨⟨k, hk, hE⟩, rfl⟩
    rcases k with _ | k
    · cases hE
      refine v_catch o [] ⟨0, 16, 19, 21⟩ [] hex (fun y hy => by cases hy) rfl (by decide) cl_L_21 ca_O (fun q => ?_)
      refine v_astore_n [(3, .ref q), (0, .ref x), (1, .int a0), (2, .ref u)] o dL_search_19 rfl (by decide) rfl ?_
      refine v_iconst 1 o dL_search_20 rfl ?_
      exact v_iret o dL_search_21 hr (Nat.le_of_ble_eq_true rfl) (Nat.le_of_ble_eq_true rfl) ⟨by rw [hk, th_31], B, τ, f, by rw [hk, up_self he]; exact hR.base.thk _, fun h => (by rw [hk, th_31] at h; exact absurd h (by decide))⟩
    · cases hE

set_option maxRecDepth 100000 in
set_option maxHeartbeats 4000000 in
theorem w_takeDown {l : Launch} (hl : l.stackTraces = false) {g : mG} {x z z0 : Nat} {B : Nat → Nat} {μ0 μ : mM} {σ τ : Sg} (hR : RC g x B z0 μ0 σ τ μ) (hI : Inv σ) (a0 : Int32) (a1 : Bool) {u : Nat} {f : Nat → Int64} (hu : x + 12 ≤ u) (hu2 : u < z0) (he : μ u = some (.inl (g.2.1 2, aL 1 f))) : Ct l g yL_takeDown [Cond.codeWith yL_takeDown cL_takeDown 5 (some .int) [(0, 17, 20, 21)]] { frames := 8, cells := 1, slots := 6, locals := 128 } [.ref x, .int a0, .int (bI a1), .ref u] μ z (wP g x z0 μ u (sp_takeDown σ a0 a1).1.toInt64 (sp_takeDown σ a0 a1).2) (noX) := by
  refine Ct.ofH hl (by decide +kernel) (Nat.le_of_ble_eq_true rfl) ?_
  intro p e s mi args below meth c o hnm hr hex
  have o : Ok p l s mi args meth c g cL_takeDown 5 RL := o
  refine v_lv [(0, .ref x), (1, .int a0), (2, .int (bI a1)), (3, .ref u)] rfl ?_
  refine v_aload_n 3 o dL_takeDown_0 rfl rfl ?_
  refine v_iconst 0 o dL_takeDown_1 rfl ?_
  refine v_aload_n 0 o dL_takeDown_2 rfl rfl ?_
  refine v_iload_n 1 o dL_takeDown_3 rfl rfl ?_
  refine v_iload_n 2 o dL_takeDown_4 rfl rfl ?_
  refine v_callV [.int a0, .int (bI a1)] [.int (nI 0), .ref u] o dL_takeDown_5 cw_L_97 im_X5_takeDown se_X5_takeDown cf5 hR.h0 (k_takeDown hl hR.base hI a0 a1) rfl rfl ⟨Nat.le_of_ble_eq_true rfl, Nat.le_of_ble_eq_true rfl⟩ ⟨Nat.le_of_ble_eq_true rfl, Nat.le_of_ble_eq_true rfl⟩ (Nat.le_of_ble_eq_true rfl) ?_ ?_
  · rintro r9 μ9 z9 - ⟨rfl, h31, B9, τ9, hR9⟩
    refine v_st [.int ((sp_takeDown σ a0 a1).1), .int (nI 0), .ref u] rfl ?_
    refine v_if_eq 15 o dL_takeDown_8 (by decide) (fun c8 => ?_) (fun c8 => ?_)
    · refine v_lconst 0 o dL_takeDown_15 (by decide) ?_
      refine v_last o dL_takeDown_16 (by decide) (by decide) ((hR9.2.2.2 u (by omega) hu2).trans he) (fun μ8 e8 => ?_)
      refine v_goto 24 o dL_takeDown_17 (by decide) ?_
      refine v_iconst 0 o dL_takeDown_24 rfl ?_
      exact v_iret o dL_takeDown_25 hr (Nat.le_of_ble_eq_true rfl) (Nat.le_of_ble_eq_true rfl) ⟨by rw [h31], B9, τ9, vp_updL f 0 (0), by rw [e8]; exact hR9.outw hu hu2 _, fun _ => (if_pos rfl : vp_updL f 0 (0) 0 = 0).trans (by show _ = _; rw [c8]; rfl)⟩
    · refine v_lconst 1 o dL_takeDown_11 (by decide) ?_
      refine v_goto 16 o dL_takeDown_12 (by decide) ?_
      refine v_last o dL_takeDown_16 (by decide) (by decide) ((hR9.2.2.2 u (by omega) hu2).trans he) (fun μ8 e8 => ?_)
      refine v_goto 24 o dL_takeDown_17 (by decide) ?_
      refine v_iconst 0 o dL_takeDown_24 rfl ?_
      exact v_iret o dL_takeDown_25 hr (Nat.le_of_ble_eq_true rfl) (Nat.le_of_ble_eq_true rfl) ⟨by rw [h31], B9, τ9, vp_updL f 0 (1), by rw [e8]; exact hR9.outw hu hu2 _, fun _ => (if_pos rfl : vp_updL f 0 (1) 0 = 1).trans (by show _ = _; rw [(bb_takeDown σ a0 a1).resolve_left c8]; rfl)⟩
  · rintro E μ9 z9 - ⟨⟨k, hk, hE⟩, rfl⟩
    rcases k with _ | k
    · cases hE
      refine v_catch o [] ⟨0, 17, 20, 21⟩ [] hex (fun y hy => by cases hy) rfl (by decide) cl_L_21 ca_O (fun q => ?_)
      refine v_astore [(4, .ref q), (0, .ref x), (1, .int a0), (2, .int (bI a1)), (3, .ref u)] o dL_takeDown_20 (by decide) rfl ?_
      refine v_iconst 1 o dL_takeDown_22 rfl ?_
      exact v_iret o dL_takeDown_23 hr (Nat.le_of_ble_eq_true rfl) (Nat.le_of_ble_eq_true rfl) ⟨by rw [hk, th_31], B, τ, f, by rw [hk, up_self he]; exact hR.base.thk _, fun h => (by rw [hk, th_31] at h; exact absurd h (by decide))⟩
    · cases hE

set_option maxRecDepth 100000 in
set_option maxHeartbeats 4000000 in
theorem w_whyNot {l : Launch} (hl : l.stackTraces = false) {g : mG} {x z z0 : Nat} {B : Nat → Nat} {μ0 μ : mM} {σ τ : Sg} (hR : RC g x B z0 μ0 σ τ μ) (hI : Inv σ) (a0 : Int32) (a1 : Int32) (a2 : Int32) {u : Nat} {f : Nat → Int64} (hu : x + 12 ≤ u) (hu2 : u < z0) (he : μ u = some (.inl (g.2.1 2, aL 1 f))) : Ct l g yL_whyNot [Cond.codeWith yL_whyNot cL_whyNot 6 (some .int) [(0, 12, 15, 21)]] { frames := 8, cells := 1, slots := 6, locals := 129 } [.ref x, .int a0, .int a1, .int a2, .ref u] μ z (wP g x z0 μ u (sp_whyNot σ a0 a1 a2).1.toInt64 (sp_whyNot σ a0 a1 a2).2) (noX) := by
  refine Ct.ofH hl (by decide +kernel) (Nat.le_of_ble_eq_true rfl) ?_
  intro p e s mi args below meth c o hnm hr hex
  have o : Ok p l s mi args meth c g cL_whyNot 6 RL := o
  refine v_lv [(0, .ref x), (1, .int a0), (2, .int a1), (3, .int a2), (4, .ref u)] rfl ?_
  refine v_aload 4 o dL_whyNot_0 rfl ?_
  refine v_iconst 0 o dL_whyNot_2 rfl ?_
  refine v_aload_n 0 o dL_whyNot_3 rfl rfl ?_
  refine v_iload_n 1 o dL_whyNot_4 rfl rfl ?_
  refine v_iload_n 2 o dL_whyNot_5 rfl rfl ?_
  refine v_iload_n 3 o dL_whyNot_6 rfl rfl ?_
  refine v_callV [.int a0, .int a1, .int a2] [.int (nI 0), .ref u] o dL_whyNot_7 cw_L_101 im_X5_whyNot se_X5_whyNot cf5 hR.h0 (k_whyNot hl hR.base hI a0 a1 a2) rfl rfl ⟨Nat.le_of_ble_eq_true rfl, Nat.le_of_ble_eq_true rfl⟩ ⟨Nat.le_of_ble_eq_true rfl, Nat.le_of_ble_eq_true rfl⟩ (Nat.le_of_ble_eq_true rfl) ?_ ?_
  · rintro r9 μ9 z9 - ⟨rfl, h31, B9, τ9, hR9⟩
    refine v_st [.int ((sp_whyNot σ a0 a1 a2).1), .int (nI 0), .ref u] rfl ?_
    refine v_i2l (((sp_whyNot σ a0 a1 a2).1).toInt64) o dL_whyNot_10 rfl ?_
    refine v_last o dL_whyNot_11 (by decide) (by decide) ((hR9.2.2.2 u (by omega) hu2).trans he) (fun μ8 e8 => ?_)
    refine v_goto 19 o dL_whyNot_12 (by decide) ?_
    refine v_iconst 0 o dL_whyNot_19 rfl ?_
    exact v_iret o dL_whyNot_20 hr (Nat.le_of_ble_eq_true rfl) (Nat.le_of_ble_eq_true rfl) ⟨by rw [h31], B9, τ9, vp_updL f 0 (((sp_whyNot σ a0 a1 a2).1).toInt64), by rw [e8]; exact hR9.outw hu hu2 _, fun _ => (if_pos rfl : vp_updL f 0 (((sp_whyNot σ a0 a1 a2).1).toInt64) 0 = ((sp_whyNot σ a0 a1 a2).1).toInt64).trans rfl⟩
  · rintro E μ9 z9 - ⟨⟨k, hk, hE⟩, rfl⟩
    rcases k with _ | k
    · cases hE
      refine v_catch o [] ⟨0, 12, 15, 21⟩ [] hex (fun y hy => by cases hy) rfl (by decide) cl_L_21 ca_O (fun q => ?_)
      refine v_astore [(5, .ref q), (0, .ref x), (1, .int a0), (2, .int a1), (3, .int a2), (4, .ref u)] o dL_whyNot_15 (by decide) rfl ?_
      refine v_iconst 1 o dL_whyNot_17 rfl ?_
      exact v_iret o dL_whyNot_18 hr (Nat.le_of_ble_eq_true rfl) (Nat.le_of_ble_eq_true rfl) ⟨by rw [hk, th_31], B, τ, f, by rw [hk, up_self he]; exact hR.base.thk _, fun h => (by rw [hk, th_31] at h; exact absurd h (by decide))⟩
    · cases hE

set_option maxRecDepth 100000 in
set_option maxHeartbeats 4000000 in
theorem w_about {l : Launch} (hl : l.stackTraces = false) {g : mG} {x z z0 : Nat} {B : Nat → Nat} {μ0 μ : mM} {σ τ : Sg} (hR : RC g x B z0 μ0 σ τ μ) (hI : Inv σ) (a0 : Int32) (a1 : Int32) {u : Nat} {f : Nat → Int64} (hu : x + 12 ≤ u) (hu2 : u < z0) (he : μ u = some (.inl (g.2.1 2, aL 1 f))) : Ct l g yL_about [Cond.codeWith yL_about cL_about 5 (some .int) [(0, 10, 13, 21), (0, 10, 17, 13)]] { frames := 8, cells := 1, slots := 6, locals := 152 } [.ref x, .int a0, .int a1, .ref u] μ z (wP g x z0 μ u (sp_about σ a0 a1).1.toInt64 (sp_about σ a0 a1).2) (noX) := by
  refine Ct.ofH hl (by decide +kernel) (Nat.le_of_ble_eq_true rfl) ?_
  intro p e s mi args below meth c o hnm hr hex
  have o : Ok p l s mi args meth c g cL_about 5 RL := o
  refine v_lv [(0, .ref x), (1, .int a0), (2, .int a1), (3, .ref u)] rfl ?_
  refine v_aload_n 3 o dL_about_0 rfl rfl ?_
  refine v_iconst 0 o dL_about_1 rfl ?_
  refine v_aload_n 0 o dL_about_2 rfl rfl ?_
  refine v_iload_n 1 o dL_about_3 rfl rfl ?_
  refine v_iload_n 2 o dL_about_4 rfl rfl ?_
  refine v_callV [.int a0, .int a1] [.int (nI 0), .ref u] o dL_about_5 cw_L_104 im_X5_about se_X5_about cf5 hR.h0 (k_about hl hR.base hI a0 a1) rfl rfl ⟨Nat.le_of_ble_eq_true rfl, Nat.le_of_ble_eq_true rfl⟩ ⟨Nat.le_of_ble_eq_true rfl, Nat.le_of_ble_eq_true rfl⟩ (Nat.le_of_ble_eq_true rfl) ?_ ?_
  · rintro r9 μ9 z9 - ⟨rfl, h31, B9, τ9, hR9⟩
    refine v_st [.int ((sp_about σ a0 a1).1), .int (nI 0), .ref u] rfl ?_
    refine v_i2l (((sp_about σ a0 a1).1).toInt64) o dL_about_8 rfl ?_
    refine v_last o dL_about_9 (by decide) (by decide) ((hR9.2.2.2 u (by omega) hu2).trans he) (fun μ8 e8 => ?_)
    refine v_goto 21 o dL_about_10 (by decide) ?_
    refine v_iconst 0 o dL_about_21 rfl ?_
    exact v_iret o dL_about_22 hr (Nat.le_of_ble_eq_true rfl) (Nat.le_of_ble_eq_true rfl) ⟨by rw [h31], B9, τ9, vp_updL f 0 (((sp_about σ a0 a1).1).toInt64), by rw [e8]; exact hR9.outw hu hu2 _, fun _ => (if_pos rfl : vp_updL f 0 (((sp_about σ a0 a1).1).toInt64) 0 = ((sp_about σ a0 a1).1).toInt64).trans rfl⟩
  · rintro E μ9 z9 - ⟨⟨k, hk, hE⟩, rfl⟩
    rcases k with _ | _ | k
    · cases hE
      refine v_catch o [] ⟨0, 10, 13, 21⟩ [⟨0, 10, 17, 13⟩] hex (fun y hy => by cases hy) rfl (by decide) cl_L_21 ca_O (fun q => ?_)
      refine v_astore [(4, .ref q), (0, .ref x), (1, .int a0), (2, .int a1), (3, .ref u)] o dL_about_13 (by decide) rfl ?_
      refine v_iconst 1 o dL_about_15 rfl ?_
      exact v_iret o dL_about_16 hr (Nat.le_of_ble_eq_true rfl) (Nat.le_of_ble_eq_true rfl) ⟨by rw [hk, th_31], B, τ, f, by rw [hk, up_self he]; exact hR.base.thk _, fun h => (by rw [hk, th_31] at h; exact absurd h (by decide))⟩
    · cases hE
      refine v_catch o [⟨0, 10, 13, 21⟩] ⟨0, 10, 17, 13⟩ [] hex (by
          intro y hy
          simp only [List.mem_cons, List.not_mem_nil, or_false] at hy
          rcases hy with rfl
          · exact ⟨by decide, _, cl_L_21, by decide⟩) rfl (by decide) cl_L_13 ca_A (fun q => ?_)
      refine v_astore [(4, .ref q), (0, .ref x), (1, .int a0), (2, .int a1), (3, .ref u)] o dL_about_17 (by decide) rfl ?_
      refine v_iconst 2 o dL_about_19 rfl ?_
      exact v_iret o dL_about_20 hr (Nat.le_of_ble_eq_true rfl) (Nat.le_of_ble_eq_true rfl) ⟨by rw [hk, th_31], B, τ, f, by rw [hk, up_self he]; exact hR.base.thk _, fun h => (by rw [hk, th_31] at h; exact absurd h (by decide))⟩
    · cases hE

