theorem ini_L : Cond.initialized RL ∈ mT := mT_in 0 (by decide +kernel) rfl
theorem ca_O : Cond.castable "java/lang/IndexOutOfBoundsException" "java/lang/IndexOutOfBoundsException" ∈ mT := mT_in 326 (by decide +kernel) rfl
theorem ca_A : Cond.castable "java/lang/IllegalArgumentException" "java/lang/IllegalArgumentException" ∈ mT := mT_in 141 (by decide +kernel) rfl
theorem ca_S : Cond.castable "java/lang/IllegalStateException" "java/lang/IllegalStateException" ∈ mT := mT_in 209 (by decide +kernel) rfl
theorem cl_L_21 : Cond.classLink RL 21 "java/lang/IndexOutOfBoundsException" ∈ mT := mT_in 315 (by decide +kernel) rfl
theorem cl_L_13 : Cond.classLink RL 13 "java/lang/IllegalArgumentException" ∈ mT := mT_in 130 (by decide +kernel) rfl
theorem cl_L_15 : Cond.classLink RL 15 "java/lang/IllegalStateException" ∈ mT := mT_in 131 (by decide +kernel) rfl
theorem cow_L_book : Cond.codeWith yL_book cL_book 8 (some .int) [(0, 16, 19, 13), (0, 16, 23, 15)] ∈ mT := mT_in 129 (by decide +kernel) rfl
theorem cwh_L_111 : CWH RL 111 yL_book cL_book 8 (some .int) [(0, 16, 19, 13), (0, 16, 23, 15)] 7 := ⟨ml_L_111, cow_L_book, ini_L, by decide +kernel, by decide +kernel, st_L_book⟩
theorem cow_L_shot : Cond.codeWith yL_shot cL_shot 8 (some .int) [(0, 14, 17, 21), (0, 14, 21, 13), (0, 14, 25, 15)] ∈ mT := mT_in 314 (by decide +kernel) rfl
theorem cwh_L_127 : CWH RL 127 yL_shot cL_shot 8 (some .int) [(0, 14, 17, 21), (0, 14, 21, 13), (0, 14, 25, 15)] 6 := ⟨ml_L_127, cow_L_shot, ini_L, by decide +kernel, by decide +kernel, st_L_shot⟩
theorem cow_L_look : Cond.codeWith yL_look cL_look 5 (some .int) [(0, 17, 20, 21), (0, 17, 24, 15)] ∈ mT := mT_in 357 (by decide +kernel) rfl
theorem cwh_L_131 : CWH RL 131 yL_look cL_look 5 (some .int) [(0, 17, 20, 21), (0, 17, 24, 15)] 4 := ⟨ml_L_131, cow_L_look, ini_L, by decide +kernel, by decide +kernel, st_L_look⟩
theorem cow_L_rot : Cond.codeWith yL_rot cL_rot 7 (some .int) [(0, 21, 24, 21), (0, 21, 28, 13), (0, 21, 32, 15)] ∈ mT := mT_in 365 (by decide +kernel) rfl
theorem cwh_L_139 : CWH RL 139 yL_rot cL_rot 7 (some .int) [(0, 21, 24, 21), (0, 21, 28, 13), (0, 21, 32, 15)] 6 := ⟨ml_L_139, cow_L_rot, ini_L, by decide +kernel, by decide +kernel, st_L_rot⟩
theorem cow_L_burn : Cond.codeWith yL_burn cL_burn 4 (some .int) [(0, 9, 12, 21), (0, 9, 15, 15)] ∈ mT := mT_in 401 (by decide +kernel) rfl
theorem cwh_L_143 : CWH RL 143 yL_burn cL_burn 4 (some .int) [(0, 9, 12, 21), (0, 9, 15, 15)] 3 := ⟨ml_L_143, cow_L_burn, ini_L, by decide +kernel, by decide +kernel, st_L_burn⟩
theorem cow_L_build : Cond.codeWith yL_build cL_build 3 (some .int) [(0, 5, 8, 21), (0, 5, 11, 15)] ∈ mT := mT_in 417 (by decide +kernel) rfl
theorem cwh_L_147 : CWH RL 147 yL_build cL_build 3 (some .int) [(0, 5, 8, 21), (0, 5, 11, 15)] 2 := ⟨ml_L_147, cow_L_build, ini_L, by decide +kernel, by decide +kernel, st_L_build⟩
theorem cow_L_check : Cond.codeWith yL_check cL_check 5 (some .int) [(0, 10, 13, 21)] ∈ mT := mT_in 425 (by decide +kernel) rfl
theorem cwh_L_151 : CWH RL 151 yL_check cL_check 5 (some .int) [(0, 10, 13, 21)] 4 := ⟨ml_L_151, cow_L_check, ini_L, by decide +kernel, by decide +kernel, st_L_check⟩
theorem cow_L_mend : Cond.codeWith yL_mend cL_mend 5 (some .int) [(0, 10, 13, 21), (0, 10, 17, 15)] ∈ mT := mT_in 446 (by decide +kernel) rfl
theorem cwh_L_158 : CWH RL 158 yL_mend cL_mend 5 (some .int) [(0, 10, 13, 21), (0, 10, 17, 15)] 4 := ⟨ml_L_158, cow_L_mend, ini_L, by decide +kernel, by decide +kernel, st_L_mend⟩
theorem cow_L_copy : Cond.codeWith yL_copy cL_copy 6 (some .int) [(0, 11, 14, 21), (0, 11, 18, 15)] ∈ mT := mT_in 463 (by decide +kernel) rfl
theorem cwh_L_161 : CWH RL 161 yL_copy cL_copy 6 (some .int) [(0, 11, 14, 21), (0, 11, 18, 15)] 5 := ⟨ml_L_161, cow_L_copy, ini_L, by decide +kernel, by decide +kernel, st_L_copy⟩
theorem cow_L_isLost : Cond.codeWith yL_isLost cL_isLost 5 (some .int) [(0, 17, 20, 21)] ∈ mT := mT_in 470 (by decide +kernel) rfl
theorem cwh_L_165 : CWH RL 165 yL_isLost cL_isLost 5 (some .int) [(0, 17, 20, 21)] 4 := ⟨ml_L_165, cow_L_isLost, ini_L, by decide +kernel, by decide +kernel, st_L_isLost⟩
theorem cow_L_words : Cond.codeWith yL_words cL_words 6 (some .int) [(0, 9, 12, 21), (0, 9, 16, 13)] ∈ mT := mT_in 481 (by decide +kernel) rfl
theorem cwh_L_168 : CWH RL 168 yL_words cL_words 6 (some .int) [(0, 9, 12, 21), (0, 9, 16, 13)] 5 := ⟨ml_L_168, cow_L_words, ini_L, by decide +kernel, by decide +kernel, st_L_words⟩
theorem cow_L_order : Cond.codeWith yL_order cL_order 5 (some .int) [(0, 10, 13, 21), (0, 10, 17, 15)] ∈ mT := mT_in 488 (by decide +kernel) rfl
theorem cwh_L_172 : CWH RL 172 yL_order cL_order 5 (some .int) [(0, 10, 13, 21), (0, 10, 17, 15)] 4 := ⟨ml_L_172, cow_L_order, ini_L, by decide +kernel, by decide +kernel, st_L_order⟩
theorem cow_L_orderAnew : Cond.codeWith yL_orderAnew cL_orderAnew 5 (some .int) [(0, 10, 13, 21), (0, 10, 17, 15)] ∈ mT := mT_in 515 (by decide +kernel) rfl
theorem cwh_L_175 : CWH RL 175 yL_orderAnew cL_orderAnew 5 (some .int) [(0, 10, 13, 21), (0, 10, 17, 15)] 4 := ⟨ml_L_175, cow_L_orderAnew, ini_L, by decide +kernel, by decide +kernel, st_L_orderAnew⟩
theorem cow_L_gold : Cond.codeWith yL_gold cL_gold 7 (some .int) [(0, 14, 17, 21), (0, 14, 21, 13)] ∈ mT := mT_in 538 (by decide +kernel) rfl
theorem cwh_L_178 : CWH RL 178 yL_gold cL_gold 7 (some .int) [(0, 14, 17, 21), (0, 14, 21, 13)] 6 := ⟨ml_L_178, cow_L_gold, ini_L, by decide +kernel, by decide +kernel, st_L_gold⟩
theorem cow_L_key : Cond.codeWith yL_key cL_key 8 (some .int) [(0, 16, 19, 21), (0, 16, 23, 13)] ∈ mT := mT_in 549 (by decide +kernel) rfl
theorem cwh_L_181 : CWH RL 181 yL_key cL_key 8 (some .int) [(0, 16, 19, 21), (0, 16, 23, 13)] 7 := ⟨ml_L_181, cow_L_key, ini_L, by decide +kernel, by decide +kernel, st_L_key⟩
theorem cow_L_trust : Cond.codeWith yL_trust cL_trust 4 (some .int) [(0, 9, 12, 21)] ∈ mT := mT_in 560 (by decide +kernel) rfl
theorem cwh_L_184 : CWH RL 184 yL_trust cL_trust 4 (some .int) [(0, 9, 12, 21)] 3 := ⟨ml_L_184, cow_L_trust, ini_L, by decide +kernel, by decide +kernel, st_L_trust⟩
theorem cow_L_pay : Cond.codeWith yL_pay cL_pay 4 (some .int) [(0, 9, 12, 21)] ∈ mT := mT_in 579 (by decide +kernel) rfl
theorem cwh_L_187 : CWH RL 187 yL_pay cL_pay 4 (some .int) [(0, 9, 12, 21)] 3 := ⟨ml_L_187, cow_L_pay, ini_L, by decide +kernel, by decide +kernel, st_L_pay⟩
theorem cow_L_read : Cond.codeWith yL_read cL_read 6 (some .int) [(0, 12, 15, 21)] ∈ mT := mT_in 590 (by decide +kernel) rfl
theorem cwh_L_190 : CWH RL 190 yL_read cL_read 6 (some .int) [(0, 12, 15, 21)] 5 := ⟨ml_L_190, cow_L_read, ini_L, by decide +kernel, by decide +kernel, st_L_read⟩
theorem cow_L_doubt : Cond.codeWith yL_doubt cL_doubt 6 (some .int) [(0, 12, 15, 21)] ∈ mT := mT_in 614 (by decide +kernel) rfl
theorem cwh_L_193 : CWH RL 193 yL_doubt cL_doubt 6 (some .int) [(0, 12, 15, 21)] 5 := ⟨ml_L_193, cow_L_doubt, ini_L, by decide +kernel, by decide +kernel, st_L_doubt⟩
theorem cow_L_pass : Cond.codeWith yL_pass cL_pass 4 (some .int) [(0, 9, 12, 13), (0, 9, 15, 15)] ∈ mT := mT_in 628 (by decide +kernel) rfl
theorem cwh_L_196 : CWH RL 196 yL_pass cL_pass 4 (some .int) [(0, 9, 12, 13), (0, 9, 15, 15)] 3 := ⟨ml_L_196, cow_L_pass, ini_L, by decide +kernel, by decide +kernel, st_L_pass⟩
theorem cow_L_term : Cond.codeWith yL_term cL_term 5 (some .int) [(0, 10, 13, 21), (0, 10, 17, 13)] ∈ mT := mT_in 636 (by decide +kernel) rfl
theorem cwh_L_199 : CWH RL 199 yL_term cL_term 5 (some .int) [(0, 10, 13, 21), (0, 10, 17, 13)] 4 := ⟨ml_L_199, cow_L_term, ini_L, by decide +kernel, by decide +kernel, st_L_term⟩
theorem cow_L_died : Cond.codeWith yL_died cL_died 4 (some .int) [(0, 6, 9, 21), (0, 6, 12, 13), (0, 6, 15, 15)] ∈ mT := mT_in 647 (by decide +kernel) rfl
theorem cwh_L_202 : CWH RL 202 yL_died cL_died 4 (some .int) [(0, 6, 9, 21), (0, 6, 12, 13), (0, 6, 15, 15)] 3 := ⟨ml_L_202, cow_L_died, ini_L, by decide +kernel, by decide +kernel, st_L_died⟩
theorem cow_L_search : Cond.codeWith yL_search cL_search 4 (some .int) [(0, 16, 19, 21)] ∈ mT := mT_in 655 (by decide +kernel) rfl
theorem cwh_L_206 : CWH RL 206 yL_search cL_search 4 (some .int) [(0, 16, 19, 21)] 3 := ⟨ml_L_206, cow_L_search, ini_L, by decide +kernel, by decide +kernel, st_L_search⟩
theorem cow_L_takeDown : Cond.codeWith yL_takeDown cL_takeDown 5 (some .int) [(0, 17, 20, 21)] ∈ mT := mT_in 662 (by decide +kernel) rfl
theorem cwh_L_209 : CWH RL 209 yL_takeDown cL_takeDown 5 (some .int) [(0, 17, 20, 21)] 4 := ⟨ml_L_209, cow_L_takeDown, ini_L, by decide +kernel, by decide +kernel, st_L_takeDown⟩
theorem cow_L_whyNot : Cond.codeWith yL_whyNot cL_whyNot 6 (some .int) [(0, 12, 15, 21)] ∈ mT := mT_in 669 (by decide +kernel) rfl
theorem cwh_L_213 : CWH RL 213 yL_whyNot cL_whyNot 6 (some .int) [(0, 12, 15, 21)] 5 := ⟨ml_L_213, cow_L_whyNot, ini_L, by decide +kernel, by decide +kernel, st_L_whyNot⟩
theorem cow_L_about : Cond.codeWith yL_about cL_about 5 (some .int) [(0, 10, 13, 21), (0, 10, 17, 13)] ∈ mT := mT_in 676 (by decide +kernel) rfl
theorem cwh_L_216 : CWH RL 216 yL_about cL_about 5 (some .int) [(0, 10, 13, 21), (0, 10, 17, 13)] 4 := ⟨ml_L_216, cow_L_about, ini_L, by decide +kernel, by decide +kernel, st_L_about⟩
section OUTA
variable {g : mG} {x : Nat} {B : Nat → Nat} {z0 : Nat} {μ0 μ : mM} {σ τ : Sg}
theorem RC.outw (h : RC g x B z0 μ0 σ τ μ) {u : Nat} (h1 : x + 12 ≤ u) (h2 : u < z0) (e : va_E) : RC g x B z0 (up μ0 u e) σ τ (up μ u e) := by
  obtain ⟨a1, a2, a3, a4⟩ := h
  refine ⟨fun k hk => (up_n (by omega)).trans (a1 k hk), fun i hi => ?_, a3, fun q hq hz => ?_⟩
  · have hz := a3.2.2.2.1 i hi
    obtain ⟨b1, b2, b3⟩ := a2 i hi
    exact ⟨(up_n (by omega)).trans b1, (up_n (by omega)).trans b2, fun j hj c hc => (up_n (by unfold pA; omega)).trans (b3 j hj c hc)⟩
  · show (if q = u then some e else μ q) = if q = u then some e else μ0 q
    split
    · rfl
    · exact a4 q hq hz
theorem up_self {μ : mM} {u : Nat} {e : va_E} (h : μ u = some e) : up μ u e = μ := funext fun q => by
  by_cases w : q = u
  · subst w
    rw [up_s, h]
  · exact up_n w
end OUTA
