/-! WHAT THE LAW ASKS AT ITS END, of the states -/
def JW (σ : Sg) : Prop := ∃ e, JV e σ
theorem about_is {σ : Sg} (hI : Inv σ) {b : Nat} (hb : b < σ.1 3 0) {w : Int32} (hw : inR w (nI 0) (nI 5) = true) : sp_about σ (nI b) w = (abtI σ b w, th σ 0) := by
  have h6 := hI.1
  unfold sp_about
  rw [if_pos (isB_nI hI hb), if_pos hw, tn_nI (by omega)]
theorem about_0 {σ : Sg} (hI : Inv σ) {b : Nat} (hb : ¬ b < σ.1 3 0) (hb6 : b < 100) (w : Int32) : sp_about σ (nI b) w = (nI 0, th σ 1) := by
  have h6 := hI.1
  unfold sp_about
  rw [if_neg]
  intro h
  obtain ⟨i, hi, e⟩ := isB_t hI h
  have := (nI_eq (show b < 2 ^ 31 by omega) (show i < 2 ^ 31 by omega)).mp e
  omega
theorem ab0 {σ : Sg} (h : JW σ) {b : Nat} (hb : b < σ.1 3 0) : ∃ s, s ≤ 60 ∧ (sp_about σ (nI b) (nI 0)).1 = nI s ∧ (sp_about σ (nI b) (nI 0)).2 = th σ 0 ∧ σ.2.2.1 1 b = nI s := by
  obtain ⟨e, hI, -, hX⟩ := h
  obtain ⟨s, t, h1, h2, h3, h4⟩ := hX.1 b hb
  rw [about_is hI hb (by decide)]
  exact ⟨s, by omega, by rw [abt_0, h1], rfl, h1⟩
theorem ab1 {σ : Sg} (h : JW σ) {b : Nat} (hb : b < σ.1 3 0) : ∃ c, c ≤ 12 ∧ (sp_about σ (nI b) (nI 1)).1 = nI c ∧ (sp_about σ (nI b) (nI 1)).2 = th σ 0 ∧ c = cnt (fun q => σ.2.1 2 (12 * b + q)) (σ.1 0 b) := by
  obtain ⟨e, hI, -, hX⟩ := h
  rw [about_is hI hb (by decide)]
  have := cnt_le (fun q => σ.2.1 2 (12 * b + q)) (σ.1 0 b)
  have := hI.2.1 b
  exact ⟨_, by omega, by rw [abt_1], rfl, rfl⟩
theorem ab2 {σ : Sg} (h : JW σ) {b : Nat} (hb : b < σ.1 3 0) : ∃ c, c ≤ cnt (fun q => σ.2.1 2 (12 * b + q)) (σ.1 0 b) ∧ (sp_about σ (nI b) (nI 2)).1 = nI c ∧ (sp_about σ (nI b) (nI 2)).2 = th σ 0 := by
  obtain ⟨e, hI, -, hX⟩ := h
  rw [about_is hI hb (by decide)]
  exact ⟨_, cnt_mono (fun k hk => hX.2.1 _ hk) _, by rw [abt_2], rfl⟩
theorem ab3 {σ : Sg} (h : JW σ) {b : Nat} (hb : b < σ.1 3 0) : ∃ c, c ≤ cnt (fun q => σ.2.1 2 (12 * b + q)) (σ.1 0 b) ∧ (sp_about σ (nI b) (nI 3)).1 = nI c ∧ (sp_about σ (nI b) (nI 3)).2 = th σ 0 := by
  obtain ⟨e, hI, -, hX⟩ := h
  rw [about_is hI hb (by decide)]
  refine ⟨_, cnt_mono (fun k hk => ?_) _, by rw [abt_3], rfl⟩
  have hk' : lostB σ (12 * b + k) = true := hk
  unfold lostB at hk'
  rw [Bool.and_eq_true] at hk'
  exact hk'.1
theorem ab5 {σ : Sg} (h : JW σ) {b : Nat} (hb : b < σ.1 3 0) : ∃ t, t ≤ 60 ∧ cnt (fun q => σ.2.1 2 (12 * b + q)) (σ.1 0 b) ≤ t ∧ (sp_about σ (nI b) (nI 5)).1 = nI t ∧ (sp_about σ (nI b) (nI 5)).2 = th σ 0 := by
  obtain ⟨e, hI, -, hX⟩ := h
  obtain ⟨s, t, h1, h2, h3, h4⟩ := hX.1 b hb
  rw [about_is hI hb (by decide)]
  exact ⟨t, by omega, h4, by rw [abt_5, h2], rfl⟩
theorem nlt {a b : Nat} (h : b ≤ a) (ha : a < 2 ^ 31) : ¬ nI a < nI b := by
  rw [Int32.lt_iff_toInt_lt, nI_toInt ha, nI_toInt (by omega)]
  omega
theorem q_1 {σ : Sg} (h : JW σ) {b : Nat} (hb : b < σ.1 3 0) : ¬ (sp_about σ (nI b) (nI 0)).1 < 0 := by
  obtain ⟨s, h1, h2, -⟩ := ab0 h hb
  rw [h2]
  exact nlt (Nat.zero_le _) (by omega)
theorem q_2 {σ : Sg} (h : JW σ) {b : Nat} (hb : b < σ.1 3 0) : ¬ nI 12 < (sp_about σ (nI b) (nI 1)).1 := by
  obtain ⟨c, h1, h2, -⟩ := ab1 h hb
  rw [h2]
  exact nlt h1 (by decide)
theorem q_3 {σ : Sg} (h : JW σ) {b : Nat} (hb : b < σ.1 3 0) : ¬ (sp_about σ (nI b) (nI 1)).1 < (sp_about σ (nI b) (nI 2)).1 := by
  obtain ⟨c, h1, h2, -, h3⟩ := ab1 h hb
  obtain ⟨d, g1, g2, -⟩ := ab2 h hb
  rw [h2, g2]
  exact nlt (by omega) (by omega)
theorem q_4 {σ : Sg} (h : JW σ) {b : Nat} (hb : b < σ.1 3 0) : ¬ (sp_about σ (nI b) (nI 1)).1 < (sp_about σ (nI b) (nI 3)).1 := by
  obtain ⟨c, h1, h2, -, h3⟩ := ab1 h hb
  obtain ⟨d, g1, g2, -⟩ := ab3 h hb
  rw [h2, g2]
  exact nlt (by omega) (by omega)
theorem q_5 {σ : Sg} (h : JW σ) {b : Nat} (hb : b < σ.1 3 0) : ¬ (sp_about σ (nI b) (nI 5)).1 < (sp_about σ (nI b) (nI 1)).1 := by
  obtain ⟨c, h1, h2, -, h3⟩ := ab1 h hb
  obtain ⟨d, g0, g1, g2, -⟩ := ab5 h hb
  rw [h2, g2]
  exact nlt (by omega) (by omega)
/-- lost, and why not -/
theorem q_w {σ : Sg} (h : JW σ) {b : Nat} (hb : b < σ.1 3 0) {k : Nat} (hk : k < 12) {i : Nat} (hi : i < 4) :
    wa (sp_isLost σ (nI b) (nI k)) < 0 ∨ (wa (sp_isLost σ (nI b) (nI k)) = nI 1 ∧ wa (sp_whyNot σ (nI b) (nI k) (nI i)) = nI 5) ∨
    (wa (sp_isLost σ (nI b) (nI k)) = nI 1 ∧ ∃ w, 1 < w ∧ w < 5 ∧ wa (sp_whyNot σ (nI b) (nI k) (nI i)) = nI w) ∨
    (wa (sp_isLost σ (nI b) (nI k)) = nI 0 ∧ ∃ w, w < 5 ∧ wa (sp_whyNot σ (nI b) (nI k) (nI i)) = nI w) := by
  obtain ⟨e, hI, -, hX⟩ := h
  have h6 := hI.1
  cases hP : isP σ (nI b) (nI k) with
  | false =>
    refine Or.inl ?_
    have e1 : sp_isLost σ (nI b) (nI k) = (nI 0, th σ 1) := if_neg (by rw [hP]; decide)
    rw [e1, wa_t (p := (nI 0, th σ 1)) (k := 0) rfl]
    decide
  | true =>
    have e1 : sp_isLost σ (nI b) (nI k) = (bI (lostB σ (12 * b + k)), th σ 0) := by
      unfold sp_isLost
      rw [if_pos hP, tn_nI (show b < 2 ^ 31 by omega), tn_nI (show k < 2 ^ 31 by omega)]
    have hl : inR (nI i) (nI 0) (nI 3) = true := by
      have := isV_nI hi
      exact this
    have e2 : sp_whyNot σ (nI b) (nI k) (nI i) = (nI (whyN σ b (12 * b + k) i), th σ 0) := by
      unfold sp_whyNot
      rw [if_pos (by rw [hP, hl]; rfl), tn_nI (show b < 2 ^ 31 by omega), tn_nI (show k < 2 ^ 31 by omega), tn_nI (show i < 2 ^ 31 by omega)]
    rw [e1, e2, wa_r (p := (bI (lostB σ (12 * b + k)), th σ 0)) (th_31 σ 0), wa_r (p := (nI (whyN σ b (12 * b + k) i), th σ 0)) (th_31 σ 0)]
    cases hL : lostB σ (12 * b + k) with
    | false =>
      refine Or.inr (Or.inr (Or.inr ⟨rfl, _, ?_, rfl⟩))
      unfold whyN
      rw [hL]
      split
      · decide
      · split
        · decide
        · split
          · decide
          · split
            · decide
            · decide
    | true =>
      have hs : σ.2.1 2 (12 * b + k) = true := by
        unfold lostB at hL
        rw [Bool.and_eq_true] at hL
        exact hL.1
      have hw : whyN σ b (12 * b + k) i = 2 ∨ whyN σ b (12 * b + k) i = 3 ∨ whyN σ b (12 * b + k) i = 4 ∨ whyN σ b (12 * b + k) i = 5 := by
        unfold whyN
        rw [hL, hs, if_neg (by decide)]
        split
        · exact Or.inl rfl
        · split
          · exact Or.inr (Or.inl rfl)
          · split
            · exact Or.inr (Or.inr (Or.inl rfl))
            · exact Or.inr (Or.inr (Or.inr rfl))
      rcases hw with hw | hw | hw | hw
      · exact Or.inr (Or.inr (Or.inl ⟨rfl, 2, by decide, by decide, by rw [hw]⟩))
      · exact Or.inr (Or.inr (Or.inl ⟨rfl, 3, by decide, by decide, by rw [hw]⟩))
      · exact Or.inr (Or.inr (Or.inl ⟨rfl, 4, by decide, by decide, by rw [hw]⟩))
      · exact Or.inr (Or.inl ⟨rfl, by rw [hw]⟩)
theorem q_6 {σ : Sg} (b q a : Int32) : ¬ nI 100 < wa (sp_doubt σ b q a) := by
  unfold sp_doubt
  split
  · split
    · rw [wa_r (p := (nI 0, th σ 0)) (th_31 σ 0)]
      show ¬ nI 100 < nI 0
      decide
    · rw [wa_r (p := (nI _, th σ 0)) (th_31 σ 0)]
      refine nlt ?_ (by decide)
      split
      · exact Nat.le_refl _
      · exact Nat.sub_le _ _
  · rw [wa_t (p := (nI 0, th σ 1)) (k := 0) rfl]
    decide
/-! mending -/
theorem hb_mn1 {σ : Sg} {v a v' a' : Nat} (ha : a < 72) (ha' : a' < 72) (h : a' ≠ a) : hb (mn1 σ v a) v' a' = hb σ v' a' := by
  unfold mn1
  split
  · have hne : 72 * v' + a' ≠ 72 * v + a := by omega
    show (u2 σ.2.1 5 (72 * v + a) true 5 (72 * v' + a') && u2 σ.2.1 5 (72 * v + a) true 2 a' && decide (prf (u2 σ.2.2.2 1 (72 * v + a) (σ.2.2.2 1 (72 * (lowest σ a - 1) + a)) 1 (72 * v' + a')) = prf (u2 σ.2.2.2 1 (72 * v + a) (σ.2.2.2 1 (72 * (lowest σ a - 1) + a)) 0 a'))) = _
    rw [u2_i hne, u2_k (by decide), u2_i hne, u2_k (by decide)]
    rfl
  · rfl
theorem lowest_mn1 {σ : Sg} {v a a' : Nat} (ha : a < 72) (ha' : a' < 72) (h : a' ≠ a) : lowest (mn1 σ v a) a' = lowest σ a' := by
  unfold lowest
  rw [show (fun w => hb (mn1 σ v a) w a') = fun w => hb σ w a' from funext fun w => hb_mn1 ha ha' h]
theorem mn1_ok (σ : Sg) (v a : Nat) : lowest (mn1 σ v a) a = 0 ∨ hb (mn1 σ v a) v a = true := by
  unfold mn1
  split
  · rename_i hc
    simp only [Bool.and_eq_true, Bool.not_eq_true', decide_eq_false_iff_not] at hc
    have hh := (low_hit 4 0 hc.1).2
    refine Or.inr ?_
    unfold hb at hh
    simp only [Bool.and_eq_true, decide_eq_true_eq] at hh
    show (u2 σ.2.1 5 (72 * v + a) true 5 (72 * v + a) && u2 σ.2.1 5 (72 * v + a) true 2 a && decide (prf (u2 σ.2.2.2 1 (72 * v + a) (σ.2.2.2 1 (72 * (lowest σ a - 1) + a)) 1 (72 * v + a)) = prf (u2 σ.2.2.2 1 (72 * v + a) (σ.2.2.2 1 (72 * (lowest σ a - 1) + a)) 0 a))) = true
    rw [u2_s, u2_k (by decide), u2_s, u2_k (by decide), hh.1.2]
    have hh2 : prf (σ.2.2.2 1 (72 * (lowest σ a - 1) + a)) = prf (σ.2.2.2 0 a) := hh.2
    rw [Bool.and_self, Bool.true_and, hh2]
    exact decide_eq_true rfl
  · rename_i hc
    by_cases h0 : lowest σ a = 0
    · exact Or.inl h0
    · refine Or.inr ?_
      cases hq : hb σ v a with
      | true => rfl
      | false => exact absurd (by rw [hq, decide_eq_false h0]; rfl) hc
def Md (σ : Sg) (v b : Nat) : Prop := ∀ p, p < σ.1 0 b → lowest σ (12 * b + p) = 0 ∨ hb σ v (12 * b + p) = true
theorem mnd_Md {σ : Sg} {v b : Nat} (hb6 : b < 6) : ∀ n, n ≤ 12 → ∀ p, p < n → lowest (mnd σ v b n).2 (12 * b + p) = 0 ∨ hb (mnd σ v b n).2 v (12 * b + p) = true
  | 0, _, p, hp => absurd hp (Nat.not_lt_zero p)
  | n + 1, hn, p, hp => by
    rw [mnd_st]
    by_cases q : p = n
    · rw [q]
      exact mn1_ok _ v (12 * b + n)
    · rw [lowest_mn1 (by omega) (by omega) (by omega), hb_mn1 (by omega) (by omega) (by omega)]
      exact mnd_Md hb6 n (by omega) p (by omega)
theorem Md_mnd {σ : Sg} {v b : Nat} (h : Md σ v b) : ∀ n, n ≤ σ.1 0 b → mnd σ v b n = (0, σ)
  | 0, _ => rfl
  | n + 1, hn => by
    have ih := Md_mnd h n (by omega)
    unfold mnd
    rw [ih, if_neg]
    intro hc
    simp only [Bool.and_eq_true, Bool.not_eq_true', decide_eq_false_iff_not] at hc
    rcases h n (by omega) with w | w
    · exact hc.1 w
    · rw [hc.2] at w
      cases w
theorem Md_told {e : Nat} {σ : Sg} (hX : JX e σ) {v b : Nat} (hv : v < 4) (hb6 : b < 6) (h : Md σ v b) (h12 : σ.1 0 b ≤ 12) {k : Nat} (hk : k < 16) (hne : neB σ v b (15 + k) = true) : k < σ.1 0 b ∧ lostB σ (12 * b + k) = true := by
  unfold neB at hne
  rw [decide_eq_true_eq, trn_leaf _ (by omega), trn_leaf _ (by omega), show 15 + k - 15 = k by omega] at hne
  by_cases hp : k < σ.1 0 b
  · refine ⟨hp, ?_⟩
    cases hs : σ.2.1 2 (12 * b + k) with
    | false =>
      exfalso
      refine hne ?_
      have e1 : leafB σ b k = 0 := if_neg (fun w => by rw [hs] at w; cases w.2)
      have e2 : leafV σ v b k = 0 := if_neg (fun w => by
        have := hX.2.2.1 v (12 * b + k) hv (by omega) w.2
        rw [hs] at this
        cases this)
      rw [e1, e2]
    | true =>
      rcases h k hp with w | w
      · unfold lostB
        rw [hs, w]
        rfl
      · exfalso
        refine hne ?_
        unfold hb at w
        simp only [Bool.and_eq_true, decide_eq_true_eq] at w
        have e1 : leafB σ b k = prf (σ.2.2.2 0 (12 * b + k)) := if_pos ⟨hp, hs⟩
        have e2 : leafV σ v b k = prf (σ.2.2.2 1 (72 * v + (12 * b + k))) := if_pos ⟨hp, w.1.1⟩
        rw [e1, e2, w.2]
  · exfalso
    refine hne ?_
    have e1 : leafB σ b k = 0 := if_neg (fun w => hp w.1)
    have e2 : leafV σ v b k = 0 := if_neg (fun w => hp w.1)
    rw [e1, e2]
/-! what a check tells and looks at -/
theorem toldN_tb (f : Nat → Bool) : ∀ n p, (toldN f n).testBit p = (decide (15 + p < n) && f (15 + p))
  | 0, p => by
    show (0 : Nat).testBit p = _
    rw [Nat.zero_testBit, decide_eq_false (by omega)]
    rfl
  | n + 1, p => by
    have ih := toldN_tb f n p
    unfold toldN
    split
    · rename_i h
      rw [Bool.and_eq_true, decide_eq_true_eq] at h
      rw [Nat.testBit_or, ih, Nat.testBit_two_pow]
      by_cases q : n - 15 = p
      · have e : 15 + p = n := by omega
        rw [decide_eq_true q, Bool.or_true, e, h.1, decide_eq_true (Nat.lt_succ_self n)]
        rfl
      · rw [decide_eq_false q, Bool.or_false]
        by_cases w : 15 + p < n
        · rw [decide_eq_true w, decide_eq_true (by omega)]
        · rw [decide_eq_false w, decide_eq_false (by omega)]
    · rename_i h
      rw [ih]
      by_cases q : 15 + p = n
      · rw [decide_eq_false (by omega), decide_eq_true (by omega), q]
        cases hf : f n with
        | false => rfl
        | true => exact absurd (by rw [hf, decide_eq_true (by omega)]; rfl) h
      · by_cases w : 15 + p < n
        · rw [decide_eq_true w, decide_eq_true (by omega)]
        · rw [decide_eq_false w, decide_eq_false (by omega)]
theorem cnt_pos {f : Nat → Bool} {k : Nat} (hf : f k = true) : ∀ n, k < n → 1 ≤ cnt f n
  | 0, h => absurd h (Nat.not_lt_zero k)
  | n + 1, h => by
    have := cnt_up f n
    by_cases q : k = n
    · rw [← q, cnt_t hf]
      omega
    · have := cnt_pos hf n (by omega)
      omega
theorem cnt_two {f : Nat → Bool} {j k : Nat} (hj : f j = true) (hf : f k = true) (hjk : j < k) : ∀ n, k < n → 2 ≤ cnt f n
  | 0, h => absurd h (Nat.not_lt_zero k)
  | n + 1, h => by
    have := cnt_up f n
    by_cases q : k = n
    · rw [← q, cnt_t hf]
      have := cnt_pos hj k hjk
      omega
    · have := cnt_two hj hf hjk n (by omega)
      omega
theorem cnt_ex {f : Nat → Bool} : ∀ n, 2 ≤ cnt f n → ∃ k, 0 < k ∧ k < n ∧ f k = true
  | 0, h => by
    have : cnt f 0 = 0 := rfl
    omega
  | n + 1, h => by
    by_cases q : f n = true
    · rcases Nat.eq_zero_or_pos n with z | z
      · subst z
        have : cnt f (0 + 1) ≤ 0 + 1 := cnt_le f (0 + 1)
        omega
      · exact ⟨n, z, Nat.lt_succ_self n, q⟩
    · rw [cnt_f (by simpa using q)] at h
      obtain ⟨k, h1, h2, h3⟩ := cnt_ex n h
      exact ⟨k, h1, by omega, h3⟩
theorem seen_leaf (σ : Sg) (v b : Nat) : ∀ d j, j + d = 31 → j < 31 → seenB σ v b j = true → neB σ v b j = true → ∃ k, 15 ≤ k ∧ k < 31 ∧ seenB σ v b k = true ∧ neB σ v b k = true := by
  intro d
  induction d using Nat.strongRecOn with
  | ind d ih =>
    intro j hd hj hs hn
    by_cases q : 15 ≤ j
    · exact ⟨j, q, hj, hs, hn⟩
    · have hch : neB σ v b (2 * j + 1) = true ∨ neB σ v b (2 * j + 2) = true := by
        rcases Bool.eq_false_or_eq_true (neB σ v b (2 * j + 1)) with w | w
        · exact Or.inl w
        · rcases Bool.eq_false_or_eq_true (neB σ v b (2 * j + 2)) with u | u
          · exact Or.inr u
          · exfalso
            unfold neB at hn w u
            rw [decide_eq_true_eq] at hn
            rw [decide_eq_false_iff_not, Decidable.not_not] at w u
            exact hn (by rw [trn_node (leafB σ b) (k := j) (by omega), trn_node (leafV σ v b) (k := j) (by omega), w, u])
      rcases hch with w | w
      · refine ih (31 - (2 * j + 1)) (by omega) (2 * j + 1) (by omega) (by omega) ?_ w
        rw [seenB_s σ v b _ (by omega), show (2 * j + 1 - 1) / 2 = j by omega, hs, hn, Bool.and_self, Bool.or_true]
      · refine ih (31 - (2 * j + 2)) (by omega) (2 * j + 2) (by omega) (by omega) ?_ w
        rw [seenB_s σ v b _ (by omega), show (2 * j + 2 - 1) / 2 = j by omega, hs, hn, Bool.and_self, Bool.or_true]
theorem seen_0 (σ : Sg) (v b : Nat) : seenB σ v b 0 = true := by
  rw [seenB_s σ v b 0 (by decide)]
  rfl
def tldN (σ : Sg) (v b : Nat) : Nat := toldN (fun k => seenB σ v b k && neB σ v b k) 31
def lkN (σ : Sg) (v b : Nat) : Nat := cnt (seenB σ v b) 31
theorem tldN_lt (σ : Sg) (v b : Nat) : tldN σ v b < 65536 := toldN_lt _ 31
theorem lkN_1 (σ : Sg) (v b : Nat) : 1 ≤ lkN σ v b := cnt_pos (seen_0 σ v b) 31 (by decide)
theorem lkN_31 (σ : Sg) (v b : Nat) : lkN σ v b ≤ 31 := cnt_le _ 31
theorem tld_lk (σ : Sg) (v b : Nat) : 0 < tldN σ v b ↔ 1 < lkN σ v b := by
  constructor
  · intro h
    obtain ⟨p, hp⟩ := Nat.exists_testBit_of_ne_zero (show tldN σ v b ≠ 0 by omega)
    unfold tldN at hp
    rw [toldN_tb, Bool.and_eq_true, Bool.and_eq_true, decide_eq_true_eq] at hp
    exact cnt_two (seen_0 σ v b) hp.2.1 (show 0 < 15 + p by omega) 31 hp.1
  · intro h
    obtain ⟨k, h1, h2, h3⟩ := cnt_ex 31 (show 2 ≤ cnt (seenB σ v b) 31 from h)
    rw [seenB_s σ v b k h2, decide_eq_false (by omega), Bool.false_or, Bool.and_eq_true] at h3
    obtain ⟨j, j1, j2, j3, j4⟩ := seen_leaf σ v b (31 - (k - 1) / 2) ((k - 1) / 2) (by omega) (by omega) h3.1 h3.2
    have hb : (tldN σ v b).testBit (j - 15) = true := by
      unfold tldN
      rw [toldN_tb, show 15 + (j - 15) = j by omega, decide_eq_true j2, j3, j4]
      rfl
    rcases Nat.eq_zero_or_pos (tldN σ v b) with z | z
    · rw [z, Nat.zero_testBit] at hb
      cases hb
    · exact z
theorem check_is {σ : Sg} (hI : Inv σ) {v b : Nat} (hv : v < 4) (hb : b < σ.1 3 0) : sp_check σ (nI v) (nI b) = (nI (tldN σ v b), uN (th σ 0) 3 2 (lkN σ v b)) := by
  have h6 := hI.1
  unfold sp_check
  rw [if_pos (by rw [isV_nI hv, isB_nI hI hb]; rfl), tn_nI (show v < 2 ^ 31 by omega), tn_nI (show b < 2 ^ 31 by omega), toldF_is _ 31 (Nat.le_refl _)]
  rfl
theorem mend_b {σ : Sg} (hI : Inv σ) {v b : Nat} (hv : v < 4) (hb : b < σ.1 3 0) (h : σ.2.1 6 v = true) : sp_mend σ (nI v) (nI b) = (nI 0, th σ 2) := by
  have h6 := hI.1
  unfold sp_mend
  rw [if_pos (by rw [isV_nI hv, isB_nI hI hb]; rfl), tn_nI (show v < 2 ^ 31 by omega), tn_nI (show b < 2 ^ 31 by omega), if_pos h]
theorem mend_g {σ : Sg} (hI : Inv σ) {v b : Nat} (hv : v < 4) (hb : b < σ.1 3 0) (h : σ.2.1 6 v = false) : sp_mend σ (nI v) (nI b) = (nI (mnd (th σ 0) v b (σ.1 0 b)).1, (mnd (th σ 0) v b (σ.1 0 b)).2) := by
  have h6 := hI.1
  unfold sp_mend
  rw [if_pos (by rw [isV_nI hv, isB_nI hI hb]; rfl), tn_nI (show v < 2 ^ 31 by omega), tn_nI (show b < 2 ^ 31 by omega), if_neg (by rw [h]; decide)]
theorem bit_of {t k : Nat} (ht : t < 65536) (hk : k < 12) : (nI t >>> (nI k &&& 31)) &&& nI 1 = nI (t / 2 ^ k % 2) := by
  rw [pk_shrN (by omega) _ k (s_sh k (by omega)), pk_andN (m := nI 1) (Nat.lt_of_le_of_lt (Nat.div_le_self _ _) (by omega)) 1 (by decide)]
/-- behind mending and checking -/
theorem q_m {σ : Sg} (h : JW σ) {v b : Nat} (hv : v < 4) (hb : b < σ.1 3 0) : ∃ σ1 σ2, th (sp_mend σ (nI v) (nI b)).2 0 = σ1 ∧ th (sp_check σ1 (nI v) (nI b)).2 0 = σ2 ∧ JW σ1 ∧ JW σ2 ∧ σ1.1 3 0 = σ.1 3 0 ∧ σ2.1 3 0 = σ.1 3 0 ∧ (sp_check σ1 (nI v) (nI b)).1 = nI (tldN σ1 v b) ∧ (sp_check σ1 (nI v) (nI b)).2.1 3 1 = 0 ∧ (sp_looked σ2).1 = nI (lkN σ1 v b) ∧
    ((wa (sp_mend σ (nI v) (nI b)) < 0) ∨ (¬ wa (sp_mend σ (nI v) (nI b)) < 0 ∧ wa (sp_mend σ2 (nI v) (nI b)) = 0 ∧ ∀ k, k < 12 → (nI (tldN σ1 v b) >>> (nI k &&& 31)) &&& nI 1 = 0 ∨ (¬ (nI (tldN σ1 v b) >>> (nI k &&& 31)) &&& nI 1 = 0 ∧ wa (sp_isLost σ2 (nI b) (nI k)) = nI 1))) := by
  obtain ⟨e, hI, h0, hX⟩ := h
  have h6 := hI.1
  have h12 := hI.2.1 b
  have hS := s_mend hI hX (nI v) (nI b)
  have hI1 : Inv (th (sp_mend σ (nI v) (nI b)).2 0) := (I_mend hI (nI v) (nI b)).t 0
  have hn1 : (th (sp_mend σ (nI v) (nI b)).2 0).1 3 0 = σ.1 3 0 ∧ (th (sp_mend σ (nI v) (nI b)).2 0).1 0 = σ.1 0 := by
    cases hq : σ.2.1 6 v with
    | true =>
      rw [mend_b hI hv hb hq]
      exact ⟨rfl, rfl⟩
    | false =>
      rw [mend_g hI hv hb hq]
      refine ⟨?_, ?_⟩
      · show (mnd (th σ 0) v b (σ.1 0 b)).2.1 3 0 = _
        rw [mnd_N]
        rfl
      · show (mnd (th σ 0) v b (σ.1 0 b)).2.1 0 = _
        rw [mnd_N]
        rfl
  refine ⟨_, _, rfl, rfl, ⟨e + 1, hI1, th_31 _ 0, hS.1.t 0⟩, ?_⟩
  have hX1 : JX (e + 1) (th (sp_mend σ (nI v) (nI b)).2 0) := hS.1.t 0
  have hcase : (σ.2.1 6 v = true ∧ wa (sp_mend σ (nI v) (nI b)) < 0) ∨ (σ.2.1 6 v = false ∧ ¬ wa (sp_mend σ (nI v) (nI b)) < 0 ∧ Md (th (sp_mend σ (nI v) (nI b)).2 0) v b ∧ (th (sp_mend σ (nI v) (nI b)).2 0).2.1 6 v = false) := by
    cases hq : σ.2.1 6 v with
    | true =>
      refine Or.inl ⟨rfl, ?_⟩
      rw [mend_b hI hv hb hq, wa_t (p := (nI 0, th σ 2)) (k := 1) rfl]
      decide
    | false =>
      refine Or.inr ⟨rfl, ?_, ?_, ?_⟩
      · rw [mend_g hI hv hb hq, wa_r (p := (nI (mnd (th σ 0) v b (σ.1 0 b)).1, (mnd (th σ 0) v b (σ.1 0 b)).2)) (by show (mnd (th σ 0) v b (σ.1 0 b)).2.1 3 1 = 0; rw [mnd_N]; exact th_31 σ 0)]
        have := mnd_le (th σ 0) v b (σ.1 0 b)
        exact nlt (Nat.zero_le _) (by omega)
      · intro p hp
        rw [hn1.2] at hp
        rw [mend_g hI hv hb hq]
        exact mnd_Md (by omega) (σ.1 0 b) h12 p hp
      · rw [mend_g hI hv hb hq]
        have hB6 : ∀ n, (mnd (th σ 0) v b n).2.2.1 6 v = σ.2.1 6 v := by
          intro n
          induction n with
          | zero => rfl
          | succ n ih =>
            rw [mnd_st]
            unfold mn1
            split
            · show u2 (mnd (th σ 0) v b n).2.2.1 5 (72 * v + (12 * b + n)) true 6 v = σ.2.1 6 v
              rw [u2_k (by decide)]
              exact ih
            · exact ih
        exact (hB6 _).trans hq
  generalize hσ1 : th (sp_mend σ (nI v) (nI b)).2 0 = σ1 at hI1 hn1 hX1 hcase ⊢
  have hb1 : b < σ1.1 3 0 := by rw [hn1.1]; exact hb
  have h01 : σ1.1 3 1 = 0 := by rw [← hσ1]; exact th_31 _ 0
  rw [check_is hI1 hv hb1]
  have hI2 : Inv (th (uN (th σ1 0) 3 2 (lkN σ1 v b)) 0) := hI1
  have hX2 : JX (e + 1) (th (uN (th σ1 0) 3 2 (lkN σ1 v b)) 0) := hX1
  refine ⟨⟨e + 1, hI2, th_31 _ 0, hX2⟩, hn1.1, hn1.1, rfl, rfl, ?_, ?_⟩
  · show nI (u2 (u2 (u2 σ1.1 3 1 0) 3 2 (lkN σ1 v b)) 3 1 0 3 2) = _
    rw [u2_i (by decide), u2_s]
  · rcases hcase with ⟨-, hc⟩ | ⟨-, hc, hM, hB6⟩
    · exact Or.inl hc
    · refine Or.inr ⟨hc, ?_, fun k hk => ?_⟩
      · have hM2 : Md (th (th (uN (th σ1 0) 3 2 (lkN σ1 v b)) 0) 0) v b := hM
        have hb2 : b < (th (uN (th σ1 0) 3 2 (lkN σ1 v b)) 0).1 3 0 := hb1
        rw [mend_g hI2 hv hb2 hB6, Md_mnd hM2 ((th (uN (th σ1 0) 3 2 (lkN σ1 v b)) 0).1 0 b) (Nat.le_refl _)]
        exact wa_r (p := (nI 0, th (th (uN (th σ1 0) 3 2 (lkN σ1 v b)) 0) 0)) (th_31 _ 0)
      · rw [bit_of (tldN_lt σ1 v b) hk]
        have htb : (tldN σ1 v b).testBit k = decide (tldN σ1 v b / 2 ^ k % 2 = 1) := Nat.testBit_eq_decide_div_mod_eq
        rcases Nat.mod_two_eq_zero_or_one (tldN σ1 v b / 2 ^ k) with z | z
        · rw [z]
          exact Or.inl rfl
        · refine Or.inr ⟨by rw [z]; decide, ?_⟩
          rw [z] at htb
          unfold tldN at htb
          rw [toldN_tb] at htb
          have htb' : (decide (15 + k < 31) && (seenB σ1 v b (15 + k) && neB σ1 v b (15 + k))) = true := htb.trans (by decide)
          rw [Bool.and_eq_true, Bool.and_eq_true] at htb'
          obtain ⟨hp, hl⟩ := Md_told hX1 hv (by omega) hM (by rw [hn1.2]; exact h12) (show k < 16 by omega) htb'.2.2
          have hP : isP (th (uN (th σ1 0) 3 2 (lkN σ1 v b)) 0) (nI b) (nI k) = true := isP_nI (i := b) (j := k) hI2 hb1 hp
          have e1 : sp_isLost (th (uN (th σ1 0) 3 2 (lkN σ1 v b)) 0) (nI b) (nI k) = (bI (lostB σ1 (12 * b + k)), th (th (uN (th σ1 0) 3 2 (lkN σ1 v b)) 0) 0) := by
            unfold sp_isLost
            rw [if_pos hP, tn_nI (show b < 2 ^ 31 by omega), tn_nI (show k < 2 ^ 31 by omega)]
            rfl
          rw [e1, hl]
          exact wa_r (p := (bI true, th (th (uN (th σ1 0) 3 2 (lkN σ1 v b)) 0) 0)) (th_31 _ 0)
/-! the rest -/
theorem q_t {σ : Sg} {k : Nat} (hk : k < 5) : ¬ (sp_trust σ (nI k)).1 < 0 ∧ ¬ nI 100 < (sp_trust σ (nI k)).1 ∧ ¬ (sp_pay σ (nI k)).1 < 0 ∧ (sp_trust σ (nI k)).2.1 3 1 = 0 ∧ (sp_pay σ (nI k)).2.1 3 1 = 0 := by
  have hR : inR (nI k) (nI 0) (nI 4) = true := by
    rcases (show k = 0 ∨ k = 1 ∨ k = 2 ∨ k = 3 ∨ k = 4 by omega) with rfl | rfl | rfl | rfl | rfl <;> decide
  have e1 : sp_trust σ (nI k) = (nI (trustN σ (tn (nI k))), th σ 0) := if_pos hR
  have e2 : sp_pay σ (nI k) = (nI (cnt (fun j => decide (0 < σ.1 2 (5 * j + tn (nI k)))) 288 * trustN σ (tn (nI k)) / 10), th σ 0) := if_pos hR
  rw [e1, e2]
  have h1 := trustN_le σ (tn (nI k))
  have h2 := cnt_le (fun j => decide (0 < σ.1 2 (5 * j + tn (nI k)))) 288
  refine ⟨nlt (Nat.zero_le _) (by omega), nlt h1 (by decide), nlt (Nat.zero_le _) ?_, th_31 σ 0, th_31 σ 0⟩
  have h3 : cnt (fun j => decide (0 < σ.1 2 (5 * j + tn (nI k)))) 288 * trustN σ (tn (nI k)) ≤ 288 * 100 := Nat.mul_le_mul h2 h1
  omega
theorem nxt_can (σ : Sg) : ∀ n, nxt σ n ≠ 0 → canB σ (nxt σ n - 1) = true
  | 0, h => absurd rfl h
  | n + 1, h => by
    by_cases q : (canB σ n && moreB σ (nxt σ n) n) = true
    · have e : nxt σ (n + 1) = n + 1 := if_pos q
      rw [e, Nat.add_sub_cancel]
      rw [Bool.and_eq_true] at q
      exact q.1
    · have e : nxt σ (n + 1) = nxt σ n := if_neg q
      rw [e] at h ⊢
      exact nxt_can σ n h
theorem q_n {σ : Sg} (h : JW σ) : (sp_next σ).1 < 0 ∨ ∃ b, b < σ.1 3 0 ∧ (sp_next σ).1 = nI b ∧ ¬ nI b < 0 ∧ ¬ (sp_about σ (nI b) (nI 0)).1 ≤ 0 := by
  by_cases q : nxt σ (σ.1 3 0) = 0
  · refine Or.inl ?_
    show mI (nxt σ (σ.1 3 0)) < 0
    rw [q]
    decide
  · have hc := nxt_can σ _ q
    have hle := nxt_le σ (σ.1 3 0)
    have hb : nxt σ (σ.1 3 0) - 1 < σ.1 3 0 := by omega
    have h6 : σ.1 3 0 ≤ 6 := by
      obtain ⟨e, hI, -⟩ := h
      exact hI.1
    refine Or.inr ⟨nxt σ (σ.1 3 0) - 1, hb, mI_pos q, nlt (Nat.zero_le _) (by omega), ?_⟩
    obtain ⟨s, -, h2, -, h3⟩ := ab0 h hb
    unfold canB at hc
    rw [Bool.and_eq_true, decide_eq_true_eq, h3] at hc
    rw [h2, Int32.not_le]
    exact hc.1
theorem q_6b {σ : Sg} (h : JW σ) : wa (sp_about σ (nI 6) (nI 0)) = -99999999 := by
  obtain ⟨e, hI, -⟩ := h
  have h6 := hI.1
  rw [about_0 hI (by omega) (by decide)]
  exact wa_t (p := (nI 0, th σ 1)) (k := 0) rfl
theorem q_b4 (σ : Sg) : sp_burn σ (nI 4) = (nI 0, th σ 1) := if_neg (by decide)
theorem q_ab {σ : Sg} (h : JW σ) {b : Nat} (hb6 : b < 6) : (b < σ.1 3 0 ∧ ¬ wa (sp_about σ (nI b) (nI 0)) = -99999999) ∨ wa (sp_about σ (nI b) (nI 0)) = -99999999 := by
  by_cases hb : b < σ.1 3 0
  · obtain ⟨s, hs, h2, h3, -⟩ := ab0 h hb
    refine Or.inl ⟨hb, fun q => ?_⟩
    rw [wa_r (by rw [h3]; exact th_31 σ 0), h2] at q
    have := congrArg Int32.toInt q
    rw [nI_toInt (by omega), show (-99999999 : Int32).toInt = -99999999 from by decide] at this
    omega
  · obtain ⟨e, hI, -⟩ := h
    refine Or.inr ?_
    rw [about_0 hI hb (by omega)]
    exact wa_t (p := (nI 0, th σ 1)) (k := 0) rfl
