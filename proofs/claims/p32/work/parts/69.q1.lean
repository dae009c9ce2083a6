/-! WHAT THE LAW RESTS ON, of the states: what always holds, call by call -/
def JX (e : Nat) (σ : Sg) : Prop :=
  (∀ b, b < σ.1 3 0 → ∃ s t, σ.2.2.1 1 b = nI s ∧ σ.2.2.1 4 b = nI t ∧ s + t ≤ 60 ∧ cnt (fun q => σ.2.1 2 (12 * b + q)) (σ.1 0 b) ≤ t) ∧
  (∀ a, σ.2.1 4 a = true → σ.2.1 2 a = true) ∧
  (∀ v a, v < 4 → a < 72 → σ.2.1 5 (72 * v + a) = true → σ.2.1 2 a = true) ∧
  (∃ d, d ≤ e ∧ σ.2.2.1 8 0 = nI d) ∧ (∃ y, y ≤ 4000 ∧ σ.2.2.1 8 1 = nI y) ∧ ∀ i, i < 4 → ∃ t, t ≤ 120 ∧ σ.2.2.1 7 i = nI t
def JV (e : Nat) (σ : Sg) : Prop := Inv σ ∧ σ.1 3 1 = 0 ∧ JX e σ
theorem JX.mono {e : Nat} {σ : Sg} (h : JX e σ) : JX (e + 1) σ := by
  obtain ⟨h1, h2, h3, ⟨d, hd, h4⟩, h5⟩ := h
  exact ⟨h1, h2, h3, ⟨d, by omega, h4⟩, h5⟩
theorem JX.t {e : Nat} {σ : Sg} (h : JX e σ) (k : Nat) : JX e (th σ k) := h
theorem th_th (σ : Sg) (a b : Nat) : th (th σ a) b = th σ b := Prod.ext (funext fun k => funext fun i => by
  show u2 (u2 σ.1 3 1 a) 3 1 b k i = u2 σ.1 3 1 b k i
  unfold u2
  split <;> rfl) rfl
theorem th_id {σ : Sg} (h : σ.1 3 1 = 0) : th σ 0 = σ := Prod.ext (funext fun k => funext fun i => by
  show u2 σ.1 3 1 0 k i = σ.1 k i
  unfold u2
  split
  · rename_i w
    rw [w.1, w.2, h]
  · rfl) rfl
theorem th_norm {σ : Sg} (h : σ.1 3 1 = 0) (k : Nat) : th (th σ k) 0 = σ := (th_th σ k 0).trans (th_id h)
/-- what the law's own callers make of an answer and a state: the answer, or a number where it throws -/
def wa (p : Int32 × Sg) : Int32 := if p.2.1 3 1 = 0 then p.1 else -99999999
def wl (p : Int64 × Sg) : Int64 := if p.2.1 3 1 = 0 then p.1 else -9000000000000000
theorem wa_t {p : Int32 × Sg} {σ : Sg} {k : Nat} (h : p.2 = th σ (k + 1)) : wa p = -99999999 := if_neg (by rw [h, th_31]; omega)
theorem wa_r {p : Int32 × Sg} (h : p.2.1 3 1 = 0) : wa p = p.1 := if_pos h
theorem wl_t {p : Int64 × Sg} {σ : Sg} {k : Nat} (h : p.2 = th σ (k + 1)) : wl p = -9000000000000000 := if_neg (by rw [h, th_31]; omega)
theorem wl_r {p : Int64 × Sg} (h : p.2.1 3 1 = 0) : wl p = p.1 := if_pos h
def Bad (r : Int64) : Prop := r = -99999999 ∨ r = -9000000000000000 ∨ r < -9000000000
theorem not_bad {r : Int64} (h : -1 ≤ r.toInt) : ¬ Bad r := fun q => by
  rcases q with q | q | q
  · have h1 := congrArg Int64.toInt q
    rw [show (-99999999 : Int64).toInt = -99999999 from by decide] at h1
    omega
  · have h1 := congrArg Int64.toInt q
    rw [show (-9000000000000000 : Int64).toInt = -9000000000000000 from by decide] at h1
    omega
  · rw [Int64.lt_iff_toInt_lt, show (-9000000000 : Int64).toInt = -9000000000 from by decide] at q
    omega
/-- a call's state is the one before, or it answers what isn't bad -/
def Fi (σ : Sg) (p : Int32 × Sg) : Prop := (∃ k, p.2 = th σ k) ∨ (p.2.1 3 1 = 0 ∧ -1 ≤ p.1.toInt)
def Sp (e : Nat) (σ : Sg) (p : Int32 × Sg) : Prop := JX (e + 1) p.2 ∧ Fi σ p
theorem Fi.bad {σ : Sg} {p : Int32 × Sg} (h : Fi σ p) (h0 : σ.1 3 1 = 0) (hb : Bad (wa p).toInt64) : th p.2 0 = σ := by
  rcases h with ⟨k, hk⟩ | ⟨h1, h2⟩
  · rw [hk, th_norm h0]
  · rw [wa_r h1] at hb
    exact absurd hb (not_bad (by rw [Int32.toInt_toInt64]; exact h2))
theorem sp_ro {e : Nat} {σ : Sg} {p : Int32 × Sg} (hJ : JX e σ) (k : Nat) (h : p.2 = th σ k) : Sp e σ p := ⟨by rw [h]; exact hJ.mono.t k, Or.inl ⟨k, h⟩⟩
theorem ge_nI {n : Nat} (h : n < 2 ^ 31) : -1 ≤ (nI n).toInt := by rw [nI_toInt h]; omega
theorem ge_mI {n : Nat} (h : n < 2 ^ 30) : -1 ≤ (mI n).toInt := by rw [mI_toInt h]; omega
theorem ge_bI (b : Bool) : -1 ≤ (bI b).toInt := by cases b <;> decide
/-! the calls that change nothing -/
theorem ro_next (σ : Sg) : ∃ k, (sp_next σ).2 = th σ k := ⟨0, rfl⟩
theorem ro_looked (σ : Sg) : ∃ k, (sp_looked σ).2 = th σ k := ⟨0, rfl⟩
theorem ro_copy (σ : Sg) (v b q : Int32) : ∃ k, (sp_copy σ v b q).2 = th σ k := by
  unfold sp_copy
  split
  · split
    · exact ⟨0, rfl⟩
    · exact ⟨2, rfl⟩
  · exact ⟨1, rfl⟩
theorem ro_isLost (σ : Sg) (b q : Int32) : ∃ k, (sp_isLost σ b q).2 = th σ k := by
  unfold sp_isLost
  split
  · exact ⟨0, rfl⟩
  · exact ⟨1, rfl⟩
theorem ro_order (σ : Sg) (b x : Int32) : ∃ k, (sp_order σ b x).2 = th σ k := by
  unfold sp_order
  split
  · split
    · exact ⟨_, rfl⟩
    · exact ⟨_, rfl⟩
  · exact ⟨_, rfl⟩
theorem ro_trust (σ : Sg) (w : Int32) : ∃ k, (sp_trust σ w).2 = th σ k := by
  unfold sp_trust
  split
  · exact ⟨_, rfl⟩
  · exact ⟨_, rfl⟩
theorem ro_pay (σ : Sg) (w : Int32) : ∃ k, (sp_pay σ w).2 = th σ k := by
  unfold sp_pay
  split
  · exact ⟨_, rfl⟩
  · exact ⟨_, rfl⟩
theorem ro_read (σ : Sg) (b q a : Int32) : ∃ k, (sp_read σ b q a).2 = th σ k := by
  unfold sp_read
  split
  · split
    · exact ⟨_, rfl⟩
    · exact ⟨_, rfl⟩
  · exact ⟨_, rfl⟩
theorem ro_doubt (σ : Sg) (b q a : Int32) : ∃ k, (sp_doubt σ b q a).2 = th σ k := by
  unfold sp_doubt
  split
  · split
    · exact ⟨_, rfl⟩
    · exact ⟨_, rfl⟩
  · exact ⟨_, rfl⟩
theorem ro_whyNot (σ : Sg) (b q v : Int32) : ∃ k, (sp_whyNot σ b q v).2 = th σ k := by
  unfold sp_whyNot
  split
  · exact ⟨_, rfl⟩
  · exact ⟨_, rfl⟩
theorem ro_about (σ : Sg) (b w : Int32) : ∃ k, (sp_about σ b w).2 = th σ k := by
  unfold sp_about
  split
  · split
    · exact ⟨_, rfl⟩
    · exact ⟨_, rfl⟩
  · exact ⟨_, rfl⟩
/-! the calls that change something -/
theorem s_look {e : Nat} {σ : Sg} (hI : Inv σ) (hJ : JX e σ) (b q : Int32) : Sp e σ (sp_look σ b q) := by
  unfold sp_look
  split
  · split
    · rename_i hs
      obtain ⟨h1, h2, h3, h4, h5⟩ := hJ.mono
      refine ⟨⟨h1, fun a ha => ?_, h3, h4, h5⟩, Or.inr ⟨rfl, ge_bI _⟩⟩
      show σ.2.1 2 a = true
      have ha' : u2 σ.2.1 4 (12 * tn b + tn q) (σ.2.1 4 (12 * tn b + tn q) || σ.2.1 3 (12 * tn b + tn q)) 4 a = true := ha
      by_cases w : a = 12 * tn b + tn q
      · rw [w]
        exact hs
      · rw [u2_i w] at ha'
        exact h2 a ha'
    · exact sp_ro hJ _ rfl
  · exact sp_ro hJ _ rfl
theorem s_calibrate {e : Nat} {σ : Sg} (hJ : JX e σ) (he : e ≤ 1000) : Sp e σ (sp_calibrate σ) := by
  obtain ⟨h1, h2, h3, ⟨d, hd, h4⟩, h5, h6⟩ := hJ
  refine ⟨⟨h1, h2, h3, ⟨0, Nat.zero_le _, rfl⟩, h5, h6⟩, Or.inr ⟨rfl, ?_⟩⟩
  show -1 ≤ (σ.2.2.1 8 0).toInt
  rw [h4]
  exact ge_nI (by omega)
theorem s_rot {e : Nat} {σ : Sg} (hJ : JX e σ) (v b q bit : Int32) : Sp e σ (sp_rot σ v b q bit) := by
  unfold sp_rot
  split
  · split
    · split
      · exact ⟨hJ.mono, Or.inr ⟨rfl, ge_bI _⟩⟩
      · exact sp_ro hJ _ rfl
    · exact sp_ro hJ _ rfl
  · exact sp_ro hJ _ rfl
theorem s_burn {e : Nat} {σ : Sg} (hJ : JX e σ) (v : Int32) : Sp e σ (sp_burn σ v) := by
  unfold sp_burn
  split
  · split
    · exact sp_ro hJ _ rfl
    · rw [clr_drp]
      obtain ⟨h1, h2, h3, h4, h5⟩ := hJ.mono
      refine ⟨⟨fun b hb => h1 b hb, fun a ha => h2 a ha, fun w a hw ha hc => h3 w a hw ha ?_, h4, h5⟩, Or.inr ⟨rfl, ge_nI (by have := cnt_le (fun a => σ.2.1 5 (72 * tn v + a)) 72; omega)⟩⟩
      have hc' : (if 5 = 5 ∧ 72 * tn v + 0 ≤ 72 * w + a ∧ 72 * w + a < 72 * tn v + 0 + 72 then false else σ.2.1 5 (72 * w + a)) = true := hc
      split at hc'
      · cases hc'
      · exact hc'
  · exact sp_ro hJ _ rfl
theorem s_build {e : Nat} {σ : Sg} (hJ : JX e σ) (v : Int32) : Sp e σ (0, sp_build σ v) := by
  unfold sp_build
  split
  · split
    · exact ⟨hJ.mono, Or.inr ⟨rfl, (by decide : -1 ≤ (0 : Int32).toInt)⟩⟩
    · exact sp_ro hJ _ rfl
  · exact sp_ro hJ _ rfl
theorem s_words {e : Nat} {σ : Sg} (hJ : JX e σ) (b q f t : Int32) : Sp e σ (0, sp_words σ b q f t) := by
  unfold sp_words
  split
  · split
    · exact ⟨hJ.mono, Or.inr ⟨rfl, (by decide : -1 ≤ (0 : Int32).toInt)⟩⟩
    · exact sp_ro hJ _ rfl
  · exact sp_ro hJ _ rfl
theorem s_gold {e : Nat} {σ : Sg} (hI : Inv σ) (hJ : JX e σ) (b q a letter : Int32) : Sp e σ (sp_gold σ b q a letter) := by
  unfold sp_gold
  split
  · split
    · exact ⟨hJ.mono, Or.inr ⟨rfl, ge_mI (by have := hI.2.2.1 (spot b q a); omega)⟩⟩
    · exact sp_ro hJ _ rfl
  · exact sp_ro hJ _ rfl
theorem s_key {e : Nat} {σ : Sg} (hI : Inv σ) (hJ : JX e σ) (w b q a letter : Int32) : Sp e σ (sp_key σ w b q a letter) := by
  unfold sp_key
  split
  · split
    · exact ⟨hJ.mono, Or.inr ⟨rfl, ge_mI (by have := hI.2.2.2.1 (5 * spot b q a + tn w); omega)⟩⟩
    · exact sp_ro hJ _ rfl
  · exact sp_ro hJ _ rfl
theorem s_pass {e : Nat} {σ : Sg} (hJ : JX e σ) (y : Int32) : Sp e σ (sp_pass σ y) := by
  unfold sp_pass
  split
  · rename_i hy
    split
    · exact sp_ro hJ _ rfl
    · rename_i hn
      obtain ⟨k, hk1, hk2, rfl⟩ := inR_nat hy (by decide) (by decide)
      obtain ⟨h1, h2, h3, h4, ⟨Y, hY, h5⟩, h6⟩ := hJ.mono
      rw [h5, nI_add] at hn ⊢
      have hle : Y + k ≤ 4000 := by
        rcases Nat.lt_or_ge 4000 (Y + k) with w | w
        · exact absurd (nI_lt w (by omega)) hn
        · exact w
      exact ⟨⟨h1, h2, h3, h4, ⟨Y + k, hle, rfl⟩, h6⟩, Or.inr ⟨rfl, ge_nI (by omega)⟩⟩
  · exact sp_ro hJ _ rfl
theorem s_term {e : Nat} {σ : Sg} (hJ : JX e σ) (i y : Int32) : Sp e σ (sp_term σ i y) := by
  unfold sp_term
  split
  · rename_i hi
    split
    · rename_i hy
      obtain ⟨k, hk1, hk2, rfl⟩ := inR_nat hy (by decide) (by decide)
      obtain ⟨j, hj1, hj2, rfl⟩ := inR_nat hi (by decide) (by decide)
      obtain ⟨h1, h2, h3, h4, h5, h6⟩ := hJ.mono
      rw [tn_nI (show j < 2 ^ 31 by omega)]
      refine ⟨⟨h1, h2, h3, h4, h5, fun w hw => ?_⟩, Or.inr ⟨rfl, ?_⟩⟩
      · show ∃ t, t ≤ 120 ∧ u2 σ.2.2.1 7 j (nI k) 7 w = nI t
        by_cases c : w = j
        · rw [c]
          exact ⟨k, hk2, u2_s⟩
        · rw [u2_i c]
          exact h6 w hw
      · obtain ⟨t, ht, h7⟩ := h6 j (by omega)
        show -1 ≤ (σ.2.2.1 7 j).toInt
        rw [h7]
        exact ge_nI (by omega)
    · exact sp_ro hJ _ rfl
  · exact sp_ro hJ _ rfl
theorem s_died {e : Nat} {σ : Sg} (hJ : JX e σ) (b y : Int32) : Sp e σ (0, sp_died σ b y) := by
  unfold sp_died
  split
  · split
    · split
      · exact ⟨hJ.mono, Or.inr ⟨rfl, (by decide : -1 ≤ (0 : Int32).toInt)⟩⟩
      · exact sp_ro hJ _ rfl
    · exact sp_ro hJ _ rfl
  · exact sp_ro hJ _ rfl
theorem s_search {e : Nat} {σ : Sg} (hJ : JX e σ) (b : Int32) : Sp e σ (sp_search σ b) := by
  unfold sp_search
  split
  · exact ⟨hJ.mono, Or.inr ⟨rfl, ge_bI _⟩⟩
  · exact sp_ro hJ _ rfl
theorem s_takeDown {e : Nat} {σ : Sg} (hJ : JX e σ) (b : Int32) (w : Bool) : Sp e σ (sp_takeDown σ b w) := by
  unfold sp_takeDown
  split
  · exact ⟨hJ.mono, Or.inr ⟨rfl, ge_bI _⟩⟩
  · exact sp_ro hJ _ rfl
theorem low_hit {f : Nat → Bool} : ∀ r d, ¬ low f r d = 0 → low f r d - 1 < d + r ∧ f (low f r d - 1) = true
  | 0, d, h => absurd rfl h
  | r + 1, d, h => by
    by_cases q : f d = true
    · have e : low f (r + 1) d = d + 1 := if_pos q
      rw [e, Nat.add_sub_cancel]
      exact ⟨by omega, q⟩
    · have e : low f (r + 1) d = low f r (d + 1) := if_neg q
      rw [e] at h ⊢
      have := low_hit r (d + 1) h
      exact ⟨by omega, this.2⟩
theorem low_0 {f : Nat → Bool} : ∀ r d, low f r d = 0 → ∀ v, d ≤ v → v < d + r → f v = false
  | 0, d, _, v, h1, h2 => by omega
  | r + 1, d, h, v, h1, h2 => by
    by_cases q : f d = true
    · have e : low f (r + 1) d = d + 1 := if_pos q
      rw [e] at h
      omega
    · have e : low f (r + 1) d = low f r (d + 1) := if_neg q
      rw [e] at h
      by_cases w : v = d
      · rw [w]
        exact Bool.not_eq_true _ ▸ q
      · exact low_0 r (d + 1) h v (by omega) (by omega)
theorem low_of {f : Nat → Bool} {r d : Nat} (h : ∀ v, d ≤ v → v < d + r → f v = false) : low f r d = 0 := by
  rcases Nat.eq_zero_or_pos (low f r d) with q | q
  · exact q
  · have h1 := low_hit (f := f) r d (by omega)
    rcases Nat.lt_or_ge (low f r d - 1) d with w | w
    · exfalso
      have h3 : ∀ r d, ¬ low f r d = 0 → d < low f r d := by
        intro r
        induction r with
        | zero => intro d h; exact absurd rfl h
        | succ r ih =>
          intro d h
          unfold low at h ⊢
          split
          · omega
          · rename_i c
            rw [if_neg c] at h
            have := ih (d + 1) h
            omega
      have := h3 r d (by omega)
      omega
    · have := h _ w h1.1
      rw [h1.2] at this
      cases this
theorem hb_shot {σ : Sg} {v a : Nat} (h : hb σ v a = true) : σ.2.1 2 a = true := by
  unfold hb at h
  simp only [Bool.and_eq_true] at h
  exact h.1.2
theorem mn1_JX {e : Nat} {σ : Sg} (h : JX e σ) {v a : Nat} (hv : v < 4) (ha : a < 72) : JX e (mn1 σ v a) := by
  unfold mn1
  split
  · rename_i hc
    obtain ⟨h1, h2, h3, h4, h5⟩ := h
    refine ⟨h1, h2, fun w x hw hx hb => ?_, h4, h5⟩
    have hb' : u2 σ.2.1 5 (72 * v + a) true 5 (72 * w + x) = true := hb
    show σ.2.1 2 x = true
    by_cases q : 72 * w + x = 72 * v + a
    · have : x = a := by omega
      rw [this]
      simp only [Bool.and_eq_true, Bool.not_eq_true', decide_eq_false_iff_not] at hc
      exact hb_shot (low_hit 4 0 hc.1).2
    · rw [u2_i q] at hb'
      exact h3 w x hw hx hb'
  · exact h
theorem mnd_JX {e : Nat} {σ : Sg} (h : JX e σ) {v b : Nat} (hv : v < 4) (hb : b < 6) : ∀ n, n ≤ 12 → JX e (mnd σ v b n).2
  | 0, _ => h
  | n + 1, hn => by
    rw [mnd_st]
    exact mn1_JX (mnd_JX h hv hb n (by omega)) hv (by omega)
theorem s_mend {e : Nat} {σ : Sg} (hI : Inv σ) (hJ : JX e σ) (v b : Int32) : Sp e σ (sp_mend σ v b) := by
  unfold sp_mend
  split
  · rename_i hP
    rw [Bool.and_eq_true] at hP
    obtain ⟨i, hi, rfl⟩ := isV_t hP.1
    have hb := bk_on hI hP.2
    have h6 := hI.1
    have h12 := hI.2.1 (tn b)
    rw [tn_nI (show i < 2 ^ 31 by omega)]
    split
    · exact sp_ro hJ _ rfl
    · refine ⟨mnd_JX (hJ.mono.t 0) hi (by omega) _ h12, Or.inr ⟨?_, ge_nI (by have := mnd_le (th σ 0) i (tn b) (σ.1 0 (tn b)); omega)⟩⟩
      show (mnd (th σ 0) i (tn b) (σ.1 0 (tn b))).2.1 3 1 = 0
      rw [mnd_N]
      exact th_31 σ 0
  · exact sp_ro hJ _ rfl
theorem cnt_up (f : Nat → Bool) (n : Nat) : cnt f n ≤ cnt f (n + 1) := by
  show cnt f n ≤ cnt f n + _
  omega
theorem cnt_one {f f' : Nat → Bool} {j : Nat} (h : ∀ k, f' k = true → f k = true ∨ k = j) : ∀ n, cnt f' n ≤ cnt f n + (if j < n then 1 else 0)
  | 0 => Nat.zero_le _
  | n + 1 => by
    have ih := cnt_one h n
    have hn := h n
    have e1 : (if j < n then 1 else 0) ≤ (if j < n + 1 then 1 else 0) := by split <;> split <;> omega
    by_cases q : f' n = true
    · rw [cnt_t q]
      rcases hn q with w | w
      · rw [cnt_t w]
        omega
      · subst w
        rw [if_neg (Nat.lt_irrefl n)] at ih
        rw [if_pos (Nat.lt_succ_self n)]
        have := cnt_up f n
        omega
    · rw [cnt_f (by simpa using q)]
      have := cnt_up f n
      omega
theorem cnt_none {f : Nat → Bool} {n : Nat} (h : ∀ k, k < n → f k = false) : cnt f n = 0 := by
  have := cnt_blank (f := f) (a := 0) n (fun k _ hk => h k (by omega))
  rw [Nat.zero_add] at this
  exact this
theorem putv_JX {e : Nat} {σ : Sg} (h : JX e σ) {a : Nat} (hs : σ.2.1 2 a = true) (ha : a < 72) (its : Int64) (v : Nat) : JX e (putv σ a its v) := by
  unfold putv
  split
  · exact h
  · obtain ⟨h1, h2, h3, h4, h5⟩ := h
    refine ⟨h1, h2, fun w x hw hx hb => ?_, h4, h5⟩
    have hb' : u2 σ.2.1 5 (72 * v + a) true 5 (72 * w + x) = true := hb
    show σ.2.1 2 x = true
    by_cases q : 72 * w + x = 72 * v + a
    · have : x = a := by omega
      rw [this]
      exact hs
    · rw [u2_i q] at hb'
      exact h3 w x hw hx hb'
theorem putv_B2 (σ : Sg) (a : Nat) (its : Int64) (v : Nat) : (putv σ a its v).2.1 2 = σ.2.1 2 := by
  unfold putv
  split
  · rfl
  · funext i
    show u2 σ.2.1 5 (72 * v + a) true 2 i = σ.2.1 2 i
    exact u2_k (by decide)
theorem puts_B2 (σ : Sg) (a : Nat) (its : Int64) : ∀ n, (puts σ a its n).2.1 2 = σ.2.1 2
  | 0 => rfl
  | n + 1 => (putv_B2 _ a its n).trans (puts_B2 σ a its n)
theorem puts_JX {e : Nat} {σ : Sg} (h : JX e σ) {a : Nat} (hs : σ.2.1 2 a = true) (ha : a < 72) (its : Int64) : ∀ n, JX e (puts σ a its n)
  | 0 => h
  | n + 1 => putv_JX (puts_JX h hs ha its n) (by rw [puts_B2]; exact hs) ha its n
theorem s_shot {e : Nat} {σ : Sg} (hI : Inv σ) (hJ : JX e σ) (b q angle : Int32) (its : Int64) : Sp e σ (sp_shot σ b q angle its) := by
  unfold sp_shot
  split
  · rename_i hP
    obtain ⟨i, j, hi, hj, rfl, rfl⟩ := isP_t hI hP
    have h6 := hI.1
    have h12 := hI.2.1 i
    rw [tn_nI (show i < 2 ^ 31 by omega), tn_nI (show j < 2 ^ 31 by omega)]
    split
    · split
      · rename_i hc
        simp only [Bool.and_eq_true, decide_eq_true_eq, Bool.or_eq_true, Bool.not_eq_true'] at hc
        obtain ⟨⟨-, hcost⟩, -⟩ := hc
        obtain ⟨h1, h2, h3, ⟨d, hd, h4⟩, h5⟩ := hJ
        obtain ⟨s, t, hs, ht, hst, hcn⟩ := h1 i hi
        obtain ⟨c, hc1, hc2, hcI⟩ : ∃ c, 1 ≤ c ∧ c ≤ 2 ∧ costI angle = nI c := by
          unfold costI
          split
          · exact ⟨2, by decide, by decide, rfl⟩
          · exact ⟨1, by decide, by decide, rfl⟩
        rw [hcI, hs, nI_leI (by omega) (by omega)] at hcost
        rw [hcI, hs, pk_sub hcost, ht, nI_add, h4, nI_add]
        refine ⟨puts_JX ?_ ?_ (by omega) its 4, Or.inr ⟨?_, ge_nI (by omega)⟩⟩
        · refine ⟨fun k hk => ?_, fun a ha => ?_, fun v a hv ha hb => ?_, ⟨d + 1, by omega, rfl⟩, h5⟩
          · by_cases w : k = i
            · subst w
              refine ⟨s - c, t + 1, ?_, ?_, by omega, ?_⟩
              · show u2 (u2 (u2 σ.2.2.1 1 k (nI (s - c))) 4 k (nI (t + 1))) 8 0 (nI (d + 1)) 1 k = _
                rw [u2_k (by decide), u2_k (by decide), u2_s]
              · show u2 (u2 (u2 σ.2.2.1 1 k (nI (s - c))) 4 k (nI (t + 1))) 8 0 (nI (d + 1)) 4 k = _
                rw [u2_k (by decide), u2_s]
              · have h7 := cnt_one (f := fun q => σ.2.1 2 (12 * k + q)) (f' := fun q => u2 (u2 (u2 σ.2.1 2 (12 * k + j) true) 4 (12 * k + j) false) 3 (12 * k + j) (decide (nI 5 < nI d)) 2 (12 * k + q)) (j := j) (fun q hq => by
                  rw [u2_k (by decide), u2_k (by decide)] at hq
                  by_cases r : q = j
                  · exact Or.inr r
                  · rw [u2_i (by omega)] at hq
                    exact Or.inl hq) (σ.1 0 k)
                refine Nat.le_trans h7 ?_
                split <;> omega
            · obtain ⟨s', t', a1, a2, a3, a4⟩ := h1 k hk
              refine ⟨s', t', ?_, ?_, a3, ?_⟩
              · show u2 (u2 (u2 σ.2.2.1 1 i (nI (s - c))) 4 i (nI (t + 1))) 8 0 (nI (d + 1)) 1 k = _
                rw [u2_k (by decide), u2_k (by decide), u2_i w, a1]
              · show u2 (u2 (u2 σ.2.2.1 1 i (nI (s - c))) 4 i (nI (t + 1))) 8 0 (nI (d + 1)) 4 k = _
                rw [u2_k (by decide), u2_i w, u2_k (by decide), a2]
              · refine Nat.le_trans (Nat.le_of_eq (cnt_congr _ (fun q hq => ?_))) a4
                show u2 (u2 (u2 σ.2.1 2 (12 * i + j) true) 4 (12 * i + j) false) 3 (12 * i + j) (decide (nI 5 < nI d)) 2 (12 * k + q) = _
                have hk12 : σ.1 0 k ≤ 12 := hI.2.1 k
                have hq' : q < σ.1 0 k := hq
                rw [u2_k (by decide), u2_k (by decide), u2_i (by omega)]
          · show u2 (u2 (u2 σ.2.1 2 (12 * i + j) true) 4 (12 * i + j) false) 3 (12 * i + j) (decide (nI 5 < nI d)) 2 a = true
            have ha' : u2 (u2 (u2 σ.2.1 2 (12 * i + j) true) 4 (12 * i + j) false) 3 (12 * i + j) (decide (nI 5 < nI d)) 4 a = true := ha
            rw [u2_k (by decide)] at ha' ⊢
            rw [u2_k (by decide)]
            by_cases w : a = 12 * i + j
            · rw [w, u2_s]
            · rw [u2_i w] at ha' ⊢
              rw [u2_k (by decide)] at ha'
              exact h2 a ha'
          · show u2 (u2 (u2 σ.2.1 2 (12 * i + j) true) 4 (12 * i + j) false) 3 (12 * i + j) (decide (nI 5 < nI d)) 2 a = true
            have hb' : u2 (u2 (u2 σ.2.1 2 (12 * i + j) true) 4 (12 * i + j) false) 3 (12 * i + j) (decide (nI 5 < nI d)) 5 (72 * v + a) = true := hb
            rw [u2_k (by decide), u2_k (by decide), u2_k (by decide)] at hb'
            have := h3 v a hv ha hb'
            rw [u2_k (by decide), u2_k (by decide)]
            by_cases w : a = 12 * i + j
            · rw [w, u2_s]
            · rw [u2_i w]
              exact this
        · show u2 (u2 (u2 σ.2.1 2 (12 * i + j) true) 4 (12 * i + j) false) 3 (12 * i + j) (decide (nI 5 < nI d)) 2 (12 * i + j) = true
          rw [u2_k (by decide), u2_k (by decide), u2_s]
        · rw [puts_N]
          exact th_31 σ 0
      · exact sp_ro hJ _ rfl
    · exact sp_ro hJ _ rfl
  · exact sp_ro hJ _ rfl
theorem s_book {e : Nat} {σ : Sg} (hI : Inv σ) (hJ : JX e σ) (many wide strong wished died : Int32) : Sp e σ (sp_book σ many wide strong wished died) := by
  unfold sp_book
  split
  · rename_i hA
    split
    · exact sp_ro hJ _ rfl
    · rename_i h6
      simp only [Bool.and_eq_true] at hA
      obtain ⟨nn, hk1, hk12, rfl⟩ := inR_nat hA.1.1.1.1 (by decide) (by decide)
      obtain ⟨s, hs1, hs60, rfl⟩ := inR_nat hA.1.1.2 (by decide) (by decide)
      rw [tn_nI (show nn < 2 ^ 31 by omega)]
      have hn6 := hI.1
      obtain ⟨-, -, -, -, -, i6, i7⟩ := hI
      obtain ⟨h1, h2, h3, h4, h5⟩ := hJ.mono
      refine ⟨⟨fun k hk => ?_, h2, h3, h4, h5⟩, Or.inr ⟨?_, ge_nI (by omega)⟩⟩
      · have hk' : k < σ.1 3 0 + 1 := hk
        have e0 : (uN (uI (uI (uI (uI (uN (th σ 0) 0 (σ.1 3 0) nn) 0 (σ.1 3 0) wide) 1 (σ.1 3 0) (nI s)) 2 (σ.1 3 0) wished) 3 (σ.1 3 0) died) 3 0 (σ.1 3 0 + 1)).1 0 k = if k = σ.1 3 0 then nn else σ.1 0 k := by simp [uN, uI, u2, th]
        have e1 : (uN (uI (uI (uI (uI (uN (th σ 0) 0 (σ.1 3 0) nn) 0 (σ.1 3 0) wide) 1 (σ.1 3 0) (nI s)) 2 (σ.1 3 0) wished) 3 (σ.1 3 0) died) 3 0 (σ.1 3 0 + 1)).2.2.1 1 k = if k = σ.1 3 0 then nI s else σ.2.2.1 1 k := by simp [uN, uI, u2, th]
        have e4 : (uN (uI (uI (uI (uI (uN (th σ 0) 0 (σ.1 3 0) nn) 0 (σ.1 3 0) wide) 1 (σ.1 3 0) (nI s)) 2 (σ.1 3 0) wished) 3 (σ.1 3 0) died) 3 0 (σ.1 3 0 + 1)).2.2.1 4 k = σ.2.2.1 4 k := by simp [uN, uI, u2, th]
        rw [e0, e1, e4]
        by_cases w : k = σ.1 3 0
        · rw [if_pos w, if_pos w, w]
          refine ⟨s, 0, rfl, (i6 (σ.1 3 0) (Nat.le_refl _) (by omega)).1, by omega, Nat.le_of_eq (cnt_none (fun q hq => ?_))⟩
          exact (i7 (σ.1 3 0) q (by omega) (by omega) (fun c => absurd c.1 (Nat.lt_irrefl _))).1.1
        · rw [if_neg w, if_neg w]
          exact h1 k (by omega)
      · show (u2 (u2 (u2 σ.1 3 1 0) 0 (σ.1 3 0) nn) 3 0 (σ.1 3 0 + 1)) 3 1 = 0
        rw [u2_i (by decide), u2_k (by decide), u2_s]
  · exact sp_ro hJ _ rfl
