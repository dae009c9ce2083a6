/-- pages that lead to one another; the last first -/
def chL (R : Nat → Nat → Bool) : List Nat → Bool
  | [] => true
  | [_] => true
  | q :: p :: r => R p q && chL R (p :: r)
def dn : Nat → Nat → List Nat
  | 0, _ => []
  | r + 1, d => d :: dn r (d + 1)
/-- all rows that begin so, the lowest first -/
def en (n : Nat) : Nat → List Nat → List (List Nat)
  | 0, pre => [pre]
  | m + 1, pre => (dn n 0).flatMap (fun p => if notIn p pre = true then en n m (p :: pre) else [])
theorem en_no {R : Nat → Nat → Bool} {n : Nat} : ∀ m pre, chL R pre = false → ∀ L ∈ en n m pre, chL R L = false
  | 0, pre, h, L, hL => by
    rw [show en n 0 pre = [pre] from rfl, List.mem_singleton] at hL
    rw [hL, h]
  | m + 1, pre, h, L, hL => by
    obtain ⟨p, -, hp⟩ := List.mem_flatMap.mp hL
    split at hp
    · refine en_no m (p :: pre) ?_ L hp
      cases pre with
      | nil => cases h
      | cons q r =>
        show (R q p && chL R (q :: r)) = false
        rw [h, Bool.and_false]
    · cases hp
theorem fsm_find {α : Type} {c : α → Bool} {h : Nat → Option α} {k : Nat → List α} (e : ∀ p, h p = (k p).find? c) : ∀ r d, fsm h r d = ((dn r d).flatMap k).find? c
  | 0, d => rfl
  | r + 1, d => by
    show _ = ((k d) ++ (dn r (d + 1)).flatMap k).find? c
    rw [List.find?_append, ← e d, ← fsm_find e r (d + 1)]
    show (match h d with | some x => some x | none => fsm h r (d + 1)) = _
    cases h d <;> rfl
theorem dfs_find {R : Nat → Nat → Bool} {n : Nat} : ∀ m pre, chL R pre = true → dfs R n m pre = (en n m pre).find? (chL R)
  | 0, pre, h => by
    show some pre = [pre].find? (chL R)
    rw [List.find?_cons_of_pos h]
  | m + 1, pre, h => by
    refine fsm_find (fun p => ?_) n 0
    by_cases q : notIn p pre = true
    · rw [if_pos q]
      have e : okB R pre p = chL R (p :: pre) := by
        cases pre with
        | nil => exact q
        | cons a r =>
          show (R a p && notIn p (a :: r)) = (R a p && chL R (a :: r))
          rw [q, h]
      by_cases w : chL R (p :: pre) = true
      · rw [if_pos (e.trans w)]
        exact dfs_find m (p :: pre) w
      · rw [if_neg (fun v => w (e.symm.trans v))]
        symm
        rw [List.find?_eq_none]
        intro L hL
        rw [en_no m (p :: pre) (by simpa using w) L hL]
        decide
    · rw [if_neg q]
      have : okB R pre p = false := by
        unfold okB
        rw [show notIn p pre = false by simpa using q, Bool.and_false]
      rw [this]
      rfl
/-! the next row -/
def ris (f : Nat → Nat) : Nat → Nat
  | 0 => 0
  | k + 1 => if f (k + 1) < f k then ris f k else k + 1
def nhi (f : Nat → Nat) (r : Nat) : Nat → Nat
  | 0 => 0
  | k + 1 => if r < k + 1 ∧ f (k + 1) < f r then nhi f r k else k + 1
def swF (f : Nat → Nat) (a b : Nat) : Nat → Nat := fun i => if i = b then f a else if i = a then f b else f i
def rv : Nat → (Nat → Nat) → Nat → Nat → (Nat → Nat)
  | 0, f, _, _ => f
  | d + 1, f, lo, hi => if lo < hi then rv d (swF f lo hi) (lo + 1) (hi - 1) else f
def nxF (n : Nat) (f : Nat → Nat) : Option (Nat → Nat) := match ris f (n - 1) with
  | 0 => none
  | r + 1 => some (rv 3 (swF f r (nhi f r (n - 1))) (r + 1) (n - 1))
def agr (n : Nat) (f h : Nat → Nat) : Prop := ∀ j, j < n → f j = h j
theorem ris_agr {n : Nat} {f h : Nat → Nat} (e : agr n f h) : ∀ k, k < n → ris f k = ris h k
  | 0, _ => rfl
  | k + 1, hk => by
    unfold ris
    rw [e (k + 1) hk, e k (by omega), ris_agr e k (by omega)]
theorem nhi_agr {n : Nat} {f h : Nat → Nat} (e : agr n f h) {r : Nat} (hr : r < n) : ∀ k, k < n → nhi f r k = nhi h r k
  | 0, _ => rfl
  | k + 1, hk => by
    unfold nhi
    rw [e (k + 1) hk, e r hr, nhi_agr e hr k (by omega)]
theorem nhi_le (f : Nat → Nat) (r : Nat) : ∀ k, nhi f r k ≤ k
  | 0 => Nat.le_refl 0
  | k + 1 => by
    unfold nhi
    have := nhi_le f r k
    split <;> omega
theorem ris_le (f : Nat → Nat) : ∀ k, ris f k ≤ k
  | 0 => Nat.le_refl 0
  | k + 1 => by
    unfold ris
    have := ris_le f k
    split <;> omega
theorem swF_agr {n : Nat} {f h : Nat → Nat} (e : agr n f h) {a b : Nat} (ha : a < n) (hb : b < n) : agr n (swF f a b) (swF h a b) := fun j hj => by
  unfold swF
  rw [e a ha, e b hb, e j hj]
theorem rv_agr {n : Nat} : ∀ d (f h : Nat → Nat) lo hi, agr n f h → hi < n → agr n (rv d f lo hi) (rv d h lo hi)
  | 0, f, h, lo, hi, e, _ => e
  | d + 1, f, h, lo, hi, e, hh => by
    unfold rv
    by_cases q : lo < hi
    · rw [if_pos q, if_pos q]
      exact rv_agr d _ _ _ _ (swF_agr e (by omega) hh) (by omega)
    · rw [if_neg q, if_neg q]
      exact e
theorem nxF_none {n : Nat} {f h : Nat → Nat} (hn : 0 < n) (e : agr n f h) (q : nxF n h = none) : nxF n f = none := by
  unfold nxF at q ⊢
  rw [ris_agr e (n - 1) (by omega)]
  cases hr : ris h (n - 1) with
  | zero => rfl
  | succ r =>
    rw [hr] at q
    cases q
theorem nxF_some {n : Nat} {f h h1 : Nat → Nat} (hn : 0 < n) (e : agr n f h) (q : nxF n h = some h1) : ∃ f1, nxF n f = some f1 ∧ agr n f1 h1 := by
  unfold nxF at q ⊢
  rw [ris_agr e (n - 1) (by omega)]
  have hl := ris_le h (n - 1)
  cases hr : ris h (n - 1) with
  | zero => rw [hr] at q; cases q
  | succ r =>
    rw [hr] at q hl
    have hs := nhi_le h r (n - 1)
    refine ⟨_, rfl, ?_⟩
    cases q
    rw [nhi_agr e (show r < n by omega) (n - 1) (by omega)]
    exact rv_agr 3 _ _ _ _ (swF_agr e (by omega) (by omega)) (by omega)
def tab (f : Nat → Nat) : Nat → List Nat
  | 0 => []
  | k + 1 => f k :: tab f k
theorem tab_len (f : Nat → Nat) : ∀ k, (tab f k).length = k
  | 0 => rfl
  | k + 1 => congrArg (· + 1) (tab_len f k)
theorem mr_tab {τ : Sg} {f : Nat → Nat} : ∀ k, agr k (τ.1 0) f → mr τ (tab f k)
  | 0, _ => trivial
  | k + 1, e => ⟨by rw [tab_len]; exact e k (by omega), mr_tab k (fun j hj => e j (by omega))⟩
def ltL (n : Nat) : List Nat → Bool
  | [] => true
  | p :: r => Nat.blt p n && ltL n r
theorem ltL_at {n : Nat} {τ : Sg} : ∀ (L : List Nat), ltL n L = true → mr τ L → ∀ j, j < L.length → τ.1 0 j < n
  | [], _, _, j, hj => absurd hj (Nat.not_lt_zero j)
  | p :: r, h, hm, j, hj => by
    have h1 : Nat.blt p n = true ∧ ltL n r = true := by
      have : (Nat.blt p n && ltL n r) = true := h
      simpa using this
    have hj2 : j < r.length + 1 := hj
    by_cases e : j = r.length
    · subst e
      rw [hm.1]
      exact Nat.le_of_ble_eq_true h1.1
    · exact ltL_at r h1.2 hm.2 j (by omega)
def eqL : List Nat → List Nat → Bool
  | [], [] => true
  | a :: r, b :: s => Nat.beq a b && eqL r s
  | _, _ => false
theorem eqL_eq : ∀ a b, eqL a b = true → a = b
  | [], [], _ => rfl
  | [], b :: s, h => by cases h
  | a :: r, [], h => by cases h
  | a :: r, b :: s, h => by
    have h1 : Nat.beq a b = true ∧ eqL r s = true := by
      have : (Nat.beq a b && eqL r s) = true := h
      simpa using this
    rw [Nat.eq_of_beq_eq_true h1.1, eqL_eq r s h1.2]
def isE : List (List Nat) → Bool
  | [] => true
  | _ :: _ => false
def hdE (L : List Nat) : List (List Nat) → Bool
  | [] => false
  | M :: _ => eqL L M
def stpB (n : Nat) (L : List Nat) (rest : List (List Nat)) : Bool := match nxF n (rowAt L) with
  | none => isE rest
  | some f => hdE (tab f n) rest
def chN (n : Nat) : List (List Nat) → Bool
  | [] => true
  | L :: rest => Nat.beq L.length n && (ltL n L && (stpB n L rest && chN n rest))
def lenL : List (List Nat) → Nat
  | [] => 0
  | _ :: r => lenL r + 1
def chNA (n : Nat) : Bool := chN n (en n n []) && (hdE (tab (fun i => i) n) (en n n []) && Nat.ble (lenL (en n n [])) 5040)
theorem chN_1 : chNA 1 = true := by decide +kernel
theorem chN_2 : chNA 2 = true := by decide +kernel
theorem chN_3 : chNA 3 = true := by decide +kernel
theorem chN_4 : chNA 4 = true := by decide +kernel
theorem chN_5 : chNA 5 = true := by decide +kernel
theorem chN_6 : chNA 6 = true := by decide +kernel
theorem chN_7 : chNA 7 = true := by decide +kernel
