/-! the order of pages: the first row, by the lowest page first, in which each leads to the one behind it -/
def notIn (p : Nat) : List Nat → Bool
  | [] => true
  | q :: r => notIn p r && decide (q ≠ p)
def okB (R : Nat → Nat → Bool) (pre : List Nat) (p : Nat) : Bool := (match pre with | [] => true | q :: _ => R q p) && notIn p pre
def fsm {α : Type} (h : Nat → Option α) : Nat → Nat → Option α
  | 0, _ => none
  | r + 1, d => match h d with | some x => some x | none => fsm h r (d + 1)
/-- m places are left; those before lie in pre, the last first -/
def dfs (R : Nat → Nat → Bool) (n : Nat) : Nat → List Nat → Option (List Nat)
  | 0, pre => some pre
  | m + 1, pre => fsm (fun p => if okB R pre p = true then dfs R n m (p :: pre) else none) n 0
def Rn (σ : Sg) (b q p : Nat) : Bool := decide (σ.2.2.1 6 (12 * b + q) = σ.2.2.1 5 (12 * b + p))
def ordL (σ : Sg) (b : Nat) : Option (List Nat) := dfs (Rn σ b) (σ.1 0 b) (σ.1 0 b) []
def rowAt : List Nat → Nat → Nat
  | [], _ => 0
  | p :: r, i => if i = r.length then p else rowAt r i
def ordN (σ : Sg) (b x : Nat) : Nat := match ordL σ b with | none => 0 | some L => rowAt L x + 1
def sp_order (σ : Sg) (b x : Int32) : Int32 × Sg :=
  if isP σ b x = true then
    if 7 < σ.1 0 (tn b) then (nI 0, th σ 2) else (mI (ordN σ (tn b) (tn x)), th σ 0)
  else (nI 0, th σ 1)
theorem fsm_t {α : Type} {h : Nat → Option α} {r d : Nat} {x : α} (q : h d = some x) : fsm h (r + 1) d = some x := by
  show (match h d with | some x => some x | none => fsm h r (d + 1)) = _
  rw [q]
theorem fsm_f {α : Type} {h : Nat → Option α} {r d : Nat} (q : h d = none) : fsm h (r + 1) d = fsm h r (d + 1) := by
  show (match h d with | some x => some x | none => fsm h r (d + 1)) = _
  rw [q]
/-- the row of the reference holds these, the last first -/
def mt (τ : Sg) : List Nat → Prop
  | [] => True
  | p :: r => τ.1 5 r.length = p + 1 ∧ mt τ r
def nd (τ : Sg) (p : Nat) : Nat → Bool
  | 0 => true
  | j + 1 => nd τ p j && decide (τ.1 5 j ≠ p + 1)
theorem nd_notIn {τ : Sg} (p : Nat) : ∀ pre : List Nat, mt τ pre → nd τ p pre.length = notIn p pre
  | [], _ => rfl
  | q :: r, h => by
    show (nd τ p r.length && decide (τ.1 5 r.length ≠ p + 1)) = (notIn p r && decide (q ≠ p))
    rw [nd_notIn p r h.2, h.1]
    congr 1
    simp
theorem mt_set {τ : Sg} {k v : Nat} : ∀ pre : List Nat, pre.length ≤ k → mt τ pre → mt (uN τ 5 k v) pre
  | [], _, _ => trivial
  | p :: r, hl, h => ⟨by
      show u2 τ.1 5 k v 5 r.length = _
      have : r.length + 1 ≤ k := hl
      rw [u2_i (by omega)]
      exact h.1, mt_set r (by have : r.length + 1 ≤ k := hl; omega) h.2⟩
theorem mt_at {τ : Sg} : ∀ (L : List Nat) (i : Nat), mt τ L → i < L.length → τ.1 5 i = rowAt L i + 1
  | [], i, _, h => absurd h (by simp)
  | p :: r, i, h, hi => by
    have : i < r.length + 1 := hi
    unfold rowAt
    by_cases e : i = r.length
    · subst e
      rw [if_pos rfl]
      exact h.1
    · rw [if_neg e]
      exact mt_at r i h.2 (by omega)
theorem scr.N5 {σ τ : Sg} (h : scr τ σ) (i v : Nat) : scr (uN τ 5 i v) σ := ⟨fun k2 h2 h3 => by
  rw [← h.1 k2 h2 h3]
  funext x
  exact u2_k h3, h.2.1, h.2.2.1, h.2.2.2⟩
theorem fsm_P {α : Type} {P : α → Prop} {h : Nat → Option α} : ∀ r d x, (∀ p y, d ≤ p → p < d + r → h p = some y → P y) → fsm h r d = some x → P x
  | 0, d, x, _, q => by cases q
  | r + 1, d, x, hP, q => by
    cases hd : h d with
    | some y =>
      rw [fsm_t hd] at q
      cases q
      exact hP d _ (Nat.le_refl d) (by omega) hd
    | none =>
      rw [fsm_f hd] at q
      exact fsm_P r (d + 1) x (fun p y a b c => hP p y (by omega) (by omega) c) q
theorem dfs_len {R : Nat → Nat → Bool} {n : Nat} : ∀ m pre L, dfs R n m pre = some L → L.length = pre.length + m
  | 0, pre, L, h => by cases h; rfl
  | m + 1, pre, L, h => by
    refine fsm_P (P := fun L => L.length = pre.length + (m + 1)) n 0 L (fun p y _ _ hy => ?_) h
    split at hy
    · have := dfs_len m (p :: pre) y hy
      rw [List.length_cons] at this
      omega
    · cases hy
theorem mI_eq {a b : Nat} (ha : a < 2 ^ 30) (hb : b < 2 ^ 30) : mI a = mI b ↔ a = b := by
  constructor
  · intro q
    have := congrArg Int32.toInt q
    rw [mI_toInt ha, mI_toInt hb] at this
    omega
  · rintro rfl
    rfl
