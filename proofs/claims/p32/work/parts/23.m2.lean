theorem lg_cmp_0 {x y : Int64} : lg_cmp x y = 0 ↔ x = y := by
  unfold lg_cmp
  constructor
  · intro h
    split at h
    · cases h
    · split at h
      · assumption
      · cases h
  · rintro rfl
    simp
section MKC
variable {p : Program} {l : Launch} {e : Env} {R : Room} {s : State} {m : MethodId} {args : Array Value} {below : List Frame} {meth : Method} {c : Code} {Q : State → Prop} {g : mG} {μ : mM} {z k n pc : Nat} {lv : List (Nat × Value)} {st : List Value} {cc : ByteArray} {nL : Nat} {own : String}
theorem v_if_ne_c {x y : Int64} {off : Int} (tgt : Nat) (o : Ok p l s m args meth c g cc nL own) (d : decode cc pc = .ok (.ifCond .ne off, 3)) (ht : (pc : Int) + off = (tgt : Int)) (kt : ¬ x = y → V p l e R s m args below meth c Q g μ z k n tgt lv st) (kf : x = y → V p l e R s m args below meth c Q g μ z k n (pc + 3) lv st) : V p l e R s m args below meth c Q g μ z k n pc lv (.int (lg_cmp x y) :: st) := v_if_ne tgt o d ht (fun q => kt (fun h => q (lg_cmp_0.mpr h))) (fun q => kf (lg_cmp_0.mp q))
theorem v_if_eq_c {x y : Int64} {off : Int} (tgt : Nat) (o : Ok p l s m args meth c g cc nL own) (d : decode cc pc = .ok (.ifCond .eq off, 3)) (ht : (pc : Int) + off = (tgt : Int)) (kt : x = y → V p l e R s m args below meth c Q g μ z k n tgt lv st) (kf : ¬ x = y → V p l e R s m args below meth c Q g μ z k n (pc + 3) lv st) : V p l e R s m args below meth c Q g μ z k n pc lv (.int (lg_cmp x y) :: st) := v_if_eq tgt o d ht (fun q => kt (lg_cmp_0.mp q)) (fun q => kf (fun h => q (lg_cmp_0.mpr h)))
end MKC
theorem cnt_t {f : Nat → Bool} {n : Nat} (h : f n = true) : cnt f (n + 1) = cnt f n + 1 := by
  show cnt f n + (if f n then 1 else 0) = _
  rw [if_pos h]
theorem cnt_f {f : Nat → Bool} {n : Nat} (h : f n = false) : cnt f (n + 1) = cnt f n := by
  show cnt f n + (if f n then 1 else 0) = _
  rw [h]
  rfl
/-- the lowest of r from d on that is so, and 1; 0 if none is -/
def low (f : Nat → Bool) : Nat → Nat → Nat
  | 0, _ => 0
  | r + 1, d => if f d then d + 1 else low f r (d + 1)
theorem low_t {f : Nat → Bool} {r d : Nat} (h : f d = true) : mI (low f (r + 1) d) = nI d := by
  show mI (if f d then d + 1 else _) = _
  rw [if_pos h, mI_s]
theorem low_f {f : Nat → Bool} {r d : Nat} (h : f d = false) : low f (r + 1) d = low f r (d + 1) := by
  show (if f d then d + 1 else _) = _
  rw [h]
  rfl
theorem low_le {f : Nat → Bool} : ∀ r d, low f r d ≤ d + r
  | 0, d => Nat.zero_le _
  | r + 1, d => by
    unfold low
    split
    · omega
    · have := low_le (f := f) r (d + 1)
      omega
def hb (σ : Sg) (v a : Nat) : Bool := σ.2.1 5 (72 * v + a) && σ.2.1 2 a && decide (prf (σ.2.2.2 1 (72 * v + a)) = prf (σ.2.2.2 0 a))
def lowest (σ : Sg) (a : Nat) : Nat := low (fun v => hb σ v a) 4 0
def lostB (σ : Sg) (a : Nat) : Bool := σ.2.1 2 a && decide (lowest σ a = 0)
theorem mI_ne {n : Nat} (h : n < 2 ^ 30) : mI n = -1 ↔ n = 0 := by
  constructor
  · intro q
    have h1 := congrArg Int32.toInt q
    rw [mI_toInt h, show (-1 : Int32).toInt = -1 from rfl] at h1
    omega
  · rintro rfl
    exact mI_0
theorem lowest_le (σ : Sg) (a : Nat) : lowest σ a ≤ 4 := low_le 4 0
