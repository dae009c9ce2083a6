/-! WHAT EACH CALL DOES: the answer, and the state; the place of the exception is the state's own number 3 1 -/
def th (σ : Sg) (k : Nat) : Sg := uN σ 3 1 k
def sp_book (σ : Sg) (many wide strong wished died : Int32) : Int32 × Sg :=
  if (inR many (nI 1) (nI 12) && inR wide (nI 60) (nI 180) && inR strong (nI 1) (nI 60) && inR wished (nI 0) (nI 9) && (decide (died = -1) || inR died (nI 1500) (nI 3000))) = true then
    if σ.1 3 0 = 6 then (nI 0, th σ 2)
    else (nI (σ.1 3 0), uN (uI (uI (uI (uI (uN (th σ 0) 0 (σ.1 3 0) (tn many)) 0 (σ.1 3 0) wide) 1 (σ.1 3 0) strong) 2 (σ.1 3 0) wished) 3 (σ.1 3 0) died) 3 0 (σ.1 3 0 + 1))
  else (nI 0, th σ 1)
def canB (σ : Sg) (b : Nat) : Bool := decide (0 < σ.2.2.1 1 b) && decide (cnt (fun q => σ.2.1 2 (12 * b + q)) (σ.1 0 b) < σ.1 0 b)
/-- b goes ahead of the one that is told by f (0: none) -/
def moreB (σ : Sg) (f b : Nat) : Bool := decide (f = 0) || decide (σ.2.2.1 2 (f - 1) < σ.2.2.1 2 b) || (decide (σ.2.2.1 2 b = σ.2.2.1 2 (f - 1)) && decide (σ.2.2.1 1 b < σ.2.2.1 1 (f - 1)))
def nxt (σ : Sg) : Nat → Nat
  | 0 => 0
  | b + 1 => if canB σ b && moreB σ (nxt σ b) b then b + 1 else nxt σ b
def sp_next (σ : Sg) : Int32 × Sg := (mI (nxt σ (σ.1 3 0)), th σ 0)
def putv (σ : Sg) (a : Nat) (its : Int64) (v : Nat) : Sg := if σ.2.1 6 v = true then σ else uL (uB σ 5 (72 * v + a) true) 1 (72 * v + a) its
def puts (σ : Sg) (a : Nat) (its : Int64) : Nat → Sg
  | 0 => σ
  | v + 1 => putv (puts σ a its v) a its v
def costI (angle : Int32) : Int32 := if nI 90 < angle then nI 2 else nI 1
def sp_shot (σ : Sg) (b q angle : Int32) (its : Int64) : Int32 × Sg :=
  if isP σ b q = true then
    if inR angle (nI 30) (nI 180) = true then
      if (decide (angle ≤ σ.2.2.1 0 (tn b)) && decide (costI angle ≤ σ.2.2.1 1 (tn b)) && (!σ.2.1 2 (12 * tn b + tn q) || σ.2.1 4 (12 * tn b + tn q))) = true then
        (σ.2.2.1 1 (tn b) - costI angle, puts (uI (uL (uB (uB (uB (uI (uI (th σ 0) 1 (tn b) (σ.2.2.1 1 (tn b) - costI angle)) 4 (tn b) (σ.2.2.1 4 (tn b) + nI 1)) 2 (12 * tn b + tn q) true) 4 (12 * tn b + tn q) false) 3 (12 * tn b + tn q) (decide (nI 5 < σ.2.2.1 8 0))) 0 (12 * tn b + tn q) its) 8 0 (σ.2.2.1 8 0 + nI 1)) (12 * tn b + tn q) its 4)
      else (nI 0, th σ 3)
    else (nI 0, th σ 2)
  else (nI 0, th σ 1)
def sp_look (σ : Sg) (b q : Int32) : Int32 × Sg :=
  if isP σ b q = true then
    if σ.2.1 2 (12 * tn b + tn q) = true then (bI (σ.2.1 3 (12 * tn b + tn q)), uB (th σ 0) 4 (12 * tn b + tn q) (σ.2.1 4 (12 * tn b + tn q) || σ.2.1 3 (12 * tn b + tn q)))
    else (nI 0, th σ 2)
  else (nI 0, th σ 1)
def sp_calibrate (σ : Sg) : Int32 × Sg := (σ.2.2.1 8 0, uI (th σ 0) 8 0 (nI 0))
def rotL (x : Int64) (bit : Int32) : Int64 := x ^^^ (1 <<< (bit.toInt64 &&& 63))
def sp_rot (σ : Sg) (v b q bit : Int32) : Int32 × Sg :=
  if (isV v && isP σ b q) = true then
    if inR bit (nI 0) (nI 63) = true then
      if σ.2.1 5 (72 * tn v + (12 * tn b + tn q)) = true then
        (bI (hb (uL (th σ 0) 1 (72 * tn v + (12 * tn b + tn q)) (rotL (σ.2.2.2 1 (72 * tn v + (12 * tn b + tn q))) bit)) (tn v) (12 * tn b + tn q)), uL (th σ 0) 1 (72 * tn v + (12 * tn b + tn q)) (rotL (σ.2.2.2 1 (72 * tn v + (12 * tn b + tn q))) bit))
      else (nI 0, th σ 3)
    else (nI 0, th σ 2)
  else (nI 0, th σ 1)
/-- the copies of a vault at the first n places gone -/
def clr (σ : Sg) (v : Nat) : Nat → Sg
  | 0 => σ
  | a + 1 => uB (clr σ v a) 5 (72 * v + a) false
def sp_burn (σ : Sg) (v : Int32) : Int32 × Sg :=
  if isV v = true then
    if σ.2.1 6 (tn v) = true then (nI 0, th σ 2)
    else (nI (cnt (fun a => σ.2.1 5 (72 * tn v + a)) 72), uB (clr (th σ 0) (tn v) 72) 6 (tn v) true)
  else (nI 0, th σ 1)
def sp_build (σ : Sg) (v : Int32) : Sg :=
  if isV v = true then
    if σ.2.1 6 (tn v) = true then uB (th σ 0) 6 (tn v) false else th σ 2
  else th σ 1
/-! trees: node k, below it 2 k + 1 and 2 k + 2; the leaves 15 to 30 -/
def leafB (σ : Sg) (b k : Nat) : Int64 := if k < σ.1 0 b ∧ σ.2.1 2 (12 * b + k) = true then prf (σ.2.2.2 0 (12 * b + k)) else 0
def leafV (σ : Sg) (v b k : Nat) : Int64 := if k < σ.1 0 b ∧ σ.2.1 5 (72 * v + (12 * b + k)) = true then prf (σ.2.2.2 1 (72 * v + (12 * b + k))) else 0
def trn (f : Nat → Int64) : Nat → Nat → Int64
  | 0, k => f (k - 15)
  | d + 1, k => if 15 ≤ k then f (k - 15) else 31 * trn f d (2 * k + 1) + trn f d (2 * k + 2)
def neB (σ : Sg) (v b k : Nat) : Bool := decide (trn (leafB σ b) 4 k ≠ trn (leafV σ v b) 4 k)
def seenF (ne : Nat → Bool) : Nat → Nat → Bool
  | 0, k => decide (k = 0)
  | d + 1, k => decide (k = 0) || (seenF ne d ((k - 1) / 2) && ne ((k - 1) / 2))
def seenB (σ : Sg) (v b k : Nat) : Bool := seenF (neB σ v b) 5 k
def toldF (f : Nat → Bool) : Nat → Int32
  | 0 => 0
  | k + 1 => if f k && decide (15 ≤ k) then toldF f k ||| (nI 1 <<< (nI (k - 15) &&& 31)) else toldF f k
def sp_check (σ : Sg) (v b : Int32) : Int32 × Sg :=
  if (isV v && isB σ b) = true then
    (toldF (fun k => seenB σ (tn v) (tn b) k && neB σ (tn v) (tn b) k) 31, uN (th σ 0) 3 2 (cnt (seenB σ (tn v) (tn b)) 31))
  else (nI 0, th σ 1)
def sp_looked (σ : Sg) : Int32 × Sg := (nI (σ.1 3 2), th σ 0)
/-- mending the first n pages: how many came, and the state -/
def mnd (σ : Sg) (v b : Nat) : Nat → Nat × Sg
  | 0 => (0, σ)
  | p + 1 => if (!decide (lowest (mnd σ v b p).2 (12 * b + p) = 0) && !hb (mnd σ v b p).2 v (12 * b + p)) = true then
      ((mnd σ v b p).1 + 1, uL (uB (mnd σ v b p).2 5 (72 * v + (12 * b + p)) true) 1 (72 * v + (12 * b + p)) ((mnd σ v b p).2.2.2.2 1 (72 * (lowest (mnd σ v b p).2 (12 * b + p) - 1) + (12 * b + p))))
    else mnd σ v b p
def sp_mend (σ : Sg) (v b : Int32) : Int32 × Sg :=
  if (isV v && isB σ b) = true then
    if σ.2.1 6 (tn v) = true then (nI 0, th σ 2)
    else (nI (mnd (th σ 0) (tn v) (tn b) (σ.1 0 (tn b))).1, (mnd (th σ 0) (tn v) (tn b) (σ.1 0 (tn b))).2)
  else (nI 0, th σ 1)
def sp_copy (σ : Sg) (v b q : Int32) : Int64 × Sg :=
  if (isV v && isP σ b q) = true then
    if σ.2.1 5 (72 * tn v + (12 * tn b + tn q)) = true then (σ.2.2.2 1 (72 * tn v + (12 * tn b + tn q)), th σ 0) else (0, th σ 2)
  else (0, th σ 1)
def sp_isLost (σ : Sg) (b q : Int32) : Int32 × Sg :=
  if isP σ b q = true then (bI (lostB σ (12 * tn b + tn q)), th σ 0) else (nI 0, th σ 1)
def sp_words (σ : Sg) (b q f t : Int32) : Sg :=
  if isP σ b q = true then
    if (inR f (nI 0) (nI 99) && inR t (nI 0) (nI 99)) = true then uI (uI (th σ 0) 5 (12 * tn b + tn q) f) 6 (12 * tn b + tn q) t else th σ 2
  else th σ 1
def spot (b q a : Int32) : Nat := 4 * (12 * tn b + tn q) + tn a
def sp_gold (σ : Sg) (b q a letter : Int32) : Int32 × Sg :=
  if isL σ b q a = true then
    if inR letter (nI 0) (nI 25) = true then (mI (σ.1 1 (spot b q a)), uN (th σ 0) 1 (spot b q a) (tn letter + 1)) else (nI 0, th σ 2)
  else (nI 0, th σ 1)
def sp_key (σ : Sg) (w b q a letter : Int32) : Int32 × Sg :=
  if (inR w (nI 0) (nI 4) && isL σ b q a) = true then
    if inR letter (nI 0) (nI 25) = true then (mI (σ.1 2 (5 * spot b q a + tn w)), uN (th σ 0) 2 (5 * spot b q a + tn w) (tn letter + 1)) else (nI 0, th σ 2)
  else (nI 0, th σ 1)
def allB (σ : Sg) (w k : Nat) : Bool := decide (0 < σ.1 1 k) && decide (0 < σ.1 2 (5 * k + w))
def rightB (σ : Sg) (w k : Nat) : Bool := decide (0 < σ.1 1 k) && decide (σ.1 2 (5 * k + w) = σ.1 1 k)
def trustN (σ : Sg) (w : Nat) : Nat := if cnt (allB σ w) 288 = 0 then 50 else 100 * cnt (rightB σ w) 288 / cnt (allB σ w) 288
def sp_trust (σ : Sg) (w : Int32) : Int32 × Sg := if inR w (nI 0) (nI 4) = true then (nI (trustN σ (tn w)), th σ 0) else (nI 0, th σ 1)
def sp_pay (σ : Sg) (w : Int32) : Int32 × Sg := if inR w (nI 0) (nI 4) = true then (nI (cnt (fun k => decide (0 < σ.1 2 (5 * k + tn w))) 288 * trustN σ (tn w) / 10), th σ 0) else (nI 0, th σ 1)
/-- the weight of the letter told by x at the place k, over the first n keyers, and 1; 0 if none of them keyed it -/
def wgt (σ : Sg) (k x : Nat) : Nat → Nat
  | 0 => 0
  | w + 1 => if σ.1 2 (5 * k + w) = x then wgt σ k x w + trustN σ w + (if wgt σ k x w = 0 then 1 else 0) else wgt σ k x w
/-- over the letters 1 to n: the one with the greatest weight (0: none), its weight and 1 -/
def bst (σ : Sg) (k : Nat) : Nat → Nat × Nat
  | 0 => (0, 0)
  | n + 1 => if (bst σ k n).2 < wgt σ k (n + 1) 5 then (n + 1, wgt σ k (n + 1) 5) else bst σ k n
def sp_read (σ : Sg) (b q a : Int32) : Int32 × Sg :=
  if isL σ b q a = true then
    if 0 < σ.1 1 (spot b q a) then (mI (σ.1 1 (spot b q a)), th σ 0) else (mI (bst σ (spot b q a) 26).1, th σ 0)
  else (nI 0, th σ 1)
def sumW (σ : Sg) (k : Nat) : Nat → Nat
  | 0 => 0
  | n + 1 => sumW σ k n + (wgt σ k (n + 1) 5 - 1)
def maxW (σ : Sg) (k : Nat) : Nat → Nat
  | 0 => 0
  | n + 1 => if maxW σ k n < wgt σ k (n + 1) 5 - 1 then wgt σ k (n + 1) 5 - 1 else maxW σ k n
def sp_doubt (σ : Sg) (b q a : Int32) : Int32 × Sg :=
  if isL σ b q a = true then
    if 0 < σ.1 1 (spot b q a) then (nI 0, th σ 0) else (nI (if sumW σ (spot b q a) 26 = 0 then 100 else 100 - 100 * maxW σ (spot b q a) 26 / sumW σ (spot b q a) 26), th σ 0)
  else (nI 0, th σ 1)
def sp_pass (σ : Sg) (y : Int32) : Int32 × Sg :=
  if inR y (nI 1) (nI 100) = true then
    if nI 4000 < σ.2.2.1 8 1 + y then (nI 0, th σ 2) else (σ.2.2.1 8 1 + y, uI (th σ 0) 8 1 (σ.2.2.1 8 1 + y))
  else (nI 0, th σ 1)
def sp_term (σ : Sg) (l y : Int32) : Int32 × Sg :=
  if inR l (nI 0) (nI 3) = true then
    if inR y (nI 0) (nI 120) = true then (σ.2.2.1 7 (tn l), uI (th σ 0) 7 (tn l) y) else (nI 0, th σ 2)
  else (nI 0, th σ 1)
def sp_died (σ : Sg) (b y : Int32) : Sg :=
  if isB σ b = true then
    if inR y (nI 1500) (nI 3000) = true then
      if σ.2.2.1 3 (tn b) = -1 then uI (th σ 0) 3 (tn b) y else th σ 3
    else th σ 2
  else th σ 1
def sp_search (σ : Sg) (b : Int32) : Int32 × Sg := if isB σ b = true then (bI (σ.2.1 0 (tn b)), uB (th σ 0) 0 (tn b) true) else (nI 0, th σ 1)
def sp_takeDown (σ : Sg) (b : Int32) (is : Bool) : Int32 × Sg := if isB σ b = true then (bI (σ.2.1 1 (tn b)), uB (th σ 0) 1 (tn b) is) else (nI 0, th σ 1)
def whyN (σ : Sg) (b a l : Nat) : Nat :=
  if σ.2.1 2 a = false then 1 else if σ.2.1 1 b = true then 2 else if σ.2.2.1 3 b = -1 ∧ σ.2.1 0 b = false then 3 else if ¬ σ.2.2.1 3 b = -1 ∧ σ.2.2.1 8 1 ≤ σ.2.2.1 3 b + σ.2.2.1 7 l then 4 else if lostB σ a = true then 5 else 0
def sp_whyNot (σ : Sg) (b q l : Int32) : Int32 × Sg := if (isP σ b q && inR l (nI 0) (nI 3)) = true then (nI (whyN σ (tn b) (12 * tn b + tn q) (tn l)), th σ 0) else (nI 0, th σ 1)
def abtI (σ : Sg) (b : Nat) (w : Int32) : Int32 :=
  if w = nI 0 then σ.2.2.1 1 b else if w = nI 1 then nI (cnt (fun q => σ.2.1 2 (12 * b + q)) (σ.1 0 b)) else if w = nI 2 then nI (cnt (fun q => σ.2.1 4 (12 * b + q)) (σ.1 0 b)) else if w = nI 3 then nI (cnt (fun q => lostB σ (12 * b + q)) (σ.1 0 b)) else if w = nI 4 then σ.2.2.1 3 b else σ.2.2.1 4 b
def sp_about (σ : Sg) (b w : Int32) : Int32 × Sg :=
  if isB σ b = true then
    if inR w (nI 0) (nI 5) = true then (abtI σ (tn b) w, th σ 0) else (nI 0, th σ 2)
  else (nI 0, th σ 1)
