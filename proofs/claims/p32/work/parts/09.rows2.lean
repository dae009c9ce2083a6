/-! arrays, new things, ends, calls -/
def bI (b : Bool) : Int32 := if b then 1 else 0
theorem bI_t : bI true = 1 := rfl
theorem bI_f : bI false = 0 := rfl
theorem nar_bI (b : Bool) : vp_nar .boolean (bI b) = bI b := by cases b <;> rfl
theorem narrow_bI (b : Bool) : narrow .boolean (.int (bI b)) = .int (bI b) := by cases b <;> rfl
theorem fits_bI (b : Bool) : fits .boolean (.int (bI b)) = true := by cases b <;> rfl
theorem bI_z {b : Bool} : bI b = 0 ↔ b = false := by cases b <;> decide
theorem bI_nz {b : Bool} : ¬ bI b = 0 ↔ b = true := by cases b <;> decide
abbrev aI (n : Nat) (f : Nat → Int32) : vp_A := (n, .inl f)
abbrev aL (n : Nat) (f : Nat → Int64) : vp_A := (n, .inr (.inl f))
abbrev aQ (n : Nat) (f : Nat → Option Nat) : vp_A := (n, .inr (.inr (.inr (.inr f))))
section MKA
variable {p : Program} {l : Launch} {e : Env} {R : Room} {s : State} {m : MethodId} {args : Array Value} {below : List Frame} {meth : Method} {c : Code} {Q : State → Prop} {g : mG} {μ : mM} {z k n pc : Nat} {lv : List (Nat × Value)} {st : List Value} {cc : ByteArray} {nL : Nat} {own : String}
theorem Hm.one {H : Heap} {a : Nat} {e0 : va_E} (h : Hm g μ z H) (he : μ a = some e0) : va_P g.1 vwCl [(a, e0)] H := fun i q hq => by
  have h0 : i < 1 := (List.getElem?_eq_some_iff.mp hq).1
  rw [show i = 0 by omega] at hq
  cases hq
  exact (h.1 _ _ he).1
theorem v_iald {a N : Nat} {f : Nat → Int32} (x : Int32) (o : Ok p l s m args meth c g cc nL own) (d : decode cc pc = .ok (.iaload, 1)) {j : Nat} (hj : j < N) (hN : N < 2 ^ 31) (he : μ a = some (.inl (g.2.1 0, aI N f))) (hx : f j = x) (kk : V p l e R s m args below meth c Q g μ z k n (pc + 1) lv (.int x :: st)) : V p l e R s m args below meth c Q g μ z k n pc lv (.int (nI j) :: .ref a :: st) := fun H locs ls h1 h2 h3 =>
  va_iald o.1 o.2.1 o.2.2.2.2.1.1 (h1.one he) 0 0 rfl rfl (vp_in_nI hj hN) d (by rw [nI_clamp (Nat.lt_trans hj hN), hx]; exact kk H locs ls h1 h2 h3)
theorem v_zald {a N : Nat} {f : Nat → Int32} (x : Int32) (o : Ok p l s m args meth c g cc nL own) (d : decode cc pc = .ok (.baload, 1)) {j : Nat} (hj : j < N) (hN : N < 2 ^ 31) (he : μ a = some (.inl (g.2.1 1, aI N f))) (hx : f j = x) (kk : V p l e R s m args below meth c Q g μ z k n (pc + 1) lv (.int x :: st)) : V p l e R s m args below meth c Q g μ z k n pc lv (.int (nI j) :: .ref a :: st) := fun H locs ls h1 h2 h3 =>
  va_zald o.1 o.2.1 o.2.2.2.2.1.1 (h1.one he) 0 1 rfl rfl (vp_in_nI hj hN) d (by rw [nI_clamp (Nat.lt_trans hj hN), hx]; exact kk H locs ls h1 h2 h3)
theorem v_lald {a N : Nat} {f : Nat → Int64} (x : Int64) (o : Ok p l s m args meth c g cc nL own) (d : decode cc pc = .ok (.laload, 1)) {j : Nat} (hj : j < N) (hN : N < 2 ^ 31) (he : μ a = some (.inl (g.2.1 2, aL N f))) (hx : f j = x) (kk : V p l e R s m args below meth c Q g μ z k n (pc + 1) lv (.long x :: st)) : V p l e R s m args below meth c Q g μ z k n pc lv (.int (nI j) :: .ref a :: st) := fun H locs ls h1 h2 h3 =>
  va_lald o.1 o.2.1 o.2.2.2.2.1.1 (h1.one he) 0 2 rfl rfl (vp_in_nI hj hN) d (by rw [nI_clamp (Nat.lt_trans hj hN), hx]; exact kk H locs ls h1 h2 h3)
/-- of an array of objects -/
theorem v_aald {a N t0 : Nat} {C : String} {f : Nat → Option Nat} (v : Value) (o : Ok p l s m args meth c g cc nL own) (d : decode cc pc = .ok (.aaload, 1)) (ht : (tysG g)[t0]? = some (g.2.1 t0, .object C)) {j : Nat} (hj : j < N) (hN : N < 2 ^ 31) (he : μ a = some (.inl (g.2.1 t0, aQ N f))) (hv : va_rf (f j) = v) (kk : V p l e R s m args below meth c Q g μ z k n (pc + 1) lv (v :: st)) : V p l e R s m args below meth c Q g μ z k n pc lv (.int (nI j) :: .ref a :: st) := fun H locs ls h1 h2 h3 =>
  va_aldq o.1 o.2.1 o.2.2.2.2.1.1 (h1.one he) 0 t0 rfl ht (vp_in_nI hj hN) d (by rw [nI_clamp (Nat.lt_trans hj hN), hv]; exact kk H locs ls h1 h2 h3)
/-- of an array of int arrays -/
theorem v_aaldI {a N : Nat} {f : Nat → Option Nat} (v : Value) (o : Ok p l s m args meth c g cc nL own) (d : decode cc pc = .ok (.aaload, 1)) {j : Nat} (hj : j < N) (hN : N < 2 ^ 31) (he : μ a = some (.inl (g.2.1 5, aQ N f))) (hv : va_rf (f j) = v) (kk : V p l e R s m args below meth c Q g μ z k n (pc + 1) lv (v :: st)) : V p l e R s m args below meth c Q g μ z k n pc lv (.int (nI j) :: .ref a :: st) := fun H locs ls h1 h2 h3 => by
  have hin : vp_in (nI j) N := vp_in_nI hj hN
  have hc : (nI j).toNatClampNeg = j := nI_clamp (Nat.lt_trans hj hN)
  refine W.aald (v := va_rf (f j)) (ty := .array .int) o.1 o.2.1 (h1.1 _ _ he).1 ((o.2.2.2.2.1.1.2 5 _ rfl).1 N (fun i => va_rf (f i))) rfl (fun q => by cases q) (by show ¬ (nI j < 0 ∨ (arrV _ _ _).slots.size ≤ _); rw [arrV_size]; exact hin) (by show (arrV _ _ _).slots[_]? = _; rw [hc, arrV_read _ _ hj]) rfl rfl d (by rw [hv]; exact kk H locs ls h1 h2 h3)
theorem v_iast {a N : Nat} {f : Nat → Int32} {x : Int32} (o : Ok p l s m args meth c g cc nL own) (d : decode cc pc = .ok (.iastore, 1)) {j : Nat} (hj : j < N) (hN : N < 2 ^ 31) (he : μ a = some (.inl (g.2.1 0, aI N f))) (kk : ∀ μ1 : mM, μ1 = up μ a (.inl (g.2.1 0, aI N (upd f j x))) → V p l e R s m args below meth c Q g μ1 z k n (pc + 1) lv st) : V p l e R s m args below meth c Q g μ z k n pc lv (.int x :: .int (nI j) :: .ref a :: st) := fun H locs ls h1 h2 h3 => by
  have hin : vp_in (nI j) N := vp_in_nI hj hN
  have hc : (nI j).toNatClampNeg = j := nI_clamp (Nat.lt_trans hj hN)
  refine W.iast o.1 o.2.1 (h1.1 _ _ he).1 ((o.2.2.2.2.1.1.2 0 _ rfl).1 N (fun i => .int (f i))) (fun q => by cases q) (by show ¬ (nI j < 0 ∨ (arrV _ _ _).slots.size ≤ _); rw [arrV_size]; exact hin) rfl rfl d fun H1 e1 z1 oq => ?_
  refine kk _ rfl H1 _ ls (h1.set he ?_ z1 oq) (h2.put z1 oq (h1.1 _ _ he).2) h3
  show H1[a]? = some (vp_cell _ _)
  rw [e1, hc, vp_cell_i, vp_cell_i, arrV_store]
  congr 2
  funext q
  by_cases hq : q = j
  · subst hq
    simp [updV, upd]
  · simp [updV, upd, hq]
theorem v_zast {a N : Nat} {f : Nat → Int32} {x : Int32} (o : Ok p l s m args meth c g cc nL own) (d : decode cc pc = .ok (.bastore, 1)) {j : Nat} (hj : j < N) (hN : N < 2 ^ 31) (hx : vp_nar .boolean x = x) (he : μ a = some (.inl (g.2.1 1, aI N f))) (kk : ∀ μ1 : mM, μ1 = up μ a (.inl (g.2.1 1, aI N (upd f j x))) → V p l e R s m args below meth c Q g μ1 z k n (pc + 1) lv st) : V p l e R s m args below meth c Q g μ z k n pc lv (.int x :: .int (nI j) :: .ref a :: st) := fun H locs ls h1 h2 h3 => by
  have hin : vp_in (nI j) N := vp_in_nI hj hN
  have hc : (nI j).toNatClampNeg = j := nI_clamp (Nat.lt_trans hj hN)
  refine W.zast o.1 o.2.1 (h1.1 _ _ he).1 ((o.2.2.2.2.1.1.2 1 _ rfl).1 N (fun i => .int (f i))) (fun q => by cases q) (by show ¬ (nI j < 0 ∨ (arrV _ _ _).slots.size ≤ _); rw [arrV_size]; exact hin) rfl rfl d fun H1 e1 z1 oq => ?_
  refine kk _ rfl H1 _ ls (h1.set he ?_ z1 oq) (h2.put z1 oq (h1.1 _ _ he).2) h3
  show H1[a]? = some (vp_cell _ _)
  have hn : narrow .boolean (.int x) = .int x := by
    have h := hx
    unfold vp_nar at h
    simp only [narrow] at h ⊢
    rw [h]
  rw [e1, hc, hn, vp_cell_i, vp_cell_i, arrV_store]
  congr 2
  funext q
  by_cases hq : q = j
  · subst hq
    simp [updV, upd]
  · simp [updV, upd, hq]
theorem v_last {a N : Nat} {f : Nat → Int64} {x : Int64} (o : Ok p l s m args meth c g cc nL own) (d : decode cc pc = .ok (.lastore, 1)) {j : Nat} (hj : j < N) (hN : N < 2 ^ 31) (he : μ a = some (.inl (g.2.1 2, aL N f))) (kk : ∀ μ1 : mM, μ1 = up μ a (.inl (g.2.1 2, aL N (vp_updL f j x))) → V p l e R s m args below meth c Q g μ1 z k n (pc + 1) lv st) : V p l e R s m args below meth c Q g μ z k n pc lv (.long x :: .int (nI j) :: .ref a :: st) := fun H locs ls h1 h2 h3 => by
  have hin : vp_in (nI j) N := vp_in_nI hj hN
  have hc : (nI j).toNatClampNeg = j := nI_clamp (Nat.lt_trans hj hN)
  refine W.last o.1 o.2.1 (h1.1 _ _ he).1 ((o.2.2.2.2.1.1.2 2 _ rfl).1 N (fun i => .long (f i))) (fun q => by cases q) (by show ¬ (nI j < 0 ∨ (arrV _ _ _).slots.size ≤ _); rw [arrV_size]; exact hin) rfl rfl d fun H1 e1 z1 oq => ?_
  refine kk _ rfl H1 _ ls (h1.set he ?_ z1 oq) (h2.put z1 oq (h1.1 _ _ he).2) h3
  show H1[a]? = some (vp_cell _ _)
  rw [e1, hc, vp_cell_l, vp_cell_l, arrV_store]
  congr 2
  funext q
  by_cases hq : q = j
  · subst hq
    simp [updV, vp_updL]
  · simp [updV, vp_updL, hq]
/-- an object into an array of its class -/
theorem v_aast {a N t0 b ci NN : Nat} {C : String} {T : u_T} {ty : Nat → FieldType} {f : Nat → Option Nat} {vs : List Value} (o : Ok p l s m args meth c g cc nL own) (d : decode cc pc = .ok (.aastore, 1)) (ht : (tysG g)[t0]? = some (g.2.1 t0, .object C)) (cf : CF ci C T NN ty) {j : Nat} (hj : j < N) (hN : N < 2 ^ 31) (he : μ a = some (.inl (g.2.1 t0, aQ N f))) (hb : μ b = some (.inr (ci, vs))) (kk : ∀ μ1 : mM, μ1 = up μ a (.inl (g.2.1 t0, aQ N (va_up f j (some b)))) → V p l e R s m args below meth c Q g μ1 z k n (pc + 1) lv st) : V p l e R s m args below meth c Q g μ z k n pc lv (.ref b :: .int (nI j) :: .ref a :: st) := fun H locs ls h1 h2 h3 => by
  have hin : vp_in (nI j) N := vp_in_nI hj hN
  have hcl : (nI j).toNatClampNeg = j := nI_clamp (Nat.lt_trans hj hN)
  have h0 : ¬ nI j < 0 := fun q => hin (Or.inl q)
  obtain ⟨r', hr', cellV, g1, g2, g3, -⟩ := (h1.1 _ _ hb).1
  have hK := o.2.2.2.2.1.1
  have hcls := (hK.1 ci _ cf.1).2
  obtain ⟨kA, comp, k1, k2, k3, -⟩ := (hK.2 t0 _ ht).2
  have hcomp : comp = g.1.1 ci := Option.some.inj (k3.symm.trans hcls.1)
  subst hcomp
  obtain ⟨kC, hkC, -⟩ := hcls.2
  refine W.aast o.1 o.2.1 (h1.1 _ _ he).1 (fun q h => by cases h) (fun h => by cases h) k1 k2 rfl hkC ⟨h0, by show _ < (arrV _ _ _).slots.size; rw [arrV_size, hcl]; exact hj⟩ g1 (fun q h => by rw [g3] at h; cases h) (by rw [g2]; exact hkC) (by rw [g2]; exact va_assign hcls) rfl rfl d fun H1 e1 z1 oq => ?_
  refine kk _ rfl H1 _ ls (h1.set he ?_ z1 oq) (h2.put z1 oq (h1.1 _ _ he).2) h3
  show H1[a]? = some (vp_cell _ _)
  rw [e1, hcl, vp_cell_q, vp_cell_q, arrV_store]
  congr 2
  funext q
  by_cases hq : q = j
  · subst hq
    simp [updV, va_up, va_rf]
  · simp [updV, va_up, hq]
theorem v_alen {a t0 : Nat} {x : vp_A} {ty : FieldType} (o : Ok p l s m args meth c g cc nL own) (d : decode cc pc = .ok (.arraylength, 1)) (ht : (tysG g)[t0]? = some (g.2.1 t0, ty)) (he : μ a = some (.inl (g.2.1 t0, x))) (kk : V p l e R s m args below meth c Q g μ z k n (pc + 1) lv (.int (nI x.1) :: st)) : V p l e R s m args below meth c Q g μ z k n pc lv (.ref a :: st) := fun H locs ls h1 h2 h3 =>
  va_alen o.1 o.2.1 o.2.2.2.2.1.1 (h1.one he) 0 t0 rfl ht rfl d (kk H locs ls h1 h2 h3)
theorem v_new {ci N ix : Nat} {C : String} {T : u_T} {ty : Nat → FieldType} (fs : List Value) (o : Ok p l s m args meth c g cc nL own) (d : decode cc pc = .ok (.new ix, 3)) (cf : CF ci C T N ty) (hl : Cond.classLink own ix C ∈ mT) (hi : Cond.instantiable C N ∈ mT) (hn : Cond.initialized C ∈ mT) (hfs : ∀ j, j < N → defaultValue (ty j) = vp_V fs j) (hk : k + 1 ≤ R.cells) (hs : n + N ≤ R.slots) (kk : V p l e R s m args below meth c Q g (up μ z (.inr (ci, fs))) (z + 1) (k + 1) (n + N) (pc + 3) lv (.ref z :: st)) : V p l e R s m args below meth c Q g μ z k n pc lv st := fun H locs ls h1 h2 h3 => by
  have hts := o.2.2.2.2.2.2.2.2
  have hKn := o.2.2.2.2.1.1.1 ci _ cf.1
  refine W.newcK o.1 o.2.1 o.2.2.2.1 (hts _ hl) (hts _ hi) (hts _ hn) rfl d hk hs hKn.2.1 h1.2.1 fun H1 kC hkC e1 z1 o1 => ?_
  refine kk H1 locs ls (h1.push ⟨_, cf.1, (u_born ty hts cf.2.1 hKn hkC e1 cf.2.2.1).to hfs⟩ z1 o1) ⟨Nat.le_trans h2.1 (by rw [h1.2.1, z1]; omega), fun x a1 a2 => (o1 x (by rw [← h1.2.1]; exact Nat.lt_of_lt_of_le a1 h2.1)).trans (h2.2.1 x a1 a2), h2.2.2⟩ h3
theorem v_newa_aux {atype : ArrayType} {t0 : Nat} {x0 : vp_A} {N : Nat} (o : Ok p l s m args meth c g cc nL own) (d : decode cc pc = .ok (.newarray atype, 2)) (hl : Cond.arrayClass (newarray.typeOf atype) ∈ mT) (ht : (tysG g)[t0]? = some (g.2.1 t0, newarray.typeOf atype)) (hnm : ∀ cA, va_RA s cA (newarray.typeOf atype) ↔ s.vm.findClass ("[" ++ (newarray.typeOf atype).toString) = some cA) (hx : ∀ cA : ClassId, vp_cell cA x0 = arrV cA N (fun _ => defaultValue (newarray.typeOf atype))) (hN : N * componentBytes (newarray.typeOf atype) ≤ 536870912) (hN2 : N < 2 ^ 31) (hk : k + 1 ≤ R.cells) (hs : n + N ≤ R.slots) (kk : V p l e R s m args below meth c Q g (up μ z (.inl (g.2.1 t0, x0))) (z + 1) (k + 1) (n + N) (pc + 2) lv (.ref z :: st)) : V p l e R s m args below meth c Q g μ z k n pc lv (.int (nI N) :: st) := fun H locs ls h1 h2 h3 => by
  have hts := o.2.2.2.2.2.2.2.2
  refine va_newaK o.1 o.2.1 (hts _ hl) rfl d rfl (nI_pos hN2) (nI_clamp hN2) hN hk hs h1.2.1 fun H1 cA e1 z1 o1 hAr hNm => ?_
  have hcA : cA = g.2.1 t0 := by
    have h5 := (hnm _).mp (o.2.2.2.2.1.1.2 t0 _ ht).2
    exact Option.some.inj (hNm.symm.trans h5)
  subst hcA
  refine kk H1 locs ls (h1.push (by show H1[z]? = some (vp_cell _ _); rw [hx]; exact e1) z1 o1) ⟨Nat.le_trans h2.1 (by rw [h1.2.1, z1]; omega), fun x a1 a2 => (o1 x (by rw [← h1.2.1]; exact Nat.lt_of_lt_of_le a1 h2.1)).trans (h2.2.1 x a1 a2), h2.2.2⟩ h3
theorem v_newI (N : Nat) (o : Ok p l s m args meth c g cc nL own) (d : decode cc pc = .ok (.newarray .int, 2)) (hl : Cond.arrayClass .int ∈ mT) (hN : N ≤ 4096) (hk : k + 1 ≤ R.cells) (hs : n + N ≤ R.slots) (kk : V p l e R s m args below meth c Q g (up μ z (.inl (g.2.1 0, aI N (fun _ => 0)))) (z + 1) (k + 1) (n + N) (pc + 2) lv (.ref z :: st)) : V p l e R s m args below meth c Q g μ z k n pc lv (.int (nI N) :: st) :=
  v_newa_aux (t0 := 0) (x0 := aI N (fun _ => 0)) o d hl rfl (fun _ => Iff.rfl) (fun _ => rfl) (by show N * 4 ≤ _; omega) (by omega) hk hs kk
theorem v_newZ (N : Nat) (o : Ok p l s m args meth c g cc nL own) (d : decode cc pc = .ok (.newarray .boolean, 2)) (hl : Cond.arrayClass .boolean ∈ mT) (hN : N ≤ 4096) (hk : k + 1 ≤ R.cells) (hs : n + N ≤ R.slots) (kk : V p l e R s m args below meth c Q g (up μ z (.inl (g.2.1 1, aI N (fun _ => 0)))) (z + 1) (k + 1) (n + N) (pc + 2) lv (.ref z :: st)) : V p l e R s m args below meth c Q g μ z k n pc lv (.int (nI N) :: st) :=
  v_newa_aux (t0 := 1) (x0 := aI N (fun _ => 0)) o d hl rfl (fun _ => Iff.rfl) (fun _ => rfl) (by show N * 1 ≤ _; omega) (by omega) hk hs kk
theorem v_newL (N : Nat) (o : Ok p l s m args meth c g cc nL own) (d : decode cc pc = .ok (.newarray .long, 2)) (hl : Cond.arrayClass .long ∈ mT) (hN : N ≤ 4096) (hk : k + 1 ≤ R.cells) (hs : n + N ≤ R.slots) (kk : V p l e R s m args below meth c Q g (up μ z (.inl (g.2.1 2, aL N (fun _ => 0)))) (z + 1) (k + 1) (n + N) (pc + 2) lv (.ref z :: st)) : V p l e R s m args below meth c Q g μ z k n pc lv (.int (nI N) :: st) :=
  v_newa_aux (t0 := 2) (x0 := aL N (fun _ => 0)) o d hl rfl (fun _ => Iff.rfl) (fun _ => rfl) (by show N * 8 ≤ _; omega) (by omega) hk hs kk
theorem v_newQ {C : String} {ix t0 : Nat} (N : Nat) (o : Ok p l s m args meth c g cc nL own) (d : decode cc pc = .ok (.anewarray ix, 3)) (hl : Cond.classLink own ix C ∈ mT) (ho : va_AO C s) (ht : (tysG g)[t0]? = some (g.2.1 t0, .object C)) (hN : N ≤ 4096) (hk : k + 1 ≤ R.cells) (hs : n + N ≤ R.slots) (kk : V p l e R s m args below meth c Q g (up μ z (.inl (g.2.1 t0, aQ N (fun _ => none)))) (z + 1) (k + 1) (n + N) (pc + 3) lv (.ref z :: st)) : V p l e R s m args below meth c Q g μ z k n pc lv (.int (nI N) :: st) := fun H locs ls h1 h2 h3 => by
  have hts := o.2.2.2.2.2.2.2.2
  have hc : (nI N).toNatClampNeg = N := nI_clamp (by omega)
  refine W.anew o.1 o.2.1 o.2.2.2.1 (hts _ hl) (va_AO.use ho) rfl d rfl (nI_pos (by omega)) (by rw [hc]; omega) hk (by rw [hc]; exact hs) fun cA kA comp f1 f2 f3 f4 => ?_
  have hcA : cA = g.2.1 t0 := by
    obtain ⟨-, -, -, -, -, h5⟩ := (o.2.2.2.2.1.1.2 t0 _ ht).2
    exact Option.some.inj (f1.symm.trans h5)
  subst hcA
  rw [hc]
  generalize hH1 : H.push ({ cls := g.2.1 t0, slots := Array.replicate N .null, vm := .none } : Cell) = H1
  have z1 : H1.size = z + 1 := by rw [← hH1, Array.size_push, h1.2.1]
  have e1 : H1[z]? = some (arrV (g.2.1 t0) N (fun _ => .null)) := by rw [← hH1, ← h1.2.1, Array.getElem?_push_size, ← arrV_new]
  have o1 : ∀ q : Nat, q < z → H1[q]? = H[q]? := fun q hq => by rw [← hH1, Array.getElem?_push, if_neg (Nat.ne_of_lt (by rw [h1.2.1]; exact hq))]
  have kk2 := kk H1 locs ls (h1.push (by show H1[z]? = some (vp_cell _ _); rw [vp_cell_q]; exact e1) z1 o1) ⟨Nat.le_trans h2.1 (by rw [h1.2.1, z1]; omega), fun x a1 a2 => (o1 x (by rw [← h1.2.1]; exact Nat.lt_of_lt_of_le a1 h2.1)).trans (h2.2.1 x a1 a2), h2.2.2⟩ h3
  rw [h1.2.1]
  exact kk2
end MKA
