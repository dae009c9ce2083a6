/-! THE HEAP AS A FUNCTION: what lies at an address (an array, or an object's fields), or nothing that is known -/
abbrev mM : Type := Nat → Option va_E
abbrev mG : Type := va_G × (Nat → ClassId) × Nat
def gA (g : mG) : Nat → Prop := fun q => g.2.2 ≤ q
def up (μ : mM) (a : Nat) (e : va_E) : mM := fun q => if q = a then some e else μ q
theorem up_s {μ : mM} {a : Nat} {e : va_E} : up μ a e a = some e := if_pos rfl
theorem up_n {μ : mM} {a b : Nat} {e : va_E} (h : b ≠ a) : up μ a e b = μ b := if_neg h
def Hm (g : mG) (μ : mM) (z : Nat) (H : Heap) : Prop := (∀ a e, μ a = some e → va_at g.1 vwCl (a, e) H ∧ g.2.2 ≤ a) ∧ H.size = z ∧ g.2.2 ≤ z
abbrev tysG (g : mG) : List (ClassId × FieldType) := [(g.2.1 0, .int), (g.2.1 1, .boolean), (g.2.1 2, .long), (g.2.1 3, .object "ScanningHouse$Page"), (g.2.1 4, .object "ScanningHouse$Book"), (g.2.1 5, .array .int)]
theorem Hm.lt {g : mG} {μ : mM} {z : Nat} {H : Heap} (h : Hm g μ z H) {a : Nat} {e : va_E} (ha : μ a = some e) : a < z := by
  have h1 := ((h.1 a e ha).1).lt
  rw [h.2.1] at h1
  exact h1
theorem Hm.set {g : mG} {μ : mM} {z : Nat} {H H1 : Heap} (h : Hm g μ z H) {a : Nat} {e0 e : va_E} (ha : μ a = some e0) (he : va_at g.1 vwCl (a, e) H1) (hz : H1.size = H.size) (oq : ∀ q, q ≠ a → H1[q]? = H[q]?) : Hm g (up μ a e) z H1 := by
  refine ⟨fun b x hb => ?_, hz.trans h.2.1, h.2.2⟩
  by_cases e1 : b = a
  · subst e1
    rw [up_s] at hb
    cases hb
    exact ⟨he, (h.1 _ _ ha).2⟩
  · rw [up_n e1] at hb
    exact ⟨((h.1 b x hb).1).kept (oq b e1), (h.1 b x hb).2⟩
theorem Hm.push {g : mG} {μ : mM} {z : Nat} {H H1 : Heap} (h : Hm g μ z H) {e : va_E} (he : va_at g.1 vwCl (z, e) H1) (hz : H1.size = z + 1) (o1 : ∀ q, q < z → H1[q]? = H[q]?) : Hm g (up μ z e) (z + 1) H1 := by
  refine ⟨fun b x hb => ?_, hz, Nat.le_succ_of_le h.2.2⟩
  by_cases e1 : b = z
  · subst e1
    rw [up_s] at hb
    cases hb
    exact ⟨he, h.2.2⟩
  · rw [up_n e1] at hb
    exact ⟨((h.1 b x hb).1).kept (o1 b (h.lt hb)), (h.1 b x hb).2⟩
theorem Hm.ext {g : mG} {μ : mM} {z : Nat} {H H1 : Heap} (h : Hm g μ z H) (hz : H.size ≤ H1.size) (o1 : ∀ q, q < H.size → H1[q]? = H[q]?) : Hm g μ H1.size H1 := by
  refine ⟨fun b x hb => ⟨((h.1 b x hb).1).kept (o1 b (by rw [h.2.1]; exact h.lt hb)), (h.1 b x hb).2⟩, rfl, Nat.le_trans h.2.2 (by rw [← h.2.1]; exact hz)⟩
/-! what the tables say, kept from state to state -/
def gw2 : Cond → Bool
  | .declares _ => true
  | .castable _ _ => true
  | w => goodWord w
theorem gw2_c (w : Cond) (h : gw2 w = true) : goodWord w = true ∨ (∃ x, w = .declares x) ∨ ∃ C T, w = .castable C T := by
  cases w <;> first | exact Or.inr (Or.inl ⟨_, rfl⟩) | exact Or.inr (Or.inr ⟨_, _, rfl⟩) | exact Or.inl h
def mT : List Cond := lw_tbl.filter gw2
theorem mT_in {w : Cond} (i : Nat) (h : tables_1[i]? = some w) (hg : gw2 w = true) : w ∈ mT := List.mem_filter.mpr ⟨List.mem_append_right _ (List.mem_of_getElem? h), hg⟩
theorem mT_sel {q : MethodName × Nat} (h : q ∈ lw_privs) (hg : gw2 (Cond.selects q.1.cls q.1 q.1) = true) : Cond.selects q.1.cls q.1 q.1 ∈ mT := List.mem_filter.mpr ⟨List.mem_append_left _ (List.mem_map.mpr ⟨q, h, rfl⟩), hg⟩
def TB (U : State) : Prop := ∀ w ∈ mT, w.before #[] U = true
theorem TB.moved {s U : State} (hW : s.WarmedH U.vm) (h : TB s) : TB U := fun w hw => by
  rcases gw2_c w (List.mem_filter.mp hw).2 with h1 | ⟨x, rfl⟩ | ⟨C, T, rfl⟩
  · exact word_at hW (good_of_word h1) (h w hw)
  · exact va_Nw.warmD hW (h _ hw)
  · exact va_Nw.warmC hW (h _ hw)
theorem TB.args {s : State} (h : TB s) (a : Array Value) : ∀ w ∈ mT, w.before a s = true := fun w hw => by
  rcases gw2_c w (List.mem_filter.mp hw).2 with h1 | ⟨x, rfl⟩ | ⟨C, T, rfl⟩
  · exact word_at (State.WarmedH.refl s) (good_of_word h1) (h w hw)
  · exact va_Nw.use rfl (h _ hw)
  · exact va_Nw.use rfl (h _ hw)
def mSt : List (String × Nat × String) := [("ScanningHouse", 252, "an argument is out of its range"), ("ScanningHouse", 63, "there are as many books as there may be"), ("ScanningHouse", 257, "there is no such book"), ("ScanningHouse", 260, "there is no such page"), ("ScanningHouse", 90, "the book does not open as wide as that"), ("ScanningHouse", 95, "the book has less strength than the shot costs"), ("ScanningHouse", 106, "there is a shot that is not faulty"), ("ScanningHouse", 122, "there is no shot of the page"), ("ScanningHouse", 262, "there is no such vault"), ("ScanningHouse", 269, "the vault has no copy of the page"), ("ScanningHouse", 264, "the vault is burnt"), ("ScanningHouse", 150, "the vault is not burnt"), ("ScanningHouse", 277, "there is no such place in the order"), ("ScanningHouse", 279, "the book has too many pages to be put in order"), ("ScanningHouse", 271, "there is no such place"), ("ScanningHouse", 273, "there is no such keyer"), ("ScanningHouse", 225, "the year would be above the last one"), ("ScanningHouse", 275, "there is no such land"), ("ScanningHouse", 233, "the year of the death is known")]
def SB (U : State) : Prop := ∀ q ∈ mSt, ∃ a, vk_R q.1 q.2.1 q.2.2 a U
theorem SB.moved {s U : State} (hW : s.WarmedH U.vm) (h : SB s) : SB U := fun q hq => by
  obtain ⟨a, ha⟩ := h q hq
  exact ⟨a, vk_R.warm hW ha⟩
theorem mk_specA {args : Array Value} {first s : State} {o : Option Outcome} {idx : List Nat} {t : FieldType} (h : (Cond.arrayOver (.array t)).holds args first o s idx = true) :
    ∃ comp c k, s.vm.findClass (FieldType.array t).toString = some comp ∧ (s.vm.classes.findIdx? fun x => match x.kind with | .array component _ => component == comp | _ => false) = some c ∧ s.vm.classes[c]? = some k ∧ k.kind = .array comp (.array t) ∧
      s.vm.findClass ("[" ++ (FieldType.array t).toString) = some c := by
  simp only [Cond.holds, Cond.value, beq_iff_eq] at h
  cases hc : s.vm.findClass (FieldType.array t).toString with
  | none => simp [hc] at h
  | some comp =>
    simp only [hc, Option.bind_some, Option.bind_eq_some_iff, Option.map_eq_some_iff] at h
    obtain ⟨c, hi, k, hk, hb⟩ := h
    obtain ⟨hlt, hp, -⟩ := Array.findIdx?_eq_some_iff_getElem.mp hi
    have hkk : s.vm.classes[c] = k := (Array.getElem?_eq_some_iff.mp hk).2
    rw [hkk] at hp
    cases hkind : k.kind with
    | array component ty =>
      rw [hkind] at hb hp
      simp at hb hp
      exact ⟨comp, c, k, rfl, hi, hk, by rw [hkind, hp, hb.1], hb.2⟩
    | _ => rw [hkind] at hb; simp at hb
theorem va_AOA.moved {ty : FieldType} {u U : State} (hvm : u.vm.Alike U.vm) (h : va_AOA ty u) : va_AOA ty U := by
  obtain ⟨comp, c, k, h1, h2, h3, h4, h5⟩ := mk_specA h
  obtain ⟨k', hk', he⟩ := hvm.2.2 _ _ h3
  have hi : (U.vm.classes.findIdx? fun (x : Class) => match x.kind with | .array component _ => component == comp | _ => false) = some c := by
    have e := hvm.bare_eq
    have e1 := va_idx_bare U.vm comp
    have e2 := va_idx_bare u.vm comp
    first
      | (rw [e] at e2; exact (e1.symm.trans e2).trans h2)
      | (rw [e] at e1; exact (e1.symm.trans e2).trans h2)
  have hkind : k'.kind = .array comp (.array ty) := by rw [he]; exact h4
  have f1 : U.vm.findClass (FieldType.array ty).toString = some comp := by rw [hvm.findClass]; exact h1
  have f2 : U.vm.findClass ("[" ++ (FieldType.array ty).toString) = some c := by rw [hvm.findClass]; exact h5
  unfold va_AOA Cond.before Cond.holds
  simp only [Cond.value]
  rw [f1, Option.bind_some]
  refine (congrArg (fun o : Option Nat => (o.bind (fun c => (U.vm.classes[c]?).map fun (k : Class) => match k.kind with | .array _ t => decide (t = FieldType.array ty) && decide (U.vm.findClass ("[" ++ (FieldType.array ty).toString) = some c) | _ => false) == some true)) hi).trans ?_
  simp [hk', hkind, f2]
def mNc : List (String × String) := [("java/lang/IllegalArgumentException", "java/lang/IndexOutOfBoundsException"), ("java/lang/IllegalStateException", "java/lang/IndexOutOfBoundsException"), ("java/lang/IllegalStateException", "java/lang/IllegalArgumentException")]
def NB (U : State) : Prop := ∀ q ∈ mNc, va_Nc q.1 q.2 U
def Ef (g : mG) (U : State) : Prop := va_K g.1 vwCl (tysG g) U ∧ TB U ∧ SB U ∧ va_AO "ScanningHouse$Book" U ∧ va_AO "ScanningHouse$Page" U ∧ va_AOA .int U ∧ NB U
theorem Ef.moved {g : mG} {s U : State} (hW : s.WarmedH U.vm) (h : Ef g s) : Ef g U := ⟨va_K.moved hW.alike h.1, h.2.1.moved hW, h.2.2.1.moved hW, va_AO.moved hW.alike h.2.2.2.1, va_AO.moved hW.alike h.2.2.2.2.1, va_AOA.moved hW.alike h.2.2.2.2.2.1, fun q hq => va_Nc.moved hW.alike (h.2.2.2.2.2.2 q hq)⟩
def Zs (g : mG) (U : State) (H : Heap) : Prop := vx_Zq Bundle.tN "UNASSIGNED_STACK" Bundle.steD (gA g) U H ∧ vx_Zq Bundle.tN "SUPPRESSED_SENTINEL" Bundle.listD (gA g) U H
theorem Zs.go {g : mG} {s U : State} {H0 H : Heap} {locs : List Loc} (hvm : s.vm.Alike U.vm) (hS : va_S (gA g) H0 H locs) (h : Zs g s H0) : Zs g U H :=
  ⟨(h.1.moved hvm).kept (fun a h1 h2 => hS.2.1 a h1 h2), (h.2.moved hvm).kept (fun a h1 h2 => hS.2.1 a h1 h2)⟩
/-! contracts -/
def cPc (g : mG) (As : List Value) (μ : mM) (z : Nat) : Array Value → State → Prop := fun v U => v = As.toArray ∧ Hm g μ z U.heap ∧ Ef g U ∧ Zs g U U.heap
def cQc (g : mG) (post : Option Value → mM → Nat → Prop) : Array Value → State → Outcome → State → Prop := fun _ st o t => (∃ r μ' z', o = .returned r ∧ post r μ' z' ∧ Hm g μ' z' t.heap) ∧ va_F (gA g) st t
def cXC (g : mG) (ex : String → mM → Nat → Prop) : String → State → State → Prop := fun E st t => (∃ μ' z', ex E μ' z' ∧ Hm g μ' z' t.heap) ∧ va_F (gA g) st t
theorem cPc.blind {g : mG} {As : List Value} {μ : mM} {z : Nat} : FrameBlind (cPc g As μ z) := fun a U fr mk h =>
  ⟨h.1, h.2.1, Ef.moved (s := U) (U := U.calling fr mk a) (State.WarmedH.refl U) h.2.2.1, Zs.go (s := U) (U := U.calling fr mk a) (Vm.Alike.refl U.vm) va_S.rf h.2.2.2⟩
def Ct (l : Launch) (g : mG) (y : MethodName) (ws : List Cond) (rm : Room) (As : List Value) (μ : mM) (z : Nat) (post : Option Value → mM → Nat → Prop) (ex : String → mM → Nat → Prop) : Prop :=
  vx_Met l y ws rm (cPc g As μ z) (cQc g post) (cXC g ex) rm.cells rm.slots (gA g)
def noX : String → mM → Nat → Prop := fun _ _ _ => False
/-- an answer, nothing changed -/
def rdP (v : Option Value) (μ : mM) (z : Nat) : Option Value → mM → Nat → Prop := fun r μ' z' => r = v ∧ μ' = μ ∧ z' = z
def V (p : Program) (l : Launch) (e : Env) (R : Room) (s : State) (m : MethodId) (args : Array Value) (below : List Frame) (meth : Method) (c : Code) (Q : State → Prop) (g : mG) (μ : mM) (z k n pc : Nat) (lv : List (Nat × Value)) (st : List Value) : Prop :=
  ∀ (H : Heap) (locs : List Loc) (ls : Array Slot), Hm g μ z H → va_S (gA g) s.heap H locs → lv_has ls c.maxLocals lv → W p l e R s m args below meth c H locs k n Q (F0 m pc ls st)
def VX (p : Program) (l : Launch) (e : Env) (R : Room) (s : State) (m : MethodId) (args : Array Value) (below : List Frame) (meth : Method) (c : Code) (Q : State → Prop) (g : mG) (μ : mM) (z k n pc : Nat) (lv : List (Nat × Value)) (E : String) : Prop :=
  ∀ (H : Heap) (locs : List Loc) (ls : Array Slot) (q : Addr) (ce : Cell) (rest : List Value), Hm g μ z H → va_S (gA g) s.heap H locs → lv_has ls c.maxLocals lv → H[q]? = some ce → ce.vm = .none → s.vm.findClass E = some ce.cls → vx_W p l e R s m args below meth c H locs k n Q (F0 m pc ls rest) q
def Ok (p : Program) (l : Launch) (s : State) (m : MethodId) (args : Array Value) (meth : Method) (c : Code) (g : mG) (cc : ByteArray) (nL : Nat) (own : String) : Prop :=
  p.tables.exec = Jvm.exec ∧ c.code = cc ∧ c.maxLocals = nL ∧ s.vm.findClass own = some m.cls ∧ Ef g s ∧ Zs g s s.heap ∧ l.stackTraces = false ∧ meth.locks = false ∧ (∀ w ∈ mT, w.before args s = true)
theorem Ct.of {l : Launch} {g : mG} {y : MethodName} {rm : Room} {As : List Value} {μ : mM} {z : Nat} {post : Option Value → mM → Nat → Prop} {ex : String → mM → Nat → Prop} {cc : ByteArray} {nL : Nat} {ret : Option FieldType} (hl : l.stackTraces = false) (hy : plainName y.cls = true) (hn : (lg_sl As).length ≤ nL)
    (body : ∀ p e s m args below meth c, Ok p l s m args meth c g cc nL y.cls → meth.name = y.name → meth.sig.returnType = ret → (∀ x ∈ c.exceptionTable.toList, False) → V p l e rm s m args below meth c (vx_MQ below (cQc g post) (cXC g ex) args s rm.cells rm.slots (gA g)) g μ z 0 0 0 (lv_args 0 As) []) :
    Ct l g y [Cond.code y cc nL ret] rm As μ z post ex := by
  refine vx_ofW (cc := cc) (maxL := nL) (ret := ret) hy rfl ?_
  intro p e s m args below meth c s₁ B hml hex hv
  obtain ⟨rfl, hm, hE, hZ⟩ := hv
  rw [lg_entry_eq]
  exact body p e s m As.toArray below meth c ⟨B.exec, B.bytes, hml, findClass_of_methodNamed B.named, hE, hZ, hl, B.notSynchronized, hE.2.1.args _⟩ (name_of_methodNamed B.named B.method).1 B.returns hex s.heap [] _ hm va_S.rf (by rw [hml]; exact lv_entry As hn)
