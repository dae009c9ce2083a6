/-! METHODS WITH HANDLERS -/
section MKH
variable {p : Program} {l : Launch} {e : Env} {R : Room} {s : State} {m : MethodId} {args : Array Value} {below : List Frame} {meth : Method} {c : Code} {Q : State → Prop} {g : mG} {μ : mM} {z k n pc : Nat} {lv : List (Nat × Value)} {st : List Value} {cc : ByteArray} {nL : Nat} {own : String}
theorem v_catch {E name : String} (o : Ok p l s m args meth c g cc nL own) (pre : List ExceptionTableEntry) (x : ExceptionTableEntry) (suf : List ExceptionTableEntry) (hsplit : c.exceptionTable.toList = pre ++ x :: suf)
    (hpass : ∀ y ∈ pre, y.catchType ≠ 0 ∧ ∃ nm : String, Cond.classLink own y.catchType nm ∈ mT ∧ (E, nm) ∈ mNc) (hx : covers x pc = true) (h0 : x.catchType ≠ 0) (hlink : Cond.classLink own x.catchType name ∈ mT) (hcast : Cond.castable E name ∈ mT)
    (kk : ∀ q, V p l e R s m args below meth c Q g μ z k n x.handlerPc lv [.ref q]) : VX p l e R s m args below meth c Q g μ z k n pc lv E := fun H locs ls q ce rest a1 a2 a3 a4 a5 a6 => by
  have hts := o.2.2.2.2.2.2.2.2
  have hNB := o.2.2.2.2.1.2.2.2.2.2.2
  exact vx_catch o.2.2.2.1 pre x suf hsplit (fun y hy => Or.inr ⟨(hpass y hy).1, by
    obtain ⟨nm, h1, h2⟩ := (hpass y hy).2
    exact ⟨nm, hts _ h1, hNB _ h2⟩⟩) hx h0 (hts _ hlink) (hts _ hcast) a4 a5 a6 (kk q H locs ls a1 a2 a3)
/-- what a call's words say, of a method with handlers -/
def CWH (own : String) (index : Nat) (y : MethodName) (bytes : ByteArray) (maxL : Nat) (ret : Option FieldType) (hh : List (Nat × Nat × Nat × Nat)) (nn : Nat) : Prop :=
  Cond.methodLink own index y ∈ mT ∧ Cond.codeWith y bytes maxL ret hh ∈ mT ∧ Cond.initialized y.cls ∈ mT ∧ (y.cls ≠ "java/lang/invoke/MethodHandle" ∧ y.cls ≠ "java/lang/invoke/VarHandle") ∧ (parseMethodDescriptor y.desc).map (fun d => d.parameters.length) = some nn ∧ Cond.static y ∈ mT
theorem CWH.B {index nn maxL : Nat} {y : MethodName} {bytes : ByteArray} {ret : Option FieldType} {hh : List (Nat × Nat × Nat × Nat)} {rm : Room} (h : CWH own index y bytes maxL ret hh nn) (ht : ∀ w ∈ mT, w.before args s = true) (hR : rm.frames + 1 ≤ R.frames ∧ 8 + (maxL + 11) + rm.locals ≤ R.locals) : vx_CSW R s args own index y bytes maxL ret hh [Cond.codeWith y bytes maxL ret hh] rm rm.cells rm.slots nn := by
  obtain ⟨h1, h2, h3, h4, h5, h6⟩ := h
  refine ⟨⟨rfl, rfl, hR.1, hR.2, pay_in ht (fun w hw => ?_), List.mem_singleton.mpr rfl⟩, ht _ h2, ht _ h3, h4, fun sig hs => ?_, ht _ h1, ht _ h6⟩
  · rw [List.mem_singleton.mp hw]
    exact ⟨h2, good_of_word rfl⟩
  · rw [hs] at h5
    exact (Option.some.inj h5).symm
theorem v_callSW {index nn maxL : Nat} {y : MethodName} {bytes : ByteArray} {ret : Option FieldType} {hh : List (Nat × Nat × Nat × Nat)} {rm : Room} {post' : Option Value → mM → Nat → Prop} {ex' : String → mM → Nat → Prop} {st0 : List Value} (As : List Value) (st : List Value) (o : Ok p l s m args meth c g cc nL own) (d : decode cc pc = .ok (.invokestatic index, 3)) (cw : CWH own index y bytes maxL ret hh nn) (hc : Ct l g y [Cond.codeWith y bytes maxL ret hh] rm As μ z post' ex') (hst : st0 = As.reverse ++ st) (hnn : As.length = nn) (hR : rm.frames + 1 ≤ R.frames ∧ 8 + (maxL + 11) + rm.locals ≤ R.locals) (hk : k + rm.cells ≤ R.cells ∧ n + rm.slots ≤ R.slots) (h8 : (st.map fun v => v.category).sum ≤ 8)
    (kk : ∀ r μ' z', z ≤ z' → post' r μ' z' → V p l e R s m args below meth c Q g μ' z' (k + rm.cells) (n + rm.slots) (pc + 3) lv (r.toList ++ st))
    (kx : ∀ E μ' z', z ≤ z' → ex' E μ' z' → VX p l e R s m args below meth c Q g μ' z' (k + rm.cells) (n + rm.slots) pc lv E) : V p l e R s m args below meth c Q g μ z k n pc lv st0 := by
  have hts := o.2.2.2.2.2.2.2.2
  exact v_core (fun H locs ls h1 h2 h3 => vx_runSX (As := As) (rest := st) (Ts := mT) ⟨o.1, o.2.1, rfl, o.2.2.2.1, hts⟩ hc (cw.B hts hR) (cPre o h1 h2) rfl hnn h3.1 hst (lv_room h8) d hk) kk kx
end MKH
theorem Ct.ofH {l : Launch} {g : mG} {y : MethodName} {rm : Room} {As : List Value} {μ : mM} {z : Nat} {post : Option Value → mM → Nat → Prop} {ex : String → mM → Nat → Prop} {cc : ByteArray} {nL : Nat} {ret : Option FieldType} {hh : List (Nat × Nat × Nat × Nat)} (hl : l.stackTraces = false) (hy : plainName y.cls = true) (hn : (lg_sl As).length ≤ nL)
    (body : ∀ p e s m args below meth c, Ok p l s m args meth c g cc nL y.cls → meth.name = y.name → meth.sig.returnType = ret → c.exceptionTable.toList = tableOf hh → V p l e rm s m args below meth c (vx_MQ below (cQc g post) (cXC g ex) args s rm.cells rm.slots (gA g)) g μ z 0 0 0 (lv_args 0 As) []) :
    Ct l g y [Cond.codeWith y cc nL ret hh] rm As μ z post ex := by
  refine vx_ofWH (cc := cc) (maxL := nL) (ret := ret) hy rfl ?_
  intro p e s m args below meth c s₁ B hml hv
  have hex : c.exceptionTable.toList = tableOf hh := vx_table (x := y) B (atoms_spec (ws := [Cond.codeWith y cc nL ret hh]) B.pre _ List.mem_cons_self)
  obtain ⟨rfl, hm, hE, hZ⟩ := hv
  rw [lg_entry_eq]
  exact body p e s m As.toArray below meth c ⟨B.exec, B.bytes, hml, findClass_of_methodNamed B.named, hE, hZ, hl, B.notSynchronized, hE.2.1.args _⟩ (name_of_methodNamed B.named B.method).1 B.returns hex s.heap [] _ hm va_S.rf (by rw [hml]; exact lv_entry As hn)
