theorem st_T {p : Program} {s : State} {m : MethodId} {meth : Method} {c : Code} {b L : Nat} {xs : Nat → Int32} (C0 : lw_At p s m meth c b L xs) : ∀ w ∈ mT, w.before #[Value.ref b] s = true := fun w hw => C0.2.2.2.2.2.1 w (List.mem_filter.mp hw).1
theorem st_TB {p : Program} {s : State} {m : MethodId} {meth : Method} {c : Code} {b L : Nat} {xs : Nat → Int32} (C0 : lw_At p s m meth c b L xs) : TB s := fun w hw => by
  have h := st_T C0 w hw
  rcases gw2_c w (List.mem_filter.mp hw).2 with h1 | ⟨x, rfl⟩ | ⟨C, T, rfl⟩
  · exact word_at (State.WarmedH.refl s) (good_of_word h1) h
  · exact va_Nw.use rfl h
  · exact va_Nw.use rfl h
theorem st_NB {p : Program} {s : State} {m : MethodId} {meth : Method} {c : Code} {b L : Nat} {xs : Nat → Int32} (C0 : lw_At p s m meth c b L xs) : NB s := by
  have hs := flat_of_before _ C0.2.2.2.2.2.2.2.2.2
  intro q hq
  simp only [mNc, List.mem_cons, List.not_mem_nil, or_false] at hq
  rcases hq with rfl | rfl | rfl
  · exact va_Nc.of (hs _ (by decide +kernel))
  · exact va_Nc.of (hs _ (by decide +kernel))
  · exact va_Nc.of (hs _ (by decide +kernel))
