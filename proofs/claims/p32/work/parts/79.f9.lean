theorem st_str {args : Array Value} {s : State} {cls text : String} {k : Nat} (h : (Cond.stringRef cls k text).before args s = true) : ∃ a, vk_R cls k text a s := by
  cases hf : s.vm.findClass cls with
  | none => simp [Cond.before, Cond.holds, Cond.value, hf] at h
  | some cur =>
    obtain ⟨k9, cf, i, a, -, -, -, -, -, hev⟩ := Cond.stringRef_spec hf h
    exact ⟨a, vk_R.of h hev⟩
theorem st_SB {p : Program} {s : State} {m : MethodId} {meth : Method} {c : Code} {b L : Nat} {xs : Nat → Int32} (C0 : lw_At p s m meth c b L xs) : SB s := by
  intro q hq
  simp only [mSt, List.mem_cons, List.not_mem_nil, or_false] at hq
  rcases hq with rfl | rfl | rfl | rfl | rfl | rfl | rfl | rfl | rfl | rfl | rfl | rfl | rfl | rfl | rfl | rfl | rfl | rfl | rfl
  · exact st_str (C0.2.2.2.2.2.1 _ (List.mem_append_right _ (List.mem_of_getElem? (i := 165) (by decide +kernel))))
  · exact st_str (C0.2.2.2.2.2.1 _ (List.mem_append_right _ (List.mem_of_getElem? (i := 201) (by decide +kernel))))
  · exact st_str (C0.2.2.2.2.2.1 _ (List.mem_append_right _ (List.mem_of_getElem? (i := 336) (by decide +kernel))))
  · exact st_str (C0.2.2.2.2.2.1 _ (List.mem_append_right _ (List.mem_of_getElem? (i := 346) (by decide +kernel))))
  · exact st_str (C0.2.2.2.2.2.1 _ (List.mem_append_right _ (List.mem_of_getElem? (i := 347) (by decide +kernel))))
  · exact st_str (C0.2.2.2.2.2.1 _ (List.mem_append_right _ (List.mem_of_getElem? (i := 348) (by decide +kernel))))
  · exact st_str (C0.2.2.2.2.2.1 _ (List.mem_append_right _ (List.mem_of_getElem? (i := 349) (by decide +kernel))))
  · exact st_str (C0.2.2.2.2.2.1 _ (List.mem_append_right _ (List.mem_of_getElem? (i := 365) (by decide +kernel))))
  · exact st_str (C0.2.2.2.2.2.1 _ (List.mem_append_right _ (List.mem_of_getElem? (i := 384) (by decide +kernel))))
  · exact st_str (C0.2.2.2.2.2.1 _ (List.mem_append_right _ (List.mem_of_getElem? (i := 388) (by decide +kernel))))
  · exact st_str (C0.2.2.2.2.2.1 _ (List.mem_append_right _ (List.mem_of_getElem? (i := 421) (by decide +kernel))))
  · exact st_str (C0.2.2.2.2.2.1 _ (List.mem_append_right _ (List.mem_of_getElem? (i := 433) (by decide +kernel))))
  · exact st_str (C0.2.2.2.2.2.1 _ (List.mem_append_right _ (List.mem_of_getElem? (i := 510) (by decide +kernel))))
  · exact st_str (C0.2.2.2.2.2.1 _ (List.mem_append_right _ (List.mem_of_getElem? (i := 511) (by decide +kernel))))
  · exact st_str (C0.2.2.2.2.2.1 _ (List.mem_append_right _ (List.mem_of_getElem? (i := 536) (by decide +kernel))))
  · exact st_str (C0.2.2.2.2.2.1 _ (List.mem_append_right _ (List.mem_of_getElem? (i := 547) (by decide +kernel))))
  · exact st_str (C0.2.2.2.2.2.1 _ (List.mem_append_right _ (List.mem_of_getElem? (i := 623) (by decide +kernel))))
  · exact st_str (C0.2.2.2.2.2.1 _ (List.mem_append_right _ (List.mem_of_getElem? (i := 634) (by decide +kernel))))
  · exact st_str (C0.2.2.2.2.2.1 _ (List.mem_append_right _ (List.mem_of_getElem? (i := 642) (by decide +kernel))))
