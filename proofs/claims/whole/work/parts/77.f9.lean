theorem st_str {args : Array Value} {s : State} {cls text : String} {k : Nat} (h : (Cond.stringRef cls k text).before args s = true) : ∃ a, vk_R cls k text a s := by
  cases hf : s.vm.findClass cls with
  | none => simp [Cond.before, Cond.holds, Cond.value, hf] at h
  | some cur =>
    obtain ⟨k9, cf, i, a, -, -, -, -, -, hev⟩ := Cond.stringRef_spec hf h
    exact ⟨a, vk_R.of h hev⟩
theorem st_SB {p : Program} {s : State} {m : MethodId} {meth : Method} {c : Code} {b L : Nat} {xs : Nat → Int32} (C0 : lw_At p s m meth c b L xs) : SB s := by
  intro q hq
  simp only [mSt, List.mem_cons, List.not_mem_nil, or_false] at hq
  rcases hq with rfl | rfl | rfl | rfl | rfl | rfl | rfl | rfl | rfl | rfl | rfl | rfl | rfl | rfl | rfl | rfl | rfl | rfl | rfl
  · exact st_str (C0.2.2.2.2.2.1 _ (List.mem_append_right _ (List.mem_of_getElem? (i := 180) (by decide +kernel))))
  · exact st_str (C0.2.2.2.2.2.1 _ (List.mem_append_right _ (List.mem_of_getElem? (i := 216) (by decide +kernel))))
  · exact st_str (C0.2.2.2.2.2.1 _ (List.mem_append_right _ (List.mem_of_getElem? (i := 333) (by decide +kernel))))
  · exact st_str (C0.2.2.2.2.2.1 _ (List.mem_append_right _ (List.mem_of_getElem? (i := 343) (by decide +kernel))))
  · exact st_str (C0.2.2.2.2.2.1 _ (List.mem_append_right _ (List.mem_of_getElem? (i := 344) (by decide +kernel))))
  · exact st_str (C0.2.2.2.2.2.1 _ (List.mem_append_right _ (List.mem_of_getElem? (i := 345) (by decide +kernel))))
  · exact st_str (C0.2.2.2.2.2.1 _ (List.mem_append_right _ (List.mem_of_getElem? (i := 346) (by decide +kernel))))
  · exact st_str (C0.2.2.2.2.2.1 _ (List.mem_append_right _ (List.mem_of_getElem? (i := 362) (by decide +kernel))))
  · exact st_str (C0.2.2.2.2.2.1 _ (List.mem_append_right _ (List.mem_of_getElem? (i := 373) (by decide +kernel))))
  · exact st_str (C0.2.2.2.2.2.1 _ (List.mem_append_right _ (List.mem_of_getElem? (i := 377) (by decide +kernel))))
  · exact st_str (C0.2.2.2.2.2.1 _ (List.mem_append_right _ (List.mem_of_getElem? (i := 410) (by decide +kernel))))
  · exact st_str (C0.2.2.2.2.2.1 _ (List.mem_append_right _ (List.mem_of_getElem? (i := 422) (by decide +kernel))))
  · exact st_str (C0.2.2.2.2.2.1 _ (List.mem_append_right _ (List.mem_of_getElem? (i := 497) (by decide +kernel))))
  · exact st_str (C0.2.2.2.2.2.1 _ (List.mem_append_right _ (List.mem_of_getElem? (i := 498) (by decide +kernel))))
  · exact st_str (C0.2.2.2.2.2.1 _ (List.mem_append_right _ (List.mem_of_getElem? (i := 546) (by decide +kernel))))
  · exact st_str (C0.2.2.2.2.2.1 _ (List.mem_append_right _ (List.mem_of_getElem? (i := 557) (by decide +kernel))))
  · exact st_str (C0.2.2.2.2.2.1 _ (List.mem_append_right _ (List.mem_of_getElem? (i := 633) (by decide +kernel))))
  · exact st_str (C0.2.2.2.2.2.1 _ (List.mem_append_right _ (List.mem_of_getElem? (i := 644) (by decide +kernel))))
  · exact st_str (C0.2.2.2.2.2.1 _ (List.mem_append_right _ (List.mem_of_getElem? (i := 652) (by decide +kernel))))
