section
-- ===== PART A: goes FIRST, ahead of the names: the tables' words, and 'selects' of the private methods out of them =====
/-- a private method of a class that the tables say can be made, by its rows of tables_1 -/
def lw_okq (q : MethodName × Nat) : Prop := (q.1.cls ≠ "java/lang/invoke/MethodHandle" ∧ q.1.cls ≠ "java/lang/invoke/VarHandle") ∧ Cond.instantiable q.1.cls q.2 ∈ tables_1 ∧ Cond.privateMethod q.1 ∈ tables_1 ∧ Cond.instanceMethod q.1 ∈ tables_1
theorem lw_p0 : lw_okq (⟨"java/lang/Throwable", "fillInStackTrace", "(I)Ljava/lang/Throwable;"⟩, 6) := ⟨⟨by decide +kernel, by decide +kernel⟩, List.mem_of_getElem? (i := 178) (by decide +kernel), List.mem_of_getElem? (i := 176) (by decide +kernel), List.mem_of_getElem? (i := 177) (by decide +kernel)⟩
theorem lw_p1 : lw_okq (⟨"ScanningHouse", "bookAt", "(I)LScanningHouse$Book;"⟩, 9) := ⟨⟨by decide +kernel, by decide +kernel⟩, List.mem_of_getElem? (i := 17) (by decide +kernel), List.mem_of_getElem? (i := 321) (by decide +kernel), List.mem_of_getElem? (i := 322) (by decide +kernel)⟩
theorem lw_p2 : lw_okq (⟨"ScanningHouse", "needStandingVault", "(I)V"⟩, 9) := ⟨⟨by decide +kernel, by decide +kernel⟩, List.mem_of_getElem? (i := 17) (by decide +kernel), List.mem_of_getElem? (i := 407) (by decide +kernel), List.mem_of_getElem? (i := 408) (by decide +kernel)⟩
theorem lw_p3 : lw_okq (⟨"ScanningHouse$Page", "lowestVaultThatHolds", "()I"⟩, 10) := ⟨⟨by decide +kernel, by decide +kernel⟩, List.mem_of_getElem? (i := 230) (by decide +kernel), List.mem_of_getElem? (i := 457) (by decide +kernel), List.mem_of_getElem? (i := 458) (by decide +kernel)⟩
theorem lw_p4 : lw_okq (⟨"ScanningHouse", "bookToOrder", "(II)LScanningHouse$Book;"⟩, 9) := ⟨⟨by decide +kernel, by decide +kernel⟩, List.mem_of_getElem? (i := 17) (by decide +kernel), List.mem_of_getElem? (i := 494) (by decide +kernel), List.mem_of_getElem? (i := 495) (by decide +kernel)⟩
theorem lw_p5 : lw_okq (⟨"ScanningHouse$PageRow", "isOrderOf", "([LScanningHouse$Page;)Z"⟩, 1) := ⟨⟨by decide +kernel, by decide +kernel⟩, List.mem_of_getElem? (i := 49) (by decide +kernel), List.mem_of_getElem? (i := 525) (by decide +kernel), List.mem_of_getElem? (i := 526) (by decide +kernel)⟩
theorem lw_p6 : lw_okq (⟨"ScanningHouse$PageRow", "stepToNextRow", "(I)Z"⟩, 1) := ⟨⟨by decide +kernel, by decide +kernel⟩, List.mem_of_getElem? (i := 49) (by decide +kernel), List.mem_of_getElem? (i := 529) (by decide +kernel), List.mem_of_getElem? (i := 530) (by decide +kernel)⟩
theorem lw_p7 : lw_okq (⟨"ScanningHouse$PageRow", "swap", "(II)V"⟩, 1) := ⟨⟨by decide +kernel, by decide +kernel⟩, List.mem_of_getElem? (i := 49) (by decide +kernel), List.mem_of_getElem? (i := 533) (by decide +kernel), List.mem_of_getElem? (i := 534) (by decide +kernel)⟩
theorem lw_p8 : lw_okq (⟨"ScanningHouse", "trustIn", "(I)I"⟩, 9) := ⟨⟨by decide +kernel, by decide +kernel⟩, List.mem_of_getElem? (i := 17) (by decide +kernel), List.mem_of_getElem? (i := 566) (by decide +kernel), List.mem_of_getElem? (i := 567) (by decide +kernel)⟩
theorem lw_p9 : lw_okq (⟨"ScanningHouse", "weighLetters", "(LScanningHouse$Page;I)V"⟩, 9) := ⟨⟨by decide +kernel, by decide +kernel⟩, List.mem_of_getElem? (i := 17) (by decide +kernel), List.mem_of_getElem? (i := 596) (by decide +kernel), List.mem_of_getElem? (i := 597) (by decide +kernel)⟩
theorem lw_p10 : lw_okq (⟨"ScanningHouseModel", "goesWell", "(I)Z"⟩, 30) := ⟨⟨by decide +kernel, by decide +kernel⟩, List.mem_of_getElem? (i := 692) (by decide +kernel), List.mem_of_getElem? (i := 800) (by decide +kernel), List.mem_of_getElem? (i := 801) (by decide +kernel)⟩
theorem lw_p11 : lw_okq (⟨"ScanningHouseModel", "shots", "(I)I"⟩, 30) := ⟨⟨by decide +kernel, by decide +kernel⟩, List.mem_of_getElem? (i := 692) (by decide +kernel), List.mem_of_getElem? (i := 808) (by decide +kernel), List.mem_of_getElem? (i := 809) (by decide +kernel)⟩
theorem lw_p12 : lw_okq (⟨"ScanningHouseModel", "isPage", "(II)Z"⟩, 30) := ⟨⟨by decide +kernel, by decide +kernel⟩, List.mem_of_getElem? (i := 692) (by decide +kernel), List.mem_of_getElem? (i := 816) (by decide +kernel), List.mem_of_getElem? (i := 817) (by decide +kernel)⟩
theorem lw_p13 : lw_okq (⟨"ScanningHouseModel", "isBook", "(I)Z"⟩, 30) := ⟨⟨by decide +kernel, by decide +kernel⟩, List.mem_of_getElem? (i := 692) (by decide +kernel), List.mem_of_getElem? (i := 820) (by decide +kernel), List.mem_of_getElem? (i := 821) (by decide +kernel)⟩
theorem lw_p14 : lw_okq (⟨"ScanningHouseModel", "holds", "(II)Z"⟩, 30) := ⟨⟨by decide +kernel, by decide +kernel⟩, List.mem_of_getElem? (i := 692) (by decide +kernel), List.mem_of_getElem? (i := 839) (by decide +kernel), List.mem_of_getElem? (i := 840) (by decide +kernel)⟩
theorem lw_p15 : lw_okq (⟨"ScanningHouseModel", "layTrees", "(II)V"⟩, 30) := ⟨⟨by decide +kernel, by decide +kernel⟩, List.mem_of_getElem? (i := 692) (by decide +kernel), List.mem_of_getElem? (i := 860) (by decide +kernel), List.mem_of_getElem? (i := 861) (by decide +kernel)⟩
def lw_privs_1 : List (MethodName × Nat) := [(⟨"java/lang/Throwable", "fillInStackTrace", "(I)Ljava/lang/Throwable;"⟩, 6), (⟨"ScanningHouse", "bookAt", "(I)LScanningHouse$Book;"⟩, 9), (⟨"ScanningHouse", "needStandingVault", "(I)V"⟩, 9), (⟨"ScanningHouse$Page", "lowestVaultThatHolds", "()I"⟩, 10), (⟨"ScanningHouse", "bookToOrder", "(II)LScanningHouse$Book;"⟩, 9), (⟨"ScanningHouse$PageRow", "isOrderOf", "([LScanningHouse$Page;)Z"⟩, 1), (⟨"ScanningHouse$PageRow", "stepToNextRow", "(I)Z"⟩, 1), (⟨"ScanningHouse$PageRow", "swap", "(II)V"⟩, 1), (⟨"ScanningHouse", "trustIn", "(I)I"⟩, 9), (⟨"ScanningHouse", "weighLetters", "(LScanningHouse$Page;I)V"⟩, 9), (⟨"ScanningHouseModel", "goesWell", "(I)Z"⟩, 30), (⟨"ScanningHouseModel", "shots", "(I)I"⟩, 30), (⟨"ScanningHouseModel", "isPage", "(II)Z"⟩, 30), (⟨"ScanningHouseModel", "isBook", "(I)Z"⟩, 30), (⟨"ScanningHouseModel", "holds", "(II)Z"⟩, 30), (⟨"ScanningHouseModel", "layTrees", "(II)V"⟩, 30)]
theorem lw_r1 : ∀ q ∈ lw_privs_1, lw_okq q := List.forall_mem_cons.mpr ⟨lw_p0, List.forall_mem_cons.mpr ⟨lw_p1, List.forall_mem_cons.mpr ⟨lw_p2, List.forall_mem_cons.mpr ⟨lw_p3, List.forall_mem_cons.mpr ⟨lw_p4, List.forall_mem_cons.mpr ⟨lw_p5, List.forall_mem_cons.mpr ⟨lw_p6, List.forall_mem_cons.mpr ⟨lw_p7, List.forall_mem_cons.mpr ⟨lw_p8, List.forall_mem_cons.mpr ⟨lw_p9, List.forall_mem_cons.mpr ⟨lw_p10, List.forall_mem_cons.mpr ⟨lw_p11, List.forall_mem_cons.mpr ⟨lw_p12, List.forall_mem_cons.mpr ⟨lw_p13, List.forall_mem_cons.mpr ⟨lw_p14, List.forall_mem_cons.mpr ⟨lw_p15, fun _ h => absurd h List.not_mem_nil⟩⟩⟩⟩⟩⟩⟩⟩⟩⟩⟩⟩⟩⟩⟩⟩
theorem lw_p16 : lw_okq (⟨"ScanningHouseModel", "holder", "(I)I"⟩, 30) := ⟨⟨by decide +kernel, by decide +kernel⟩, List.mem_of_getElem? (i := 692) (by decide +kernel), List.mem_of_getElem? (i := 873) (by decide +kernel), List.mem_of_getElem? (i := 874) (by decide +kernel)⟩
theorem lw_p17 : lw_okq (⟨"ScanningHouseModel", "isLostAt", "(I)Z"⟩, 30) := ⟨⟨by decide +kernel, by decide +kernel⟩, List.mem_of_getElem? (i := 692) (by decide +kernel), List.mem_of_getElem? (i := 885) (by decide +kernel), List.mem_of_getElem? (i := 886) (by decide +kernel)⟩
theorem lw_p18 : lw_okq (⟨"ScanningHouseModel", "orderOf", "(II)I"⟩, 30) := ⟨⟨by decide +kernel, by decide +kernel⟩, List.mem_of_getElem? (i := 692) (by decide +kernel), List.mem_of_getElem? (i := 897) (by decide +kernel), List.mem_of_getElem? (i := 898) (by decide +kernel)⟩
theorem lw_p19 : lw_okq (⟨"ScanningHouseModel", "layOrder", "(I)Z"⟩, 30) := ⟨⟨by decide +kernel, by decide +kernel⟩, List.mem_of_getElem? (i := 692) (by decide +kernel), List.mem_of_getElem? (i := 901) (by decide +kernel), List.mem_of_getElem? (i := 902) (by decide +kernel)⟩
theorem lw_p20 : lw_okq (⟨"ScanningHouseModel", "fits", "(II)Z"⟩, 30) := ⟨⟨by decide +kernel, by decide +kernel⟩, List.mem_of_getElem? (i := 692) (by decide +kernel), List.mem_of_getElem? (i := 905) (by decide +kernel), List.mem_of_getElem? (i := 906) (by decide +kernel)⟩
theorem lw_p21 : lw_okq (⟨"ScanningHouseModel", "isPlace", "(III)Z"⟩, 30) := ⟨⟨by decide +kernel, by decide +kernel⟩, List.mem_of_getElem? (i := 692) (by decide +kernel), List.mem_of_getElem? (i := 917) (by decide +kernel), List.mem_of_getElem? (i := 918) (by decide +kernel)⟩
theorem lw_p22 : lw_okq (⟨"ScanningHouseModel", "trustOf", "(I)I"⟩, 30) := ⟨⟨by decide +kernel, by decide +kernel⟩, List.mem_of_getElem? (i := 692) (by decide +kernel), List.mem_of_getElem? (i := 932) (by decide +kernel), List.mem_of_getElem? (i := 933) (by decide +kernel)⟩
theorem lw_p23 : lw_okq (⟨"ScanningHouseModel", "weigh", "()V"⟩, 30) := ⟨⟨by decide +kernel, by decide +kernel⟩, List.mem_of_getElem? (i := 692) (by decide +kernel), List.mem_of_getElem? (i := 944) (by decide +kernel), List.mem_of_getElem? (i := 945) (by decide +kernel)⟩
theorem lw_p24 : lw_okq (⟨"ScanningHouseModel", "weight", "(II)I"⟩, 30) := ⟨⟨by decide +kernel, by decide +kernel⟩, List.mem_of_getElem? (i := 692) (by decide +kernel), List.mem_of_getElem? (i := 948) (by decide +kernel), List.mem_of_getElem? (i := 949) (by decide +kernel)⟩
def lw_privs_2 : List (MethodName × Nat) := [(⟨"ScanningHouseModel", "holder", "(I)I"⟩, 30), (⟨"ScanningHouseModel", "isLostAt", "(I)Z"⟩, 30), (⟨"ScanningHouseModel", "orderOf", "(II)I"⟩, 30), (⟨"ScanningHouseModel", "layOrder", "(I)Z"⟩, 30), (⟨"ScanningHouseModel", "fits", "(II)Z"⟩, 30), (⟨"ScanningHouseModel", "isPlace", "(III)Z"⟩, 30), (⟨"ScanningHouseModel", "trustOf", "(I)I"⟩, 30), (⟨"ScanningHouseModel", "weigh", "()V"⟩, 30), (⟨"ScanningHouseModel", "weight", "(II)I"⟩, 30)]
theorem lw_r2 : ∀ q ∈ lw_privs_2, lw_okq q := List.forall_mem_cons.mpr ⟨lw_p16, List.forall_mem_cons.mpr ⟨lw_p17, List.forall_mem_cons.mpr ⟨lw_p18, List.forall_mem_cons.mpr ⟨lw_p19, List.forall_mem_cons.mpr ⟨lw_p20, List.forall_mem_cons.mpr ⟨lw_p21, List.forall_mem_cons.mpr ⟨lw_p22, List.forall_mem_cons.mpr ⟨lw_p23, List.forall_mem_cons.mpr ⟨lw_p24, fun _ h => absurd h List.not_mem_nil⟩⟩⟩⟩⟩⟩⟩⟩⟩
def lw_privs : List (MethodName × Nat) := lw_privs_1 ++ (lw_privs_2)
def lw_tbl : List Cond := k2_sels lw_privs ++ tables_1
theorem lw_privs_ok : ∀ q ∈ lw_privs, lw_okq q := by
  show ∀ q ∈ lw_privs_1 ++ (lw_privs_2), lw_okq q
  exact List.forall_mem_append.mpr ⟨lw_r1, lw_r2⟩
end
section
/-! arrays of arrays: what the tables say, kept from state to state (follows va_AO of the kit) -/
def va_AOA (ty : FieldType) (U : State) : Prop := (Cond.arrayOver (.array ty)).before #[] U = true
theorem va_AOA.use {ty : FieldType} {A : Array Value} {U : State} (h : va_AOA ty U) : (Cond.arrayOver (.array ty)).before A U = true := h
/-! ===== BEGIN words of one list among another's, by their places ===== -/
theorem goodIn_r {big : List Cond} (ws : List Cond) (ps : List Nat) (hp : ws = ps.filterMap (fun i => big[i]?)) (h : ws.all goodWord = true) : GoodIn big ws := by
  intro w hw
  have h1 := List.all_eq_true.mp h w hw
  rw [hp] at hw
  obtain ⟨i, -, hi⟩ := List.mem_filterMap.mp hw
  have hm : w ∈ big := by first | exact List.mem_of_getElem? hi | exact List.getElem?_mem hi
  exact ⟨hm, good_of_word h1⟩
theorem goodIn_app {big a b : List Cond} (ha : GoodIn big a) (hb : GoodIn big b) : GoodIn big (a ++ b) := fun w h => (List.mem_append.mp h).elim (ha w) (hb w)
theorem goodIn_ca {big a b : List Cond} {c : Cond} (ha : GoodIn big (c :: a)) (hb : GoodIn big b) : GoodIn big (c :: (a ++ b)) := fun w h => (List.mem_cons.mp h).elim (fun e => ha w (List.mem_cons.mpr (Or.inl e))) (fun h => (List.mem_append.mp h).elim (fun h => ha w (List.mem_cons.mpr (Or.inr h))) (hb w))
theorem goodIn_sub {big ws : List Cond} (hm : ∀ w ∈ ws, w ∈ big) (h : ws.all goodWord = true) : GoodIn big ws := fun w hw => ⟨hm w hw, good_of_word (List.all_eq_true.mp h w hw)⟩
/-! ===== END ===== -/

/-! ===== BEGIN new T[n][m]: the outer array a place, the inner ones among the pooled ===== -/
/-- f, but v at every address of l -/
def vr_up {α : Type} (f : Nat → α) (l : List Nat) (v : α) : Nat → α := fun a => if a ∈ l then v else f a
theorem vr_up_in {α : Type} {f : Nat → α} {l : List Nat} {v : α} {a : Nat} (h : a ∈ l) : vr_up f l v a = v := if_pos h
theorem vr_up_ne {α : Type} {f : Nat → α} {l : List Nat} {v : α} {a : Nat} (h : a ∉ l) : vr_up f l v a = f a := if_neg h
theorem vr_rows {L l : List Nat} {f : Nat → va_E} {e : va_E} (h : ∀ a, a ∈ l → a ∉ L) : va_pl L f ++ l.map (fun a => (a, e)) = va_pl (L ++ l) (vr_up f l e) := by
  unfold va_pl
  rw [List.map_append]
  congr 1
  · apply List.map_congr_left
    intro a ha
    rw [vr_up_ne (fun q => h a q ha)]
  · apply List.map_congr_left
    intro a ha
    rw [vr_up_in ha]
theorem vr_lay {X rows : va_W} {x : Nat × va_E} {pl : va_W} {D : va_G} {cl : List vw_C} {H : Heap} (hP : va_P D cl (((X ++ pl) ++ [x]) ++ rows) H) : va_P D cl ((X ++ [x]) ++ (pl ++ rows)) H := by
  rw [List.append_assoc (X ++ pl)] at hP
  have h := va_P.swap hP
  rw [← List.append_assoc X] at h
  have h2 := va_P.swap h
  rw [List.append_assoc (X ++ [x])] at h2
  exact h2
theorem vr_layD {X rows : va_W} {x : Nat × va_E} {pl : va_W} {A : Nat → Prop} (hD : va_D A (((X ++ pl) ++ [x]) ++ rows)) : va_D A ((X ++ [x]) ++ (pl ++ rows)) := by
  rw [List.append_assoc (X ++ pl)] at hD
  have h := va_D.swap hD
  rw [← List.append_assoc X] at h
  have h2 := va_D.swap h
  rw [List.append_assoc (X ++ [x])] at h2
  exact h2
theorem vr_outer (c : ClassId) (N h0 : Nat) : ∀ i : Nat, Jvm.Free.Multi.outerC c N h0 i = arrV c N (fun j => va_rf (if j < i then some (h0 + 1 + j) else none))
  | 0 => by
    show ({ cls := c, slots := Array.replicate N .null, vm := .none } : Cell) = _
    rw [arrV_new]
    refine congrArg (arrV c N) (funext fun j => ?_)
    simp [va_rf]
  | i + 1 => by
    show (Jvm.Free.Multi.outerC c N h0 i).setSlot i (.ref (h0 + 1 + i)) = _
    rw [vr_outer c N h0 i, arrV_store]
    refine congrArg (arrV c N) (funext fun j => ?_)
    by_cases e : j = i
    · subst e
      simp [updV, va_rf]
    · by_cases h : j < i
      · simp [updV, e, h, Nat.lt_succ_of_lt h]
      · simp [updV, e, h, show ¬ j < i + 1 by omega]
section VGM
variable {p : Program} {l : Launch} {e : Env} {R : Room} {s : State} {m : MethodId} {args : Array Value} {below : List Frame} {meth : Method} {c : Code} {H : Heap} {locs : List Loc} {cells slots : Nat} {Q : State → Prop}
variable {cc : ByteArray} {pc : Nat} {ls : Array Slot} {rest : List Value} {D : va_G} {cl : List vw_C} {A : Nat → Prop} {a : Nat} {tys : List (ClassId × FieldType)} {ws : va_W} {H0 : Heap}
theorem va_mna {X : va_W} {L : List Nat} {f : Nat → va_E} {cc : ByteArray} (hexec : p.tables.exec = Jvm.exec) (hb : c.code = cc) {own : String} {index : Nat} {ty : FieldType} {cy : ClassId} (hown : s.vm.findClass own = some m.cls) (hclink : (Cond.classLink own index ("[" ++ (FieldType.array ty).toString)).before args s = true) (hover : va_AOA ty s) (harr : (Cond.arrayClass ty).before args s = true) (hcy : s.vm.findClass (FieldType.array ty).toString = some cy)
    (hK : va_K D cl tys s) (hP : va_P D cl (X ++ va_pl L f) H) (hD : va_D A (X ++ va_pl L f)) (hS : va_S A H0 H locs) (hA : ∀ q, H0.size ≤ q → A q) {n k : Int32} {N' K' : Nat} {z : vp_A} (hn : ¬ n < 0) (hk : ¬ k < 0) (hN : n.toNatClampNeg = N') (hM : k.toNatClampNeg = K')
    (hb1 : N' * 4 ≤ 536870912) (hb2 : K' * componentBytes ty ≤ 536870912) (hb3 : K' ≤ 536870912) (hdf : fits ty (defaultValue ty) = true) (hdd : (defaultValue ty).isDefault = true) (hcells : cells + (1 + N') ≤ R.cells) (hslots : slots + (N' + N' * K') ≤ R.slots) (hz : ∀ c : ClassId, Jvm.Free.Multi.innerC c K' (defaultValue ty) = vp_cell c z) (hdg : decode cc pc = .ok (.multianewarray index 2, 4))
    (kk : ∀ (q : Nat) (r : Nat → Nat) (cA : ClassId) (H1 : Heap), (∀ i j : Nat, i < N' → j < N' → r i = r j → i = j) → (∀ i : Nat, i < N' → r i ∉ L) → va_K D cl (tys ++ [(cA, .array ty)]) s →
      va_P D cl ((X ++ [(q, .inl (cA, N', .inr (.inr (.inr (.inr (fun i => if i < N' then some (r i) else none))))))]) ++ va_pl (L ++ (List.range N').map r) (vr_up f ((List.range N').map r) (.inl (cy, z)))) H1 → va_D A ((X ++ [(q, .inl (cA, N', .inr (.inr (.inr (.inr (fun i => if i < N' then some (r i) else none))))))]) ++ va_pl (L ++ (List.range N').map r) (vr_up f ((List.range N').map r) (.inl (cy, z)))) → va_S A H0 H1 locs →
      W p l e R s m args below meth c H1 locs (cells + 1 + N') (slots + N' + N' * K') Q (F0 m (pc + 4) ls (.ref q :: rest))) : W p l e R s m args below meth c H locs cells slots Q (F0 m pc ls (.int k :: .int n :: rest)) := by
  subst hN
  subst hM
  intro T hT Xs
  obtain ⟨vm₁, cA, comp, -, fA, fC, hO, -, X', step⟩ := Xs.multianewarray2F hexec hown hclink (va_AOA.use hover) harr (g := F0 m pc ls (.int k :: .int n :: rest)) rfl (by rw [hb]; exact hdg) rfl hn hk hb1 hb2 hb3 hdf hdd hcells hslots
  have ec : some cy = some comp := hcy.symm.trans fC
  cases ec
  generalize hF : Jvm.Free.Multi.fill (T.setVm vm₁) cA cy n.toNatClampNeg k.toNatClampNeg (defaultValue ty) n.toNatClampNeg = F at X' step
  have hTh : (T.setVm vm₁).heap = H := hT
  obtain ⟨f1, f2, -, -⟩ := Jvm.Free.Multi.fill_facts (T.setVm vm₁) cA cy n.toNatClampNeg k.toNatClampNeg (defaultValue ty) n.toNatClampNeg
  rw [hF, hTh] at f1 f2
  have hold : ∀ x : Nat, x < H.size → F.heap[x]? = H[x]? := fun x hx => by
    have := Jvm.Free.Multi.fill_old (T.setVm vm₁) cA cy n.toNatClampNeg k.toNatClampNeg (defaultValue ty) (a := x) (by rw [hTh]; exact hx) n.toNatClampNeg
    rw [hF, hTh] at this
    exact this
  have hrow : ∀ j : Nat, j < n.toNatClampNeg → F.heap[H.size + 1 + j]? = some (vp_cell cy z) := fun j hj => by
    have := Jvm.Free.Multi.fill_inner (T.setVm vm₁) cA cy n.toNatClampNeg k.toNatClampNeg (defaultValue ty) n.toNatClampNeg j hj
    rw [hF, hTh, hz] at this
    exact this
  have hout : Jvm.Free.Multi.outerC cA n.toNatClampNeg H.size n.toNatClampNeg = vp_cell cA (n.toNatClampNeg, .inr (.inr (.inr (.inr (fun i => if i < n.toNatClampNeg then some (H.size + 1 + i) else none))))) := by
    rw [vp_cell_q]
    exact vr_outer cA n.toNatClampNeg H.size n.toNatClampNeg
  rw [hout] at f2
  have hlt : ∀ a, a ∈ L → a < H.size := fun a ha => by
    obtain ⟨k9, hk9⟩ := va_pl_get (X := X) (f := f) ha
    exact (hP k9 _ hk9).lt
  have hnl : ∀ i : Nat, i < n.toNatClampNeg → H.size + 1 + i ∉ L := fun i _ h => by
    have := hlt _ h
    omega
  have hnm : ∀ a, a ∈ (List.range n.toNatClampNeg).map (fun i => H.size + 1 + i) → a ∉ L := fun a ha h => by
    obtain ⟨i, -, rfl⟩ := List.mem_map.mp ha
    have := hlt _ h
    omega
  have hP0 : va_P D cl (X ++ va_pl L f) F.heap := hP.kept (fun k9 x hx => hold x.1 ((hP k9 x hx).lt))
  have hP1 : va_P D cl ((X ++ va_pl L f) ++ [(H.size, .inl (cA, n.toNatClampNeg, .inr (.inr (.inr (.inr (fun i => if i < n.toNatClampNeg then some (H.size + 1 + i) else none))))))]) F.heap := hP0.app (fun k9 x hx => by
    have h0 : k9 < 1 := (List.getElem?_eq_some_iff.mp hx).1
    rw [show k9 = 0 by omega] at hx
    cases hx
    exact f2)
  have hP2 : va_P D cl (((X ++ va_pl L f) ++ [(H.size, .inl (cA, n.toNatClampNeg, .inr (.inr (.inr (.inr (fun i => if i < n.toNatClampNeg then some (H.size + 1 + i) else none))))))]) ++ ((List.range n.toNatClampNeg).map (fun i => H.size + 1 + i)).map (fun a => (a, .inl (cy, z)))) F.heap := hP1.app (fun k9 x hx => by
    obtain ⟨a, ha, rfl⟩ := List.mem_map.mp (List.mem_of_getElem? hx)
    obtain ⟨i, hi, rfl⟩ := List.mem_map.mp ha
    exact hrow i (List.mem_range.mp hi))
  have hD2 : va_D A (((X ++ va_pl L f) ++ [(H.size, .inl (cA, n.toNatClampNeg, .inr (.inr (.inr (.inr (fun i => if i < n.toNatClampNeg then some (H.size + 1 + i) else none))))))]) ++ ((List.range n.toNatClampNeg).map (fun i => H.size + 1 + i)).map (fun a => (a, .inl (cy, z)))) := by
    have hD1 := hD.push (e := .inl (cA, n.toNatClampNeg, .inr (.inr (.inr (.inr (fun i => if i < n.toNatClampNeg then some (H.size + 1 + i) else none)))))) hP rfl (hA _ hS.1)
    generalize hW1 : (X ++ va_pl L f) ++ [(H.size, .inl (cA, n.toNatClampNeg, .inr (.inr (.inr (.inr (fun i => if i < n.toNatClampNeg then some (H.size + 1 + i) else none))))))] = W1 at hD1 hP1 ⊢
    have hle : ∀ (k9 : Nat) (x : Nat × va_E), W1[k9]? = some x → x.1 ≤ H.size := fun k9 x hx => by
      rw [← hW1] at hx
      by_cases hl : k9 < (X ++ va_pl L f).length
      · rw [List.getElem?_append_left hl] at hx
        exact Nat.le_of_lt ((hP k9 x hx).lt)
      · rw [List.getElem?_append_right (by omega)] at hx
        have h0 : k9 - (X ++ va_pl L f).length < 1 := (List.getElem?_eq_some_iff.mp hx).1
        rw [show k9 - (X ++ va_pl L f).length = 0 by omega] at hx
        cases hx
        exact Nat.le_refl _
    have hr : ∀ (k9 : Nat) (x : Nat × va_E), (((List.range n.toNatClampNeg).map (fun i => H.size + 1 + i)).map (fun a => ((a, .inl (cy, z)) : Nat × va_E)))[k9]? = some x → x.1 = H.size + 1 + k9 := fun k9 x hx => by
      rw [List.getElem?_map, List.getElem?_map] at hx
      by_cases h9 : k9 < n.toNatClampNeg
      · rw [List.getElem?_range h9] at hx
        cases hx
        rfl
      · have hn0 : (List.range n.toNatClampNeg)[k9]? = none := List.getElem?_eq_none (by rw [List.length_range]; omega)
        rw [hn0] at hx
        cases hx
    refine ⟨fun i j x y hi hj hxy => ?_, fun k9 x hx => ?_⟩
    · by_cases h1 : i < W1.length <;> by_cases h2 : j < W1.length
      · rw [List.getElem?_append_left h1] at hi
        rw [List.getElem?_append_left h2] at hj
        exact hD1.1 i j x y hi hj hxy
      · rw [List.getElem?_append_left h1] at hi
        rw [List.getElem?_append_right (by omega)] at hj
        have := hle _ _ hi
        have := hr _ _ hj
        omega
      · rw [List.getElem?_append_right (by omega)] at hi
        rw [List.getElem?_append_left h2] at hj
        have := hle _ _ hj
        have := hr _ _ hi
        omega
      · rw [List.getElem?_append_right (by omega)] at hi hj
        have := hr _ _ hi
        have := hr _ _ hj
        omega
    · by_cases h1 : k9 < W1.length
      · rw [List.getElem?_append_left h1] at hx
        exact hD1.2 k9 x hx
      · rw [List.getElem?_append_right (by omega)] at hx
        have := hr _ _ hx
        exact hA _ (by have := hS.1; omega)
  have hAr : ArrOfT s cA (.array ty) := fun N9 z9 => by
    obtain ⟨-, k9, hk9, cm9, hkk9⟩ := (hO 0 0 0).1
    exact ⟨(fun q hq => by cases hq), k9, hk9, cm9, hkk9⟩
  have hK2 : va_K D cl (tys ++ [(cA, .array ty)]) s := ⟨hK.1, fun k9 x hx => by
    by_cases hl : k9 < tys.length
    · rw [List.getElem?_append_left hl] at hx
      exact hK.2 k9 x hx
    · rw [List.getElem?_append_right (by omega)] at hx
      have h0 : k9 - tys.length < 1 := (List.getElem?_eq_some_iff.mp hx).1
      rw [show k9 - tys.length = 0 by omega] at hx
      cases hx
      exact ⟨hAr, fA⟩⟩
  obtain ⟨t, a1, b1⟩ := kk H.size (fun i => H.size + 1 + i) cA F.heap (fun i j _ _ h => by have h9 : H.size + 1 + i = H.size + 1 + j := h; omega) hnl hK2 (by rw [← vr_rows hnm]; exact vr_lay hP2) (by rw [← vr_rows hnm]; exact vr_layD hD2) ⟨by rw [f1]; have := hS.1; omega, fun x h1 h2 => (hold x (Nat.lt_of_lt_of_le h1 hS.1)).trans (hS.2.1 x h1 h2), hS.2.2⟩ F rfl X'
  refine ⟨t, step t ?_, b1⟩
  have e : T.heap.size = H.size := by rw [hT]
  rw [e]
  exact a1
end VGM
/-! ===== END ===== -/

/-! ===== BEGIN exceptions that leave a method, and their catching by the caller (launches without stack traces) ===== -/
section VXA
/-! The laws vx_back, vx_callV, vx_callS, vx_callSW, vx_throw0, vx_throwS follow proofs of the library, with one case more: JvmDerived/Free/Laws.lean (Back.of_free), Shelf42/LK1.lean (callV, callS), Shelf/KitTraced.lean (throwNew0V, throwNewS). -/
/-- where a method has thrown q: the class by its name, the cell, what was written, the world -/
def vx_T (XC : String → State → State → Prop) (st : State) (q : Addr) (t : State) (mc ms : Nat) (free : Addr → Prop) : Prop :=
  ∃ (E : String) (ce : Cell) (L : List Loc), XC E st t ∧ t.heap[q]? = some ce ∧ ce.vm = .none ∧ st.vm.findClass E = some ce.cls ∧ st.WarmedH t.vm ∧ st.sameButNew ({ t with vm := st.vm } : State) L mc ms ∧ ∀ z ∈ L, free z.base
def vx_Q (Qc : Array Value → State → Outcome → State → Prop) (XC : String → State → State → Prop) (mc ms : Nat) (free : Addr → Prop) : Array Value → State → Outcome → State → Prop := fun a st o t =>
  (Qc a st o t ∧ ∃ L, FrameEnd st o t L mc ms ∧ ∀ q ∈ L, free q.base) ∨ ∃ q, o = .threw q ∧ vx_T XC st q t mc ms free
/-- a callee that returns or throws -/
def vx_Met (l : Launch) (y : MethodName) (ws : List Cond) (rm : Room) (Pc : Array Value → State → Prop) (Qc : Array Value → State → Outcome → State → Prop) (XC : String → State → State → Prop) (mc ms : Nat) (free : Addr → Prop) : Prop :=
  MetFree l y (headSpec ws rm) Pc (fun _ _ _ _ _ => True) (vx_Q Qc XC mc ms free)
def vx_Post (XC : String → State → State → Prop) (mc ms : Nat) (free : Addr → Prop) : Pt → Array Value → Addr → Pt → Prop := fun A a q B =>
  ∃ (g : JFrame) (mk : MethodId) (t : State) (L : List Loc) (E : String) (ce : Cell), B.U.heap = t.heap ∧ B.U.vm = t.vm ∧ XC E (A.U.calling g mk a) t ∧ t.heap[q]? = some ce ∧ ce.vm = .none ∧ A.U.vm.findClass E = some ce.cls ∧ B.locs = A.locs ++ L ∧ (∀ z ∈ L, free z.base) ∧ B.cells = A.cells + mc ∧ B.slots = A.slots + ms
def vx_Back (l : Launch) (R : Room) (p : Program) (e : Env) (below : List Frame) (s : State) (sargs : Array Value) (y : MethodName) (len W9 : Nat)
    (Pre : Pt → Array Value → Prop) (Post : Pt → Array Value → Option Value → Pt → Prop) (PostX : Pt → Array Value → Addr → Pt → Prop) : Prop :=
  ∀ (m : MethodId) (meth : Method) (c : Code) (A : Pt) (g : JFrame) (ig : Instr) (mk : MethodId) (a : Array Value),
    Stand p l e R s m sargs below meth c A.U A.locs A.cells A.slots → g.method = m → g.locals.size = c.maxLocals → decode c.code g.pc = .ok (ig, len) →
    2 * g.monitorRoom + (g.stack.map fun v => v.category).sum ≤ W9 → A.U.methodNamed? y = some mk → Pre A a →
    (∃ (v : Option Value) (B : Pt), Stand p l e R s m sargs below meth c B.U B.locs B.cells B.slots ∧ Post A a v B ∧
      Steps p.tables e below (doInvoke e (A.U.setTop g) [] mk a).1 (B.U.setTop { g with pc := g.pc + len, stack := v.toList ++ g.stack })) ∨
    (∃ (q : Addr) (B : Pt), Stand p l e R s m sargs below meth c B.U B.locs B.cells B.slots ∧ PostX A a q B ∧
      Steps p.tables e below (doInvoke e (A.U.setTop g) [] mk a).1 ((B.U.setTop g).pushFrame (.throwing q)))
section Payer
variable {l : Launch} {R : Room} {p : Program} {e : Env} {below : List Frame} {s : State} {sargs : Array Value} {y : MethodName} {len W9 : Nat}
theorem vx_back {ws : List Cond} {rm : Room} {Pc : Array Value → State → Prop} {Qc : Array Value → State → Outcome → State → Prop} {XC : String → State → State → Prop} {mc ms : Nat} {free : Addr → Prop} {bytes : ByteArray} {maxL : Nat} {ret : Option FieldType}
    (hM : vx_Met l y ws rm Pc Qc XC mc ms free) (hblind : FrameBlind Pc) (hrc : rm.cells = mc) (hrs : rm.slots = ms)
    (hframes : rm.frames + 1 ≤ R.frames) (hlocals : W9 + (maxL + 11) + rm.locals ≤ R.locals)
    (hws : ∀ w ∈ ws, ∀ a' U, s.WarmedH U.vm → w.before a' U = true) (hcode : Cond.code y bytes maxL ret ∈ ws) (hinit : ∀ a' U, s.WarmedH U.vm → (Cond.initialized y.cls).before a' U = true) :
    vx_Back l R p e below s sargs y len W9 (PreOf R mc ms Pc) (PostOf Qc mc ms free) (vx_Post XC mc ms free) := by
  intro m meth c A g ig mk a X hg hsize hdg hW hn hp
  have h1 : (headSpec ws rm).pre.before a A.U = true := atoms_intro fun w hw => hws w hw _ _ X.warmed
  have h2 : (Cond.code y bytes maxL ret).before a A.U = true := hws _ hcode _ _ X.warmed
  have h3 : (Cond.initialized y.cls).before a A.U = true := hinit _ _ X.warmed
  have h4 : A.cells + (headSpec ws rm).room.cells ≤ R.cells := by rw [show (headSpec ws rm).room.cells = mc from hrc]; exact hp.1
  have h5 : A.slots + (headSpec ws rm).room.slots ≤ R.slots := by rw [show (headSpec ws rm).room.slots = ms from hrs]; exact hp.2.1
  have hPc : Pc a (A.U.calling g mk a) := hblind _ _ _ _ hp.2.2
  obtain ⟨U, Ls, c0, s0⟩ := A
  dsimp only [Pt.U, Pt.locs, Pt.cells, Pt.slots] at h1 h2 h3 h4 h5 X hn hPc ⊢
  obtain ⟨methY, cY, hmY, hcY, -, hlY, -, -, -, -⟩ := Cond.code_spec hn h2
  obtain ⟨kY, hkY, -⟩ := className_of_methodNamed hn
  have hinitY : kY.init = .initialized := Cond.initialized_spec (findClass_of_methodNamed hn) hkY h3
  have h : At U g.method c below := by rw [hg]; exact X.here
  have hlocals9 : W9 + (maxL + 11) + (headSpec ws rm).room.locals ≤ R.locals := hlocals
  have happ : (headSpec ws rm).appliesLoose y e.platform (U.calling g mk a) = true :=
    Spec.appliesLoose_calling (g := g) h hdg hn hkY hinitY
      (X.room_calling (g := g) (R' := (headSpec ws rm).room) hsize hmY hcY hframes (by rw [hlY]; omega) h4 h5) h1
  obtain ⟨mid, hmid⟩ := h.above
  have hfr : (U.setTop g).frames = (.java g :: mid) ++ below := by rw [State.frames_setTop' g h.top, hmid]; rfl
  obtain ⟨o, s₂, hsteps, -, hend, hq⟩ := Steps.callFree hM p X.admits X.cas X.clock (acts := []) hfr happ hPc trivial
  have hq' : vx_Q Qc XC mc ms free a (U.calling g mk a) o s₂ := hq
  rw [State.frames_setTop' g h.top] at hend
  obtain ⟨g₀, hg0⟩ := Option.isSome_iff_exists.mp h.top
  obtain ⟨r, hr⟩ := State.topJava?_eq_some.mp hg0
  have hr' : (({ U with heap := s₂.heap, slotsUsed := s₂.slotsUsed } : State).setVm s₂.vm).frames = .java g₀ :: r := hr
  rcases hq' with ⟨hqc, L, hfe, hL⟩ | ⟨q, rfl, E, ce, L, hx, hce, hcv, hcl, hW₂, hsm, hL⟩
  · obtain ⟨⟨v, rfl⟩, hW₂, e2, q2, q3, q4, q5, q6⟩ := id hfe
    have e3 : s₂ = ({ (U.calling g mk a).setFrames s₂.frames with heap := s₂.heap, slotsUsed := s₂.slotsUsed } : State).setVm s₂.vm := by
      have : s₂ = ({ s₂ with vm := (U.calling g mk a).vm } : State).setVm s₂.vm := rfl
      rw [e2] at this
      exact this
    obtain ⟨c₂, i₂, len₂, hc₂, hd₂, hf₂⟩ := hend
    have hW' : U.WarmedH s₂.vm := hW₂
    have hcc : c₂ = c := by
      have h1 : s₂.code? g.method = U.code? g.method := by
        rw [State.code?_eq, State.code?_eq, hW'.alike.method?]
      exact Option.some.inj (hc₂.symm.trans (h1.trans h.code))
    subst hcc
    have hlen : len₂ = len := by rw [hdg] at hd₂; cases hd₂; rfl
    subst hlen
    have hs₂ : s₂ = (({ U with heap := s₂.heap, slotsUsed := s₂.slotsUsed } : State).setVm s₂.vm).setTop { g with pc := g.pc + len₂, stack := v.toList ++ g.stack } := by
      refine e3.trans ?_
      rw [hf₂, State.calling_eq h.top, State.setFrames_setFrames, State.setTop_of_frames _ hr', hr]
      rfl
    have hsame : U.sameButNew ({ U with heap := s₂.heap, slotsUsed := s₂.slotsUsed } : State) L mc ms := by
      refine ⟨?_, q2, q3, q4, q5, q6⟩
      obtain ⟨t, ht, -⟩ := State.frames_cons hr
      show ({ U with heap := s₂.heap, slotsUsed := s₂.slotsUsed } : State) = { U.setFrames U.frames with heap := s₂.heap, slotsUsed := s₂.slotsUsed }
      rw [State.setFrames_self ht]
    subst hg
    refine Or.inl ⟨v, ⟨(({ U with heap := s₂.heap, slotsUsed := s₂.slotsUsed } : State).setVm s₂.vm), Ls ++ L, c0 + mc, s0 + ms⟩,
      ⟨X.admits, X.cas, X.clock, X.frames, X.room, X.hears, X.method, X.code, (X.here.setHeapUsed s₂.heap s₂.slotsUsed).setVm hW'.alike, X.tail, State.WarmedH.trans X.warmed hW', X.limits, X.bytes, X.same.trans (hsame.setVm s.vm)⟩,
      ⟨g, mk, s₂, L, rfl, rfl, hqc, rfl, hL, rfl, rfl⟩, ?_⟩
    show Steps p.tables e below _ ((({ U with heap := s₂.heap, slotsUsed := s₂.slotsUsed } : State).setVm s₂.vm).setTop { g with pc := g.pc + len₂, stack := v.toList ++ g.stack })
    rw [← hs₂]
    exact hsteps
  · obtain ⟨e2, q2, q3, q4, q5, q6⟩ := id hsm
    have e3 : s₂ = ({ (U.calling g mk a).setFrames s₂.frames with heap := s₂.heap, slotsUsed := s₂.slotsUsed } : State).setVm s₂.vm := by
      have : s₂ = ({ s₂ with vm := (U.calling g mk a).vm } : State).setVm s₂.vm := rfl
      rw [e2] at this
      exact this
    have hf₂ : s₂.frames = .throwing q :: .java g :: U.frames.tail := hend
    have hW' : U.WarmedH s₂.vm := hW₂
    have hs₂ : s₂ = ((({ U with heap := s₂.heap, slotsUsed := s₂.slotsUsed } : State).setVm s₂.vm).setTop g).pushFrame (.throwing q) := by
      refine e3.trans ?_
      rw [hf₂, State.calling_eq h.top, State.setFrames_setFrames, State.pushFrame, State.frames_setTop _ hr', State.setTop_of_frames _ hr', State.setFrames_setFrames, hr]
      rfl
    have hsame : U.sameButNew ({ U with heap := s₂.heap, slotsUsed := s₂.slotsUsed } : State) L mc ms := by
      refine ⟨?_, q2, q3, q4, q5, q6⟩
      obtain ⟨t, ht, -⟩ := State.frames_cons hr
      show ({ U with heap := s₂.heap, slotsUsed := s₂.slotsUsed } : State) = { U.setFrames U.frames with heap := s₂.heap, slotsUsed := s₂.slotsUsed }
      rw [State.setFrames_self ht]
    subst hg
    refine Or.inr ⟨q, ⟨(({ U with heap := s₂.heap, slotsUsed := s₂.slotsUsed } : State).setVm s₂.vm), Ls ++ L, c0 + mc, s0 + ms⟩,
      ⟨X.admits, X.cas, X.clock, X.frames, X.room, X.hears, X.method, X.code, (X.here.setHeapUsed s₂.heap s₂.slotsUsed).setVm hW'.alike, X.tail, State.WarmedH.trans X.warmed hW', X.limits, X.bytes, X.same.trans (hsame.setVm s.vm)⟩,
      ⟨g, mk, s₂, L, E, ce, rfl, rfl, hx, hce, hcv, hcl, rfl, hL, rfl, rfl⟩, ?_⟩
    show Steps p.tables e below _ (((({ U with heap := s₂.heap, slotsUsed := s₂.slotsUsed } : State).setVm s₂.vm).setTop g).pushFrame (.throwing q))
    rw [← hs₂]
    exact hsteps
end Payer
section Calls
variable {p : Program} {l : Launch} {e : Env} {R : Room} {s : State} {m : MethodId} {args : Array Value} {below : List Frame} {meth : Method} {c : Code} {T : State} {locs : List Loc} {cells slots : Nat}
theorem vx_callV (X : Stand p l e R s m args below meth c T locs cells slots) (hexec : p.tables.exec = Jvm.exec) {own C : String} {index : Nat} {y : MethodName} {bytes : ByteArray} {maxL : Nat} {ret : Option FieldType}
    (hown : s.vm.findClass own = some m.cls) (hlink : (Cond.methodLink own index y).before args s = true) (hinst : (Cond.instanceMethod y).before args s = true) (hsel : (Cond.selects C y y).before args s = true)
    (hcode : (Cond.code y bytes maxL ret).before args s = true) (hy : y.cls ≠ "java/lang/invoke/MethodHandle" ∧ y.cls ≠ "java/lang/invoke/VarHandle")
    {W9 : Nat} {Pre : Pt → Array Value → Prop} {Post : Pt → Array Value → Option Value → Pt → Prop} {PostX : Pt → Array Value → Addr → Pt → Prop} (hK : vx_Back l R p e below s args y 3 W9 Pre Post PostX)
    {b : Addr} {cellB : Cell} (hcell : T.heap[b]? = some cellB) (hobj : cellB.vm.isStatics = false) (hcls : s.vm.findClass C = some cellB.cls)
    {g : JFrame} (hg : g.method = m) (hsize : g.locals.size = c.maxLocals) {argsL rest : List Value} (hlen : ∀ sig, parseMethodDescriptor y.desc = some sig → argsL.length = sig.parameters.length)
    (hstack : g.stack = argsL.reverse ++ .ref b :: rest) (hW : 2 * g.monitorRoom + (rest.map fun v => v.category).sum ≤ W9) (hdg : decode c.code g.pc = .ok (.invokevirtual index, 3))
    (hpre : ∀ vm₁, s.WarmedH vm₁ → Pre ⟨T.setVm vm₁, locs, cells, slots⟩ (Value.ref b :: argsL).toArray) :
    (∃ (v : Option Value) (vm₁ : Vm) (B : Pt), s.WarmedH vm₁ ∧ Stand p l e R s m args below meth c B.U B.locs B.cells B.slots ∧ Post ⟨T.setVm vm₁, locs, cells, slots⟩ (Value.ref b :: argsL).toArray v B ∧
      ∀ target, Steps p.tables e below (B.U.setTop { g with pc := g.pc + 3, stack := v.toList ++ rest }) target → Steps p.tables e below (T.setTop g) target) ∨
    (∃ (q : Addr) (vm₁ : Vm) (B : Pt), s.WarmedH vm₁ ∧ Stand p l e R s m args below meth c B.U B.locs B.cells B.slots ∧ PostX ⟨T.setVm vm₁, locs, cells, slots⟩ (Value.ref b :: argsL).toArray q B ∧
      Steps p.tables e below (T.setTop g) ((B.U.setTop { g with stack := rest }).pushFrame (.throwing q))) := by
  obtain ⟨mk, methM, hnamed, hmethM, hstM, habM⟩ := Cond.instanceMethod_spec hinst
  obtain ⟨methM', cM, hmethM', -, -, -, -, -, -, hsigM⟩ := Cond.code_spec hnamed hcode
  cases hmethM.symm.trans hmethM'
  obtain ⟨c2, r2, m2, q1, q2, q3, q4, kP, hkP, hkPi⟩ := Cond.selects_spec hsel
  cases hcls.symm.trans q1
  cases (State.methodFound?_of_named hnamed hy).symm.trans q2
  cases hnamed.symm.trans q3
  have hselP : selectMethod e.platform s.vm cellB.cls mk = .method mk := by rw [Launch.admits_selectMethod X.admits]; exact q4
  obtain ⟨vm₁, X₁, hstep₁⟩ := X.invokevirtual hexec hown hlink hnamed hmethM hstM hkP hkPi hy (a := b) (cell := cellB) hcell
    (fun z h => by rw [h] at hobj; cases hobj) hselP hmethM habM hkP hkPi (g := g) hg (argsL := argsL) (rest := rest) (hlen _ hsigM) hstack hdg
  rcases hK m meth c ⟨T.setVm vm₁, locs, cells, slots⟩ { g with stack := rest } (.invokevirtual index) mk (Value.ref b :: argsL).toArray X₁ hg hsize hdg hW (X₁.named hnamed) (hpre vm₁ X₁.warmed) with ⟨v, B, X', hpost, hsteps⟩ | ⟨q, B, X', hpost, hsteps⟩
  · exact Or.inl ⟨v, vm₁, B, X₁.warmed, X', hpost, fun target h => hstep₁ _ fun acts => by rw [doInvoke_state]; exact hsteps.trans h⟩
  · exact Or.inr ⟨q, vm₁, B, X₁.warmed, X', hpost, hstep₁ _ fun acts => by rw [doInvoke_state]; exact hsteps⟩
theorem vx_callS (X : Stand p l e R s m args below meth c T locs cells slots) (hexec : p.tables.exec = Jvm.exec) {own : String} {index : Nat} {y : MethodName} {bytes : ByteArray} {maxL : Nat} {ret : Option FieldType}
    (hown : s.vm.findClass own = some m.cls) (hlink : (Cond.methodLink own index y).before args s = true) (hstat : (Cond.static y).before args s = true) (hinit : (Cond.initialized y.cls).before args s = true)
    (hcode : (Cond.code y bytes maxL ret).before args s = true) (hy : y.cls ≠ "java/lang/invoke/MethodHandle" ∧ y.cls ≠ "java/lang/invoke/VarHandle")
    {W9 : Nat} {Pre : Pt → Array Value → Prop} {Post : Pt → Array Value → Option Value → Pt → Prop} {PostX : Pt → Array Value → Addr → Pt → Prop} (hK : vx_Back l R p e below s args y 3 W9 Pre Post PostX)
    {g : JFrame} (hg : g.method = m) (hsize : g.locals.size = c.maxLocals) {argsL rest : List Value} (hlen : ∀ sig, parseMethodDescriptor y.desc = some sig → argsL.length = sig.parameters.length)
    (hstack : g.stack = argsL.reverse ++ rest) (hW : 2 * g.monitorRoom + (rest.map fun v => v.category).sum ≤ W9) (hdg : decode c.code g.pc = .ok (.invokestatic index, 3))
    (hpre : ∀ vm₁, s.WarmedH vm₁ → Pre ⟨T.setVm vm₁, locs, cells, slots⟩ argsL.toArray) :
    (∃ (v : Option Value) (vm₁ : Vm) (B : Pt), s.WarmedH vm₁ ∧ Stand p l e R s m args below meth c B.U B.locs B.cells B.slots ∧ Post ⟨T.setVm vm₁, locs, cells, slots⟩ argsL.toArray v B ∧
      ∀ target, Steps p.tables e below (B.U.setTop { g with pc := g.pc + 3, stack := v.toList ++ rest }) target → Steps p.tables e below (T.setTop g) target) ∨
    (∃ (q : Addr) (vm₁ : Vm) (B : Pt), s.WarmedH vm₁ ∧ Stand p l e R s m args below meth c B.U B.locs B.cells B.slots ∧ PostX ⟨T.setVm vm₁, locs, cells, slots⟩ argsL.toArray q B ∧
      Steps p.tables e below (T.setTop g) ((B.U.setTop { g with stack := rest }).pushFrame (.throwing q))) := by
  obtain ⟨mk, hnamed⟩ := Cond.code_named hcode
  obtain ⟨methM, cM, hmethM, -, -, -, -, -, -, hsigM⟩ := Cond.code_spec hnamed hcode
  have hstatic : methM.isStatic = true := Cond.static_spec hnamed hmethM hstat
  obtain ⟨kP, hkP, -⟩ := className_of_methodNamed hnamed
  have hinitP : kP.init = .initialized := Cond.initialized_spec (findClass_of_methodNamed hnamed) hkP hinit
  obtain ⟨vm₁, X₁, hstep₁⟩ := X.invokestatic hexec hown hlink hnamed hmethM hstatic hkP hinitP hy (g := g) hg (argsL := argsL) (rest := rest) (hlen _ hsigM) hstack hdg
  rcases hK m meth c ⟨T.setVm vm₁, locs, cells, slots⟩ { g with stack := rest } (.invokestatic index) mk argsL.toArray X₁ hg hsize hdg hW (X₁.named hnamed) (hpre vm₁ X₁.warmed) with ⟨v, B, X', hpost, hsteps⟩ | ⟨q, B, X', hpost, hsteps⟩
  · exact Or.inl ⟨v, vm₁, B, X₁.warmed, X', hpost, fun target h => hstep₁ _ fun acts => by rw [doInvoke_state]; exact hsteps.trans h⟩
  · exact Or.inr ⟨q, vm₁, B, X₁.warmed, X', hpost, hstep₁ _ fun acts => by rw [doInvoke_state]; exact hsteps⟩
end Calls
theorem vx_cls {s : State} {T : State} {vm₁ : Vm} {E : String} {k : ClassId} (hW : s.WarmedH vm₁) (h : (T.setVm vm₁).vm.findClass E = some k) : s.vm.findClass E = some k := by
  have h1 : vm₁.findClass E = some k := h
  rw [hW.alike.findClass] at h1
  exact h1
/-- the method's frame g, with q thrown over it -/
def vx_W (p : Program) (l : Launch) (e : Env) (R : Room) (s : State) (m : MethodId) (args : Array Value) (below : List Frame) (meth : Method) (c : Code) (H : Heap) (locs : List Loc) (cells slots : Nat) (Q : State → Prop) (g : JFrame) (q : Addr) : Prop :=
  ∀ T : State, T.heap = H → Stand p l e R s m args below meth c T locs cells slots → ∃ t, Steps p.tables e below ((T.setTop g).pushFrame (.throwing q)) t ∧ Q t
def vx_Run (p : Program) (l : Launch) (e : Env) (R : Room) (s : State) (m : MethodId) (args : Array Value) (below : List Frame) (meth : Method) (c : Code) (H : Heap) (locs : List Loc) (cells slots mc ms : Nat) (g : JFrame) (rest : List Value) (Qa : State → Outcome → State → Prop) (XC : String → State → State → Prop) (free : Addr → Prop) : Prop :=
  ∀ T : State, T.heap = H → Stand p l e R s m args below meth c T locs cells slots →
    (∃ (v : Option Value) (st₀ t T' : State) (L : List Loc), st₀.heap = H ∧ Stand p l e R s m args below meth c T' (locs ++ L) (cells + mc) (slots + ms) ∧ (∀ q ∈ L, free q.base) ∧ T'.heap = t.heap ∧ T'.vm = t.vm ∧ Qa st₀ (.returned v) t ∧
      Goes p e below T g T' { g with pc := g.pc + 3, stack := v.toList ++ rest }) ∨
    (∃ (q : Addr) (st₀ t T' : State) (L : List Loc) (E : String) (ce : Cell), st₀.heap = H ∧ Stand p l e R s m args below meth c T' (locs ++ L) (cells + mc) (slots + ms) ∧ (∀ z ∈ L, free z.base) ∧ T'.heap = t.heap ∧ T'.vm = t.vm ∧ XC E st₀ t ∧ t.heap[q]? = some ce ∧ ce.vm = .none ∧ s.vm.findClass E = some ce.cls ∧
      Steps p.tables e below (T.setTop g) ((T'.setTop { g with stack := rest }).pushFrame (.throwing q)))
def vx_X {S : Type} (px : S → Prop) (B : String → S → State → Prop) (A : Nat → Prop) : String → State → State → Prop := fun E st t => ∃ u : S, px u ∧ B E u t ∧ va_F A st t
section Runs
variable {p : Program} {l : Launch} {e : Env} {R : Room} {s : State} {m : MethodId} {args : Array Value} {below : List Frame} {meth : Method} {c : Code} {H : Heap} {locs : List Loc} {cells slots : Nat}
variable {y : MethodName} {bytes cc : ByteArray} {maxL nL mc ms n index : Nat} {ret : Option FieldType} {ws : List Cond} {rm : Room} {Pc : Array Value → State → Prop} {Qc : Array Value → State → Outcome → State → Prop} {XC : String → State → State → Prop} {free : Addr → Prop} {Ts : List Cond} {own C : String} {b : Addr} {As rest : List Value} {g : JFrame}
theorem vx_callBack (cb : CallB R s args own index y bytes maxL ret ws rm mc ms n) (hM : vx_Met l y ws rm Pc Qc XC mc ms free) (hbl : FrameBlind Pc) : vx_Back l R p e below s args y 3 8 (PreOf R mc ms Pc) (PostOf Qc mc ms free) (vx_Post XC mc ms free) := by
  obtain ⟨hrc, hrs, hfr, hlo, hws, hcw, -, hini, -⟩ := cb
  exact vx_back (bytes := bytes) (maxL := maxL) (ret := ret) hM hbl hrc hrs hfr hlo hws hcw (fun a' U hW => word_at hW (Or.inl (by first | rfl | simp [Cond.onTables, Cond.keeps, Cond.steady])) hini)
theorem vx_runV (S : CallFix p m c cc nL s args Ts own) (hM : vx_Met l y ws rm Pc Qc XC mc ms free) (cw : CallW R s args own C index y bytes maxL ret ws rm mc ms n) (hp : PreV s H C b Pc As)
    (hg : g.method = m) (hn : As.length = n) (hsize : g.locals.size = nL) (hstack : g.stack = As.reverse ++ .ref b :: rest) (hW : 2 * g.monitorRoom + (rest.map fun v => v.category).sum ≤ 8) (hdg : decode cc g.pc = .ok (.invokevirtual index, 3)) (hf : cells + mc ≤ R.cells ∧ slots + ms ≤ R.slots) :
    vx_Run p l e R s m args below meth c H locs cells slots mc ms g rest (Qc (Value.ref b :: As).toArray) XC free := by
  have hK : vx_Back l R p e below s args y 3 8 (PreOf R mc ms Pc) (PostOf Qc mc ms free) (vx_Post XC mc ms free) := vx_callBack cw.1 hM hp.1
  obtain ⟨⟨-, -, -, -, -, -, hcode, -, hy, hlen, hl⟩, hin, hse⟩ := cw
  obtain ⟨hx, hb, hml, ho, -⟩ := S
  obtain ⟨-, ⟨cellB, hcB, hoB, hclB⟩, hPc⟩ := hp
  intro T hT X
  rcases vx_callV X hx (C := C) (bytes := bytes) (maxL := maxL) (ret := ret) ho hl hin hse hcode hy hK (by rw [hT]; exact hcB) hoB hclB hg (hsize.trans hml.symm) (argsL := As) (rest := rest) (fun sig h => hn.trans (hlen sig h)) hstack hW (by rw [hb]; exact hdg)
    (fun vm₁ hW₁ => ⟨hf.1, hf.2, hPc (T.setVm vm₁) hT hW₁⟩) with ⟨v, vm₁, ⟨U', l2, c2, s2⟩, hW₁, X', ⟨g', mk, t, L, e1, e2, hq, h1, hL, h2, h3⟩, st⟩ | ⟨q, vm₁, ⟨U', l2, c2, s2⟩, hW₁, X', ⟨g', mk, t, L, E, ce, e1, e2, hq, hce, hcv, hcl, h1, hL, h2, h3⟩, st⟩
  · dsimp only [Pt.U, Pt.locs, Pt.cells, Pt.slots] at X' e1 e2 h1 h2 h3 st
    subst h1; subst h2; subst h3
    exact Or.inl ⟨v, (T.setVm vm₁).calling g' mk (Value.ref b :: As).toArray, t, U', L, hT, X', hL, e1, e2, hq, st⟩
  · dsimp only [Pt.U, Pt.locs, Pt.cells, Pt.slots] at X' e1 e2 h1 h2 h3 st hcl
    subst h1; subst h2; subst h3
    exact Or.inr ⟨q, (T.setVm vm₁).calling g' mk (Value.ref b :: As).toArray, t, U', L, E, ce, hT, X', hL, e1, e2, hq, hce, hcv, vx_cls hW₁ hcl, st⟩
theorem vx_runS (S : CallFix p m c cc nL s args Ts own) (hM : vx_Met l y ws rm Pc Qc XC mc ms free) (cw : CallB R s args own index y bytes maxL ret ws rm mc ms n ∧ (Cond.static y).before args s = true) (hp : PreS s H Pc As)
    (hg : g.method = m) (hn : As.length = n) (hsize : g.locals.size = nL) (hstack : g.stack = As.reverse ++ rest) (hW : 2 * g.monitorRoom + (rest.map fun v => v.category).sum ≤ 8) (hdg : decode cc g.pc = .ok (.invokestatic index, 3)) (hf : cells + mc ≤ R.cells ∧ slots + ms ≤ R.slots) :
    vx_Run p l e R s m args below meth c H locs cells slots mc ms g rest (Qc As.toArray) XC free := by
  have hK : vx_Back l R p e below s args y 3 8 (PreOf R mc ms Pc) (PostOf Qc mc ms free) (vx_Post XC mc ms free) := vx_callBack cw.1 hM hp.1
  obtain ⟨⟨-, -, -, -, -, -, hcode, hini, hy, hlen, hl⟩, hstt⟩ := cw
  obtain ⟨hx, hb, hml, ho, -⟩ := S
  intro T hT X
  rcases vx_callS X hx (bytes := bytes) (maxL := maxL) (ret := ret) ho hl hstt hini hcode hy hK hg (hsize.trans hml.symm) (argsL := As) (rest := rest) (fun sig h => hn.trans (hlen sig h)) hstack hW (by rw [hb]; exact hdg)
    (fun vm₁ hW₁ => ⟨hf.1, hf.2, hp.2 (T.setVm vm₁) hT hW₁⟩) with ⟨v, vm₁, ⟨U', l2, c2, s2⟩, hW₁, X', ⟨g', mk, t, L, e1, e2, hq, h1, hL, h2, h3⟩, st⟩ | ⟨q, vm₁, ⟨U', l2, c2, s2⟩, hW₁, X', ⟨g', mk, t, L, E, ce, e1, e2, hq, hce, hcv, hcl, h1, hL, h2, h3⟩, st⟩
  · dsimp only [Pt.U, Pt.locs, Pt.cells, Pt.slots] at X' e1 e2 h1 h2 h3 st
    subst h1; subst h2; subst h3
    exact Or.inl ⟨v, (T.setVm vm₁).calling g' mk As.toArray, t, U', L, hT, X', hL, e1, e2, hq, st⟩
  · dsimp only [Pt.U, Pt.locs, Pt.cells, Pt.slots] at X' e1 e2 h1 h2 h3 st hcl
    subst h1; subst h2; subst h3
    exact Or.inr ⟨q, (T.setVm vm₁).calling g' mk As.toArray, t, U', L, E, ce, hT, X', hL, e1, e2, hq, hce, hcv, vx_cls hW₁ hcl, st⟩
end Runs
section Rows
variable {p : Program} {l : Launch} {e : Env} {R : Room} {s : State} {m : MethodId} {args : Array Value} {below : List Frame} {meth : Method} {c : Code} {H : Heap} {locs : List Loc} {cells slots : Nat} {Q : State → Prop}
variable {mc ms : Nat} {free : Addr → Prop} {A0 A1 : Nat → Prop} {H0 : Heap} {a : Array Value} {pc : Nat} {ls : Array Slot} {st0 rest : List Value}
theorem vx_keep {st₀ t T' : State} {L : List Loc} (h0 : st₀.heap = H) (e1 : T'.heap = t.heap) (hS : va_S A0 H0 H locs) (hA : ∀ q, q < H.size → A1 q → A0 q) (hf : ∀ q, free q → A0 q) (hL : ∀ q ∈ L, free q.base) (hF : va_F A1 st₀ t) :
    H.size ≤ T'.heap.size ∧ (∀ q : Nat, q < H.size → ¬ A1 q → T'.heap[q]? = H[q]?) ∧ va_S A0 H0 T'.heap (locs ++ L) := by
  obtain ⟨hz, hk⟩ := hF
  rw [h0] at hz hk
  exact ⟨by rw [e1]; exact hz, fun q h1 h2 => by rw [e1]; exact hk q h1 h2,
    ⟨Nat.le_trans hS.1 (by rw [e1]; exact hz), fun q h1 h2 => by rw [e1, hk q (Nat.lt_of_lt_of_le h1 hS.1) (fun z => h2 (hA q (Nat.lt_of_lt_of_le h1 hS.1) z))]; exact hS.2.1 q h1 h2, fun q hq => by
      rcases List.mem_append.mp hq with h | h
      · exact hS.2.2 q h
      · exact hf _ (hL q h)⟩⟩
theorem vx_calli {S SX : Type} {post : Int32 → S → Prop} {px : SX → Prop} {B : S → State → Prop} {BX : String → SX → State → Prop} {AX : Nat → Prop} (hr : vx_Run p l e R s m args below meth c H locs cells slots mc ms (F0 m pc ls st0) rest (va_Qi post B A1 a) (vx_X px BX AX) free) (hS : va_S A0 H0 H locs) (hA : ∀ q, q < H.size → A1 q → A0 q) (hf : ∀ q, free q → A0 q) (hAX : ∀ q, q < H.size → AX q → A0 q)
    (kx : ∀ (E : String) (ce : Cell) (q9 : Addr) (u : SX) (t : State) (H1 : Heap) (locs1 : List Loc), t.heap = H1 → s.vm.Alike t.vm → px u → BX E u t → H.size ≤ H1.size → (∀ q : Nat, q < H.size → ¬ AX q → H1[q]? = H[q]?) → va_S A0 H0 H1 locs1 → H1[q9]? = some ce → ce.vm = .none → s.vm.findClass E = some ce.cls → vx_W p l e R s m args below meth c H1 locs1 (cells + mc) (slots + ms) Q (F0 m pc ls rest) q9)
    (kk : ∀ (r : Int32) (u : S) (t : State) (H1 : Heap) (locs1 : List Loc), t.heap = H1 → s.vm.Alike t.vm → post r u → B u t → H.size ≤ H1.size → (∀ q : Nat, q < H.size → ¬ A1 q → H1[q]? = H[q]?) → va_S A0 H0 H1 locs1 → W p l e R s m args below meth c H1 locs1 (cells + mc) (slots + ms) Q (F0 m (pc + 3) ls (.int r :: rest))) : W p l e R s m args below meth c H locs cells slots Q (F0 m pc ls st0) := by
  intro T hT X
  rcases hr T hT X with ⟨v, st₀, t, T', L, h0, X', hL, e1, e2, ⟨⟨r, u, hv, hp, hb⟩, hF⟩, st⟩ | ⟨q, st₀, t, T', L, E, ce, h0, X', hL, e1, e2, ⟨u, hp, hb, hF⟩, hce, hcv, hcl, st⟩
  · cases hv
    obtain ⟨k1, k2, k3⟩ := vx_keep h0 e1 hS hA hf hL hF
    obtain ⟨t2, a1, b1⟩ := kk r u t T'.heap (locs ++ L) e1.symm (by rw [← e2]; exact X'.warmed.alike) hp hb k1 k2 k3 T' rfl X'
    exact ⟨t2, st t2 a1, b1⟩
  · obtain ⟨k1, k2, k3⟩ := vx_keep h0 e1 hS hAX hf hL hF
    obtain ⟨t2, a1, b1⟩ := kx E ce q u t T'.heap (locs ++ L) e1.symm (by rw [← e2]; exact X'.warmed.alike) hp hb k1 k2 k3 (by rw [e1]; exact hce) hcv hcl T' rfl X'
    exact ⟨t2, st.trans a1, b1⟩
theorem vx_calll {S SX : Type} {post : Int64 → S → Prop} {px : SX → Prop} {B : S → State → Prop} {BX : String → SX → State → Prop} {AX : Nat → Prop} (hr : vx_Run p l e R s m args below meth c H locs cells slots mc ms (F0 m pc ls st0) rest (va_Ql post B A1 a) (vx_X px BX AX) free) (hS : va_S A0 H0 H locs) (hA : ∀ q, q < H.size → A1 q → A0 q) (hf : ∀ q, free q → A0 q) (hAX : ∀ q, q < H.size → AX q → A0 q)
    (kx : ∀ (E : String) (ce : Cell) (q9 : Addr) (u : SX) (t : State) (H1 : Heap) (locs1 : List Loc), t.heap = H1 → s.vm.Alike t.vm → px u → BX E u t → H.size ≤ H1.size → (∀ q : Nat, q < H.size → ¬ AX q → H1[q]? = H[q]?) → va_S A0 H0 H1 locs1 → H1[q9]? = some ce → ce.vm = .none → s.vm.findClass E = some ce.cls → vx_W p l e R s m args below meth c H1 locs1 (cells + mc) (slots + ms) Q (F0 m pc ls rest) q9)
    (kk : ∀ (r : Int64) (u : S) (t : State) (H1 : Heap) (locs1 : List Loc), t.heap = H1 → s.vm.Alike t.vm → post r u → B u t → H.size ≤ H1.size → (∀ q : Nat, q < H.size → ¬ A1 q → H1[q]? = H[q]?) → va_S A0 H0 H1 locs1 → W p l e R s m args below meth c H1 locs1 (cells + mc) (slots + ms) Q (F0 m (pc + 3) ls (.long r :: rest))) : W p l e R s m args below meth c H locs cells slots Q (F0 m pc ls st0) := by
  intro T hT X
  rcases hr T hT X with ⟨v, st₀, t, T', L, h0, X', hL, e1, e2, ⟨⟨r, u, hv, hp, hb⟩, hF⟩, st⟩ | ⟨q, st₀, t, T', L, E, ce, h0, X', hL, e1, e2, ⟨u, hp, hb, hF⟩, hce, hcv, hcl, st⟩
  · cases hv
    obtain ⟨k1, k2, k3⟩ := vx_keep h0 e1 hS hA hf hL hF
    obtain ⟨t2, a1, b1⟩ := kk r u t T'.heap (locs ++ L) e1.symm (by rw [← e2]; exact X'.warmed.alike) hp hb k1 k2 k3 T' rfl X'
    exact ⟨t2, st t2 a1, b1⟩
  · obtain ⟨k1, k2, k3⟩ := vx_keep h0 e1 hS hAX hf hL hF
    obtain ⟨t2, a1, b1⟩ := kx E ce q u t T'.heap (locs ++ L) e1.symm (by rw [← e2]; exact X'.warmed.alike) hp hb k1 k2 k3 (by rw [e1]; exact hce) hcv hcl T' rfl X'
    exact ⟨t2, st.trans a1, b1⟩
theorem vx_callf {S SX : Type} {post : UInt32 → S → Prop} {px : SX → Prop} {B : S → State → Prop} {BX : String → SX → State → Prop} {AX : Nat → Prop} (hr : vx_Run p l e R s m args below meth c H locs cells slots mc ms (F0 m pc ls st0) rest (va_Qf post B A1 a) (vx_X px BX AX) free) (hS : va_S A0 H0 H locs) (hA : ∀ q, q < H.size → A1 q → A0 q) (hf : ∀ q, free q → A0 q) (hAX : ∀ q, q < H.size → AX q → A0 q)
    (kx : ∀ (E : String) (ce : Cell) (q9 : Addr) (u : SX) (t : State) (H1 : Heap) (locs1 : List Loc), t.heap = H1 → s.vm.Alike t.vm → px u → BX E u t → H.size ≤ H1.size → (∀ q : Nat, q < H.size → ¬ AX q → H1[q]? = H[q]?) → va_S A0 H0 H1 locs1 → H1[q9]? = some ce → ce.vm = .none → s.vm.findClass E = some ce.cls → vx_W p l e R s m args below meth c H1 locs1 (cells + mc) (slots + ms) Q (F0 m pc ls rest) q9)
    (kk : ∀ (r : UInt32) (u : S) (t : State) (H1 : Heap) (locs1 : List Loc), t.heap = H1 → s.vm.Alike t.vm → post r u → B u t → H.size ≤ H1.size → (∀ q : Nat, q < H.size → ¬ A1 q → H1[q]? = H[q]?) → va_S A0 H0 H1 locs1 → W p l e R s m args below meth c H1 locs1 (cells + mc) (slots + ms) Q (F0 m (pc + 3) ls (.float r :: rest))) : W p l e R s m args below meth c H locs cells slots Q (F0 m pc ls st0) := by
  intro T hT X
  rcases hr T hT X with ⟨v, st₀, t, T', L, h0, X', hL, e1, e2, ⟨⟨r, u, hv, hp, hb⟩, hF⟩, st⟩ | ⟨q, st₀, t, T', L, E, ce, h0, X', hL, e1, e2, ⟨u, hp, hb, hF⟩, hce, hcv, hcl, st⟩
  · cases hv
    obtain ⟨k1, k2, k3⟩ := vx_keep h0 e1 hS hA hf hL hF
    obtain ⟨t2, a1, b1⟩ := kk r u t T'.heap (locs ++ L) e1.symm (by rw [← e2]; exact X'.warmed.alike) hp hb k1 k2 k3 T' rfl X'
    exact ⟨t2, st t2 a1, b1⟩
  · obtain ⟨k1, k2, k3⟩ := vx_keep h0 e1 hS hAX hf hL hF
    obtain ⟨t2, a1, b1⟩ := kx E ce q u t T'.heap (locs ++ L) e1.symm (by rw [← e2]; exact X'.warmed.alike) hp hb k1 k2 k3 (by rw [e1]; exact hce) hcv hcl T' rfl X'
    exact ⟨t2, st.trans a1, b1⟩
theorem vx_calld {S SX : Type} {post : UInt64 → S → Prop} {px : SX → Prop} {B : S → State → Prop} {BX : String → SX → State → Prop} {AX : Nat → Prop} (hr : vx_Run p l e R s m args below meth c H locs cells slots mc ms (F0 m pc ls st0) rest (va_Qd post B A1 a) (vx_X px BX AX) free) (hS : va_S A0 H0 H locs) (hA : ∀ q, q < H.size → A1 q → A0 q) (hf : ∀ q, free q → A0 q) (hAX : ∀ q, q < H.size → AX q → A0 q)
    (kx : ∀ (E : String) (ce : Cell) (q9 : Addr) (u : SX) (t : State) (H1 : Heap) (locs1 : List Loc), t.heap = H1 → s.vm.Alike t.vm → px u → BX E u t → H.size ≤ H1.size → (∀ q : Nat, q < H.size → ¬ AX q → H1[q]? = H[q]?) → va_S A0 H0 H1 locs1 → H1[q9]? = some ce → ce.vm = .none → s.vm.findClass E = some ce.cls → vx_W p l e R s m args below meth c H1 locs1 (cells + mc) (slots + ms) Q (F0 m pc ls rest) q9)
    (kk : ∀ (r : UInt64) (u : S) (t : State) (H1 : Heap) (locs1 : List Loc), t.heap = H1 → s.vm.Alike t.vm → post r u → B u t → H.size ≤ H1.size → (∀ q : Nat, q < H.size → ¬ A1 q → H1[q]? = H[q]?) → va_S A0 H0 H1 locs1 → W p l e R s m args below meth c H1 locs1 (cells + mc) (slots + ms) Q (F0 m (pc + 3) ls (.double r :: rest))) : W p l e R s m args below meth c H locs cells slots Q (F0 m pc ls st0) := by
  intro T hT X
  rcases hr T hT X with ⟨v, st₀, t, T', L, h0, X', hL, e1, e2, ⟨⟨r, u, hv, hp, hb⟩, hF⟩, st⟩ | ⟨q, st₀, t, T', L, E, ce, h0, X', hL, e1, e2, ⟨u, hp, hb, hF⟩, hce, hcv, hcl, st⟩
  · cases hv
    obtain ⟨k1, k2, k3⟩ := vx_keep h0 e1 hS hA hf hL hF
    obtain ⟨t2, a1, b1⟩ := kk r u t T'.heap (locs ++ L) e1.symm (by rw [← e2]; exact X'.warmed.alike) hp hb k1 k2 k3 T' rfl X'
    exact ⟨t2, st t2 a1, b1⟩
  · obtain ⟨k1, k2, k3⟩ := vx_keep h0 e1 hS hAX hf hL hF
    obtain ⟨t2, a1, b1⟩ := kx E ce q u t T'.heap (locs ++ L) e1.symm (by rw [← e2]; exact X'.warmed.alike) hp hb k1 k2 k3 (by rw [e1]; exact hce) hcv hcl T' rfl X'
    exact ⟨t2, st.trans a1, b1⟩
theorem vx_callv {S SX : Type} {post : S → Prop} {px : SX → Prop} {B : S → State → Prop} {BX : String → SX → State → Prop} {AX : Nat → Prop} (hr : vx_Run p l e R s m args below meth c H locs cells slots mc ms (F0 m pc ls st0) rest (va_Qv post B A1 a) (vx_X px BX AX) free) (hS : va_S A0 H0 H locs) (hA : ∀ q, q < H.size → A1 q → A0 q) (hf : ∀ q, free q → A0 q) (hAX : ∀ q, q < H.size → AX q → A0 q)
    (kx : ∀ (E : String) (ce : Cell) (q9 : Addr) (u : SX) (t : State) (H1 : Heap) (locs1 : List Loc), t.heap = H1 → s.vm.Alike t.vm → px u → BX E u t → H.size ≤ H1.size → (∀ q : Nat, q < H.size → ¬ AX q → H1[q]? = H[q]?) → va_S A0 H0 H1 locs1 → H1[q9]? = some ce → ce.vm = .none → s.vm.findClass E = some ce.cls → vx_W p l e R s m args below meth c H1 locs1 (cells + mc) (slots + ms) Q (F0 m pc ls rest) q9)
    (kk : ∀ (u : S) (t : State) (H1 : Heap) (locs1 : List Loc), t.heap = H1 → s.vm.Alike t.vm → post u → B u t → H.size ≤ H1.size → (∀ q : Nat, q < H.size → ¬ A1 q → H1[q]? = H[q]?) → va_S A0 H0 H1 locs1 → W p l e R s m args below meth c H1 locs1 (cells + mc) (slots + ms) Q (F0 m (pc + 3) ls (rest))) : W p l e R s m args below meth c H locs cells slots Q (F0 m pc ls st0) := by
  intro T hT X
  rcases hr T hT X with ⟨v, st₀, t, T', L, h0, X', hL, e1, e2, ⟨⟨u, hv, hp, hb⟩, hF⟩, st⟩ | ⟨q, st₀, t, T', L, E, ce, h0, X', hL, e1, e2, ⟨u, hp, hb, hF⟩, hce, hcv, hcl, st⟩
  · cases hv
    obtain ⟨k1, k2, k3⟩ := vx_keep h0 e1 hS hA hf hL hF
    obtain ⟨t2, a1, b1⟩ := kk u t T'.heap (locs ++ L) e1.symm (by rw [← e2]; exact X'.warmed.alike) hp hb k1 k2 k3 T' rfl X'
    exact ⟨t2, st t2 a1, b1⟩
  · obtain ⟨k1, k2, k3⟩ := vx_keep h0 e1 hS hAX hf hL hF
    obtain ⟨t2, a1, b1⟩ := kx E ce q u t T'.heap (locs ++ L) e1.symm (by rw [← e2]; exact X'.warmed.alike) hp hb k1 k2 k3 (by rw [e1]; exact hce) hcv hcl T' rfl X'
    exact ⟨t2, st.trans a1, b1⟩
/-- caught by the row x of this method's table; the rows ahead don't take it -/
theorem vx_catch {own name : String} {E : String} {ce : Cell} {q : Addr} (hown : s.vm.findClass own = some m.cls) (pre : List ExceptionTableEntry) (x : ExceptionTableEntry) (suf : List ExceptionTableEntry) (hsplit : c.exceptionTable.toList = pre ++ x :: suf)
    (hpass : ∀ z ∈ pre, covers z pc = false ∨ (z.catchType ≠ 0 ∧ ∃ nm : String, (Cond.classLink own z.catchType nm).before args s = true ∧ va_Nc E nm s)) (hx : covers x pc = true) (h0 : x.catchType ≠ 0)
    (hlink : (Cond.classLink own x.catchType name).before args s = true) (hcast : (Cond.castable E name).before args s = true) (hcell : H[q]? = some ce) (hv : ce.vm = .none) (hcl : s.vm.findClass E = some ce.cls)
    (kk : W p l e R s m args below meth c H locs cells slots Q (F0 m x.handlerPc ls [.ref q])) : vx_W p l e R s m args below meth c H locs cells slots Q (F0 m pc ls rest) q := by
  intro T hT X
  have hpl : e.platform.magicAccessors = ({} : Platform).magicAccessors := by rw [X.admits.platform]
  obtain ⟨c3, c4, hc3, hc4, hasg⟩ := Cond.castable_spec hcast
  cases Option.some.inj (hc3.symm.trans hcl)
  obtain ⟨c5, hc5, hcl5⟩ := Cond.classLink_spec hown hlink e.platform hpl
  cases Option.some.inj (hc4.symm.trans hc5)
  obtain ⟨vm', X', st⟩ := X.thenCaughtThrough q (g := F0 m pc ls rest) rfl (Steps.refl _) (by rw [hT]; exact hcell) (by rw [hv]; rfl) (by obtain ⟨k9, h9, -⟩ := Vm.findClass_spec hcl; exact ⟨k9, h9⟩) pre x suf hsplit
    (fun z hz => by
      rcases hpass z hz with h | ⟨hz0, nm, hl1, hn1⟩
      · exact Or.inl h
      · obtain ⟨c6, hc6, hcl6⟩ := Cond.classLink_spec hown hl1 e.platform hpl
        obtain ⟨a8, b8, h1, h2, h3⟩ := hn1
        cases Option.some.inj (h1.symm.trans hcl)
        cases Option.some.inj (h2.symm.trans hc6)
        exact Or.inr ⟨hz0, _, hcl6, h3⟩) hx (Or.inr ⟨h0, c4, hcl5, hasg⟩)
  obtain ⟨t, a1, b1⟩ := kk (T.setVm vm') hT X'
  exact ⟨t, st.trans a1, b1⟩
end Rows
section Ends
variable {p : Program} {l : Launch} {e : Env} {R : Room} {s : State} {m : MethodId} {args : Array Value} {below : List Frame} {meth : Method} {c : Code} {H : Heap} {locs : List Loc} {cells slots : Nat} {Q : State → Prop}
variable {mc ms : Nat} {free : Addr → Prop} {A0 A1 : Nat → Prop} {H0 : Heap} {a : Array Value} {ls : Array Slot} {st0 rest : List Value}
variable {Qc : Array Value → State → Outcome → State → Prop} {XC : String → State → State → Prop}
/-- what a body that may throw owes at its end -/
def vx_MQ (below : List Frame) (Qc : Array Value → State → Outcome → State → Prop) (XC : String → State → State → Prop) (a : Array Value) (s : State) (mc ms : Nat) (free : Addr → Prop) : State → Prop := fun t =>
  ∃ o, t.status = .running ∧ Ended t below o ∧ vx_Q Qc XC mc ms free a s o t
theorem vx_ret {g : JFrame} {mc ms : Nat} (k : W p l e R s m args below meth c H locs cells slots (MQ below Qc args s mc ms free) g) : W p l e R s m args below meth c H locs cells slots (vx_MQ below Qc XC args s mc ms free) g := by
  intro T hT X
  obtain ⟨t, a1, o, b1, b2, b3, b4⟩ := k T hT X
  exact ⟨t, a1, o, b1, b2, Or.inl ⟨b3, b4⟩⟩
/-- not caught here: it goes on to the caller -/
theorem vx_widen {g : JFrame} {q : Addr} {k n : Nat} (h1 : cells ≤ k) (h2 : slots ≤ n) (kk : vx_W p l e R s m args below meth c H locs k n Q g q) : vx_W p l e R s m args below meth c H locs cells slots Q g q := fun T hT X => kk T hT (stand_widen X h1 h2)
theorem vx_out {pc : Nat} {E : String} {ce : Cell} {q : Addr} {mc ms : Nat} (hout : ∀ x ∈ c.exceptionTable.toList, covers x pc = false) (hlocks : meth.locks = false) (hcell : H[q]? = some ce) (hv : ce.vm = .none) (hcl : s.vm.findClass E = some ce.cls)
    (hx : ∀ t : State, t.heap = H → s.vm.Alike t.vm → XC E s t) (hf : ∀ z ∈ locs, free z.base) (hc : cells ≤ mc) (hs : slots ≤ ms) :
    vx_W p l e R s m args below meth c H locs cells slots (vx_MQ below Qc XC args s mc ms free) (F0 m pc ls rest) q := by
  intro T hT X
  obtain ⟨st1, hrun, hend, hW, hsm⟩ := X.leaveThrown q (g := F0 m pc ls rest) rfl rfl rfl hout hlocks
  have hcell9 : (T.setFrames (.throwing q :: below)).heap[q]? = some ce := by
    show T.heap[q]? = some ce
    rw [hT]; exact hcell
  exact ⟨_, st1, .threw q, hrun, hend, Or.inr ⟨q, rfl, E, ce, locs, hx _ hT hW.alike, hcell9, hv, hcl, hW, hsm.mono hc hs, hf⟩⟩
theorem vx_frame {U : State} {k n : Nat} (h : s.sameButNew ({ U with vm := s.vm } : State) locs k n) : s.heap.size ≤ U.heap.size ∧ ∀ q : Nat, q < s.heap.size → (∀ z ∈ locs, z.base ≠ q) → U.heap[q]? = s.heap[q]? := by
  obtain ⟨-, h2, -, -, -, h6⟩ := h
  refine ⟨h2, fun q hq hz => ?_⟩
  obtain ⟨c9, e1, e2, e3, e4⟩ := h6 q _ (Array.getElem?_eq_getElem hq)
  have hs : c9.slots = (s.heap[q]).slots := Array.ext_getElem? fun i => e4 i fun hm => hz _ hm rfl
  have h9 : c9 = s.heap[q] := by
    rw [hs] at e2
    exact e2
  have e5 : U.heap[q]? = some c9 := e1
  rw [e5, h9, Array.getElem?_eq_getElem hq]
/-- the words of a throw but the four that speak of the heap -/
def vx_no (w : Cond) : Bool := decide (w ≠ .isRef (.static Bundle.tN "UNASSIGNED_STACK" Bundle.steD)) && decide (w ≠ .isRef (.static Bundle.tN "SUPPRESSED_SENTINEL" Bundle.listD)) && decide (w ≠ .laysStatic Bundle.tN "UNASSIGNED_STACK" Bundle.steD) && decide (w ≠ .laysStatic Bundle.tN "SUPPRESSED_SENTINEL" Bundle.listD)
def vx_at0 (own : String) (ic : Nat) (X : String) (names : List String) : List Cond := (Bundle.ownAtoms0 own ic X names).filter vx_no
def vx_atS (own : String) (ic : Nat) (X : String) (names : List String) : List Cond := (Bundle.ownAtoms own ic X names).filter vx_no
/-- a word that the tables alone decide, or a good one -/
def vx_ot (w : Cond) : Bool := w.onTables || goodWord w
theorem vx_ot_at {args a' : Array Value} {s U : State} {w : Cond} (hW : s.WarmedH U.vm) (hvm : s.vm = U.vm) (hg : vx_ot w = true) (h : w.before args s = true) : w.before a' U = true := by
  simp only [vx_ot, Bool.or_eq_true] at hg
  rcases hg with hg | hg
  · exact va_tabs hg hvm h
  · exact word_at hW (good_of_word hg) h
/-- a list's words: the good ones out of the method's own list, the others by premises of their own -/
theorem vx_hat {args : Array Value} {s : State} {L B : List Cond} (h1 : ∀ w ∈ L.filter goodWord, w.before args s = true) (h2 : ∀ w ∈ L.filter (fun w => !goodWord w), w ∈ B) (h3 : ∀ w ∈ B, w.before args s = true) : ∀ w ∈ L, w.before args s = true := by
  intro w hw
  by_cases g : goodWord w = true
  · exact h1 w (List.mem_filter.mpr ⟨hw, g⟩)
  · refine h3 w (h2 w (List.mem_filter.mpr ⟨hw, ?_⟩))
    show (!goodWord w) = true
    cases hgw : goodWord w
    · rfl
    · exact absurd hgw g
theorem vx_c {args : Array Value} {s : State} {w : Cond} {B : List Cond} (h : w.before args s = true) (t : ∀ w ∈ B, w.before args s = true) : ∀ w' ∈ w :: B, w'.before args s = true := fun w' h' => (List.mem_cons.mp h').elim (fun e => by rw [e]; exact h) (t w')
theorem vx_n {args : Array Value} {s : State} : ∀ w ∈ ([] : List Cond), w.before args s = true := fun _ h => nomatch h
theorem vx_own {args : Array Value} {s : State} {L : List Cond} (h1 : ∀ w ∈ L.filter vx_no, w.before args s = true)
    (hU : (Cond.isRef (.static Bundle.tN "UNASSIGNED_STACK" Bundle.steD)).before args s = true) (hN : (Cond.isRef (.static Bundle.tN "SUPPRESSED_SENTINEL" Bundle.listD)).before args s = true)
    (lU : (Cond.laysStatic Bundle.tN "UNASSIGNED_STACK" Bundle.steD).before args s = true) (lN : (Cond.laysStatic Bundle.tN "SUPPRESSED_SENTINEL" Bundle.listD).before args s = true) : ∀ w ∈ L, w.before args s = true := by
  intro w hw
  by_cases e1 : w = .isRef (.static Bundle.tN "UNASSIGNED_STACK" Bundle.steD)
  · rw [e1]; exact hU
  · by_cases e2 : w = .isRef (.static Bundle.tN "SUPPRESSED_SENTINEL" Bundle.listD)
    · rw [e2]; exact hN
    · by_cases e3 : w = .laysStatic Bundle.tN "UNASSIGNED_STACK" Bundle.steD
      · rw [e3]; exact lU
      · by_cases e4 : w = .laysStatic Bundle.tN "SUPPRESSED_SENTINEL" Bundle.listD
        · rw [e4]; exact lN
        · exact h1 w (List.mem_filter.mpr ⟨hw, by unfold vx_no; rw [decide_eq_true e1, decide_eq_true e2, decide_eq_true e3, decide_eq_true e4]; rfl⟩)
/-- where a static field lies, its class's statics cell in H -/
def vx_L (C n d : String) (A : Nat → Prop) (U : State) (H : Heap) : Prop := ∃ (c : ClassId) (k : Class) (i : Nat) (f : Field) (a : Nat) (cell : Cell), U.vm.findClass C = some c ∧ U.fieldFound? C n d = some (c, k, i, f) ∧ f.isStatic = true ∧ k.statics = some a ∧ H[a]? = some cell ∧ cell.vm.isStatics = true ∧ cell.cls = c ∧ f.slot < cell.slots.size ∧ k.staticTypes[f.slot]? = some f.type ∧ ¬ A a
theorem vx_L.moved {C n d : String} {A : Nat → Prop} {u U : State} {H : Heap} (hvm : u.vm.Alike U.vm) (h : vx_L C n d A u H) : vx_L C n d A U H := by
  obtain ⟨c, k, i, f, a, cell, h1, h2, h3, h4, h5, h6, h7, h8, h9, h10⟩ := h
  obtain ⟨k', hi', he⟩ := State.fieldFound?_setVm hvm h2
  exact ⟨c, k', i, f, a, cell, by rw [hvm.findClass]; exact h1, hi', h3, by rw [he]; exact h4, h5, h6, h7, h8, by rw [he]; exact h9, h10⟩
theorem vx_L.kept {C n d : String} {A : Nat → Prop} {U : State} {H H1 : Heap} (h : vx_L C n d A U H) (hq : ∀ a : Nat, a < H.size → ¬ A a → H1[a]? = H[a]?) : vx_L C n d A U H1 := by
  obtain ⟨c, k, i, f, a, cell, h1, h2, h3, h4, h5, h6, h7, h8, h9, h10⟩ := h
  exact ⟨c, k, i, f, a, cell, h1, h2, h3, h4, by rw [hq a (Array.getElem?_eq_some_iff.mp h5).1 h10]; exact h5, h6, h7, h8, h9, h10⟩
theorem vx_L.narrow {C n d : String} {A B : Nat → Prop} {U : State} {H : Heap} (h : vx_L C n d A U H) (hAB : ∀ q, B q → A q) : vx_L C n d B U H := by
  obtain ⟨c, k, i, f, a, cell, h1, h2, h3, h4, h5, h6, h7, h8, h9, h10⟩ := h
  exact ⟨c, k, i, f, a, cell, h1, h2, h3, h4, h5, h6, h7, h8, h9, fun z => h10 (hAB _ z)⟩
theorem vx_L.word {C n d : String} {A : Nat → Prop} {s : State} {args : Array Value} (h : vx_L C n d A s s.heap) : (Cond.laysStatic C n d).before args s = true := by
  obtain ⟨c, k, i, f, a, cell, h1, h2, h3, h4, h5, h6, h7, h8, h9, -⟩ := h
  show (Cond.laysStatic C n d).holds args s none s [] = true
  exact Cond.laysStatic_of h1 h2 h3 h4 h5 h6 h7 h8 h9
/-- .. and what it holds: null or some reference -/
def vx_Zq (C n d : String) (A : Nat → Prop) (U : State) (H : Heap) : Prop := va_Zq C n d A U H ∧ vx_L C n d A U H
theorem vx_Zq.moved {C n d : String} {A : Nat → Prop} {u U : State} {H : Heap} (hvm : u.vm.Alike U.vm) (h : vx_Zq C n d A u H) : vx_Zq C n d A U H := ⟨va_Zq.moved hvm h.1, vx_L.moved hvm h.2⟩
theorem vx_Zq.kept {C n d : String} {A : Nat → Prop} {U : State} {H H1 : Heap} (h : vx_Zq C n d A U H) (hq : ∀ a : Nat, a < H.size → ¬ A a → H1[a]? = H[a]?) : vx_Zq C n d A U H1 := ⟨va_Zq.kept h.1 hq, vx_L.kept h.2 hq⟩
theorem vx_Zq.narrow {C n d : String} {A B : Nat → Prop} {U : State} {H : Heap} (h : vx_Zq C n d A U H) (hAB : ∀ q, B q → A q) : vx_Zq C n d B U H := ⟨va_Zq.narrow h.1 hAB, vx_L.narrow h.2 hAB⟩
theorem vx_Zqof {args : Array Value} {s : State} {C n d : String} {A : Nat → Prop} (hl : (Cond.laysStatic C n d).before args s = true) (hini : (Cond.initialized C).before args s = true) (h : (Cond.isRef (.static C n d)).before args s = true) (hA : ∀ a : Nat, a < s.heap.size → ¬ A a) : vx_Zq C n d A s s.heap := by
  refine ⟨va_Zqof hl hini h hA, ?_⟩
  obtain ⟨c, k, i, f, a, cell, h1, h2, h3, h4, h5, h6, h7, h8, h9⟩ := Cond.laysStatic_spec hl
  exact ⟨c, k, i, f, a, cell, h1, h2, h3, h4, h5, h6, h7, h8, h9, hA a (Array.getElem?_eq_some_iff.mp h5).1⟩
theorem vx_isRef {C n d : String} {v : Value} {A : Nat → Prop} {s : State} {args : Array Value} (h : va_Z C n d v A s s.heap) (hv : v.isRef = true) : (Cond.isRef (.static C n d)).before args s = true := by
  obtain ⟨cf, kf, fi, f, a, cell, h1, h2, h3, h4, h5, h6, h7, -⟩ := h
  have he : (Term.static C n d).eval args s none [] s = some v := by
    simp [Term.eval, State.fieldNamed?, h1, h2, h4, h5, h6, h7]
  simp only [Cond.before, Cond.holds, Cond.value, he]
  cases v <;> simp_all [Value.isRef]
theorem vx_isRefq {C n d : String} {A : Nat → Prop} {s : State} {args : Array Value} (h : va_Zq C n d A s s.heap) : (Cond.isRef (.static C n d)).before args s = true := by
  rcases h with h | ⟨t, h⟩
  · exact vx_isRef h rfl
  · exact vx_isRef h rfl
/-- the same frame, seen from here: as if the method were called anew in this heap -/
theorem vx_rebase {T : State} (X : Stand p l e R s m args below meth c T locs cells slots) {R' : Room} (hf : R'.frames ≤ R.frames) (hl : R'.locals ≤ R.locals) (hc : cells + R'.cells ≤ R.cells) (hs : slots + R'.slots ≤ R.slots) :
    Stand p l e R' ((T.setVm s.vm).setFrames (.invoking m args :: below)) m args below meth c T [] 0 0 := by
  have htop : (T.setVm s.vm).topJava?.isSome := X.here.top
  have hF : ((T.setVm s.vm).setFrames (.invoking m args :: below)).frames = .invoking m args :: below := State.frames_setFrames _ (State.cur_lt_of_top htop)
  obtain ⟨g₀, hg0⟩ := Option.isSome_iff_exists.mp htop
  obtain ⟨r, hr⟩ := State.topJava?_eq_some.mp hg0
  have hl9 : e.platform.stackLimits (T.setVm s.vm).me = e.platform.stackLimits s.me := X.limits
  have hb9 : (T.setVm s.vm).me.stackBytes = s.me.stackBytes := X.bytes
  refine ⟨X.admits, X.cas, X.clock, hF, ?_, X.hears, X.method, X.code, X.here, X.tail, X.warmed, ?_, ?_, ?_⟩
  · have h := X.room
    have hU : ((T.setVm s.vm).setFrames (.invoking m args :: below)).localsInUse = s.localsInUse := by
      rw [State.localsInUse_invoking hF (meth := meth) (c := c) X.method X.code, State.localsInUse_invoking X.frames X.method X.code]
    simp only [State.hasRoom, Bool.and_eq_true, decide_eq_true_eq] at h ⊢
    obtain ⟨⟨⟨⟨h1, h2, h3, h4, h5, h6⟩, h7⟩, h8⟩, h9⟩ := h
    rw [X.frames, List.length_cons] at h2 h3
    have q1 := X.heapSize
    have q2 := X.used
    simp only [hF, hU, List.length_cons, State.stackLimits_setFrames, State.stackBytes_setFrames, hl9, hb9]
    refine ⟨⟨⟨⟨by omega, by omega, by omega, by omega, by omega, h6⟩, ?_⟩, ?_⟩, X.book⟩
    · show T.heap.size + R'.cells ≤ e.platform.maxCells
      omega
    · show T.slotsUsed + R'.slots ≤ e.platform.maxSlots
      omega
  · rw [State.stackLimits_setFrames]; rfl
  · rw [State.stackBytes_setFrames]; rfl
  · refine ⟨?_, Nat.le_refl _, Nat.le_refl _, ?_, ?_, fun a c9 h9 => ⟨c9, h9, rfl, rfl, fun _ _ => rfl⟩⟩
    · obtain ⟨t, ht, -⟩ := State.frames_cons hr
      show T.setVm s.vm = { ((T.setVm s.vm).setFrames (.invoking m args :: below)).setFrames (T.setVm s.vm).frames with heap := T.heap, slotsUsed := T.slotsUsed }
      rw [State.setFrames_setFrames, State.setFrames_self ht]
      rfl
    · show T.slotsUsed = T.slotsUsed + ((T.heap.toList.drop T.heap.size).map (·.slots.size)).sum
      rw [List.drop_eq_nil_of_le (Nat.le_of_eq Array.length_toList)]
      rfl
    · show ((T.heap.toList.drop T.heap.size).map (·.slots.size)).sum ≤ 0
      rw [List.drop_eq_nil_of_le (Nat.le_of_eq Array.length_toList)]
      exact Nat.le_refl _
/-- 'throw new E()': new; dup; invokespecial; athrow -/
theorem vx_throw0 {cc : ByteArray} {pc : Nat} (hexec : p.tables.exec = Jvm.exec) (hb : c.code = cc) (hl : l.stackTraces = false) {own cls : String} {names : List String} {ik ic mc ms : Nat} {A : Nat → Prop}
    (hown : s.vm.findClass own = some m.cls) (hcls : Bundle.fit cls = true) (hnames : ∀ n ∈ names, Bundle.fit n = true)
    (hk : (Cond.classLink own ik cls).before args s = true) (hini : (Cond.initialized cls).before args s = true) (hat : ∀ w ∈ vx_at0 own ic cls names, w.before args s = true)
    (hgood : ∀ w ∈ Cond.classLink own ik cls :: Cond.initialized cls :: vx_at0 own ic cls names, vx_ot w = true)
    (hU : vx_Zq Bundle.tN "UNASSIGNED_STACK" Bundle.steD A s s.heap) (hN : vx_Zq Bundle.tN "SUPPRESSED_SENTINEL" Bundle.listD A s s.heap) (hS : va_S A s.heap H locs) (hsize : ls.size = c.maxLocals)
    (d0 : decode cc pc = .ok (.new ik, 3)) (d3 : decode cc (pc + 3) = .ok (.dup, 1)) (d4 : decode cc (pc + 4) = .ok (.invokespecial ic, 3)) (d7 : decode cc (pc + 7) = .ok (.athrow, 1))
    (hout : ∀ x ∈ c.exceptionTable.toList, covers x (pc + 7) = false)
    (hRframes : names.length + 3 < R.frames) (hRlocals : (rest.map fun v => v.category).sum + (13 * (names.length + 1) + 42) ≤ R.locals) (hRcells : cells + 1 ≤ R.cells) (hRslots : slots + 6 ≤ R.slots) (hlocks : meth.locks = false)
    (hx : ∀ t : State, s.vm.Alike t.vm → H.size ≤ t.heap.size → (∀ q : Nat, q < H.size → t.heap[q]? = H[q]?) → XC cls s t)
    (hf : ∀ z ∈ locs, free z.base) (hc : cells + 1 ≤ mc) (hs : slots + 6 ≤ ms) :
    W p l e R s m args below meth c H locs cells slots (vx_MQ below Qc XC args s mc ms free) (F0 m pc ls rest) := by
  intro T hT X
  have htr : e.platform.stackTraces = false := (show e.platform.stackTraces = l.stackTraces by rw [X.admits.platform]).trans hl
  have Y := vx_rebase X (R' := { frames := R.frames, locals := R.locals, cells := 1, slots := 6 }) (Nat.le_refl _) (Nat.le_refl _) hRcells hRslots
  obtain ⟨s', hA⟩ : ∃ z, z = (T.setVm s.vm).setFrames (.invoking m args :: below) := ⟨_, rfl⟩
  rw [← hA] at Y
  have hvm : s'.vm = s.vm := by rw [hA]; rfl
  have hhp : s'.heap = H := by rw [hA]; exact hT
  have hW0 : s.WarmedH s'.vm := by rw [hvm]; exact State.WarmedH.refl s
  have hat' : ∀ w ∈ vx_at0 own ic cls names, w.before args s' = true := fun w hw => vx_ot_at hW0 hvm.symm (hgood w (List.mem_cons_of_mem _ (List.mem_cons_of_mem _ hw))) (hat w hw)
  have hk' : (Cond.classLink own ik cls).before args s' = true := vx_ot_at hW0 hvm.symm (hgood _ List.mem_cons_self) hk
  have hini' : (Cond.initialized cls).before args s' = true := vx_ot_at hW0 hvm.symm (hgood _ (List.mem_cons_of_mem _ List.mem_cons_self)) hini
  have hU' : vx_Zq Bundle.tN "UNASSIGNED_STACK" Bundle.steD A s' s'.heap := by rw [hhp]; exact vx_Zq.moved hW0.alike (hU.kept hS.2.1)
  have hN' : vx_Zq Bundle.tN "SUPPRESSED_SENTINEL" Bundle.listD A s' s'.heap := by rw [hhp]; exact vx_Zq.moved hW0.alike (hN.kept hS.2.1)
  have h : ∀ w ∈ Bundle.ownAtoms0 own ic cls names, w.before args s' = true := vx_own hat' (vx_isRefq hU'.1) (vx_isRefq hN'.1) hU'.2.word hN'.2.word
  have hown' : s'.vm.findClass own = some m.cls := by rw [hvm]; exact hown
  have hins : (Cond.instantiable cls 6).before args s' = true := h _ (by simp [Bundle.ownAtoms0])
  obtain ⟨vm₁, cX, kX, hfX, hkX, -, -, X₁, st1⟩ := Y.newCold hexec (own := own) (C := cls) (index := ik) (n := 6) hown' hk' hins hini'
    (g := F0 m pc ls rest) rfl (by rw [hb]; exact d0) (Nat.le_refl _) (Nat.le_refl _)
  generalize hT1 : (T.setVm vm₁).pushCell { cls := cX, slots := kX.instanceTypes.map defaultValue, vm := .none } = T1 at X₁ st1
  have hcat : (Value.ref T.heap.size).category = 1 := rfl
  have hcellA : T1.heap[T.heap.size]? = some (freshCell cX kX) := by rw [← hT1]; exact State.heap_pushCell_size _ _
  have d3' : decode c.code (pc + 3) = .ok (.dup, 1) := by rw [hb]; exact d3
  obtain ⟨U, hsteps, hrun, hend, hW, hsame, ce, hce, hO⟩ := X₁.ctorThrow0 hexec htr (own := own) (cls := cls) (names := names) (ic := ic) hown' hcls hnames h (fun x hx => nomatch hx) hfX hkX hcellA (by rw [hhp, hT]; exact Nat.le_refl _)
    (g := { method := m, pc := pc + 4, locals := ls, stack := .ref T.heap.size :: .ref T.heap.size :: rest, locked := none }) rfl hsize rfl rfl (rest := rest) rfl
    (by rw [hb]; exact d4) (by rw [hb]; exact d7) hout hRframes (by simp only [List.map_cons, List.sum_cons, hcat]; omega) hlocks
  obtain ⟨f1, f2⟩ := vx_frame hsame
  rw [hhp] at f1 f2
  have hWs : s.WarmedH U.vm := State.WarmedH.trans hW0 hW
  have hcl : s.vm.findClass cls = some ce.cls := by
    have h9 := hO.cls
    rw [hvm] at h9
    exact h9
  have hall : s.sameButNew ({ U with vm := s.vm } : State) locs mc ms := by
    subst hA
    obtain ⟨e1, e2⟩ := hsame
    rw [State.setFrames_setFrames] at e1
    have h2 : (T.setVm s.vm).sameButNew ({ U with vm := s.vm } : State) [] (0 + 1) (0 + 6) := ⟨e1, e2⟩
    have h3 := X.same.trans h2
    rw [List.append_nil] at h3
    exact h3.mono hc hs
  refine ⟨U, ?_, .threw T.heap.size, hrun, hend, Or.inr ⟨T.heap.size, rfl, cls, ce, locs, hx U hWs.alike f1 (fun q hq => f2 q hq (fun z hz => nomatch hz)), hce, hO.vm, hcl, hWs, hall, hf⟩⟩
  refine st1 _ ?_
  show Steps p.tables e below (T1.setTop { method := m, pc := pc + 3, locals := ls, stack := .ref T.heap.size :: rest, locked := none }) _
  jvm_step X₁.here [X₁.here.top, hexec, d3', Value.category]
  exact hsteps
/-- 'throw new E("text")': new; dup; ldc; invokespecial; athrow -/
theorem vx_throwS {cc : ByteArray} {pc : Nat} (hexec : p.tables.exec = Jvm.exec) (hb : c.code = cc) (hl : l.stackTraces = false) {own cls text : String} {names : List String} {ik is ic mc ms sa : Nat} {A : Nat → Prop}
    (hown : s.vm.findClass own = some m.cls) (hcls : Bundle.fit cls = true) (hnames : ∀ n ∈ names, Bundle.fit n = true)
    (hk : (Cond.classLink own ik cls).before args s = true) (hini : (Cond.initialized cls).before args s = true) (hstr : vk_R own is text sa s) (hat : ∀ w ∈ vx_atS own ic cls names, w.before args s = true)
    (hgood : ∀ w ∈ Cond.classLink own ik cls :: Cond.initialized cls :: vx_atS own ic cls names, vx_ot w = true)
    (hU : vx_Zq Bundle.tN "UNASSIGNED_STACK" Bundle.steD A s s.heap) (hN : vx_Zq Bundle.tN "SUPPRESSED_SENTINEL" Bundle.listD A s s.heap) (hS : va_S A s.heap H locs) (hsize : ls.size = c.maxLocals)
    (d0 : decode cc pc = .ok (.new ik, 3)) (d3 : decode cc (pc + 3) = .ok (.dup, 1)) (d4 : decode cc (pc + 4) = .ok (.ldc is, 2)) (d6 : decode cc (pc + 6) = .ok (.invokespecial ic, 3)) (d9 : decode cc (pc + 9) = .ok (.athrow, 1))
    (hout : ∀ x ∈ c.exceptionTable.toList, covers x (pc + 9) = false)
    (hRframes : names.length + 3 < R.frames) (hRlocals : (rest.map fun v => v.category).sum + (13 * (names.length + 1) + 43) ≤ R.locals) (hRcells : cells + 1 ≤ R.cells) (hRslots : slots + 6 ≤ R.slots) (hlocks : meth.locks = false)
    (hx : ∀ t : State, s.vm.Alike t.vm → H.size ≤ t.heap.size → (∀ q : Nat, q < H.size → t.heap[q]? = H[q]?) → XC cls s t)
    (hf : ∀ z ∈ locs, free z.base) (hc : cells + 1 ≤ mc) (hs : slots + 6 ≤ ms) :
    W p l e R s m args below meth c H locs cells slots (vx_MQ below Qc XC args s mc ms free) (F0 m pc ls rest) := by
  intro T hT X
  have htr : e.platform.stackTraces = false := (show e.platform.stackTraces = l.stackTraces by rw [X.admits.platform]).trans hl
  have Y := vx_rebase X (R' := { frames := R.frames, locals := R.locals, cells := 1, slots := 6 }) (Nat.le_refl _) (Nat.le_refl _) hRcells hRslots
  obtain ⟨s', hA⟩ : ∃ z, z = (T.setVm s.vm).setFrames (.invoking m args :: below) := ⟨_, rfl⟩
  rw [← hA] at Y
  have hvm : s'.vm = s.vm := by rw [hA]; rfl
  have hhp : s'.heap = H := by rw [hA]; exact hT
  have hW0 : s.WarmedH s'.vm := by rw [hvm]; exact State.WarmedH.refl s
  have hat' : ∀ w ∈ vx_atS own ic cls names, w.before args s' = true := fun w hw => vx_ot_at hW0 hvm.symm (hgood w (List.mem_cons_of_mem _ (List.mem_cons_of_mem _ hw))) (hat w hw)
  have hk' : (Cond.classLink own ik cls).before args s' = true := vx_ot_at hW0 hvm.symm (hgood _ List.mem_cons_self) hk
  have hini' : (Cond.initialized cls).before args s' = true := vx_ot_at hW0 hvm.symm (hgood _ (List.mem_cons_of_mem _ List.mem_cons_self)) hini
  have hU' : vx_Zq Bundle.tN "UNASSIGNED_STACK" Bundle.steD A s' s'.heap := by rw [hhp]; exact vx_Zq.moved hW0.alike (hU.kept hS.2.1)
  have hN' : vx_Zq Bundle.tN "SUPPRESSED_SENTINEL" Bundle.listD A s' s'.heap := by rw [hhp]; exact vx_Zq.moved hW0.alike (hN.kept hS.2.1)
  have h : ∀ w ∈ Bundle.ownAtoms own ic cls names, w.before args s' = true := vx_own hat' (vx_isRefq hU'.1) (vx_isRefq hN'.1) hU'.2.word hN'.2.word
  have hown' : s'.vm.findClass own = some m.cls := by rw [hvm]; exact hown
  have hins : (Cond.instantiable cls 6).before args s' = true := h _ (by simp [Bundle.ownAtoms])
  obtain ⟨vm₁, cX, kX, hfX, hkX, -, -, X₁, st1⟩ := Y.newCold hexec (own := own) (C := cls) (index := ik) (n := 6) hown' hk' hins hini'
    (g := F0 m pc ls rest) rfl (by rw [hb]; exact d0) (Nat.le_refl _) (Nat.le_refl _)
  generalize hT1 : (T.setVm vm₁).pushCell { cls := cX, slots := kX.instanceTypes.map defaultValue, vm := .none } = T1 at X₁ st1
  have hcat : (Value.ref T.heap.size).category = 1 := rfl
  have hcellA : T1.heap[T.heap.size]? = some (freshCell cX kX) := by rw [← hT1]; exact State.heap_pushCell_size _ _
  have d3' : decode c.code (pc + 3) = .ok (.dup, 1) := by rw [hb]; exact d3
  have d4' : decode c.code (pc + 4) = .ok (.ldc is, 2) := by rw [hb]; exact d4
  have hstr' : vk_R own is text sa s' := vk_R.warm hW0 hstr
  obtain ⟨U, hsteps, hrun, hend, hW, hsame, ce, hce, hO⟩ := X₁.ctorThrowS hexec htr (own := own) (cls := cls) (names := names) (ic := ic) hown' hcls hnames h (fun x hx => nomatch hx) hfX hkX hcellA (by rw [hhp, hT]; exact Nat.le_refl _) (msg := .ref sa) rfl
    (g := { method := m, pc := pc + 6, locals := ls, stack := .ref sa :: .ref T.heap.size :: .ref T.heap.size :: rest, locked := none }) rfl hsize rfl rfl (rest := rest) rfl
    (by rw [hb]; exact d6) (by rw [hb]; exact d9) hout hRframes (by simp only [List.map_cons, List.sum_cons, hcat]; omega) hlocks
  obtain ⟨f1, f2⟩ := vx_frame hsame
  rw [hhp] at f1 f2
  have hWs : s.WarmedH U.vm := State.WarmedH.trans hW0 hW
  have hcl : s.vm.findClass cls = some ce.cls := by
    have h9 := hO.cls
    rw [hvm] at h9
    exact h9
  have hall : s.sameButNew ({ U with vm := s.vm } : State) locs mc ms := by
    subst hA
    obtain ⟨e1, e2⟩ := hsame
    rw [State.setFrames_setFrames] at e1
    have h2 : (T.setVm s.vm).sameButNew ({ U with vm := s.vm } : State) [] (0 + 1) (0 + 6) := ⟨e1, e2⟩
    have h3 := X.same.trans h2
    rw [List.append_nil] at h3
    exact h3.mono hc hs
  refine ⟨U, ?_, .threw T.heap.size, hrun, hend, Or.inr ⟨T.heap.size, rfl, cls, ce, locs, hx U hWs.alike f1 (fun q hq => f2 q hq (fun z hz => nomatch hz)), hce, hO.vm, hcl, hWs, hall, hf⟩⟩
  refine st1 _ ?_
  show Steps p.tables e below (T1.setTop { method := m, pc := pc + 3, locals := ls, stack := .ref T.heap.size :: rest, locked := none }) _
  jvm_step X₁.here [X₁.here.top, hexec, d3', Value.category]
  exact X₁.ldcString hexec (own := own) (text := text) (index := is) (a := sa) hown' hstr'.1 hstr'.2
    (g := { method := m, pc := pc + 4, locals := ls, stack := .ref T.heap.size :: .ref T.heap.size :: rest, locked := none }) rfl d4' _ hsteps
/-- 'throw new E("text")', the text by a wide index -/
theorem vx_throwSW {cc : ByteArray} {pc : Nat} (hexec : p.tables.exec = Jvm.exec) (hb : c.code = cc) (hl : l.stackTraces = false) {own cls text : String} {names : List String} {ik is ic mc ms sa : Nat} {A : Nat → Prop}
    (hown : s.vm.findClass own = some m.cls) (hcls : Bundle.fit cls = true) (hnames : ∀ n ∈ names, Bundle.fit n = true)
    (hk : (Cond.classLink own ik cls).before args s = true) (hini : (Cond.initialized cls).before args s = true) (hstr : vk_R own is text sa s) (hat : ∀ w ∈ vx_atS own ic cls names, w.before args s = true)
    (hgood : ∀ w ∈ Cond.classLink own ik cls :: Cond.initialized cls :: vx_atS own ic cls names, vx_ot w = true)
    (hU : vx_Zq Bundle.tN "UNASSIGNED_STACK" Bundle.steD A s s.heap) (hN : vx_Zq Bundle.tN "SUPPRESSED_SENTINEL" Bundle.listD A s s.heap) (hS : va_S A s.heap H locs) (hsize : ls.size = c.maxLocals)
    (d0 : decode cc pc = .ok (.new ik, 3)) (d3 : decode cc (pc + 3) = .ok (.dup, 1)) (d4 : decode cc (pc + 4) = .ok (.ldc_w is, 3)) (d7 : decode cc (pc + 7) = .ok (.invokespecial ic, 3)) (d10 : decode cc (pc + 10) = .ok (.athrow, 1))
    (hout : ∀ x ∈ c.exceptionTable.toList, covers x (pc + 10) = false)
    (hRframes : names.length + 3 < R.frames) (hRlocals : (rest.map fun v => v.category).sum + (13 * (names.length + 1) + 43) ≤ R.locals) (hRcells : cells + 1 ≤ R.cells) (hRslots : slots + 6 ≤ R.slots) (hlocks : meth.locks = false)
    (hx : ∀ t : State, s.vm.Alike t.vm → H.size ≤ t.heap.size → (∀ q : Nat, q < H.size → t.heap[q]? = H[q]?) → XC cls s t)
    (hf : ∀ z ∈ locs, free z.base) (hc : cells + 1 ≤ mc) (hs : slots + 6 ≤ ms) :
    W p l e R s m args below meth c H locs cells slots (vx_MQ below Qc XC args s mc ms free) (F0 m pc ls rest) := by
  intro T hT X
  have htr : e.platform.stackTraces = false := (show e.platform.stackTraces = l.stackTraces by rw [X.admits.platform]).trans hl
  have Y := vx_rebase X (R' := { frames := R.frames, locals := R.locals, cells := 1, slots := 6 }) (Nat.le_refl _) (Nat.le_refl _) hRcells hRslots
  obtain ⟨s', hA⟩ : ∃ z, z = (T.setVm s.vm).setFrames (.invoking m args :: below) := ⟨_, rfl⟩
  rw [← hA] at Y
  have hvm : s'.vm = s.vm := by rw [hA]; rfl
  have hhp : s'.heap = H := by rw [hA]; exact hT
  have hW0 : s.WarmedH s'.vm := by rw [hvm]; exact State.WarmedH.refl s
  have hat' : ∀ w ∈ vx_atS own ic cls names, w.before args s' = true := fun w hw => vx_ot_at hW0 hvm.symm (hgood w (List.mem_cons_of_mem _ (List.mem_cons_of_mem _ hw))) (hat w hw)
  have hk' : (Cond.classLink own ik cls).before args s' = true := vx_ot_at hW0 hvm.symm (hgood _ List.mem_cons_self) hk
  have hini' : (Cond.initialized cls).before args s' = true := vx_ot_at hW0 hvm.symm (hgood _ (List.mem_cons_of_mem _ List.mem_cons_self)) hini
  have hU' : vx_Zq Bundle.tN "UNASSIGNED_STACK" Bundle.steD A s' s'.heap := by rw [hhp]; exact vx_Zq.moved hW0.alike (hU.kept hS.2.1)
  have hN' : vx_Zq Bundle.tN "SUPPRESSED_SENTINEL" Bundle.listD A s' s'.heap := by rw [hhp]; exact vx_Zq.moved hW0.alike (hN.kept hS.2.1)
  have h : ∀ w ∈ Bundle.ownAtoms own ic cls names, w.before args s' = true := vx_own hat' (vx_isRefq hU'.1) (vx_isRefq hN'.1) hU'.2.word hN'.2.word
  have hown' : s'.vm.findClass own = some m.cls := by rw [hvm]; exact hown
  have hins : (Cond.instantiable cls 6).before args s' = true := h _ (by simp [Bundle.ownAtoms])
  obtain ⟨vm₁, cX, kX, hfX, hkX, -, -, X₁, st1⟩ := Y.newCold hexec (own := own) (C := cls) (index := ik) (n := 6) hown' hk' hins hini'
    (g := F0 m pc ls rest) rfl (by rw [hb]; exact d0) (Nat.le_refl _) (Nat.le_refl _)
  generalize hT1 : (T.setVm vm₁).pushCell { cls := cX, slots := kX.instanceTypes.map defaultValue, vm := .none } = T1 at X₁ st1
  have hcat : (Value.ref T.heap.size).category = 1 := rfl
  have hcellA : T1.heap[T.heap.size]? = some (freshCell cX kX) := by rw [← hT1]; exact State.heap_pushCell_size _ _
  have d3' : decode c.code (pc + 3) = .ok (.dup, 1) := by rw [hb]; exact d3
  have d4' : decode c.code (pc + 4) = .ok (.ldc_w is, 3) := by rw [hb]; exact d4
  have hstr' : vk_R own is text sa s' := vk_R.warm hW0 hstr
  obtain ⟨U, hsteps, hrun, hend, hW, hsame, ce, hce, hO⟩ := X₁.ctorThrowS hexec htr (own := own) (cls := cls) (names := names) (ic := ic) hown' hcls hnames h (fun x hx => nomatch hx) hfX hkX hcellA (by rw [hhp, hT]; exact Nat.le_refl _) (msg := .ref sa) rfl
    (g := { method := m, pc := pc + 7, locals := ls, stack := .ref sa :: .ref T.heap.size :: .ref T.heap.size :: rest, locked := none }) rfl hsize rfl rfl (rest := rest) rfl
    (by rw [hb]; exact d7) (by rw [hb]; exact d10) hout hRframes (by simp only [List.map_cons, List.sum_cons, hcat]; omega) hlocks
  obtain ⟨f1, f2⟩ := vx_frame hsame
  rw [hhp] at f1 f2
  have hWs : s.WarmedH U.vm := State.WarmedH.trans hW0 hW
  have hcl : s.vm.findClass cls = some ce.cls := by
    have h9 := hO.cls
    rw [hvm] at h9
    exact h9
  have hall : s.sameButNew ({ U with vm := s.vm } : State) locs mc ms := by
    subst hA
    obtain ⟨e1, e2⟩ := hsame
    rw [State.setFrames_setFrames] at e1
    have h2 : (T.setVm s.vm).sameButNew ({ U with vm := s.vm } : State) [] (0 + 1) (0 + 6) := ⟨e1, e2⟩
    have h3 := X.same.trans h2
    rw [List.append_nil] at h3
    exact h3.mono hc hs
  refine ⟨U, ?_, .threw T.heap.size, hrun, hend, Or.inr ⟨T.heap.size, rfl, cls, ce, locs, hx U hWs.alike f1 (fun q hq => f2 q hq (fun z hz => nomatch hz)), hce, hO.vm, hcl, hWs, hall, hf⟩⟩
  refine st1 _ ?_
  show Steps p.tables e below (T1.setTop { method := m, pc := pc + 3, locals := ls, stack := .ref T.heap.size :: rest, locked := none }) _
  jvm_step X₁.here [X₁.here.top, hexec, d3', Value.category]
  exact X₁.ldcStringW hexec (own := own) (text := text) (index := is) (a := sa) hown' hstr'.1 hstr'.2
    (g := { method := m, pc := pc + 4, locals := ls, stack := .ref T.heap.size :: .ref T.heap.size :: rest, locked := none }) rfl d4' _ hsteps
end Ends
section Bodies
variable {l : Launch}
theorem vx_ofW {y : MethodName} {ws ws' : List Cond} {rm : Room} {Pc : Array Value → State → Prop} {Qc : Array Value → State → Outcome → State → Prop} {XC : String → State → State → Prop} {mc ms : Nat} {free : Addr → Prop} {cc : ByteArray} {maxL : Nat} {ret : Option FieldType}
    (hy : plainName y.cls = true) (hw : ws = Cond.code y cc maxL ret :: ws')
    (body : ∀ p e s m args below meth c s₁, BodyLoose p l y (headSpec ws rm) cc maxL ret e s m args below meth c s₁ → c.maxLocals = maxL → (∀ x ∈ c.exceptionTable.toList, False) → Pc args s →
      W p l e (headSpec ws rm).room s m args below meth c s.heap [] 0 0 (vx_MQ below Qc XC args s mc ms free) (entryFrame m args maxL)) : vx_Met l y ws rm Pc Qc XC mc ms free := by
  refine MetFree.of_bodyS (code := cc) (maxLocals := maxL) (ret := ret) hy ?_ ?_
  · intro args s m h hn
    obtain ⟨meth, c, h1, h2, h3, h4, h5, h6, -, -⟩ := Cond.code_spec hn (atoms_spec (ws := ws) h _ (by rw [hw]; exact List.mem_cons_self))
    exact ⟨meth, c, h1, h2, h3, h4, h5, h6⟩
  · intro p e s m args below meth c s₁ B hml hP _
    have hh0 : s₁.heap = s.heap := by rw [B.state]; rfl
    have ht : ∀ x ∈ c.exceptionTable.toList, False := by
      obtain ⟨meth9, c9, h1, h2, -, -, -, -, h7, -⟩ := Cond.code_spec B.named (atoms_spec (ws := ws) B.pre _ (by rw [hw]; exact List.mem_cons_self))
      cases Option.some.inj (h1.symm.trans B.method)
      cases Option.some.inj (h2.symm.trans (Stand.of_body B).code)
      intro x hx
      rw [Array.isEmpty_iff.mp h7] at hx
      cases hx
    obtain ⟨t, a1, o, b1, b2, b3⟩ := body p e s m args below meth c s₁ B hml ht hP s₁ hh0 (Stand.of_body B)
    exact ⟨t, o, a1, b1, b2, b3⟩
/-- the table of a body with handlers -/
theorem vx_table {p : Program} {x y : MethodName} {S : Spec} {cc bytes : ByteArray} {maxL maxL' : Nat} {ret ret' : Option FieldType} {e : Env} {s s₁ : State} {m : MethodId} {args : Array Value} {below : List Frame} {meth : Method} {c : Code} {hh : List (Nat × Nat × Nat × Nat)}
    (B : BodyLoose p l y S cc maxL ret e s m args below meth c s₁) (h : (Cond.codeWith y bytes maxL' ret' hh).before args s = true) : c.exceptionTable.toList = tableOf hh := by
  obtain ⟨m9, meth9, c9, hn9, h1, h2, -, -, h6, -⟩ := Cond.codeWith_spec h
  cases Option.some.inj (hn9.symm.trans B.named)
  cases Option.some.inj (h1.symm.trans B.method)
  cases Option.some.inj (h2.symm.trans (Stand.of_body B).code)
  rw [← h6, table_eq]
end Bodies
end VXA
/-! ===== END ===== -/
/-! ===== BEGIN a static call of a method with an exception table ===== -/
section VXS
variable {p : Program} {l : Launch} {e : Env} {R : Room} {s : State} {m : MethodId} {args : Array Value} {below : List Frame} {meth : Method} {c : Code} {T : State} {H : Heap} {locs : List Loc} {cells slots : Nat}
abbrev vx_CSW (R : Room) (s : State) (args : Array Value) (own : String) (index : Nat) (y : MethodName) (bytes : ByteArray) (maxL : Nat) (ret : Option FieldType) (hh : List (Nat × Nat × Nat × Nat)) (ws : List Cond) (rm : Room) (mc ms n : Nat) : Prop :=
  (rm.cells = mc ∧ rm.slots = ms ∧ rm.frames + 1 ≤ R.frames ∧ 8 + (maxL + 11) + rm.locals ≤ R.locals ∧ (∀ w ∈ ws, ∀ (a' : Array Value) (U : State), s.WarmedH U.vm → w.before a' U = true) ∧ Cond.codeWith y bytes maxL ret hh ∈ ws) ∧
  (Cond.codeWith y bytes maxL ret hh).before args s = true ∧ (Cond.initialized y.cls).before args s = true ∧ (y.cls ≠ "java/lang/invoke/MethodHandle" ∧ y.cls ≠ "java/lang/invoke/VarHandle") ∧
  (∀ sig, parseMethodDescriptor y.desc = some sig → n = sig.parameters.length) ∧ (Cond.methodLink own index y).before args s = true ∧ (Cond.static y).before args s = true
theorem vx_cwSW {own : String} {index maxL mc ms : Nat} {y : MethodName} {bytes : ByteArray} {ret : Option FieldType} {hh : List (Nat × Nat × Nat × Nat)} {Ts ws ws' : List Cond} {rm : Room} (n : Nat) (ht : ∀ w ∈ Ts, w.before args s = true) (hT : GoodIn Ts (va_wsS own index y ws)) (hw : ws = Cond.codeWith y bytes maxL ret hh :: ws') (hrc : rm.cells = mc) (hrs : rm.slots = ms)
    (hd : y.cls ≠ "java/lang/invoke/MethodHandle" ∧ y.cls ≠ "java/lang/invoke/VarHandle" ∧ (parseMethodDescriptor y.desc).map (fun d => d.parameters.length) = some n) (hR : rm.frames + 1 ≤ R.frames ∧ 8 + (maxL + 11) + rm.locals ≤ R.locals) :
    vx_CSW R s args own index y bytes maxL ret hh ws rm mc ms n := by
  have ok : ∀ w ∈ va_wsS own index y ws, w.before args s = true := fun w h => ht w (hT w h).1
  have hG : GoodIn Ts ws := fun w h => hT w (by unfold va_wsS; exact List.mem_append_right _ h)
  have hc : Cond.codeWith y bytes maxL ret hh ∈ ws := by rw [hw]; exact List.mem_cons_self
  refine ⟨⟨hrc, hrs, hR.1, hR.2, pay_in ht hG, hc⟩, ht _ (hG _ hc).1, ok _ (by simp [va_wsS]), ⟨hd.1, hd.2.1⟩, fun sig h => ?_, ok _ (by simp [va_wsS]), ok _ (by simp [va_wsS])⟩
  have h2 := hd.2.2
  rw [h] at h2
  exact (Option.some.inj h2).symm
theorem vx_callSW (X : Stand p l e R s m args below meth c T locs cells slots) (hexec : p.tables.exec = Jvm.exec) {own : String} {index : Nat} {y : MethodName} {bytes : ByteArray} {maxL : Nat} {ret : Option FieldType} {hh : List (Nat × Nat × Nat × Nat)}
    (hown : s.vm.findClass own = some m.cls) (hlink : (Cond.methodLink own index y).before args s = true) (hstat : (Cond.static y).before args s = true) (hinit : (Cond.initialized y.cls).before args s = true)
    (hcode : (Cond.codeWith y bytes maxL ret hh).before args s = true) (hy : y.cls ≠ "java/lang/invoke/MethodHandle" ∧ y.cls ≠ "java/lang/invoke/VarHandle")
    {W9 : Nat} {Pre : Pt → Array Value → Prop} {Post : Pt → Array Value → Option Value → Pt → Prop} (hK : Back l R p e below s args y 3 W9 Pre Post)
    {g : JFrame} (hg : g.method = m) (hsize : g.locals.size = c.maxLocals) {argsL rest : List Value} (hlen : ∀ sig, parseMethodDescriptor y.desc = some sig → argsL.length = sig.parameters.length)
    (hstack : g.stack = argsL.reverse ++ rest) (hW : 2 * g.monitorRoom + (rest.map fun v => v.category).sum ≤ W9) (hdg : decode c.code g.pc = .ok (.invokestatic index, 3))
    (hpre : ∀ vm₁, s.WarmedH vm₁ → Pre ⟨T.setVm vm₁, locs, cells, slots⟩ argsL.toArray) :
    ∃ (v : Option Value) (vm₁ : Vm) (B : Pt), s.WarmedH vm₁ ∧ Stand p l e R s m args below meth c B.U B.locs B.cells B.slots ∧ Post ⟨T.setVm vm₁, locs, cells, slots⟩ argsL.toArray v B ∧
      ∀ target, Steps p.tables e below (B.U.setTop { g with pc := g.pc + 3, stack := v.toList ++ rest }) target → Steps p.tables e below (T.setTop g) target := by
  obtain ⟨mk, methM, cM, hnamed, hmethM, -, -, -, -, -, -, hsigM⟩ := Cond.codeWith_spec hcode
  have hstatic : methM.isStatic = true := Cond.static_spec hnamed hmethM hstat
  obtain ⟨kP, hkP, -⟩ := className_of_methodNamed hnamed
  have hinitP : kP.init = .initialized := Cond.initialized_spec (findClass_of_methodNamed hnamed) hkP hinit
  obtain ⟨vm₁, X₁, hstep₁⟩ := X.invokestatic hexec hown hlink hnamed hmethM hstatic hkP hinitP hy (g := g) hg (argsL := argsL) (rest := rest) (hlen _ hsigM) hstack hdg
  obtain ⟨v, B, X', hpost, hsteps⟩ := hK m meth c ⟨T.setVm vm₁, locs, cells, slots⟩ { g with stack := rest } (.invokestatic index) mk argsL.toArray X₁ hg hsize hdg hW (X₁.named hnamed) (hpre vm₁ X₁.warmed)
  exact ⟨v, vm₁, B, X₁.warmed, X', hpost, fun target h => hstep₁ _ fun acts => by rw [doInvoke_state]; exact hsteps.trans h⟩
theorem vx_runSW {y : MethodName} {bytes cc : ByteArray} {maxL nL mc ms n index : Nat} {ret : Option FieldType} {hh : List (Nat × Nat × Nat × Nat)} {ws : List Cond} {rm : Room} {Pc : Array Value → State → Prop} {Qc : Array Value → State → Outcome → State → Prop} {free : Addr → Prop} {Ts : List Cond} {own : String} {As rest : List Value} {g : JFrame}
    (S : CallFix p m c cc nL s args Ts own) (hM : Met l y ws rm Pc Qc mc ms free) (cw : vx_CSW R s args own index y bytes maxL ret hh ws rm mc ms n) (hp : PreS s H Pc As)
    (hg : g.method = m) (hn : As.length = n) (hsize : g.locals.size = nL) (hstack : g.stack = As.reverse ++ rest) (hW : 2 * g.monitorRoom + (rest.map fun v => v.category).sum ≤ 8) (hdg : decode cc g.pc = .ok (.invokestatic index, 3)) (hf : cells + mc ≤ R.cells ∧ slots + ms ≤ R.slots) :
    va_Run p l e R s m args below meth c H locs cells slots mc ms g rest (Qc As.toArray) (free) := by
  obtain ⟨⟨hrc, hrs, hfr, hlo, hws, hcw⟩, hcode, hini, hy, hlen, hl, hstt⟩ := cw
  have hK : Back l R p e below s args y 3 8 (PreOf R mc ms Pc) (PostOf Qc mc ms free) := va_backW (hh := hh) (bytes := bytes) (maxL := maxL) (ret := ret) hM hp.1 hrc hrs hfr hlo hws hcw (fun a' U hW => word_at hW (Or.inl (by first | rfl | simp [Cond.onTables, Cond.keeps, Cond.steady])) hini)
  obtain ⟨hx, hb, hml, ho, -⟩ := S
  intro T hT X
  obtain ⟨v, vm₁, ⟨U', l2, c2, s2⟩, hW₁, X', ⟨g', mk, t, L, e1, e2, hq, h1, hL, h2, h3⟩, st⟩ := vx_callSW X hx (hh := hh) (bytes := bytes) (maxL := maxL) (ret := ret) ho hl hstt hini hcode hy hK hg (hsize.trans hml.symm) (argsL := As) (rest := rest) (fun sig h => hn.trans (hlen sig h)) hstack hW (by rw [hb]; exact hdg)
    (fun vm₁ hW₁ => ⟨hf.1, hf.2, hp.2 (T.setVm vm₁) hT hW₁⟩)
  dsimp only [Pt.U, Pt.locs, Pt.cells, Pt.slots] at X' e1 e2 h1 h2 h3 st
  subst h1; subst h2; subst h3
  exact ⟨v, (T.setVm vm₁).calling g' mk As.toArray, t, U', L, hT, X', hL, e1, e2, hq, st⟩
/-- not caught here, past rows that name other classes: it goes on to the caller -/
theorem vx_outP {p : Program} {l : Launch} {e : Env} {R : Room} {s : State} {m : MethodId} {args : Array Value} {below : List Frame} {meth : Method} {c : Code} {H : Heap} {locs : List Loc} {cells slots : Nat} {free : Addr → Prop} {ls : Array Slot} {rest : List Value} {Qc : Array Value → State → Outcome → State → Prop} {XC : String → State → State → Prop}
    {pc : Nat} {own E : String} {ce : Cell} {q : Addr} {mc ms : Nat} (hown : s.vm.findClass own = some m.cls) (hlocks : meth.locks = false)
    (hpass : ∀ z ∈ c.exceptionTable.toList, covers z pc = false ∨ (z.catchType ≠ 0 ∧ ∃ nm : String, (Cond.classLink own z.catchType nm).before args s = true ∧ va_Nc E nm s)) (hcell : H[q]? = some ce) (hv : ce.vm = .none) (hcl : s.vm.findClass E = some ce.cls)
    (hx : ∀ t : State, t.heap = H → s.vm.Alike t.vm → XC E s t) (hf : ∀ z ∈ locs, free z.base) (hc : cells ≤ mc) (hs : slots ≤ ms) :
    vx_W p l e R s m args below meth c H locs cells slots (vx_MQ below Qc XC args s mc ms free) (F0 m pc ls rest) q := by
  intro T hT X
  have hpl : e.platform.magicAccessors = ({} : Platform).magicAccessors := by rw [X.admits.platform]
  obtain ⟨vm', hW', X', st⟩ := X.outThrough hlocks q (g := F0 m pc ls rest) rfl rfl rfl (cell := ce) (by rw [hT]; exact hcell) (by rw [hv]; rfl)
    (by obtain ⟨k9, h9, -⟩ := Vm.findClass_spec hcl; exact ⟨k9, h9⟩) (fun z hz => by
      rcases hpass z hz with h | ⟨hz0, nm, hl1, hn1⟩
      · exact Or.inl h
      · obtain ⟨c6, hc6, hcl6⟩ := Cond.classLink_spec hown hl1 e.platform hpl
        obtain ⟨a8, b8, h1, h2, h3⟩ := hn1
        cases Option.some.inj (h1.symm.trans hcl)
        cases Option.some.inj (h2.symm.trans hc6)
        exact Or.inr ⟨hz0, _, hcl6, h3⟩)
  obtain ⟨g₀, hfr⟩ := X'.frames_eq
  have hcell9 : ((T.setVm vm').setFrames (.throwing q :: below)).heap[q]? = some ce := by
    show T.heap[q]? = some ce
    rw [hT]; exact hcell
  have hend : Ended ((T.setVm vm').setFrames (.throwing q :: below)) below (.threw q) := State.frames_setFrames _ (State.cur_lt_of_frames hfr)
  refine ⟨(T.setVm vm').setFrames (.throwing q :: below), ?_, .threw q, X'.here.running, hend, Or.inr ⟨q, rfl, E, ce, locs, hx _ hT (X'.ends _).1.alike, hcell9, hv, hcl, (X'.ends _).1, (X'.ends _).2.mono hc hs, hf⟩⟩
  rw [X.pushThrowing_eq]
  exact st
/-- a thing of a world lies in the heap -/
theorem vx_lt {D : va_G} {cl : List vw_C} {ws : va_W} {H1 : Heap} (h : va_P D cl ws H1) {k : Nat} {q : Nat × va_E} (hk : ws[k]? = some q) : q.1 < H1.size := (h k q hk).lt
end VXS
/-! ===== END ===== -/
/-! ===== BEGIN methods with a table of their own: called by a name, returning or throwing ===== -/
section VXH
/-! vx_backW, vx_callVX, vx_callSX, vx_callVW, vx_runVW, vx_runVX, vx_runSX, vx_ofWH follow the same proofs as their sisters above (Free/Laws.lean, Shelf42/LK1.lean); vx_outP calls Shelf42/NT130.lean (outThrough). -/
section
variable {l : Launch} {R : Room} {p : Program} {e : Env} {below : List Frame} {s : State} {sargs : Array Value} {y : MethodName} {len W9 : Nat}
theorem vx_backW {ws : List Cond} {rm : Room} {Pc : Array Value → State → Prop} {Qc : Array Value → State → Outcome → State → Prop} {XC : String → State → State → Prop} {mc ms : Nat} {free : Addr → Prop} {bytes : ByteArray} {maxL : Nat} {ret : Option FieldType} {hh : List (Nat × Nat × Nat × Nat)}
    (hM : vx_Met l y ws rm Pc Qc XC mc ms free) (hblind : FrameBlind Pc) (hrc : rm.cells = mc) (hrs : rm.slots = ms)
    (hframes : rm.frames + 1 ≤ R.frames) (hlocals : W9 + (maxL + 11) + rm.locals ≤ R.locals)
    (hws : ∀ w ∈ ws, ∀ a' U, s.WarmedH U.vm → w.before a' U = true) (hcode : Cond.codeWith y bytes maxL ret hh ∈ ws) (hinit : ∀ a' U, s.WarmedH U.vm → (Cond.initialized y.cls).before a' U = true) :
    vx_Back l R p e below s sargs y len W9 (PreOf R mc ms Pc) (PostOf Qc mc ms free) (vx_Post XC mc ms free) := by
  intro m meth c A g ig mk a X hg hsize hdg hW hn hp
  have h1 : (headSpec ws rm).pre.before a A.U = true := atoms_intro fun w hw => hws w hw _ _ X.warmed
  have h2 : (Cond.codeWith y bytes maxL ret hh).before a A.U = true := hws _ hcode _ _ X.warmed
  have h3 : (Cond.initialized y.cls).before a A.U = true := hinit _ _ X.warmed
  have h4 : A.cells + (headSpec ws rm).room.cells ≤ R.cells := by rw [show (headSpec ws rm).room.cells = mc from hrc]; exact hp.1
  have h5 : A.slots + (headSpec ws rm).room.slots ≤ R.slots := by rw [show (headSpec ws rm).room.slots = ms from hrs]; exact hp.2.1
  have hPc : Pc a (A.U.calling g mk a) := hblind _ _ _ _ hp.2.2
  obtain ⟨U, Ls, c0, s0⟩ := A
  dsimp only [Pt.U, Pt.locs, Pt.cells, Pt.slots] at h1 h2 h3 h4 h5 X hn hPc ⊢
  obtain ⟨m9, methY, cY, hn9, hmY, hcY, -, hlY, -⟩ := Cond.codeWith_spec h2
  cases Option.some.inj (hn9.symm.trans hn)
  obtain ⟨kY, hkY, -⟩ := className_of_methodNamed hn
  have hinitY : kY.init = .initialized := Cond.initialized_spec (findClass_of_methodNamed hn) hkY h3
  have h : At U g.method c below := by rw [hg]; exact X.here
  have hlocals9 : W9 + (maxL + 11) + (headSpec ws rm).room.locals ≤ R.locals := hlocals
  have happ : (headSpec ws rm).appliesLoose y e.platform (U.calling g mk a) = true :=
    Spec.appliesLoose_calling (g := g) h hdg hn hkY hinitY
      (X.room_calling (g := g) (R' := (headSpec ws rm).room) hsize hmY hcY hframes (by rw [hlY]; omega) h4 h5) h1
  obtain ⟨mid, hmid⟩ := h.above
  have hfr : (U.setTop g).frames = (.java g :: mid) ++ below := by rw [State.frames_setTop' g h.top, hmid]; rfl
  obtain ⟨o, s₂, hsteps, -, hend, hq⟩ := Steps.callFree hM p X.admits X.cas X.clock (acts := []) hfr happ hPc trivial
  have hq' : vx_Q Qc XC mc ms free a (U.calling g mk a) o s₂ := hq
  rw [State.frames_setTop' g h.top] at hend
  obtain ⟨g₀, hg0⟩ := Option.isSome_iff_exists.mp h.top
  obtain ⟨r, hr⟩ := State.topJava?_eq_some.mp hg0
  have hr' : (({ U with heap := s₂.heap, slotsUsed := s₂.slotsUsed } : State).setVm s₂.vm).frames = .java g₀ :: r := hr
  rcases hq' with ⟨hqc, L, hfe, hL⟩ | ⟨q, rfl, E, ce, L, hx, hce, hcv, hcl, hW₂, hsm, hL⟩
  · obtain ⟨⟨v, rfl⟩, hW₂, e2, q2, q3, q4, q5, q6⟩ := id hfe
    have e3 : s₂ = ({ (U.calling g mk a).setFrames s₂.frames with heap := s₂.heap, slotsUsed := s₂.slotsUsed } : State).setVm s₂.vm := by
      have : s₂ = ({ s₂ with vm := (U.calling g mk a).vm } : State).setVm s₂.vm := rfl
      rw [e2] at this
      exact this
    obtain ⟨c₂, i₂, len₂, hc₂, hd₂, hf₂⟩ := hend
    have hW' : U.WarmedH s₂.vm := hW₂
    have hcc : c₂ = c := by
      have h1 : s₂.code? g.method = U.code? g.method := by
        rw [State.code?_eq, State.code?_eq, hW'.alike.method?]
      exact Option.some.inj (hc₂.symm.trans (h1.trans h.code))
    subst hcc
    have hlen : len₂ = len := by rw [hdg] at hd₂; cases hd₂; rfl
    subst hlen
    have hs₂ : s₂ = (({ U with heap := s₂.heap, slotsUsed := s₂.slotsUsed } : State).setVm s₂.vm).setTop { g with pc := g.pc + len₂, stack := v.toList ++ g.stack } := by
      refine e3.trans ?_
      rw [hf₂, State.calling_eq h.top, State.setFrames_setFrames, State.setTop_of_frames _ hr', hr]
      rfl
    have hsame : U.sameButNew ({ U with heap := s₂.heap, slotsUsed := s₂.slotsUsed } : State) L mc ms := by
      refine ⟨?_, q2, q3, q4, q5, q6⟩
      obtain ⟨t, ht, -⟩ := State.frames_cons hr
      show ({ U with heap := s₂.heap, slotsUsed := s₂.slotsUsed } : State) = { U.setFrames U.frames with heap := s₂.heap, slotsUsed := s₂.slotsUsed }
      rw [State.setFrames_self ht]
    subst hg
    refine Or.inl ⟨v, ⟨(({ U with heap := s₂.heap, slotsUsed := s₂.slotsUsed } : State).setVm s₂.vm), Ls ++ L, c0 + mc, s0 + ms⟩,
      ⟨X.admits, X.cas, X.clock, X.frames, X.room, X.hears, X.method, X.code, (X.here.setHeapUsed s₂.heap s₂.slotsUsed).setVm hW'.alike, X.tail, State.WarmedH.trans X.warmed hW', X.limits, X.bytes, X.same.trans (hsame.setVm s.vm)⟩,
      ⟨g, mk, s₂, L, rfl, rfl, hqc, rfl, hL, rfl, rfl⟩, ?_⟩
    show Steps p.tables e below _ ((({ U with heap := s₂.heap, slotsUsed := s₂.slotsUsed } : State).setVm s₂.vm).setTop { g with pc := g.pc + len₂, stack := v.toList ++ g.stack })
    rw [← hs₂]
    exact hsteps
  · obtain ⟨e2, q2, q3, q4, q5, q6⟩ := id hsm
    have e3 : s₂ = ({ (U.calling g mk a).setFrames s₂.frames with heap := s₂.heap, slotsUsed := s₂.slotsUsed } : State).setVm s₂.vm := by
      have : s₂ = ({ s₂ with vm := (U.calling g mk a).vm } : State).setVm s₂.vm := rfl
      rw [e2] at this
      exact this
    have hf₂ : s₂.frames = .throwing q :: .java g :: U.frames.tail := hend
    have hW' : U.WarmedH s₂.vm := hW₂
    have hs₂ : s₂ = ((({ U with heap := s₂.heap, slotsUsed := s₂.slotsUsed } : State).setVm s₂.vm).setTop g).pushFrame (.throwing q) := by
      refine e3.trans ?_
      rw [hf₂, State.calling_eq h.top, State.setFrames_setFrames, State.pushFrame, State.frames_setTop _ hr', State.setTop_of_frames _ hr', State.setFrames_setFrames, hr]
      rfl
    have hsame : U.sameButNew ({ U with heap := s₂.heap, slotsUsed := s₂.slotsUsed } : State) L mc ms := by
      refine ⟨?_, q2, q3, q4, q5, q6⟩
      obtain ⟨t, ht, -⟩ := State.frames_cons hr
      show ({ U with heap := s₂.heap, slotsUsed := s₂.slotsUsed } : State) = { U.setFrames U.frames with heap := s₂.heap, slotsUsed := s₂.slotsUsed }
      rw [State.setFrames_self ht]
    subst hg
    refine Or.inr ⟨q, ⟨(({ U with heap := s₂.heap, slotsUsed := s₂.slotsUsed } : State).setVm s₂.vm), Ls ++ L, c0 + mc, s0 + ms⟩,
      ⟨X.admits, X.cas, X.clock, X.frames, X.room, X.hears, X.method, X.code, (X.here.setHeapUsed s₂.heap s₂.slotsUsed).setVm hW'.alike, X.tail, State.WarmedH.trans X.warmed hW', X.limits, X.bytes, X.same.trans (hsame.setVm s.vm)⟩,
      ⟨g, mk, s₂, L, E, ce, rfl, rfl, hx, hce, hcv, hcl, rfl, hL, rfl, rfl⟩, ?_⟩
    show Steps p.tables e below _ (((({ U with heap := s₂.heap, slotsUsed := s₂.slotsUsed } : State).setVm s₂.vm).setTop g).pushFrame (.throwing q))
    rw [← hs₂]
    exact hsteps
end
variable {p : Program} {l : Launch} {e : Env} {R : Room} {s : State} {m : MethodId} {args : Array Value} {below : List Frame} {meth : Method} {c : Code} {T : State} {H : Heap} {locs : List Loc} {cells slots : Nat}
theorem vx_callVX (X : Stand p l e R s m args below meth c T locs cells slots) (hexec : p.tables.exec = Jvm.exec) {own C : String} {index : Nat} {y : MethodName} {bytes : ByteArray} {maxL : Nat} {ret : Option FieldType} {hh : List (Nat × Nat × Nat × Nat)}
    (hown : s.vm.findClass own = some m.cls) (hlink : (Cond.methodLink own index y).before args s = true) (hinst : (Cond.instanceMethod y).before args s = true) (hsel : (Cond.selects C y y).before args s = true)
    (hcode : (Cond.codeWith y bytes maxL ret hh).before args s = true) (hy : y.cls ≠ "java/lang/invoke/MethodHandle" ∧ y.cls ≠ "java/lang/invoke/VarHandle")
    {W9 : Nat} {Pre : Pt → Array Value → Prop} {Post : Pt → Array Value → Option Value → Pt → Prop} {PostX : Pt → Array Value → Addr → Pt → Prop} (hK : vx_Back l R p e below s args y 3 W9 Pre Post PostX)
    {b : Addr} {cellB : Cell} (hcell : T.heap[b]? = some cellB) (hobj : cellB.vm.isStatics = false) (hcls : s.vm.findClass C = some cellB.cls)
    {g : JFrame} (hg : g.method = m) (hsize : g.locals.size = c.maxLocals) {argsL rest : List Value} (hlen : ∀ sig, parseMethodDescriptor y.desc = some sig → argsL.length = sig.parameters.length)
    (hstack : g.stack = argsL.reverse ++ .ref b :: rest) (hW : 2 * g.monitorRoom + (rest.map fun v => v.category).sum ≤ W9) (hdg : decode c.code g.pc = .ok (.invokevirtual index, 3))
    (hpre : ∀ vm₁, s.WarmedH vm₁ → Pre ⟨T.setVm vm₁, locs, cells, slots⟩ (Value.ref b :: argsL).toArray) :
    (∃ (v : Option Value) (vm₁ : Vm) (B : Pt), s.WarmedH vm₁ ∧ Stand p l e R s m args below meth c B.U B.locs B.cells B.slots ∧ Post ⟨T.setVm vm₁, locs, cells, slots⟩ (Value.ref b :: argsL).toArray v B ∧
      ∀ target, Steps p.tables e below (B.U.setTop { g with pc := g.pc + 3, stack := v.toList ++ rest }) target → Steps p.tables e below (T.setTop g) target) ∨
    (∃ (q : Addr) (vm₁ : Vm) (B : Pt), s.WarmedH vm₁ ∧ Stand p l e R s m args below meth c B.U B.locs B.cells B.slots ∧ PostX ⟨T.setVm vm₁, locs, cells, slots⟩ (Value.ref b :: argsL).toArray q B ∧
      Steps p.tables e below (T.setTop g) ((B.U.setTop { g with stack := rest }).pushFrame (.throwing q))) := by
  obtain ⟨mk, methM, hnamed, hmethM, hstM, habM⟩ := Cond.instanceMethod_spec hinst
  obtain ⟨m8, methM', cM, hn8, hmethM', -, -, -, -, -, -, hsigM⟩ := Cond.codeWith_spec hcode
  cases Option.some.inj (hn8.symm.trans hnamed)
  cases hmethM.symm.trans hmethM'
  obtain ⟨c2, r2, m2, q1, q2, q3, q4, kP, hkP, hkPi⟩ := Cond.selects_spec hsel
  cases hcls.symm.trans q1
  cases (State.methodFound?_of_named hnamed hy).symm.trans q2
  cases hnamed.symm.trans q3
  have hselP : selectMethod e.platform s.vm cellB.cls mk = .method mk := by rw [Launch.admits_selectMethod X.admits]; exact q4
  obtain ⟨vm₁, X₁, hstep₁⟩ := X.invokevirtual hexec hown hlink hnamed hmethM hstM hkP hkPi hy (a := b) (cell := cellB) hcell
    (fun z h => by rw [h] at hobj; cases hobj) hselP hmethM habM hkP hkPi (g := g) hg (argsL := argsL) (rest := rest) (hlen _ hsigM) hstack hdg
  rcases hK m meth c ⟨T.setVm vm₁, locs, cells, slots⟩ { g with stack := rest } (.invokevirtual index) mk (Value.ref b :: argsL).toArray X₁ hg hsize hdg hW (X₁.named hnamed) (hpre vm₁ X₁.warmed) with ⟨v, B, X', hpost, hsteps⟩ | ⟨q, B, X', hpost, hsteps⟩
  · exact Or.inl ⟨v, vm₁, B, X₁.warmed, X', hpost, fun target h => hstep₁ _ fun acts => by rw [doInvoke_state]; exact hsteps.trans h⟩
  · exact Or.inr ⟨q, vm₁, B, X₁.warmed, X', hpost, hstep₁ _ fun acts => by rw [doInvoke_state]; exact hsteps⟩
theorem vx_callSX (X : Stand p l e R s m args below meth c T locs cells slots) (hexec : p.tables.exec = Jvm.exec) {own : String} {index : Nat} {y : MethodName} {bytes : ByteArray} {maxL : Nat} {ret : Option FieldType} {hh : List (Nat × Nat × Nat × Nat)}
    (hown : s.vm.findClass own = some m.cls) (hlink : (Cond.methodLink own index y).before args s = true) (hstat : (Cond.static y).before args s = true) (hinit : (Cond.initialized y.cls).before args s = true)
    (hcode : (Cond.codeWith y bytes maxL ret hh).before args s = true) (hy : y.cls ≠ "java/lang/invoke/MethodHandle" ∧ y.cls ≠ "java/lang/invoke/VarHandle")
    {W9 : Nat} {Pre : Pt → Array Value → Prop} {Post : Pt → Array Value → Option Value → Pt → Prop} {PostX : Pt → Array Value → Addr → Pt → Prop} (hK : vx_Back l R p e below s args y 3 W9 Pre Post PostX)
    {g : JFrame} (hg : g.method = m) (hsize : g.locals.size = c.maxLocals) {argsL rest : List Value} (hlen : ∀ sig, parseMethodDescriptor y.desc = some sig → argsL.length = sig.parameters.length)
    (hstack : g.stack = argsL.reverse ++ rest) (hW : 2 * g.monitorRoom + (rest.map fun v => v.category).sum ≤ W9) (hdg : decode c.code g.pc = .ok (.invokestatic index, 3))
    (hpre : ∀ vm₁, s.WarmedH vm₁ → Pre ⟨T.setVm vm₁, locs, cells, slots⟩ argsL.toArray) :
    (∃ (v : Option Value) (vm₁ : Vm) (B : Pt), s.WarmedH vm₁ ∧ Stand p l e R s m args below meth c B.U B.locs B.cells B.slots ∧ Post ⟨T.setVm vm₁, locs, cells, slots⟩ argsL.toArray v B ∧
      ∀ target, Steps p.tables e below (B.U.setTop { g with pc := g.pc + 3, stack := v.toList ++ rest }) target → Steps p.tables e below (T.setTop g) target) ∨
    (∃ (q : Addr) (vm₁ : Vm) (B : Pt), s.WarmedH vm₁ ∧ Stand p l e R s m args below meth c B.U B.locs B.cells B.slots ∧ PostX ⟨T.setVm vm₁, locs, cells, slots⟩ argsL.toArray q B ∧
      Steps p.tables e below (T.setTop g) ((B.U.setTop { g with stack := rest }).pushFrame (.throwing q))) := by
  obtain ⟨mk, methM, cM, hnamed, hmethM, -, -, -, -, -, -, hsigM⟩ := Cond.codeWith_spec hcode
  have hstatic : methM.isStatic = true := Cond.static_spec hnamed hmethM hstat
  obtain ⟨kP, hkP, -⟩ := className_of_methodNamed hnamed
  have hinitP : kP.init = .initialized := Cond.initialized_spec (findClass_of_methodNamed hnamed) hkP hinit
  obtain ⟨vm₁, X₁, hstep₁⟩ := X.invokestatic hexec hown hlink hnamed hmethM hstatic hkP hinitP hy (g := g) hg (argsL := argsL) (rest := rest) (hlen _ hsigM) hstack hdg
  rcases hK m meth c ⟨T.setVm vm₁, locs, cells, slots⟩ { g with stack := rest } (.invokestatic index) mk argsL.toArray X₁ hg hsize hdg hW (X₁.named hnamed) (hpre vm₁ X₁.warmed) with ⟨v, B, X', hpost, hsteps⟩ | ⟨q, B, X', hpost, hsteps⟩
  · exact Or.inl ⟨v, vm₁, B, X₁.warmed, X', hpost, fun target h => hstep₁ _ fun acts => by rw [doInvoke_state]; exact hsteps.trans h⟩
  · exact Or.inr ⟨q, vm₁, B, X₁.warmed, X', hpost, hstep₁ _ fun acts => by rw [doInvoke_state]; exact hsteps⟩
theorem vx_callVW (X : Stand p l e R s m args below meth c T locs cells slots) (hexec : p.tables.exec = Jvm.exec) {own C : String} {index : Nat} {y : MethodName} {bytes : ByteArray} {maxL : Nat} {ret : Option FieldType} {hh : List (Nat × Nat × Nat × Nat)}
    (hown : s.vm.findClass own = some m.cls) (hlink : (Cond.methodLink own index y).before args s = true) (hinst : (Cond.instanceMethod y).before args s = true) (hsel : (Cond.selects C y y).before args s = true)
    (hcode : (Cond.codeWith y bytes maxL ret hh).before args s = true) (hy : y.cls ≠ "java/lang/invoke/MethodHandle" ∧ y.cls ≠ "java/lang/invoke/VarHandle")
    {W9 : Nat} {Pre : Pt → Array Value → Prop} {Post : Pt → Array Value → Option Value → Pt → Prop} (hK : Back l R p e below s args y 3 W9 Pre Post)
    {b : Addr} {cellB : Cell} (hcell : T.heap[b]? = some cellB) (hobj : cellB.vm.isStatics = false) (hcls : s.vm.findClass C = some cellB.cls)
    {g : JFrame} (hg : g.method = m) (hsize : g.locals.size = c.maxLocals) {argsL rest : List Value} (hlen : ∀ sig, parseMethodDescriptor y.desc = some sig → argsL.length = sig.parameters.length)
    (hstack : g.stack = argsL.reverse ++ .ref b :: rest) (hW : 2 * g.monitorRoom + (rest.map fun v => v.category).sum ≤ W9) (hdg : decode c.code g.pc = .ok (.invokevirtual index, 3))
    (hpre : ∀ vm₁, s.WarmedH vm₁ → Pre ⟨T.setVm vm₁, locs, cells, slots⟩ (Value.ref b :: argsL).toArray) :
    ∃ (v : Option Value) (vm₁ : Vm) (B : Pt), s.WarmedH vm₁ ∧ Stand p l e R s m args below meth c B.U B.locs B.cells B.slots ∧ Post ⟨T.setVm vm₁, locs, cells, slots⟩ (Value.ref b :: argsL).toArray v B ∧
      ∀ target, Steps p.tables e below (B.U.setTop { g with pc := g.pc + 3, stack := v.toList ++ rest }) target → Steps p.tables e below (T.setTop g) target := by
  obtain ⟨mk, methM, hnamed, hmethM, hstM, habM⟩ := Cond.instanceMethod_spec hinst
  obtain ⟨m8, methM', cM, hn8, hmethM', -, -, -, -, -, -, hsigM⟩ := Cond.codeWith_spec hcode
  cases Option.some.inj (hn8.symm.trans hnamed)
  cases hmethM.symm.trans hmethM'
  obtain ⟨c2, r2, m2, q1, q2, q3, q4, kP, hkP, hkPi⟩ := Cond.selects_spec hsel
  cases hcls.symm.trans q1
  cases (State.methodFound?_of_named hnamed hy).symm.trans q2
  cases hnamed.symm.trans q3
  have hselP : selectMethod e.platform s.vm cellB.cls mk = .method mk := by rw [Launch.admits_selectMethod X.admits]; exact q4
  obtain ⟨vm₁, X₁, hstep₁⟩ := X.invokevirtual hexec hown hlink hnamed hmethM hstM hkP hkPi hy (a := b) (cell := cellB) hcell
    (fun z h => by rw [h] at hobj; cases hobj) hselP hmethM habM hkP hkPi (g := g) hg (argsL := argsL) (rest := rest) (hlen _ hsigM) hstack hdg
  obtain ⟨v, B, X', hpost, hsteps⟩ := hK m meth c ⟨T.setVm vm₁, locs, cells, slots⟩ { g with stack := rest } (.invokevirtual index) mk (Value.ref b :: argsL).toArray X₁ hg hsize hdg hW (X₁.named hnamed) (hpre vm₁ X₁.warmed)
  exact ⟨v, vm₁, B, X₁.warmed, X', hpost, fun target h => hstep₁ _ fun acts => by rw [doInvoke_state]; exact hsteps.trans h⟩
abbrev vx_CVW (R : Room) (s : State) (args : Array Value) (own C : String) (index : Nat) (y : MethodName) (bytes : ByteArray) (maxL : Nat) (ret : Option FieldType) (hh : List (Nat × Nat × Nat × Nat)) (ws : List Cond) (rm : Room) (mc ms n : Nat) : Prop :=
  (rm.cells = mc ∧ rm.slots = ms ∧ rm.frames + 1 ≤ R.frames ∧ 8 + (maxL + 11) + rm.locals ≤ R.locals ∧ (∀ w ∈ ws, ∀ (a' : Array Value) (U : State), s.WarmedH U.vm → w.before a' U = true) ∧ Cond.codeWith y bytes maxL ret hh ∈ ws) ∧
  (Cond.codeWith y bytes maxL ret hh).before args s = true ∧ (Cond.initialized y.cls).before args s = true ∧ (y.cls ≠ "java/lang/invoke/MethodHandle" ∧ y.cls ≠ "java/lang/invoke/VarHandle") ∧
  (∀ sig, parseMethodDescriptor y.desc = some sig → n = sig.parameters.length) ∧ (Cond.methodLink own index y).before args s = true ∧ (Cond.instanceMethod y).before args s = true ∧ (Cond.selects C y y).before args s = true
theorem vx_cwVW {own C : String} {index maxL mc ms : Nat} {y : MethodName} {bytes : ByteArray} {ret : Option FieldType} {hh : List (Nat × Nat × Nat × Nat)} {Ts ws ws' : List Cond} {rm : Room} (n : Nat) (ht : ∀ w ∈ Ts, w.before args s = true) (hT : GoodIn Ts (wsV own index C y ws)) (hw : ws = Cond.codeWith y bytes maxL ret hh :: ws') (hrc : rm.cells = mc) (hrs : rm.slots = ms)
    (hd : y.cls = C ∧ y.cls ≠ "java/lang/invoke/MethodHandle" ∧ y.cls ≠ "java/lang/invoke/VarHandle" ∧ (parseMethodDescriptor y.desc).map (fun d => d.parameters.length) = some n) (hR : rm.frames + 1 ≤ R.frames ∧ 8 + (maxL + 11) + rm.locals ≤ R.locals) :
    vx_CVW R s args own C index y bytes maxL ret hh ws rm mc ms n := by
  obtain ⟨hC, hd⟩ := hd
  subst hC
  have ok : ∀ w ∈ wsV own index y.cls y ws, w.before args s = true := fun w h => ht w (hT w h).1
  have hG : GoodIn Ts ws := fun w h => hT w (by unfold wsV; exact List.mem_append_right _ h)
  have hc : Cond.codeWith y bytes maxL ret hh ∈ ws := by rw [hw]; exact List.mem_cons_self
  refine ⟨⟨hrc, hrs, hR.1, hR.2, pay_in ht hG, hc⟩, ht _ (hG _ hc).1, ok _ (by simp [wsV]), ⟨hd.1, hd.2.1⟩, fun sig h => ?_, ok _ (by simp [wsV]), ok _ (by simp [wsV]), ok _ (by simp [wsV])⟩
  have h2 := hd.2.2
  rw [h] at h2
  exact (Option.some.inj h2).symm
theorem vx_runVW {y : MethodName} {bytes cc : ByteArray} {maxL nL mc ms n index : Nat} {ret : Option FieldType} {hh : List (Nat × Nat × Nat × Nat)} {ws : List Cond} {rm : Room} {Pc : Array Value → State → Prop} {Qc : Array Value → State → Outcome → State → Prop} {free : Addr → Prop} {Ts : List Cond} {own C : String} {b : Addr} {As rest : List Value} {g : JFrame}
    (S : CallFix p m c cc nL s args Ts own) (hM : Met l y ws rm Pc Qc mc ms free) (cw : vx_CVW R s args own C index y bytes maxL ret hh ws rm mc ms n) (hp : PreV s H C b Pc As)
    (hg : g.method = m) (hn : As.length = n) (hsize : g.locals.size = nL) (hstack : g.stack = As.reverse ++ .ref b :: rest) (hW : 2 * g.monitorRoom + (rest.map fun v => v.category).sum ≤ 8) (hdg : decode cc g.pc = .ok (.invokevirtual index, 3)) (hf : cells + mc ≤ R.cells ∧ slots + ms ≤ R.slots) :
    va_Run p l e R s m args below meth c H locs cells slots mc ms g rest (Qc (Value.ref b :: As).toArray) free := by
  obtain ⟨⟨hrc, hrs, hfr, hlo, hws, hcw⟩, hcode, hini, hy, hlen, hl, hin, hse⟩ := cw
  have hK : Back l R p e below s args y 3 8 (PreOf R mc ms Pc) (PostOf Qc mc ms free) := va_backW (hh := hh) (bytes := bytes) (maxL := maxL) (ret := ret) hM hp.1 hrc hrs hfr hlo hws hcw (fun a' U hW => word_at hW (Or.inl (by first | rfl | simp [Cond.onTables, Cond.keeps, Cond.steady])) hini)
  obtain ⟨hx, hb, hml, ho, -⟩ := S
  obtain ⟨-, ⟨cellB, hcB, hoB, hclB⟩, hPc⟩ := hp
  intro T hT X
  obtain ⟨v, vm₁, ⟨U', l2, c2, s2⟩, hW₁, X', ⟨g', mk, t, L, e1, e2, hq, h1, hL, h2, h3⟩, st⟩ := vx_callVW X hx (C := C) (hh := hh) (bytes := bytes) (maxL := maxL) (ret := ret) ho hl hin hse hcode hy hK (by rw [hT]; exact hcB) hoB hclB hg (hsize.trans hml.symm) (argsL := As) (rest := rest) (fun sig h => hn.trans (hlen sig h)) hstack hW (by rw [hb]; exact hdg)
    (fun vm₁ hW₁ => ⟨hf.1, hf.2, hPc (T.setVm vm₁) hT hW₁⟩)
  dsimp only [Pt.U, Pt.locs, Pt.cells, Pt.slots] at X' e1 e2 h1 h2 h3 st
  subst h1; subst h2; subst h3
  exact ⟨v, (T.setVm vm₁).calling g' mk (Value.ref b :: As).toArray, t, U', L, hT, X', hL, e1, e2, hq, st⟩
section
variable {y : MethodName} {bytes cc : ByteArray} {maxL nL mc ms n index : Nat} {ret : Option FieldType} {ws : List Cond} {rm : Room} {Pc : Array Value → State → Prop} {Qc : Array Value → State → Outcome → State → Prop} {XC : String → State → State → Prop} {free : Addr → Prop} {Ts : List Cond} {own C : String} {b : Addr} {As rest : List Value} {g : JFrame}
theorem vx_runVX {hh : List (Nat × Nat × Nat × Nat)} (S : CallFix p m c cc nL s args Ts own) (hM : vx_Met l y ws rm Pc Qc XC mc ms free) (cw : vx_CVW R s args own C index y bytes maxL ret hh ws rm mc ms n) (hp : PreV s H C b Pc As)
    (hg : g.method = m) (hn : As.length = n) (hsize : g.locals.size = nL) (hstack : g.stack = As.reverse ++ .ref b :: rest) (hW : 2 * g.monitorRoom + (rest.map fun v => v.category).sum ≤ 8) (hdg : decode cc g.pc = .ok (.invokevirtual index, 3)) (hf : cells + mc ≤ R.cells ∧ slots + ms ≤ R.slots) :
    vx_Run p l e R s m args below meth c H locs cells slots mc ms g rest (Qc (Value.ref b :: As).toArray) XC free := by
  obtain ⟨⟨hrc, hrs, hfr, hlo, hws, hcw⟩, hcode, hini, hy, hlen, hl, hin, hse⟩ := cw
  have hK : vx_Back l R p e below s args y 3 8 (PreOf R mc ms Pc) (PostOf Qc mc ms free) (vx_Post XC mc ms free) := vx_backW (hh := hh) (bytes := bytes) (maxL := maxL) (ret := ret) hM hp.1 hrc hrs hfr hlo hws hcw (fun a' U hW => word_at hW (Or.inl (by first | rfl | simp [Cond.onTables, Cond.keeps, Cond.steady])) hini)
  obtain ⟨hx, hb, hml, ho, -⟩ := S
  obtain ⟨-, ⟨cellB, hcB, hoB, hclB⟩, hPc⟩ := hp
  intro T hT X
  rcases vx_callVX X hx (C := C) (hh := hh) (bytes := bytes) (maxL := maxL) (ret := ret) ho hl hin hse hcode hy hK (by rw [hT]; exact hcB) hoB hclB hg (hsize.trans hml.symm) (argsL := As) (rest := rest) (fun sig h => hn.trans (hlen sig h)) hstack hW (by rw [hb]; exact hdg)
    (fun vm₁ hW₁ => ⟨hf.1, hf.2, hPc (T.setVm vm₁) hT hW₁⟩) with ⟨v, vm₁, ⟨U', l2, c2, s2⟩, hW₁, X', ⟨g', mk, t, L, e1, e2, hq, h1, hL, h2, h3⟩, st⟩ | ⟨q, vm₁, ⟨U', l2, c2, s2⟩, hW₁, X', ⟨g', mk, t, L, E, ce, e1, e2, hq, hce, hcv, hcl, h1, hL, h2, h3⟩, st⟩
  · dsimp only [Pt.U, Pt.locs, Pt.cells, Pt.slots] at X' e1 e2 h1 h2 h3 st
    subst h1; subst h2; subst h3
    exact Or.inl ⟨v, (T.setVm vm₁).calling g' mk (Value.ref b :: As).toArray, t, U', L, hT, X', hL, e1, e2, hq, st⟩
  · dsimp only [Pt.U, Pt.locs, Pt.cells, Pt.slots] at X' e1 e2 h1 h2 h3 st hcl
    subst h1; subst h2; subst h3
    exact Or.inr ⟨q, (T.setVm vm₁).calling g' mk (Value.ref b :: As).toArray, t, U', L, E, ce, hT, X', hL, e1, e2, hq, hce, hcv, vx_cls hW₁ hcl, st⟩
theorem vx_runSX {hh : List (Nat × Nat × Nat × Nat)} (S : CallFix p m c cc nL s args Ts own) (hM : vx_Met l y ws rm Pc Qc XC mc ms free) (cw : vx_CSW R s args own index y bytes maxL ret hh ws rm mc ms n) (hp : PreS s H Pc As)
    (hg : g.method = m) (hn : As.length = n) (hsize : g.locals.size = nL) (hstack : g.stack = As.reverse ++ rest) (hW : 2 * g.monitorRoom + (rest.map fun v => v.category).sum ≤ 8) (hdg : decode cc g.pc = .ok (.invokestatic index, 3)) (hf : cells + mc ≤ R.cells ∧ slots + ms ≤ R.slots) :
    vx_Run p l e R s m args below meth c H locs cells slots mc ms g rest (Qc As.toArray) XC free := by
  obtain ⟨⟨hrc, hrs, hfr, hlo, hws, hcw⟩, hcode, hini, hy, hlen, hl, hstt⟩ := cw
  have hK : vx_Back l R p e below s args y 3 8 (PreOf R mc ms Pc) (PostOf Qc mc ms free) (vx_Post XC mc ms free) := vx_backW (hh := hh) (bytes := bytes) (maxL := maxL) (ret := ret) hM hp.1 hrc hrs hfr hlo hws hcw (fun a' U hW => word_at hW (Or.inl (by first | rfl | simp [Cond.onTables, Cond.keeps, Cond.steady])) hini)
  obtain ⟨hx, hb, hml, ho, -⟩ := S
  intro T hT X
  rcases vx_callSX X hx (hh := hh) (bytes := bytes) (maxL := maxL) (ret := ret) ho hl hstt hini hcode hy hK hg (hsize.trans hml.symm) (argsL := As) (rest := rest) (fun sig h => hn.trans (hlen sig h)) hstack hW (by rw [hb]; exact hdg)
    (fun vm₁ hW₁ => ⟨hf.1, hf.2, hp.2 (T.setVm vm₁) hT hW₁⟩) with ⟨v, vm₁, ⟨U', l2, c2, s2⟩, hW₁, X', ⟨g', mk, t, L, e1, e2, hq, h1, hL, h2, h3⟩, st⟩ | ⟨q, vm₁, ⟨U', l2, c2, s2⟩, hW₁, X', ⟨g', mk, t, L, E, ce, e1, e2, hq, hce, hcv, hcl, h1, hL, h2, h3⟩, st⟩
  · dsimp only [Pt.U, Pt.locs, Pt.cells, Pt.slots] at X' e1 e2 h1 h2 h3 st
    subst h1; subst h2; subst h3
    exact Or.inl ⟨v, (T.setVm vm₁).calling g' mk As.toArray, t, U', L, hT, X', hL, e1, e2, hq, st⟩
  · dsimp only [Pt.U, Pt.locs, Pt.cells, Pt.slots] at X' e1 e2 h1 h2 h3 st hcl
    subst h1; subst h2; subst h3
    exact Or.inr ⟨q, (T.setVm vm₁).calling g' mk As.toArray, t, U', L, E, ce, hT, X', hL, e1, e2, hq, hce, hcv, vx_cls hW₁ hcl, st⟩
end
end VXH
theorem vx_ofWH {l : Launch} {y : MethodName} {ws ws' : List Cond} {rm : Room} {Pc : Array Value → State → Prop} {Qc : Array Value → State → Outcome → State → Prop} {XC : String → State → State → Prop} {mc ms : Nat} {free : Addr → Prop} {cc : ByteArray} {maxL : Nat} {ret : Option FieldType} {hh : List (Nat × Nat × Nat × Nat)}
    (hy : plainName y.cls = true) (hw : ws = Cond.codeWith y cc maxL ret hh :: ws')
    (body : ∀ p e s m args below meth c s₁, BodyLoose p l y (headSpec ws rm) cc maxL ret e s m args below meth c s₁ → c.maxLocals = maxL → Pc args s →
      W p l e (headSpec ws rm).room s m args below meth c s.heap [] 0 0 (vx_MQ below Qc XC args s mc ms free) (entryFrame m args maxL)) : vx_Met l y ws rm Pc Qc XC mc ms free := by
  refine MetFree.of_bodyS (code := cc) (maxLocals := maxL) (ret := ret) hy ?_ ?_
  · intro args s m h hn
    obtain ⟨m9, meth, c, hn9, h1, h2, h3, h4, -, h5, h6, -⟩ := Cond.codeWith_spec (atoms_spec (ws := ws) h _ (by rw [hw]; exact List.mem_cons_self))
    cases hn.symm.trans hn9
    exact ⟨meth, c, h1, h2, h3, h4, h5, h6⟩
  · intro p e s m args below meth c s₁ B hml hP _
    have hh0 : s₁.heap = s.heap := by rw [B.state]; rfl
    obtain ⟨t, a1, o, b1, b2, b3⟩ := body p e s m args below meth c s₁ B hml hP s₁ hh0 (Stand.of_body B)
    exact ⟨t, o, a1, b1, b2, b3⟩
/-! ===== END ===== -/
end
section
/-! ===== BEGIN printed: names, fields, word lists, decode rows ===== -/
def RX0 : String := "ScanningHouse$Book"
def TX0 : u_T := fun k => match k with
  | 0 => ("ScanningHouse$Book", "pages", "[LScanningHouse$Page;", true)
  | 1 => ("ScanningHouse$Book", "opening", "I", true)
  | 2 => ("ScanningHouse$Book", "wish", "I", true)
  | 3 => ("ScanningHouse$Book", "strength", "I", false)
  | 4 => ("ScanningHouse$Book", "death", "I", false)
  | 5 => ("ScanningHouse$Book", "shotsTaken", "I", false)
  | 6 => ("ScanningHouse$Book", "searched", "Z", false)
  | _ => ("ScanningHouse$Book", "takenDown", "Z", false)
def tyX0 : Nat → FieldType := fun k => match k with
  | 0 => .array (.object "ScanningHouse$Page")
  | 1 => .int
  | 2 => .int
  | 3 => .int
  | 4 => .int
  | 5 => .int
  | 6 => .boolean
  | _ => .boolean
abbrev wsX00 : List Cond := u_ws RX0 TX0 8
theorem nmX0 : ∀ a, a < 8 → ∀ b, b < 8 → a ≠ b → (TX0 a).2.1 ≠ (TX0 b).2.1 := by decide +kernel
theorem tyX0_ok : ∀ k, k < 8 → parseFieldDescriptor (TX0 k).2.2.1 = some (tyX0 k) := by decide +kernel
abbrev cX0_init : ByteArray := prog_2_method_1_code
def yX0_init : MethodName := ⟨RX0, "<init>", "(IIIII)V"⟩
abbrev cX0_waitsForWork : ByteArray := prog_2_method_2_code
def yX0_waitsForWork : MethodName := ⟨RX0, "waitsForWork", "()Z"⟩
abbrev cX0_goesBefore : ByteArray := prog_2_method_3_code
def yX0_goesBefore : MethodName := ⟨RX0, "goesBefore", "(LScanningHouse$Book;)Z"⟩
abbrev cX0_countShotPages : ByteArray := prog_2_method_4_code
def yX0_countShotPages : MethodName := ⟨RX0, "countShotPages", "()I"⟩
abbrev cX0_countFaultyShots : ByteArray := prog_2_method_5_code
def yX0_countFaultyShots : MethodName := ⟨RX0, "countFaultyShots", "()I"⟩
abbrev cX0_countLostPages : ByteArray := prog_2_method_6_code
def yX0_countLostPages : MethodName := ⟨RX0, "countLostPages", "()I"⟩
abbrev cX0_dropCopies : ByteArray := prog_2_method_7_code
def yX0_dropCopies : MethodName := ⟨RX0, "dropCopies", "(I)I"⟩
abbrev cX0_placesKeyedBy : ByteArray := prog_2_method_8_code
def yX0_placesKeyedBy : MethodName := ⟨RX0, "placesKeyedBy", "(I)I"⟩
abbrev cX0_goldKeyedBy : ByteArray := prog_2_method_9_code
def yX0_goldKeyedBy : MethodName := ⟨RX0, "goldKeyedBy", "(I)I"⟩
abbrev cX0_goldKeyedRightBy : ByteArray := prog_2_method_10_code
def yX0_goldKeyedRightBy : MethodName := ⟨RX0, "goldKeyedRightBy", "(I)I"⟩
def RX1 : String := "ScanningHouse$LetterScale"
def TX1 : u_T := fun k => match k with
  | 0 => ("ScanningHouse$LetterScale", "weights", "[I", true)
  | _ => ("ScanningHouse$LetterScale", "keyedLetters", "I", false)
def tyX1 : Nat → FieldType := fun k => match k with
  | 0 => .array .int
  | _ => .int
abbrev wsX10 : List Cond := u_ws RX1 TX1 2
theorem nmX1 : ∀ a, a < 2 → ∀ b, b < 2 → a ≠ b → (TX1 a).2.1 ≠ (TX1 b).2.1 := by decide +kernel
theorem tyX1_ok : ∀ k, k < 2 → parseFieldDescriptor (TX1 k).2.2.1 = some (tyX1 k) := by decide +kernel
abbrev cX1_init : ByteArray := prog_3_method_1_code
def yX1_init : MethodName := ⟨RX1, "<init>", "()V"⟩
abbrev cX1_clear : ByteArray := prog_3_method_2_code
def yX1_clear : MethodName := ⟨RX1, "clear", "()V"⟩
abbrev cX1_put : ByteArray := prog_3_method_3_code
def yX1_put : MethodName := ⟨RX1, "put", "(II)V"⟩
abbrev cX1_heaviestLetter : ByteArray := prog_3_method_4_code
def yX1_heaviestLetter : MethodName := ⟨RX1, "heaviestLetter", "()I"⟩
abbrev cX1_doubtInHeaviest : ByteArray := prog_3_method_5_code
def yX1_doubtInHeaviest : MethodName := ⟨RX1, "doubtInHeaviest", "()I"⟩
def RX2 : String := "ScanningHouse$Page"
def TX2 : u_T := fun k => match k with
  | 0 => ("ScanningHouse$Page", "hasShot", "Z", false)
  | 1 => ("ScanningHouse$Page", "blurred", "Z", false)
  | 2 => ("ScanningHouse$Page", "faulty", "Z", false)
  | 3 => ("ScanningHouse$Page", "image", "J", false)
  | 4 => ("ScanningHouse$Page", "hasCopy", "[Z", true)
  | 5 => ("ScanningHouse$Page", "copies", "[J", true)
  | 6 => ("ScanningHouse$Page", "firstWord", "I", false)
  | 7 => ("ScanningHouse$Page", "catchword", "I", false)
  | 8 => ("ScanningHouse$Page", "gold", "[I", true)
  | _ => ("ScanningHouse$Page", "keyed", "[[I", true)
def tyX2 : Nat → FieldType := fun k => match k with
  | 0 => .boolean
  | 1 => .boolean
  | 2 => .boolean
  | 3 => .long
  | 4 => .array .boolean
  | 5 => .array .long
  | 6 => .int
  | 7 => .int
  | 8 => .array .int
  | _ => .array (.array .int)
abbrev wsX20 : List Cond := u_ws RX2 TX2 10
theorem nmX2 : ∀ a, a < 10 → ∀ b, b < 10 → a ≠ b → (TX2 a).2.1 ≠ (TX2 b).2.1 := by decide +kernel
theorem tyX2_ok : ∀ k, k < 10 → parseFieldDescriptor (TX2 k).2.2.1 = some (tyX2 k) := by decide +kernel
abbrev cX2_init : ByteArray := prog_4_method_1_code
def yX2_init : MethodName := ⟨RX2, "<init>", "()V"⟩
abbrev cX2_takeShot : ByteArray := prog_4_method_2_code
def yX2_takeShot : MethodName := ⟨RX2, "takeShot", "(JZ)V"⟩
abbrev cX2_putCopy : ByteArray := prog_4_method_3_code
def yX2_putCopy : MethodName := ⟨RX2, "putCopy", "(IJ)V"⟩
abbrev cX2_flipBit : ByteArray := prog_4_method_4_code
def yX2_flipBit : MethodName := ⟨RX2, "flipBit", "(II)V"⟩
abbrev cX2_imageProof : ByteArray := prog_4_method_5_code
def yX2_imageProof : MethodName := ⟨RX2, "imageProof", "()J"⟩
abbrev cX2_copyProof : ByteArray := prog_4_method_6_code
def yX2_copyProof : MethodName := ⟨RX2, "copyProof", "(I)J"⟩
abbrev cX2_holdsIn : ByteArray := prog_4_method_7_code
def yX2_holdsIn : MethodName := ⟨RX2, "holdsIn", "(I)Z"⟩
abbrev cX2_hasNoCopyLeft : ByteArray := prog_4_method_8_code
def yX2_hasNoCopyLeft : MethodName := ⟨RX2, "hasNoCopyLeft", "()Z"⟩
abbrev cX2_mendIn : ByteArray := prog_4_method_9_code
def yX2_mendIn : MethodName := ⟨RX2, "mendIn", "(I)Z"⟩
abbrev cX2_lowestVaultThatHolds : ByteArray := prog_4_method_10_code
def yX2_lowestVaultThatHolds : MethodName := ⟨RX2, "lowestVaultThatHolds", "()I"⟩
abbrev cX2_proofOf : ByteArray := prog_4_method_11_code
def yX2_proofOf : MethodName := ⟨RX2, "proofOf", "(J)J"⟩
def RX3 : String := "ScanningHouse$PageRow"
def TX3 : u_T := fun k => match k with
  | _ => ("ScanningHouse$PageRow", "row", "[I", true)
def tyX3 : Nat → FieldType := fun k => match k with
  | _ => .array .int
abbrev wsX30 : List Cond := u_ws RX3 TX3 1
theorem nmX3 : ∀ a, a < 1 → ∀ b, b < 1 → a ≠ b → (TX3 a).2.1 ≠ (TX3 b).2.1 := by decide +kernel
theorem tyX3_ok : ∀ k, k < 1 → parseFieldDescriptor (TX3 k).2.2.1 = some (tyX3 k) := by decide +kernel
abbrev cX3_init : ByteArray := prog_5_method_1_code
def yX3_init : MethodName := ⟨RX3, "<init>", "()V"⟩
abbrev cX3_pageAtPlace : ByteArray := prog_5_method_2_code
def yX3_pageAtPlace : MethodName := ⟨RX3, "pageAtPlace", "(I)I"⟩
abbrev cX3_findStepByStep : ByteArray := prog_5_method_3_code
def yX3_findStepByStep : MethodName := ⟨RX3, "findStepByStep", "([LScanningHouse$Page;)Z"⟩
abbrev cX3_fillFrom : ByteArray := prog_5_method_4_code
def yX3_fillFrom : MethodName := ⟨RX3, "fillFrom", "(II[LScanningHouse$Page;[I)Z"⟩
abbrev cX3_findByAllRows : ByteArray := prog_5_method_5_code
def yX3_findByAllRows : MethodName := ⟨RX3, "findByAllRows", "([LScanningHouse$Page;)Z"⟩
abbrev cX3_isOrderOf : ByteArray := prog_5_method_6_code
def yX3_isOrderOf : MethodName := ⟨RX3, "isOrderOf", "([LScanningHouse$Page;)Z"⟩
abbrev cX3_leadsTo : ByteArray := prog_5_method_7_code
def yX3_leadsTo : MethodName := ⟨RX3, "leadsTo", "([LScanningHouse$Page;II)Z"⟩
abbrev cX3_stepToNextRow : ByteArray := prog_5_method_8_code
def yX3_stepToNextRow : MethodName := ⟨RX3, "stepToNextRow", "(I)Z"⟩
abbrev cX3_swap : ByteArray := prog_5_method_9_code
def yX3_swap : MethodName := ⟨RX3, "swap", "(II)V"⟩
def RX4 : String := "ScanningHouse$ProofTrees"
def TX4 : u_T := fun k => match k with
  | 0 => ("ScanningHouse$ProofTrees", "ofBook", "[J", true)
  | 1 => ("ScanningHouse$ProofTrees", "ofVault", "[J", true)
  | 2 => ("ScanningHouse$ProofTrees", "foundUnlike", "[Z", true)
  | _ => ("ScanningHouse$ProofTrees", "placesLookedAt", "I", false)
def tyX4 : Nat → FieldType := fun k => match k with
  | 0 => .array .long
  | 1 => .array .long
  | 2 => .array .boolean
  | _ => .int
abbrev wsX40 : List Cond := u_ws RX4 TX4 4
theorem nmX4 : ∀ a, a < 4 → ∀ b, b < 4 → a ≠ b → (TX4 a).2.1 ≠ (TX4 b).2.1 := by decide +kernel
theorem tyX4_ok : ∀ k, k < 4 → parseFieldDescriptor (TX4 k).2.2.1 = some (tyX4 k) := by decide +kernel
abbrev cX4_init : ByteArray := prog_6_method_1_code
def yX4_init : MethodName := ⟨RX4, "<init>", "()V"⟩
abbrev cX4_plant : ByteArray := prog_6_method_2_code
def yX4_plant : MethodName := ⟨RX4, "plant", "([LScanningHouse$Page;I)V"⟩
abbrev cX4_joinUpwards : ByteArray := prog_6_method_3_code
def yX4_joinUpwards : MethodName := ⟨RX4, "joinUpwards", "([J)V"⟩
abbrev cX4_findUnlikeLeaves : ByteArray := prog_6_method_4_code
def yX4_findUnlikeLeaves : MethodName := ⟨RX4, "findUnlikeLeaves", "()I"⟩
def RX5 : String := "ScanningHouse"
def TX5 : u_T := fun k => match k with
  | 0 => ("ScanningHouse", "books", "[LScanningHouse$Book;", true)
  | 1 => ("ScanningHouse", "bookCount", "I", false)
  | 2 => ("ScanningHouse", "drift", "I", false)
  | 3 => ("ScanningHouse", "burnt", "[Z", true)
  | 4 => ("ScanningHouse", "trees", "LScanningHouse$ProofTrees;", true)
  | 5 => ("ScanningHouse", "row", "LScanningHouse$PageRow;", true)
  | 6 => ("ScanningHouse", "scale", "LScanningHouse$LetterScale;", true)
  | 7 => ("ScanningHouse", "year", "I", false)
  | _ => ("ScanningHouse", "terms", "[I", true)
def tyX5 : Nat → FieldType := fun k => match k with
  | 0 => .array (.object "ScanningHouse$Book")
  | 1 => .int
  | 2 => .int
  | 3 => .array .boolean
  | 4 => .object "ScanningHouse$ProofTrees"
  | 5 => .object "ScanningHouse$PageRow"
  | 6 => .object "ScanningHouse$LetterScale"
  | 7 => .int
  | _ => .array .int
abbrev wsX50 : List Cond := u_ws RX5 TX5 9
theorem nmX5 : ∀ a, a < 9 → ∀ b, b < 9 → a ≠ b → (TX5 a).2.1 ≠ (TX5 b).2.1 := by decide +kernel
theorem tyX5_ok : ∀ k, k < 9 → parseFieldDescriptor (TX5 k).2.2.1 = some (tyX5 k) := by decide +kernel
abbrev cX5_init : ByteArray := prog_1_method_1_code
def yX5_init : MethodName := ⟨RX5, "<init>", "()V"⟩
abbrev cX5_book : ByteArray := prog_1_method_2_code
def yX5_book : MethodName := ⟨RX5, "book", "(IIIII)I"⟩
abbrev cX5_next : ByteArray := prog_1_method_3_code
def yX5_next : MethodName := ⟨RX5, "next", "()I"⟩
abbrev cX5_shot : ByteArray := prog_1_method_4_code
def yX5_shot : MethodName := ⟨RX5, "shot", "(IIIJ)I"⟩
abbrev cX5_look : ByteArray := prog_1_method_5_code
def yX5_look : MethodName := ⟨RX5, "look", "(II)Z"⟩
abbrev cX5_calibrate : ByteArray := prog_1_method_6_code
def yX5_calibrate : MethodName := ⟨RX5, "calibrate", "()I"⟩
abbrev cX5_rot : ByteArray := prog_1_method_7_code
def yX5_rot : MethodName := ⟨RX5, "rot", "(IIII)Z"⟩
abbrev cX5_burn : ByteArray := prog_1_method_8_code
def yX5_burn : MethodName := ⟨RX5, "burn", "(I)I"⟩
abbrev cX5_build : ByteArray := prog_1_method_9_code
def yX5_build : MethodName := ⟨RX5, "build", "(I)V"⟩
abbrev cX5_check : ByteArray := prog_1_method_10_code
def yX5_check : MethodName := ⟨RX5, "check", "(II)I"⟩
abbrev cX5_looked : ByteArray := prog_1_method_11_code
def yX5_looked : MethodName := ⟨RX5, "looked", "()I"⟩
abbrev cX5_mend : ByteArray := prog_1_method_12_code
def yX5_mend : MethodName := ⟨RX5, "mend", "(II)I"⟩
abbrev cX5_copy : ByteArray := prog_1_method_13_code
def yX5_copy : MethodName := ⟨RX5, "copy", "(III)J"⟩
abbrev cX5_isLost : ByteArray := prog_1_method_14_code
def yX5_isLost : MethodName := ⟨RX5, "isLost", "(II)Z"⟩
abbrev cX5_words : ByteArray := prog_1_method_15_code
def yX5_words : MethodName := ⟨RX5, "words", "(IIII)V"⟩
abbrev cX5_order : ByteArray := prog_1_method_16_code
def yX5_order : MethodName := ⟨RX5, "order", "(II)I"⟩
abbrev cX5_orderAnew : ByteArray := prog_1_method_17_code
def yX5_orderAnew : MethodName := ⟨RX5, "orderAnew", "(II)I"⟩
abbrev cX5_gold : ByteArray := prog_1_method_18_code
def yX5_gold : MethodName := ⟨RX5, "gold", "(IIII)I"⟩
abbrev cX5_key : ByteArray := prog_1_method_19_code
def yX5_key : MethodName := ⟨RX5, "key", "(IIIII)I"⟩
abbrev cX5_trust : ByteArray := prog_1_method_20_code
def yX5_trust : MethodName := ⟨RX5, "trust", "(I)I"⟩
abbrev cX5_pay : ByteArray := prog_1_method_21_code
def yX5_pay : MethodName := ⟨RX5, "pay", "(I)I"⟩
abbrev cX5_read : ByteArray := prog_1_method_22_code
def yX5_read : MethodName := ⟨RX5, "read", "(III)I"⟩
abbrev cX5_doubt : ByteArray := prog_1_method_23_code
def yX5_doubt : MethodName := ⟨RX5, "doubt", "(III)I"⟩
abbrev cX5_pass : ByteArray := prog_1_method_24_code
def yX5_pass : MethodName := ⟨RX5, "pass", "(I)I"⟩
abbrev cX5_term : ByteArray := prog_1_method_25_code
def yX5_term : MethodName := ⟨RX5, "term", "(II)I"⟩
abbrev cX5_died : ByteArray := prog_1_method_26_code
def yX5_died : MethodName := ⟨RX5, "died", "(II)V"⟩
abbrev cX5_search : ByteArray := prog_1_method_27_code
def yX5_search : MethodName := ⟨RX5, "search", "(I)Z"⟩
abbrev cX5_takeDown : ByteArray := prog_1_method_28_code
def yX5_takeDown : MethodName := ⟨RX5, "takeDown", "(IZ)Z"⟩
abbrev cX5_whyNot : ByteArray := prog_1_method_29_code
def yX5_whyNot : MethodName := ⟨RX5, "whyNot", "(III)I"⟩
abbrev cX5_about : ByteArray := prog_1_method_30_code
def yX5_about : MethodName := ⟨RX5, "about", "(II)I"⟩
abbrev cX5_needArgument : ByteArray := prog_1_method_31_code
def yX5_needArgument : MethodName := ⟨RX5, "needArgument", "(III)V"⟩
abbrev cX5_bookAt : ByteArray := prog_1_method_32_code
def yX5_bookAt : MethodName := ⟨RX5, "bookAt", "(I)LScanningHouse$Book;"⟩
abbrev cX5_pageAt : ByteArray := prog_1_method_33_code
def yX5_pageAt : MethodName := ⟨RX5, "pageAt", "(LScanningHouse$Book;I)LScanningHouse$Page;"⟩
abbrev cX5_needVault : ByteArray := prog_1_method_34_code
def yX5_needVault : MethodName := ⟨RX5, "needVault", "(I)V"⟩
abbrev cX5_needStandingVault : ByteArray := prog_1_method_35_code
def yX5_needStandingVault : MethodName := ⟨RX5, "needStandingVault", "(I)V"⟩
abbrev cX5_needCopy : ByteArray := prog_1_method_36_code
def yX5_needCopy : MethodName := ⟨RX5, "needCopy", "(LScanningHouse$Page;I)V"⟩
abbrev cX5_needPlace : ByteArray := prog_1_method_37_code
def yX5_needPlace : MethodName := ⟨RX5, "needPlace", "(I)V"⟩
abbrev cX5_needKeyer : ByteArray := prog_1_method_38_code
def yX5_needKeyer : MethodName := ⟨RX5, "needKeyer", "(I)V"⟩
abbrev cX5_needLand : ByteArray := prog_1_method_39_code
def yX5_needLand : MethodName := ⟨RX5, "needLand", "(I)V"⟩
abbrev cX5_bookToOrder : ByteArray := prog_1_method_40_code
def yX5_bookToOrder : MethodName := ⟨RX5, "bookToOrder", "(II)LScanningHouse$Book;"⟩
abbrev cX5_trustIn : ByteArray := prog_1_method_41_code
def yX5_trustIn : MethodName := ⟨RX5, "trustIn", "(I)I"⟩
abbrev cX5_weighLetters : ByteArray := prog_1_method_42_code
def yX5_weighLetters : MethodName := ⟨RX5, "weighLetters", "(LScanningHouse$Page;I)V"⟩
def RX6 : String := "ScanningHouseModel"
def TX6 : u_T := fun k => match k with
  | 0 => ("ScanningHouseModel", "thrown", "I", false)
  | 1 => ("ScanningHouseModel", "books", "I", false)
  | 2 => ("ScanningHouseModel", "pages", "[I", true)
  | 3 => ("ScanningHouseModel", "opening", "[I", true)
  | 4 => ("ScanningHouseModel", "strength", "[I", true)
  | 5 => ("ScanningHouseModel", "wish", "[I", true)
  | 6 => ("ScanningHouseModel", "death", "[I", true)
  | 7 => ("ScanningHouseModel", "taken", "[I", true)
  | 8 => ("ScanningHouseModel", "isSearched", "[Z", true)
  | 9 => ("ScanningHouseModel", "isDown", "[Z", true)
  | 10 => ("ScanningHouseModel", "drift", "I", false)
  | 11 => ("ScanningHouseModel", "hasShot", "[Z", true)
  | 12 => ("ScanningHouseModel", "isBlurred", "[Z", true)
  | 13 => ("ScanningHouseModel", "isFaulty", "[Z", true)
  | 14 => ("ScanningHouseModel", "image", "[J", true)
  | 15 => ("ScanningHouseModel", "first", "[I", true)
  | 16 => ("ScanningHouseModel", "last", "[I", true)
  | 17 => ("ScanningHouseModel", "hasCopy", "[Z", true)
  | 18 => ("ScanningHouseModel", "copy", "[J", true)
  | 19 => ("ScanningHouseModel", "isBurnt", "[Z", true)
  | 20 => ("ScanningHouseModel", "tree", "[J", true)
  | 21 => ("ScanningHouseModel", "other", "[J", true)
  | 22 => ("ScanningHouseModel", "isSeen", "[Z", true)
  | 23 => ("ScanningHouseModel", "looked", "I", false)
  | 24 => ("ScanningHouseModel", "gold", "[I", true)
  | 25 => ("ScanningHouseModel", "keyed", "[I", true)
  | 26 => ("ScanningHouseModel", "trusts", "[I", true)
  | 27 => ("ScanningHouseModel", "year", "I", false)
  | 28 => ("ScanningHouseModel", "term", "[I", true)
  | _ => ("ScanningHouseModel", "row", "[I", true)
def tyX6 : Nat → FieldType := fun k => match k with
  | 0 => .int
  | 1 => .int
  | 2 => .array .int
  | 3 => .array .int
  | 4 => .array .int
  | 5 => .array .int
  | 6 => .array .int
  | 7 => .array .int
  | 8 => .array .boolean
  | 9 => .array .boolean
  | 10 => .int
  | 11 => .array .boolean
  | 12 => .array .boolean
  | 13 => .array .boolean
  | 14 => .array .long
  | 15 => .array .int
  | 16 => .array .int
  | 17 => .array .boolean
  | 18 => .array .long
  | 19 => .array .boolean
  | 20 => .array .long
  | 21 => .array .long
  | 22 => .array .boolean
  | 23 => .int
  | 24 => .array .int
  | 25 => .array .int
  | 26 => .array .int
  | 27 => .int
  | 28 => .array .int
  | _ => .array .int
abbrev wsX60 : List Cond := u_ws RX6 TX6 30
theorem nmX6 : ∀ a, a < 30 → ∀ b, b < 30 → a ≠ b → (TX6 a).2.1 ≠ (TX6 b).2.1 := by decide +kernel
theorem tyX6_ok : ∀ k, k < 30 → parseFieldDescriptor (TX6 k).2.2.1 = some (tyX6 k) := by decide +kernel
abbrev cX6_init : ByteArray := prog_8_method_1_code
def yX6_init : MethodName := ⟨RX6, "<init>", "()V"⟩
abbrev cX6_thrown : ByteArray := prog_8_method_2_code
def yX6_thrown : MethodName := ⟨RX6, "thrown", "()I"⟩
abbrev cX6_goesWell : ByteArray := prog_8_method_3_code
def yX6_goesWell : MethodName := ⟨RX6, "goesWell", "(I)Z"⟩
abbrev cX6_in : ByteArray := prog_8_method_4_code
def yX6_in : MethodName := ⟨RX6, "in", "(III)Z"⟩
abbrev cX6_isBook : ByteArray := prog_8_method_5_code
def yX6_isBook : MethodName := ⟨RX6, "isBook", "(I)Z"⟩
abbrev cX6_isPage : ByteArray := prog_8_method_6_code
def yX6_isPage : MethodName := ⟨RX6, "isPage", "(II)Z"⟩
abbrev cX6_isVault : ByteArray := prog_8_method_7_code
def yX6_isVault : MethodName := ⟨RX6, "isVault", "(I)Z"⟩
abbrev cX6_isPlace : ByteArray := prog_8_method_8_code
def yX6_isPlace : MethodName := ⟨RX6, "isPlace", "(III)Z"⟩
abbrev cX6_book : ByteArray := prog_8_method_9_code
def yX6_book : MethodName := ⟨RX6, "book", "(IIIII)I"⟩
abbrev cX6_shots : ByteArray := prog_8_method_10_code
def yX6_shots : MethodName := ⟨RX6, "shots", "(I)I"⟩
abbrev cX6_next : ByteArray := prog_8_method_11_code
def yX6_next : MethodName := ⟨RX6, "next", "()I"⟩
abbrev cX6_shot : ByteArray := prog_8_method_12_code
def yX6_shot : MethodName := ⟨RX6, "shot", "(IIIJ)I"⟩
abbrev cX6_look : ByteArray := prog_8_method_13_code
def yX6_look : MethodName := ⟨RX6, "look", "(II)Z"⟩
abbrev cX6_calibrate : ByteArray := prog_8_method_14_code
def yX6_calibrate : MethodName := ⟨RX6, "calibrate", "()I"⟩
abbrev cX6_proof : ByteArray := prog_8_method_15_code
def yX6_proof : MethodName := ⟨RX6, "proof", "(J)J"⟩
abbrev cX6_holds : ByteArray := prog_8_method_16_code
def yX6_holds : MethodName := ⟨RX6, "holds", "(II)Z"⟩
abbrev cX6_holder : ByteArray := prog_8_method_17_code
def yX6_holder : MethodName := ⟨RX6, "holder", "(I)I"⟩
abbrev cX6_rot : ByteArray := prog_8_method_18_code
def yX6_rot : MethodName := ⟨RX6, "rot", "(IIII)Z"⟩
abbrev cX6_burn : ByteArray := prog_8_method_19_code
def yX6_burn : MethodName := ⟨RX6, "burn", "(I)I"⟩
abbrev cX6_build : ByteArray := prog_8_method_20_code
def yX6_build : MethodName := ⟨RX6, "build", "(I)V"⟩
abbrev cX6_layTrees : ByteArray := prog_8_method_21_code
def yX6_layTrees : MethodName := ⟨RX6, "layTrees", "(II)V"⟩
abbrev cX6_check : ByteArray := prog_8_method_22_code
def yX6_check : MethodName := ⟨RX6, "check", "(II)I"⟩
abbrev cX6_looked : ByteArray := prog_8_method_23_code
def yX6_looked : MethodName := ⟨RX6, "looked", "()I"⟩
abbrev cX6_mend : ByteArray := prog_8_method_24_code
def yX6_mend : MethodName := ⟨RX6, "mend", "(II)I"⟩
abbrev cX6_copy : ByteArray := prog_8_method_25_code
def yX6_copy : MethodName := ⟨RX6, "copy", "(III)J"⟩
abbrev cX6_isLostAt : ByteArray := prog_8_method_26_code
def yX6_isLostAt : MethodName := ⟨RX6, "isLostAt", "(I)Z"⟩
abbrev cX6_isLost : ByteArray := prog_8_method_27_code
def yX6_isLost : MethodName := ⟨RX6, "isLost", "(II)Z"⟩
abbrev cX6_words : ByteArray := prog_8_method_28_code
def yX6_words : MethodName := ⟨RX6, "words", "(IIII)V"⟩
abbrev cX6_fits : ByteArray := prog_8_method_29_code
def yX6_fits : MethodName := ⟨RX6, "fits", "(II)Z"⟩
abbrev cX6_layOrder : ByteArray := prog_8_method_30_code
def yX6_layOrder : MethodName := ⟨RX6, "layOrder", "(I)Z"⟩
abbrev cX6_orderOf : ByteArray := prog_8_method_31_code
def yX6_orderOf : MethodName := ⟨RX6, "orderOf", "(II)I"⟩
abbrev cX6_order : ByteArray := prog_8_method_32_code
def yX6_order : MethodName := ⟨RX6, "order", "(II)I"⟩
abbrev cX6_orderAnew : ByteArray := prog_8_method_33_code
def yX6_orderAnew : MethodName := ⟨RX6, "orderAnew", "(II)I"⟩
abbrev cX6_spot : ByteArray := prog_8_method_34_code
def yX6_spot : MethodName := ⟨RX6, "spot", "(III)I"⟩
abbrev cX6_gold : ByteArray := prog_8_method_35_code
def yX6_gold : MethodName := ⟨RX6, "gold", "(IIII)I"⟩
abbrev cX6_key : ByteArray := prog_8_method_36_code
def yX6_key : MethodName := ⟨RX6, "key", "(IIIII)I"⟩
abbrev cX6_trustOf : ByteArray := prog_8_method_37_code
def yX6_trustOf : MethodName := ⟨RX6, "trustOf", "(I)I"⟩
abbrev cX6_trust : ByteArray := prog_8_method_38_code
def yX6_trust : MethodName := ⟨RX6, "trust", "(I)I"⟩
abbrev cX6_pay : ByteArray := prog_8_method_39_code
def yX6_pay : MethodName := ⟨RX6, "pay", "(I)I"⟩
abbrev cX6_weight : ByteArray := prog_8_method_40_code
def yX6_weight : MethodName := ⟨RX6, "weight", "(II)I"⟩
abbrev cX6_weigh : ByteArray := prog_8_method_41_code
def yX6_weigh : MethodName := ⟨RX6, "weigh", "()V"⟩
abbrev cX6_read : ByteArray := prog_8_method_42_code
def yX6_read : MethodName := ⟨RX6, "read", "(III)I"⟩
abbrev cX6_doubt : ByteArray := prog_8_method_43_code
def yX6_doubt : MethodName := ⟨RX6, "doubt", "(III)I"⟩
abbrev cX6_pass : ByteArray := prog_8_method_44_code
def yX6_pass : MethodName := ⟨RX6, "pass", "(I)I"⟩
abbrev cX6_term : ByteArray := prog_8_method_45_code
def yX6_term : MethodName := ⟨RX6, "term", "(II)I"⟩
abbrev cX6_died : ByteArray := prog_8_method_46_code
def yX6_died : MethodName := ⟨RX6, "died", "(II)V"⟩
abbrev cX6_search : ByteArray := prog_8_method_47_code
def yX6_search : MethodName := ⟨RX6, "search", "(I)Z"⟩
abbrev cX6_takeDown : ByteArray := prog_8_method_48_code
def yX6_takeDown : MethodName := ⟨RX6, "takeDown", "(IZ)Z"⟩
abbrev cX6_whyNot : ByteArray := prog_8_method_49_code
def yX6_whyNot : MethodName := ⟨RX6, "whyNot", "(III)I"⟩
abbrev cX6_about : ByteArray := prog_8_method_50_code
def yX6_about : MethodName := ⟨RX6, "about", "(II)I"⟩
def RJx145de : String := "java/io/Serializable"
def TJx145de : u_T := fun k => match k with
  | _ => ("", "", "", false)
def tyJx145de : Nat → FieldType := fun k => match k with
  | _ => .int
abbrev wsJx145de0 : List Cond := u_ws RJx145de TJx145de 0
theorem nmJx145de : ∀ a, a < 0 → ∀ b, b < 0 → a ≠ b → (TJx145de a).2.1 ≠ (TJx145de b).2.1 := by decide +kernel
theorem tyJx145de_ok : ∀ k, k < 0 → parseFieldDescriptor (TJx145de k).2.2.1 = some (tyJx145de k) := by decide +kernel
def RJ9 : String := "java/lang/Math"
def TJ9 : u_T := fun k => match k with
  | _ => ("", "", "", false)
def tyJ9 : Nat → FieldType := fun k => match k with
  | _ => .int
abbrev wsJ90 : List Cond := u_ws RJ9 TJ9 0
theorem nmJ9 : ∀ a, a < 0 → ∀ b, b < 0 → a ≠ b → (TJ9 a).2.1 ≠ (TJ9 b).2.1 := by decide +kernel
theorem tyJ9_ok : ∀ k, k < 0 → parseFieldDescriptor (TJ9 k).2.2.1 = some (tyJ9 k) := by decide +kernel
abbrev cJ9_max_7cf53 : ByteArray := prog_13_method_65_code
def yJ9_max_7cf53 : MethodName := ⟨RJ9, "max", "(II)I"⟩
def RJ0 : String := "java/lang/String"
def TJ0 : u_T := fun k => match k with
  | _ => ("", "", "", false)
def tyJ0 : Nat → FieldType := fun k => match k with
  | _ => .int
abbrev wsJ00 : List Cond := u_ws RJ0 TJ0 0
theorem nmJ0 : ∀ a, a < 0 → ∀ b, b < 0 → a ≠ b → (TJ0 a).2.1 ≠ (TJ0 b).2.1 := by decide +kernel
theorem tyJ0_ok : ∀ k, k < 0 → parseFieldDescriptor (TJ0 k).2.2.1 = some (tyJ0 k) := by decide +kernel
def RJ7 : String := "java/util/Arrays"
def TJ7 : u_T := fun k => match k with
  | _ => ("", "", "", false)
def tyJ7 : Nat → FieldType := fun k => match k with
  | _ => .int
abbrev wsJ70 : List Cond := u_ws RJ7 TJ7 0
theorem nmJ7 : ∀ a, a < 0 → ∀ b, b < 0 → a ≠ b → (TJ7 a).2.1 ≠ (TJ7 b).2.1 := by decide +kernel
theorem tyJ7_ok : ∀ k, k < 0 → parseFieldDescriptor (TJ7 k).2.2.1 = some (tyJ7 k) := by decide +kernel
abbrev cJ7_fill_53178 : ByteArray := prog_17_method_103_code
def yJ7_fill_53178 : MethodName := ⟨RJ7, "fill", "([II)V"⟩
def RL : String := "ScanningHouseLaw"
abbrev cL_book : ByteArray := method_3_code
def yL_book : MethodName := ⟨RL, "book", "(LScanningHouse;IIIII[J)I"⟩
abbrev cL_shot : ByteArray := method_4_code
def yL_shot : MethodName := ⟨RL, "shot", "(LScanningHouse;IIIJ[J)I"⟩
abbrev cL_look : ByteArray := method_5_code
def yL_look : MethodName := ⟨RL, "look", "(LScanningHouse;II[J)I"⟩
abbrev cL_rot : ByteArray := method_6_code
def yL_rot : MethodName := ⟨RL, "rot", "(LScanningHouse;IIII[J)I"⟩
abbrev cL_burn : ByteArray := method_7_code
def yL_burn : MethodName := ⟨RL, "burn", "(LScanningHouse;I[J)I"⟩
abbrev cL_build : ByteArray := method_8_code
def yL_build : MethodName := ⟨RL, "build", "(LScanningHouse;I)I"⟩
abbrev cL_check : ByteArray := method_9_code
def yL_check : MethodName := ⟨RL, "check", "(LScanningHouse;II[J)I"⟩
abbrev cL_mend : ByteArray := method_10_code
def yL_mend : MethodName := ⟨RL, "mend", "(LScanningHouse;II[J)I"⟩
abbrev cL_copy : ByteArray := method_11_code
def yL_copy : MethodName := ⟨RL, "copy", "(LScanningHouse;III[J)I"⟩
abbrev cL_isLost : ByteArray := method_12_code
def yL_isLost : MethodName := ⟨RL, "isLost", "(LScanningHouse;II[J)I"⟩
abbrev cL_words : ByteArray := method_13_code
def yL_words : MethodName := ⟨RL, "words", "(LScanningHouse;IIII)I"⟩
abbrev cL_order : ByteArray := method_14_code
def yL_order : MethodName := ⟨RL, "order", "(LScanningHouse;II[J)I"⟩
abbrev cL_orderAnew : ByteArray := method_15_code
def yL_orderAnew : MethodName := ⟨RL, "orderAnew", "(LScanningHouse;II[J)I"⟩
abbrev cL_gold : ByteArray := method_16_code
def yL_gold : MethodName := ⟨RL, "gold", "(LScanningHouse;IIII[J)I"⟩
abbrev cL_key : ByteArray := method_17_code
def yL_key : MethodName := ⟨RL, "key", "(LScanningHouse;IIIII[J)I"⟩
abbrev cL_trust : ByteArray := method_18_code
def yL_trust : MethodName := ⟨RL, "trust", "(LScanningHouse;I[J)I"⟩
abbrev cL_pay : ByteArray := method_19_code
def yL_pay : MethodName := ⟨RL, "pay", "(LScanningHouse;I[J)I"⟩
abbrev cL_read : ByteArray := method_20_code
def yL_read : MethodName := ⟨RL, "read", "(LScanningHouse;III[J)I"⟩
abbrev cL_doubt : ByteArray := method_21_code
def yL_doubt : MethodName := ⟨RL, "doubt", "(LScanningHouse;III[J)I"⟩
abbrev cL_pass : ByteArray := method_22_code
def yL_pass : MethodName := ⟨RL, "pass", "(LScanningHouse;I[J)I"⟩
abbrev cL_term : ByteArray := method_23_code
def yL_term : MethodName := ⟨RL, "term", "(LScanningHouse;II[J)I"⟩
abbrev cL_died : ByteArray := method_24_code
def yL_died : MethodName := ⟨RL, "died", "(LScanningHouse;II)I"⟩
abbrev cL_search : ByteArray := method_25_code
def yL_search : MethodName := ⟨RL, "search", "(LScanningHouse;I[J)I"⟩
abbrev cL_takeDown : ByteArray := method_26_code
def yL_takeDown : MethodName := ⟨RL, "takeDown", "(LScanningHouse;IZ[J)I"⟩
abbrev cL_whyNot : ByteArray := method_27_code
def yL_whyNot : MethodName := ⟨RL, "whyNot", "(LScanningHouse;III[J)I"⟩
abbrev cL_about : ByteArray := method_28_code
def yL_about : MethodName := ⟨RL, "about", "(LScanningHouse;II[J)I"⟩
abbrev cL_law : ByteArray := code
def yL_law : MethodName := ⟨RL, "law", "([I)Z"⟩
theorem inJx145de : ∀ w ∈ wsJx145de0, w ∈ lw_tbl := by decide +kernel
theorem inJ9 : ∀ w ∈ wsJ90, w ∈ lw_tbl := by decide +kernel
theorem inJ0 : ∀ w ∈ wsJ00, w ∈ lw_tbl := by decide +kernel
theorem inJ7 : ∀ w ∈ wsJ70, w ∈ lw_tbl := by decide +kernel
abbrev vwCl : List vw_C := [(RX0, TX0, 8), (RX1, TX1, 2), (RX2, TX2, 10), (RX3, TX3, 1), (RX4, TX4, 4), (RX5, TX5, 9), (RX6, TX6, 30)]
end
section
theorem dX0_init_0 : decode cX0_init 0 = .ok (.aload_n 0, 1) := by decide +kernel
theorem dX0_init_1 : decode cX0_init 1 = .ok (.invokespecial 3, 3) := by decide +kernel
theorem dX0_init_4 : decode cX0_init 4 = .ok (.aload_n 0, 1) := by decide +kernel
theorem dX0_init_5 : decode cX0_init 5 = .ok (.iload_n 1, 1) := by decide +kernel
theorem dX0_init_6 : decode cX0_init 6 = .ok (.anewarray 9, 3) := by decide +kernel
theorem dX0_init_9 : decode cX0_init 9 = .ok (.putfield 11, 3) := by decide +kernel
theorem dX0_init_12 : decode cX0_init 12 = .ok (.iconst 0, 1) := by decide +kernel
theorem dX0_init_13 : decode cX0_init 13 = .ok (.istore 6, 2) := by decide +kernel
theorem dX0_init_15 : decode cX0_init 15 = .ok (.iload 6, 2) := by decide +kernel
theorem dX0_init_17 : decode cX0_init 17 = .ok (.iload_n 1, 1) := by decide +kernel
theorem dX0_init_18 : decode cX0_init 18 = .ok (.if_icmp .ge 23, 3) := by decide +kernel
theorem dX0_init_21 : decode cX0_init 21 = .ok (.aload_n 0, 1) := by decide +kernel
theorem dX0_init_22 : decode cX0_init 22 = .ok (.getfield 11, 3) := by decide +kernel
theorem dX0_init_25 : decode cX0_init 25 = .ok (.iload 6, 2) := by decide +kernel
theorem dX0_init_27 : decode cX0_init 27 = .ok (.new 9, 3) := by decide +kernel
theorem dX0_init_30 : decode cX0_init 30 = .ok (.dup, 1) := by decide +kernel
theorem dX0_init_31 : decode cX0_init 31 = .ok (.invokespecial 17, 3) := by decide +kernel
theorem dX0_init_34 : decode cX0_init 34 = .ok (.aastore, 1) := by decide +kernel
theorem dX0_init_35 : decode cX0_init 35 = .ok (.iinc 6 1, 3) := by decide +kernel
theorem dX0_init_38 : decode cX0_init 38 = .ok (.goto (-23), 3) := by decide +kernel
theorem dX0_init_41 : decode cX0_init 41 = .ok (.aload_n 0, 1) := by decide +kernel
theorem dX0_init_42 : decode cX0_init 42 = .ok (.iload_n 2, 1) := by decide +kernel
theorem dX0_init_43 : decode cX0_init 43 = .ok (.putfield 18, 3) := by decide +kernel
theorem dX0_init_46 : decode cX0_init 46 = .ok (.aload_n 0, 1) := by decide +kernel
theorem dX0_init_47 : decode cX0_init 47 = .ok (.iload_n 3, 1) := by decide +kernel
theorem dX0_init_48 : decode cX0_init 48 = .ok (.putfield 22, 3) := by decide +kernel
theorem dX0_init_51 : decode cX0_init 51 = .ok (.aload_n 0, 1) := by decide +kernel
theorem dX0_init_52 : decode cX0_init 52 = .ok (.iload 4, 2) := by decide +kernel
theorem dX0_init_54 : decode cX0_init 54 = .ok (.putfield 25, 3) := by decide +kernel
theorem dX0_init_57 : decode cX0_init 57 = .ok (.aload_n 0, 1) := by decide +kernel
theorem dX0_init_58 : decode cX0_init 58 = .ok (.iload 5, 2) := by decide +kernel
theorem dX0_init_60 : decode cX0_init 60 = .ok (.putfield 28, 3) := by decide +kernel
theorem dX0_init_63 : decode cX0_init 63 = .ok (.return_, 1) := by decide +kernel
theorem dX0_waitsForWork_0 : decode cX0_waitsForWork 0 = .ok (.aload_n 0, 1) := by decide +kernel
theorem dX0_waitsForWork_1 : decode cX0_waitsForWork 1 = .ok (.getfield 22, 3) := by decide +kernel
theorem dX0_waitsForWork_4 : decode cX0_waitsForWork 4 = .ok (.ifCond .le 19, 3) := by decide +kernel
theorem dX0_waitsForWork_7 : decode cX0_waitsForWork 7 = .ok (.aload_n 0, 1) := by decide +kernel
theorem dX0_waitsForWork_8 : decode cX0_waitsForWork 8 = .ok (.invokevirtual 31, 3) := by decide +kernel
theorem dX0_waitsForWork_11 : decode cX0_waitsForWork 11 = .ok (.aload_n 0, 1) := by decide +kernel
theorem dX0_waitsForWork_12 : decode cX0_waitsForWork 12 = .ok (.getfield 11, 3) := by decide +kernel
theorem dX0_waitsForWork_15 : decode cX0_waitsForWork 15 = .ok (.arraylength, 1) := by decide +kernel
theorem dX0_waitsForWork_16 : decode cX0_waitsForWork 16 = .ok (.if_icmp .ge 7, 3) := by decide +kernel
theorem dX0_waitsForWork_19 : decode cX0_waitsForWork 19 = .ok (.iconst 1, 1) := by decide +kernel
theorem dX0_waitsForWork_20 : decode cX0_waitsForWork 20 = .ok (.goto 4, 3) := by decide +kernel
theorem dX0_waitsForWork_23 : decode cX0_waitsForWork 23 = .ok (.iconst 0, 1) := by decide +kernel
theorem dX0_waitsForWork_24 : decode cX0_waitsForWork 24 = .ok (.ireturn, 1) := by decide +kernel
theorem dX0_goesBefore_0 : decode cX0_goesBefore 0 = .ok (.aload_n 0, 1) := by decide +kernel
theorem dX0_goesBefore_1 : decode cX0_goesBefore 1 = .ok (.getfield 25, 3) := by decide +kernel
theorem dX0_goesBefore_4 : decode cX0_goesBefore 4 = .ok (.aload_n 1, 1) := by decide +kernel
theorem dX0_goesBefore_5 : decode cX0_goesBefore 5 = .ok (.getfield 25, 3) := by decide +kernel
theorem dX0_goesBefore_8 : decode cX0_goesBefore 8 = .ok (.if_icmp .gt 25, 3) := by decide +kernel
theorem dX0_goesBefore_11 : decode cX0_goesBefore 11 = .ok (.aload_n 0, 1) := by decide +kernel
theorem dX0_goesBefore_12 : decode cX0_goesBefore 12 = .ok (.getfield 25, 3) := by decide +kernel
theorem dX0_goesBefore_15 : decode cX0_goesBefore 15 = .ok (.aload_n 1, 1) := by decide +kernel
theorem dX0_goesBefore_16 : decode cX0_goesBefore 16 = .ok (.getfield 25, 3) := by decide +kernel
theorem dX0_goesBefore_19 : decode cX0_goesBefore 19 = .ok (.if_icmp .ne 18, 3) := by decide +kernel
theorem dX0_goesBefore_22 : decode cX0_goesBefore 22 = .ok (.aload_n 0, 1) := by decide +kernel
theorem dX0_goesBefore_23 : decode cX0_goesBefore 23 = .ok (.getfield 22, 3) := by decide +kernel
theorem dX0_goesBefore_26 : decode cX0_goesBefore 26 = .ok (.aload_n 1, 1) := by decide +kernel
theorem dX0_goesBefore_27 : decode cX0_goesBefore 27 = .ok (.getfield 22, 3) := by decide +kernel
theorem dX0_goesBefore_30 : decode cX0_goesBefore 30 = .ok (.if_icmp .ge 7, 3) := by decide +kernel
theorem dX0_goesBefore_33 : decode cX0_goesBefore 33 = .ok (.iconst 1, 1) := by decide +kernel
theorem dX0_goesBefore_34 : decode cX0_goesBefore 34 = .ok (.goto 4, 3) := by decide +kernel
theorem dX0_goesBefore_37 : decode cX0_goesBefore 37 = .ok (.iconst 0, 1) := by decide +kernel
theorem dX0_goesBefore_38 : decode cX0_goesBefore 38 = .ok (.ireturn, 1) := by decide +kernel
theorem dX0_countShotPages_0 : decode cX0_countShotPages 0 = .ok (.iconst 0, 1) := by decide +kernel
theorem dX0_countShotPages_1 : decode cX0_countShotPages 1 = .ok (.istore_n 1, 1) := by decide +kernel
theorem dX0_countShotPages_2 : decode cX0_countShotPages 2 = .ok (.aload_n 0, 1) := by decide +kernel
theorem dX0_countShotPages_3 : decode cX0_countShotPages 3 = .ok (.getfield 11, 3) := by decide +kernel
theorem dX0_countShotPages_6 : decode cX0_countShotPages 6 = .ok (.astore_n 2, 1) := by decide +kernel
theorem dX0_countShotPages_7 : decode cX0_countShotPages 7 = .ok (.aload_n 2, 1) := by decide +kernel
theorem dX0_countShotPages_8 : decode cX0_countShotPages 8 = .ok (.arraylength, 1) := by decide +kernel
theorem dX0_countShotPages_9 : decode cX0_countShotPages 9 = .ok (.istore_n 3, 1) := by decide +kernel
theorem dX0_countShotPages_10 : decode cX0_countShotPages 10 = .ok (.iconst 0, 1) := by decide +kernel
theorem dX0_countShotPages_11 : decode cX0_countShotPages 11 = .ok (.istore 4, 2) := by decide +kernel
theorem dX0_countShotPages_13 : decode cX0_countShotPages 13 = .ok (.iload 4, 2) := by decide +kernel
theorem dX0_countShotPages_15 : decode cX0_countShotPages 15 = .ok (.iload_n 3, 1) := by decide +kernel
theorem dX0_countShotPages_16 : decode cX0_countShotPages 16 = .ok (.if_icmp .ge 31, 3) := by decide +kernel
theorem dX0_countShotPages_19 : decode cX0_countShotPages 19 = .ok (.aload_n 2, 1) := by decide +kernel
theorem dX0_countShotPages_20 : decode cX0_countShotPages 20 = .ok (.iload 4, 2) := by decide +kernel
theorem dX0_countShotPages_22 : decode cX0_countShotPages 22 = .ok (.aaload, 1) := by decide +kernel
theorem dX0_countShotPages_23 : decode cX0_countShotPages 23 = .ok (.astore 5, 2) := by decide +kernel
theorem dX0_countShotPages_25 : decode cX0_countShotPages 25 = .ok (.iload_n 1, 1) := by decide +kernel
theorem dX0_countShotPages_26 : decode cX0_countShotPages 26 = .ok (.aload 5, 2) := by decide +kernel
theorem dX0_countShotPages_28 : decode cX0_countShotPages 28 = .ok (.getfield 35, 3) := by decide +kernel
theorem dX0_countShotPages_31 : decode cX0_countShotPages 31 = .ok (.ifCond .eq 7, 3) := by decide +kernel
theorem dX0_countShotPages_34 : decode cX0_countShotPages 34 = .ok (.iconst 1, 1) := by decide +kernel
theorem dX0_countShotPages_35 : decode cX0_countShotPages 35 = .ok (.goto 4, 3) := by decide +kernel
theorem dX0_countShotPages_38 : decode cX0_countShotPages 38 = .ok (.iconst 0, 1) := by decide +kernel
theorem dX0_countShotPages_39 : decode cX0_countShotPages 39 = .ok (.iadd, 1) := by decide +kernel
theorem dX0_countShotPages_40 : decode cX0_countShotPages 40 = .ok (.istore_n 1, 1) := by decide +kernel
theorem dX0_countShotPages_41 : decode cX0_countShotPages 41 = .ok (.iinc 4 1, 3) := by decide +kernel
theorem dX0_countShotPages_44 : decode cX0_countShotPages 44 = .ok (.goto (-31), 3) := by decide +kernel
theorem dX0_countShotPages_47 : decode cX0_countShotPages 47 = .ok (.iload_n 1, 1) := by decide +kernel
theorem dX0_countShotPages_48 : decode cX0_countShotPages 48 = .ok (.ireturn, 1) := by decide +kernel
theorem dX0_countFaultyShots_0 : decode cX0_countFaultyShots 0 = .ok (.iconst 0, 1) := by decide +kernel
theorem dX0_countFaultyShots_1 : decode cX0_countFaultyShots 1 = .ok (.istore_n 1, 1) := by decide +kernel
theorem dX0_countFaultyShots_2 : decode cX0_countFaultyShots 2 = .ok (.aload_n 0, 1) := by decide +kernel
theorem dX0_countFaultyShots_3 : decode cX0_countFaultyShots 3 = .ok (.getfield 11, 3) := by decide +kernel
theorem dX0_countFaultyShots_6 : decode cX0_countFaultyShots 6 = .ok (.astore_n 2, 1) := by decide +kernel
theorem dX0_countFaultyShots_7 : decode cX0_countFaultyShots 7 = .ok (.aload_n 2, 1) := by decide +kernel
theorem dX0_countFaultyShots_8 : decode cX0_countFaultyShots 8 = .ok (.arraylength, 1) := by decide +kernel
theorem dX0_countFaultyShots_9 : decode cX0_countFaultyShots 9 = .ok (.istore_n 3, 1) := by decide +kernel
theorem dX0_countFaultyShots_10 : decode cX0_countFaultyShots 10 = .ok (.iconst 0, 1) := by decide +kernel
theorem dX0_countFaultyShots_11 : decode cX0_countFaultyShots 11 = .ok (.istore 4, 2) := by decide +kernel
theorem dX0_countFaultyShots_13 : decode cX0_countFaultyShots 13 = .ok (.iload 4, 2) := by decide +kernel
theorem dX0_countFaultyShots_15 : decode cX0_countFaultyShots 15 = .ok (.iload_n 3, 1) := by decide +kernel
theorem dX0_countFaultyShots_16 : decode cX0_countFaultyShots 16 = .ok (.if_icmp .ge 31, 3) := by decide +kernel
theorem dX0_countFaultyShots_19 : decode cX0_countFaultyShots 19 = .ok (.aload_n 2, 1) := by decide +kernel
theorem dX0_countFaultyShots_20 : decode cX0_countFaultyShots 20 = .ok (.iload 4, 2) := by decide +kernel
theorem dX0_countFaultyShots_22 : decode cX0_countFaultyShots 22 = .ok (.aaload, 1) := by decide +kernel
theorem dX0_countFaultyShots_23 : decode cX0_countFaultyShots 23 = .ok (.astore 5, 2) := by decide +kernel
theorem dX0_countFaultyShots_25 : decode cX0_countFaultyShots 25 = .ok (.iload_n 1, 1) := by decide +kernel
theorem dX0_countFaultyShots_26 : decode cX0_countFaultyShots 26 = .ok (.aload 5, 2) := by decide +kernel
theorem dX0_countFaultyShots_28 : decode cX0_countFaultyShots 28 = .ok (.getfield 39, 3) := by decide +kernel
theorem dX0_countFaultyShots_31 : decode cX0_countFaultyShots 31 = .ok (.ifCond .eq 7, 3) := by decide +kernel
theorem dX0_countFaultyShots_34 : decode cX0_countFaultyShots 34 = .ok (.iconst 1, 1) := by decide +kernel
theorem dX0_countFaultyShots_35 : decode cX0_countFaultyShots 35 = .ok (.goto 4, 3) := by decide +kernel
theorem dX0_countFaultyShots_38 : decode cX0_countFaultyShots 38 = .ok (.iconst 0, 1) := by decide +kernel
theorem dX0_countFaultyShots_39 : decode cX0_countFaultyShots 39 = .ok (.iadd, 1) := by decide +kernel
theorem dX0_countFaultyShots_40 : decode cX0_countFaultyShots 40 = .ok (.istore_n 1, 1) := by decide +kernel
theorem dX0_countFaultyShots_41 : decode cX0_countFaultyShots 41 = .ok (.iinc 4 1, 3) := by decide +kernel
theorem dX0_countFaultyShots_44 : decode cX0_countFaultyShots 44 = .ok (.goto (-31), 3) := by decide +kernel
theorem dX0_countFaultyShots_47 : decode cX0_countFaultyShots 47 = .ok (.iload_n 1, 1) := by decide +kernel
theorem dX0_countFaultyShots_48 : decode cX0_countFaultyShots 48 = .ok (.ireturn, 1) := by decide +kernel
theorem dX0_countLostPages_0 : decode cX0_countLostPages 0 = .ok (.iconst 0, 1) := by decide +kernel
theorem dX0_countLostPages_1 : decode cX0_countLostPages 1 = .ok (.istore_n 1, 1) := by decide +kernel
theorem dX0_countLostPages_2 : decode cX0_countLostPages 2 = .ok (.aload_n 0, 1) := by decide +kernel
theorem dX0_countLostPages_3 : decode cX0_countLostPages 3 = .ok (.getfield 11, 3) := by decide +kernel
theorem dX0_countLostPages_6 : decode cX0_countLostPages 6 = .ok (.astore_n 2, 1) := by decide +kernel
theorem dX0_countLostPages_7 : decode cX0_countLostPages 7 = .ok (.aload_n 2, 1) := by decide +kernel
theorem dX0_countLostPages_8 : decode cX0_countLostPages 8 = .ok (.arraylength, 1) := by decide +kernel
theorem dX0_countLostPages_9 : decode cX0_countLostPages 9 = .ok (.istore_n 3, 1) := by decide +kernel
theorem dX0_countLostPages_10 : decode cX0_countLostPages 10 = .ok (.iconst 0, 1) := by decide +kernel
theorem dX0_countLostPages_11 : decode cX0_countLostPages 11 = .ok (.istore 4, 2) := by decide +kernel
theorem dX0_countLostPages_13 : decode cX0_countLostPages 13 = .ok (.iload 4, 2) := by decide +kernel
theorem dX0_countLostPages_15 : decode cX0_countLostPages 15 = .ok (.iload_n 3, 1) := by decide +kernel
theorem dX0_countLostPages_16 : decode cX0_countLostPages 16 = .ok (.if_icmp .ge 31, 3) := by decide +kernel
theorem dX0_countLostPages_19 : decode cX0_countLostPages 19 = .ok (.aload_n 2, 1) := by decide +kernel
theorem dX0_countLostPages_20 : decode cX0_countLostPages 20 = .ok (.iload 4, 2) := by decide +kernel
theorem dX0_countLostPages_22 : decode cX0_countLostPages 22 = .ok (.aaload, 1) := by decide +kernel
theorem dX0_countLostPages_23 : decode cX0_countLostPages 23 = .ok (.astore 5, 2) := by decide +kernel
theorem dX0_countLostPages_25 : decode cX0_countLostPages 25 = .ok (.iload_n 1, 1) := by decide +kernel
theorem dX0_countLostPages_26 : decode cX0_countLostPages 26 = .ok (.aload 5, 2) := by decide +kernel
theorem dX0_countLostPages_28 : decode cX0_countLostPages 28 = .ok (.invokevirtual 42, 3) := by decide +kernel
theorem dX0_countLostPages_31 : decode cX0_countLostPages 31 = .ok (.ifCond .eq 7, 3) := by decide +kernel
theorem dX0_countLostPages_34 : decode cX0_countLostPages 34 = .ok (.iconst 1, 1) := by decide +kernel
theorem dX0_countLostPages_35 : decode cX0_countLostPages 35 = .ok (.goto 4, 3) := by decide +kernel
theorem dX0_countLostPages_38 : decode cX0_countLostPages 38 = .ok (.iconst 0, 1) := by decide +kernel
theorem dX0_countLostPages_39 : decode cX0_countLostPages 39 = .ok (.iadd, 1) := by decide +kernel
theorem dX0_countLostPages_40 : decode cX0_countLostPages 40 = .ok (.istore_n 1, 1) := by decide +kernel
theorem dX0_countLostPages_41 : decode cX0_countLostPages 41 = .ok (.iinc 4 1, 3) := by decide +kernel
theorem dX0_countLostPages_44 : decode cX0_countLostPages 44 = .ok (.goto (-31), 3) := by decide +kernel
theorem dX0_countLostPages_47 : decode cX0_countLostPages 47 = .ok (.iload_n 1, 1) := by decide +kernel
theorem dX0_countLostPages_48 : decode cX0_countLostPages 48 = .ok (.ireturn, 1) := by decide +kernel
theorem dX0_dropCopies_0 : decode cX0_dropCopies 0 = .ok (.iconst 0, 1) := by decide +kernel
theorem dX0_dropCopies_1 : decode cX0_dropCopies 1 = .ok (.istore_n 2, 1) := by decide +kernel
theorem dX0_dropCopies_2 : decode cX0_dropCopies 2 = .ok (.aload_n 0, 1) := by decide +kernel
theorem dX0_dropCopies_3 : decode cX0_dropCopies 3 = .ok (.getfield 11, 3) := by decide +kernel
theorem dX0_dropCopies_6 : decode cX0_dropCopies 6 = .ok (.astore_n 3, 1) := by decide +kernel
theorem dX0_dropCopies_7 : decode cX0_dropCopies 7 = .ok (.aload_n 3, 1) := by decide +kernel
theorem dX0_dropCopies_8 : decode cX0_dropCopies 8 = .ok (.arraylength, 1) := by decide +kernel
theorem dX0_dropCopies_9 : decode cX0_dropCopies 9 = .ok (.istore 4, 2) := by decide +kernel
theorem dX0_dropCopies_11 : decode cX0_dropCopies 11 = .ok (.iconst 0, 1) := by decide +kernel
theorem dX0_dropCopies_12 : decode cX0_dropCopies 12 = .ok (.istore 5, 2) := by decide +kernel
theorem dX0_dropCopies_14 : decode cX0_dropCopies 14 = .ok (.iload 5, 2) := by decide +kernel
theorem dX0_dropCopies_16 : decode cX0_dropCopies 16 = .ok (.iload 4, 2) := by decide +kernel
theorem dX0_dropCopies_18 : decode cX0_dropCopies 18 = .ok (.if_icmp .ge 41, 3) := by decide +kernel
theorem dX0_dropCopies_21 : decode cX0_dropCopies 21 = .ok (.aload_n 3, 1) := by decide +kernel
theorem dX0_dropCopies_22 : decode cX0_dropCopies 22 = .ok (.iload 5, 2) := by decide +kernel
theorem dX0_dropCopies_24 : decode cX0_dropCopies 24 = .ok (.aaload, 1) := by decide +kernel
theorem dX0_dropCopies_25 : decode cX0_dropCopies 25 = .ok (.astore 6, 2) := by decide +kernel
theorem dX0_dropCopies_27 : decode cX0_dropCopies 27 = .ok (.iload_n 2, 1) := by decide +kernel
theorem dX0_dropCopies_28 : decode cX0_dropCopies 28 = .ok (.aload 6, 2) := by decide +kernel
theorem dX0_dropCopies_30 : decode cX0_dropCopies 30 = .ok (.getfield 46, 3) := by decide +kernel
theorem dX0_dropCopies_33 : decode cX0_dropCopies 33 = .ok (.iload_n 1, 1) := by decide +kernel
theorem dX0_dropCopies_34 : decode cX0_dropCopies 34 = .ok (.baload, 1) := by decide +kernel
theorem dX0_dropCopies_35 : decode cX0_dropCopies 35 = .ok (.ifCond .eq 7, 3) := by decide +kernel
theorem dX0_dropCopies_38 : decode cX0_dropCopies 38 = .ok (.iconst 1, 1) := by decide +kernel
theorem dX0_dropCopies_39 : decode cX0_dropCopies 39 = .ok (.goto 4, 3) := by decide +kernel
theorem dX0_dropCopies_42 : decode cX0_dropCopies 42 = .ok (.iconst 0, 1) := by decide +kernel
theorem dX0_dropCopies_43 : decode cX0_dropCopies 43 = .ok (.iadd, 1) := by decide +kernel
theorem dX0_dropCopies_44 : decode cX0_dropCopies 44 = .ok (.istore_n 2, 1) := by decide +kernel
theorem dX0_dropCopies_45 : decode cX0_dropCopies 45 = .ok (.aload 6, 2) := by decide +kernel
theorem dX0_dropCopies_47 : decode cX0_dropCopies 47 = .ok (.getfield 46, 3) := by decide +kernel
theorem dX0_dropCopies_50 : decode cX0_dropCopies 50 = .ok (.iload_n 1, 1) := by decide +kernel
theorem dX0_dropCopies_51 : decode cX0_dropCopies 51 = .ok (.iconst 0, 1) := by decide +kernel
theorem dX0_dropCopies_52 : decode cX0_dropCopies 52 = .ok (.bastore, 1) := by decide +kernel
theorem dX0_dropCopies_53 : decode cX0_dropCopies 53 = .ok (.iinc 5 1, 3) := by decide +kernel
theorem dX0_dropCopies_56 : decode cX0_dropCopies 56 = .ok (.goto (-42), 3) := by decide +kernel
theorem dX0_dropCopies_59 : decode cX0_dropCopies 59 = .ok (.iload_n 2, 1) := by decide +kernel
theorem dX0_dropCopies_60 : decode cX0_dropCopies 60 = .ok (.ireturn, 1) := by decide +kernel
theorem dX0_placesKeyedBy_0 : decode cX0_placesKeyedBy 0 = .ok (.iconst 0, 1) := by decide +kernel
theorem dX0_placesKeyedBy_1 : decode cX0_placesKeyedBy 1 = .ok (.istore_n 2, 1) := by decide +kernel
theorem dX0_placesKeyedBy_2 : decode cX0_placesKeyedBy 2 = .ok (.aload_n 0, 1) := by decide +kernel
theorem dX0_placesKeyedBy_3 : decode cX0_placesKeyedBy 3 = .ok (.getfield 11, 3) := by decide +kernel
theorem dX0_placesKeyedBy_6 : decode cX0_placesKeyedBy 6 = .ok (.astore_n 3, 1) := by decide +kernel
theorem dX0_placesKeyedBy_7 : decode cX0_placesKeyedBy 7 = .ok (.aload_n 3, 1) := by decide +kernel
theorem dX0_placesKeyedBy_8 : decode cX0_placesKeyedBy 8 = .ok (.arraylength, 1) := by decide +kernel
theorem dX0_placesKeyedBy_9 : decode cX0_placesKeyedBy 9 = .ok (.istore 4, 2) := by decide +kernel
theorem dX0_placesKeyedBy_11 : decode cX0_placesKeyedBy 11 = .ok (.iconst 0, 1) := by decide +kernel
theorem dX0_placesKeyedBy_12 : decode cX0_placesKeyedBy 12 = .ok (.istore 5, 2) := by decide +kernel
theorem dX0_placesKeyedBy_14 : decode cX0_placesKeyedBy 14 = .ok (.iload 5, 2) := by decide +kernel
theorem dX0_placesKeyedBy_16 : decode cX0_placesKeyedBy 16 = .ok (.iload 4, 2) := by decide +kernel
theorem dX0_placesKeyedBy_18 : decode cX0_placesKeyedBy 18 = .ok (.if_icmp .ge 52, 3) := by decide +kernel
theorem dX0_placesKeyedBy_21 : decode cX0_placesKeyedBy 21 = .ok (.aload_n 3, 1) := by decide +kernel
theorem dX0_placesKeyedBy_22 : decode cX0_placesKeyedBy 22 = .ok (.iload 5, 2) := by decide +kernel
theorem dX0_placesKeyedBy_24 : decode cX0_placesKeyedBy 24 = .ok (.aaload, 1) := by decide +kernel
theorem dX0_placesKeyedBy_25 : decode cX0_placesKeyedBy 25 = .ok (.astore 6, 2) := by decide +kernel
theorem dX0_placesKeyedBy_27 : decode cX0_placesKeyedBy 27 = .ok (.iconst 0, 1) := by decide +kernel
theorem dX0_placesKeyedBy_28 : decode cX0_placesKeyedBy 28 = .ok (.istore 7, 2) := by decide +kernel
theorem dX0_placesKeyedBy_30 : decode cX0_placesKeyedBy 30 = .ok (.iload 7, 2) := by decide +kernel
theorem dX0_placesKeyedBy_32 : decode cX0_placesKeyedBy 32 = .ok (.iconst 4, 1) := by decide +kernel
theorem dX0_placesKeyedBy_33 : decode cX0_placesKeyedBy 33 = .ok (.if_icmp .ge 31, 3) := by decide +kernel
theorem dX0_placesKeyedBy_36 : decode cX0_placesKeyedBy 36 = .ok (.iload_n 2, 1) := by decide +kernel
theorem dX0_placesKeyedBy_37 : decode cX0_placesKeyedBy 37 = .ok (.aload 6, 2) := by decide +kernel
theorem dX0_placesKeyedBy_39 : decode cX0_placesKeyedBy 39 = .ok (.getfield 50, 3) := by decide +kernel
theorem dX0_placesKeyedBy_42 : decode cX0_placesKeyedBy 42 = .ok (.iload_n 1, 1) := by decide +kernel
theorem dX0_placesKeyedBy_43 : decode cX0_placesKeyedBy 43 = .ok (.aaload, 1) := by decide +kernel
theorem dX0_placesKeyedBy_44 : decode cX0_placesKeyedBy 44 = .ok (.iload 7, 2) := by decide +kernel
theorem dX0_placesKeyedBy_46 : decode cX0_placesKeyedBy 46 = .ok (.iaload, 1) := by decide +kernel
theorem dX0_placesKeyedBy_47 : decode cX0_placesKeyedBy 47 = .ok (.iconst (-1), 1) := by decide +kernel
theorem dX0_placesKeyedBy_48 : decode cX0_placesKeyedBy 48 = .ok (.if_icmp .eq 7, 3) := by decide +kernel
theorem dX0_placesKeyedBy_51 : decode cX0_placesKeyedBy 51 = .ok (.iconst 1, 1) := by decide +kernel
theorem dX0_placesKeyedBy_52 : decode cX0_placesKeyedBy 52 = .ok (.goto 4, 3) := by decide +kernel
theorem dX0_placesKeyedBy_55 : decode cX0_placesKeyedBy 55 = .ok (.iconst 0, 1) := by decide +kernel
theorem dX0_placesKeyedBy_56 : decode cX0_placesKeyedBy 56 = .ok (.iadd, 1) := by decide +kernel
theorem dX0_placesKeyedBy_57 : decode cX0_placesKeyedBy 57 = .ok (.istore_n 2, 1) := by decide +kernel
theorem dX0_placesKeyedBy_58 : decode cX0_placesKeyedBy 58 = .ok (.iinc 7 1, 3) := by decide +kernel
theorem dX0_placesKeyedBy_61 : decode cX0_placesKeyedBy 61 = .ok (.goto (-31), 3) := by decide +kernel
theorem dX0_placesKeyedBy_64 : decode cX0_placesKeyedBy 64 = .ok (.iinc 5 1, 3) := by decide +kernel
theorem dX0_placesKeyedBy_67 : decode cX0_placesKeyedBy 67 = .ok (.goto (-53), 3) := by decide +kernel
theorem dX0_placesKeyedBy_70 : decode cX0_placesKeyedBy 70 = .ok (.iload_n 2, 1) := by decide +kernel
theorem dX0_placesKeyedBy_71 : decode cX0_placesKeyedBy 71 = .ok (.ireturn, 1) := by decide +kernel
theorem dX0_goldKeyedBy_0 : decode cX0_goldKeyedBy 0 = .ok (.iconst 0, 1) := by decide +kernel
theorem dX0_goldKeyedBy_1 : decode cX0_goldKeyedBy 1 = .ok (.istore_n 2, 1) := by decide +kernel
theorem dX0_goldKeyedBy_2 : decode cX0_goldKeyedBy 2 = .ok (.aload_n 0, 1) := by decide +kernel
theorem dX0_goldKeyedBy_3 : decode cX0_goldKeyedBy 3 = .ok (.getfield 11, 3) := by decide +kernel
theorem dX0_goldKeyedBy_6 : decode cX0_goldKeyedBy 6 = .ok (.astore_n 3, 1) := by decide +kernel
theorem dX0_goldKeyedBy_7 : decode cX0_goldKeyedBy 7 = .ok (.aload_n 3, 1) := by decide +kernel
theorem dX0_goldKeyedBy_8 : decode cX0_goldKeyedBy 8 = .ok (.arraylength, 1) := by decide +kernel
theorem dX0_goldKeyedBy_9 : decode cX0_goldKeyedBy 9 = .ok (.istore 4, 2) := by decide +kernel
theorem dX0_goldKeyedBy_11 : decode cX0_goldKeyedBy 11 = .ok (.iconst 0, 1) := by decide +kernel
theorem dX0_goldKeyedBy_12 : decode cX0_goldKeyedBy 12 = .ok (.istore 5, 2) := by decide +kernel
theorem dX0_goldKeyedBy_14 : decode cX0_goldKeyedBy 14 = .ok (.iload 5, 2) := by decide +kernel
theorem dX0_goldKeyedBy_16 : decode cX0_goldKeyedBy 16 = .ok (.iload 4, 2) := by decide +kernel
theorem dX0_goldKeyedBy_18 : decode cX0_goldKeyedBy 18 = .ok (.if_icmp .ge 76, 3) := by decide +kernel
theorem dX0_goldKeyedBy_21 : decode cX0_goldKeyedBy 21 = .ok (.aload_n 3, 1) := by decide +kernel
theorem dX0_goldKeyedBy_22 : decode cX0_goldKeyedBy 22 = .ok (.iload 5, 2) := by decide +kernel
theorem dX0_goldKeyedBy_24 : decode cX0_goldKeyedBy 24 = .ok (.aaload, 1) := by decide +kernel
theorem dX0_goldKeyedBy_25 : decode cX0_goldKeyedBy 25 = .ok (.astore 6, 2) := by decide +kernel
theorem dX0_goldKeyedBy_27 : decode cX0_goldKeyedBy 27 = .ok (.iconst 0, 1) := by decide +kernel
theorem dX0_goldKeyedBy_28 : decode cX0_goldKeyedBy 28 = .ok (.istore 7, 2) := by decide +kernel
theorem dX0_goldKeyedBy_30 : decode cX0_goldKeyedBy 30 = .ok (.iload 7, 2) := by decide +kernel
theorem dX0_goldKeyedBy_32 : decode cX0_goldKeyedBy 32 = .ok (.iconst 4, 1) := by decide +kernel
theorem dX0_goldKeyedBy_33 : decode cX0_goldKeyedBy 33 = .ok (.if_icmp .ge 55, 3) := by decide +kernel
theorem dX0_goldKeyedBy_36 : decode cX0_goldKeyedBy 36 = .ok (.aload 6, 2) := by decide +kernel
theorem dX0_goldKeyedBy_38 : decode cX0_goldKeyedBy 38 = .ok (.getfield 54, 3) := by decide +kernel
theorem dX0_goldKeyedBy_41 : decode cX0_goldKeyedBy 41 = .ok (.iload 7, 2) := by decide +kernel
theorem dX0_goldKeyedBy_43 : decode cX0_goldKeyedBy 43 = .ok (.iaload, 1) := by decide +kernel
theorem dX0_goldKeyedBy_44 : decode cX0_goldKeyedBy 44 = .ok (.iconst (-1), 1) := by decide +kernel
theorem dX0_goldKeyedBy_45 : decode cX0_goldKeyedBy 45 = .ok (.if_icmp .eq 21, 3) := by decide +kernel
theorem dX0_goldKeyedBy_48 : decode cX0_goldKeyedBy 48 = .ok (.aload 6, 2) := by decide +kernel
theorem dX0_goldKeyedBy_50 : decode cX0_goldKeyedBy 50 = .ok (.getfield 50, 3) := by decide +kernel
theorem dX0_goldKeyedBy_53 : decode cX0_goldKeyedBy 53 = .ok (.iload_n 1, 1) := by decide +kernel
theorem dX0_goldKeyedBy_54 : decode cX0_goldKeyedBy 54 = .ok (.aaload, 1) := by decide +kernel
theorem dX0_goldKeyedBy_55 : decode cX0_goldKeyedBy 55 = .ok (.iload 7, 2) := by decide +kernel
theorem dX0_goldKeyedBy_57 : decode cX0_goldKeyedBy 57 = .ok (.iaload, 1) := by decide +kernel
theorem dX0_goldKeyedBy_58 : decode cX0_goldKeyedBy 58 = .ok (.iconst (-1), 1) := by decide +kernel
theorem dX0_goldKeyedBy_59 : decode cX0_goldKeyedBy 59 = .ok (.if_icmp .eq 7, 3) := by decide +kernel
theorem dX0_goldKeyedBy_62 : decode cX0_goldKeyedBy 62 = .ok (.iconst 1, 1) := by decide +kernel
theorem dX0_goldKeyedBy_63 : decode cX0_goldKeyedBy 63 = .ok (.goto 4, 3) := by decide +kernel
theorem dX0_goldKeyedBy_66 : decode cX0_goldKeyedBy 66 = .ok (.iconst 0, 1) := by decide +kernel
theorem dX0_goldKeyedBy_67 : decode cX0_goldKeyedBy 67 = .ok (.istore 8, 2) := by decide +kernel
theorem dX0_goldKeyedBy_69 : decode cX0_goldKeyedBy 69 = .ok (.iload_n 2, 1) := by decide +kernel
theorem dX0_goldKeyedBy_70 : decode cX0_goldKeyedBy 70 = .ok (.iload 8, 2) := by decide +kernel
theorem dX0_goldKeyedBy_72 : decode cX0_goldKeyedBy 72 = .ok (.ifCond .eq 7, 3) := by decide +kernel
theorem dX0_goldKeyedBy_75 : decode cX0_goldKeyedBy 75 = .ok (.iconst 1, 1) := by decide +kernel
theorem dX0_goldKeyedBy_76 : decode cX0_goldKeyedBy 76 = .ok (.goto 4, 3) := by decide +kernel
theorem dX0_goldKeyedBy_79 : decode cX0_goldKeyedBy 79 = .ok (.iconst 0, 1) := by decide +kernel
theorem dX0_goldKeyedBy_80 : decode cX0_goldKeyedBy 80 = .ok (.iadd, 1) := by decide +kernel
theorem dX0_goldKeyedBy_81 : decode cX0_goldKeyedBy 81 = .ok (.istore_n 2, 1) := by decide +kernel
theorem dX0_goldKeyedBy_82 : decode cX0_goldKeyedBy 82 = .ok (.iinc 7 1, 3) := by decide +kernel
theorem dX0_goldKeyedBy_85 : decode cX0_goldKeyedBy 85 = .ok (.goto (-55), 3) := by decide +kernel
theorem dX0_goldKeyedBy_88 : decode cX0_goldKeyedBy 88 = .ok (.iinc 5 1, 3) := by decide +kernel
theorem dX0_goldKeyedBy_91 : decode cX0_goldKeyedBy 91 = .ok (.goto (-77), 3) := by decide +kernel
theorem dX0_goldKeyedBy_94 : decode cX0_goldKeyedBy 94 = .ok (.iload_n 2, 1) := by decide +kernel
theorem dX0_goldKeyedBy_95 : decode cX0_goldKeyedBy 95 = .ok (.ireturn, 1) := by decide +kernel
theorem dX0_goldKeyedRightBy_0 : decode cX0_goldKeyedRightBy 0 = .ok (.iconst 0, 1) := by decide +kernel
theorem dX0_goldKeyedRightBy_1 : decode cX0_goldKeyedRightBy 1 = .ok (.istore_n 2, 1) := by decide +kernel
theorem dX0_goldKeyedRightBy_2 : decode cX0_goldKeyedRightBy 2 = .ok (.aload_n 0, 1) := by decide +kernel
theorem dX0_goldKeyedRightBy_3 : decode cX0_goldKeyedRightBy 3 = .ok (.getfield 11, 3) := by decide +kernel
theorem dX0_goldKeyedRightBy_6 : decode cX0_goldKeyedRightBy 6 = .ok (.astore_n 3, 1) := by decide +kernel
theorem dX0_goldKeyedRightBy_7 : decode cX0_goldKeyedRightBy 7 = .ok (.aload_n 3, 1) := by decide +kernel
theorem dX0_goldKeyedRightBy_8 : decode cX0_goldKeyedRightBy 8 = .ok (.arraylength, 1) := by decide +kernel
theorem dX0_goldKeyedRightBy_9 : decode cX0_goldKeyedRightBy 9 = .ok (.istore 4, 2) := by decide +kernel
theorem dX0_goldKeyedRightBy_11 : decode cX0_goldKeyedRightBy 11 = .ok (.iconst 0, 1) := by decide +kernel
theorem dX0_goldKeyedRightBy_12 : decode cX0_goldKeyedRightBy 12 = .ok (.istore 5, 2) := by decide +kernel
theorem dX0_goldKeyedRightBy_14 : decode cX0_goldKeyedRightBy 14 = .ok (.iload 5, 2) := by decide +kernel
theorem dX0_goldKeyedRightBy_16 : decode cX0_goldKeyedRightBy 16 = .ok (.iload 4, 2) := by decide +kernel
theorem dX0_goldKeyedRightBy_18 : decode cX0_goldKeyedRightBy 18 = .ok (.if_icmp .ge 83, 3) := by decide +kernel
theorem dX0_goldKeyedRightBy_21 : decode cX0_goldKeyedRightBy 21 = .ok (.aload_n 3, 1) := by decide +kernel
theorem dX0_goldKeyedRightBy_22 : decode cX0_goldKeyedRightBy 22 = .ok (.iload 5, 2) := by decide +kernel
theorem dX0_goldKeyedRightBy_24 : decode cX0_goldKeyedRightBy 24 = .ok (.aaload, 1) := by decide +kernel
theorem dX0_goldKeyedRightBy_25 : decode cX0_goldKeyedRightBy 25 = .ok (.astore 6, 2) := by decide +kernel
theorem dX0_goldKeyedRightBy_27 : decode cX0_goldKeyedRightBy 27 = .ok (.iconst 0, 1) := by decide +kernel
theorem dX0_goldKeyedRightBy_28 : decode cX0_goldKeyedRightBy 28 = .ok (.istore 7, 2) := by decide +kernel
theorem dX0_goldKeyedRightBy_30 : decode cX0_goldKeyedRightBy 30 = .ok (.iload 7, 2) := by decide +kernel
theorem dX0_goldKeyedRightBy_32 : decode cX0_goldKeyedRightBy 32 = .ok (.iconst 4, 1) := by decide +kernel
theorem dX0_goldKeyedRightBy_33 : decode cX0_goldKeyedRightBy 33 = .ok (.if_icmp .ge 62, 3) := by decide +kernel
theorem dX0_goldKeyedRightBy_36 : decode cX0_goldKeyedRightBy 36 = .ok (.aload 6, 2) := by decide +kernel
theorem dX0_goldKeyedRightBy_38 : decode cX0_goldKeyedRightBy 38 = .ok (.getfield 54, 3) := by decide +kernel
theorem dX0_goldKeyedRightBy_41 : decode cX0_goldKeyedRightBy 41 = .ok (.iload 7, 2) := by decide +kernel
theorem dX0_goldKeyedRightBy_43 : decode cX0_goldKeyedRightBy 43 = .ok (.iaload, 1) := by decide +kernel
theorem dX0_goldKeyedRightBy_44 : decode cX0_goldKeyedRightBy 44 = .ok (.iconst (-1), 1) := by decide +kernel
theorem dX0_goldKeyedRightBy_45 : decode cX0_goldKeyedRightBy 45 = .ok (.if_icmp .eq 28, 3) := by decide +kernel
theorem dX0_goldKeyedRightBy_48 : decode cX0_goldKeyedRightBy 48 = .ok (.aload 6, 2) := by decide +kernel
theorem dX0_goldKeyedRightBy_50 : decode cX0_goldKeyedRightBy 50 = .ok (.getfield 54, 3) := by decide +kernel
theorem dX0_goldKeyedRightBy_53 : decode cX0_goldKeyedRightBy 53 = .ok (.iload 7, 2) := by decide +kernel
theorem dX0_goldKeyedRightBy_55 : decode cX0_goldKeyedRightBy 55 = .ok (.iaload, 1) := by decide +kernel
theorem dX0_goldKeyedRightBy_56 : decode cX0_goldKeyedRightBy 56 = .ok (.aload 6, 2) := by decide +kernel
theorem dX0_goldKeyedRightBy_58 : decode cX0_goldKeyedRightBy 58 = .ok (.getfield 50, 3) := by decide +kernel
theorem dX0_goldKeyedRightBy_61 : decode cX0_goldKeyedRightBy 61 = .ok (.iload_n 1, 1) := by decide +kernel
theorem dX0_goldKeyedRightBy_62 : decode cX0_goldKeyedRightBy 62 = .ok (.aaload, 1) := by decide +kernel
theorem dX0_goldKeyedRightBy_63 : decode cX0_goldKeyedRightBy 63 = .ok (.iload 7, 2) := by decide +kernel
theorem dX0_goldKeyedRightBy_65 : decode cX0_goldKeyedRightBy 65 = .ok (.iaload, 1) := by decide +kernel
theorem dX0_goldKeyedRightBy_66 : decode cX0_goldKeyedRightBy 66 = .ok (.if_icmp .ne 7, 3) := by decide +kernel
theorem dX0_goldKeyedRightBy_69 : decode cX0_goldKeyedRightBy 69 = .ok (.iconst 1, 1) := by decide +kernel
theorem dX0_goldKeyedRightBy_70 : decode cX0_goldKeyedRightBy 70 = .ok (.goto 4, 3) := by decide +kernel
theorem dX0_goldKeyedRightBy_73 : decode cX0_goldKeyedRightBy 73 = .ok (.iconst 0, 1) := by decide +kernel
theorem dX0_goldKeyedRightBy_74 : decode cX0_goldKeyedRightBy 74 = .ok (.istore 8, 2) := by decide +kernel
theorem dX0_goldKeyedRightBy_76 : decode cX0_goldKeyedRightBy 76 = .ok (.iload_n 2, 1) := by decide +kernel
theorem dX0_goldKeyedRightBy_77 : decode cX0_goldKeyedRightBy 77 = .ok (.iload 8, 2) := by decide +kernel
theorem dX0_goldKeyedRightBy_79 : decode cX0_goldKeyedRightBy 79 = .ok (.ifCond .eq 7, 3) := by decide +kernel
theorem dX0_goldKeyedRightBy_82 : decode cX0_goldKeyedRightBy 82 = .ok (.iconst 1, 1) := by decide +kernel
theorem dX0_goldKeyedRightBy_83 : decode cX0_goldKeyedRightBy 83 = .ok (.goto 4, 3) := by decide +kernel
theorem dX0_goldKeyedRightBy_86 : decode cX0_goldKeyedRightBy 86 = .ok (.iconst 0, 1) := by decide +kernel
theorem dX0_goldKeyedRightBy_87 : decode cX0_goldKeyedRightBy 87 = .ok (.iadd, 1) := by decide +kernel
theorem dX0_goldKeyedRightBy_88 : decode cX0_goldKeyedRightBy 88 = .ok (.istore_n 2, 1) := by decide +kernel
theorem dX0_goldKeyedRightBy_89 : decode cX0_goldKeyedRightBy 89 = .ok (.iinc 7 1, 3) := by decide +kernel
theorem dX0_goldKeyedRightBy_92 : decode cX0_goldKeyedRightBy 92 = .ok (.goto (-62), 3) := by decide +kernel
theorem dX0_goldKeyedRightBy_95 : decode cX0_goldKeyedRightBy 95 = .ok (.iinc 5 1, 3) := by decide +kernel
theorem dX0_goldKeyedRightBy_98 : decode cX0_goldKeyedRightBy 98 = .ok (.goto (-84), 3) := by decide +kernel
theorem dX0_goldKeyedRightBy_101 : decode cX0_goldKeyedRightBy 101 = .ok (.iload_n 2, 1) := by decide +kernel
theorem dX0_goldKeyedRightBy_102 : decode cX0_goldKeyedRightBy 102 = .ok (.ireturn, 1) := by decide +kernel
theorem dX1_init_0 : decode cX1_init 0 = .ok (.aload_n 0, 1) := by decide +kernel
theorem dX1_init_1 : decode cX1_init 1 = .ok (.invokespecial 3, 3) := by decide +kernel
theorem dX1_init_4 : decode cX1_init 4 = .ok (.aload_n 0, 1) := by decide +kernel
theorem dX1_init_5 : decode cX1_init 5 = .ok (.bipush 26, 2) := by decide +kernel
theorem dX1_init_7 : decode cX1_init 7 = .ok (.newarray .int, 2) := by decide +kernel
theorem dX1_init_9 : decode cX1_init 9 = .ok (.putfield 9, 3) := by decide +kernel
theorem dX1_init_12 : decode cX1_init 12 = .ok (.return_, 1) := by decide +kernel
theorem dX1_clear_0 : decode cX1_clear 0 = .ok (.aload_n 0, 1) := by decide +kernel
theorem dX1_clear_1 : decode cX1_clear 1 = .ok (.getfield 9, 3) := by decide +kernel
theorem dX1_clear_4 : decode cX1_clear 4 = .ok (.iconst 0, 1) := by decide +kernel
theorem dX1_clear_5 : decode cX1_clear 5 = .ok (.invokestatic 15, 3) := by decide +kernel
theorem dX1_clear_8 : decode cX1_clear 8 = .ok (.aload_n 0, 1) := by decide +kernel
theorem dX1_clear_9 : decode cX1_clear 9 = .ok (.iconst 0, 1) := by decide +kernel
theorem dX1_clear_10 : decode cX1_clear 10 = .ok (.putfield 21, 3) := by decide +kernel
theorem dX1_clear_13 : decode cX1_clear 13 = .ok (.return_, 1) := by decide +kernel
theorem dX1_put_0 : decode cX1_put 0 = .ok (.iload_n 1, 1) := by decide +kernel
theorem dX1_put_1 : decode cX1_put 1 = .ok (.ifCond .lt 31, 3) := by decide +kernel
theorem dX1_put_4 : decode cX1_put 4 = .ok (.iload_n 1, 1) := by decide +kernel
theorem dX1_put_5 : decode cX1_put 5 = .ok (.bipush 26, 2) := by decide +kernel
theorem dX1_put_7 : decode cX1_put 7 = .ok (.if_icmp .ge 25, 3) := by decide +kernel
theorem dX1_put_10 : decode cX1_put 10 = .ok (.aload_n 0, 1) := by decide +kernel
theorem dX1_put_11 : decode cX1_put 11 = .ok (.getfield 9, 3) := by decide +kernel
theorem dX1_put_14 : decode cX1_put 14 = .ok (.iload_n 1, 1) := by decide +kernel
theorem dX1_put_15 : decode cX1_put 15 = .ok (.dup2, 1) := by decide +kernel
theorem dX1_put_16 : decode cX1_put 16 = .ok (.iaload, 1) := by decide +kernel
theorem dX1_put_17 : decode cX1_put 17 = .ok (.iload_n 2, 1) := by decide +kernel
theorem dX1_put_18 : decode cX1_put 18 = .ok (.iadd, 1) := by decide +kernel
theorem dX1_put_19 : decode cX1_put 19 = .ok (.iastore, 1) := by decide +kernel
theorem dX1_put_20 : decode cX1_put 20 = .ok (.aload_n 0, 1) := by decide +kernel
theorem dX1_put_21 : decode cX1_put 21 = .ok (.dup, 1) := by decide +kernel
theorem dX1_put_22 : decode cX1_put 22 = .ok (.getfield 21, 3) := by decide +kernel
theorem dX1_put_25 : decode cX1_put 25 = .ok (.iconst 1, 1) := by decide +kernel
theorem dX1_put_26 : decode cX1_put 26 = .ok (.iload_n 1, 1) := by decide +kernel
theorem dX1_put_27 : decode cX1_put 27 = .ok (.ishl, 1) := by decide +kernel
theorem dX1_put_28 : decode cX1_put 28 = .ok (.ior, 1) := by decide +kernel
theorem dX1_put_29 : decode cX1_put 29 = .ok (.putfield 21, 3) := by decide +kernel
theorem dX1_put_32 : decode cX1_put 32 = .ok (.return_, 1) := by decide +kernel
theorem dX1_heaviestLetter_0 : decode cX1_heaviestLetter 0 = .ok (.iconst (-1), 1) := by decide +kernel
theorem dX1_heaviestLetter_1 : decode cX1_heaviestLetter 1 = .ok (.istore_n 1, 1) := by decide +kernel
theorem dX1_heaviestLetter_2 : decode cX1_heaviestLetter 2 = .ok (.iconst (-1), 1) := by decide +kernel
theorem dX1_heaviestLetter_3 : decode cX1_heaviestLetter 3 = .ok (.istore_n 2, 1) := by decide +kernel
theorem dX1_heaviestLetter_4 : decode cX1_heaviestLetter 4 = .ok (.iconst 0, 1) := by decide +kernel
theorem dX1_heaviestLetter_5 : decode cX1_heaviestLetter 5 = .ok (.istore_n 3, 1) := by decide +kernel
theorem dX1_heaviestLetter_6 : decode cX1_heaviestLetter 6 = .ok (.iload_n 3, 1) := by decide +kernel
theorem dX1_heaviestLetter_7 : decode cX1_heaviestLetter 7 = .ok (.bipush 26, 2) := by decide +kernel
theorem dX1_heaviestLetter_9 : decode cX1_heaviestLetter 9 = .ok (.if_icmp .ge 51, 3) := by decide +kernel
theorem dX1_heaviestLetter_12 : decode cX1_heaviestLetter 12 = .ok (.aload_n 0, 1) := by decide +kernel
theorem dX1_heaviestLetter_13 : decode cX1_heaviestLetter 13 = .ok (.getfield 21, 3) := by decide +kernel
theorem dX1_heaviestLetter_16 : decode cX1_heaviestLetter 16 = .ok (.iload_n 3, 1) := by decide +kernel
theorem dX1_heaviestLetter_17 : decode cX1_heaviestLetter 17 = .ok (.ishr, 1) := by decide +kernel
theorem dX1_heaviestLetter_18 : decode cX1_heaviestLetter 18 = .ok (.iconst 1, 1) := by decide +kernel
theorem dX1_heaviestLetter_19 : decode cX1_heaviestLetter 19 = .ok (.iand, 1) := by decide +kernel
theorem dX1_heaviestLetter_20 : decode cX1_heaviestLetter 20 = .ok (.ifCond .eq 7, 3) := by decide +kernel
theorem dX1_heaviestLetter_23 : decode cX1_heaviestLetter 23 = .ok (.iconst 1, 1) := by decide +kernel
theorem dX1_heaviestLetter_24 : decode cX1_heaviestLetter 24 = .ok (.goto 4, 3) := by decide +kernel
theorem dX1_heaviestLetter_27 : decode cX1_heaviestLetter 27 = .ok (.iconst 0, 1) := by decide +kernel
theorem dX1_heaviestLetter_28 : decode cX1_heaviestLetter 28 = .ok (.istore 4, 2) := by decide +kernel
theorem dX1_heaviestLetter_30 : decode cX1_heaviestLetter 30 = .ok (.iload 4, 2) := by decide +kernel
theorem dX1_heaviestLetter_32 : decode cX1_heaviestLetter 32 = .ok (.ifCond .eq 22, 3) := by decide +kernel
theorem dX1_heaviestLetter_35 : decode cX1_heaviestLetter 35 = .ok (.aload_n 0, 1) := by decide +kernel
theorem dX1_heaviestLetter_36 : decode cX1_heaviestLetter 36 = .ok (.getfield 9, 3) := by decide +kernel
theorem dX1_heaviestLetter_39 : decode cX1_heaviestLetter 39 = .ok (.iload_n 3, 1) := by decide +kernel
theorem dX1_heaviestLetter_40 : decode cX1_heaviestLetter 40 = .ok (.iaload, 1) := by decide +kernel
theorem dX1_heaviestLetter_41 : decode cX1_heaviestLetter 41 = .ok (.iload_n 2, 1) := by decide +kernel
theorem dX1_heaviestLetter_42 : decode cX1_heaviestLetter 42 = .ok (.if_icmp .le 12, 3) := by decide +kernel
theorem dX1_heaviestLetter_45 : decode cX1_heaviestLetter 45 = .ok (.iload_n 3, 1) := by decide +kernel
theorem dX1_heaviestLetter_46 : decode cX1_heaviestLetter 46 = .ok (.istore_n 1, 1) := by decide +kernel
theorem dX1_heaviestLetter_47 : decode cX1_heaviestLetter 47 = .ok (.aload_n 0, 1) := by decide +kernel
theorem dX1_heaviestLetter_48 : decode cX1_heaviestLetter 48 = .ok (.getfield 9, 3) := by decide +kernel
theorem dX1_heaviestLetter_51 : decode cX1_heaviestLetter 51 = .ok (.iload_n 3, 1) := by decide +kernel
theorem dX1_heaviestLetter_52 : decode cX1_heaviestLetter 52 = .ok (.iaload, 1) := by decide +kernel
theorem dX1_heaviestLetter_53 : decode cX1_heaviestLetter 53 = .ok (.istore_n 2, 1) := by decide +kernel
theorem dX1_heaviestLetter_54 : decode cX1_heaviestLetter 54 = .ok (.iinc 3 1, 3) := by decide +kernel
theorem dX1_heaviestLetter_57 : decode cX1_heaviestLetter 57 = .ok (.goto (-51), 3) := by decide +kernel
theorem dX1_heaviestLetter_60 : decode cX1_heaviestLetter 60 = .ok (.iload_n 1, 1) := by decide +kernel
theorem dX1_heaviestLetter_61 : decode cX1_heaviestLetter 61 = .ok (.ireturn, 1) := by decide +kernel
theorem dX1_doubtInHeaviest_0 : decode cX1_doubtInHeaviest 0 = .ok (.iconst 0, 1) := by decide +kernel
theorem dX1_doubtInHeaviest_1 : decode cX1_doubtInHeaviest 1 = .ok (.istore_n 1, 1) := by decide +kernel
theorem dX1_doubtInHeaviest_2 : decode cX1_doubtInHeaviest 2 = .ok (.iconst 0, 1) := by decide +kernel
theorem dX1_doubtInHeaviest_3 : decode cX1_doubtInHeaviest 3 = .ok (.istore_n 2, 1) := by decide +kernel
theorem dX1_doubtInHeaviest_4 : decode cX1_doubtInHeaviest 4 = .ok (.aload_n 0, 1) := by decide +kernel
theorem dX1_doubtInHeaviest_5 : decode cX1_doubtInHeaviest 5 = .ok (.getfield 9, 3) := by decide +kernel
theorem dX1_doubtInHeaviest_8 : decode cX1_doubtInHeaviest 8 = .ok (.astore_n 3, 1) := by decide +kernel
theorem dX1_doubtInHeaviest_9 : decode cX1_doubtInHeaviest 9 = .ok (.aload_n 3, 1) := by decide +kernel
theorem dX1_doubtInHeaviest_10 : decode cX1_doubtInHeaviest 10 = .ok (.arraylength, 1) := by decide +kernel
theorem dX1_doubtInHeaviest_11 : decode cX1_doubtInHeaviest 11 = .ok (.istore 4, 2) := by decide +kernel
theorem dX1_doubtInHeaviest_13 : decode cX1_doubtInHeaviest 13 = .ok (.iconst 0, 1) := by decide +kernel
theorem dX1_doubtInHeaviest_14 : decode cX1_doubtInHeaviest 14 = .ok (.istore 5, 2) := by decide +kernel
theorem dX1_doubtInHeaviest_16 : decode cX1_doubtInHeaviest 16 = .ok (.iload 5, 2) := by decide +kernel
theorem dX1_doubtInHeaviest_18 : decode cX1_doubtInHeaviest 18 = .ok (.iload 4, 2) := by decide +kernel
theorem dX1_doubtInHeaviest_20 : decode cX1_doubtInHeaviest 20 = .ok (.if_icmp .ge 27, 3) := by decide +kernel
theorem dX1_doubtInHeaviest_23 : decode cX1_doubtInHeaviest 23 = .ok (.aload_n 3, 1) := by decide +kernel
theorem dX1_doubtInHeaviest_24 : decode cX1_doubtInHeaviest 24 = .ok (.iload 5, 2) := by decide +kernel
theorem dX1_doubtInHeaviest_26 : decode cX1_doubtInHeaviest 26 = .ok (.iaload, 1) := by decide +kernel
theorem dX1_doubtInHeaviest_27 : decode cX1_doubtInHeaviest 27 = .ok (.istore 6, 2) := by decide +kernel
theorem dX1_doubtInHeaviest_29 : decode cX1_doubtInHeaviest 29 = .ok (.iload_n 1, 1) := by decide +kernel
theorem dX1_doubtInHeaviest_30 : decode cX1_doubtInHeaviest 30 = .ok (.iload 6, 2) := by decide +kernel
theorem dX1_doubtInHeaviest_32 : decode cX1_doubtInHeaviest 32 = .ok (.invokestatic 25, 3) := by decide +kernel
theorem dX1_doubtInHeaviest_35 : decode cX1_doubtInHeaviest 35 = .ok (.istore_n 1, 1) := by decide +kernel
theorem dX1_doubtInHeaviest_36 : decode cX1_doubtInHeaviest 36 = .ok (.iload_n 2, 1) := by decide +kernel
theorem dX1_doubtInHeaviest_37 : decode cX1_doubtInHeaviest 37 = .ok (.iload 6, 2) := by decide +kernel
theorem dX1_doubtInHeaviest_39 : decode cX1_doubtInHeaviest 39 = .ok (.iadd, 1) := by decide +kernel
theorem dX1_doubtInHeaviest_40 : decode cX1_doubtInHeaviest 40 = .ok (.istore_n 2, 1) := by decide +kernel
theorem dX1_doubtInHeaviest_41 : decode cX1_doubtInHeaviest 41 = .ok (.iinc 5 1, 3) := by decide +kernel
theorem dX1_doubtInHeaviest_44 : decode cX1_doubtInHeaviest 44 = .ok (.goto (-28), 3) := by decide +kernel
theorem dX1_doubtInHeaviest_47 : decode cX1_doubtInHeaviest 47 = .ok (.iload_n 2, 1) := by decide +kernel
theorem dX1_doubtInHeaviest_48 : decode cX1_doubtInHeaviest 48 = .ok (.ifCond .ne 8, 3) := by decide +kernel
theorem dX1_doubtInHeaviest_51 : decode cX1_doubtInHeaviest 51 = .ok (.bipush 100, 2) := by decide +kernel
theorem dX1_doubtInHeaviest_53 : decode cX1_doubtInHeaviest 53 = .ok (.goto 12, 3) := by decide +kernel
theorem dX1_doubtInHeaviest_56 : decode cX1_doubtInHeaviest 56 = .ok (.bipush 100, 2) := by decide +kernel
theorem dX1_doubtInHeaviest_58 : decode cX1_doubtInHeaviest 58 = .ok (.bipush 100, 2) := by decide +kernel
theorem dX1_doubtInHeaviest_60 : decode cX1_doubtInHeaviest 60 = .ok (.iload_n 1, 1) := by decide +kernel
theorem dX1_doubtInHeaviest_61 : decode cX1_doubtInHeaviest 61 = .ok (.imul, 1) := by decide +kernel
theorem dX1_doubtInHeaviest_62 : decode cX1_doubtInHeaviest 62 = .ok (.iload_n 2, 1) := by decide +kernel
theorem dX1_doubtInHeaviest_63 : decode cX1_doubtInHeaviest 63 = .ok (.idiv, 1) := by decide +kernel
theorem dX1_doubtInHeaviest_64 : decode cX1_doubtInHeaviest 64 = .ok (.isub, 1) := by decide +kernel
theorem dX1_doubtInHeaviest_65 : decode cX1_doubtInHeaviest 65 = .ok (.ireturn, 1) := by decide +kernel
theorem dX2_init_0 : decode cX2_init 0 = .ok (.aload_n 0, 1) := by decide +kernel
theorem dX2_init_1 : decode cX2_init 1 = .ok (.invokespecial 3, 3) := by decide +kernel
theorem dX2_init_4 : decode cX2_init 4 = .ok (.aload_n 0, 1) := by decide +kernel
theorem dX2_init_5 : decode cX2_init 5 = .ok (.iconst 4, 1) := by decide +kernel
theorem dX2_init_6 : decode cX2_init 6 = .ok (.newarray .boolean, 2) := by decide +kernel
theorem dX2_init_8 : decode cX2_init 8 = .ok (.putfield 9, 3) := by decide +kernel
theorem dX2_init_11 : decode cX2_init 11 = .ok (.aload_n 0, 1) := by decide +kernel
theorem dX2_init_12 : decode cX2_init 12 = .ok (.iconst 4, 1) := by decide +kernel
theorem dX2_init_13 : decode cX2_init 13 = .ok (.newarray .long, 2) := by decide +kernel
theorem dX2_init_15 : decode cX2_init 15 = .ok (.putfield 15, 3) := by decide +kernel
theorem dX2_init_18 : decode cX2_init 18 = .ok (.aload_n 0, 1) := by decide +kernel
theorem dX2_init_19 : decode cX2_init 19 = .ok (.iconst 4, 1) := by decide +kernel
theorem dX2_init_20 : decode cX2_init 20 = .ok (.newarray .int, 2) := by decide +kernel
theorem dX2_init_22 : decode cX2_init 22 = .ok (.putfield 19, 3) := by decide +kernel
theorem dX2_init_25 : decode cX2_init 25 = .ok (.aload_n 0, 1) := by decide +kernel
theorem dX2_init_26 : decode cX2_init 26 = .ok (.iconst 5, 1) := by decide +kernel
theorem dX2_init_27 : decode cX2_init 27 = .ok (.iconst 4, 1) := by decide +kernel
theorem dX2_init_28 : decode cX2_init 28 = .ok (.multianewarray 23 2, 4) := by decide +kernel
theorem dX2_init_32 : decode cX2_init 32 = .ok (.putfield 25, 3) := by decide +kernel
theorem dX2_init_35 : decode cX2_init 35 = .ok (.aload_n 0, 1) := by decide +kernel
theorem dX2_init_36 : decode cX2_init 36 = .ok (.getfield 19, 3) := by decide +kernel
theorem dX2_init_39 : decode cX2_init 39 = .ok (.iconst (-1), 1) := by decide +kernel
theorem dX2_init_40 : decode cX2_init 40 = .ok (.invokestatic 28, 3) := by decide +kernel
theorem dX2_init_43 : decode cX2_init 43 = .ok (.iconst 0, 1) := by decide +kernel
theorem dX2_init_44 : decode cX2_init 44 = .ok (.istore_n 1, 1) := by decide +kernel
theorem dX2_init_45 : decode cX2_init 45 = .ok (.iload_n 1, 1) := by decide +kernel
theorem dX2_init_46 : decode cX2_init 46 = .ok (.iconst 5, 1) := by decide +kernel
theorem dX2_init_47 : decode cX2_init 47 = .ok (.if_icmp .ge 19, 3) := by decide +kernel
theorem dX2_init_50 : decode cX2_init 50 = .ok (.aload_n 0, 1) := by decide +kernel
theorem dX2_init_51 : decode cX2_init 51 = .ok (.getfield 25, 3) := by decide +kernel
theorem dX2_init_54 : decode cX2_init 54 = .ok (.iload_n 1, 1) := by decide +kernel
theorem dX2_init_55 : decode cX2_init 55 = .ok (.aaload, 1) := by decide +kernel
theorem dX2_init_56 : decode cX2_init 56 = .ok (.iconst (-1), 1) := by decide +kernel
theorem dX2_init_57 : decode cX2_init 57 = .ok (.invokestatic 28, 3) := by decide +kernel
theorem dX2_init_60 : decode cX2_init 60 = .ok (.iinc 1 1, 3) := by decide +kernel
theorem dX2_init_63 : decode cX2_init 63 = .ok (.goto (-18), 3) := by decide +kernel
theorem dX2_init_66 : decode cX2_init 66 = .ok (.return_, 1) := by decide +kernel
theorem dX2_takeShot_0 : decode cX2_takeShot 0 = .ok (.aload_n 0, 1) := by decide +kernel
theorem dX2_takeShot_1 : decode cX2_takeShot 1 = .ok (.iconst 1, 1) := by decide +kernel
theorem dX2_takeShot_2 : decode cX2_takeShot 2 = .ok (.putfield 34, 3) := by decide +kernel
theorem dX2_takeShot_5 : decode cX2_takeShot 5 = .ok (.aload_n 0, 1) := by decide +kernel
theorem dX2_takeShot_6 : decode cX2_takeShot 6 = .ok (.iload_n 3, 1) := by decide +kernel
theorem dX2_takeShot_7 : decode cX2_takeShot 7 = .ok (.putfield 38, 3) := by decide +kernel
theorem dX2_takeShot_10 : decode cX2_takeShot 10 = .ok (.aload_n 0, 1) := by decide +kernel
theorem dX2_takeShot_11 : decode cX2_takeShot 11 = .ok (.iconst 0, 1) := by decide +kernel
theorem dX2_takeShot_12 : decode cX2_takeShot 12 = .ok (.putfield 41, 3) := by decide +kernel
theorem dX2_takeShot_15 : decode cX2_takeShot 15 = .ok (.aload_n 0, 1) := by decide +kernel
theorem dX2_takeShot_16 : decode cX2_takeShot 16 = .ok (.lload_n 1, 1) := by decide +kernel
theorem dX2_takeShot_17 : decode cX2_takeShot 17 = .ok (.putfield 44, 3) := by decide +kernel
theorem dX2_takeShot_20 : decode cX2_takeShot 20 = .ok (.return_, 1) := by decide +kernel
theorem dX2_putCopy_0 : decode cX2_putCopy 0 = .ok (.aload_n 0, 1) := by decide +kernel
theorem dX2_putCopy_1 : decode cX2_putCopy 1 = .ok (.getfield 9, 3) := by decide +kernel
theorem dX2_putCopy_4 : decode cX2_putCopy 4 = .ok (.iload_n 1, 1) := by decide +kernel
theorem dX2_putCopy_5 : decode cX2_putCopy 5 = .ok (.iconst 1, 1) := by decide +kernel
theorem dX2_putCopy_6 : decode cX2_putCopy 6 = .ok (.bastore, 1) := by decide +kernel
theorem dX2_putCopy_7 : decode cX2_putCopy 7 = .ok (.aload_n 0, 1) := by decide +kernel
theorem dX2_putCopy_8 : decode cX2_putCopy 8 = .ok (.getfield 15, 3) := by decide +kernel
theorem dX2_putCopy_11 : decode cX2_putCopy 11 = .ok (.iload_n 1, 1) := by decide +kernel
theorem dX2_putCopy_12 : decode cX2_putCopy 12 = .ok (.lload_n 2, 1) := by decide +kernel
theorem dX2_putCopy_13 : decode cX2_putCopy 13 = .ok (.lastore, 1) := by decide +kernel
theorem dX2_putCopy_14 : decode cX2_putCopy 14 = .ok (.return_, 1) := by decide +kernel
theorem dX2_flipBit_0 : decode cX2_flipBit 0 = .ok (.aload_n 0, 1) := by decide +kernel
theorem dX2_flipBit_1 : decode cX2_flipBit 1 = .ok (.getfield 15, 3) := by decide +kernel
theorem dX2_flipBit_4 : decode cX2_flipBit 4 = .ok (.iload_n 1, 1) := by decide +kernel
theorem dX2_flipBit_5 : decode cX2_flipBit 5 = .ok (.dup2, 1) := by decide +kernel
theorem dX2_flipBit_6 : decode cX2_flipBit 6 = .ok (.laload, 1) := by decide +kernel
theorem dX2_flipBit_7 : decode cX2_flipBit 7 = .ok (.lconst 1, 1) := by decide +kernel
theorem dX2_flipBit_8 : decode cX2_flipBit 8 = .ok (.iload_n 2, 1) := by decide +kernel
theorem dX2_flipBit_9 : decode cX2_flipBit 9 = .ok (.lshl, 1) := by decide +kernel
theorem dX2_flipBit_10 : decode cX2_flipBit 10 = .ok (.lxor, 1) := by decide +kernel
theorem dX2_flipBit_11 : decode cX2_flipBit 11 = .ok (.lastore, 1) := by decide +kernel
theorem dX2_flipBit_12 : decode cX2_flipBit 12 = .ok (.return_, 1) := by decide +kernel
theorem dX2_imageProof_0 : decode cX2_imageProof 0 = .ok (.aload_n 0, 1) := by decide +kernel
theorem dX2_imageProof_1 : decode cX2_imageProof 1 = .ok (.getfield 34, 3) := by decide +kernel
theorem dX2_imageProof_4 : decode cX2_imageProof 4 = .ok (.ifCond .eq 13, 3) := by decide +kernel
theorem dX2_imageProof_7 : decode cX2_imageProof 7 = .ok (.aload_n 0, 1) := by decide +kernel
theorem dX2_imageProof_8 : decode cX2_imageProof 8 = .ok (.getfield 44, 3) := by decide +kernel
theorem dX2_imageProof_11 : decode cX2_imageProof 11 = .ok (.invokestatic 48, 3) := by decide +kernel
theorem dX2_imageProof_14 : decode cX2_imageProof 14 = .ok (.goto 4, 3) := by decide +kernel
theorem dX2_imageProof_17 : decode cX2_imageProof 17 = .ok (.lconst 0, 1) := by decide +kernel
theorem dX2_imageProof_18 : decode cX2_imageProof 18 = .ok (.lreturn, 1) := by decide +kernel
theorem dX2_copyProof_0 : decode cX2_copyProof 0 = .ok (.aload_n 0, 1) := by decide +kernel
theorem dX2_copyProof_1 : decode cX2_copyProof 1 = .ok (.getfield 9, 3) := by decide +kernel
theorem dX2_copyProof_4 : decode cX2_copyProof 4 = .ok (.iload_n 1, 1) := by decide +kernel
theorem dX2_copyProof_5 : decode cX2_copyProof 5 = .ok (.baload, 1) := by decide +kernel
theorem dX2_copyProof_6 : decode cX2_copyProof 6 = .ok (.ifCond .eq 15, 3) := by decide +kernel
theorem dX2_copyProof_9 : decode cX2_copyProof 9 = .ok (.aload_n 0, 1) := by decide +kernel
theorem dX2_copyProof_10 : decode cX2_copyProof 10 = .ok (.getfield 15, 3) := by decide +kernel
theorem dX2_copyProof_13 : decode cX2_copyProof 13 = .ok (.iload_n 1, 1) := by decide +kernel
theorem dX2_copyProof_14 : decode cX2_copyProof 14 = .ok (.laload, 1) := by decide +kernel
theorem dX2_copyProof_15 : decode cX2_copyProof 15 = .ok (.invokestatic 48, 3) := by decide +kernel
theorem dX2_copyProof_18 : decode cX2_copyProof 18 = .ok (.goto 4, 3) := by decide +kernel
theorem dX2_copyProof_21 : decode cX2_copyProof 21 = .ok (.lconst 0, 1) := by decide +kernel
theorem dX2_copyProof_22 : decode cX2_copyProof 22 = .ok (.lreturn, 1) := by decide +kernel
theorem dX2_holdsIn_0 : decode cX2_holdsIn 0 = .ok (.aload_n 0, 1) := by decide +kernel
theorem dX2_holdsIn_1 : decode cX2_holdsIn 1 = .ok (.getfield 34, 3) := by decide +kernel
theorem dX2_holdsIn_4 : decode cX2_holdsIn 4 = .ok (.ifCond .eq 29, 3) := by decide +kernel
theorem dX2_holdsIn_7 : decode cX2_holdsIn 7 = .ok (.aload_n 0, 1) := by decide +kernel
theorem dX2_holdsIn_8 : decode cX2_holdsIn 8 = .ok (.getfield 9, 3) := by decide +kernel
theorem dX2_holdsIn_11 : decode cX2_holdsIn 11 = .ok (.iload_n 1, 1) := by decide +kernel
theorem dX2_holdsIn_12 : decode cX2_holdsIn 12 = .ok (.baload, 1) := by decide +kernel
theorem dX2_holdsIn_13 : decode cX2_holdsIn 13 = .ok (.ifCond .eq 20, 3) := by decide +kernel
theorem dX2_holdsIn_16 : decode cX2_holdsIn 16 = .ok (.aload_n 0, 1) := by decide +kernel
theorem dX2_holdsIn_17 : decode cX2_holdsIn 17 = .ok (.iload_n 1, 1) := by decide +kernel
theorem dX2_holdsIn_18 : decode cX2_holdsIn 18 = .ok (.invokevirtual 52, 3) := by decide +kernel
theorem dX2_holdsIn_21 : decode cX2_holdsIn 21 = .ok (.aload_n 0, 1) := by decide +kernel
theorem dX2_holdsIn_22 : decode cX2_holdsIn 22 = .ok (.invokevirtual 56, 3) := by decide +kernel
theorem dX2_holdsIn_25 : decode cX2_holdsIn 25 = .ok (.lcmp, 1) := by decide +kernel
theorem dX2_holdsIn_26 : decode cX2_holdsIn 26 = .ok (.ifCond .ne 7, 3) := by decide +kernel
theorem dX2_holdsIn_29 : decode cX2_holdsIn 29 = .ok (.iconst 1, 1) := by decide +kernel
theorem dX2_holdsIn_30 : decode cX2_holdsIn 30 = .ok (.goto 4, 3) := by decide +kernel
theorem dX2_holdsIn_33 : decode cX2_holdsIn 33 = .ok (.iconst 0, 1) := by decide +kernel
theorem dX2_holdsIn_34 : decode cX2_holdsIn 34 = .ok (.ireturn, 1) := by decide +kernel
theorem dX2_hasNoCopyLeft_0 : decode cX2_hasNoCopyLeft 0 = .ok (.aload_n 0, 1) := by decide +kernel
theorem dX2_hasNoCopyLeft_1 : decode cX2_hasNoCopyLeft 1 = .ok (.getfield 34, 3) := by decide +kernel
theorem dX2_hasNoCopyLeft_4 : decode cX2_hasNoCopyLeft 4 = .ok (.ifCond .eq 15, 3) := by decide +kernel
theorem dX2_hasNoCopyLeft_7 : decode cX2_hasNoCopyLeft 7 = .ok (.aload_n 0, 1) := by decide +kernel
theorem dX2_hasNoCopyLeft_8 : decode cX2_hasNoCopyLeft 8 = .ok (.invokevirtual 60, 3) := by decide +kernel
theorem dX2_hasNoCopyLeft_11 : decode cX2_hasNoCopyLeft 11 = .ok (.iconst (-1), 1) := by decide +kernel
theorem dX2_hasNoCopyLeft_12 : decode cX2_hasNoCopyLeft 12 = .ok (.if_icmp .ne 7, 3) := by decide +kernel
theorem dX2_hasNoCopyLeft_15 : decode cX2_hasNoCopyLeft 15 = .ok (.iconst 1, 1) := by decide +kernel
theorem dX2_hasNoCopyLeft_16 : decode cX2_hasNoCopyLeft 16 = .ok (.goto 4, 3) := by decide +kernel
theorem dX2_hasNoCopyLeft_19 : decode cX2_hasNoCopyLeft 19 = .ok (.iconst 0, 1) := by decide +kernel
theorem dX2_hasNoCopyLeft_20 : decode cX2_hasNoCopyLeft 20 = .ok (.ireturn, 1) := by decide +kernel
theorem dX2_mendIn_0 : decode cX2_mendIn 0 = .ok (.aload_n 0, 1) := by decide +kernel
theorem dX2_mendIn_1 : decode cX2_mendIn 1 = .ok (.getfield 34, 3) := by decide +kernel
theorem dX2_mendIn_4 : decode cX2_mendIn 4 = .ok (.ifCond .eq 11, 3) := by decide +kernel
theorem dX2_mendIn_7 : decode cX2_mendIn 7 = .ok (.aload_n 0, 1) := by decide +kernel
theorem dX2_mendIn_8 : decode cX2_mendIn 8 = .ok (.iload_n 1, 1) := by decide +kernel
theorem dX2_mendIn_9 : decode cX2_mendIn 9 = .ok (.invokevirtual 64, 3) := by decide +kernel
theorem dX2_mendIn_12 : decode cX2_mendIn 12 = .ok (.ifCond .eq 5, 3) := by decide +kernel
theorem dX2_mendIn_15 : decode cX2_mendIn 15 = .ok (.iconst 0, 1) := by decide +kernel
theorem dX2_mendIn_16 : decode cX2_mendIn 16 = .ok (.ireturn, 1) := by decide +kernel
theorem dX2_mendIn_17 : decode cX2_mendIn 17 = .ok (.aload_n 0, 1) := by decide +kernel
theorem dX2_mendIn_18 : decode cX2_mendIn 18 = .ok (.invokevirtual 60, 3) := by decide +kernel
theorem dX2_mendIn_21 : decode cX2_mendIn 21 = .ok (.istore_n 2, 1) := by decide +kernel
theorem dX2_mendIn_22 : decode cX2_mendIn 22 = .ok (.iload_n 2, 1) := by decide +kernel
theorem dX2_mendIn_23 : decode cX2_mendIn 23 = .ok (.iconst (-1), 1) := by decide +kernel
theorem dX2_mendIn_24 : decode cX2_mendIn 24 = .ok (.if_icmp .ne 5, 3) := by decide +kernel
theorem dX2_mendIn_27 : decode cX2_mendIn 27 = .ok (.iconst 0, 1) := by decide +kernel
theorem dX2_mendIn_28 : decode cX2_mendIn 28 = .ok (.ireturn, 1) := by decide +kernel
theorem dX2_mendIn_29 : decode cX2_mendIn 29 = .ok (.aload_n 0, 1) := by decide +kernel
theorem dX2_mendIn_30 : decode cX2_mendIn 30 = .ok (.iload_n 1, 1) := by decide +kernel
theorem dX2_mendIn_31 : decode cX2_mendIn 31 = .ok (.aload_n 0, 1) := by decide +kernel
theorem dX2_mendIn_32 : decode cX2_mendIn 32 = .ok (.getfield 15, 3) := by decide +kernel
theorem dX2_mendIn_35 : decode cX2_mendIn 35 = .ok (.iload_n 2, 1) := by decide +kernel
theorem dX2_mendIn_36 : decode cX2_mendIn 36 = .ok (.laload, 1) := by decide +kernel
theorem dX2_mendIn_37 : decode cX2_mendIn 37 = .ok (.invokevirtual 68, 3) := by decide +kernel
theorem dX2_mendIn_40 : decode cX2_mendIn 40 = .ok (.iconst 1, 1) := by decide +kernel
theorem dX2_mendIn_41 : decode cX2_mendIn 41 = .ok (.ireturn, 1) := by decide +kernel
theorem dX2_lowestVaultThatHolds_0 : decode cX2_lowestVaultThatHolds 0 = .ok (.iconst 0, 1) := by decide +kernel
theorem dX2_lowestVaultThatHolds_1 : decode cX2_lowestVaultThatHolds 1 = .ok (.istore_n 1, 1) := by decide +kernel
theorem dX2_lowestVaultThatHolds_2 : decode cX2_lowestVaultThatHolds 2 = .ok (.iload_n 1, 1) := by decide +kernel
theorem dX2_lowestVaultThatHolds_3 : decode cX2_lowestVaultThatHolds 3 = .ok (.iconst 4, 1) := by decide +kernel
theorem dX2_lowestVaultThatHolds_4 : decode cX2_lowestVaultThatHolds 4 = .ok (.if_icmp .ge 19, 3) := by decide +kernel
theorem dX2_lowestVaultThatHolds_7 : decode cX2_lowestVaultThatHolds 7 = .ok (.aload_n 0, 1) := by decide +kernel
theorem dX2_lowestVaultThatHolds_8 : decode cX2_lowestVaultThatHolds 8 = .ok (.iload_n 1, 1) := by decide +kernel
theorem dX2_lowestVaultThatHolds_9 : decode cX2_lowestVaultThatHolds 9 = .ok (.invokevirtual 64, 3) := by decide +kernel
theorem dX2_lowestVaultThatHolds_12 : decode cX2_lowestVaultThatHolds 12 = .ok (.ifCond .eq 5, 3) := by decide +kernel
theorem dX2_lowestVaultThatHolds_15 : decode cX2_lowestVaultThatHolds 15 = .ok (.iload_n 1, 1) := by decide +kernel
theorem dX2_lowestVaultThatHolds_16 : decode cX2_lowestVaultThatHolds 16 = .ok (.ireturn, 1) := by decide +kernel
theorem dX2_lowestVaultThatHolds_17 : decode cX2_lowestVaultThatHolds 17 = .ok (.iinc 1 1, 3) := by decide +kernel
theorem dX2_lowestVaultThatHolds_20 : decode cX2_lowestVaultThatHolds 20 = .ok (.goto (-18), 3) := by decide +kernel
theorem dX2_lowestVaultThatHolds_23 : decode cX2_lowestVaultThatHolds 23 = .ok (.iconst (-1), 1) := by decide +kernel
theorem dX2_lowestVaultThatHolds_24 : decode cX2_lowestVaultThatHolds 24 = .ok (.ireturn, 1) := by decide +kernel
theorem dX2_proofOf_0 : decode cX2_proofOf 0 = .ok (.lload_n 0, 1) := by decide +kernel
theorem dX2_proofOf_1 : decode cX2_proofOf 1 = .ok (.ldc2_w 72, 3) := by decide +kernel
theorem dX2_proofOf_4 : decode cX2_proofOf 4 = .ok (.lmul, 1) := by decide +kernel
theorem dX2_proofOf_5 : decode cX2_proofOf 5 = .ok (.ldc2_w 74, 3) := by decide +kernel
theorem dX2_proofOf_8 : decode cX2_proofOf 8 = .ok (.ladd, 1) := by decide +kernel
theorem dX2_proofOf_9 : decode cX2_proofOf 9 = .ok (.lreturn, 1) := by decide +kernel
theorem dX3_init_0 : decode cX3_init 0 = .ok (.aload_n 0, 1) := by decide +kernel
theorem dX3_init_1 : decode cX3_init 1 = .ok (.invokespecial 3, 3) := by decide +kernel
theorem dX3_init_4 : decode cX3_init 4 = .ok (.aload_n 0, 1) := by decide +kernel
theorem dX3_init_5 : decode cX3_init 5 = .ok (.bipush 7, 2) := by decide +kernel
theorem dX3_init_7 : decode cX3_init 7 = .ok (.newarray .int, 2) := by decide +kernel
theorem dX3_init_9 : decode cX3_init 9 = .ok (.putfield 9, 3) := by decide +kernel
theorem dX3_init_12 : decode cX3_init 12 = .ok (.return_, 1) := by decide +kernel
theorem dX3_pageAtPlace_0 : decode cX3_pageAtPlace 0 = .ok (.iload_n 1, 1) := by decide +kernel
theorem dX3_pageAtPlace_1 : decode cX3_pageAtPlace 1 = .ok (.ifCond .lt 12, 3) := by decide +kernel
theorem dX3_pageAtPlace_4 : decode cX3_pageAtPlace 4 = .ok (.iload_n 1, 1) := by decide +kernel
theorem dX3_pageAtPlace_5 : decode cX3_pageAtPlace 5 = .ok (.aload_n 0, 1) := by decide +kernel
theorem dX3_pageAtPlace_6 : decode cX3_pageAtPlace 6 = .ok (.getfield 9, 3) := by decide +kernel
theorem dX3_pageAtPlace_9 : decode cX3_pageAtPlace 9 = .ok (.arraylength, 1) := by decide +kernel
theorem dX3_pageAtPlace_10 : decode cX3_pageAtPlace 10 = .ok (.if_icmp .lt 7, 3) := by decide +kernel
theorem dX3_pageAtPlace_13 : decode cX3_pageAtPlace 13 = .ok (.iconst (-1), 1) := by decide +kernel
theorem dX3_pageAtPlace_14 : decode cX3_pageAtPlace 14 = .ok (.goto 9, 3) := by decide +kernel
theorem dX3_pageAtPlace_17 : decode cX3_pageAtPlace 17 = .ok (.aload_n 0, 1) := by decide +kernel
theorem dX3_pageAtPlace_18 : decode cX3_pageAtPlace 18 = .ok (.getfield 9, 3) := by decide +kernel
theorem dX3_pageAtPlace_21 : decode cX3_pageAtPlace 21 = .ok (.iload_n 1, 1) := by decide +kernel
theorem dX3_pageAtPlace_22 : decode cX3_pageAtPlace 22 = .ok (.iaload, 1) := by decide +kernel
theorem dX3_pageAtPlace_23 : decode cX3_pageAtPlace 23 = .ok (.ireturn, 1) := by decide +kernel
theorem dX3_findStepByStep_0 : decode cX3_findStepByStep 0 = .ok (.iconst 0, 1) := by decide +kernel
theorem dX3_findStepByStep_1 : decode cX3_findStepByStep 1 = .ok (.iconst 0, 1) := by decide +kernel
theorem dX3_findStepByStep_2 : decode cX3_findStepByStep 2 = .ok (.aload_n 1, 1) := by decide +kernel
theorem dX3_findStepByStep_3 : decode cX3_findStepByStep 3 = .ok (.aload_n 0, 1) := by decide +kernel
theorem dX3_findStepByStep_4 : decode cX3_findStepByStep 4 = .ok (.getfield 9, 3) := by decide +kernel
theorem dX3_findStepByStep_7 : decode cX3_findStepByStep 7 = .ok (.invokestatic 15, 3) := by decide +kernel
theorem dX3_findStepByStep_10 : decode cX3_findStepByStep 10 = .ok (.ireturn, 1) := by decide +kernel
theorem dX3_fillFrom_0 : decode cX3_fillFrom 0 = .ok (.iload_n 0, 1) := by decide +kernel
theorem dX3_fillFrom_1 : decode cX3_fillFrom 1 = .ok (.aload_n 2, 1) := by decide +kernel
theorem dX3_fillFrom_2 : decode cX3_fillFrom 2 = .ok (.arraylength, 1) := by decide +kernel
theorem dX3_fillFrom_3 : decode cX3_fillFrom 3 = .ok (.if_icmp .lt 5, 3) := by decide +kernel
theorem dX3_fillFrom_6 : decode cX3_fillFrom 6 = .ok (.iconst 1, 1) := by decide +kernel
theorem dX3_fillFrom_7 : decode cX3_fillFrom 7 = .ok (.ireturn, 1) := by decide +kernel
theorem dX3_fillFrom_8 : decode cX3_fillFrom 8 = .ok (.iload_n 0, 1) := by decide +kernel
theorem dX3_fillFrom_9 : decode cX3_fillFrom 9 = .ok (.aload_n 3, 1) := by decide +kernel
theorem dX3_fillFrom_10 : decode cX3_fillFrom 10 = .ok (.arraylength, 1) := by decide +kernel
theorem dX3_fillFrom_11 : decode cX3_fillFrom 11 = .ok (.if_icmp .lt 5, 3) := by decide +kernel
theorem dX3_fillFrom_14 : decode cX3_fillFrom 14 = .ok (.iconst 0, 1) := by decide +kernel
theorem dX3_fillFrom_15 : decode cX3_fillFrom 15 = .ok (.ireturn, 1) := by decide +kernel
theorem dX3_fillFrom_16 : decode cX3_fillFrom 16 = .ok (.iconst 0, 1) := by decide +kernel
theorem dX3_fillFrom_17 : decode cX3_fillFrom 17 = .ok (.istore 4, 2) := by decide +kernel
theorem dX3_fillFrom_19 : decode cX3_fillFrom 19 = .ok (.iload 4, 2) := by decide +kernel
theorem dX3_fillFrom_21 : decode cX3_fillFrom 21 = .ok (.aload_n 2, 1) := by decide +kernel
theorem dX3_fillFrom_22 : decode cX3_fillFrom 22 = .ok (.arraylength, 1) := by decide +kernel
theorem dX3_fillFrom_23 : decode cX3_fillFrom 23 = .ok (.if_icmp .ge 72, 3) := by decide +kernel
theorem dX3_fillFrom_26 : decode cX3_fillFrom 26 = .ok (.iload_n 1, 1) := by decide +kernel
theorem dX3_fillFrom_27 : decode cX3_fillFrom 27 = .ok (.iload 4, 2) := by decide +kernel
theorem dX3_fillFrom_29 : decode cX3_fillFrom 29 = .ok (.ishr, 1) := by decide +kernel
theorem dX3_fillFrom_30 : decode cX3_fillFrom 30 = .ok (.iconst 1, 1) := by decide +kernel
theorem dX3_fillFrom_31 : decode cX3_fillFrom 31 = .ok (.iand, 1) := by decide +kernel
theorem dX3_fillFrom_32 : decode cX3_fillFrom 32 = .ok (.ifCond .ne 7, 3) := by decide +kernel
theorem dX3_fillFrom_35 : decode cX3_fillFrom 35 = .ok (.iconst 1, 1) := by decide +kernel
theorem dX3_fillFrom_36 : decode cX3_fillFrom 36 = .ok (.goto 4, 3) := by decide +kernel
theorem dX3_fillFrom_39 : decode cX3_fillFrom 39 = .ok (.iconst 0, 1) := by decide +kernel
theorem dX3_fillFrom_40 : decode cX3_fillFrom 40 = .ok (.istore 5, 2) := by decide +kernel
theorem dX3_fillFrom_42 : decode cX3_fillFrom 42 = .ok (.iload 5, 2) := by decide +kernel
theorem dX3_fillFrom_44 : decode cX3_fillFrom 44 = .ok (.ifCond .eq 45, 3) := by decide +kernel
theorem dX3_fillFrom_47 : decode cX3_fillFrom 47 = .ok (.iload_n 0, 1) := by decide +kernel
theorem dX3_fillFrom_48 : decode cX3_fillFrom 48 = .ok (.ifCond .eq 17, 3) := by decide +kernel
theorem dX3_fillFrom_51 : decode cX3_fillFrom 51 = .ok (.aload_n 2, 1) := by decide +kernel
theorem dX3_fillFrom_52 : decode cX3_fillFrom 52 = .ok (.aload_n 3, 1) := by decide +kernel
theorem dX3_fillFrom_53 : decode cX3_fillFrom 53 = .ok (.iload_n 0, 1) := by decide +kernel
theorem dX3_fillFrom_54 : decode cX3_fillFrom 54 = .ok (.iconst 1, 1) := by decide +kernel
theorem dX3_fillFrom_55 : decode cX3_fillFrom 55 = .ok (.isub, 1) := by decide +kernel
theorem dX3_fillFrom_56 : decode cX3_fillFrom 56 = .ok (.iaload, 1) := by decide +kernel
theorem dX3_fillFrom_57 : decode cX3_fillFrom 57 = .ok (.iload 4, 2) := by decide +kernel
theorem dX3_fillFrom_59 : decode cX3_fillFrom 59 = .ok (.invokestatic 19, 3) := by decide +kernel
theorem dX3_fillFrom_62 : decode cX3_fillFrom 62 = .ok (.ifCond .eq 27, 3) := by decide +kernel
theorem dX3_fillFrom_65 : decode cX3_fillFrom 65 = .ok (.aload_n 3, 1) := by decide +kernel
theorem dX3_fillFrom_66 : decode cX3_fillFrom 66 = .ok (.iload_n 0, 1) := by decide +kernel
theorem dX3_fillFrom_67 : decode cX3_fillFrom 67 = .ok (.iload 4, 2) := by decide +kernel
theorem dX3_fillFrom_69 : decode cX3_fillFrom 69 = .ok (.iastore, 1) := by decide +kernel
theorem dX3_fillFrom_70 : decode cX3_fillFrom 70 = .ok (.iload_n 0, 1) := by decide +kernel
theorem dX3_fillFrom_71 : decode cX3_fillFrom 71 = .ok (.iconst 1, 1) := by decide +kernel
theorem dX3_fillFrom_72 : decode cX3_fillFrom 72 = .ok (.iadd, 1) := by decide +kernel
theorem dX3_fillFrom_73 : decode cX3_fillFrom 73 = .ok (.iload_n 1, 1) := by decide +kernel
theorem dX3_fillFrom_74 : decode cX3_fillFrom 74 = .ok (.iconst 1, 1) := by decide +kernel
theorem dX3_fillFrom_75 : decode cX3_fillFrom 75 = .ok (.iload 4, 2) := by decide +kernel
theorem dX3_fillFrom_77 : decode cX3_fillFrom 77 = .ok (.ishl, 1) := by decide +kernel
theorem dX3_fillFrom_78 : decode cX3_fillFrom 78 = .ok (.ior, 1) := by decide +kernel
theorem dX3_fillFrom_79 : decode cX3_fillFrom 79 = .ok (.aload_n 2, 1) := by decide +kernel
theorem dX3_fillFrom_80 : decode cX3_fillFrom 80 = .ok (.aload_n 3, 1) := by decide +kernel
theorem dX3_fillFrom_81 : decode cX3_fillFrom 81 = .ok (.invokestatic 15, 3) := by decide +kernel
theorem dX3_fillFrom_84 : decode cX3_fillFrom 84 = .ok (.ifCond .eq 5, 3) := by decide +kernel
theorem dX3_fillFrom_87 : decode cX3_fillFrom 87 = .ok (.iconst 1, 1) := by decide +kernel
theorem dX3_fillFrom_88 : decode cX3_fillFrom 88 = .ok (.ireturn, 1) := by decide +kernel
theorem dX3_fillFrom_89 : decode cX3_fillFrom 89 = .ok (.iinc 4 1, 3) := by decide +kernel
theorem dX3_fillFrom_92 : decode cX3_fillFrom 92 = .ok (.goto (-73), 3) := by decide +kernel
theorem dX3_fillFrom_95 : decode cX3_fillFrom 95 = .ok (.iconst 0, 1) := by decide +kernel
theorem dX3_fillFrom_96 : decode cX3_fillFrom 96 = .ok (.ireturn, 1) := by decide +kernel
theorem dX3_findByAllRows_0 : decode cX3_findByAllRows 0 = .ok (.aload_n 1, 1) := by decide +kernel
theorem dX3_findByAllRows_1 : decode cX3_findByAllRows 1 = .ok (.arraylength, 1) := by decide +kernel
theorem dX3_findByAllRows_2 : decode cX3_findByAllRows 2 = .ok (.istore_n 2, 1) := by decide +kernel
theorem dX3_findByAllRows_3 : decode cX3_findByAllRows 3 = .ok (.iload_n 2, 1) := by decide +kernel
theorem dX3_findByAllRows_4 : decode cX3_findByAllRows 4 = .ok (.aload_n 0, 1) := by decide +kernel
theorem dX3_findByAllRows_5 : decode cX3_findByAllRows 5 = .ok (.getfield 9, 3) := by decide +kernel
theorem dX3_findByAllRows_8 : decode cX3_findByAllRows 8 = .ok (.arraylength, 1) := by decide +kernel
theorem dX3_findByAllRows_9 : decode cX3_findByAllRows 9 = .ok (.if_icmp .le 5, 3) := by decide +kernel
theorem dX3_findByAllRows_12 : decode cX3_findByAllRows 12 = .ok (.iconst 0, 1) := by decide +kernel
theorem dX3_findByAllRows_13 : decode cX3_findByAllRows 13 = .ok (.ireturn, 1) := by decide +kernel
theorem dX3_findByAllRows_14 : decode cX3_findByAllRows 14 = .ok (.iconst 0, 1) := by decide +kernel
theorem dX3_findByAllRows_15 : decode cX3_findByAllRows 15 = .ok (.istore_n 3, 1) := by decide +kernel
theorem dX3_findByAllRows_16 : decode cX3_findByAllRows 16 = .ok (.iload_n 3, 1) := by decide +kernel
theorem dX3_findByAllRows_17 : decode cX3_findByAllRows 17 = .ok (.iload_n 2, 1) := by decide +kernel
theorem dX3_findByAllRows_18 : decode cX3_findByAllRows 18 = .ok (.if_icmp .ge 16, 3) := by decide +kernel
theorem dX3_findByAllRows_21 : decode cX3_findByAllRows 21 = .ok (.aload_n 0, 1) := by decide +kernel
theorem dX3_findByAllRows_22 : decode cX3_findByAllRows 22 = .ok (.getfield 9, 3) := by decide +kernel
theorem dX3_findByAllRows_25 : decode cX3_findByAllRows 25 = .ok (.iload_n 3, 1) := by decide +kernel
theorem dX3_findByAllRows_26 : decode cX3_findByAllRows 26 = .ok (.iload_n 3, 1) := by decide +kernel
theorem dX3_findByAllRows_27 : decode cX3_findByAllRows 27 = .ok (.iastore, 1) := by decide +kernel
theorem dX3_findByAllRows_28 : decode cX3_findByAllRows 28 = .ok (.iinc 3 1, 3) := by decide +kernel
theorem dX3_findByAllRows_31 : decode cX3_findByAllRows 31 = .ok (.goto (-15), 3) := by decide +kernel
theorem dX3_findByAllRows_34 : decode cX3_findByAllRows 34 = .ok (.iconst 0, 1) := by decide +kernel
theorem dX3_findByAllRows_35 : decode cX3_findByAllRows 35 = .ok (.istore_n 3, 1) := by decide +kernel
theorem dX3_findByAllRows_36 : decode cX3_findByAllRows 36 = .ok (.iload_n 3, 1) := by decide +kernel
theorem dX3_findByAllRows_37 : decode cX3_findByAllRows 37 = .ok (.sipush 5040, 3) := by decide +kernel
theorem dX3_findByAllRows_40 : decode cX3_findByAllRows 40 = .ok (.if_icmp .ge 29, 3) := by decide +kernel
theorem dX3_findByAllRows_43 : decode cX3_findByAllRows 43 = .ok (.aload_n 0, 1) := by decide +kernel
theorem dX3_findByAllRows_44 : decode cX3_findByAllRows 44 = .ok (.aload_n 1, 1) := by decide +kernel
theorem dX3_findByAllRows_45 : decode cX3_findByAllRows 45 = .ok (.invokevirtual 23, 3) := by decide +kernel
theorem dX3_findByAllRows_48 : decode cX3_findByAllRows 48 = .ok (.ifCond .eq 5, 3) := by decide +kernel
theorem dX3_findByAllRows_51 : decode cX3_findByAllRows 51 = .ok (.iconst 1, 1) := by decide +kernel
theorem dX3_findByAllRows_52 : decode cX3_findByAllRows 52 = .ok (.ireturn, 1) := by decide +kernel
theorem dX3_findByAllRows_53 : decode cX3_findByAllRows 53 = .ok (.aload_n 0, 1) := by decide +kernel
theorem dX3_findByAllRows_54 : decode cX3_findByAllRows 54 = .ok (.iload_n 2, 1) := by decide +kernel
theorem dX3_findByAllRows_55 : decode cX3_findByAllRows 55 = .ok (.invokevirtual 27, 3) := by decide +kernel
theorem dX3_findByAllRows_58 : decode cX3_findByAllRows 58 = .ok (.ifCond .ne 5, 3) := by decide +kernel
theorem dX3_findByAllRows_61 : decode cX3_findByAllRows 61 = .ok (.iconst 0, 1) := by decide +kernel
theorem dX3_findByAllRows_62 : decode cX3_findByAllRows 62 = .ok (.ireturn, 1) := by decide +kernel
theorem dX3_findByAllRows_63 : decode cX3_findByAllRows 63 = .ok (.iinc 3 1, 3) := by decide +kernel
theorem dX3_findByAllRows_66 : decode cX3_findByAllRows 66 = .ok (.goto (-30), 3) := by decide +kernel
theorem dX3_findByAllRows_69 : decode cX3_findByAllRows 69 = .ok (.iconst 0, 1) := by decide +kernel
theorem dX3_findByAllRows_70 : decode cX3_findByAllRows 70 = .ok (.ireturn, 1) := by decide +kernel
theorem dX3_isOrderOf_0 : decode cX3_isOrderOf 0 = .ok (.iconst 1, 1) := by decide +kernel
theorem dX3_isOrderOf_1 : decode cX3_isOrderOf 1 = .ok (.istore_n 2, 1) := by decide +kernel
theorem dX3_isOrderOf_2 : decode cX3_isOrderOf 2 = .ok (.iload_n 2, 1) := by decide +kernel
theorem dX3_isOrderOf_3 : decode cX3_isOrderOf 3 = .ok (.aload_n 1, 1) := by decide +kernel
theorem dX3_isOrderOf_4 : decode cX3_isOrderOf 4 = .ok (.arraylength, 1) := by decide +kernel
theorem dX3_isOrderOf_5 : decode cX3_isOrderOf 5 = .ok (.if_icmp .ge 32, 3) := by decide +kernel
theorem dX3_isOrderOf_8 : decode cX3_isOrderOf 8 = .ok (.aload_n 1, 1) := by decide +kernel
theorem dX3_isOrderOf_9 : decode cX3_isOrderOf 9 = .ok (.aload_n 0, 1) := by decide +kernel
theorem dX3_isOrderOf_10 : decode cX3_isOrderOf 10 = .ok (.getfield 9, 3) := by decide +kernel
theorem dX3_isOrderOf_13 : decode cX3_isOrderOf 13 = .ok (.iload_n 2, 1) := by decide +kernel
theorem dX3_isOrderOf_14 : decode cX3_isOrderOf 14 = .ok (.iconst 1, 1) := by decide +kernel
theorem dX3_isOrderOf_15 : decode cX3_isOrderOf 15 = .ok (.isub, 1) := by decide +kernel
theorem dX3_isOrderOf_16 : decode cX3_isOrderOf 16 = .ok (.iaload, 1) := by decide +kernel
theorem dX3_isOrderOf_17 : decode cX3_isOrderOf 17 = .ok (.aload_n 0, 1) := by decide +kernel
theorem dX3_isOrderOf_18 : decode cX3_isOrderOf 18 = .ok (.getfield 9, 3) := by decide +kernel
theorem dX3_isOrderOf_21 : decode cX3_isOrderOf 21 = .ok (.iload_n 2, 1) := by decide +kernel
theorem dX3_isOrderOf_22 : decode cX3_isOrderOf 22 = .ok (.iaload, 1) := by decide +kernel
theorem dX3_isOrderOf_23 : decode cX3_isOrderOf 23 = .ok (.invokestatic 19, 3) := by decide +kernel
theorem dX3_isOrderOf_26 : decode cX3_isOrderOf 26 = .ok (.ifCond .ne 5, 3) := by decide +kernel
theorem dX3_isOrderOf_29 : decode cX3_isOrderOf 29 = .ok (.iconst 0, 1) := by decide +kernel
theorem dX3_isOrderOf_30 : decode cX3_isOrderOf 30 = .ok (.ireturn, 1) := by decide +kernel
theorem dX3_isOrderOf_31 : decode cX3_isOrderOf 31 = .ok (.iinc 2 1, 3) := by decide +kernel
theorem dX3_isOrderOf_34 : decode cX3_isOrderOf 34 = .ok (.goto (-32), 3) := by decide +kernel
theorem dX3_isOrderOf_37 : decode cX3_isOrderOf 37 = .ok (.iconst 1, 1) := by decide +kernel
theorem dX3_isOrderOf_38 : decode cX3_isOrderOf 38 = .ok (.ireturn, 1) := by decide +kernel
theorem dX3_leadsTo_0 : decode cX3_leadsTo 0 = .ok (.iload_n 1, 1) := by decide +kernel
theorem dX3_leadsTo_1 : decode cX3_leadsTo 1 = .ok (.ifCond .lt 19, 3) := by decide +kernel
theorem dX3_leadsTo_4 : decode cX3_leadsTo 4 = .ok (.iload_n 1, 1) := by decide +kernel
theorem dX3_leadsTo_5 : decode cX3_leadsTo 5 = .ok (.aload_n 0, 1) := by decide +kernel
theorem dX3_leadsTo_6 : decode cX3_leadsTo 6 = .ok (.arraylength, 1) := by decide +kernel
theorem dX3_leadsTo_7 : decode cX3_leadsTo 7 = .ok (.if_icmp .ge 13, 3) := by decide +kernel
theorem dX3_leadsTo_10 : decode cX3_leadsTo 10 = .ok (.iload_n 2, 1) := by decide +kernel
theorem dX3_leadsTo_11 : decode cX3_leadsTo 11 = .ok (.ifCond .lt 9, 3) := by decide +kernel
theorem dX3_leadsTo_14 : decode cX3_leadsTo 14 = .ok (.iload_n 2, 1) := by decide +kernel
theorem dX3_leadsTo_15 : decode cX3_leadsTo 15 = .ok (.aload_n 0, 1) := by decide +kernel
theorem dX3_leadsTo_16 : decode cX3_leadsTo 16 = .ok (.arraylength, 1) := by decide +kernel
theorem dX3_leadsTo_17 : decode cX3_leadsTo 17 = .ok (.if_icmp .lt 5, 3) := by decide +kernel
theorem dX3_leadsTo_20 : decode cX3_leadsTo 20 = .ok (.iconst 0, 1) := by decide +kernel
theorem dX3_leadsTo_21 : decode cX3_leadsTo 21 = .ok (.ireturn, 1) := by decide +kernel
theorem dX3_leadsTo_22 : decode cX3_leadsTo 22 = .ok (.aload_n 0, 1) := by decide +kernel
theorem dX3_leadsTo_23 : decode cX3_leadsTo 23 = .ok (.iload_n 1, 1) := by decide +kernel
theorem dX3_leadsTo_24 : decode cX3_leadsTo 24 = .ok (.aaload, 1) := by decide +kernel
theorem dX3_leadsTo_25 : decode cX3_leadsTo 25 = .ok (.getfield 31, 3) := by decide +kernel
theorem dX3_leadsTo_28 : decode cX3_leadsTo 28 = .ok (.aload_n 0, 1) := by decide +kernel
theorem dX3_leadsTo_29 : decode cX3_leadsTo 29 = .ok (.iload_n 2, 1) := by decide +kernel
theorem dX3_leadsTo_30 : decode cX3_leadsTo 30 = .ok (.aaload, 1) := by decide +kernel
theorem dX3_leadsTo_31 : decode cX3_leadsTo 31 = .ok (.getfield 37, 3) := by decide +kernel
theorem dX3_leadsTo_34 : decode cX3_leadsTo 34 = .ok (.if_icmp .ne 7, 3) := by decide +kernel
theorem dX3_leadsTo_37 : decode cX3_leadsTo 37 = .ok (.iconst 1, 1) := by decide +kernel
theorem dX3_leadsTo_38 : decode cX3_leadsTo 38 = .ok (.goto 4, 3) := by decide +kernel
theorem dX3_leadsTo_41 : decode cX3_leadsTo 41 = .ok (.iconst 0, 1) := by decide +kernel
theorem dX3_leadsTo_42 : decode cX3_leadsTo 42 = .ok (.ireturn, 1) := by decide +kernel
theorem dX3_stepToNextRow_0 : decode cX3_stepToNextRow 0 = .ok (.iload_n 1, 1) := by decide +kernel
theorem dX3_stepToNextRow_1 : decode cX3_stepToNextRow 1 = .ok (.iconst 2, 1) := by decide +kernel
theorem dX3_stepToNextRow_2 : decode cX3_stepToNextRow 2 = .ok (.isub, 1) := by decide +kernel
theorem dX3_stepToNextRow_3 : decode cX3_stepToNextRow 3 = .ok (.istore_n 2, 1) := by decide +kernel
theorem dX3_stepToNextRow_4 : decode cX3_stepToNextRow 4 = .ok (.iload_n 2, 1) := by decide +kernel
theorem dX3_stepToNextRow_5 : decode cX3_stepToNextRow 5 = .ok (.ifCond .lt 26, 3) := by decide +kernel
theorem dX3_stepToNextRow_8 : decode cX3_stepToNextRow 8 = .ok (.aload_n 0, 1) := by decide +kernel
theorem dX3_stepToNextRow_9 : decode cX3_stepToNextRow 9 = .ok (.getfield 9, 3) := by decide +kernel
theorem dX3_stepToNextRow_12 : decode cX3_stepToNextRow 12 = .ok (.iload_n 2, 1) := by decide +kernel
theorem dX3_stepToNextRow_13 : decode cX3_stepToNextRow 13 = .ok (.iaload, 1) := by decide +kernel
theorem dX3_stepToNextRow_14 : decode cX3_stepToNextRow 14 = .ok (.aload_n 0, 1) := by decide +kernel
theorem dX3_stepToNextRow_15 : decode cX3_stepToNextRow 15 = .ok (.getfield 9, 3) := by decide +kernel
theorem dX3_stepToNextRow_18 : decode cX3_stepToNextRow 18 = .ok (.iload_n 2, 1) := by decide +kernel
theorem dX3_stepToNextRow_19 : decode cX3_stepToNextRow 19 = .ok (.iconst 1, 1) := by decide +kernel
theorem dX3_stepToNextRow_20 : decode cX3_stepToNextRow 20 = .ok (.iadd, 1) := by decide +kernel
theorem dX3_stepToNextRow_21 : decode cX3_stepToNextRow 21 = .ok (.iaload, 1) := by decide +kernel
theorem dX3_stepToNextRow_22 : decode cX3_stepToNextRow 22 = .ok (.if_icmp .le 9, 3) := by decide +kernel
theorem dX3_stepToNextRow_25 : decode cX3_stepToNextRow 25 = .ok (.iinc 2 (-1), 3) := by decide +kernel
theorem dX3_stepToNextRow_28 : decode cX3_stepToNextRow 28 = .ok (.goto (-24), 3) := by decide +kernel
theorem dX3_stepToNextRow_31 : decode cX3_stepToNextRow 31 = .ok (.iload_n 2, 1) := by decide +kernel
theorem dX3_stepToNextRow_32 : decode cX3_stepToNextRow 32 = .ok (.ifCond .ge 5, 3) := by decide +kernel
theorem dX3_stepToNextRow_35 : decode cX3_stepToNextRow 35 = .ok (.iconst 0, 1) := by decide +kernel
theorem dX3_stepToNextRow_36 : decode cX3_stepToNextRow 36 = .ok (.ireturn, 1) := by decide +kernel
theorem dX3_stepToNextRow_37 : decode cX3_stepToNextRow 37 = .ok (.iload_n 1, 1) := by decide +kernel
theorem dX3_stepToNextRow_38 : decode cX3_stepToNextRow 38 = .ok (.iconst 1, 1) := by decide +kernel
theorem dX3_stepToNextRow_39 : decode cX3_stepToNextRow 39 = .ok (.isub, 1) := by decide +kernel
theorem dX3_stepToNextRow_40 : decode cX3_stepToNextRow 40 = .ok (.istore_n 3, 1) := by decide +kernel
theorem dX3_stepToNextRow_41 : decode cX3_stepToNextRow 41 = .ok (.iload_n 3, 1) := by decide +kernel
theorem dX3_stepToNextRow_42 : decode cX3_stepToNextRow 42 = .ok (.iload_n 2, 1) := by decide +kernel
theorem dX3_stepToNextRow_43 : decode cX3_stepToNextRow 43 = .ok (.if_icmp .le 24, 3) := by decide +kernel
theorem dX3_stepToNextRow_46 : decode cX3_stepToNextRow 46 = .ok (.aload_n 0, 1) := by decide +kernel
theorem dX3_stepToNextRow_47 : decode cX3_stepToNextRow 47 = .ok (.getfield 9, 3) := by decide +kernel
theorem dX3_stepToNextRow_50 : decode cX3_stepToNextRow 50 = .ok (.iload_n 3, 1) := by decide +kernel
theorem dX3_stepToNextRow_51 : decode cX3_stepToNextRow 51 = .ok (.iaload, 1) := by decide +kernel
theorem dX3_stepToNextRow_52 : decode cX3_stepToNextRow 52 = .ok (.aload_n 0, 1) := by decide +kernel
theorem dX3_stepToNextRow_53 : decode cX3_stepToNextRow 53 = .ok (.getfield 9, 3) := by decide +kernel
theorem dX3_stepToNextRow_56 : decode cX3_stepToNextRow 56 = .ok (.iload_n 2, 1) := by decide +kernel
theorem dX3_stepToNextRow_57 : decode cX3_stepToNextRow 57 = .ok (.iaload, 1) := by decide +kernel
theorem dX3_stepToNextRow_58 : decode cX3_stepToNextRow 58 = .ok (.if_icmp .ge 9, 3) := by decide +kernel
theorem dX3_stepToNextRow_61 : decode cX3_stepToNextRow 61 = .ok (.iinc 3 (-1), 3) := by decide +kernel
theorem dX3_stepToNextRow_64 : decode cX3_stepToNextRow 64 = .ok (.goto (-23), 3) := by decide +kernel
theorem dX3_stepToNextRow_67 : decode cX3_stepToNextRow 67 = .ok (.aload_n 0, 1) := by decide +kernel
theorem dX3_stepToNextRow_68 : decode cX3_stepToNextRow 68 = .ok (.iload_n 2, 1) := by decide +kernel
theorem dX3_stepToNextRow_69 : decode cX3_stepToNextRow 69 = .ok (.iload_n 3, 1) := by decide +kernel
theorem dX3_stepToNextRow_70 : decode cX3_stepToNextRow 70 = .ok (.invokevirtual 40, 3) := by decide +kernel
theorem dX3_stepToNextRow_73 : decode cX3_stepToNextRow 73 = .ok (.iload_n 2, 1) := by decide +kernel
theorem dX3_stepToNextRow_74 : decode cX3_stepToNextRow 74 = .ok (.iconst 1, 1) := by decide +kernel
theorem dX3_stepToNextRow_75 : decode cX3_stepToNextRow 75 = .ok (.iadd, 1) := by decide +kernel
theorem dX3_stepToNextRow_76 : decode cX3_stepToNextRow 76 = .ok (.istore 4, 2) := by decide +kernel
theorem dX3_stepToNextRow_78 : decode cX3_stepToNextRow 78 = .ok (.iload_n 1, 1) := by decide +kernel
theorem dX3_stepToNextRow_79 : decode cX3_stepToNextRow 79 = .ok (.iconst 1, 1) := by decide +kernel
theorem dX3_stepToNextRow_80 : decode cX3_stepToNextRow 80 = .ok (.isub, 1) := by decide +kernel
theorem dX3_stepToNextRow_81 : decode cX3_stepToNextRow 81 = .ok (.istore 5, 2) := by decide +kernel
theorem dX3_stepToNextRow_83 : decode cX3_stepToNextRow 83 = .ok (.iload 4, 2) := by decide +kernel
theorem dX3_stepToNextRow_85 : decode cX3_stepToNextRow 85 = .ok (.iload 5, 2) := by decide +kernel
theorem dX3_stepToNextRow_87 : decode cX3_stepToNextRow 87 = .ok (.if_icmp .ge 20, 3) := by decide +kernel
theorem dX3_stepToNextRow_90 : decode cX3_stepToNextRow 90 = .ok (.aload_n 0, 1) := by decide +kernel
theorem dX3_stepToNextRow_91 : decode cX3_stepToNextRow 91 = .ok (.iload 4, 2) := by decide +kernel
theorem dX3_stepToNextRow_93 : decode cX3_stepToNextRow 93 = .ok (.iload 5, 2) := by decide +kernel
theorem dX3_stepToNextRow_95 : decode cX3_stepToNextRow 95 = .ok (.invokevirtual 40, 3) := by decide +kernel
theorem dX3_stepToNextRow_98 : decode cX3_stepToNextRow 98 = .ok (.iinc 4 1, 3) := by decide +kernel
theorem dX3_stepToNextRow_101 : decode cX3_stepToNextRow 101 = .ok (.iinc 5 (-1), 3) := by decide +kernel
theorem dX3_stepToNextRow_104 : decode cX3_stepToNextRow 104 = .ok (.goto (-21), 3) := by decide +kernel
theorem dX3_stepToNextRow_107 : decode cX3_stepToNextRow 107 = .ok (.iconst 1, 1) := by decide +kernel
theorem dX3_stepToNextRow_108 : decode cX3_stepToNextRow 108 = .ok (.ireturn, 1) := by decide +kernel
theorem dX3_swap_0 : decode cX3_swap 0 = .ok (.aload_n 0, 1) := by decide +kernel
theorem dX3_swap_1 : decode cX3_swap 1 = .ok (.getfield 9, 3) := by decide +kernel
theorem dX3_swap_4 : decode cX3_swap 4 = .ok (.iload_n 1, 1) := by decide +kernel
theorem dX3_swap_5 : decode cX3_swap 5 = .ok (.iaload, 1) := by decide +kernel
theorem dX3_swap_6 : decode cX3_swap 6 = .ok (.istore_n 3, 1) := by decide +kernel
theorem dX3_swap_7 : decode cX3_swap 7 = .ok (.aload_n 0, 1) := by decide +kernel
theorem dX3_swap_8 : decode cX3_swap 8 = .ok (.getfield 9, 3) := by decide +kernel
theorem dX3_swap_11 : decode cX3_swap 11 = .ok (.iload_n 1, 1) := by decide +kernel
theorem dX3_swap_12 : decode cX3_swap 12 = .ok (.aload_n 0, 1) := by decide +kernel
theorem dX3_swap_13 : decode cX3_swap 13 = .ok (.getfield 9, 3) := by decide +kernel
theorem dX3_swap_16 : decode cX3_swap 16 = .ok (.iload_n 2, 1) := by decide +kernel
theorem dX3_swap_17 : decode cX3_swap 17 = .ok (.iaload, 1) := by decide +kernel
theorem dX3_swap_18 : decode cX3_swap 18 = .ok (.iastore, 1) := by decide +kernel
theorem dX3_swap_19 : decode cX3_swap 19 = .ok (.aload_n 0, 1) := by decide +kernel
theorem dX3_swap_20 : decode cX3_swap 20 = .ok (.getfield 9, 3) := by decide +kernel
theorem dX3_swap_23 : decode cX3_swap 23 = .ok (.iload_n 2, 1) := by decide +kernel
theorem dX3_swap_24 : decode cX3_swap 24 = .ok (.iload_n 3, 1) := by decide +kernel
theorem dX3_swap_25 : decode cX3_swap 25 = .ok (.iastore, 1) := by decide +kernel
theorem dX3_swap_26 : decode cX3_swap 26 = .ok (.return_, 1) := by decide +kernel
theorem dX4_init_0 : decode cX4_init 0 = .ok (.aload_n 0, 1) := by decide +kernel
theorem dX4_init_1 : decode cX4_init 1 = .ok (.invokespecial 1, 3) := by decide +kernel
theorem dX4_init_4 : decode cX4_init 4 = .ok (.aload_n 0, 1) := by decide +kernel
theorem dX4_init_5 : decode cX4_init 5 = .ok (.bipush 32, 2) := by decide +kernel
theorem dX4_init_7 : decode cX4_init 7 = .ok (.newarray .long, 2) := by decide +kernel
theorem dX4_init_9 : decode cX4_init 9 = .ok (.putfield 9, 3) := by decide +kernel
theorem dX4_init_12 : decode cX4_init 12 = .ok (.aload_n 0, 1) := by decide +kernel
theorem dX4_init_13 : decode cX4_init 13 = .ok (.bipush 32, 2) := by decide +kernel
theorem dX4_init_15 : decode cX4_init 15 = .ok (.newarray .long, 2) := by decide +kernel
theorem dX4_init_17 : decode cX4_init 17 = .ok (.putfield 13, 3) := by decide +kernel
theorem dX4_init_20 : decode cX4_init 20 = .ok (.aload_n 0, 1) := by decide +kernel
theorem dX4_init_21 : decode cX4_init 21 = .ok (.bipush 32, 2) := by decide +kernel
theorem dX4_init_23 : decode cX4_init 23 = .ok (.newarray .boolean, 2) := by decide +kernel
theorem dX4_init_25 : decode cX4_init 25 = .ok (.putfield 16, 3) := by decide +kernel
theorem dX4_init_28 : decode cX4_init 28 = .ok (.return_, 1) := by decide +kernel
theorem dX4_plant_0 : decode cX4_plant 0 = .ok (.iconst 0, 1) := by decide +kernel
theorem dX4_plant_1 : decode cX4_plant 1 = .ok (.istore_n 3, 1) := by decide +kernel
theorem dX4_plant_2 : decode cX4_plant 2 = .ok (.iload_n 3, 1) := by decide +kernel
theorem dX4_plant_3 : decode cX4_plant 3 = .ok (.bipush 16, 2) := by decide +kernel
theorem dX4_plant_5 : decode cX4_plant 5 = .ok (.if_icmp .ge 71, 3) := by decide +kernel
theorem dX4_plant_8 : decode cX4_plant 8 = .ok (.iload_n 3, 1) := by decide +kernel
theorem dX4_plant_9 : decode cX4_plant 9 = .ok (.aload_n 1, 1) := by decide +kernel
theorem dX4_plant_10 : decode cX4_plant 10 = .ok (.arraylength, 1) := by decide +kernel
theorem dX4_plant_11 : decode cX4_plant 11 = .ok (.if_icmp .ge 7, 3) := by decide +kernel
theorem dX4_plant_14 : decode cX4_plant 14 = .ok (.iconst 1, 1) := by decide +kernel
theorem dX4_plant_15 : decode cX4_plant 15 = .ok (.goto 4, 3) := by decide +kernel
theorem dX4_plant_18 : decode cX4_plant 18 = .ok (.iconst 0, 1) := by decide +kernel
theorem dX4_plant_19 : decode cX4_plant 19 = .ok (.istore 4, 2) := by decide +kernel
theorem dX4_plant_21 : decode cX4_plant 21 = .ok (.aload_n 0, 1) := by decide +kernel
theorem dX4_plant_22 : decode cX4_plant 22 = .ok (.getfield 9, 3) := by decide +kernel
theorem dX4_plant_25 : decode cX4_plant 25 = .ok (.bipush 16, 2) := by decide +kernel
theorem dX4_plant_27 : decode cX4_plant 27 = .ok (.iload_n 3, 1) := by decide +kernel
theorem dX4_plant_28 : decode cX4_plant 28 = .ok (.iadd, 1) := by decide +kernel
theorem dX4_plant_29 : decode cX4_plant 29 = .ok (.iload 4, 2) := by decide +kernel
theorem dX4_plant_31 : decode cX4_plant 31 = .ok (.ifCond .eq 12, 3) := by decide +kernel
theorem dX4_plant_34 : decode cX4_plant 34 = .ok (.aload_n 1, 1) := by decide +kernel
theorem dX4_plant_35 : decode cX4_plant 35 = .ok (.iload_n 3, 1) := by decide +kernel
theorem dX4_plant_36 : decode cX4_plant 36 = .ok (.aaload, 1) := by decide +kernel
theorem dX4_plant_37 : decode cX4_plant 37 = .ok (.invokevirtual 20, 3) := by decide +kernel
theorem dX4_plant_40 : decode cX4_plant 40 = .ok (.goto 4, 3) := by decide +kernel
theorem dX4_plant_43 : decode cX4_plant 43 = .ok (.lconst 0, 1) := by decide +kernel
theorem dX4_plant_44 : decode cX4_plant 44 = .ok (.lastore, 1) := by decide +kernel
theorem dX4_plant_45 : decode cX4_plant 45 = .ok (.aload_n 0, 1) := by decide +kernel
theorem dX4_plant_46 : decode cX4_plant 46 = .ok (.getfield 13, 3) := by decide +kernel
theorem dX4_plant_49 : decode cX4_plant 49 = .ok (.bipush 16, 2) := by decide +kernel
theorem dX4_plant_51 : decode cX4_plant 51 = .ok (.iload_n 3, 1) := by decide +kernel
theorem dX4_plant_52 : decode cX4_plant 52 = .ok (.iadd, 1) := by decide +kernel
theorem dX4_plant_53 : decode cX4_plant 53 = .ok (.iload 4, 2) := by decide +kernel
theorem dX4_plant_55 : decode cX4_plant 55 = .ok (.ifCond .eq 13, 3) := by decide +kernel
theorem dX4_plant_58 : decode cX4_plant 58 = .ok (.aload_n 1, 1) := by decide +kernel
theorem dX4_plant_59 : decode cX4_plant 59 = .ok (.iload_n 3, 1) := by decide +kernel
theorem dX4_plant_60 : decode cX4_plant 60 = .ok (.aaload, 1) := by decide +kernel
theorem dX4_plant_61 : decode cX4_plant 61 = .ok (.iload_n 2, 1) := by decide +kernel
theorem dX4_plant_62 : decode cX4_plant 62 = .ok (.invokevirtual 26, 3) := by decide +kernel
theorem dX4_plant_65 : decode cX4_plant 65 = .ok (.goto 4, 3) := by decide +kernel
theorem dX4_plant_68 : decode cX4_plant 68 = .ok (.lconst 0, 1) := by decide +kernel
theorem dX4_plant_69 : decode cX4_plant 69 = .ok (.lastore, 1) := by decide +kernel
theorem dX4_plant_70 : decode cX4_plant 70 = .ok (.iinc 3 1, 3) := by decide +kernel
theorem dX4_plant_73 : decode cX4_plant 73 = .ok (.goto (-71), 3) := by decide +kernel
theorem dX4_plant_76 : decode cX4_plant 76 = .ok (.aload_n 0, 1) := by decide +kernel
theorem dX4_plant_77 : decode cX4_plant 77 = .ok (.getfield 9, 3) := by decide +kernel
theorem dX4_plant_80 : decode cX4_plant 80 = .ok (.invokestatic 30, 3) := by decide +kernel
theorem dX4_plant_83 : decode cX4_plant 83 = .ok (.aload_n 0, 1) := by decide +kernel
theorem dX4_plant_84 : decode cX4_plant 84 = .ok (.getfield 13, 3) := by decide +kernel
theorem dX4_plant_87 : decode cX4_plant 87 = .ok (.invokestatic 30, 3) := by decide +kernel
theorem dX4_plant_90 : decode cX4_plant 90 = .ok (.return_, 1) := by decide +kernel
theorem dX4_joinUpwards_0 : decode cX4_joinUpwards 0 = .ok (.bipush 15, 2) := by decide +kernel
theorem dX4_joinUpwards_2 : decode cX4_joinUpwards 2 = .ok (.istore_n 1, 1) := by decide +kernel
theorem dX4_joinUpwards_3 : decode cX4_joinUpwards 3 = .ok (.iload_n 1, 1) := by decide +kernel
theorem dX4_joinUpwards_4 : decode cX4_joinUpwards 4 = .ok (.iconst 1, 1) := by decide +kernel
theorem dX4_joinUpwards_5 : decode cX4_joinUpwards 5 = .ok (.if_icmp .lt 29, 3) := by decide +kernel
theorem dX4_joinUpwards_8 : decode cX4_joinUpwards 8 = .ok (.aload_n 0, 1) := by decide +kernel
theorem dX4_joinUpwards_9 : decode cX4_joinUpwards 9 = .ok (.iload_n 1, 1) := by decide +kernel
theorem dX4_joinUpwards_10 : decode cX4_joinUpwards 10 = .ok (.ldc2_w 34, 3) := by decide +kernel
theorem dX4_joinUpwards_13 : decode cX4_joinUpwards 13 = .ok (.aload_n 0, 1) := by decide +kernel
theorem dX4_joinUpwards_14 : decode cX4_joinUpwards 14 = .ok (.iconst 2, 1) := by decide +kernel
theorem dX4_joinUpwards_15 : decode cX4_joinUpwards 15 = .ok (.iload_n 1, 1) := by decide +kernel
theorem dX4_joinUpwards_16 : decode cX4_joinUpwards 16 = .ok (.imul, 1) := by decide +kernel
theorem dX4_joinUpwards_17 : decode cX4_joinUpwards 17 = .ok (.laload, 1) := by decide +kernel
theorem dX4_joinUpwards_18 : decode cX4_joinUpwards 18 = .ok (.lmul, 1) := by decide +kernel
theorem dX4_joinUpwards_19 : decode cX4_joinUpwards 19 = .ok (.aload_n 0, 1) := by decide +kernel
theorem dX4_joinUpwards_20 : decode cX4_joinUpwards 20 = .ok (.iconst 2, 1) := by decide +kernel
theorem dX4_joinUpwards_21 : decode cX4_joinUpwards 21 = .ok (.iload_n 1, 1) := by decide +kernel
theorem dX4_joinUpwards_22 : decode cX4_joinUpwards 22 = .ok (.imul, 1) := by decide +kernel
theorem dX4_joinUpwards_23 : decode cX4_joinUpwards 23 = .ok (.iconst 1, 1) := by decide +kernel
theorem dX4_joinUpwards_24 : decode cX4_joinUpwards 24 = .ok (.iadd, 1) := by decide +kernel
theorem dX4_joinUpwards_25 : decode cX4_joinUpwards 25 = .ok (.laload, 1) := by decide +kernel
theorem dX4_joinUpwards_26 : decode cX4_joinUpwards 26 = .ok (.ladd, 1) := by decide +kernel
theorem dX4_joinUpwards_27 : decode cX4_joinUpwards 27 = .ok (.lastore, 1) := by decide +kernel
theorem dX4_joinUpwards_28 : decode cX4_joinUpwards 28 = .ok (.iinc 1 (-1), 3) := by decide +kernel
theorem dX4_joinUpwards_31 : decode cX4_joinUpwards 31 = .ok (.goto (-28), 3) := by decide +kernel
theorem dX4_joinUpwards_34 : decode cX4_joinUpwards 34 = .ok (.return_, 1) := by decide +kernel
theorem dX4_findUnlikeLeaves_0 : decode cX4_findUnlikeLeaves 0 = .ok (.iconst 0, 1) := by decide +kernel
theorem dX4_findUnlikeLeaves_1 : decode cX4_findUnlikeLeaves 1 = .ok (.istore_n 1, 1) := by decide +kernel
theorem dX4_findUnlikeLeaves_2 : decode cX4_findUnlikeLeaves 2 = .ok (.iconst 0, 1) := by decide +kernel
theorem dX4_findUnlikeLeaves_3 : decode cX4_findUnlikeLeaves 3 = .ok (.istore_n 2, 1) := by decide +kernel
theorem dX4_findUnlikeLeaves_4 : decode cX4_findUnlikeLeaves 4 = .ok (.iconst 1, 1) := by decide +kernel
theorem dX4_findUnlikeLeaves_5 : decode cX4_findUnlikeLeaves 5 = .ok (.istore_n 3, 1) := by decide +kernel
theorem dX4_findUnlikeLeaves_6 : decode cX4_findUnlikeLeaves 6 = .ok (.iload_n 3, 1) := by decide +kernel
theorem dX4_findUnlikeLeaves_7 : decode cX4_findUnlikeLeaves 7 = .ok (.bipush 32, 2) := by decide +kernel
theorem dX4_findUnlikeLeaves_9 : decode cX4_findUnlikeLeaves 9 = .ok (.if_icmp .ge 101, 3) := by decide +kernel
theorem dX4_findUnlikeLeaves_12 : decode cX4_findUnlikeLeaves 12 = .ok (.iload_n 3, 1) := by decide +kernel
theorem dX4_findUnlikeLeaves_13 : decode cX4_findUnlikeLeaves 13 = .ok (.iconst 1, 1) := by decide +kernel
theorem dX4_findUnlikeLeaves_14 : decode cX4_findUnlikeLeaves 14 = .ok (.if_icmp .eq 14, 3) := by decide +kernel
theorem dX4_findUnlikeLeaves_17 : decode cX4_findUnlikeLeaves 17 = .ok (.aload_n 0, 1) := by decide +kernel
theorem dX4_findUnlikeLeaves_18 : decode cX4_findUnlikeLeaves 18 = .ok (.getfield 16, 3) := by decide +kernel
theorem dX4_findUnlikeLeaves_21 : decode cX4_findUnlikeLeaves 21 = .ok (.iload_n 3, 1) := by decide +kernel
theorem dX4_findUnlikeLeaves_22 : decode cX4_findUnlikeLeaves 22 = .ok (.iconst 2, 1) := by decide +kernel
theorem dX4_findUnlikeLeaves_23 : decode cX4_findUnlikeLeaves 23 = .ok (.idiv, 1) := by decide +kernel
theorem dX4_findUnlikeLeaves_24 : decode cX4_findUnlikeLeaves 24 = .ok (.baload, 1) := by decide +kernel
theorem dX4_findUnlikeLeaves_25 : decode cX4_findUnlikeLeaves 25 = .ok (.ifCond .eq 7, 3) := by decide +kernel
theorem dX4_findUnlikeLeaves_28 : decode cX4_findUnlikeLeaves 28 = .ok (.iconst 1, 1) := by decide +kernel
theorem dX4_findUnlikeLeaves_29 : decode cX4_findUnlikeLeaves 29 = .ok (.goto 4, 3) := by decide +kernel
theorem dX4_findUnlikeLeaves_32 : decode cX4_findUnlikeLeaves 32 = .ok (.iconst 0, 1) := by decide +kernel
theorem dX4_findUnlikeLeaves_33 : decode cX4_findUnlikeLeaves 33 = .ok (.istore 4, 2) := by decide +kernel
theorem dX4_findUnlikeLeaves_35 : decode cX4_findUnlikeLeaves 35 = .ok (.aload_n 0, 1) := by decide +kernel
theorem dX4_findUnlikeLeaves_36 : decode cX4_findUnlikeLeaves 36 = .ok (.getfield 16, 3) := by decide +kernel
theorem dX4_findUnlikeLeaves_39 : decode cX4_findUnlikeLeaves 39 = .ok (.iload_n 3, 1) := by decide +kernel
theorem dX4_findUnlikeLeaves_40 : decode cX4_findUnlikeLeaves 40 = .ok (.iload 4, 2) := by decide +kernel
theorem dX4_findUnlikeLeaves_42 : decode cX4_findUnlikeLeaves 42 = .ok (.ifCond .eq 23, 3) := by decide +kernel
theorem dX4_findUnlikeLeaves_45 : decode cX4_findUnlikeLeaves 45 = .ok (.aload_n 0, 1) := by decide +kernel
theorem dX4_findUnlikeLeaves_46 : decode cX4_findUnlikeLeaves 46 = .ok (.getfield 9, 3) := by decide +kernel
theorem dX4_findUnlikeLeaves_49 : decode cX4_findUnlikeLeaves 49 = .ok (.iload_n 3, 1) := by decide +kernel
theorem dX4_findUnlikeLeaves_50 : decode cX4_findUnlikeLeaves 50 = .ok (.laload, 1) := by decide +kernel
theorem dX4_findUnlikeLeaves_51 : decode cX4_findUnlikeLeaves 51 = .ok (.aload_n 0, 1) := by decide +kernel
theorem dX4_findUnlikeLeaves_52 : decode cX4_findUnlikeLeaves 52 = .ok (.getfield 13, 3) := by decide +kernel
theorem dX4_findUnlikeLeaves_55 : decode cX4_findUnlikeLeaves 55 = .ok (.iload_n 3, 1) := by decide +kernel
theorem dX4_findUnlikeLeaves_56 : decode cX4_findUnlikeLeaves 56 = .ok (.laload, 1) := by decide +kernel
theorem dX4_findUnlikeLeaves_57 : decode cX4_findUnlikeLeaves 57 = .ok (.lcmp, 1) := by decide +kernel
theorem dX4_findUnlikeLeaves_58 : decode cX4_findUnlikeLeaves 58 = .ok (.ifCond .eq 7, 3) := by decide +kernel
theorem dX4_findUnlikeLeaves_61 : decode cX4_findUnlikeLeaves 61 = .ok (.iconst 1, 1) := by decide +kernel
theorem dX4_findUnlikeLeaves_62 : decode cX4_findUnlikeLeaves 62 = .ok (.goto 4, 3) := by decide +kernel
theorem dX4_findUnlikeLeaves_65 : decode cX4_findUnlikeLeaves 65 = .ok (.iconst 0, 1) := by decide +kernel
theorem dX4_findUnlikeLeaves_66 : decode cX4_findUnlikeLeaves 66 = .ok (.bastore, 1) := by decide +kernel
theorem dX4_findUnlikeLeaves_67 : decode cX4_findUnlikeLeaves 67 = .ok (.iload_n 2, 1) := by decide +kernel
theorem dX4_findUnlikeLeaves_68 : decode cX4_findUnlikeLeaves 68 = .ok (.iload 4, 2) := by decide +kernel
theorem dX4_findUnlikeLeaves_70 : decode cX4_findUnlikeLeaves 70 = .ok (.ifCond .eq 7, 3) := by decide +kernel
theorem dX4_findUnlikeLeaves_73 : decode cX4_findUnlikeLeaves 73 = .ok (.iconst 1, 1) := by decide +kernel
theorem dX4_findUnlikeLeaves_74 : decode cX4_findUnlikeLeaves 74 = .ok (.goto 4, 3) := by decide +kernel
theorem dX4_findUnlikeLeaves_77 : decode cX4_findUnlikeLeaves 77 = .ok (.iconst 0, 1) := by decide +kernel
theorem dX4_findUnlikeLeaves_78 : decode cX4_findUnlikeLeaves 78 = .ok (.iadd, 1) := by decide +kernel
theorem dX4_findUnlikeLeaves_79 : decode cX4_findUnlikeLeaves 79 = .ok (.istore_n 2, 1) := by decide +kernel
theorem dX4_findUnlikeLeaves_80 : decode cX4_findUnlikeLeaves 80 = .ok (.aload_n 0, 1) := by decide +kernel
theorem dX4_findUnlikeLeaves_81 : decode cX4_findUnlikeLeaves 81 = .ok (.getfield 16, 3) := by decide +kernel
theorem dX4_findUnlikeLeaves_84 : decode cX4_findUnlikeLeaves 84 = .ok (.iload_n 3, 1) := by decide +kernel
theorem dX4_findUnlikeLeaves_85 : decode cX4_findUnlikeLeaves 85 = .ok (.baload, 1) := by decide +kernel
theorem dX4_findUnlikeLeaves_86 : decode cX4_findUnlikeLeaves 86 = .ok (.ifCond .eq 18, 3) := by decide +kernel
theorem dX4_findUnlikeLeaves_89 : decode cX4_findUnlikeLeaves 89 = .ok (.iload_n 3, 1) := by decide +kernel
theorem dX4_findUnlikeLeaves_90 : decode cX4_findUnlikeLeaves 90 = .ok (.bipush 16, 2) := by decide +kernel
theorem dX4_findUnlikeLeaves_92 : decode cX4_findUnlikeLeaves 92 = .ok (.if_icmp .lt 12, 3) := by decide +kernel
theorem dX4_findUnlikeLeaves_95 : decode cX4_findUnlikeLeaves 95 = .ok (.iload_n 1, 1) := by decide +kernel
theorem dX4_findUnlikeLeaves_96 : decode cX4_findUnlikeLeaves 96 = .ok (.iconst 1, 1) := by decide +kernel
theorem dX4_findUnlikeLeaves_97 : decode cX4_findUnlikeLeaves 97 = .ok (.iload_n 3, 1) := by decide +kernel
theorem dX4_findUnlikeLeaves_98 : decode cX4_findUnlikeLeaves 98 = .ok (.bipush 16, 2) := by decide +kernel
theorem dX4_findUnlikeLeaves_100 : decode cX4_findUnlikeLeaves 100 = .ok (.isub, 1) := by decide +kernel
theorem dX4_findUnlikeLeaves_101 : decode cX4_findUnlikeLeaves 101 = .ok (.ishl, 1) := by decide +kernel
theorem dX4_findUnlikeLeaves_102 : decode cX4_findUnlikeLeaves 102 = .ok (.ior, 1) := by decide +kernel
theorem dX4_findUnlikeLeaves_103 : decode cX4_findUnlikeLeaves 103 = .ok (.istore_n 1, 1) := by decide +kernel
theorem dX4_findUnlikeLeaves_104 : decode cX4_findUnlikeLeaves 104 = .ok (.iinc 3 1, 3) := by decide +kernel
theorem dX4_findUnlikeLeaves_107 : decode cX4_findUnlikeLeaves 107 = .ok (.goto (-101), 3) := by decide +kernel
theorem dX4_findUnlikeLeaves_110 : decode cX4_findUnlikeLeaves 110 = .ok (.aload_n 0, 1) := by decide +kernel
theorem dX4_findUnlikeLeaves_111 : decode cX4_findUnlikeLeaves 111 = .ok (.iload_n 2, 1) := by decide +kernel
theorem dX4_findUnlikeLeaves_112 : decode cX4_findUnlikeLeaves 112 = .ok (.putfield 36, 3) := by decide +kernel
theorem dX4_findUnlikeLeaves_115 : decode cX4_findUnlikeLeaves 115 = .ok (.iload_n 1, 1) := by decide +kernel
theorem dX4_findUnlikeLeaves_116 : decode cX4_findUnlikeLeaves 116 = .ok (.ireturn, 1) := by decide +kernel
theorem dX5_init_0 : decode cX5_init 0 = .ok (.aload_n 0, 1) := by decide +kernel
theorem dX5_init_1 : decode cX5_init 1 = .ok (.invokespecial 1, 3) := by decide +kernel
theorem dX5_init_4 : decode cX5_init 4 = .ok (.aload_n 0, 1) := by decide +kernel
theorem dX5_init_5 : decode cX5_init 5 = .ok (.bipush 6, 2) := by decide +kernel
theorem dX5_init_7 : decode cX5_init 7 = .ok (.anewarray 9, 3) := by decide +kernel
theorem dX5_init_10 : decode cX5_init 10 = .ok (.putfield 11, 3) := by decide +kernel
theorem dX5_init_13 : decode cX5_init 13 = .ok (.aload_n 0, 1) := by decide +kernel
theorem dX5_init_14 : decode cX5_init 14 = .ok (.iconst 4, 1) := by decide +kernel
theorem dX5_init_15 : decode cX5_init 15 = .ok (.newarray .boolean, 2) := by decide +kernel
theorem dX5_init_17 : decode cX5_init 17 = .ok (.putfield 15, 3) := by decide +kernel
theorem dX5_init_20 : decode cX5_init 20 = .ok (.aload_n 0, 1) := by decide +kernel
theorem dX5_init_21 : decode cX5_init 21 = .ok (.new 19, 3) := by decide +kernel
theorem dX5_init_24 : decode cX5_init 24 = .ok (.dup, 1) := by decide +kernel
theorem dX5_init_25 : decode cX5_init 25 = .ok (.invokespecial 21, 3) := by decide +kernel
theorem dX5_init_28 : decode cX5_init 28 = .ok (.putfield 22, 3) := by decide +kernel
theorem dX5_init_31 : decode cX5_init 31 = .ok (.aload_n 0, 1) := by decide +kernel
theorem dX5_init_32 : decode cX5_init 32 = .ok (.new 26, 3) := by decide +kernel
theorem dX5_init_35 : decode cX5_init 35 = .ok (.dup, 1) := by decide +kernel
theorem dX5_init_36 : decode cX5_init 36 = .ok (.invokespecial 28, 3) := by decide +kernel
theorem dX5_init_39 : decode cX5_init 39 = .ok (.putfield 29, 3) := by decide +kernel
theorem dX5_init_42 : decode cX5_init 42 = .ok (.aload_n 0, 1) := by decide +kernel
theorem dX5_init_43 : decode cX5_init 43 = .ok (.new 33, 3) := by decide +kernel
theorem dX5_init_46 : decode cX5_init 46 = .ok (.dup, 1) := by decide +kernel
theorem dX5_init_47 : decode cX5_init 47 = .ok (.invokespecial 35, 3) := by decide +kernel
theorem dX5_init_50 : decode cX5_init 50 = .ok (.putfield 36, 3) := by decide +kernel
theorem dX5_init_53 : decode cX5_init 53 = .ok (.aload_n 0, 1) := by decide +kernel
theorem dX5_init_54 : decode cX5_init 54 = .ok (.sipush 2000, 3) := by decide +kernel
theorem dX5_init_57 : decode cX5_init 57 = .ok (.putfield 40, 3) := by decide +kernel
theorem dX5_init_60 : decode cX5_init 60 = .ok (.aload_n 0, 1) := by decide +kernel
theorem dX5_init_61 : decode cX5_init 61 = .ok (.iconst 4, 1) := by decide +kernel
theorem dX5_init_62 : decode cX5_init 62 = .ok (.newarray .int, 2) := by decide +kernel
theorem dX5_init_64 : decode cX5_init 64 = .ok (.putfield 44, 3) := by decide +kernel
theorem dX5_init_67 : decode cX5_init 67 = .ok (.aload_n 0, 1) := by decide +kernel
theorem dX5_init_68 : decode cX5_init 68 = .ok (.getfield 44, 3) := by decide +kernel
theorem dX5_init_71 : decode cX5_init 71 = .ok (.bipush 70, 2) := by decide +kernel
theorem dX5_init_73 : decode cX5_init 73 = .ok (.invokestatic 48, 3) := by decide +kernel
theorem dX5_init_76 : decode cX5_init 76 = .ok (.return_, 1) := by decide +kernel
theorem dX5_book_0 : decode cX5_book 0 = .ok (.iload_n 1, 1) := by decide +kernel
theorem dX5_book_1 : decode cX5_book 1 = .ok (.iconst 1, 1) := by decide +kernel
theorem dX5_book_2 : decode cX5_book 2 = .ok (.bipush 12, 2) := by decide +kernel
theorem dX5_book_4 : decode cX5_book 4 = .ok (.invokestatic 54, 3) := by decide +kernel
theorem dX5_book_7 : decode cX5_book 7 = .ok (.iload_n 2, 1) := by decide +kernel
theorem dX5_book_8 : decode cX5_book 8 = .ok (.bipush 60, 2) := by decide +kernel
theorem dX5_book_10 : decode cX5_book 10 = .ok (.sipush 180, 3) := by decide +kernel
theorem dX5_book_13 : decode cX5_book 13 = .ok (.invokestatic 54, 3) := by decide +kernel
theorem dX5_book_16 : decode cX5_book 16 = .ok (.iload_n 3, 1) := by decide +kernel
theorem dX5_book_17 : decode cX5_book 17 = .ok (.iconst 1, 1) := by decide +kernel
theorem dX5_book_18 : decode cX5_book 18 = .ok (.bipush 60, 2) := by decide +kernel
theorem dX5_book_20 : decode cX5_book 20 = .ok (.invokestatic 54, 3) := by decide +kernel
theorem dX5_book_23 : decode cX5_book 23 = .ok (.iload 4, 2) := by decide +kernel
theorem dX5_book_25 : decode cX5_book 25 = .ok (.iconst 0, 1) := by decide +kernel
theorem dX5_book_26 : decode cX5_book 26 = .ok (.bipush 9, 2) := by decide +kernel
theorem dX5_book_28 : decode cX5_book 28 = .ok (.invokestatic 54, 3) := by decide +kernel
theorem dX5_book_31 : decode cX5_book 31 = .ok (.iload 5, 2) := by decide +kernel
theorem dX5_book_33 : decode cX5_book 33 = .ok (.iconst (-1), 1) := by decide +kernel
theorem dX5_book_34 : decode cX5_book 34 = .ok (.if_icmp .eq 14, 3) := by decide +kernel
theorem dX5_book_37 : decode cX5_book 37 = .ok (.iload 5, 2) := by decide +kernel
theorem dX5_book_39 : decode cX5_book 39 = .ok (.sipush 1500, 3) := by decide +kernel
theorem dX5_book_42 : decode cX5_book 42 = .ok (.sipush 3000, 3) := by decide +kernel
theorem dX5_book_45 : decode cX5_book 45 = .ok (.invokestatic 54, 3) := by decide +kernel
theorem dX5_book_48 : decode cX5_book 48 = .ok (.aload_n 0, 1) := by decide +kernel
theorem dX5_book_49 : decode cX5_book 49 = .ok (.getfield 58, 3) := by decide +kernel
theorem dX5_book_52 : decode cX5_book 52 = .ok (.istore 6, 2) := by decide +kernel
theorem dX5_book_54 : decode cX5_book 54 = .ok (.iload 6, 2) := by decide +kernel
theorem dX5_book_56 : decode cX5_book 56 = .ok (.ifCond .lt 10, 3) := by decide +kernel
theorem dX5_book_59 : decode cX5_book 59 = .ok (.iload 6, 2) := by decide +kernel
theorem dX5_book_61 : decode cX5_book 61 = .ok (.bipush 6, 2) := by decide +kernel
theorem dX5_book_63 : decode cX5_book 63 = .ok (.if_icmp .lt 13, 3) := by decide +kernel
theorem dX5_book_66 : decode cX5_book 66 = .ok (.new 61, 3) := by decide +kernel
theorem dX5_book_69 : decode cX5_book 69 = .ok (.dup, 1) := by decide +kernel
theorem dX5_book_70 : decode cX5_book 70 = .ok (.ldc 63, 2) := by decide +kernel
theorem dX5_book_72 : decode cX5_book 72 = .ok (.invokespecial 65, 3) := by decide +kernel
theorem dX5_book_75 : decode cX5_book 75 = .ok (.athrow, 1) := by decide +kernel
theorem dX5_book_76 : decode cX5_book 76 = .ok (.aload_n 0, 1) := by decide +kernel
theorem dX5_book_77 : decode cX5_book 77 = .ok (.getfield 11, 3) := by decide +kernel
theorem dX5_book_80 : decode cX5_book 80 = .ok (.iload 6, 2) := by decide +kernel
theorem dX5_book_82 : decode cX5_book 82 = .ok (.new 9, 3) := by decide +kernel
theorem dX5_book_85 : decode cX5_book 85 = .ok (.dup, 1) := by decide +kernel
theorem dX5_book_86 : decode cX5_book 86 = .ok (.iload_n 1, 1) := by decide +kernel
theorem dX5_book_87 : decode cX5_book 87 = .ok (.iload_n 2, 1) := by decide +kernel
theorem dX5_book_88 : decode cX5_book 88 = .ok (.iload_n 3, 1) := by decide +kernel
theorem dX5_book_89 : decode cX5_book 89 = .ok (.iload 4, 2) := by decide +kernel
theorem dX5_book_91 : decode cX5_book 91 = .ok (.iload 5, 2) := by decide +kernel
theorem dX5_book_93 : decode cX5_book 93 = .ok (.invokespecial 68, 3) := by decide +kernel
theorem dX5_book_96 : decode cX5_book 96 = .ok (.aastore, 1) := by decide +kernel
theorem dX5_book_97 : decode cX5_book 97 = .ok (.aload_n 0, 1) := by decide +kernel
theorem dX5_book_98 : decode cX5_book 98 = .ok (.iload 6, 2) := by decide +kernel
theorem dX5_book_100 : decode cX5_book 100 = .ok (.iconst 1, 1) := by decide +kernel
theorem dX5_book_101 : decode cX5_book 101 = .ok (.iadd, 1) := by decide +kernel
theorem dX5_book_102 : decode cX5_book 102 = .ok (.putfield 58, 3) := by decide +kernel
theorem dX5_book_105 : decode cX5_book 105 = .ok (.iload 6, 2) := by decide +kernel
theorem dX5_book_107 : decode cX5_book 107 = .ok (.ireturn, 1) := by decide +kernel
theorem dX5_next_0 : decode cX5_next 0 = .ok (.iconst (-1), 1) := by decide +kernel
theorem dX5_next_1 : decode cX5_next 1 = .ok (.istore_n 1, 1) := by decide +kernel
theorem dX5_next_2 : decode cX5_next 2 = .ok (.aconst_null, 1) := by decide +kernel
theorem dX5_next_3 : decode cX5_next 3 = .ok (.astore_n 2, 1) := by decide +kernel
theorem dX5_next_4 : decode cX5_next 4 = .ok (.iconst 0, 1) := by decide +kernel
theorem dX5_next_5 : decode cX5_next 5 = .ok (.istore_n 3, 1) := by decide +kernel
theorem dX5_next_6 : decode cX5_next 6 = .ok (.iload_n 3, 1) := by decide +kernel
theorem dX5_next_7 : decode cX5_next 7 = .ok (.bipush 6, 2) := by decide +kernel
theorem dX5_next_9 : decode cX5_next 9 = .ok (.if_icmp .ge 48, 3) := by decide +kernel
theorem dX5_next_12 : decode cX5_next 12 = .ok (.aload_n 0, 1) := by decide +kernel
theorem dX5_next_13 : decode cX5_next 13 = .ok (.getfield 11, 3) := by decide +kernel
theorem dX5_next_16 : decode cX5_next 16 = .ok (.iload_n 3, 1) := by decide +kernel
theorem dX5_next_17 : decode cX5_next 17 = .ok (.aaload, 1) := by decide +kernel
theorem dX5_next_18 : decode cX5_next 18 = .ok (.astore 4, 2) := by decide +kernel
theorem dX5_next_20 : decode cX5_next 20 = .ok (.aload 4, 2) := by decide +kernel
theorem dX5_next_22 : decode cX5_next 22 = .ok (.ifnull 29, 3) := by decide +kernel
theorem dX5_next_25 : decode cX5_next 25 = .ok (.aload 4, 2) := by decide +kernel
theorem dX5_next_27 : decode cX5_next 27 = .ok (.invokevirtual 71, 3) := by decide +kernel
theorem dX5_next_30 : decode cX5_next 30 = .ok (.ifCond .eq 21, 3) := by decide +kernel
theorem dX5_next_33 : decode cX5_next 33 = .ok (.aload_n 2, 1) := by decide +kernel
theorem dX5_next_34 : decode cX5_next 34 = .ok (.ifnull 12, 3) := by decide +kernel
theorem dX5_next_37 : decode cX5_next 37 = .ok (.aload 4, 2) := by decide +kernel
theorem dX5_next_39 : decode cX5_next 39 = .ok (.aload_n 2, 1) := by decide +kernel
theorem dX5_next_40 : decode cX5_next 40 = .ok (.invokevirtual 75, 3) := by decide +kernel
theorem dX5_next_43 : decode cX5_next 43 = .ok (.ifCond .eq 8, 3) := by decide +kernel
theorem dX5_next_46 : decode cX5_next 46 = .ok (.iload_n 3, 1) := by decide +kernel
theorem dX5_next_47 : decode cX5_next 47 = .ok (.istore_n 1, 1) := by decide +kernel
theorem dX5_next_48 : decode cX5_next 48 = .ok (.aload 4, 2) := by decide +kernel
theorem dX5_next_50 : decode cX5_next 50 = .ok (.astore_n 2, 1) := by decide +kernel
theorem dX5_next_51 : decode cX5_next 51 = .ok (.iinc 3 1, 3) := by decide +kernel
theorem dX5_next_54 : decode cX5_next 54 = .ok (.goto (-48), 3) := by decide +kernel
theorem dX5_next_57 : decode cX5_next 57 = .ok (.iload_n 1, 1) := by decide +kernel
theorem dX5_next_58 : decode cX5_next 58 = .ok (.ireturn, 1) := by decide +kernel
theorem dX5_shot_0 : decode cX5_shot 0 = .ok (.aload_n 0, 1) := by decide +kernel
theorem dX5_shot_1 : decode cX5_shot 1 = .ok (.iload_n 1, 1) := by decide +kernel
theorem dX5_shot_2 : decode cX5_shot 2 = .ok (.invokevirtual 79, 3) := by decide +kernel
theorem dX5_shot_5 : decode cX5_shot 5 = .ok (.astore 6, 2) := by decide +kernel
theorem dX5_shot_7 : decode cX5_shot 7 = .ok (.aload 6, 2) := by decide +kernel
theorem dX5_shot_9 : decode cX5_shot 9 = .ok (.iload_n 2, 1) := by decide +kernel
theorem dX5_shot_10 : decode cX5_shot 10 = .ok (.invokestatic 83, 3) := by decide +kernel
theorem dX5_shot_13 : decode cX5_shot 13 = .ok (.astore 7, 2) := by decide +kernel
theorem dX5_shot_15 : decode cX5_shot 15 = .ok (.iload_n 3, 1) := by decide +kernel
theorem dX5_shot_16 : decode cX5_shot 16 = .ok (.bipush 30, 2) := by decide +kernel
theorem dX5_shot_18 : decode cX5_shot 18 = .ok (.sipush 180, 3) := by decide +kernel
theorem dX5_shot_21 : decode cX5_shot 21 = .ok (.invokestatic 54, 3) := by decide +kernel
theorem dX5_shot_24 : decode cX5_shot 24 = .ok (.iload_n 3, 1) := by decide +kernel
theorem dX5_shot_25 : decode cX5_shot 25 = .ok (.bipush 90, 2) := by decide +kernel
theorem dX5_shot_27 : decode cX5_shot 27 = .ok (.if_icmp .le 7, 3) := by decide +kernel
theorem dX5_shot_30 : decode cX5_shot 30 = .ok (.iconst 2, 1) := by decide +kernel
theorem dX5_shot_31 : decode cX5_shot 31 = .ok (.goto 4, 3) := by decide +kernel
theorem dX5_shot_34 : decode cX5_shot 34 = .ok (.iconst 1, 1) := by decide +kernel
theorem dX5_shot_35 : decode cX5_shot 35 = .ok (.istore 8, 2) := by decide +kernel
theorem dX5_shot_37 : decode cX5_shot 37 = .ok (.iload_n 3, 1) := by decide +kernel
theorem dX5_shot_38 : decode cX5_shot 38 = .ok (.aload 6, 2) := by decide +kernel
theorem dX5_shot_40 : decode cX5_shot 40 = .ok (.getfield 87, 3) := by decide +kernel
theorem dX5_shot_43 : decode cX5_shot 43 = .ok (.if_icmp .le 13, 3) := by decide +kernel
theorem dX5_shot_46 : decode cX5_shot 46 = .ok (.new 61, 3) := by decide +kernel
theorem dX5_shot_49 : decode cX5_shot 49 = .ok (.dup, 1) := by decide +kernel
theorem dX5_shot_50 : decode cX5_shot 50 = .ok (.ldc 90, 2) := by decide +kernel
theorem dX5_shot_52 : decode cX5_shot 52 = .ok (.invokespecial 65, 3) := by decide +kernel
theorem dX5_shot_55 : decode cX5_shot 55 = .ok (.athrow, 1) := by decide +kernel
theorem dX5_shot_56 : decode cX5_shot 56 = .ok (.aload 6, 2) := by decide +kernel
theorem dX5_shot_58 : decode cX5_shot 58 = .ok (.getfield 92, 3) := by decide +kernel
theorem dX5_shot_61 : decode cX5_shot 61 = .ok (.iload 8, 2) := by decide +kernel
theorem dX5_shot_63 : decode cX5_shot 63 = .ok (.if_icmp .ge 13, 3) := by decide +kernel
theorem dX5_shot_66 : decode cX5_shot 66 = .ok (.new 61, 3) := by decide +kernel
theorem dX5_shot_69 : decode cX5_shot 69 = .ok (.dup, 1) := by decide +kernel
theorem dX5_shot_70 : decode cX5_shot 70 = .ok (.ldc 95, 2) := by decide +kernel
theorem dX5_shot_72 : decode cX5_shot 72 = .ok (.invokespecial 65, 3) := by decide +kernel
theorem dX5_shot_75 : decode cX5_shot 75 = .ok (.athrow, 1) := by decide +kernel
theorem dX5_shot_76 : decode cX5_shot 76 = .ok (.aload 7, 2) := by decide +kernel
theorem dX5_shot_78 : decode cX5_shot 78 = .ok (.getfield 97, 3) := by decide +kernel
theorem dX5_shot_81 : decode cX5_shot 81 = .ok (.ifCond .eq 21, 3) := by decide +kernel
theorem dX5_shot_84 : decode cX5_shot 84 = .ok (.aload 7, 2) := by decide +kernel
theorem dX5_shot_86 : decode cX5_shot 86 = .ok (.getfield 103, 3) := by decide +kernel
theorem dX5_shot_89 : decode cX5_shot 89 = .ok (.ifCond .ne 13, 3) := by decide +kernel
theorem dX5_shot_92 : decode cX5_shot 92 = .ok (.new 61, 3) := by decide +kernel
theorem dX5_shot_95 : decode cX5_shot 95 = .ok (.dup, 1) := by decide +kernel
theorem dX5_shot_96 : decode cX5_shot 96 = .ok (.ldc 106, 2) := by decide +kernel
theorem dX5_shot_98 : decode cX5_shot 98 = .ok (.invokespecial 65, 3) := by decide +kernel
theorem dX5_shot_101 : decode cX5_shot 101 = .ok (.athrow, 1) := by decide +kernel
theorem dX5_shot_102 : decode cX5_shot 102 = .ok (.aload 6, 2) := by decide +kernel
theorem dX5_shot_104 : decode cX5_shot 104 = .ok (.dup, 1) := by decide +kernel
theorem dX5_shot_105 : decode cX5_shot 105 = .ok (.getfield 92, 3) := by decide +kernel
theorem dX5_shot_108 : decode cX5_shot 108 = .ok (.iload 8, 2) := by decide +kernel
theorem dX5_shot_110 : decode cX5_shot 110 = .ok (.isub, 1) := by decide +kernel
theorem dX5_shot_111 : decode cX5_shot 111 = .ok (.putfield 92, 3) := by decide +kernel
theorem dX5_shot_114 : decode cX5_shot 114 = .ok (.aload 6, 2) := by decide +kernel
theorem dX5_shot_116 : decode cX5_shot 116 = .ok (.dup, 1) := by decide +kernel
theorem dX5_shot_117 : decode cX5_shot 117 = .ok (.getfield 108, 3) := by decide +kernel
theorem dX5_shot_120 : decode cX5_shot 120 = .ok (.iconst 1, 1) := by decide +kernel
theorem dX5_shot_121 : decode cX5_shot 121 = .ok (.iadd, 1) := by decide +kernel
theorem dX5_shot_122 : decode cX5_shot 122 = .ok (.putfield 108, 3) := by decide +kernel
theorem dX5_shot_125 : decode cX5_shot 125 = .ok (.aload 7, 2) := by decide +kernel
theorem dX5_shot_127 : decode cX5_shot 127 = .ok (.lload 4, 2) := by decide +kernel
theorem dX5_shot_129 : decode cX5_shot 129 = .ok (.aload_n 0, 1) := by decide +kernel
theorem dX5_shot_130 : decode cX5_shot 130 = .ok (.getfield 111, 3) := by decide +kernel
theorem dX5_shot_133 : decode cX5_shot 133 = .ok (.iconst 5, 1) := by decide +kernel
theorem dX5_shot_134 : decode cX5_shot 134 = .ok (.if_icmp .le 7, 3) := by decide +kernel
theorem dX5_shot_137 : decode cX5_shot 137 = .ok (.iconst 1, 1) := by decide +kernel
theorem dX5_shot_138 : decode cX5_shot 138 = .ok (.goto 4, 3) := by decide +kernel
theorem dX5_shot_141 : decode cX5_shot 141 = .ok (.iconst 0, 1) := by decide +kernel
theorem dX5_shot_142 : decode cX5_shot 142 = .ok (.invokevirtual 114, 3) := by decide +kernel
theorem dX5_shot_145 : decode cX5_shot 145 = .ok (.aload_n 0, 1) := by decide +kernel
theorem dX5_shot_146 : decode cX5_shot 146 = .ok (.dup, 1) := by decide +kernel
theorem dX5_shot_147 : decode cX5_shot 147 = .ok (.getfield 111, 3) := by decide +kernel
theorem dX5_shot_150 : decode cX5_shot 150 = .ok (.iconst 1, 1) := by decide +kernel
theorem dX5_shot_151 : decode cX5_shot 151 = .ok (.iadd, 1) := by decide +kernel
theorem dX5_shot_152 : decode cX5_shot 152 = .ok (.putfield 111, 3) := by decide +kernel
theorem dX5_shot_155 : decode cX5_shot 155 = .ok (.iconst 0, 1) := by decide +kernel
theorem dX5_shot_156 : decode cX5_shot 156 = .ok (.istore 9, 2) := by decide +kernel
theorem dX5_shot_158 : decode cX5_shot 158 = .ok (.iload 9, 2) := by decide +kernel
theorem dX5_shot_160 : decode cX5_shot 160 = .ok (.iconst 4, 1) := by decide +kernel
theorem dX5_shot_161 : decode cX5_shot 161 = .ok (.if_icmp .ge 28, 3) := by decide +kernel
theorem dX5_shot_164 : decode cX5_shot 164 = .ok (.aload_n 0, 1) := by decide +kernel
theorem dX5_shot_165 : decode cX5_shot 165 = .ok (.getfield 15, 3) := by decide +kernel
theorem dX5_shot_168 : decode cX5_shot 168 = .ok (.iload 9, 2) := by decide +kernel
theorem dX5_shot_170 : decode cX5_shot 170 = .ok (.baload, 1) := by decide +kernel
theorem dX5_shot_171 : decode cX5_shot 171 = .ok (.ifCond .ne 12, 3) := by decide +kernel
theorem dX5_shot_174 : decode cX5_shot 174 = .ok (.aload 7, 2) := by decide +kernel
theorem dX5_shot_176 : decode cX5_shot 176 = .ok (.iload 9, 2) := by decide +kernel
theorem dX5_shot_178 : decode cX5_shot 178 = .ok (.lload 4, 2) := by decide +kernel
theorem dX5_shot_180 : decode cX5_shot 180 = .ok (.invokevirtual 118, 3) := by decide +kernel
theorem dX5_shot_183 : decode cX5_shot 183 = .ok (.iinc 9 1, 3) := by decide +kernel
theorem dX5_shot_186 : decode cX5_shot 186 = .ok (.goto (-28), 3) := by decide +kernel
theorem dX5_shot_189 : decode cX5_shot 189 = .ok (.aload 6, 2) := by decide +kernel
theorem dX5_shot_191 : decode cX5_shot 191 = .ok (.getfield 92, 3) := by decide +kernel
theorem dX5_shot_194 : decode cX5_shot 194 = .ok (.ireturn, 1) := by decide +kernel
theorem dX5_look_0 : decode cX5_look 0 = .ok (.aload_n 0, 1) := by decide +kernel
theorem dX5_look_1 : decode cX5_look 1 = .ok (.iload_n 1, 1) := by decide +kernel
theorem dX5_look_2 : decode cX5_look 2 = .ok (.invokevirtual 79, 3) := by decide +kernel
theorem dX5_look_5 : decode cX5_look 5 = .ok (.iload_n 2, 1) := by decide +kernel
theorem dX5_look_6 : decode cX5_look 6 = .ok (.invokestatic 83, 3) := by decide +kernel
theorem dX5_look_9 : decode cX5_look 9 = .ok (.astore_n 3, 1) := by decide +kernel
theorem dX5_look_10 : decode cX5_look 10 = .ok (.aload_n 3, 1) := by decide +kernel
theorem dX5_look_11 : decode cX5_look 11 = .ok (.getfield 97, 3) := by decide +kernel
theorem dX5_look_14 : decode cX5_look 14 = .ok (.ifCond .ne 13, 3) := by decide +kernel
theorem dX5_look_17 : decode cX5_look 17 = .ok (.new 61, 3) := by decide +kernel
theorem dX5_look_20 : decode cX5_look 20 = .ok (.dup, 1) := by decide +kernel
theorem dX5_look_21 : decode cX5_look 21 = .ok (.ldc 122, 2) := by decide +kernel
theorem dX5_look_23 : decode cX5_look 23 = .ok (.invokespecial 65, 3) := by decide +kernel
theorem dX5_look_26 : decode cX5_look 26 = .ok (.athrow, 1) := by decide +kernel
theorem dX5_look_27 : decode cX5_look 27 = .ok (.aload_n 3, 1) := by decide +kernel
theorem dX5_look_28 : decode cX5_look 28 = .ok (.getfield 124, 3) := by decide +kernel
theorem dX5_look_31 : decode cX5_look 31 = .ok (.ifCond .eq 8, 3) := by decide +kernel
theorem dX5_look_34 : decode cX5_look 34 = .ok (.aload_n 3, 1) := by decide +kernel
theorem dX5_look_35 : decode cX5_look 35 = .ok (.iconst 1, 1) := by decide +kernel
theorem dX5_look_36 : decode cX5_look 36 = .ok (.putfield 103, 3) := by decide +kernel
theorem dX5_look_39 : decode cX5_look 39 = .ok (.aload_n 3, 1) := by decide +kernel
theorem dX5_look_40 : decode cX5_look 40 = .ok (.getfield 124, 3) := by decide +kernel
theorem dX5_look_43 : decode cX5_look 43 = .ok (.ireturn, 1) := by decide +kernel
theorem dX5_calibrate_0 : decode cX5_calibrate 0 = .ok (.aload_n 0, 1) := by decide +kernel
theorem dX5_calibrate_1 : decode cX5_calibrate 1 = .ok (.getfield 111, 3) := by decide +kernel
theorem dX5_calibrate_4 : decode cX5_calibrate 4 = .ok (.istore_n 1, 1) := by decide +kernel
theorem dX5_calibrate_5 : decode cX5_calibrate 5 = .ok (.aload_n 0, 1) := by decide +kernel
theorem dX5_calibrate_6 : decode cX5_calibrate 6 = .ok (.iconst 0, 1) := by decide +kernel
theorem dX5_calibrate_7 : decode cX5_calibrate 7 = .ok (.putfield 111, 3) := by decide +kernel
theorem dX5_calibrate_10 : decode cX5_calibrate 10 = .ok (.iload_n 1, 1) := by decide +kernel
theorem dX5_calibrate_11 : decode cX5_calibrate 11 = .ok (.ireturn, 1) := by decide +kernel
theorem dX5_rot_0 : decode cX5_rot 0 = .ok (.iload_n 1, 1) := by decide +kernel
theorem dX5_rot_1 : decode cX5_rot 1 = .ok (.invokestatic 127, 3) := by decide +kernel
theorem dX5_rot_4 : decode cX5_rot 4 = .ok (.aload_n 0, 1) := by decide +kernel
theorem dX5_rot_5 : decode cX5_rot 5 = .ok (.iload_n 2, 1) := by decide +kernel
theorem dX5_rot_6 : decode cX5_rot 6 = .ok (.invokevirtual 79, 3) := by decide +kernel
theorem dX5_rot_9 : decode cX5_rot 9 = .ok (.iload_n 3, 1) := by decide +kernel
theorem dX5_rot_10 : decode cX5_rot 10 = .ok (.invokestatic 83, 3) := by decide +kernel
theorem dX5_rot_13 : decode cX5_rot 13 = .ok (.astore 5, 2) := by decide +kernel
theorem dX5_rot_15 : decode cX5_rot 15 = .ok (.iload 4, 2) := by decide +kernel
theorem dX5_rot_17 : decode cX5_rot 17 = .ok (.iconst 0, 1) := by decide +kernel
theorem dX5_rot_18 : decode cX5_rot 18 = .ok (.bipush 63, 2) := by decide +kernel
theorem dX5_rot_20 : decode cX5_rot 20 = .ok (.invokestatic 54, 3) := by decide +kernel
theorem dX5_rot_23 : decode cX5_rot 23 = .ok (.aload 5, 2) := by decide +kernel
theorem dX5_rot_25 : decode cX5_rot 25 = .ok (.iload_n 1, 1) := by decide +kernel
theorem dX5_rot_26 : decode cX5_rot 26 = .ok (.invokestatic 131, 3) := by decide +kernel
theorem dX5_rot_29 : decode cX5_rot 29 = .ok (.aload 5, 2) := by decide +kernel
theorem dX5_rot_31 : decode cX5_rot 31 = .ok (.iload_n 1, 1) := by decide +kernel
theorem dX5_rot_32 : decode cX5_rot 32 = .ok (.iload 4, 2) := by decide +kernel
theorem dX5_rot_34 : decode cX5_rot 34 = .ok (.invokevirtual 135, 3) := by decide +kernel
theorem dX5_rot_37 : decode cX5_rot 37 = .ok (.aload 5, 2) := by decide +kernel
theorem dX5_rot_39 : decode cX5_rot 39 = .ok (.iload_n 1, 1) := by decide +kernel
theorem dX5_rot_40 : decode cX5_rot 40 = .ok (.invokevirtual 139, 3) := by decide +kernel
theorem dX5_rot_43 : decode cX5_rot 43 = .ok (.ireturn, 1) := by decide +kernel
theorem dX5_burn_0 : decode cX5_burn 0 = .ok (.aload_n 0, 1) := by decide +kernel
theorem dX5_burn_1 : decode cX5_burn 1 = .ok (.iload_n 1, 1) := by decide +kernel
theorem dX5_burn_2 : decode cX5_burn 2 = .ok (.invokevirtual 143, 3) := by decide +kernel
theorem dX5_burn_5 : decode cX5_burn 5 = .ok (.iconst 0, 1) := by decide +kernel
theorem dX5_burn_6 : decode cX5_burn 6 = .ok (.istore_n 2, 1) := by decide +kernel
theorem dX5_burn_7 : decode cX5_burn 7 = .ok (.aload_n 0, 1) := by decide +kernel
theorem dX5_burn_8 : decode cX5_burn 8 = .ok (.getfield 11, 3) := by decide +kernel
theorem dX5_burn_11 : decode cX5_burn 11 = .ok (.astore_n 3, 1) := by decide +kernel
theorem dX5_burn_12 : decode cX5_burn 12 = .ok (.aload_n 3, 1) := by decide +kernel
theorem dX5_burn_13 : decode cX5_burn 13 = .ok (.arraylength, 1) := by decide +kernel
theorem dX5_burn_14 : decode cX5_burn 14 = .ok (.istore 4, 2) := by decide +kernel
theorem dX5_burn_16 : decode cX5_burn 16 = .ok (.iconst 0, 1) := by decide +kernel
theorem dX5_burn_17 : decode cX5_burn 17 = .ok (.istore 5, 2) := by decide +kernel
theorem dX5_burn_19 : decode cX5_burn 19 = .ok (.iload 5, 2) := by decide +kernel
theorem dX5_burn_21 : decode cX5_burn 21 = .ok (.iload 4, 2) := by decide +kernel
theorem dX5_burn_23 : decode cX5_burn 23 = .ok (.if_icmp .ge 29, 3) := by decide +kernel
theorem dX5_burn_26 : decode cX5_burn 26 = .ok (.aload_n 3, 1) := by decide +kernel
theorem dX5_burn_27 : decode cX5_burn 27 = .ok (.iload 5, 2) := by decide +kernel
theorem dX5_burn_29 : decode cX5_burn 29 = .ok (.aaload, 1) := by decide +kernel
theorem dX5_burn_30 : decode cX5_burn 30 = .ok (.astore 6, 2) := by decide +kernel
theorem dX5_burn_32 : decode cX5_burn 32 = .ok (.aload 6, 2) := by decide +kernel
theorem dX5_burn_34 : decode cX5_burn 34 = .ok (.ifnull 12, 3) := by decide +kernel
theorem dX5_burn_37 : decode cX5_burn 37 = .ok (.iload_n 2, 1) := by decide +kernel
theorem dX5_burn_38 : decode cX5_burn 38 = .ok (.aload 6, 2) := by decide +kernel
theorem dX5_burn_40 : decode cX5_burn 40 = .ok (.iload_n 1, 1) := by decide +kernel
theorem dX5_burn_41 : decode cX5_burn 41 = .ok (.invokevirtual 146, 3) := by decide +kernel
theorem dX5_burn_44 : decode cX5_burn 44 = .ok (.iadd, 1) := by decide +kernel
theorem dX5_burn_45 : decode cX5_burn 45 = .ok (.istore_n 2, 1) := by decide +kernel
theorem dX5_burn_46 : decode cX5_burn 46 = .ok (.iinc 5 1, 3) := by decide +kernel
theorem dX5_burn_49 : decode cX5_burn 49 = .ok (.goto (-30), 3) := by decide +kernel
theorem dX5_burn_52 : decode cX5_burn 52 = .ok (.aload_n 0, 1) := by decide +kernel
theorem dX5_burn_53 : decode cX5_burn 53 = .ok (.getfield 15, 3) := by decide +kernel
theorem dX5_burn_56 : decode cX5_burn 56 = .ok (.iload_n 1, 1) := by decide +kernel
theorem dX5_burn_57 : decode cX5_burn 57 = .ok (.iconst 1, 1) := by decide +kernel
theorem dX5_burn_58 : decode cX5_burn 58 = .ok (.bastore, 1) := by decide +kernel
theorem dX5_burn_59 : decode cX5_burn 59 = .ok (.iload_n 2, 1) := by decide +kernel
theorem dX5_burn_60 : decode cX5_burn 60 = .ok (.ireturn, 1) := by decide +kernel
theorem dX5_build_0 : decode cX5_build 0 = .ok (.iload_n 1, 1) := by decide +kernel
theorem dX5_build_1 : decode cX5_build 1 = .ok (.invokestatic 127, 3) := by decide +kernel
theorem dX5_build_4 : decode cX5_build 4 = .ok (.aload_n 0, 1) := by decide +kernel
theorem dX5_build_5 : decode cX5_build 5 = .ok (.getfield 15, 3) := by decide +kernel
theorem dX5_build_8 : decode cX5_build 8 = .ok (.iload_n 1, 1) := by decide +kernel
theorem dX5_build_9 : decode cX5_build 9 = .ok (.baload, 1) := by decide +kernel
theorem dX5_build_10 : decode cX5_build 10 = .ok (.ifCond .ne 13, 3) := by decide +kernel
theorem dX5_build_13 : decode cX5_build 13 = .ok (.new 61, 3) := by decide +kernel
theorem dX5_build_16 : decode cX5_build 16 = .ok (.dup, 1) := by decide +kernel
theorem dX5_build_17 : decode cX5_build 17 = .ok (.ldc 150, 2) := by decide +kernel
theorem dX5_build_19 : decode cX5_build 19 = .ok (.invokespecial 65, 3) := by decide +kernel
theorem dX5_build_22 : decode cX5_build 22 = .ok (.athrow, 1) := by decide +kernel
theorem dX5_build_23 : decode cX5_build 23 = .ok (.aload_n 0, 1) := by decide +kernel
theorem dX5_build_24 : decode cX5_build 24 = .ok (.getfield 15, 3) := by decide +kernel
theorem dX5_build_27 : decode cX5_build 27 = .ok (.iload_n 1, 1) := by decide +kernel
theorem dX5_build_28 : decode cX5_build 28 = .ok (.iconst 0, 1) := by decide +kernel
theorem dX5_build_29 : decode cX5_build 29 = .ok (.bastore, 1) := by decide +kernel
theorem dX5_build_30 : decode cX5_build 30 = .ok (.return_, 1) := by decide +kernel
theorem dX5_check_0 : decode cX5_check 0 = .ok (.iload_n 1, 1) := by decide +kernel
theorem dX5_check_1 : decode cX5_check 1 = .ok (.invokestatic 127, 3) := by decide +kernel
theorem dX5_check_4 : decode cX5_check 4 = .ok (.aload_n 0, 1) := by decide +kernel
theorem dX5_check_5 : decode cX5_check 5 = .ok (.iload_n 2, 1) := by decide +kernel
theorem dX5_check_6 : decode cX5_check 6 = .ok (.invokevirtual 79, 3) := by decide +kernel
theorem dX5_check_9 : decode cX5_check 9 = .ok (.astore_n 3, 1) := by decide +kernel
theorem dX5_check_10 : decode cX5_check 10 = .ok (.aload_n 0, 1) := by decide +kernel
theorem dX5_check_11 : decode cX5_check 11 = .ok (.getfield 22, 3) := by decide +kernel
theorem dX5_check_14 : decode cX5_check 14 = .ok (.aload_n 3, 1) := by decide +kernel
theorem dX5_check_15 : decode cX5_check 15 = .ok (.getfield 152, 3) := by decide +kernel
theorem dX5_check_18 : decode cX5_check 18 = .ok (.iload_n 1, 1) := by decide +kernel
theorem dX5_check_19 : decode cX5_check 19 = .ok (.invokevirtual 156, 3) := by decide +kernel
theorem dX5_check_22 : decode cX5_check 22 = .ok (.aload_n 0, 1) := by decide +kernel
theorem dX5_check_23 : decode cX5_check 23 = .ok (.getfield 22, 3) := by decide +kernel
theorem dX5_check_26 : decode cX5_check 26 = .ok (.invokevirtual 160, 3) := by decide +kernel
theorem dX5_check_29 : decode cX5_check 29 = .ok (.ireturn, 1) := by decide +kernel
theorem dX5_looked_0 : decode cX5_looked 0 = .ok (.aload_n 0, 1) := by decide +kernel
theorem dX5_looked_1 : decode cX5_looked 1 = .ok (.getfield 22, 3) := by decide +kernel
theorem dX5_looked_4 : decode cX5_looked 4 = .ok (.getfield 164, 3) := by decide +kernel
theorem dX5_looked_7 : decode cX5_looked 7 = .ok (.ireturn, 1) := by decide +kernel
theorem dX5_mend_0 : decode cX5_mend 0 = .ok (.aload_n 0, 1) := by decide +kernel
theorem dX5_mend_1 : decode cX5_mend 1 = .ok (.iload_n 2, 1) := by decide +kernel
theorem dX5_mend_2 : decode cX5_mend 2 = .ok (.invokevirtual 79, 3) := by decide +kernel
theorem dX5_mend_5 : decode cX5_mend 5 = .ok (.astore_n 3, 1) := by decide +kernel
theorem dX5_mend_6 : decode cX5_mend 6 = .ok (.aload_n 0, 1) := by decide +kernel
theorem dX5_mend_7 : decode cX5_mend 7 = .ok (.iload_n 1, 1) := by decide +kernel
theorem dX5_mend_8 : decode cX5_mend 8 = .ok (.invokevirtual 143, 3) := by decide +kernel
theorem dX5_mend_11 : decode cX5_mend 11 = .ok (.iconst 0, 1) := by decide +kernel
theorem dX5_mend_12 : decode cX5_mend 12 = .ok (.istore 4, 2) := by decide +kernel
theorem dX5_mend_14 : decode cX5_mend 14 = .ok (.aload_n 3, 1) := by decide +kernel
theorem dX5_mend_15 : decode cX5_mend 15 = .ok (.getfield 152, 3) := by decide +kernel
theorem dX5_mend_18 : decode cX5_mend 18 = .ok (.astore 5, 2) := by decide +kernel
theorem dX5_mend_20 : decode cX5_mend 20 = .ok (.aload 5, 2) := by decide +kernel
theorem dX5_mend_22 : decode cX5_mend 22 = .ok (.arraylength, 1) := by decide +kernel
theorem dX5_mend_23 : decode cX5_mend 23 = .ok (.istore 6, 2) := by decide +kernel
theorem dX5_mend_25 : decode cX5_mend 25 = .ok (.iconst 0, 1) := by decide +kernel
theorem dX5_mend_26 : decode cX5_mend 26 = .ok (.istore 7, 2) := by decide +kernel
theorem dX5_mend_28 : decode cX5_mend 28 = .ok (.iload 7, 2) := by decide +kernel
theorem dX5_mend_30 : decode cX5_mend 30 = .ok (.iload 6, 2) := by decide +kernel
theorem dX5_mend_32 : decode cX5_mend 32 = .ok (.if_icmp .ge 28, 3) := by decide +kernel
theorem dX5_mend_35 : decode cX5_mend 35 = .ok (.aload 5, 2) := by decide +kernel
theorem dX5_mend_37 : decode cX5_mend 37 = .ok (.iload 7, 2) := by decide +kernel
theorem dX5_mend_39 : decode cX5_mend 39 = .ok (.aaload, 1) := by decide +kernel
theorem dX5_mend_40 : decode cX5_mend 40 = .ok (.astore 8, 2) := by decide +kernel
theorem dX5_mend_42 : decode cX5_mend 42 = .ok (.aload 8, 2) := by decide +kernel
theorem dX5_mend_44 : decode cX5_mend 44 = .ok (.iload_n 1, 1) := by decide +kernel
theorem dX5_mend_45 : decode cX5_mend 45 = .ok (.invokevirtual 167, 3) := by decide +kernel
theorem dX5_mend_48 : decode cX5_mend 48 = .ok (.ifCond .eq 6, 3) := by decide +kernel
theorem dX5_mend_51 : decode cX5_mend 51 = .ok (.iinc 4 1, 3) := by decide +kernel
theorem dX5_mend_54 : decode cX5_mend 54 = .ok (.iinc 7 1, 3) := by decide +kernel
theorem dX5_mend_57 : decode cX5_mend 57 = .ok (.goto (-29), 3) := by decide +kernel
theorem dX5_mend_60 : decode cX5_mend 60 = .ok (.iload 4, 2) := by decide +kernel
theorem dX5_mend_62 : decode cX5_mend 62 = .ok (.ireturn, 1) := by decide +kernel
theorem dX5_copy_0 : decode cX5_copy 0 = .ok (.iload_n 1, 1) := by decide +kernel
theorem dX5_copy_1 : decode cX5_copy 1 = .ok (.invokestatic 127, 3) := by decide +kernel
theorem dX5_copy_4 : decode cX5_copy 4 = .ok (.aload_n 0, 1) := by decide +kernel
theorem dX5_copy_5 : decode cX5_copy 5 = .ok (.iload_n 2, 1) := by decide +kernel
theorem dX5_copy_6 : decode cX5_copy 6 = .ok (.invokevirtual 79, 3) := by decide +kernel
theorem dX5_copy_9 : decode cX5_copy 9 = .ok (.iload_n 3, 1) := by decide +kernel
theorem dX5_copy_10 : decode cX5_copy 10 = .ok (.invokestatic 83, 3) := by decide +kernel
theorem dX5_copy_13 : decode cX5_copy 13 = .ok (.astore 4, 2) := by decide +kernel
theorem dX5_copy_15 : decode cX5_copy 15 = .ok (.aload 4, 2) := by decide +kernel
theorem dX5_copy_17 : decode cX5_copy 17 = .ok (.iload_n 1, 1) := by decide +kernel
theorem dX5_copy_18 : decode cX5_copy 18 = .ok (.invokestatic 131, 3) := by decide +kernel
theorem dX5_copy_21 : decode cX5_copy 21 = .ok (.aload 4, 2) := by decide +kernel
theorem dX5_copy_23 : decode cX5_copy 23 = .ok (.getfield 170, 3) := by decide +kernel
theorem dX5_copy_26 : decode cX5_copy 26 = .ok (.iload_n 1, 1) := by decide +kernel
theorem dX5_copy_27 : decode cX5_copy 27 = .ok (.laload, 1) := by decide +kernel
theorem dX5_copy_28 : decode cX5_copy 28 = .ok (.lreturn, 1) := by decide +kernel
theorem dX5_isLost_0 : decode cX5_isLost 0 = .ok (.aload_n 0, 1) := by decide +kernel
theorem dX5_isLost_1 : decode cX5_isLost 1 = .ok (.iload_n 1, 1) := by decide +kernel
theorem dX5_isLost_2 : decode cX5_isLost 2 = .ok (.invokevirtual 79, 3) := by decide +kernel
theorem dX5_isLost_5 : decode cX5_isLost 5 = .ok (.iload_n 2, 1) := by decide +kernel
theorem dX5_isLost_6 : decode cX5_isLost 6 = .ok (.invokestatic 83, 3) := by decide +kernel
theorem dX5_isLost_9 : decode cX5_isLost 9 = .ok (.invokevirtual 174, 3) := by decide +kernel
theorem dX5_isLost_12 : decode cX5_isLost 12 = .ok (.ireturn, 1) := by decide +kernel
theorem dX5_words_0 : decode cX5_words 0 = .ok (.aload_n 0, 1) := by decide +kernel
theorem dX5_words_1 : decode cX5_words 1 = .ok (.iload_n 1, 1) := by decide +kernel
theorem dX5_words_2 : decode cX5_words 2 = .ok (.invokevirtual 79, 3) := by decide +kernel
theorem dX5_words_5 : decode cX5_words 5 = .ok (.iload_n 2, 1) := by decide +kernel
theorem dX5_words_6 : decode cX5_words 6 = .ok (.invokestatic 83, 3) := by decide +kernel
theorem dX5_words_9 : decode cX5_words 9 = .ok (.astore 5, 2) := by decide +kernel
theorem dX5_words_11 : decode cX5_words 11 = .ok (.iload_n 3, 1) := by decide +kernel
theorem dX5_words_12 : decode cX5_words 12 = .ok (.iconst 0, 1) := by decide +kernel
theorem dX5_words_13 : decode cX5_words 13 = .ok (.bipush 99, 2) := by decide +kernel
theorem dX5_words_15 : decode cX5_words 15 = .ok (.invokestatic 54, 3) := by decide +kernel
theorem dX5_words_18 : decode cX5_words 18 = .ok (.iload 4, 2) := by decide +kernel
theorem dX5_words_20 : decode cX5_words 20 = .ok (.iconst 0, 1) := by decide +kernel
theorem dX5_words_21 : decode cX5_words 21 = .ok (.bipush 99, 2) := by decide +kernel
theorem dX5_words_23 : decode cX5_words 23 = .ok (.invokestatic 54, 3) := by decide +kernel
theorem dX5_words_26 : decode cX5_words 26 = .ok (.aload 5, 2) := by decide +kernel
theorem dX5_words_28 : decode cX5_words 28 = .ok (.iload_n 3, 1) := by decide +kernel
theorem dX5_words_29 : decode cX5_words 29 = .ok (.putfield 177, 3) := by decide +kernel
theorem dX5_words_32 : decode cX5_words 32 = .ok (.aload 5, 2) := by decide +kernel
theorem dX5_words_34 : decode cX5_words 34 = .ok (.iload 4, 2) := by decide +kernel
theorem dX5_words_36 : decode cX5_words 36 = .ok (.putfield 180, 3) := by decide +kernel
theorem dX5_words_39 : decode cX5_words 39 = .ok (.return_, 1) := by decide +kernel
theorem dX5_order_0 : decode cX5_order 0 = .ok (.aload_n 0, 1) := by decide +kernel
theorem dX5_order_1 : decode cX5_order 1 = .ok (.iload_n 1, 1) := by decide +kernel
theorem dX5_order_2 : decode cX5_order 2 = .ok (.iload_n 2, 1) := by decide +kernel
theorem dX5_order_3 : decode cX5_order 3 = .ok (.invokevirtual 183, 3) := by decide +kernel
theorem dX5_order_6 : decode cX5_order 6 = .ok (.astore_n 3, 1) := by decide +kernel
theorem dX5_order_7 : decode cX5_order 7 = .ok (.aload_n 0, 1) := by decide +kernel
theorem dX5_order_8 : decode cX5_order 8 = .ok (.getfield 29, 3) := by decide +kernel
theorem dX5_order_11 : decode cX5_order 11 = .ok (.aload_n 3, 1) := by decide +kernel
theorem dX5_order_12 : decode cX5_order 12 = .ok (.getfield 152, 3) := by decide +kernel
theorem dX5_order_15 : decode cX5_order 15 = .ok (.invokevirtual 187, 3) := by decide +kernel
theorem dX5_order_18 : decode cX5_order 18 = .ok (.ifCond .eq 14, 3) := by decide +kernel
theorem dX5_order_21 : decode cX5_order 21 = .ok (.aload_n 0, 1) := by decide +kernel
theorem dX5_order_22 : decode cX5_order 22 = .ok (.getfield 29, 3) := by decide +kernel
theorem dX5_order_25 : decode cX5_order 25 = .ok (.iload_n 2, 1) := by decide +kernel
theorem dX5_order_26 : decode cX5_order 26 = .ok (.invokevirtual 191, 3) := by decide +kernel
theorem dX5_order_29 : decode cX5_order 29 = .ok (.goto 4, 3) := by decide +kernel
theorem dX5_order_32 : decode cX5_order 32 = .ok (.iconst (-1), 1) := by decide +kernel
theorem dX5_order_33 : decode cX5_order 33 = .ok (.ireturn, 1) := by decide +kernel
theorem dX5_orderAnew_0 : decode cX5_orderAnew 0 = .ok (.aload_n 0, 1) := by decide +kernel
theorem dX5_orderAnew_1 : decode cX5_orderAnew 1 = .ok (.iload_n 1, 1) := by decide +kernel
theorem dX5_orderAnew_2 : decode cX5_orderAnew 2 = .ok (.iload_n 2, 1) := by decide +kernel
theorem dX5_orderAnew_3 : decode cX5_orderAnew 3 = .ok (.invokevirtual 183, 3) := by decide +kernel
theorem dX5_orderAnew_6 : decode cX5_orderAnew 6 = .ok (.astore_n 3, 1) := by decide +kernel
theorem dX5_orderAnew_7 : decode cX5_orderAnew 7 = .ok (.aload_n 0, 1) := by decide +kernel
theorem dX5_orderAnew_8 : decode cX5_orderAnew 8 = .ok (.getfield 29, 3) := by decide +kernel
theorem dX5_orderAnew_11 : decode cX5_orderAnew 11 = .ok (.aload_n 3, 1) := by decide +kernel
theorem dX5_orderAnew_12 : decode cX5_orderAnew 12 = .ok (.getfield 152, 3) := by decide +kernel
theorem dX5_orderAnew_15 : decode cX5_orderAnew 15 = .ok (.invokevirtual 194, 3) := by decide +kernel
theorem dX5_orderAnew_18 : decode cX5_orderAnew 18 = .ok (.ifCond .eq 14, 3) := by decide +kernel
theorem dX5_orderAnew_21 : decode cX5_orderAnew 21 = .ok (.aload_n 0, 1) := by decide +kernel
theorem dX5_orderAnew_22 : decode cX5_orderAnew 22 = .ok (.getfield 29, 3) := by decide +kernel
theorem dX5_orderAnew_25 : decode cX5_orderAnew 25 = .ok (.iload_n 2, 1) := by decide +kernel
theorem dX5_orderAnew_26 : decode cX5_orderAnew 26 = .ok (.invokevirtual 191, 3) := by decide +kernel
theorem dX5_orderAnew_29 : decode cX5_orderAnew 29 = .ok (.goto 4, 3) := by decide +kernel
theorem dX5_orderAnew_32 : decode cX5_orderAnew 32 = .ok (.iconst (-1), 1) := by decide +kernel
theorem dX5_orderAnew_33 : decode cX5_orderAnew 33 = .ok (.ireturn, 1) := by decide +kernel
theorem dX5_gold_0 : decode cX5_gold 0 = .ok (.aload_n 0, 1) := by decide +kernel
theorem dX5_gold_1 : decode cX5_gold 1 = .ok (.iload_n 1, 1) := by decide +kernel
theorem dX5_gold_2 : decode cX5_gold 2 = .ok (.invokevirtual 79, 3) := by decide +kernel
theorem dX5_gold_5 : decode cX5_gold 5 = .ok (.iload_n 2, 1) := by decide +kernel
theorem dX5_gold_6 : decode cX5_gold 6 = .ok (.invokestatic 83, 3) := by decide +kernel
theorem dX5_gold_9 : decode cX5_gold 9 = .ok (.astore 5, 2) := by decide +kernel
theorem dX5_gold_11 : decode cX5_gold 11 = .ok (.iload_n 3, 1) := by decide +kernel
theorem dX5_gold_12 : decode cX5_gold 12 = .ok (.invokestatic 197, 3) := by decide +kernel
theorem dX5_gold_15 : decode cX5_gold 15 = .ok (.iload 4, 2) := by decide +kernel
theorem dX5_gold_17 : decode cX5_gold 17 = .ok (.iconst 0, 1) := by decide +kernel
theorem dX5_gold_18 : decode cX5_gold 18 = .ok (.bipush 25, 2) := by decide +kernel
theorem dX5_gold_20 : decode cX5_gold 20 = .ok (.invokestatic 54, 3) := by decide +kernel
theorem dX5_gold_23 : decode cX5_gold 23 = .ok (.aload 5, 2) := by decide +kernel
theorem dX5_gold_25 : decode cX5_gold 25 = .ok (.getfield 200, 3) := by decide +kernel
theorem dX5_gold_28 : decode cX5_gold 28 = .ok (.iload_n 3, 1) := by decide +kernel
theorem dX5_gold_29 : decode cX5_gold 29 = .ok (.iaload, 1) := by decide +kernel
theorem dX5_gold_30 : decode cX5_gold 30 = .ok (.istore 6, 2) := by decide +kernel
theorem dX5_gold_32 : decode cX5_gold 32 = .ok (.aload 5, 2) := by decide +kernel
theorem dX5_gold_34 : decode cX5_gold 34 = .ok (.getfield 200, 3) := by decide +kernel
theorem dX5_gold_37 : decode cX5_gold 37 = .ok (.iload_n 3, 1) := by decide +kernel
theorem dX5_gold_38 : decode cX5_gold 38 = .ok (.iload 4, 2) := by decide +kernel
theorem dX5_gold_40 : decode cX5_gold 40 = .ok (.iastore, 1) := by decide +kernel
theorem dX5_gold_41 : decode cX5_gold 41 = .ok (.iload 6, 2) := by decide +kernel
theorem dX5_gold_43 : decode cX5_gold 43 = .ok (.ireturn, 1) := by decide +kernel
theorem dX5_key_0 : decode cX5_key 0 = .ok (.iload_n 1, 1) := by decide +kernel
theorem dX5_key_1 : decode cX5_key 1 = .ok (.invokestatic 203, 3) := by decide +kernel
theorem dX5_key_4 : decode cX5_key 4 = .ok (.aload_n 0, 1) := by decide +kernel
theorem dX5_key_5 : decode cX5_key 5 = .ok (.iload_n 2, 1) := by decide +kernel
theorem dX5_key_6 : decode cX5_key 6 = .ok (.invokevirtual 79, 3) := by decide +kernel
theorem dX5_key_9 : decode cX5_key 9 = .ok (.iload_n 3, 1) := by decide +kernel
theorem dX5_key_10 : decode cX5_key 10 = .ok (.invokestatic 83, 3) := by decide +kernel
theorem dX5_key_13 : decode cX5_key 13 = .ok (.astore 6, 2) := by decide +kernel
theorem dX5_key_15 : decode cX5_key 15 = .ok (.iload 4, 2) := by decide +kernel
theorem dX5_key_17 : decode cX5_key 17 = .ok (.invokestatic 197, 3) := by decide +kernel
theorem dX5_key_20 : decode cX5_key 20 = .ok (.iload 5, 2) := by decide +kernel
theorem dX5_key_22 : decode cX5_key 22 = .ok (.iconst 0, 1) := by decide +kernel
theorem dX5_key_23 : decode cX5_key 23 = .ok (.bipush 25, 2) := by decide +kernel
theorem dX5_key_25 : decode cX5_key 25 = .ok (.invokestatic 54, 3) := by decide +kernel
theorem dX5_key_28 : decode cX5_key 28 = .ok (.aload 6, 2) := by decide +kernel
theorem dX5_key_30 : decode cX5_key 30 = .ok (.getfield 206, 3) := by decide +kernel
theorem dX5_key_33 : decode cX5_key 33 = .ok (.iload_n 1, 1) := by decide +kernel
theorem dX5_key_34 : decode cX5_key 34 = .ok (.aaload, 1) := by decide +kernel
theorem dX5_key_35 : decode cX5_key 35 = .ok (.iload 4, 2) := by decide +kernel
theorem dX5_key_37 : decode cX5_key 37 = .ok (.iaload, 1) := by decide +kernel
theorem dX5_key_38 : decode cX5_key 38 = .ok (.istore 7, 2) := by decide +kernel
theorem dX5_key_40 : decode cX5_key 40 = .ok (.aload 6, 2) := by decide +kernel
theorem dX5_key_42 : decode cX5_key 42 = .ok (.getfield 206, 3) := by decide +kernel
theorem dX5_key_45 : decode cX5_key 45 = .ok (.iload_n 1, 1) := by decide +kernel
theorem dX5_key_46 : decode cX5_key 46 = .ok (.aaload, 1) := by decide +kernel
theorem dX5_key_47 : decode cX5_key 47 = .ok (.iload 4, 2) := by decide +kernel
theorem dX5_key_49 : decode cX5_key 49 = .ok (.iload 5, 2) := by decide +kernel
theorem dX5_key_51 : decode cX5_key 51 = .ok (.iastore, 1) := by decide +kernel
theorem dX5_key_52 : decode cX5_key 52 = .ok (.iload 7, 2) := by decide +kernel
theorem dX5_key_54 : decode cX5_key 54 = .ok (.ireturn, 1) := by decide +kernel
theorem dX5_trust_0 : decode cX5_trust 0 = .ok (.iload_n 1, 1) := by decide +kernel
theorem dX5_trust_1 : decode cX5_trust 1 = .ok (.invokestatic 203, 3) := by decide +kernel
theorem dX5_trust_4 : decode cX5_trust 4 = .ok (.aload_n 0, 1) := by decide +kernel
theorem dX5_trust_5 : decode cX5_trust 5 = .ok (.iload_n 1, 1) := by decide +kernel
theorem dX5_trust_6 : decode cX5_trust 6 = .ok (.invokevirtual 210, 3) := by decide +kernel
theorem dX5_trust_9 : decode cX5_trust 9 = .ok (.ireturn, 1) := by decide +kernel
theorem dX5_pay_0 : decode cX5_pay 0 = .ok (.iload_n 1, 1) := by decide +kernel
theorem dX5_pay_1 : decode cX5_pay 1 = .ok (.invokestatic 203, 3) := by decide +kernel
theorem dX5_pay_4 : decode cX5_pay 4 = .ok (.iconst 0, 1) := by decide +kernel
theorem dX5_pay_5 : decode cX5_pay 5 = .ok (.istore_n 2, 1) := by decide +kernel
theorem dX5_pay_6 : decode cX5_pay 6 = .ok (.aload_n 0, 1) := by decide +kernel
theorem dX5_pay_7 : decode cX5_pay 7 = .ok (.getfield 11, 3) := by decide +kernel
theorem dX5_pay_10 : decode cX5_pay 10 = .ok (.astore_n 3, 1) := by decide +kernel
theorem dX5_pay_11 : decode cX5_pay 11 = .ok (.aload_n 3, 1) := by decide +kernel
theorem dX5_pay_12 : decode cX5_pay 12 = .ok (.arraylength, 1) := by decide +kernel
theorem dX5_pay_13 : decode cX5_pay 13 = .ok (.istore 4, 2) := by decide +kernel
theorem dX5_pay_15 : decode cX5_pay 15 = .ok (.iconst 0, 1) := by decide +kernel
theorem dX5_pay_16 : decode cX5_pay 16 = .ok (.istore 5, 2) := by decide +kernel
theorem dX5_pay_18 : decode cX5_pay 18 = .ok (.iload 5, 2) := by decide +kernel
theorem dX5_pay_20 : decode cX5_pay 20 = .ok (.iload 4, 2) := by decide +kernel
theorem dX5_pay_22 : decode cX5_pay 22 = .ok (.if_icmp .ge 29, 3) := by decide +kernel
theorem dX5_pay_25 : decode cX5_pay 25 = .ok (.aload_n 3, 1) := by decide +kernel
theorem dX5_pay_26 : decode cX5_pay 26 = .ok (.iload 5, 2) := by decide +kernel
theorem dX5_pay_28 : decode cX5_pay 28 = .ok (.aaload, 1) := by decide +kernel
theorem dX5_pay_29 : decode cX5_pay 29 = .ok (.astore 6, 2) := by decide +kernel
theorem dX5_pay_31 : decode cX5_pay 31 = .ok (.aload 6, 2) := by decide +kernel
theorem dX5_pay_33 : decode cX5_pay 33 = .ok (.ifnull 12, 3) := by decide +kernel
theorem dX5_pay_36 : decode cX5_pay 36 = .ok (.iload_n 2, 1) := by decide +kernel
theorem dX5_pay_37 : decode cX5_pay 37 = .ok (.aload 6, 2) := by decide +kernel
theorem dX5_pay_39 : decode cX5_pay 39 = .ok (.iload_n 1, 1) := by decide +kernel
theorem dX5_pay_40 : decode cX5_pay 40 = .ok (.invokevirtual 213, 3) := by decide +kernel
theorem dX5_pay_43 : decode cX5_pay 43 = .ok (.iadd, 1) := by decide +kernel
theorem dX5_pay_44 : decode cX5_pay 44 = .ok (.istore_n 2, 1) := by decide +kernel
theorem dX5_pay_45 : decode cX5_pay 45 = .ok (.iinc 5 1, 3) := by decide +kernel
theorem dX5_pay_48 : decode cX5_pay 48 = .ok (.goto (-30), 3) := by decide +kernel
theorem dX5_pay_51 : decode cX5_pay 51 = .ok (.iload_n 2, 1) := by decide +kernel
theorem dX5_pay_52 : decode cX5_pay 52 = .ok (.aload_n 0, 1) := by decide +kernel
theorem dX5_pay_53 : decode cX5_pay 53 = .ok (.iload_n 1, 1) := by decide +kernel
theorem dX5_pay_54 : decode cX5_pay 54 = .ok (.invokevirtual 210, 3) := by decide +kernel
theorem dX5_pay_57 : decode cX5_pay 57 = .ok (.imul, 1) := by decide +kernel
theorem dX5_pay_58 : decode cX5_pay 58 = .ok (.bipush 10, 2) := by decide +kernel
theorem dX5_pay_60 : decode cX5_pay 60 = .ok (.idiv, 1) := by decide +kernel
theorem dX5_pay_61 : decode cX5_pay 61 = .ok (.ireturn, 1) := by decide +kernel
theorem dX5_read_0 : decode cX5_read 0 = .ok (.aload_n 0, 1) := by decide +kernel
theorem dX5_read_1 : decode cX5_read 1 = .ok (.iload_n 1, 1) := by decide +kernel
theorem dX5_read_2 : decode cX5_read 2 = .ok (.invokevirtual 79, 3) := by decide +kernel
theorem dX5_read_5 : decode cX5_read 5 = .ok (.iload_n 2, 1) := by decide +kernel
theorem dX5_read_6 : decode cX5_read 6 = .ok (.invokestatic 83, 3) := by decide +kernel
theorem dX5_read_9 : decode cX5_read 9 = .ok (.astore 4, 2) := by decide +kernel
theorem dX5_read_11 : decode cX5_read 11 = .ok (.iload_n 3, 1) := by decide +kernel
theorem dX5_read_12 : decode cX5_read 12 = .ok (.invokestatic 197, 3) := by decide +kernel
theorem dX5_read_15 : decode cX5_read 15 = .ok (.aload 4, 2) := by decide +kernel
theorem dX5_read_17 : decode cX5_read 17 = .ok (.getfield 200, 3) := by decide +kernel
theorem dX5_read_20 : decode cX5_read 20 = .ok (.iload_n 3, 1) := by decide +kernel
theorem dX5_read_21 : decode cX5_read 21 = .ok (.iaload, 1) := by decide +kernel
theorem dX5_read_22 : decode cX5_read 22 = .ok (.iconst (-1), 1) := by decide +kernel
theorem dX5_read_23 : decode cX5_read 23 = .ok (.if_icmp .eq 11, 3) := by decide +kernel
theorem dX5_read_26 : decode cX5_read 26 = .ok (.aload 4, 2) := by decide +kernel
theorem dX5_read_28 : decode cX5_read 28 = .ok (.getfield 200, 3) := by decide +kernel
theorem dX5_read_31 : decode cX5_read 31 = .ok (.iload_n 3, 1) := by decide +kernel
theorem dX5_read_32 : decode cX5_read 32 = .ok (.iaload, 1) := by decide +kernel
theorem dX5_read_33 : decode cX5_read 33 = .ok (.ireturn, 1) := by decide +kernel
theorem dX5_read_34 : decode cX5_read 34 = .ok (.aload_n 0, 1) := by decide +kernel
theorem dX5_read_35 : decode cX5_read 35 = .ok (.aload 4, 2) := by decide +kernel
theorem dX5_read_37 : decode cX5_read 37 = .ok (.iload_n 3, 1) := by decide +kernel
theorem dX5_read_38 : decode cX5_read 38 = .ok (.invokevirtual 216, 3) := by decide +kernel
theorem dX5_read_41 : decode cX5_read 41 = .ok (.aload_n 0, 1) := by decide +kernel
theorem dX5_read_42 : decode cX5_read 42 = .ok (.getfield 36, 3) := by decide +kernel
theorem dX5_read_45 : decode cX5_read 45 = .ok (.invokevirtual 219, 3) := by decide +kernel
theorem dX5_read_48 : decode cX5_read 48 = .ok (.ireturn, 1) := by decide +kernel
theorem dX5_doubt_0 : decode cX5_doubt 0 = .ok (.aload_n 0, 1) := by decide +kernel
theorem dX5_doubt_1 : decode cX5_doubt 1 = .ok (.iload_n 1, 1) := by decide +kernel
theorem dX5_doubt_2 : decode cX5_doubt 2 = .ok (.invokevirtual 79, 3) := by decide +kernel
theorem dX5_doubt_5 : decode cX5_doubt 5 = .ok (.iload_n 2, 1) := by decide +kernel
theorem dX5_doubt_6 : decode cX5_doubt 6 = .ok (.invokestatic 83, 3) := by decide +kernel
theorem dX5_doubt_9 : decode cX5_doubt 9 = .ok (.astore 4, 2) := by decide +kernel
theorem dX5_doubt_11 : decode cX5_doubt 11 = .ok (.iload_n 3, 1) := by decide +kernel
theorem dX5_doubt_12 : decode cX5_doubt 12 = .ok (.invokestatic 197, 3) := by decide +kernel
theorem dX5_doubt_15 : decode cX5_doubt 15 = .ok (.aload 4, 2) := by decide +kernel
theorem dX5_doubt_17 : decode cX5_doubt 17 = .ok (.getfield 200, 3) := by decide +kernel
theorem dX5_doubt_20 : decode cX5_doubt 20 = .ok (.iload_n 3, 1) := by decide +kernel
theorem dX5_doubt_21 : decode cX5_doubt 21 = .ok (.iaload, 1) := by decide +kernel
theorem dX5_doubt_22 : decode cX5_doubt 22 = .ok (.iconst (-1), 1) := by decide +kernel
theorem dX5_doubt_23 : decode cX5_doubt 23 = .ok (.if_icmp .eq 5, 3) := by decide +kernel
theorem dX5_doubt_26 : decode cX5_doubt 26 = .ok (.iconst 0, 1) := by decide +kernel
theorem dX5_doubt_27 : decode cX5_doubt 27 = .ok (.ireturn, 1) := by decide +kernel
theorem dX5_doubt_28 : decode cX5_doubt 28 = .ok (.aload_n 0, 1) := by decide +kernel
theorem dX5_doubt_29 : decode cX5_doubt 29 = .ok (.aload 4, 2) := by decide +kernel
theorem dX5_doubt_31 : decode cX5_doubt 31 = .ok (.iload_n 3, 1) := by decide +kernel
theorem dX5_doubt_32 : decode cX5_doubt 32 = .ok (.invokevirtual 216, 3) := by decide +kernel
theorem dX5_doubt_35 : decode cX5_doubt 35 = .ok (.aload_n 0, 1) := by decide +kernel
theorem dX5_doubt_36 : decode cX5_doubt 36 = .ok (.getfield 36, 3) := by decide +kernel
theorem dX5_doubt_39 : decode cX5_doubt 39 = .ok (.invokevirtual 222, 3) := by decide +kernel
theorem dX5_doubt_42 : decode cX5_doubt 42 = .ok (.ireturn, 1) := by decide +kernel
theorem dX5_pass_0 : decode cX5_pass 0 = .ok (.iload_n 1, 1) := by decide +kernel
theorem dX5_pass_1 : decode cX5_pass 1 = .ok (.iconst 1, 1) := by decide +kernel
theorem dX5_pass_2 : decode cX5_pass 2 = .ok (.bipush 100, 2) := by decide +kernel
theorem dX5_pass_4 : decode cX5_pass 4 = .ok (.invokestatic 54, 3) := by decide +kernel
theorem dX5_pass_7 : decode cX5_pass 7 = .ok (.aload_n 0, 1) := by decide +kernel
theorem dX5_pass_8 : decode cX5_pass 8 = .ok (.getfield 40, 3) := by decide +kernel
theorem dX5_pass_11 : decode cX5_pass 11 = .ok (.iload_n 1, 1) := by decide +kernel
theorem dX5_pass_12 : decode cX5_pass 12 = .ok (.iadd, 1) := by decide +kernel
theorem dX5_pass_13 : decode cX5_pass 13 = .ok (.sipush 4000, 3) := by decide +kernel
theorem dX5_pass_16 : decode cX5_pass 16 = .ok (.if_icmp .le 13, 3) := by decide +kernel
theorem dX5_pass_19 : decode cX5_pass 19 = .ok (.new 61, 3) := by decide +kernel
theorem dX5_pass_22 : decode cX5_pass 22 = .ok (.dup, 1) := by decide +kernel
theorem dX5_pass_23 : decode cX5_pass 23 = .ok (.ldc 225, 2) := by decide +kernel
theorem dX5_pass_25 : decode cX5_pass 25 = .ok (.invokespecial 65, 3) := by decide +kernel
theorem dX5_pass_28 : decode cX5_pass 28 = .ok (.athrow, 1) := by decide +kernel
theorem dX5_pass_29 : decode cX5_pass 29 = .ok (.aload_n 0, 1) := by decide +kernel
theorem dX5_pass_30 : decode cX5_pass 30 = .ok (.dup, 1) := by decide +kernel
theorem dX5_pass_31 : decode cX5_pass 31 = .ok (.getfield 40, 3) := by decide +kernel
theorem dX5_pass_34 : decode cX5_pass 34 = .ok (.iload_n 1, 1) := by decide +kernel
theorem dX5_pass_35 : decode cX5_pass 35 = .ok (.iadd, 1) := by decide +kernel
theorem dX5_pass_36 : decode cX5_pass 36 = .ok (.putfield 40, 3) := by decide +kernel
theorem dX5_pass_39 : decode cX5_pass 39 = .ok (.aload_n 0, 1) := by decide +kernel
theorem dX5_pass_40 : decode cX5_pass 40 = .ok (.getfield 40, 3) := by decide +kernel
theorem dX5_pass_43 : decode cX5_pass 43 = .ok (.ireturn, 1) := by decide +kernel
theorem dX5_term_0 : decode cX5_term 0 = .ok (.iload_n 1, 1) := by decide +kernel
theorem dX5_term_1 : decode cX5_term 1 = .ok (.invokestatic 227, 3) := by decide +kernel
theorem dX5_term_4 : decode cX5_term 4 = .ok (.iload_n 2, 1) := by decide +kernel
theorem dX5_term_5 : decode cX5_term 5 = .ok (.iconst 0, 1) := by decide +kernel
theorem dX5_term_6 : decode cX5_term 6 = .ok (.bipush 120, 2) := by decide +kernel
theorem dX5_term_8 : decode cX5_term 8 = .ok (.invokestatic 54, 3) := by decide +kernel
theorem dX5_term_11 : decode cX5_term 11 = .ok (.aload_n 0, 1) := by decide +kernel
theorem dX5_term_12 : decode cX5_term 12 = .ok (.getfield 44, 3) := by decide +kernel
theorem dX5_term_15 : decode cX5_term 15 = .ok (.iload_n 1, 1) := by decide +kernel
theorem dX5_term_16 : decode cX5_term 16 = .ok (.iaload, 1) := by decide +kernel
theorem dX5_term_17 : decode cX5_term 17 = .ok (.istore_n 3, 1) := by decide +kernel
theorem dX5_term_18 : decode cX5_term 18 = .ok (.aload_n 0, 1) := by decide +kernel
theorem dX5_term_19 : decode cX5_term 19 = .ok (.getfield 44, 3) := by decide +kernel
theorem dX5_term_22 : decode cX5_term 22 = .ok (.iload_n 1, 1) := by decide +kernel
theorem dX5_term_23 : decode cX5_term 23 = .ok (.iload_n 2, 1) := by decide +kernel
theorem dX5_term_24 : decode cX5_term 24 = .ok (.iastore, 1) := by decide +kernel
theorem dX5_term_25 : decode cX5_term 25 = .ok (.iload_n 3, 1) := by decide +kernel
theorem dX5_term_26 : decode cX5_term 26 = .ok (.ireturn, 1) := by decide +kernel
theorem dX5_died_0 : decode cX5_died 0 = .ok (.aload_n 0, 1) := by decide +kernel
theorem dX5_died_1 : decode cX5_died 1 = .ok (.iload_n 1, 1) := by decide +kernel
theorem dX5_died_2 : decode cX5_died 2 = .ok (.invokevirtual 79, 3) := by decide +kernel
theorem dX5_died_5 : decode cX5_died 5 = .ok (.astore_n 3, 1) := by decide +kernel
theorem dX5_died_6 : decode cX5_died 6 = .ok (.iload_n 2, 1) := by decide +kernel
theorem dX5_died_7 : decode cX5_died 7 = .ok (.sipush 1500, 3) := by decide +kernel
theorem dX5_died_10 : decode cX5_died 10 = .ok (.sipush 3000, 3) := by decide +kernel
theorem dX5_died_13 : decode cX5_died 13 = .ok (.invokestatic 54, 3) := by decide +kernel
theorem dX5_died_16 : decode cX5_died 16 = .ok (.aload_n 3, 1) := by decide +kernel
theorem dX5_died_17 : decode cX5_died 17 = .ok (.getfield 230, 3) := by decide +kernel
theorem dX5_died_20 : decode cX5_died 20 = .ok (.iconst (-1), 1) := by decide +kernel
theorem dX5_died_21 : decode cX5_died 21 = .ok (.if_icmp .eq 13, 3) := by decide +kernel
theorem dX5_died_24 : decode cX5_died 24 = .ok (.new 61, 3) := by decide +kernel
theorem dX5_died_27 : decode cX5_died 27 = .ok (.dup, 1) := by decide +kernel
theorem dX5_died_28 : decode cX5_died 28 = .ok (.ldc 233, 2) := by decide +kernel
theorem dX5_died_30 : decode cX5_died 30 = .ok (.invokespecial 65, 3) := by decide +kernel
theorem dX5_died_33 : decode cX5_died 33 = .ok (.athrow, 1) := by decide +kernel
theorem dX5_died_34 : decode cX5_died 34 = .ok (.aload_n 3, 1) := by decide +kernel
theorem dX5_died_35 : decode cX5_died 35 = .ok (.iload_n 2, 1) := by decide +kernel
theorem dX5_died_36 : decode cX5_died 36 = .ok (.putfield 230, 3) := by decide +kernel
theorem dX5_died_39 : decode cX5_died 39 = .ok (.return_, 1) := by decide +kernel
theorem dX5_search_0 : decode cX5_search 0 = .ok (.aload_n 0, 1) := by decide +kernel
theorem dX5_search_1 : decode cX5_search 1 = .ok (.iload_n 1, 1) := by decide +kernel
theorem dX5_search_2 : decode cX5_search 2 = .ok (.invokevirtual 79, 3) := by decide +kernel
theorem dX5_search_5 : decode cX5_search 5 = .ok (.astore_n 2, 1) := by decide +kernel
theorem dX5_search_6 : decode cX5_search 6 = .ok (.aload_n 2, 1) := by decide +kernel
theorem dX5_search_7 : decode cX5_search 7 = .ok (.getfield 235, 3) := by decide +kernel
theorem dX5_search_10 : decode cX5_search 10 = .ok (.istore_n 3, 1) := by decide +kernel
theorem dX5_search_11 : decode cX5_search 11 = .ok (.aload_n 2, 1) := by decide +kernel
theorem dX5_search_12 : decode cX5_search 12 = .ok (.iconst 1, 1) := by decide +kernel
theorem dX5_search_13 : decode cX5_search 13 = .ok (.putfield 235, 3) := by decide +kernel
theorem dX5_search_16 : decode cX5_search 16 = .ok (.iload_n 3, 1) := by decide +kernel
theorem dX5_search_17 : decode cX5_search 17 = .ok (.ireturn, 1) := by decide +kernel
theorem dX5_takeDown_0 : decode cX5_takeDown 0 = .ok (.aload_n 0, 1) := by decide +kernel
theorem dX5_takeDown_1 : decode cX5_takeDown 1 = .ok (.iload_n 1, 1) := by decide +kernel
theorem dX5_takeDown_2 : decode cX5_takeDown 2 = .ok (.invokevirtual 79, 3) := by decide +kernel
theorem dX5_takeDown_5 : decode cX5_takeDown 5 = .ok (.astore_n 3, 1) := by decide +kernel
theorem dX5_takeDown_6 : decode cX5_takeDown 6 = .ok (.aload_n 3, 1) := by decide +kernel
theorem dX5_takeDown_7 : decode cX5_takeDown 7 = .ok (.getfield 238, 3) := by decide +kernel
theorem dX5_takeDown_10 : decode cX5_takeDown 10 = .ok (.istore 4, 2) := by decide +kernel
theorem dX5_takeDown_12 : decode cX5_takeDown 12 = .ok (.aload_n 3, 1) := by decide +kernel
theorem dX5_takeDown_13 : decode cX5_takeDown 13 = .ok (.iload_n 2, 1) := by decide +kernel
theorem dX5_takeDown_14 : decode cX5_takeDown 14 = .ok (.putfield 238, 3) := by decide +kernel
theorem dX5_takeDown_17 : decode cX5_takeDown 17 = .ok (.iload 4, 2) := by decide +kernel
theorem dX5_takeDown_19 : decode cX5_takeDown 19 = .ok (.ireturn, 1) := by decide +kernel
theorem dX5_whyNot_0 : decode cX5_whyNot 0 = .ok (.aload_n 0, 1) := by decide +kernel
theorem dX5_whyNot_1 : decode cX5_whyNot 1 = .ok (.iload_n 1, 1) := by decide +kernel
theorem dX5_whyNot_2 : decode cX5_whyNot 2 = .ok (.invokevirtual 79, 3) := by decide +kernel
theorem dX5_whyNot_5 : decode cX5_whyNot 5 = .ok (.astore 4, 2) := by decide +kernel
theorem dX5_whyNot_7 : decode cX5_whyNot 7 = .ok (.aload 4, 2) := by decide +kernel
theorem dX5_whyNot_9 : decode cX5_whyNot 9 = .ok (.iload_n 2, 1) := by decide +kernel
theorem dX5_whyNot_10 : decode cX5_whyNot 10 = .ok (.invokestatic 83, 3) := by decide +kernel
theorem dX5_whyNot_13 : decode cX5_whyNot 13 = .ok (.astore 5, 2) := by decide +kernel
theorem dX5_whyNot_15 : decode cX5_whyNot 15 = .ok (.iload_n 3, 1) := by decide +kernel
theorem dX5_whyNot_16 : decode cX5_whyNot 16 = .ok (.invokestatic 227, 3) := by decide +kernel
theorem dX5_whyNot_19 : decode cX5_whyNot 19 = .ok (.aload 5, 2) := by decide +kernel
theorem dX5_whyNot_21 : decode cX5_whyNot 21 = .ok (.getfield 97, 3) := by decide +kernel
theorem dX5_whyNot_24 : decode cX5_whyNot 24 = .ok (.ifCond .ne 5, 3) := by decide +kernel
theorem dX5_whyNot_27 : decode cX5_whyNot 27 = .ok (.iconst 1, 1) := by decide +kernel
theorem dX5_whyNot_28 : decode cX5_whyNot 28 = .ok (.ireturn, 1) := by decide +kernel
theorem dX5_whyNot_29 : decode cX5_whyNot 29 = .ok (.aload 4, 2) := by decide +kernel
theorem dX5_whyNot_31 : decode cX5_whyNot 31 = .ok (.getfield 238, 3) := by decide +kernel
theorem dX5_whyNot_34 : decode cX5_whyNot 34 = .ok (.ifCond .eq 5, 3) := by decide +kernel
theorem dX5_whyNot_37 : decode cX5_whyNot 37 = .ok (.iconst 2, 1) := by decide +kernel
theorem dX5_whyNot_38 : decode cX5_whyNot 38 = .ok (.ireturn, 1) := by decide +kernel
theorem dX5_whyNot_39 : decode cX5_whyNot 39 = .ok (.aload 4, 2) := by decide +kernel
theorem dX5_whyNot_41 : decode cX5_whyNot 41 = .ok (.getfield 230, 3) := by decide +kernel
theorem dX5_whyNot_44 : decode cX5_whyNot 44 = .ok (.iconst (-1), 1) := by decide +kernel
theorem dX5_whyNot_45 : decode cX5_whyNot 45 = .ok (.if_icmp .ne 13, 3) := by decide +kernel
theorem dX5_whyNot_48 : decode cX5_whyNot 48 = .ok (.aload 4, 2) := by decide +kernel
theorem dX5_whyNot_50 : decode cX5_whyNot 50 = .ok (.getfield 235, 3) := by decide +kernel
theorem dX5_whyNot_53 : decode cX5_whyNot 53 = .ok (.ifCond .ne 5, 3) := by decide +kernel
theorem dX5_whyNot_56 : decode cX5_whyNot 56 = .ok (.iconst 3, 1) := by decide +kernel
theorem dX5_whyNot_57 : decode cX5_whyNot 57 = .ok (.ireturn, 1) := by decide +kernel
theorem dX5_whyNot_58 : decode cX5_whyNot 58 = .ok (.aload 4, 2) := by decide +kernel
theorem dX5_whyNot_60 : decode cX5_whyNot 60 = .ok (.getfield 230, 3) := by decide +kernel
theorem dX5_whyNot_63 : decode cX5_whyNot 63 = .ok (.iconst (-1), 1) := by decide +kernel
theorem dX5_whyNot_64 : decode cX5_whyNot 64 = .ok (.if_icmp .eq 24, 3) := by decide +kernel
theorem dX5_whyNot_67 : decode cX5_whyNot 67 = .ok (.aload_n 0, 1) := by decide +kernel
theorem dX5_whyNot_68 : decode cX5_whyNot 68 = .ok (.getfield 40, 3) := by decide +kernel
theorem dX5_whyNot_71 : decode cX5_whyNot 71 = .ok (.aload 4, 2) := by decide +kernel
theorem dX5_whyNot_73 : decode cX5_whyNot 73 = .ok (.getfield 230, 3) := by decide +kernel
theorem dX5_whyNot_76 : decode cX5_whyNot 76 = .ok (.aload_n 0, 1) := by decide +kernel
theorem dX5_whyNot_77 : decode cX5_whyNot 77 = .ok (.getfield 44, 3) := by decide +kernel
theorem dX5_whyNot_80 : decode cX5_whyNot 80 = .ok (.iload_n 3, 1) := by decide +kernel
theorem dX5_whyNot_81 : decode cX5_whyNot 81 = .ok (.iaload, 1) := by decide +kernel
theorem dX5_whyNot_82 : decode cX5_whyNot 82 = .ok (.iadd, 1) := by decide +kernel
theorem dX5_whyNot_83 : decode cX5_whyNot 83 = .ok (.if_icmp .gt 5, 3) := by decide +kernel
theorem dX5_whyNot_86 : decode cX5_whyNot 86 = .ok (.iconst 4, 1) := by decide +kernel
theorem dX5_whyNot_87 : decode cX5_whyNot 87 = .ok (.ireturn, 1) := by decide +kernel
theorem dX5_whyNot_88 : decode cX5_whyNot 88 = .ok (.aload 5, 2) := by decide +kernel
theorem dX5_whyNot_90 : decode cX5_whyNot 90 = .ok (.invokevirtual 174, 3) := by decide +kernel
theorem dX5_whyNot_93 : decode cX5_whyNot 93 = .ok (.ifCond .eq 7, 3) := by decide +kernel
theorem dX5_whyNot_96 : decode cX5_whyNot 96 = .ok (.iconst 5, 1) := by decide +kernel
theorem dX5_whyNot_97 : decode cX5_whyNot 97 = .ok (.goto 4, 3) := by decide +kernel
theorem dX5_whyNot_100 : decode cX5_whyNot 100 = .ok (.iconst 0, 1) := by decide +kernel
theorem dX5_whyNot_101 : decode cX5_whyNot 101 = .ok (.ireturn, 1) := by decide +kernel
theorem dX5_about_0 : decode cX5_about 0 = .ok (.aload_n 0, 1) := by decide +kernel
theorem dX5_about_1 : decode cX5_about 1 = .ok (.iload_n 1, 1) := by decide +kernel
theorem dX5_about_2 : decode cX5_about 2 = .ok (.invokevirtual 79, 3) := by decide +kernel
theorem dX5_about_5 : decode cX5_about 5 = .ok (.astore_n 3, 1) := by decide +kernel
theorem dX5_about_6 : decode cX5_about 6 = .ok (.iload_n 2, 1) := by decide +kernel
theorem dX5_about_7 : decode cX5_about 7 = .ok (.iconst 0, 1) := by decide +kernel
theorem dX5_about_8 : decode cX5_about 8 = .ok (.iconst 5, 1) := by decide +kernel
theorem dX5_about_9 : decode cX5_about 9 = .ok (.invokestatic 54, 3) := by decide +kernel
theorem dX5_about_12 : decode cX5_about 12 = .ok (.iload_n 2, 1) := by decide +kernel
theorem dX5_about_13 : decode cX5_about 13 = .ok (.tableswitch 60 1 5 #[35, 40, 45, 50, 55], 35) := by decide +kernel
theorem dX5_about_48 : decode cX5_about 48 = .ok (.aload_n 3, 1) := by decide +kernel
theorem dX5_about_49 : decode cX5_about 49 = .ok (.invokevirtual 241, 3) := by decide +kernel
theorem dX5_about_52 : decode cX5_about 52 = .ok (.ireturn, 1) := by decide +kernel
theorem dX5_about_53 : decode cX5_about 53 = .ok (.aload_n 3, 1) := by decide +kernel
theorem dX5_about_54 : decode cX5_about 54 = .ok (.invokevirtual 244, 3) := by decide +kernel
theorem dX5_about_57 : decode cX5_about 57 = .ok (.ireturn, 1) := by decide +kernel
theorem dX5_about_58 : decode cX5_about 58 = .ok (.aload_n 3, 1) := by decide +kernel
theorem dX5_about_59 : decode cX5_about 59 = .ok (.invokevirtual 247, 3) := by decide +kernel
theorem dX5_about_62 : decode cX5_about 62 = .ok (.ireturn, 1) := by decide +kernel
theorem dX5_about_63 : decode cX5_about 63 = .ok (.aload_n 3, 1) := by decide +kernel
theorem dX5_about_64 : decode cX5_about 64 = .ok (.getfield 230, 3) := by decide +kernel
theorem dX5_about_67 : decode cX5_about 67 = .ok (.ireturn, 1) := by decide +kernel
theorem dX5_about_68 : decode cX5_about 68 = .ok (.aload_n 3, 1) := by decide +kernel
theorem dX5_about_69 : decode cX5_about 69 = .ok (.getfield 108, 3) := by decide +kernel
theorem dX5_about_72 : decode cX5_about 72 = .ok (.ireturn, 1) := by decide +kernel
theorem dX5_about_73 : decode cX5_about 73 = .ok (.aload_n 3, 1) := by decide +kernel
theorem dX5_about_74 : decode cX5_about 74 = .ok (.getfield 92, 3) := by decide +kernel
theorem dX5_about_77 : decode cX5_about 77 = .ok (.ireturn, 1) := by decide +kernel
theorem dX5_needArgument_0 : decode cX5_needArgument 0 = .ok (.iload_n 0, 1) := by decide +kernel
theorem dX5_needArgument_1 : decode cX5_needArgument 1 = .ok (.iload_n 1, 1) := by decide +kernel
theorem dX5_needArgument_2 : decode cX5_needArgument 2 = .ok (.if_icmp .lt 8, 3) := by decide +kernel
theorem dX5_needArgument_5 : decode cX5_needArgument 5 = .ok (.iload_n 0, 1) := by decide +kernel
theorem dX5_needArgument_6 : decode cX5_needArgument 6 = .ok (.iload_n 2, 1) := by decide +kernel
theorem dX5_needArgument_7 : decode cX5_needArgument 7 = .ok (.if_icmp .le 13, 3) := by decide +kernel
theorem dX5_needArgument_10 : decode cX5_needArgument 10 = .ok (.new 250, 3) := by decide +kernel
theorem dX5_needArgument_13 : decode cX5_needArgument 13 = .ok (.dup, 1) := by decide +kernel
theorem dX5_needArgument_14 : decode cX5_needArgument 14 = .ok (.ldc 252, 2) := by decide +kernel
theorem dX5_needArgument_16 : decode cX5_needArgument 16 = .ok (.invokespecial 254, 3) := by decide +kernel
theorem dX5_needArgument_19 : decode cX5_needArgument 19 = .ok (.athrow, 1) := by decide +kernel
theorem dX5_needArgument_20 : decode cX5_needArgument 20 = .ok (.return_, 1) := by decide +kernel
theorem dX5_bookAt_0 : decode cX5_bookAt 0 = .ok (.iload_n 1, 1) := by decide +kernel
theorem dX5_bookAt_1 : decode cX5_bookAt 1 = .ok (.ifCond .lt 9, 3) := by decide +kernel
theorem dX5_bookAt_4 : decode cX5_bookAt 4 = .ok (.iload_n 1, 1) := by decide +kernel
theorem dX5_bookAt_5 : decode cX5_bookAt 5 = .ok (.bipush 6, 2) := by decide +kernel
theorem dX5_bookAt_7 : decode cX5_bookAt 7 = .ok (.if_icmp .lt 7, 3) := by decide +kernel
theorem dX5_bookAt_10 : decode cX5_bookAt 10 = .ok (.aconst_null, 1) := by decide +kernel
theorem dX5_bookAt_11 : decode cX5_bookAt 11 = .ok (.goto 9, 3) := by decide +kernel
theorem dX5_bookAt_14 : decode cX5_bookAt 14 = .ok (.aload_n 0, 1) := by decide +kernel
theorem dX5_bookAt_15 : decode cX5_bookAt 15 = .ok (.getfield 11, 3) := by decide +kernel
theorem dX5_bookAt_18 : decode cX5_bookAt 18 = .ok (.iload_n 1, 1) := by decide +kernel
theorem dX5_bookAt_19 : decode cX5_bookAt 19 = .ok (.aaload, 1) := by decide +kernel
theorem dX5_bookAt_20 : decode cX5_bookAt 20 = .ok (.astore_n 2, 1) := by decide +kernel
theorem dX5_bookAt_21 : decode cX5_bookAt 21 = .ok (.aload_n 2, 1) := by decide +kernel
theorem dX5_bookAt_22 : decode cX5_bookAt 22 = .ok (.ifnonnull 14, 3) := by decide +kernel
theorem dX5_bookAt_25 : decode cX5_bookAt 25 = .ok (.new 255, 3) := by decide +kernel
theorem dX5_bookAt_28 : decode cX5_bookAt 28 = .ok (.dup, 1) := by decide +kernel
theorem dX5_bookAt_29 : decode cX5_bookAt 29 = .ok (.ldc_w 257, 3) := by decide +kernel
theorem dX5_bookAt_32 : decode cX5_bookAt 32 = .ok (.invokespecial 259, 3) := by decide +kernel
theorem dX5_bookAt_35 : decode cX5_bookAt 35 = .ok (.athrow, 1) := by decide +kernel
theorem dX5_bookAt_36 : decode cX5_bookAt 36 = .ok (.aload_n 2, 1) := by decide +kernel
theorem dX5_bookAt_37 : decode cX5_bookAt 37 = .ok (.areturn, 1) := by decide +kernel
theorem dX5_pageAt_0 : decode cX5_pageAt 0 = .ok (.iload_n 1, 1) := by decide +kernel
theorem dX5_pageAt_1 : decode cX5_pageAt 1 = .ok (.ifCond .lt 12, 3) := by decide +kernel
theorem dX5_pageAt_4 : decode cX5_pageAt 4 = .ok (.iload_n 1, 1) := by decide +kernel
theorem dX5_pageAt_5 : decode cX5_pageAt 5 = .ok (.aload_n 0, 1) := by decide +kernel
theorem dX5_pageAt_6 : decode cX5_pageAt 6 = .ok (.getfield 152, 3) := by decide +kernel
theorem dX5_pageAt_9 : decode cX5_pageAt 9 = .ok (.arraylength, 1) := by decide +kernel
theorem dX5_pageAt_10 : decode cX5_pageAt 10 = .ok (.if_icmp .lt 14, 3) := by decide +kernel
theorem dX5_pageAt_13 : decode cX5_pageAt 13 = .ok (.new 255, 3) := by decide +kernel
theorem dX5_pageAt_16 : decode cX5_pageAt 16 = .ok (.dup, 1) := by decide +kernel
theorem dX5_pageAt_17 : decode cX5_pageAt 17 = .ok (.ldc_w 260, 3) := by decide +kernel
theorem dX5_pageAt_20 : decode cX5_pageAt 20 = .ok (.invokespecial 259, 3) := by decide +kernel
theorem dX5_pageAt_23 : decode cX5_pageAt 23 = .ok (.athrow, 1) := by decide +kernel
theorem dX5_pageAt_24 : decode cX5_pageAt 24 = .ok (.aload_n 0, 1) := by decide +kernel
theorem dX5_pageAt_25 : decode cX5_pageAt 25 = .ok (.getfield 152, 3) := by decide +kernel
theorem dX5_pageAt_28 : decode cX5_pageAt 28 = .ok (.iload_n 1, 1) := by decide +kernel
theorem dX5_pageAt_29 : decode cX5_pageAt 29 = .ok (.aaload, 1) := by decide +kernel
theorem dX5_pageAt_30 : decode cX5_pageAt 30 = .ok (.areturn, 1) := by decide +kernel
theorem dX5_needVault_0 : decode cX5_needVault 0 = .ok (.iload_n 0, 1) := by decide +kernel
theorem dX5_needVault_1 : decode cX5_needVault 1 = .ok (.ifCond .lt 8, 3) := by decide +kernel
theorem dX5_needVault_4 : decode cX5_needVault 4 = .ok (.iload_n 0, 1) := by decide +kernel
theorem dX5_needVault_5 : decode cX5_needVault 5 = .ok (.iconst 4, 1) := by decide +kernel
theorem dX5_needVault_6 : decode cX5_needVault 6 = .ok (.if_icmp .lt 14, 3) := by decide +kernel
theorem dX5_needVault_9 : decode cX5_needVault 9 = .ok (.new 255, 3) := by decide +kernel
theorem dX5_needVault_12 : decode cX5_needVault 12 = .ok (.dup, 1) := by decide +kernel
theorem dX5_needVault_13 : decode cX5_needVault 13 = .ok (.ldc_w 262, 3) := by decide +kernel
theorem dX5_needVault_16 : decode cX5_needVault 16 = .ok (.invokespecial 259, 3) := by decide +kernel
theorem dX5_needVault_19 : decode cX5_needVault 19 = .ok (.athrow, 1) := by decide +kernel
theorem dX5_needVault_20 : decode cX5_needVault 20 = .ok (.return_, 1) := by decide +kernel
theorem dX5_needStandingVault_0 : decode cX5_needStandingVault 0 = .ok (.iload_n 1, 1) := by decide +kernel
theorem dX5_needStandingVault_1 : decode cX5_needStandingVault 1 = .ok (.invokestatic 127, 3) := by decide +kernel
theorem dX5_needStandingVault_4 : decode cX5_needStandingVault 4 = .ok (.aload_n 0, 1) := by decide +kernel
theorem dX5_needStandingVault_5 : decode cX5_needStandingVault 5 = .ok (.getfield 15, 3) := by decide +kernel
theorem dX5_needStandingVault_8 : decode cX5_needStandingVault 8 = .ok (.iload_n 1, 1) := by decide +kernel
theorem dX5_needStandingVault_9 : decode cX5_needStandingVault 9 = .ok (.baload, 1) := by decide +kernel
theorem dX5_needStandingVault_10 : decode cX5_needStandingVault 10 = .ok (.ifCond .eq 14, 3) := by decide +kernel
theorem dX5_needStandingVault_13 : decode cX5_needStandingVault 13 = .ok (.new 61, 3) := by decide +kernel
theorem dX5_needStandingVault_16 : decode cX5_needStandingVault 16 = .ok (.dup, 1) := by decide +kernel
theorem dX5_needStandingVault_17 : decode cX5_needStandingVault 17 = .ok (.ldc_w 264, 3) := by decide +kernel
theorem dX5_needStandingVault_20 : decode cX5_needStandingVault 20 = .ok (.invokespecial 65, 3) := by decide +kernel
theorem dX5_needStandingVault_23 : decode cX5_needStandingVault 23 = .ok (.athrow, 1) := by decide +kernel
theorem dX5_needStandingVault_24 : decode cX5_needStandingVault 24 = .ok (.return_, 1) := by decide +kernel
theorem dX5_needCopy_0 : decode cX5_needCopy 0 = .ok (.aload_n 0, 1) := by decide +kernel
theorem dX5_needCopy_1 : decode cX5_needCopy 1 = .ok (.getfield 266, 3) := by decide +kernel
theorem dX5_needCopy_4 : decode cX5_needCopy 4 = .ok (.iload_n 1, 1) := by decide +kernel
theorem dX5_needCopy_5 : decode cX5_needCopy 5 = .ok (.baload, 1) := by decide +kernel
theorem dX5_needCopy_6 : decode cX5_needCopy 6 = .ok (.ifCond .ne 14, 3) := by decide +kernel
theorem dX5_needCopy_9 : decode cX5_needCopy 9 = .ok (.new 61, 3) := by decide +kernel
theorem dX5_needCopy_12 : decode cX5_needCopy 12 = .ok (.dup, 1) := by decide +kernel
theorem dX5_needCopy_13 : decode cX5_needCopy 13 = .ok (.ldc_w 269, 3) := by decide +kernel
theorem dX5_needCopy_16 : decode cX5_needCopy 16 = .ok (.invokespecial 65, 3) := by decide +kernel
theorem dX5_needCopy_19 : decode cX5_needCopy 19 = .ok (.athrow, 1) := by decide +kernel
theorem dX5_needCopy_20 : decode cX5_needCopy 20 = .ok (.return_, 1) := by decide +kernel
theorem dX5_needPlace_0 : decode cX5_needPlace 0 = .ok (.iload_n 0, 1) := by decide +kernel
theorem dX5_needPlace_1 : decode cX5_needPlace 1 = .ok (.ifCond .lt 8, 3) := by decide +kernel
theorem dX5_needPlace_4 : decode cX5_needPlace 4 = .ok (.iload_n 0, 1) := by decide +kernel
theorem dX5_needPlace_5 : decode cX5_needPlace 5 = .ok (.iconst 4, 1) := by decide +kernel
theorem dX5_needPlace_6 : decode cX5_needPlace 6 = .ok (.if_icmp .lt 14, 3) := by decide +kernel
theorem dX5_needPlace_9 : decode cX5_needPlace 9 = .ok (.new 255, 3) := by decide +kernel
theorem dX5_needPlace_12 : decode cX5_needPlace 12 = .ok (.dup, 1) := by decide +kernel
theorem dX5_needPlace_13 : decode cX5_needPlace 13 = .ok (.ldc_w 271, 3) := by decide +kernel
theorem dX5_needPlace_16 : decode cX5_needPlace 16 = .ok (.invokespecial 259, 3) := by decide +kernel
theorem dX5_needPlace_19 : decode cX5_needPlace 19 = .ok (.athrow, 1) := by decide +kernel
theorem dX5_needPlace_20 : decode cX5_needPlace 20 = .ok (.return_, 1) := by decide +kernel
theorem dX5_needKeyer_0 : decode cX5_needKeyer 0 = .ok (.iload_n 0, 1) := by decide +kernel
theorem dX5_needKeyer_1 : decode cX5_needKeyer 1 = .ok (.ifCond .lt 8, 3) := by decide +kernel
theorem dX5_needKeyer_4 : decode cX5_needKeyer 4 = .ok (.iload_n 0, 1) := by decide +kernel
theorem dX5_needKeyer_5 : decode cX5_needKeyer 5 = .ok (.iconst 5, 1) := by decide +kernel
theorem dX5_needKeyer_6 : decode cX5_needKeyer 6 = .ok (.if_icmp .lt 14, 3) := by decide +kernel
theorem dX5_needKeyer_9 : decode cX5_needKeyer 9 = .ok (.new 255, 3) := by decide +kernel
theorem dX5_needKeyer_12 : decode cX5_needKeyer 12 = .ok (.dup, 1) := by decide +kernel
theorem dX5_needKeyer_13 : decode cX5_needKeyer 13 = .ok (.ldc_w 273, 3) := by decide +kernel
theorem dX5_needKeyer_16 : decode cX5_needKeyer 16 = .ok (.invokespecial 259, 3) := by decide +kernel
theorem dX5_needKeyer_19 : decode cX5_needKeyer 19 = .ok (.athrow, 1) := by decide +kernel
theorem dX5_needKeyer_20 : decode cX5_needKeyer 20 = .ok (.return_, 1) := by decide +kernel
theorem dX5_needLand_0 : decode cX5_needLand 0 = .ok (.iload_n 0, 1) := by decide +kernel
theorem dX5_needLand_1 : decode cX5_needLand 1 = .ok (.ifCond .lt 8, 3) := by decide +kernel
theorem dX5_needLand_4 : decode cX5_needLand 4 = .ok (.iload_n 0, 1) := by decide +kernel
theorem dX5_needLand_5 : decode cX5_needLand 5 = .ok (.iconst 4, 1) := by decide +kernel
theorem dX5_needLand_6 : decode cX5_needLand 6 = .ok (.if_icmp .lt 14, 3) := by decide +kernel
theorem dX5_needLand_9 : decode cX5_needLand 9 = .ok (.new 255, 3) := by decide +kernel
theorem dX5_needLand_12 : decode cX5_needLand 12 = .ok (.dup, 1) := by decide +kernel
theorem dX5_needLand_13 : decode cX5_needLand 13 = .ok (.ldc_w 275, 3) := by decide +kernel
theorem dX5_needLand_16 : decode cX5_needLand 16 = .ok (.invokespecial 259, 3) := by decide +kernel
theorem dX5_needLand_19 : decode cX5_needLand 19 = .ok (.athrow, 1) := by decide +kernel
theorem dX5_needLand_20 : decode cX5_needLand 20 = .ok (.return_, 1) := by decide +kernel
theorem dX5_bookToOrder_0 : decode cX5_bookToOrder 0 = .ok (.aload_n 0, 1) := by decide +kernel
theorem dX5_bookToOrder_1 : decode cX5_bookToOrder 1 = .ok (.iload_n 1, 1) := by decide +kernel
theorem dX5_bookToOrder_2 : decode cX5_bookToOrder 2 = .ok (.invokevirtual 79, 3) := by decide +kernel
theorem dX5_bookToOrder_5 : decode cX5_bookToOrder 5 = .ok (.astore_n 3, 1) := by decide +kernel
theorem dX5_bookToOrder_6 : decode cX5_bookToOrder 6 = .ok (.iload_n 2, 1) := by decide +kernel
theorem dX5_bookToOrder_7 : decode cX5_bookToOrder 7 = .ok (.ifCond .lt 12, 3) := by decide +kernel
theorem dX5_bookToOrder_10 : decode cX5_bookToOrder 10 = .ok (.iload_n 2, 1) := by decide +kernel
theorem dX5_bookToOrder_11 : decode cX5_bookToOrder 11 = .ok (.aload_n 3, 1) := by decide +kernel
theorem dX5_bookToOrder_12 : decode cX5_bookToOrder 12 = .ok (.getfield 152, 3) := by decide +kernel
theorem dX5_bookToOrder_15 : decode cX5_bookToOrder 15 = .ok (.arraylength, 1) := by decide +kernel
theorem dX5_bookToOrder_16 : decode cX5_bookToOrder 16 = .ok (.if_icmp .lt 14, 3) := by decide +kernel
theorem dX5_bookToOrder_19 : decode cX5_bookToOrder 19 = .ok (.new 255, 3) := by decide +kernel
theorem dX5_bookToOrder_22 : decode cX5_bookToOrder 22 = .ok (.dup, 1) := by decide +kernel
theorem dX5_bookToOrder_23 : decode cX5_bookToOrder 23 = .ok (.ldc_w 277, 3) := by decide +kernel
theorem dX5_bookToOrder_26 : decode cX5_bookToOrder 26 = .ok (.invokespecial 259, 3) := by decide +kernel
theorem dX5_bookToOrder_29 : decode cX5_bookToOrder 29 = .ok (.athrow, 1) := by decide +kernel
theorem dX5_bookToOrder_30 : decode cX5_bookToOrder 30 = .ok (.aload_n 3, 1) := by decide +kernel
theorem dX5_bookToOrder_31 : decode cX5_bookToOrder 31 = .ok (.getfield 152, 3) := by decide +kernel
theorem dX5_bookToOrder_34 : decode cX5_bookToOrder 34 = .ok (.arraylength, 1) := by decide +kernel
theorem dX5_bookToOrder_35 : decode cX5_bookToOrder 35 = .ok (.bipush 7, 2) := by decide +kernel
theorem dX5_bookToOrder_37 : decode cX5_bookToOrder 37 = .ok (.if_icmp .le 14, 3) := by decide +kernel
theorem dX5_bookToOrder_40 : decode cX5_bookToOrder 40 = .ok (.new 61, 3) := by decide +kernel
theorem dX5_bookToOrder_43 : decode cX5_bookToOrder 43 = .ok (.dup, 1) := by decide +kernel
theorem dX5_bookToOrder_44 : decode cX5_bookToOrder 44 = .ok (.ldc_w 279, 3) := by decide +kernel
theorem dX5_bookToOrder_47 : decode cX5_bookToOrder 47 = .ok (.invokespecial 65, 3) := by decide +kernel
theorem dX5_bookToOrder_50 : decode cX5_bookToOrder 50 = .ok (.athrow, 1) := by decide +kernel
theorem dX5_bookToOrder_51 : decode cX5_bookToOrder 51 = .ok (.aload_n 3, 1) := by decide +kernel
theorem dX5_bookToOrder_52 : decode cX5_bookToOrder 52 = .ok (.areturn, 1) := by decide +kernel
theorem dX5_trustIn_0 : decode cX5_trustIn 0 = .ok (.iconst 0, 1) := by decide +kernel
theorem dX5_trustIn_1 : decode cX5_trustIn 1 = .ok (.istore_n 2, 1) := by decide +kernel
theorem dX5_trustIn_2 : decode cX5_trustIn 2 = .ok (.iconst 0, 1) := by decide +kernel
theorem dX5_trustIn_3 : decode cX5_trustIn 3 = .ok (.istore_n 3, 1) := by decide +kernel
theorem dX5_trustIn_4 : decode cX5_trustIn 4 = .ok (.aload_n 0, 1) := by decide +kernel
theorem dX5_trustIn_5 : decode cX5_trustIn 5 = .ok (.getfield 11, 3) := by decide +kernel
theorem dX5_trustIn_8 : decode cX5_trustIn 8 = .ok (.astore 4, 2) := by decide +kernel
theorem dX5_trustIn_10 : decode cX5_trustIn 10 = .ok (.aload 4, 2) := by decide +kernel
theorem dX5_trustIn_12 : decode cX5_trustIn 12 = .ok (.arraylength, 1) := by decide +kernel
theorem dX5_trustIn_13 : decode cX5_trustIn 13 = .ok (.istore 5, 2) := by decide +kernel
theorem dX5_trustIn_15 : decode cX5_trustIn 15 = .ok (.iconst 0, 1) := by decide +kernel
theorem dX5_trustIn_16 : decode cX5_trustIn 16 = .ok (.istore 6, 2) := by decide +kernel
theorem dX5_trustIn_18 : decode cX5_trustIn 18 = .ok (.iload 6, 2) := by decide +kernel
theorem dX5_trustIn_20 : decode cX5_trustIn 20 = .ok (.iload 5, 2) := by decide +kernel
theorem dX5_trustIn_22 : decode cX5_trustIn 22 = .ok (.if_icmp .ge 39, 3) := by decide +kernel
theorem dX5_trustIn_25 : decode cX5_trustIn 25 = .ok (.aload 4, 2) := by decide +kernel
theorem dX5_trustIn_27 : decode cX5_trustIn 27 = .ok (.iload 6, 2) := by decide +kernel
theorem dX5_trustIn_29 : decode cX5_trustIn 29 = .ok (.aaload, 1) := by decide +kernel
theorem dX5_trustIn_30 : decode cX5_trustIn 30 = .ok (.astore 7, 2) := by decide +kernel
theorem dX5_trustIn_32 : decode cX5_trustIn 32 = .ok (.aload 7, 2) := by decide +kernel
theorem dX5_trustIn_34 : decode cX5_trustIn 34 = .ok (.ifnull 21, 3) := by decide +kernel
theorem dX5_trustIn_37 : decode cX5_trustIn 37 = .ok (.iload_n 2, 1) := by decide +kernel
theorem dX5_trustIn_38 : decode cX5_trustIn 38 = .ok (.aload 7, 2) := by decide +kernel
theorem dX5_trustIn_40 : decode cX5_trustIn 40 = .ok (.iload_n 1, 1) := by decide +kernel
theorem dX5_trustIn_41 : decode cX5_trustIn 41 = .ok (.invokevirtual 281, 3) := by decide +kernel
theorem dX5_trustIn_44 : decode cX5_trustIn 44 = .ok (.iadd, 1) := by decide +kernel
theorem dX5_trustIn_45 : decode cX5_trustIn 45 = .ok (.istore_n 2, 1) := by decide +kernel
theorem dX5_trustIn_46 : decode cX5_trustIn 46 = .ok (.iload_n 3, 1) := by decide +kernel
theorem dX5_trustIn_47 : decode cX5_trustIn 47 = .ok (.aload 7, 2) := by decide +kernel
theorem dX5_trustIn_49 : decode cX5_trustIn 49 = .ok (.iload_n 1, 1) := by decide +kernel
theorem dX5_trustIn_50 : decode cX5_trustIn 50 = .ok (.invokevirtual 284, 3) := by decide +kernel
theorem dX5_trustIn_53 : decode cX5_trustIn 53 = .ok (.iadd, 1) := by decide +kernel
theorem dX5_trustIn_54 : decode cX5_trustIn 54 = .ok (.istore_n 3, 1) := by decide +kernel
theorem dX5_trustIn_55 : decode cX5_trustIn 55 = .ok (.iinc 6 1, 3) := by decide +kernel
theorem dX5_trustIn_58 : decode cX5_trustIn 58 = .ok (.goto (-40), 3) := by decide +kernel
theorem dX5_trustIn_61 : decode cX5_trustIn 61 = .ok (.iload_n 2, 1) := by decide +kernel
theorem dX5_trustIn_62 : decode cX5_trustIn 62 = .ok (.ifCond .ne 8, 3) := by decide +kernel
theorem dX5_trustIn_65 : decode cX5_trustIn 65 = .ok (.bipush 50, 2) := by decide +kernel
theorem dX5_trustIn_67 : decode cX5_trustIn 67 = .ok (.goto 9, 3) := by decide +kernel
theorem dX5_trustIn_70 : decode cX5_trustIn 70 = .ok (.bipush 100, 2) := by decide +kernel
theorem dX5_trustIn_72 : decode cX5_trustIn 72 = .ok (.iload_n 3, 1) := by decide +kernel
theorem dX5_trustIn_73 : decode cX5_trustIn 73 = .ok (.imul, 1) := by decide +kernel
theorem dX5_trustIn_74 : decode cX5_trustIn 74 = .ok (.iload_n 2, 1) := by decide +kernel
theorem dX5_trustIn_75 : decode cX5_trustIn 75 = .ok (.idiv, 1) := by decide +kernel
theorem dX5_trustIn_76 : decode cX5_trustIn 76 = .ok (.ireturn, 1) := by decide +kernel
theorem dX5_weighLetters_0 : decode cX5_weighLetters 0 = .ok (.aload_n 0, 1) := by decide +kernel
theorem dX5_weighLetters_1 : decode cX5_weighLetters 1 = .ok (.getfield 36, 3) := by decide +kernel
theorem dX5_weighLetters_4 : decode cX5_weighLetters 4 = .ok (.invokevirtual 287, 3) := by decide +kernel
theorem dX5_weighLetters_7 : decode cX5_weighLetters 7 = .ok (.iconst 0, 1) := by decide +kernel
theorem dX5_weighLetters_8 : decode cX5_weighLetters 8 = .ok (.istore_n 3, 1) := by decide +kernel
theorem dX5_weighLetters_9 : decode cX5_weighLetters 9 = .ok (.iload_n 3, 1) := by decide +kernel
theorem dX5_weighLetters_10 : decode cX5_weighLetters 10 = .ok (.iconst 5, 1) := by decide +kernel
theorem dX5_weighLetters_11 : decode cX5_weighLetters 11 = .ok (.if_icmp .ge 39, 3) := by decide +kernel
theorem dX5_weighLetters_14 : decode cX5_weighLetters 14 = .ok (.aload_n 1, 1) := by decide +kernel
theorem dX5_weighLetters_15 : decode cX5_weighLetters 15 = .ok (.getfield 206, 3) := by decide +kernel
theorem dX5_weighLetters_18 : decode cX5_weighLetters 18 = .ok (.iload_n 3, 1) := by decide +kernel
theorem dX5_weighLetters_19 : decode cX5_weighLetters 19 = .ok (.aaload, 1) := by decide +kernel
theorem dX5_weighLetters_20 : decode cX5_weighLetters 20 = .ok (.iload_n 2, 1) := by decide +kernel
theorem dX5_weighLetters_21 : decode cX5_weighLetters 21 = .ok (.iaload, 1) := by decide +kernel
theorem dX5_weighLetters_22 : decode cX5_weighLetters 22 = .ok (.istore 4, 2) := by decide +kernel
theorem dX5_weighLetters_24 : decode cX5_weighLetters 24 = .ok (.iload 4, 2) := by decide +kernel
theorem dX5_weighLetters_26 : decode cX5_weighLetters 26 = .ok (.iconst (-1), 1) := by decide +kernel
theorem dX5_weighLetters_27 : decode cX5_weighLetters 27 = .ok (.if_icmp .eq 17, 3) := by decide +kernel
theorem dX5_weighLetters_30 : decode cX5_weighLetters 30 = .ok (.aload_n 0, 1) := by decide +kernel
theorem dX5_weighLetters_31 : decode cX5_weighLetters 31 = .ok (.getfield 36, 3) := by decide +kernel
theorem dX5_weighLetters_34 : decode cX5_weighLetters 34 = .ok (.iload 4, 2) := by decide +kernel
theorem dX5_weighLetters_36 : decode cX5_weighLetters 36 = .ok (.aload_n 0, 1) := by decide +kernel
theorem dX5_weighLetters_37 : decode cX5_weighLetters 37 = .ok (.iload_n 3, 1) := by decide +kernel
theorem dX5_weighLetters_38 : decode cX5_weighLetters 38 = .ok (.invokevirtual 210, 3) := by decide +kernel
theorem dX5_weighLetters_41 : decode cX5_weighLetters 41 = .ok (.invokevirtual 290, 3) := by decide +kernel
theorem dX5_weighLetters_44 : decode cX5_weighLetters 44 = .ok (.iinc 3 1, 3) := by decide +kernel
theorem dX5_weighLetters_47 : decode cX5_weighLetters 47 = .ok (.goto (-38), 3) := by decide +kernel
theorem dX5_weighLetters_50 : decode cX5_weighLetters 50 = .ok (.return_, 1) := by decide +kernel
theorem dJ9_max_7cf53_0 : decode cJ9_max_7cf53 0 = .ok (.iload_n 0, 1) := by decide +kernel
theorem dJ9_max_7cf53_1 : decode cJ9_max_7cf53 1 = .ok (.iload_n 1, 1) := by decide +kernel
theorem dJ9_max_7cf53_2 : decode cJ9_max_7cf53 2 = .ok (.if_icmp .lt 7, 3) := by decide +kernel
theorem dJ9_max_7cf53_5 : decode cJ9_max_7cf53 5 = .ok (.iload_n 0, 1) := by decide +kernel
theorem dJ9_max_7cf53_6 : decode cJ9_max_7cf53 6 = .ok (.goto 4, 3) := by decide +kernel
theorem dJ9_max_7cf53_9 : decode cJ9_max_7cf53 9 = .ok (.iload_n 1, 1) := by decide +kernel
theorem dJ9_max_7cf53_10 : decode cJ9_max_7cf53 10 = .ok (.ireturn, 1) := by decide +kernel
theorem dJ7_fill_53178_0 : decode cJ7_fill_53178 0 = .ok (.iconst 0, 1) := by decide +kernel
theorem dJ7_fill_53178_1 : decode cJ7_fill_53178 1 = .ok (.istore_n 2, 1) := by decide +kernel
theorem dJ7_fill_53178_2 : decode cJ7_fill_53178 2 = .ok (.aload_n 0, 1) := by decide +kernel
theorem dJ7_fill_53178_3 : decode cJ7_fill_53178 3 = .ok (.arraylength, 1) := by decide +kernel
theorem dJ7_fill_53178_4 : decode cJ7_fill_53178 4 = .ok (.istore_n 3, 1) := by decide +kernel
theorem dJ7_fill_53178_5 : decode cJ7_fill_53178 5 = .ok (.iload_n 2, 1) := by decide +kernel
theorem dJ7_fill_53178_6 : decode cJ7_fill_53178 6 = .ok (.iload_n 3, 1) := by decide +kernel
theorem dJ7_fill_53178_7 : decode cJ7_fill_53178 7 = .ok (.if_icmp .ge 13, 3) := by decide +kernel
theorem dJ7_fill_53178_10 : decode cJ7_fill_53178 10 = .ok (.aload_n 0, 1) := by decide +kernel
theorem dJ7_fill_53178_11 : decode cJ7_fill_53178 11 = .ok (.iload_n 2, 1) := by decide +kernel
theorem dJ7_fill_53178_12 : decode cJ7_fill_53178 12 = .ok (.iload_n 1, 1) := by decide +kernel
theorem dJ7_fill_53178_13 : decode cJ7_fill_53178 13 = .ok (.iastore, 1) := by decide +kernel
theorem dJ7_fill_53178_14 : decode cJ7_fill_53178 14 = .ok (.iinc 2 1, 3) := by decide +kernel
theorem dJ7_fill_53178_17 : decode cJ7_fill_53178 17 = .ok (.goto (-12), 3) := by decide +kernel
theorem dJ7_fill_53178_20 : decode cJ7_fill_53178 20 = .ok (.return_, 1) := by decide +kernel
theorem dL_book_0 : decode cL_book 0 = .ok (.aload 6, 2) := by decide +kernel
theorem dL_book_2 : decode cL_book 2 = .ok (.iconst 0, 1) := by decide +kernel
theorem dL_book_3 : decode cL_book 3 = .ok (.aload_n 0, 1) := by decide +kernel
theorem dL_book_4 : decode cL_book 4 = .ok (.iload_n 1, 1) := by decide +kernel
theorem dL_book_5 : decode cL_book 5 = .ok (.iload_n 2, 1) := by decide +kernel
theorem dL_book_6 : decode cL_book 6 = .ok (.iload_n 3, 1) := by decide +kernel
theorem dL_book_7 : decode cL_book 7 = .ok (.iload 4, 2) := by decide +kernel
theorem dL_book_9 : decode cL_book 9 = .ok (.iload 5, 2) := by decide +kernel
theorem dL_book_11 : decode cL_book 11 = .ok (.invokevirtual 7, 3) := by decide +kernel
theorem dL_book_14 : decode cL_book 14 = .ok (.i2l, 1) := by decide +kernel
theorem dL_book_15 : decode cL_book 15 = .ok (.lastore, 1) := by decide +kernel
theorem dL_book_16 : decode cL_book 16 = .ok (.goto 11, 3) := by decide +kernel
theorem dL_book_19 : decode cL_book 19 = .ok (.astore 7, 2) := by decide +kernel
theorem dL_book_21 : decode cL_book 21 = .ok (.iconst 1, 1) := by decide +kernel
theorem dL_book_22 : decode cL_book 22 = .ok (.ireturn, 1) := by decide +kernel
theorem dL_book_23 : decode cL_book 23 = .ok (.astore 7, 2) := by decide +kernel
theorem dL_book_25 : decode cL_book 25 = .ok (.iconst 2, 1) := by decide +kernel
theorem dL_book_26 : decode cL_book 26 = .ok (.ireturn, 1) := by decide +kernel
theorem dL_book_27 : decode cL_book 27 = .ok (.iconst 0, 1) := by decide +kernel
theorem dL_book_28 : decode cL_book 28 = .ok (.ireturn, 1) := by decide +kernel
theorem dL_shot_0 : decode cL_shot 0 = .ok (.aload 6, 2) := by decide +kernel
theorem dL_shot_2 : decode cL_shot 2 = .ok (.iconst 0, 1) := by decide +kernel
theorem dL_shot_3 : decode cL_shot 3 = .ok (.aload_n 0, 1) := by decide +kernel
theorem dL_shot_4 : decode cL_shot 4 = .ok (.iload_n 1, 1) := by decide +kernel
theorem dL_shot_5 : decode cL_shot 5 = .ok (.iload_n 2, 1) := by decide +kernel
theorem dL_shot_6 : decode cL_shot 6 = .ok (.iload_n 3, 1) := by decide +kernel
theorem dL_shot_7 : decode cL_shot 7 = .ok (.lload 4, 2) := by decide +kernel
theorem dL_shot_9 : decode cL_shot 9 = .ok (.invokevirtual 17, 3) := by decide +kernel
theorem dL_shot_12 : decode cL_shot 12 = .ok (.i2l, 1) := by decide +kernel
theorem dL_shot_13 : decode cL_shot 13 = .ok (.lastore, 1) := by decide +kernel
theorem dL_shot_14 : decode cL_shot 14 = .ok (.goto 15, 3) := by decide +kernel
theorem dL_shot_17 : decode cL_shot 17 = .ok (.astore 7, 2) := by decide +kernel
theorem dL_shot_19 : decode cL_shot 19 = .ok (.iconst 1, 1) := by decide +kernel
theorem dL_shot_20 : decode cL_shot 20 = .ok (.ireturn, 1) := by decide +kernel
theorem dL_shot_21 : decode cL_shot 21 = .ok (.astore 7, 2) := by decide +kernel
theorem dL_shot_23 : decode cL_shot 23 = .ok (.iconst 2, 1) := by decide +kernel
theorem dL_shot_24 : decode cL_shot 24 = .ok (.ireturn, 1) := by decide +kernel
theorem dL_shot_25 : decode cL_shot 25 = .ok (.astore 7, 2) := by decide +kernel
theorem dL_shot_27 : decode cL_shot 27 = .ok (.iconst 3, 1) := by decide +kernel
theorem dL_shot_28 : decode cL_shot 28 = .ok (.ireturn, 1) := by decide +kernel
theorem dL_shot_29 : decode cL_shot 29 = .ok (.iconst 0, 1) := by decide +kernel
theorem dL_shot_30 : decode cL_shot 30 = .ok (.ireturn, 1) := by decide +kernel
theorem dL_look_0 : decode cL_look 0 = .ok (.aload_n 3, 1) := by decide +kernel
theorem dL_look_1 : decode cL_look 1 = .ok (.iconst 0, 1) := by decide +kernel
theorem dL_look_2 : decode cL_look 2 = .ok (.aload_n 0, 1) := by decide +kernel
theorem dL_look_3 : decode cL_look 3 = .ok (.iload_n 1, 1) := by decide +kernel
theorem dL_look_4 : decode cL_look 4 = .ok (.iload_n 2, 1) := by decide +kernel
theorem dL_look_5 : decode cL_look 5 = .ok (.invokevirtual 23, 3) := by decide +kernel
theorem dL_look_8 : decode cL_look 8 = .ok (.ifCond .eq 7, 3) := by decide +kernel
theorem dL_look_11 : decode cL_look 11 = .ok (.lconst 1, 1) := by decide +kernel
theorem dL_look_12 : decode cL_look 12 = .ok (.goto 4, 3) := by decide +kernel
theorem dL_look_15 : decode cL_look 15 = .ok (.lconst 0, 1) := by decide +kernel
theorem dL_look_16 : decode cL_look 16 = .ok (.lastore, 1) := by decide +kernel
theorem dL_look_17 : decode cL_look 17 = .ok (.goto 11, 3) := by decide +kernel
theorem dL_look_20 : decode cL_look 20 = .ok (.astore 4, 2) := by decide +kernel
theorem dL_look_22 : decode cL_look 22 = .ok (.iconst 1, 1) := by decide +kernel
theorem dL_look_23 : decode cL_look 23 = .ok (.ireturn, 1) := by decide +kernel
theorem dL_look_24 : decode cL_look 24 = .ok (.astore 4, 2) := by decide +kernel
theorem dL_look_26 : decode cL_look 26 = .ok (.iconst 2, 1) := by decide +kernel
theorem dL_look_27 : decode cL_look 27 = .ok (.ireturn, 1) := by decide +kernel
theorem dL_look_28 : decode cL_look 28 = .ok (.iconst 0, 1) := by decide +kernel
theorem dL_look_29 : decode cL_look 29 = .ok (.ireturn, 1) := by decide +kernel
theorem dL_rot_0 : decode cL_rot 0 = .ok (.aload 5, 2) := by decide +kernel
theorem dL_rot_2 : decode cL_rot 2 = .ok (.iconst 0, 1) := by decide +kernel
theorem dL_rot_3 : decode cL_rot 3 = .ok (.aload_n 0, 1) := by decide +kernel
theorem dL_rot_4 : decode cL_rot 4 = .ok (.iload_n 1, 1) := by decide +kernel
theorem dL_rot_5 : decode cL_rot 5 = .ok (.iload_n 2, 1) := by decide +kernel
theorem dL_rot_6 : decode cL_rot 6 = .ok (.iload_n 3, 1) := by decide +kernel
theorem dL_rot_7 : decode cL_rot 7 = .ok (.iload 4, 2) := by decide +kernel
theorem dL_rot_9 : decode cL_rot 9 = .ok (.invokevirtual 27, 3) := by decide +kernel
theorem dL_rot_12 : decode cL_rot 12 = .ok (.ifCond .eq 7, 3) := by decide +kernel
theorem dL_rot_15 : decode cL_rot 15 = .ok (.lconst 1, 1) := by decide +kernel
theorem dL_rot_16 : decode cL_rot 16 = .ok (.goto 4, 3) := by decide +kernel
theorem dL_rot_19 : decode cL_rot 19 = .ok (.lconst 0, 1) := by decide +kernel
theorem dL_rot_20 : decode cL_rot 20 = .ok (.lastore, 1) := by decide +kernel
theorem dL_rot_21 : decode cL_rot 21 = .ok (.goto 15, 3) := by decide +kernel
theorem dL_rot_24 : decode cL_rot 24 = .ok (.astore 6, 2) := by decide +kernel
theorem dL_rot_26 : decode cL_rot 26 = .ok (.iconst 1, 1) := by decide +kernel
theorem dL_rot_27 : decode cL_rot 27 = .ok (.ireturn, 1) := by decide +kernel
theorem dL_rot_28 : decode cL_rot 28 = .ok (.astore 6, 2) := by decide +kernel
theorem dL_rot_30 : decode cL_rot 30 = .ok (.iconst 2, 1) := by decide +kernel
theorem dL_rot_31 : decode cL_rot 31 = .ok (.ireturn, 1) := by decide +kernel
theorem dL_rot_32 : decode cL_rot 32 = .ok (.astore 6, 2) := by decide +kernel
theorem dL_rot_34 : decode cL_rot 34 = .ok (.iconst 3, 1) := by decide +kernel
theorem dL_rot_35 : decode cL_rot 35 = .ok (.ireturn, 1) := by decide +kernel
theorem dL_rot_36 : decode cL_rot 36 = .ok (.iconst 0, 1) := by decide +kernel
theorem dL_rot_37 : decode cL_rot 37 = .ok (.ireturn, 1) := by decide +kernel
theorem dL_burn_0 : decode cL_burn 0 = .ok (.aload_n 2, 1) := by decide +kernel
theorem dL_burn_1 : decode cL_burn 1 = .ok (.iconst 0, 1) := by decide +kernel
theorem dL_burn_2 : decode cL_burn 2 = .ok (.aload_n 0, 1) := by decide +kernel
theorem dL_burn_3 : decode cL_burn 3 = .ok (.iload_n 1, 1) := by decide +kernel
theorem dL_burn_4 : decode cL_burn 4 = .ok (.invokevirtual 31, 3) := by decide +kernel
theorem dL_burn_7 : decode cL_burn 7 = .ok (.i2l, 1) := by decide +kernel
theorem dL_burn_8 : decode cL_burn 8 = .ok (.lastore, 1) := by decide +kernel
theorem dL_burn_9 : decode cL_burn 9 = .ok (.goto 9, 3) := by decide +kernel
theorem dL_burn_12 : decode cL_burn 12 = .ok (.astore_n 3, 1) := by decide +kernel
theorem dL_burn_13 : decode cL_burn 13 = .ok (.iconst 1, 1) := by decide +kernel
theorem dL_burn_14 : decode cL_burn 14 = .ok (.ireturn, 1) := by decide +kernel
theorem dL_burn_15 : decode cL_burn 15 = .ok (.astore_n 3, 1) := by decide +kernel
theorem dL_burn_16 : decode cL_burn 16 = .ok (.iconst 2, 1) := by decide +kernel
theorem dL_burn_17 : decode cL_burn 17 = .ok (.ireturn, 1) := by decide +kernel
theorem dL_burn_18 : decode cL_burn 18 = .ok (.iconst 0, 1) := by decide +kernel
theorem dL_burn_19 : decode cL_burn 19 = .ok (.ireturn, 1) := by decide +kernel
theorem dL_build_0 : decode cL_build 0 = .ok (.aload_n 0, 1) := by decide +kernel
theorem dL_build_1 : decode cL_build 1 = .ok (.iload_n 1, 1) := by decide +kernel
theorem dL_build_2 : decode cL_build 2 = .ok (.invokevirtual 35, 3) := by decide +kernel
theorem dL_build_5 : decode cL_build 5 = .ok (.goto 9, 3) := by decide +kernel
theorem dL_build_8 : decode cL_build 8 = .ok (.astore_n 2, 1) := by decide +kernel
theorem dL_build_9 : decode cL_build 9 = .ok (.iconst 1, 1) := by decide +kernel
theorem dL_build_10 : decode cL_build 10 = .ok (.ireturn, 1) := by decide +kernel
theorem dL_build_11 : decode cL_build 11 = .ok (.astore_n 2, 1) := by decide +kernel
theorem dL_build_12 : decode cL_build 12 = .ok (.iconst 2, 1) := by decide +kernel
theorem dL_build_13 : decode cL_build 13 = .ok (.ireturn, 1) := by decide +kernel
theorem dL_build_14 : decode cL_build 14 = .ok (.iconst 0, 1) := by decide +kernel
theorem dL_build_15 : decode cL_build 15 = .ok (.ireturn, 1) := by decide +kernel
theorem dL_check_0 : decode cL_check 0 = .ok (.aload_n 3, 1) := by decide +kernel
theorem dL_check_1 : decode cL_check 1 = .ok (.iconst 0, 1) := by decide +kernel
theorem dL_check_2 : decode cL_check 2 = .ok (.aload_n 0, 1) := by decide +kernel
theorem dL_check_3 : decode cL_check 3 = .ok (.iload_n 1, 1) := by decide +kernel
theorem dL_check_4 : decode cL_check 4 = .ok (.iload_n 2, 1) := by decide +kernel
theorem dL_check_5 : decode cL_check 5 = .ok (.invokevirtual 39, 3) := by decide +kernel
theorem dL_check_8 : decode cL_check 8 = .ok (.i2l, 1) := by decide +kernel
theorem dL_check_9 : decode cL_check 9 = .ok (.lastore, 1) := by decide +kernel
theorem dL_check_10 : decode cL_check 10 = .ok (.goto 7, 3) := by decide +kernel
theorem dL_check_13 : decode cL_check 13 = .ok (.astore 4, 2) := by decide +kernel
theorem dL_check_15 : decode cL_check 15 = .ok (.iconst 1, 1) := by decide +kernel
theorem dL_check_16 : decode cL_check 16 = .ok (.ireturn, 1) := by decide +kernel
theorem dL_check_17 : decode cL_check 17 = .ok (.iconst 0, 1) := by decide +kernel
theorem dL_check_18 : decode cL_check 18 = .ok (.ireturn, 1) := by decide +kernel
theorem dL_mend_0 : decode cL_mend 0 = .ok (.aload_n 3, 1) := by decide +kernel
theorem dL_mend_1 : decode cL_mend 1 = .ok (.iconst 0, 1) := by decide +kernel
theorem dL_mend_2 : decode cL_mend 2 = .ok (.aload_n 0, 1) := by decide +kernel
theorem dL_mend_3 : decode cL_mend 3 = .ok (.iload_n 1, 1) := by decide +kernel
theorem dL_mend_4 : decode cL_mend 4 = .ok (.iload_n 2, 1) := by decide +kernel
theorem dL_mend_5 : decode cL_mend 5 = .ok (.invokevirtual 43, 3) := by decide +kernel
theorem dL_mend_8 : decode cL_mend 8 = .ok (.i2l, 1) := by decide +kernel
theorem dL_mend_9 : decode cL_mend 9 = .ok (.lastore, 1) := by decide +kernel
theorem dL_mend_10 : decode cL_mend 10 = .ok (.goto 11, 3) := by decide +kernel
theorem dL_mend_13 : decode cL_mend 13 = .ok (.astore 4, 2) := by decide +kernel
theorem dL_mend_15 : decode cL_mend 15 = .ok (.iconst 1, 1) := by decide +kernel
theorem dL_mend_16 : decode cL_mend 16 = .ok (.ireturn, 1) := by decide +kernel
theorem dL_mend_17 : decode cL_mend 17 = .ok (.astore 4, 2) := by decide +kernel
theorem dL_mend_19 : decode cL_mend 19 = .ok (.iconst 2, 1) := by decide +kernel
theorem dL_mend_20 : decode cL_mend 20 = .ok (.ireturn, 1) := by decide +kernel
theorem dL_mend_21 : decode cL_mend 21 = .ok (.iconst 0, 1) := by decide +kernel
theorem dL_mend_22 : decode cL_mend 22 = .ok (.ireturn, 1) := by decide +kernel
theorem dL_copy_0 : decode cL_copy 0 = .ok (.aload 4, 2) := by decide +kernel
theorem dL_copy_2 : decode cL_copy 2 = .ok (.iconst 0, 1) := by decide +kernel
theorem dL_copy_3 : decode cL_copy 3 = .ok (.aload_n 0, 1) := by decide +kernel
theorem dL_copy_4 : decode cL_copy 4 = .ok (.iload_n 1, 1) := by decide +kernel
theorem dL_copy_5 : decode cL_copy 5 = .ok (.iload_n 2, 1) := by decide +kernel
theorem dL_copy_6 : decode cL_copy 6 = .ok (.iload_n 3, 1) := by decide +kernel
theorem dL_copy_7 : decode cL_copy 7 = .ok (.invokevirtual 46, 3) := by decide +kernel
theorem dL_copy_10 : decode cL_copy 10 = .ok (.lastore, 1) := by decide +kernel
theorem dL_copy_11 : decode cL_copy 11 = .ok (.goto 11, 3) := by decide +kernel
theorem dL_copy_14 : decode cL_copy 14 = .ok (.astore 5, 2) := by decide +kernel
theorem dL_copy_16 : decode cL_copy 16 = .ok (.iconst 1, 1) := by decide +kernel
theorem dL_copy_17 : decode cL_copy 17 = .ok (.ireturn, 1) := by decide +kernel
theorem dL_copy_18 : decode cL_copy 18 = .ok (.astore 5, 2) := by decide +kernel
theorem dL_copy_20 : decode cL_copy 20 = .ok (.iconst 2, 1) := by decide +kernel
theorem dL_copy_21 : decode cL_copy 21 = .ok (.ireturn, 1) := by decide +kernel
theorem dL_copy_22 : decode cL_copy 22 = .ok (.iconst 0, 1) := by decide +kernel
theorem dL_copy_23 : decode cL_copy 23 = .ok (.ireturn, 1) := by decide +kernel
theorem dL_isLost_0 : decode cL_isLost 0 = .ok (.aload_n 3, 1) := by decide +kernel
theorem dL_isLost_1 : decode cL_isLost 1 = .ok (.iconst 0, 1) := by decide +kernel
theorem dL_isLost_2 : decode cL_isLost 2 = .ok (.aload_n 0, 1) := by decide +kernel
theorem dL_isLost_3 : decode cL_isLost 3 = .ok (.iload_n 1, 1) := by decide +kernel
theorem dL_isLost_4 : decode cL_isLost 4 = .ok (.iload_n 2, 1) := by decide +kernel
theorem dL_isLost_5 : decode cL_isLost 5 = .ok (.invokevirtual 50, 3) := by decide +kernel
theorem dL_isLost_8 : decode cL_isLost 8 = .ok (.ifCond .eq 7, 3) := by decide +kernel
theorem dL_isLost_11 : decode cL_isLost 11 = .ok (.lconst 1, 1) := by decide +kernel
theorem dL_isLost_12 : decode cL_isLost 12 = .ok (.goto 4, 3) := by decide +kernel
theorem dL_isLost_15 : decode cL_isLost 15 = .ok (.lconst 0, 1) := by decide +kernel
theorem dL_isLost_16 : decode cL_isLost 16 = .ok (.lastore, 1) := by decide +kernel
theorem dL_isLost_17 : decode cL_isLost 17 = .ok (.goto 7, 3) := by decide +kernel
theorem dL_isLost_20 : decode cL_isLost 20 = .ok (.astore 4, 2) := by decide +kernel
theorem dL_isLost_22 : decode cL_isLost 22 = .ok (.iconst 1, 1) := by decide +kernel
theorem dL_isLost_23 : decode cL_isLost 23 = .ok (.ireturn, 1) := by decide +kernel
theorem dL_isLost_24 : decode cL_isLost 24 = .ok (.iconst 0, 1) := by decide +kernel
theorem dL_isLost_25 : decode cL_isLost 25 = .ok (.ireturn, 1) := by decide +kernel
theorem dL_words_0 : decode cL_words 0 = .ok (.aload_n 0, 1) := by decide +kernel
theorem dL_words_1 : decode cL_words 1 = .ok (.iload_n 1, 1) := by decide +kernel
theorem dL_words_2 : decode cL_words 2 = .ok (.iload_n 2, 1) := by decide +kernel
theorem dL_words_3 : decode cL_words 3 = .ok (.iload_n 3, 1) := by decide +kernel
theorem dL_words_4 : decode cL_words 4 = .ok (.iload 4, 2) := by decide +kernel
theorem dL_words_6 : decode cL_words 6 = .ok (.invokevirtual 53, 3) := by decide +kernel
theorem dL_words_9 : decode cL_words 9 = .ok (.goto 11, 3) := by decide +kernel
theorem dL_words_12 : decode cL_words 12 = .ok (.astore 5, 2) := by decide +kernel
theorem dL_words_14 : decode cL_words 14 = .ok (.iconst 1, 1) := by decide +kernel
theorem dL_words_15 : decode cL_words 15 = .ok (.ireturn, 1) := by decide +kernel
theorem dL_words_16 : decode cL_words 16 = .ok (.astore 5, 2) := by decide +kernel
theorem dL_words_18 : decode cL_words 18 = .ok (.iconst 2, 1) := by decide +kernel
theorem dL_words_19 : decode cL_words 19 = .ok (.ireturn, 1) := by decide +kernel
theorem dL_words_20 : decode cL_words 20 = .ok (.iconst 0, 1) := by decide +kernel
theorem dL_words_21 : decode cL_words 21 = .ok (.ireturn, 1) := by decide +kernel
theorem dL_order_0 : decode cL_order 0 = .ok (.aload_n 3, 1) := by decide +kernel
theorem dL_order_1 : decode cL_order 1 = .ok (.iconst 0, 1) := by decide +kernel
theorem dL_order_2 : decode cL_order 2 = .ok (.aload_n 0, 1) := by decide +kernel
theorem dL_order_3 : decode cL_order 3 = .ok (.iload_n 1, 1) := by decide +kernel
theorem dL_order_4 : decode cL_order 4 = .ok (.iload_n 2, 1) := by decide +kernel
theorem dL_order_5 : decode cL_order 5 = .ok (.invokevirtual 57, 3) := by decide +kernel
theorem dL_order_8 : decode cL_order 8 = .ok (.i2l, 1) := by decide +kernel
theorem dL_order_9 : decode cL_order 9 = .ok (.lastore, 1) := by decide +kernel
theorem dL_order_10 : decode cL_order 10 = .ok (.goto 11, 3) := by decide +kernel
theorem dL_order_13 : decode cL_order 13 = .ok (.astore 4, 2) := by decide +kernel
theorem dL_order_15 : decode cL_order 15 = .ok (.iconst 1, 1) := by decide +kernel
theorem dL_order_16 : decode cL_order 16 = .ok (.ireturn, 1) := by decide +kernel
theorem dL_order_17 : decode cL_order 17 = .ok (.astore 4, 2) := by decide +kernel
theorem dL_order_19 : decode cL_order 19 = .ok (.iconst 2, 1) := by decide +kernel
theorem dL_order_20 : decode cL_order 20 = .ok (.ireturn, 1) := by decide +kernel
theorem dL_order_21 : decode cL_order 21 = .ok (.iconst 0, 1) := by decide +kernel
theorem dL_order_22 : decode cL_order 22 = .ok (.ireturn, 1) := by decide +kernel
theorem dL_orderAnew_0 : decode cL_orderAnew 0 = .ok (.aload_n 3, 1) := by decide +kernel
theorem dL_orderAnew_1 : decode cL_orderAnew 1 = .ok (.iconst 0, 1) := by decide +kernel
theorem dL_orderAnew_2 : decode cL_orderAnew 2 = .ok (.aload_n 0, 1) := by decide +kernel
theorem dL_orderAnew_3 : decode cL_orderAnew 3 = .ok (.iload_n 1, 1) := by decide +kernel
theorem dL_orderAnew_4 : decode cL_orderAnew 4 = .ok (.iload_n 2, 1) := by decide +kernel
theorem dL_orderAnew_5 : decode cL_orderAnew 5 = .ok (.invokevirtual 60, 3) := by decide +kernel
theorem dL_orderAnew_8 : decode cL_orderAnew 8 = .ok (.i2l, 1) := by decide +kernel
theorem dL_orderAnew_9 : decode cL_orderAnew 9 = .ok (.lastore, 1) := by decide +kernel
theorem dL_orderAnew_10 : decode cL_orderAnew 10 = .ok (.goto 11, 3) := by decide +kernel
theorem dL_orderAnew_13 : decode cL_orderAnew 13 = .ok (.astore 4, 2) := by decide +kernel
theorem dL_orderAnew_15 : decode cL_orderAnew 15 = .ok (.iconst 1, 1) := by decide +kernel
theorem dL_orderAnew_16 : decode cL_orderAnew 16 = .ok (.ireturn, 1) := by decide +kernel
theorem dL_orderAnew_17 : decode cL_orderAnew 17 = .ok (.astore 4, 2) := by decide +kernel
theorem dL_orderAnew_19 : decode cL_orderAnew 19 = .ok (.iconst 2, 1) := by decide +kernel
theorem dL_orderAnew_20 : decode cL_orderAnew 20 = .ok (.ireturn, 1) := by decide +kernel
theorem dL_orderAnew_21 : decode cL_orderAnew 21 = .ok (.iconst 0, 1) := by decide +kernel
theorem dL_orderAnew_22 : decode cL_orderAnew 22 = .ok (.ireturn, 1) := by decide +kernel
theorem dL_gold_0 : decode cL_gold 0 = .ok (.aload 5, 2) := by decide +kernel
theorem dL_gold_2 : decode cL_gold 2 = .ok (.iconst 0, 1) := by decide +kernel
theorem dL_gold_3 : decode cL_gold 3 = .ok (.aload_n 0, 1) := by decide +kernel
theorem dL_gold_4 : decode cL_gold 4 = .ok (.iload_n 1, 1) := by decide +kernel
theorem dL_gold_5 : decode cL_gold 5 = .ok (.iload_n 2, 1) := by decide +kernel
theorem dL_gold_6 : decode cL_gold 6 = .ok (.iload_n 3, 1) := by decide +kernel
theorem dL_gold_7 : decode cL_gold 7 = .ok (.iload 4, 2) := by decide +kernel
theorem dL_gold_9 : decode cL_gold 9 = .ok (.invokevirtual 63, 3) := by decide +kernel
theorem dL_gold_12 : decode cL_gold 12 = .ok (.i2l, 1) := by decide +kernel
theorem dL_gold_13 : decode cL_gold 13 = .ok (.lastore, 1) := by decide +kernel
theorem dL_gold_14 : decode cL_gold 14 = .ok (.goto 11, 3) := by decide +kernel
theorem dL_gold_17 : decode cL_gold 17 = .ok (.astore 6, 2) := by decide +kernel
theorem dL_gold_19 : decode cL_gold 19 = .ok (.iconst 1, 1) := by decide +kernel
theorem dL_gold_20 : decode cL_gold 20 = .ok (.ireturn, 1) := by decide +kernel
theorem dL_gold_21 : decode cL_gold 21 = .ok (.astore 6, 2) := by decide +kernel
theorem dL_gold_23 : decode cL_gold 23 = .ok (.iconst 2, 1) := by decide +kernel
theorem dL_gold_24 : decode cL_gold 24 = .ok (.ireturn, 1) := by decide +kernel
theorem dL_gold_25 : decode cL_gold 25 = .ok (.iconst 0, 1) := by decide +kernel
theorem dL_gold_26 : decode cL_gold 26 = .ok (.ireturn, 1) := by decide +kernel
theorem dL_key_0 : decode cL_key 0 = .ok (.aload 6, 2) := by decide +kernel
theorem dL_key_2 : decode cL_key 2 = .ok (.iconst 0, 1) := by decide +kernel
theorem dL_key_3 : decode cL_key 3 = .ok (.aload_n 0, 1) := by decide +kernel
theorem dL_key_4 : decode cL_key 4 = .ok (.iload_n 1, 1) := by decide +kernel
theorem dL_key_5 : decode cL_key 5 = .ok (.iload_n 2, 1) := by decide +kernel
theorem dL_key_6 : decode cL_key 6 = .ok (.iload_n 3, 1) := by decide +kernel
theorem dL_key_7 : decode cL_key 7 = .ok (.iload 4, 2) := by decide +kernel
theorem dL_key_9 : decode cL_key 9 = .ok (.iload 5, 2) := by decide +kernel
theorem dL_key_11 : decode cL_key 11 = .ok (.invokevirtual 67, 3) := by decide +kernel
theorem dL_key_14 : decode cL_key 14 = .ok (.i2l, 1) := by decide +kernel
theorem dL_key_15 : decode cL_key 15 = .ok (.lastore, 1) := by decide +kernel
theorem dL_key_16 : decode cL_key 16 = .ok (.goto 11, 3) := by decide +kernel
theorem dL_key_19 : decode cL_key 19 = .ok (.astore 7, 2) := by decide +kernel
theorem dL_key_21 : decode cL_key 21 = .ok (.iconst 1, 1) := by decide +kernel
theorem dL_key_22 : decode cL_key 22 = .ok (.ireturn, 1) := by decide +kernel
theorem dL_key_23 : decode cL_key 23 = .ok (.astore 7, 2) := by decide +kernel
theorem dL_key_25 : decode cL_key 25 = .ok (.iconst 2, 1) := by decide +kernel
theorem dL_key_26 : decode cL_key 26 = .ok (.ireturn, 1) := by decide +kernel
theorem dL_key_27 : decode cL_key 27 = .ok (.iconst 0, 1) := by decide +kernel
theorem dL_key_28 : decode cL_key 28 = .ok (.ireturn, 1) := by decide +kernel
theorem dL_trust_0 : decode cL_trust 0 = .ok (.aload_n 2, 1) := by decide +kernel
theorem dL_trust_1 : decode cL_trust 1 = .ok (.iconst 0, 1) := by decide +kernel
theorem dL_trust_2 : decode cL_trust 2 = .ok (.aload_n 0, 1) := by decide +kernel
theorem dL_trust_3 : decode cL_trust 3 = .ok (.iload_n 1, 1) := by decide +kernel
theorem dL_trust_4 : decode cL_trust 4 = .ok (.invokevirtual 70, 3) := by decide +kernel
theorem dL_trust_7 : decode cL_trust 7 = .ok (.i2l, 1) := by decide +kernel
theorem dL_trust_8 : decode cL_trust 8 = .ok (.lastore, 1) := by decide +kernel
theorem dL_trust_9 : decode cL_trust 9 = .ok (.goto 6, 3) := by decide +kernel
theorem dL_trust_12 : decode cL_trust 12 = .ok (.astore_n 3, 1) := by decide +kernel
theorem dL_trust_13 : decode cL_trust 13 = .ok (.iconst 1, 1) := by decide +kernel
theorem dL_trust_14 : decode cL_trust 14 = .ok (.ireturn, 1) := by decide +kernel
theorem dL_trust_15 : decode cL_trust 15 = .ok (.iconst 0, 1) := by decide +kernel
theorem dL_trust_16 : decode cL_trust 16 = .ok (.ireturn, 1) := by decide +kernel
theorem dL_pay_0 : decode cL_pay 0 = .ok (.aload_n 2, 1) := by decide +kernel
theorem dL_pay_1 : decode cL_pay 1 = .ok (.iconst 0, 1) := by decide +kernel
theorem dL_pay_2 : decode cL_pay 2 = .ok (.aload_n 0, 1) := by decide +kernel
theorem dL_pay_3 : decode cL_pay 3 = .ok (.iload_n 1, 1) := by decide +kernel
theorem dL_pay_4 : decode cL_pay 4 = .ok (.invokevirtual 73, 3) := by decide +kernel
theorem dL_pay_7 : decode cL_pay 7 = .ok (.i2l, 1) := by decide +kernel
theorem dL_pay_8 : decode cL_pay 8 = .ok (.lastore, 1) := by decide +kernel
theorem dL_pay_9 : decode cL_pay 9 = .ok (.goto 6, 3) := by decide +kernel
theorem dL_pay_12 : decode cL_pay 12 = .ok (.astore_n 3, 1) := by decide +kernel
theorem dL_pay_13 : decode cL_pay 13 = .ok (.iconst 1, 1) := by decide +kernel
theorem dL_pay_14 : decode cL_pay 14 = .ok (.ireturn, 1) := by decide +kernel
theorem dL_pay_15 : decode cL_pay 15 = .ok (.iconst 0, 1) := by decide +kernel
theorem dL_pay_16 : decode cL_pay 16 = .ok (.ireturn, 1) := by decide +kernel
theorem dL_read_0 : decode cL_read 0 = .ok (.aload 4, 2) := by decide +kernel
theorem dL_read_2 : decode cL_read 2 = .ok (.iconst 0, 1) := by decide +kernel
theorem dL_read_3 : decode cL_read 3 = .ok (.aload_n 0, 1) := by decide +kernel
theorem dL_read_4 : decode cL_read 4 = .ok (.iload_n 1, 1) := by decide +kernel
theorem dL_read_5 : decode cL_read 5 = .ok (.iload_n 2, 1) := by decide +kernel
theorem dL_read_6 : decode cL_read 6 = .ok (.iload_n 3, 1) := by decide +kernel
theorem dL_read_7 : decode cL_read 7 = .ok (.invokevirtual 76, 3) := by decide +kernel
theorem dL_read_10 : decode cL_read 10 = .ok (.i2l, 1) := by decide +kernel
theorem dL_read_11 : decode cL_read 11 = .ok (.lastore, 1) := by decide +kernel
theorem dL_read_12 : decode cL_read 12 = .ok (.goto 7, 3) := by decide +kernel
theorem dL_read_15 : decode cL_read 15 = .ok (.astore 5, 2) := by decide +kernel
theorem dL_read_17 : decode cL_read 17 = .ok (.iconst 1, 1) := by decide +kernel
theorem dL_read_18 : decode cL_read 18 = .ok (.ireturn, 1) := by decide +kernel
theorem dL_read_19 : decode cL_read 19 = .ok (.iconst 0, 1) := by decide +kernel
theorem dL_read_20 : decode cL_read 20 = .ok (.ireturn, 1) := by decide +kernel
theorem dL_doubt_0 : decode cL_doubt 0 = .ok (.aload 4, 2) := by decide +kernel
theorem dL_doubt_2 : decode cL_doubt 2 = .ok (.iconst 0, 1) := by decide +kernel
theorem dL_doubt_3 : decode cL_doubt 3 = .ok (.aload_n 0, 1) := by decide +kernel
theorem dL_doubt_4 : decode cL_doubt 4 = .ok (.iload_n 1, 1) := by decide +kernel
theorem dL_doubt_5 : decode cL_doubt 5 = .ok (.iload_n 2, 1) := by decide +kernel
theorem dL_doubt_6 : decode cL_doubt 6 = .ok (.iload_n 3, 1) := by decide +kernel
theorem dL_doubt_7 : decode cL_doubt 7 = .ok (.invokevirtual 80, 3) := by decide +kernel
theorem dL_doubt_10 : decode cL_doubt 10 = .ok (.i2l, 1) := by decide +kernel
theorem dL_doubt_11 : decode cL_doubt 11 = .ok (.lastore, 1) := by decide +kernel
theorem dL_doubt_12 : decode cL_doubt 12 = .ok (.goto 7, 3) := by decide +kernel
theorem dL_doubt_15 : decode cL_doubt 15 = .ok (.astore 5, 2) := by decide +kernel
theorem dL_doubt_17 : decode cL_doubt 17 = .ok (.iconst 1, 1) := by decide +kernel
theorem dL_doubt_18 : decode cL_doubt 18 = .ok (.ireturn, 1) := by decide +kernel
theorem dL_doubt_19 : decode cL_doubt 19 = .ok (.iconst 0, 1) := by decide +kernel
theorem dL_doubt_20 : decode cL_doubt 20 = .ok (.ireturn, 1) := by decide +kernel
theorem dL_pass_0 : decode cL_pass 0 = .ok (.aload_n 2, 1) := by decide +kernel
theorem dL_pass_1 : decode cL_pass 1 = .ok (.iconst 0, 1) := by decide +kernel
theorem dL_pass_2 : decode cL_pass 2 = .ok (.aload_n 0, 1) := by decide +kernel
theorem dL_pass_3 : decode cL_pass 3 = .ok (.iload_n 1, 1) := by decide +kernel
theorem dL_pass_4 : decode cL_pass 4 = .ok (.invokevirtual 83, 3) := by decide +kernel
theorem dL_pass_7 : decode cL_pass 7 = .ok (.i2l, 1) := by decide +kernel
theorem dL_pass_8 : decode cL_pass 8 = .ok (.lastore, 1) := by decide +kernel
theorem dL_pass_9 : decode cL_pass 9 = .ok (.goto 9, 3) := by decide +kernel
theorem dL_pass_12 : decode cL_pass 12 = .ok (.astore_n 3, 1) := by decide +kernel
theorem dL_pass_13 : decode cL_pass 13 = .ok (.iconst 1, 1) := by decide +kernel
theorem dL_pass_14 : decode cL_pass 14 = .ok (.ireturn, 1) := by decide +kernel
theorem dL_pass_15 : decode cL_pass 15 = .ok (.astore_n 3, 1) := by decide +kernel
theorem dL_pass_16 : decode cL_pass 16 = .ok (.iconst 2, 1) := by decide +kernel
theorem dL_pass_17 : decode cL_pass 17 = .ok (.ireturn, 1) := by decide +kernel
theorem dL_pass_18 : decode cL_pass 18 = .ok (.iconst 0, 1) := by decide +kernel
theorem dL_pass_19 : decode cL_pass 19 = .ok (.ireturn, 1) := by decide +kernel
theorem dL_term_0 : decode cL_term 0 = .ok (.aload_n 3, 1) := by decide +kernel
theorem dL_term_1 : decode cL_term 1 = .ok (.iconst 0, 1) := by decide +kernel
theorem dL_term_2 : decode cL_term 2 = .ok (.aload_n 0, 1) := by decide +kernel
theorem dL_term_3 : decode cL_term 3 = .ok (.iload_n 1, 1) := by decide +kernel
theorem dL_term_4 : decode cL_term 4 = .ok (.iload_n 2, 1) := by decide +kernel
theorem dL_term_5 : decode cL_term 5 = .ok (.invokevirtual 86, 3) := by decide +kernel
theorem dL_term_8 : decode cL_term 8 = .ok (.i2l, 1) := by decide +kernel
theorem dL_term_9 : decode cL_term 9 = .ok (.lastore, 1) := by decide +kernel
theorem dL_term_10 : decode cL_term 10 = .ok (.goto 11, 3) := by decide +kernel
theorem dL_term_13 : decode cL_term 13 = .ok (.astore 4, 2) := by decide +kernel
theorem dL_term_15 : decode cL_term 15 = .ok (.iconst 1, 1) := by decide +kernel
theorem dL_term_16 : decode cL_term 16 = .ok (.ireturn, 1) := by decide +kernel
theorem dL_term_17 : decode cL_term 17 = .ok (.astore 4, 2) := by decide +kernel
theorem dL_term_19 : decode cL_term 19 = .ok (.iconst 2, 1) := by decide +kernel
theorem dL_term_20 : decode cL_term 20 = .ok (.ireturn, 1) := by decide +kernel
theorem dL_term_21 : decode cL_term 21 = .ok (.iconst 0, 1) := by decide +kernel
theorem dL_term_22 : decode cL_term 22 = .ok (.ireturn, 1) := by decide +kernel
theorem dL_died_0 : decode cL_died 0 = .ok (.aload_n 0, 1) := by decide +kernel
theorem dL_died_1 : decode cL_died 1 = .ok (.iload_n 1, 1) := by decide +kernel
theorem dL_died_2 : decode cL_died 2 = .ok (.iload_n 2, 1) := by decide +kernel
theorem dL_died_3 : decode cL_died 3 = .ok (.invokevirtual 89, 3) := by decide +kernel
theorem dL_died_6 : decode cL_died 6 = .ok (.goto 12, 3) := by decide +kernel
theorem dL_died_9 : decode cL_died 9 = .ok (.astore_n 3, 1) := by decide +kernel
theorem dL_died_10 : decode cL_died 10 = .ok (.iconst 1, 1) := by decide +kernel
theorem dL_died_11 : decode cL_died 11 = .ok (.ireturn, 1) := by decide +kernel
theorem dL_died_12 : decode cL_died 12 = .ok (.astore_n 3, 1) := by decide +kernel
theorem dL_died_13 : decode cL_died 13 = .ok (.iconst 2, 1) := by decide +kernel
theorem dL_died_14 : decode cL_died 14 = .ok (.ireturn, 1) := by decide +kernel
theorem dL_died_15 : decode cL_died 15 = .ok (.astore_n 3, 1) := by decide +kernel
theorem dL_died_16 : decode cL_died 16 = .ok (.iconst 3, 1) := by decide +kernel
theorem dL_died_17 : decode cL_died 17 = .ok (.ireturn, 1) := by decide +kernel
theorem dL_died_18 : decode cL_died 18 = .ok (.iconst 0, 1) := by decide +kernel
theorem dL_died_19 : decode cL_died 19 = .ok (.ireturn, 1) := by decide +kernel
theorem dL_search_0 : decode cL_search 0 = .ok (.aload_n 2, 1) := by decide +kernel
theorem dL_search_1 : decode cL_search 1 = .ok (.iconst 0, 1) := by decide +kernel
theorem dL_search_2 : decode cL_search 2 = .ok (.aload_n 0, 1) := by decide +kernel
theorem dL_search_3 : decode cL_search 3 = .ok (.iload_n 1, 1) := by decide +kernel
theorem dL_search_4 : decode cL_search 4 = .ok (.invokevirtual 93, 3) := by decide +kernel
theorem dL_search_7 : decode cL_search 7 = .ok (.ifCond .eq 7, 3) := by decide +kernel
theorem dL_search_10 : decode cL_search 10 = .ok (.lconst 1, 1) := by decide +kernel
theorem dL_search_11 : decode cL_search 11 = .ok (.goto 4, 3) := by decide +kernel
theorem dL_search_14 : decode cL_search 14 = .ok (.lconst 0, 1) := by decide +kernel
theorem dL_search_15 : decode cL_search 15 = .ok (.lastore, 1) := by decide +kernel
theorem dL_search_16 : decode cL_search 16 = .ok (.goto 6, 3) := by decide +kernel
theorem dL_search_19 : decode cL_search 19 = .ok (.astore_n 3, 1) := by decide +kernel
theorem dL_search_20 : decode cL_search 20 = .ok (.iconst 1, 1) := by decide +kernel
theorem dL_search_21 : decode cL_search 21 = .ok (.ireturn, 1) := by decide +kernel
theorem dL_search_22 : decode cL_search 22 = .ok (.iconst 0, 1) := by decide +kernel
theorem dL_search_23 : decode cL_search 23 = .ok (.ireturn, 1) := by decide +kernel
theorem dL_takeDown_0 : decode cL_takeDown 0 = .ok (.aload_n 3, 1) := by decide +kernel
theorem dL_takeDown_1 : decode cL_takeDown 1 = .ok (.iconst 0, 1) := by decide +kernel
theorem dL_takeDown_2 : decode cL_takeDown 2 = .ok (.aload_n 0, 1) := by decide +kernel
theorem dL_takeDown_3 : decode cL_takeDown 3 = .ok (.iload_n 1, 1) := by decide +kernel
theorem dL_takeDown_4 : decode cL_takeDown 4 = .ok (.iload_n 2, 1) := by decide +kernel
theorem dL_takeDown_5 : decode cL_takeDown 5 = .ok (.invokevirtual 97, 3) := by decide +kernel
theorem dL_takeDown_8 : decode cL_takeDown 8 = .ok (.ifCond .eq 7, 3) := by decide +kernel
theorem dL_takeDown_11 : decode cL_takeDown 11 = .ok (.lconst 1, 1) := by decide +kernel
theorem dL_takeDown_12 : decode cL_takeDown 12 = .ok (.goto 4, 3) := by decide +kernel
theorem dL_takeDown_15 : decode cL_takeDown 15 = .ok (.lconst 0, 1) := by decide +kernel
theorem dL_takeDown_16 : decode cL_takeDown 16 = .ok (.lastore, 1) := by decide +kernel
theorem dL_takeDown_17 : decode cL_takeDown 17 = .ok (.goto 7, 3) := by decide +kernel
theorem dL_takeDown_20 : decode cL_takeDown 20 = .ok (.astore 4, 2) := by decide +kernel
theorem dL_takeDown_22 : decode cL_takeDown 22 = .ok (.iconst 1, 1) := by decide +kernel
theorem dL_takeDown_23 : decode cL_takeDown 23 = .ok (.ireturn, 1) := by decide +kernel
theorem dL_takeDown_24 : decode cL_takeDown 24 = .ok (.iconst 0, 1) := by decide +kernel
theorem dL_takeDown_25 : decode cL_takeDown 25 = .ok (.ireturn, 1) := by decide +kernel
theorem dL_whyNot_0 : decode cL_whyNot 0 = .ok (.aload 4, 2) := by decide +kernel
theorem dL_whyNot_2 : decode cL_whyNot 2 = .ok (.iconst 0, 1) := by decide +kernel
theorem dL_whyNot_3 : decode cL_whyNot 3 = .ok (.aload_n 0, 1) := by decide +kernel
theorem dL_whyNot_4 : decode cL_whyNot 4 = .ok (.iload_n 1, 1) := by decide +kernel
theorem dL_whyNot_5 : decode cL_whyNot 5 = .ok (.iload_n 2, 1) := by decide +kernel
theorem dL_whyNot_6 : decode cL_whyNot 6 = .ok (.iload_n 3, 1) := by decide +kernel
theorem dL_whyNot_7 : decode cL_whyNot 7 = .ok (.invokevirtual 101, 3) := by decide +kernel
theorem dL_whyNot_10 : decode cL_whyNot 10 = .ok (.i2l, 1) := by decide +kernel
theorem dL_whyNot_11 : decode cL_whyNot 11 = .ok (.lastore, 1) := by decide +kernel
theorem dL_whyNot_12 : decode cL_whyNot 12 = .ok (.goto 7, 3) := by decide +kernel
theorem dL_whyNot_15 : decode cL_whyNot 15 = .ok (.astore 5, 2) := by decide +kernel
theorem dL_whyNot_17 : decode cL_whyNot 17 = .ok (.iconst 1, 1) := by decide +kernel
theorem dL_whyNot_18 : decode cL_whyNot 18 = .ok (.ireturn, 1) := by decide +kernel
theorem dL_whyNot_19 : decode cL_whyNot 19 = .ok (.iconst 0, 1) := by decide +kernel
theorem dL_whyNot_20 : decode cL_whyNot 20 = .ok (.ireturn, 1) := by decide +kernel
theorem dL_about_0 : decode cL_about 0 = .ok (.aload_n 3, 1) := by decide +kernel
theorem dL_about_1 : decode cL_about 1 = .ok (.iconst 0, 1) := by decide +kernel
theorem dL_about_2 : decode cL_about 2 = .ok (.aload_n 0, 1) := by decide +kernel
theorem dL_about_3 : decode cL_about 3 = .ok (.iload_n 1, 1) := by decide +kernel
theorem dL_about_4 : decode cL_about 4 = .ok (.iload_n 2, 1) := by decide +kernel
theorem dL_about_5 : decode cL_about 5 = .ok (.invokevirtual 104, 3) := by decide +kernel
theorem dL_about_8 : decode cL_about 8 = .ok (.i2l, 1) := by decide +kernel
theorem dL_about_9 : decode cL_about 9 = .ok (.lastore, 1) := by decide +kernel
theorem dL_about_10 : decode cL_about 10 = .ok (.goto 11, 3) := by decide +kernel
theorem dL_about_13 : decode cL_about 13 = .ok (.astore 4, 2) := by decide +kernel
theorem dL_about_15 : decode cL_about 15 = .ok (.iconst 1, 1) := by decide +kernel
theorem dL_about_16 : decode cL_about 16 = .ok (.ireturn, 1) := by decide +kernel
theorem dL_about_17 : decode cL_about 17 = .ok (.astore 4, 2) := by decide +kernel
theorem dL_about_19 : decode cL_about 19 = .ok (.iconst 2, 1) := by decide +kernel
theorem dL_about_20 : decode cL_about 20 = .ok (.ireturn, 1) := by decide +kernel
theorem dL_about_21 : decode cL_about 21 = .ok (.iconst 0, 1) := by decide +kernel
theorem dL_about_22 : decode cL_about 22 = .ok (.ireturn, 1) := by decide +kernel
end
section
theorem dX6_init_0 : decode cX6_init 0 = .ok (.aload_n 0, 1) := by decide +kernel
theorem dX6_init_1 : decode cX6_init 1 = .ok (.invokespecial 1, 3) := by decide +kernel
theorem dX6_init_4 : decode cX6_init 4 = .ok (.aload_n 0, 1) := by decide +kernel
theorem dX6_init_5 : decode cX6_init 5 = .ok (.bipush 6, 2) := by decide +kernel
theorem dX6_init_7 : decode cX6_init 7 = .ok (.newarray .int, 2) := by decide +kernel
theorem dX6_init_9 : decode cX6_init 9 = .ok (.putfield 7, 3) := by decide +kernel
theorem dX6_init_12 : decode cX6_init 12 = .ok (.aload_n 0, 1) := by decide +kernel
theorem dX6_init_13 : decode cX6_init 13 = .ok (.bipush 6, 2) := by decide +kernel
theorem dX6_init_15 : decode cX6_init 15 = .ok (.newarray .int, 2) := by decide +kernel
theorem dX6_init_17 : decode cX6_init 17 = .ok (.putfield 13, 3) := by decide +kernel
theorem dX6_init_20 : decode cX6_init 20 = .ok (.aload_n 0, 1) := by decide +kernel
theorem dX6_init_21 : decode cX6_init 21 = .ok (.bipush 6, 2) := by decide +kernel
theorem dX6_init_23 : decode cX6_init 23 = .ok (.newarray .int, 2) := by decide +kernel
theorem dX6_init_25 : decode cX6_init 25 = .ok (.putfield 16, 3) := by decide +kernel
theorem dX6_init_28 : decode cX6_init 28 = .ok (.aload_n 0, 1) := by decide +kernel
theorem dX6_init_29 : decode cX6_init 29 = .ok (.bipush 6, 2) := by decide +kernel
theorem dX6_init_31 : decode cX6_init 31 = .ok (.newarray .int, 2) := by decide +kernel
theorem dX6_init_33 : decode cX6_init 33 = .ok (.putfield 19, 3) := by decide +kernel
theorem dX6_init_36 : decode cX6_init 36 = .ok (.aload_n 0, 1) := by decide +kernel
theorem dX6_init_37 : decode cX6_init 37 = .ok (.bipush 6, 2) := by decide +kernel
theorem dX6_init_39 : decode cX6_init 39 = .ok (.newarray .int, 2) := by decide +kernel
theorem dX6_init_41 : decode cX6_init 41 = .ok (.putfield 22, 3) := by decide +kernel
theorem dX6_init_44 : decode cX6_init 44 = .ok (.aload_n 0, 1) := by decide +kernel
theorem dX6_init_45 : decode cX6_init 45 = .ok (.bipush 6, 2) := by decide +kernel
theorem dX6_init_47 : decode cX6_init 47 = .ok (.newarray .int, 2) := by decide +kernel
theorem dX6_init_49 : decode cX6_init 49 = .ok (.putfield 25, 3) := by decide +kernel
theorem dX6_init_52 : decode cX6_init 52 = .ok (.aload_n 0, 1) := by decide +kernel
theorem dX6_init_53 : decode cX6_init 53 = .ok (.bipush 6, 2) := by decide +kernel
theorem dX6_init_55 : decode cX6_init 55 = .ok (.newarray .boolean, 2) := by decide +kernel
theorem dX6_init_57 : decode cX6_init 57 = .ok (.putfield 28, 3) := by decide +kernel
theorem dX6_init_60 : decode cX6_init 60 = .ok (.aload_n 0, 1) := by decide +kernel
theorem dX6_init_61 : decode cX6_init 61 = .ok (.bipush 6, 2) := by decide +kernel
theorem dX6_init_63 : decode cX6_init 63 = .ok (.newarray .boolean, 2) := by decide +kernel
theorem dX6_init_65 : decode cX6_init 65 = .ok (.putfield 32, 3) := by decide +kernel
theorem dX6_init_68 : decode cX6_init 68 = .ok (.aload_n 0, 1) := by decide +kernel
theorem dX6_init_69 : decode cX6_init 69 = .ok (.bipush 72, 2) := by decide +kernel
theorem dX6_init_71 : decode cX6_init 71 = .ok (.newarray .boolean, 2) := by decide +kernel
theorem dX6_init_73 : decode cX6_init 73 = .ok (.putfield 35, 3) := by decide +kernel
theorem dX6_init_76 : decode cX6_init 76 = .ok (.aload_n 0, 1) := by decide +kernel
theorem dX6_init_77 : decode cX6_init 77 = .ok (.bipush 72, 2) := by decide +kernel
theorem dX6_init_79 : decode cX6_init 79 = .ok (.newarray .boolean, 2) := by decide +kernel
theorem dX6_init_81 : decode cX6_init 81 = .ok (.putfield 38, 3) := by decide +kernel
theorem dX6_init_84 : decode cX6_init 84 = .ok (.aload_n 0, 1) := by decide +kernel
theorem dX6_init_85 : decode cX6_init 85 = .ok (.bipush 72, 2) := by decide +kernel
theorem dX6_init_87 : decode cX6_init 87 = .ok (.newarray .boolean, 2) := by decide +kernel
theorem dX6_init_89 : decode cX6_init 89 = .ok (.putfield 41, 3) := by decide +kernel
theorem dX6_init_92 : decode cX6_init 92 = .ok (.aload_n 0, 1) := by decide +kernel
theorem dX6_init_93 : decode cX6_init 93 = .ok (.bipush 72, 2) := by decide +kernel
theorem dX6_init_95 : decode cX6_init 95 = .ok (.newarray .long, 2) := by decide +kernel
theorem dX6_init_97 : decode cX6_init 97 = .ok (.putfield 44, 3) := by decide +kernel
theorem dX6_init_100 : decode cX6_init 100 = .ok (.aload_n 0, 1) := by decide +kernel
theorem dX6_init_101 : decode cX6_init 101 = .ok (.bipush 72, 2) := by decide +kernel
theorem dX6_init_103 : decode cX6_init 103 = .ok (.newarray .int, 2) := by decide +kernel
theorem dX6_init_105 : decode cX6_init 105 = .ok (.putfield 48, 3) := by decide +kernel
theorem dX6_init_108 : decode cX6_init 108 = .ok (.aload_n 0, 1) := by decide +kernel
theorem dX6_init_109 : decode cX6_init 109 = .ok (.bipush 72, 2) := by decide +kernel
theorem dX6_init_111 : decode cX6_init 111 = .ok (.newarray .int, 2) := by decide +kernel
theorem dX6_init_113 : decode cX6_init 113 = .ok (.putfield 51, 3) := by decide +kernel
theorem dX6_init_116 : decode cX6_init 116 = .ok (.aload_n 0, 1) := by decide +kernel
theorem dX6_init_117 : decode cX6_init 117 = .ok (.sipush 288, 3) := by decide +kernel
theorem dX6_init_120 : decode cX6_init 120 = .ok (.newarray .boolean, 2) := by decide +kernel
theorem dX6_init_122 : decode cX6_init 122 = .ok (.putfield 54, 3) := by decide +kernel
theorem dX6_init_125 : decode cX6_init 125 = .ok (.aload_n 0, 1) := by decide +kernel
theorem dX6_init_126 : decode cX6_init 126 = .ok (.sipush 288, 3) := by decide +kernel
theorem dX6_init_129 : decode cX6_init 129 = .ok (.newarray .long, 2) := by decide +kernel
theorem dX6_init_131 : decode cX6_init 131 = .ok (.putfield 57, 3) := by decide +kernel
theorem dX6_init_134 : decode cX6_init 134 = .ok (.aload_n 0, 1) := by decide +kernel
theorem dX6_init_135 : decode cX6_init 135 = .ok (.iconst 4, 1) := by decide +kernel
theorem dX6_init_136 : decode cX6_init 136 = .ok (.newarray .boolean, 2) := by decide +kernel
theorem dX6_init_138 : decode cX6_init 138 = .ok (.putfield 60, 3) := by decide +kernel
theorem dX6_init_141 : decode cX6_init 141 = .ok (.aload_n 0, 1) := by decide +kernel
theorem dX6_init_142 : decode cX6_init 142 = .ok (.bipush 31, 2) := by decide +kernel
theorem dX6_init_144 : decode cX6_init 144 = .ok (.newarray .long, 2) := by decide +kernel
theorem dX6_init_146 : decode cX6_init 146 = .ok (.putfield 63, 3) := by decide +kernel
theorem dX6_init_149 : decode cX6_init 149 = .ok (.aload_n 0, 1) := by decide +kernel
theorem dX6_init_150 : decode cX6_init 150 = .ok (.bipush 31, 2) := by decide +kernel
theorem dX6_init_152 : decode cX6_init 152 = .ok (.newarray .long, 2) := by decide +kernel
theorem dX6_init_154 : decode cX6_init 154 = .ok (.putfield 66, 3) := by decide +kernel
theorem dX6_init_157 : decode cX6_init 157 = .ok (.aload_n 0, 1) := by decide +kernel
theorem dX6_init_158 : decode cX6_init 158 = .ok (.bipush 31, 2) := by decide +kernel
theorem dX6_init_160 : decode cX6_init 160 = .ok (.newarray .boolean, 2) := by decide +kernel
theorem dX6_init_162 : decode cX6_init 162 = .ok (.putfield 69, 3) := by decide +kernel
theorem dX6_init_165 : decode cX6_init 165 = .ok (.aload_n 0, 1) := by decide +kernel
theorem dX6_init_166 : decode cX6_init 166 = .ok (.sipush 288, 3) := by decide +kernel
theorem dX6_init_169 : decode cX6_init 169 = .ok (.newarray .int, 2) := by decide +kernel
theorem dX6_init_171 : decode cX6_init 171 = .ok (.putfield 72, 3) := by decide +kernel
theorem dX6_init_174 : decode cX6_init 174 = .ok (.aload_n 0, 1) := by decide +kernel
theorem dX6_init_175 : decode cX6_init 175 = .ok (.sipush 1440, 3) := by decide +kernel
theorem dX6_init_178 : decode cX6_init 178 = .ok (.newarray .int, 2) := by decide +kernel
theorem dX6_init_180 : decode cX6_init 180 = .ok (.putfield 75, 3) := by decide +kernel
theorem dX6_init_183 : decode cX6_init 183 = .ok (.aload_n 0, 1) := by decide +kernel
theorem dX6_init_184 : decode cX6_init 184 = .ok (.iconst 5, 1) := by decide +kernel
theorem dX6_init_185 : decode cX6_init 185 = .ok (.newarray .int, 2) := by decide +kernel
theorem dX6_init_187 : decode cX6_init 187 = .ok (.putfield 78, 3) := by decide +kernel
theorem dX6_init_190 : decode cX6_init 190 = .ok (.aload_n 0, 1) := by decide +kernel
theorem dX6_init_191 : decode cX6_init 191 = .ok (.sipush 2000, 3) := by decide +kernel
theorem dX6_init_194 : decode cX6_init 194 = .ok (.putfield 81, 3) := by decide +kernel
theorem dX6_init_197 : decode cX6_init 197 = .ok (.aload_n 0, 1) := by decide +kernel
theorem dX6_init_198 : decode cX6_init 198 = .ok (.iconst 4, 1) := by decide +kernel
theorem dX6_init_199 : decode cX6_init 199 = .ok (.newarray .int, 2) := by decide +kernel
theorem dX6_init_201 : decode cX6_init 201 = .ok (.dup, 1) := by decide +kernel
theorem dX6_init_202 : decode cX6_init 202 = .ok (.iconst 0, 1) := by decide +kernel
theorem dX6_init_203 : decode cX6_init 203 = .ok (.bipush 70, 2) := by decide +kernel
theorem dX6_init_205 : decode cX6_init 205 = .ok (.iastore, 1) := by decide +kernel
theorem dX6_init_206 : decode cX6_init 206 = .ok (.dup, 1) := by decide +kernel
theorem dX6_init_207 : decode cX6_init 207 = .ok (.iconst 1, 1) := by decide +kernel
theorem dX6_init_208 : decode cX6_init 208 = .ok (.bipush 70, 2) := by decide +kernel
theorem dX6_init_210 : decode cX6_init 210 = .ok (.iastore, 1) := by decide +kernel
theorem dX6_init_211 : decode cX6_init 211 = .ok (.dup, 1) := by decide +kernel
theorem dX6_init_212 : decode cX6_init 212 = .ok (.iconst 2, 1) := by decide +kernel
theorem dX6_init_213 : decode cX6_init 213 = .ok (.bipush 70, 2) := by decide +kernel
theorem dX6_init_215 : decode cX6_init 215 = .ok (.iastore, 1) := by decide +kernel
theorem dX6_init_216 : decode cX6_init 216 = .ok (.dup, 1) := by decide +kernel
theorem dX6_init_217 : decode cX6_init 217 = .ok (.iconst 3, 1) := by decide +kernel
theorem dX6_init_218 : decode cX6_init 218 = .ok (.bipush 70, 2) := by decide +kernel
theorem dX6_init_220 : decode cX6_init 220 = .ok (.iastore, 1) := by decide +kernel
theorem dX6_init_221 : decode cX6_init 221 = .ok (.putfield 85, 3) := by decide +kernel
theorem dX6_init_224 : decode cX6_init 224 = .ok (.aload_n 0, 1) := by decide +kernel
theorem dX6_init_225 : decode cX6_init 225 = .ok (.bipush 12, 2) := by decide +kernel
theorem dX6_init_227 : decode cX6_init 227 = .ok (.newarray .int, 2) := by decide +kernel
theorem dX6_init_229 : decode cX6_init 229 = .ok (.putfield 88, 3) := by decide +kernel
theorem dX6_init_232 : decode cX6_init 232 = .ok (.return_, 1) := by decide +kernel
theorem dX6_thrown_0 : decode cX6_thrown 0 = .ok (.aload_n 0, 1) := by decide +kernel
theorem dX6_thrown_1 : decode cX6_thrown 1 = .ok (.getfield 91, 3) := by decide +kernel
theorem dX6_thrown_4 : decode cX6_thrown 4 = .ok (.ireturn, 1) := by decide +kernel
theorem dX6_goesWell_0 : decode cX6_goesWell 0 = .ok (.aload_n 0, 1) := by decide +kernel
theorem dX6_goesWell_1 : decode cX6_goesWell 1 = .ok (.iload_n 1, 1) := by decide +kernel
theorem dX6_goesWell_2 : decode cX6_goesWell 2 = .ok (.putfield 91, 3) := by decide +kernel
theorem dX6_goesWell_5 : decode cX6_goesWell 5 = .ok (.iload_n 1, 1) := by decide +kernel
theorem dX6_goesWell_6 : decode cX6_goesWell 6 = .ok (.ifCond .ne 7, 3) := by decide +kernel
theorem dX6_goesWell_9 : decode cX6_goesWell 9 = .ok (.iconst 1, 1) := by decide +kernel
theorem dX6_goesWell_10 : decode cX6_goesWell 10 = .ok (.goto 4, 3) := by decide +kernel
theorem dX6_goesWell_13 : decode cX6_goesWell 13 = .ok (.iconst 0, 1) := by decide +kernel
theorem dX6_goesWell_14 : decode cX6_goesWell 14 = .ok (.ireturn, 1) := by decide +kernel
theorem dX6_in_0 : decode cX6_in 0 = .ok (.iload_n 0, 1) := by decide +kernel
theorem dX6_in_1 : decode cX6_in 1 = .ok (.iload_n 1, 1) := by decide +kernel
theorem dX6_in_2 : decode cX6_in 2 = .ok (.if_icmp .lt 12, 3) := by decide +kernel
theorem dX6_in_5 : decode cX6_in 5 = .ok (.iload_n 0, 1) := by decide +kernel
theorem dX6_in_6 : decode cX6_in 6 = .ok (.iload_n 2, 1) := by decide +kernel
theorem dX6_in_7 : decode cX6_in 7 = .ok (.if_icmp .gt 7, 3) := by decide +kernel
theorem dX6_in_10 : decode cX6_in 10 = .ok (.iconst 1, 1) := by decide +kernel
theorem dX6_in_11 : decode cX6_in 11 = .ok (.goto 4, 3) := by decide +kernel
theorem dX6_in_14 : decode cX6_in 14 = .ok (.iconst 0, 1) := by decide +kernel
theorem dX6_in_15 : decode cX6_in 15 = .ok (.ireturn, 1) := by decide +kernel
theorem dX6_isBook_0 : decode cX6_isBook 0 = .ok (.iload_n 1, 1) := by decide +kernel
theorem dX6_isBook_1 : decode cX6_isBook 1 = .ok (.iconst 0, 1) := by decide +kernel
theorem dX6_isBook_2 : decode cX6_isBook 2 = .ok (.aload_n 0, 1) := by decide +kernel
theorem dX6_isBook_3 : decode cX6_isBook 3 = .ok (.getfield 94, 3) := by decide +kernel
theorem dX6_isBook_6 : decode cX6_isBook 6 = .ok (.iconst 1, 1) := by decide +kernel
theorem dX6_isBook_7 : decode cX6_isBook 7 = .ok (.isub, 1) := by decide +kernel
theorem dX6_isBook_8 : decode cX6_isBook 8 = .ok (.invokestatic 97, 3) := by decide +kernel
theorem dX6_isBook_11 : decode cX6_isBook 11 = .ok (.ireturn, 1) := by decide +kernel
theorem dX6_isPage_0 : decode cX6_isPage 0 = .ok (.aload_n 0, 1) := by decide +kernel
theorem dX6_isPage_1 : decode cX6_isPage 1 = .ok (.iload_n 1, 1) := by decide +kernel
theorem dX6_isPage_2 : decode cX6_isPage 2 = .ok (.invokevirtual 101, 3) := by decide +kernel
theorem dX6_isPage_5 : decode cX6_isPage 5 = .ok (.ifCond .eq 23, 3) := by decide +kernel
theorem dX6_isPage_8 : decode cX6_isPage 8 = .ok (.iload_n 2, 1) := by decide +kernel
theorem dX6_isPage_9 : decode cX6_isPage 9 = .ok (.iconst 0, 1) := by decide +kernel
theorem dX6_isPage_10 : decode cX6_isPage 10 = .ok (.aload_n 0, 1) := by decide +kernel
theorem dX6_isPage_11 : decode cX6_isPage 11 = .ok (.getfield 7, 3) := by decide +kernel
theorem dX6_isPage_14 : decode cX6_isPage 14 = .ok (.iload_n 1, 1) := by decide +kernel
theorem dX6_isPage_15 : decode cX6_isPage 15 = .ok (.iaload, 1) := by decide +kernel
theorem dX6_isPage_16 : decode cX6_isPage 16 = .ok (.iconst 1, 1) := by decide +kernel
theorem dX6_isPage_17 : decode cX6_isPage 17 = .ok (.isub, 1) := by decide +kernel
theorem dX6_isPage_18 : decode cX6_isPage 18 = .ok (.invokestatic 97, 3) := by decide +kernel
theorem dX6_isPage_21 : decode cX6_isPage 21 = .ok (.ifCond .eq 7, 3) := by decide +kernel
theorem dX6_isPage_24 : decode cX6_isPage 24 = .ok (.iconst 1, 1) := by decide +kernel
theorem dX6_isPage_25 : decode cX6_isPage 25 = .ok (.goto 4, 3) := by decide +kernel
theorem dX6_isPage_28 : decode cX6_isPage 28 = .ok (.iconst 0, 1) := by decide +kernel
theorem dX6_isPage_29 : decode cX6_isPage 29 = .ok (.ireturn, 1) := by decide +kernel
theorem dX6_isVault_0 : decode cX6_isVault 0 = .ok (.iload_n 0, 1) := by decide +kernel
theorem dX6_isVault_1 : decode cX6_isVault 1 = .ok (.iconst 0, 1) := by decide +kernel
theorem dX6_isVault_2 : decode cX6_isVault 2 = .ok (.iconst 3, 1) := by decide +kernel
theorem dX6_isVault_3 : decode cX6_isVault 3 = .ok (.invokestatic 97, 3) := by decide +kernel
theorem dX6_isVault_6 : decode cX6_isVault 6 = .ok (.ireturn, 1) := by decide +kernel
theorem dX6_isPlace_0 : decode cX6_isPlace 0 = .ok (.aload_n 0, 1) := by decide +kernel
theorem dX6_isPlace_1 : decode cX6_isPlace 1 = .ok (.iload_n 1, 1) := by decide +kernel
theorem dX6_isPlace_2 : decode cX6_isPlace 2 = .ok (.iload_n 2, 1) := by decide +kernel
theorem dX6_isPlace_3 : decode cX6_isPlace 3 = .ok (.invokevirtual 105, 3) := by decide +kernel
theorem dX6_isPlace_6 : decode cX6_isPlace 6 = .ok (.ifCond .eq 16, 3) := by decide +kernel
theorem dX6_isPlace_9 : decode cX6_isPlace 9 = .ok (.iload_n 3, 1) := by decide +kernel
theorem dX6_isPlace_10 : decode cX6_isPlace 10 = .ok (.iconst 0, 1) := by decide +kernel
theorem dX6_isPlace_11 : decode cX6_isPlace 11 = .ok (.iconst 3, 1) := by decide +kernel
theorem dX6_isPlace_12 : decode cX6_isPlace 12 = .ok (.invokestatic 97, 3) := by decide +kernel
theorem dX6_isPlace_15 : decode cX6_isPlace 15 = .ok (.ifCond .eq 7, 3) := by decide +kernel
theorem dX6_isPlace_18 : decode cX6_isPlace 18 = .ok (.iconst 1, 1) := by decide +kernel
theorem dX6_isPlace_19 : decode cX6_isPlace 19 = .ok (.goto 4, 3) := by decide +kernel
theorem dX6_isPlace_22 : decode cX6_isPlace 22 = .ok (.iconst 0, 1) := by decide +kernel
theorem dX6_isPlace_23 : decode cX6_isPlace 23 = .ok (.ireturn, 1) := by decide +kernel
theorem dX6_book_0 : decode cX6_book 0 = .ok (.iload_n 1, 1) := by decide +kernel
theorem dX6_book_1 : decode cX6_book 1 = .ok (.iconst 1, 1) := by decide +kernel
theorem dX6_book_2 : decode cX6_book 2 = .ok (.bipush 12, 2) := by decide +kernel
theorem dX6_book_4 : decode cX6_book 4 = .ok (.invokestatic 97, 3) := by decide +kernel
theorem dX6_book_7 : decode cX6_book 7 = .ok (.ifCond .eq 60, 3) := by decide +kernel
theorem dX6_book_10 : decode cX6_book 10 = .ok (.iload_n 2, 1) := by decide +kernel
theorem dX6_book_11 : decode cX6_book 11 = .ok (.bipush 60, 2) := by decide +kernel
theorem dX6_book_13 : decode cX6_book 13 = .ok (.sipush 180, 3) := by decide +kernel
theorem dX6_book_16 : decode cX6_book 16 = .ok (.invokestatic 97, 3) := by decide +kernel
theorem dX6_book_19 : decode cX6_book 19 = .ok (.ifCond .eq 48, 3) := by decide +kernel
theorem dX6_book_22 : decode cX6_book 22 = .ok (.iload_n 3, 1) := by decide +kernel
theorem dX6_book_23 : decode cX6_book 23 = .ok (.iconst 1, 1) := by decide +kernel
theorem dX6_book_24 : decode cX6_book 24 = .ok (.bipush 60, 2) := by decide +kernel
theorem dX6_book_26 : decode cX6_book 26 = .ok (.invokestatic 97, 3) := by decide +kernel
theorem dX6_book_29 : decode cX6_book 29 = .ok (.ifCond .eq 38, 3) := by decide +kernel
theorem dX6_book_32 : decode cX6_book 32 = .ok (.iload 4, 2) := by decide +kernel
theorem dX6_book_34 : decode cX6_book 34 = .ok (.iconst 0, 1) := by decide +kernel
theorem dX6_book_35 : decode cX6_book 35 = .ok (.bipush 9, 2) := by decide +kernel
theorem dX6_book_37 : decode cX6_book 37 = .ok (.invokestatic 97, 3) := by decide +kernel
theorem dX6_book_40 : decode cX6_book 40 = .ok (.ifCond .eq 27, 3) := by decide +kernel
theorem dX6_book_43 : decode cX6_book 43 = .ok (.iload 5, 2) := by decide +kernel
theorem dX6_book_45 : decode cX6_book 45 = .ok (.iconst (-1), 1) := by decide +kernel
theorem dX6_book_46 : decode cX6_book 46 = .ok (.if_icmp .eq 17, 3) := by decide +kernel
theorem dX6_book_49 : decode cX6_book 49 = .ok (.iload 5, 2) := by decide +kernel
theorem dX6_book_51 : decode cX6_book 51 = .ok (.sipush 1500, 3) := by decide +kernel
theorem dX6_book_54 : decode cX6_book 54 = .ok (.sipush 3000, 3) := by decide +kernel
theorem dX6_book_57 : decode cX6_book 57 = .ok (.invokestatic 97, 3) := by decide +kernel
theorem dX6_book_60 : decode cX6_book 60 = .ok (.ifCond .eq 7, 3) := by decide +kernel
theorem dX6_book_63 : decode cX6_book 63 = .ok (.iconst 1, 1) := by decide +kernel
theorem dX6_book_64 : decode cX6_book 64 = .ok (.goto 4, 3) := by decide +kernel
theorem dX6_book_67 : decode cX6_book 67 = .ok (.iconst 0, 1) := by decide +kernel
theorem dX6_book_68 : decode cX6_book 68 = .ok (.istore 6, 2) := by decide +kernel
theorem dX6_book_70 : decode cX6_book 70 = .ok (.aload_n 0, 1) := by decide +kernel
theorem dX6_book_71 : decode cX6_book 71 = .ok (.iload 6, 2) := by decide +kernel
theorem dX6_book_73 : decode cX6_book 73 = .ok (.ifCond .ne 7, 3) := by decide +kernel
theorem dX6_book_76 : decode cX6_book 76 = .ok (.iconst 1, 1) := by decide +kernel
theorem dX6_book_77 : decode cX6_book 77 = .ok (.goto 17, 3) := by decide +kernel
theorem dX6_book_80 : decode cX6_book 80 = .ok (.aload_n 0, 1) := by decide +kernel
theorem dX6_book_81 : decode cX6_book 81 = .ok (.getfield 94, 3) := by decide +kernel
theorem dX6_book_84 : decode cX6_book 84 = .ok (.bipush 6, 2) := by decide +kernel
theorem dX6_book_86 : decode cX6_book 86 = .ok (.if_icmp .ne 7, 3) := by decide +kernel
theorem dX6_book_89 : decode cX6_book 89 = .ok (.iconst 2, 1) := by decide +kernel
theorem dX6_book_90 : decode cX6_book 90 = .ok (.goto 4, 3) := by decide +kernel
theorem dX6_book_93 : decode cX6_book 93 = .ok (.iconst 0, 1) := by decide +kernel
theorem dX6_book_94 : decode cX6_book 94 = .ok (.invokevirtual 109, 3) := by decide +kernel
theorem dX6_book_97 : decode cX6_book 97 = .ok (.ifCond .ne 5, 3) := by decide +kernel
theorem dX6_book_100 : decode cX6_book 100 = .ok (.iconst 0, 1) := by decide +kernel
theorem dX6_book_101 : decode cX6_book 101 = .ok (.ireturn, 1) := by decide +kernel
theorem dX6_book_102 : decode cX6_book 102 = .ok (.aload_n 0, 1) := by decide +kernel
theorem dX6_book_103 : decode cX6_book 103 = .ok (.getfield 7, 3) := by decide +kernel
theorem dX6_book_106 : decode cX6_book 106 = .ok (.aload_n 0, 1) := by decide +kernel
theorem dX6_book_107 : decode cX6_book 107 = .ok (.getfield 94, 3) := by decide +kernel
theorem dX6_book_110 : decode cX6_book 110 = .ok (.iload_n 1, 1) := by decide +kernel
theorem dX6_book_111 : decode cX6_book 111 = .ok (.iastore, 1) := by decide +kernel
theorem dX6_book_112 : decode cX6_book 112 = .ok (.aload_n 0, 1) := by decide +kernel
theorem dX6_book_113 : decode cX6_book 113 = .ok (.getfield 13, 3) := by decide +kernel
theorem dX6_book_116 : decode cX6_book 116 = .ok (.aload_n 0, 1) := by decide +kernel
theorem dX6_book_117 : decode cX6_book 117 = .ok (.getfield 94, 3) := by decide +kernel
theorem dX6_book_120 : decode cX6_book 120 = .ok (.iload_n 2, 1) := by decide +kernel
theorem dX6_book_121 : decode cX6_book 121 = .ok (.iastore, 1) := by decide +kernel
theorem dX6_book_122 : decode cX6_book 122 = .ok (.aload_n 0, 1) := by decide +kernel
theorem dX6_book_123 : decode cX6_book 123 = .ok (.getfield 16, 3) := by decide +kernel
theorem dX6_book_126 : decode cX6_book 126 = .ok (.aload_n 0, 1) := by decide +kernel
theorem dX6_book_127 : decode cX6_book 127 = .ok (.getfield 94, 3) := by decide +kernel
theorem dX6_book_130 : decode cX6_book 130 = .ok (.iload_n 3, 1) := by decide +kernel
theorem dX6_book_131 : decode cX6_book 131 = .ok (.iastore, 1) := by decide +kernel
theorem dX6_book_132 : decode cX6_book 132 = .ok (.aload_n 0, 1) := by decide +kernel
theorem dX6_book_133 : decode cX6_book 133 = .ok (.getfield 19, 3) := by decide +kernel
theorem dX6_book_136 : decode cX6_book 136 = .ok (.aload_n 0, 1) := by decide +kernel
theorem dX6_book_137 : decode cX6_book 137 = .ok (.getfield 94, 3) := by decide +kernel
theorem dX6_book_140 : decode cX6_book 140 = .ok (.iload 4, 2) := by decide +kernel
theorem dX6_book_142 : decode cX6_book 142 = .ok (.iastore, 1) := by decide +kernel
theorem dX6_book_143 : decode cX6_book 143 = .ok (.aload_n 0, 1) := by decide +kernel
theorem dX6_book_144 : decode cX6_book 144 = .ok (.getfield 22, 3) := by decide +kernel
theorem dX6_book_147 : decode cX6_book 147 = .ok (.aload_n 0, 1) := by decide +kernel
theorem dX6_book_148 : decode cX6_book 148 = .ok (.getfield 94, 3) := by decide +kernel
theorem dX6_book_151 : decode cX6_book 151 = .ok (.iload 5, 2) := by decide +kernel
theorem dX6_book_153 : decode cX6_book 153 = .ok (.iastore, 1) := by decide +kernel
theorem dX6_book_154 : decode cX6_book 154 = .ok (.aload_n 0, 1) := by decide +kernel
theorem dX6_book_155 : decode cX6_book 155 = .ok (.dup, 1) := by decide +kernel
theorem dX6_book_156 : decode cX6_book 156 = .ok (.getfield 94, 3) := by decide +kernel
theorem dX6_book_159 : decode cX6_book 159 = .ok (.iconst 1, 1) := by decide +kernel
theorem dX6_book_160 : decode cX6_book 160 = .ok (.iadd, 1) := by decide +kernel
theorem dX6_book_161 : decode cX6_book 161 = .ok (.putfield 94, 3) := by decide +kernel
theorem dX6_book_164 : decode cX6_book 164 = .ok (.aload_n 0, 1) := by decide +kernel
theorem dX6_book_165 : decode cX6_book 165 = .ok (.getfield 94, 3) := by decide +kernel
theorem dX6_book_168 : decode cX6_book 168 = .ok (.iconst 1, 1) := by decide +kernel
theorem dX6_book_169 : decode cX6_book 169 = .ok (.isub, 1) := by decide +kernel
theorem dX6_book_170 : decode cX6_book 170 = .ok (.ireturn, 1) := by decide +kernel
theorem dX6_shots_0 : decode cX6_shots 0 = .ok (.iconst 0, 1) := by decide +kernel
theorem dX6_shots_1 : decode cX6_shots 1 = .ok (.istore_n 2, 1) := by decide +kernel
theorem dX6_shots_2 : decode cX6_shots 2 = .ok (.iconst 0, 1) := by decide +kernel
theorem dX6_shots_3 : decode cX6_shots 3 = .ok (.istore_n 3, 1) := by decide +kernel
theorem dX6_shots_4 : decode cX6_shots 4 = .ok (.iload_n 3, 1) := by decide +kernel
theorem dX6_shots_5 : decode cX6_shots 5 = .ok (.aload_n 0, 1) := by decide +kernel
theorem dX6_shots_6 : decode cX6_shots 6 = .ok (.getfield 7, 3) := by decide +kernel
theorem dX6_shots_9 : decode cX6_shots 9 = .ok (.iload_n 1, 1) := by decide +kernel
theorem dX6_shots_10 : decode cX6_shots 10 = .ok (.iaload, 1) := by decide +kernel
theorem dX6_shots_11 : decode cX6_shots 11 = .ok (.if_icmp .ge 31, 3) := by decide +kernel
theorem dX6_shots_14 : decode cX6_shots 14 = .ok (.iload_n 2, 1) := by decide +kernel
theorem dX6_shots_15 : decode cX6_shots 15 = .ok (.aload_n 0, 1) := by decide +kernel
theorem dX6_shots_16 : decode cX6_shots 16 = .ok (.getfield 35, 3) := by decide +kernel
theorem dX6_shots_19 : decode cX6_shots 19 = .ok (.bipush 12, 2) := by decide +kernel
theorem dX6_shots_21 : decode cX6_shots 21 = .ok (.iload_n 1, 1) := by decide +kernel
theorem dX6_shots_22 : decode cX6_shots 22 = .ok (.imul, 1) := by decide +kernel
theorem dX6_shots_23 : decode cX6_shots 23 = .ok (.iload_n 3, 1) := by decide +kernel
theorem dX6_shots_24 : decode cX6_shots 24 = .ok (.iadd, 1) := by decide +kernel
theorem dX6_shots_25 : decode cX6_shots 25 = .ok (.baload, 1) := by decide +kernel
theorem dX6_shots_26 : decode cX6_shots 26 = .ok (.ifCond .eq 7, 3) := by decide +kernel
theorem dX6_shots_29 : decode cX6_shots 29 = .ok (.iconst 1, 1) := by decide +kernel
theorem dX6_shots_30 : decode cX6_shots 30 = .ok (.goto 4, 3) := by decide +kernel
theorem dX6_shots_33 : decode cX6_shots 33 = .ok (.iconst 0, 1) := by decide +kernel
theorem dX6_shots_34 : decode cX6_shots 34 = .ok (.iadd, 1) := by decide +kernel
theorem dX6_shots_35 : decode cX6_shots 35 = .ok (.istore_n 2, 1) := by decide +kernel
theorem dX6_shots_36 : decode cX6_shots 36 = .ok (.iinc 3 1, 3) := by decide +kernel
theorem dX6_shots_39 : decode cX6_shots 39 = .ok (.goto (-35), 3) := by decide +kernel
theorem dX6_shots_42 : decode cX6_shots 42 = .ok (.iload_n 2, 1) := by decide +kernel
theorem dX6_shots_43 : decode cX6_shots 43 = .ok (.ireturn, 1) := by decide +kernel
theorem dX6_next_0 : decode cX6_next 0 = .ok (.aload_n 0, 1) := by decide +kernel
theorem dX6_next_1 : decode cX6_next 1 = .ok (.iconst 0, 1) := by decide +kernel
theorem dX6_next_2 : decode cX6_next 2 = .ok (.putfield 91, 3) := by decide +kernel
theorem dX6_next_5 : decode cX6_next 5 = .ok (.iconst (-1), 1) := by decide +kernel
theorem dX6_next_6 : decode cX6_next 6 = .ok (.istore_n 1, 1) := by decide +kernel
theorem dX6_next_7 : decode cX6_next 7 = .ok (.iconst 0, 1) := by decide +kernel
theorem dX6_next_8 : decode cX6_next 8 = .ok (.istore_n 2, 1) := by decide +kernel
theorem dX6_next_9 : decode cX6_next 9 = .ok (.iload_n 2, 1) := by decide +kernel
theorem dX6_next_10 : decode cX6_next 10 = .ok (.aload_n 0, 1) := by decide +kernel
theorem dX6_next_11 : decode cX6_next 11 = .ok (.getfield 94, 3) := by decide +kernel
theorem dX6_next_14 : decode cX6_next 14 = .ok (.if_icmp .ge 110, 3) := by decide +kernel
theorem dX6_next_17 : decode cX6_next 17 = .ok (.aload_n 0, 1) := by decide +kernel
theorem dX6_next_18 : decode cX6_next 18 = .ok (.getfield 16, 3) := by decide +kernel
theorem dX6_next_21 : decode cX6_next 21 = .ok (.iload_n 2, 1) := by decide +kernel
theorem dX6_next_22 : decode cX6_next 22 = .ok (.iaload, 1) := by decide +kernel
theorem dX6_next_23 : decode cX6_next 23 = .ok (.ifCond .le 21, 3) := by decide +kernel
theorem dX6_next_26 : decode cX6_next 26 = .ok (.aload_n 0, 1) := by decide +kernel
theorem dX6_next_27 : decode cX6_next 27 = .ok (.iload_n 2, 1) := by decide +kernel
theorem dX6_next_28 : decode cX6_next 28 = .ok (.invokevirtual 112, 3) := by decide +kernel
theorem dX6_next_31 : decode cX6_next 31 = .ok (.aload_n 0, 1) := by decide +kernel
theorem dX6_next_32 : decode cX6_next 32 = .ok (.getfield 7, 3) := by decide +kernel
theorem dX6_next_35 : decode cX6_next 35 = .ok (.iload_n 2, 1) := by decide +kernel
theorem dX6_next_36 : decode cX6_next 36 = .ok (.iaload, 1) := by decide +kernel
theorem dX6_next_37 : decode cX6_next 37 = .ok (.if_icmp .ge 7, 3) := by decide +kernel
theorem dX6_next_40 : decode cX6_next 40 = .ok (.iconst 1, 1) := by decide +kernel
theorem dX6_next_41 : decode cX6_next 41 = .ok (.goto 4, 3) := by decide +kernel
theorem dX6_next_44 : decode cX6_next 44 = .ok (.iconst 0, 1) := by decide +kernel
theorem dX6_next_45 : decode cX6_next 45 = .ok (.istore_n 3, 1) := by decide +kernel
theorem dX6_next_46 : decode cX6_next 46 = .ok (.iload_n 1, 1) := by decide +kernel
theorem dX6_next_47 : decode cX6_next 47 = .ok (.iconst (-1), 1) := by decide +kernel
theorem dX6_next_48 : decode cX6_next 48 = .ok (.if_icmp .eq 48, 3) := by decide +kernel
theorem dX6_next_51 : decode cX6_next 51 = .ok (.aload_n 0, 1) := by decide +kernel
theorem dX6_next_52 : decode cX6_next 52 = .ok (.getfield 19, 3) := by decide +kernel
theorem dX6_next_55 : decode cX6_next 55 = .ok (.iload_n 2, 1) := by decide +kernel
theorem dX6_next_56 : decode cX6_next 56 = .ok (.iaload, 1) := by decide +kernel
theorem dX6_next_57 : decode cX6_next 57 = .ok (.aload_n 0, 1) := by decide +kernel
theorem dX6_next_58 : decode cX6_next 58 = .ok (.getfield 19, 3) := by decide +kernel
theorem dX6_next_61 : decode cX6_next 61 = .ok (.iload_n 1, 1) := by decide +kernel
theorem dX6_next_62 : decode cX6_next 62 = .ok (.iaload, 1) := by decide +kernel
theorem dX6_next_63 : decode cX6_next 63 = .ok (.if_icmp .gt 33, 3) := by decide +kernel
theorem dX6_next_66 : decode cX6_next 66 = .ok (.aload_n 0, 1) := by decide +kernel
theorem dX6_next_67 : decode cX6_next 67 = .ok (.getfield 19, 3) := by decide +kernel
theorem dX6_next_70 : decode cX6_next 70 = .ok (.iload_n 2, 1) := by decide +kernel
theorem dX6_next_71 : decode cX6_next 71 = .ok (.iaload, 1) := by decide +kernel
theorem dX6_next_72 : decode cX6_next 72 = .ok (.aload_n 0, 1) := by decide +kernel
theorem dX6_next_73 : decode cX6_next 73 = .ok (.getfield 19, 3) := by decide +kernel
theorem dX6_next_76 : decode cX6_next 76 = .ok (.iload_n 1, 1) := by decide +kernel
theorem dX6_next_77 : decode cX6_next 77 = .ok (.iaload, 1) := by decide +kernel
theorem dX6_next_78 : decode cX6_next 78 = .ok (.if_icmp .ne 22, 3) := by decide +kernel
theorem dX6_next_81 : decode cX6_next 81 = .ok (.aload_n 0, 1) := by decide +kernel
theorem dX6_next_82 : decode cX6_next 82 = .ok (.getfield 16, 3) := by decide +kernel
theorem dX6_next_85 : decode cX6_next 85 = .ok (.iload_n 2, 1) := by decide +kernel
theorem dX6_next_86 : decode cX6_next 86 = .ok (.iaload, 1) := by decide +kernel
theorem dX6_next_87 : decode cX6_next 87 = .ok (.aload_n 0, 1) := by decide +kernel
theorem dX6_next_88 : decode cX6_next 88 = .ok (.getfield 16, 3) := by decide +kernel
theorem dX6_next_91 : decode cX6_next 91 = .ok (.iload_n 1, 1) := by decide +kernel
theorem dX6_next_92 : decode cX6_next 92 = .ok (.iaload, 1) := by decide +kernel
theorem dX6_next_93 : decode cX6_next 93 = .ok (.if_icmp .ge 7, 3) := by decide +kernel
theorem dX6_next_96 : decode cX6_next 96 = .ok (.iconst 1, 1) := by decide +kernel
theorem dX6_next_97 : decode cX6_next 97 = .ok (.goto 4, 3) := by decide +kernel
theorem dX6_next_100 : decode cX6_next 100 = .ok (.iconst 0, 1) := by decide +kernel
theorem dX6_next_101 : decode cX6_next 101 = .ok (.istore 4, 2) := by decide +kernel
theorem dX6_next_103 : decode cX6_next 103 = .ok (.iload_n 3, 1) := by decide +kernel
theorem dX6_next_104 : decode cX6_next 104 = .ok (.ifCond .eq 12, 3) := by decide +kernel
theorem dX6_next_107 : decode cX6_next 107 = .ok (.iload 4, 2) := by decide +kernel
theorem dX6_next_109 : decode cX6_next 109 = .ok (.ifCond .eq 7, 3) := by decide +kernel
theorem dX6_next_112 : decode cX6_next 112 = .ok (.iload_n 2, 1) := by decide +kernel
theorem dX6_next_113 : decode cX6_next 113 = .ok (.goto 4, 3) := by decide +kernel
theorem dX6_next_116 : decode cX6_next 116 = .ok (.iload_n 1, 1) := by decide +kernel
theorem dX6_next_117 : decode cX6_next 117 = .ok (.istore_n 1, 1) := by decide +kernel
theorem dX6_next_118 : decode cX6_next 118 = .ok (.iinc 2 1, 3) := by decide +kernel
theorem dX6_next_121 : decode cX6_next 121 = .ok (.goto (-112), 3) := by decide +kernel
theorem dX6_next_124 : decode cX6_next 124 = .ok (.iload_n 1, 1) := by decide +kernel
theorem dX6_next_125 : decode cX6_next 125 = .ok (.ireturn, 1) := by decide +kernel
theorem dX6_shot_0 : decode cX6_shot 0 = .ok (.aload_n 0, 1) := by decide +kernel
theorem dX6_shot_1 : decode cX6_shot 1 = .ok (.iload_n 1, 1) := by decide +kernel
theorem dX6_shot_2 : decode cX6_shot 2 = .ok (.iload_n 2, 1) := by decide +kernel
theorem dX6_shot_3 : decode cX6_shot 3 = .ok (.invokevirtual 105, 3) := by decide +kernel
theorem dX6_shot_6 : decode cX6_shot 6 = .ok (.istore 6, 2) := by decide +kernel
theorem dX6_shot_8 : decode cX6_shot 8 = .ok (.iload_n 3, 1) := by decide +kernel
theorem dX6_shot_9 : decode cX6_shot 9 = .ok (.bipush 30, 2) := by decide +kernel
theorem dX6_shot_11 : decode cX6_shot 11 = .ok (.sipush 180, 3) := by decide +kernel
theorem dX6_shot_14 : decode cX6_shot 14 = .ok (.invokestatic 97, 3) := by decide +kernel
theorem dX6_shot_17 : decode cX6_shot 17 = .ok (.istore 7, 2) := by decide +kernel
theorem dX6_shot_19 : decode cX6_shot 19 = .ok (.iload_n 3, 1) := by decide +kernel
theorem dX6_shot_20 : decode cX6_shot 20 = .ok (.bipush 90, 2) := by decide +kernel
theorem dX6_shot_22 : decode cX6_shot 22 = .ok (.if_icmp .le 7, 3) := by decide +kernel
theorem dX6_shot_25 : decode cX6_shot 25 = .ok (.iconst 2, 1) := by decide +kernel
theorem dX6_shot_26 : decode cX6_shot 26 = .ok (.goto 4, 3) := by decide +kernel
theorem dX6_shot_29 : decode cX6_shot 29 = .ok (.iconst 1, 1) := by decide +kernel
theorem dX6_shot_30 : decode cX6_shot 30 = .ok (.istore 8, 2) := by decide +kernel
theorem dX6_shot_32 : decode cX6_shot 32 = .ok (.bipush 12, 2) := by decide +kernel
theorem dX6_shot_34 : decode cX6_shot 34 = .ok (.iload_n 1, 1) := by decide +kernel
theorem dX6_shot_35 : decode cX6_shot 35 = .ok (.imul, 1) := by decide +kernel
theorem dX6_shot_36 : decode cX6_shot 36 = .ok (.iload_n 2, 1) := by decide +kernel
theorem dX6_shot_37 : decode cX6_shot 37 = .ok (.iadd, 1) := by decide +kernel
theorem dX6_shot_38 : decode cX6_shot 38 = .ok (.istore 9, 2) := by decide +kernel
theorem dX6_shot_40 : decode cX6_shot 40 = .ok (.iload 6, 2) := by decide +kernel
theorem dX6_shot_42 : decode cX6_shot 42 = .ok (.ifCond .eq 48, 3) := by decide +kernel
theorem dX6_shot_45 : decode cX6_shot 45 = .ok (.iload_n 3, 1) := by decide +kernel
theorem dX6_shot_46 : decode cX6_shot 46 = .ok (.aload_n 0, 1) := by decide +kernel
theorem dX6_shot_47 : decode cX6_shot 47 = .ok (.getfield 13, 3) := by decide +kernel
theorem dX6_shot_50 : decode cX6_shot 50 = .ok (.iload_n 1, 1) := by decide +kernel
theorem dX6_shot_51 : decode cX6_shot 51 = .ok (.iaload, 1) := by decide +kernel
theorem dX6_shot_52 : decode cX6_shot 52 = .ok (.if_icmp .gt 38, 3) := by decide +kernel
theorem dX6_shot_55 : decode cX6_shot 55 = .ok (.aload_n 0, 1) := by decide +kernel
theorem dX6_shot_56 : decode cX6_shot 56 = .ok (.getfield 16, 3) := by decide +kernel
theorem dX6_shot_59 : decode cX6_shot 59 = .ok (.iload_n 1, 1) := by decide +kernel
theorem dX6_shot_60 : decode cX6_shot 60 = .ok (.iaload, 1) := by decide +kernel
theorem dX6_shot_61 : decode cX6_shot 61 = .ok (.iload 8, 2) := by decide +kernel
theorem dX6_shot_63 : decode cX6_shot 63 = .ok (.if_icmp .lt 27, 3) := by decide +kernel
theorem dX6_shot_66 : decode cX6_shot 66 = .ok (.aload_n 0, 1) := by decide +kernel
theorem dX6_shot_67 : decode cX6_shot 67 = .ok (.getfield 35, 3) := by decide +kernel
theorem dX6_shot_70 : decode cX6_shot 70 = .ok (.iload 9, 2) := by decide +kernel
theorem dX6_shot_72 : decode cX6_shot 72 = .ok (.baload, 1) := by decide +kernel
theorem dX6_shot_73 : decode cX6_shot 73 = .ok (.ifCond .eq 13, 3) := by decide +kernel
theorem dX6_shot_76 : decode cX6_shot 76 = .ok (.aload_n 0, 1) := by decide +kernel
theorem dX6_shot_77 : decode cX6_shot 77 = .ok (.getfield 41, 3) := by decide +kernel
theorem dX6_shot_80 : decode cX6_shot 80 = .ok (.iload 9, 2) := by decide +kernel
theorem dX6_shot_82 : decode cX6_shot 82 = .ok (.baload, 1) := by decide +kernel
theorem dX6_shot_83 : decode cX6_shot 83 = .ok (.ifCond .eq 7, 3) := by decide +kernel
theorem dX6_shot_86 : decode cX6_shot 86 = .ok (.iconst 1, 1) := by decide +kernel
theorem dX6_shot_87 : decode cX6_shot 87 = .ok (.goto 4, 3) := by decide +kernel
theorem dX6_shot_90 : decode cX6_shot 90 = .ok (.iconst 0, 1) := by decide +kernel
theorem dX6_shot_91 : decode cX6_shot 91 = .ok (.istore 10, 2) := by decide +kernel
theorem dX6_shot_93 : decode cX6_shot 93 = .ok (.aload_n 0, 1) := by decide +kernel
theorem dX6_shot_94 : decode cX6_shot 94 = .ok (.iload 6, 2) := by decide +kernel
theorem dX6_shot_96 : decode cX6_shot 96 = .ok (.ifCond .ne 7, 3) := by decide +kernel
theorem dX6_shot_99 : decode cX6_shot 99 = .ok (.iconst 1, 1) := by decide +kernel
theorem dX6_shot_100 : decode cX6_shot 100 = .ok (.goto 22, 3) := by decide +kernel
theorem dX6_shot_103 : decode cX6_shot 103 = .ok (.iload 7, 2) := by decide +kernel
theorem dX6_shot_105 : decode cX6_shot 105 = .ok (.ifCond .ne 7, 3) := by decide +kernel
theorem dX6_shot_108 : decode cX6_shot 108 = .ok (.iconst 2, 1) := by decide +kernel
theorem dX6_shot_109 : decode cX6_shot 109 = .ok (.goto 13, 3) := by decide +kernel
theorem dX6_shot_112 : decode cX6_shot 112 = .ok (.iload 10, 2) := by decide +kernel
theorem dX6_shot_114 : decode cX6_shot 114 = .ok (.ifCond .eq 7, 3) := by decide +kernel
theorem dX6_shot_117 : decode cX6_shot 117 = .ok (.iconst 0, 1) := by decide +kernel
theorem dX6_shot_118 : decode cX6_shot 118 = .ok (.goto 4, 3) := by decide +kernel
theorem dX6_shot_121 : decode cX6_shot 121 = .ok (.iconst 3, 1) := by decide +kernel
theorem dX6_shot_122 : decode cX6_shot 122 = .ok (.invokevirtual 109, 3) := by decide +kernel
theorem dX6_shot_125 : decode cX6_shot 125 = .ok (.ifCond .ne 5, 3) := by decide +kernel
theorem dX6_shot_128 : decode cX6_shot 128 = .ok (.iconst 0, 1) := by decide +kernel
theorem dX6_shot_129 : decode cX6_shot 129 = .ok (.ireturn, 1) := by decide +kernel
theorem dX6_shot_130 : decode cX6_shot 130 = .ok (.aload_n 0, 1) := by decide +kernel
theorem dX6_shot_131 : decode cX6_shot 131 = .ok (.getfield 16, 3) := by decide +kernel
theorem dX6_shot_134 : decode cX6_shot 134 = .ok (.iload_n 1, 1) := by decide +kernel
theorem dX6_shot_135 : decode cX6_shot 135 = .ok (.dup2, 1) := by decide +kernel
theorem dX6_shot_136 : decode cX6_shot 136 = .ok (.iaload, 1) := by decide +kernel
theorem dX6_shot_137 : decode cX6_shot 137 = .ok (.iload 8, 2) := by decide +kernel
theorem dX6_shot_139 : decode cX6_shot 139 = .ok (.isub, 1) := by decide +kernel
theorem dX6_shot_140 : decode cX6_shot 140 = .ok (.iastore, 1) := by decide +kernel
theorem dX6_shot_141 : decode cX6_shot 141 = .ok (.aload_n 0, 1) := by decide +kernel
theorem dX6_shot_142 : decode cX6_shot 142 = .ok (.getfield 25, 3) := by decide +kernel
theorem dX6_shot_145 : decode cX6_shot 145 = .ok (.iload_n 1, 1) := by decide +kernel
theorem dX6_shot_146 : decode cX6_shot 146 = .ok (.dup2, 1) := by decide +kernel
theorem dX6_shot_147 : decode cX6_shot 147 = .ok (.iaload, 1) := by decide +kernel
theorem dX6_shot_148 : decode cX6_shot 148 = .ok (.iconst 1, 1) := by decide +kernel
theorem dX6_shot_149 : decode cX6_shot 149 = .ok (.iadd, 1) := by decide +kernel
theorem dX6_shot_150 : decode cX6_shot 150 = .ok (.iastore, 1) := by decide +kernel
theorem dX6_shot_151 : decode cX6_shot 151 = .ok (.aload_n 0, 1) := by decide +kernel
theorem dX6_shot_152 : decode cX6_shot 152 = .ok (.getfield 35, 3) := by decide +kernel
theorem dX6_shot_155 : decode cX6_shot 155 = .ok (.iload 9, 2) := by decide +kernel
theorem dX6_shot_157 : decode cX6_shot 157 = .ok (.iconst 1, 1) := by decide +kernel
theorem dX6_shot_158 : decode cX6_shot 158 = .ok (.bastore, 1) := by decide +kernel
theorem dX6_shot_159 : decode cX6_shot 159 = .ok (.aload_n 0, 1) := by decide +kernel
theorem dX6_shot_160 : decode cX6_shot 160 = .ok (.getfield 41, 3) := by decide +kernel
theorem dX6_shot_163 : decode cX6_shot 163 = .ok (.iload 9, 2) := by decide +kernel
theorem dX6_shot_165 : decode cX6_shot 165 = .ok (.iconst 0, 1) := by decide +kernel
theorem dX6_shot_166 : decode cX6_shot 166 = .ok (.bastore, 1) := by decide +kernel
theorem dX6_shot_167 : decode cX6_shot 167 = .ok (.aload_n 0, 1) := by decide +kernel
theorem dX6_shot_168 : decode cX6_shot 168 = .ok (.getfield 38, 3) := by decide +kernel
theorem dX6_shot_171 : decode cX6_shot 171 = .ok (.iload 9, 2) := by decide +kernel
theorem dX6_shot_173 : decode cX6_shot 173 = .ok (.aload_n 0, 1) := by decide +kernel
theorem dX6_shot_174 : decode cX6_shot 174 = .ok (.getfield 116, 3) := by decide +kernel
theorem dX6_shot_177 : decode cX6_shot 177 = .ok (.iconst 5, 1) := by decide +kernel
theorem dX6_shot_178 : decode cX6_shot 178 = .ok (.if_icmp .le 7, 3) := by decide +kernel
theorem dX6_shot_181 : decode cX6_shot 181 = .ok (.iconst 1, 1) := by decide +kernel
theorem dX6_shot_182 : decode cX6_shot 182 = .ok (.goto 4, 3) := by decide +kernel
theorem dX6_shot_185 : decode cX6_shot 185 = .ok (.iconst 0, 1) := by decide +kernel
theorem dX6_shot_186 : decode cX6_shot 186 = .ok (.bastore, 1) := by decide +kernel
theorem dX6_shot_187 : decode cX6_shot 187 = .ok (.aload_n 0, 1) := by decide +kernel
theorem dX6_shot_188 : decode cX6_shot 188 = .ok (.getfield 44, 3) := by decide +kernel
theorem dX6_shot_191 : decode cX6_shot 191 = .ok (.iload 9, 2) := by decide +kernel
theorem dX6_shot_193 : decode cX6_shot 193 = .ok (.lload 4, 2) := by decide +kernel
theorem dX6_shot_195 : decode cX6_shot 195 = .ok (.lastore, 1) := by decide +kernel
theorem dX6_shot_196 : decode cX6_shot 196 = .ok (.aload_n 0, 1) := by decide +kernel
theorem dX6_shot_197 : decode cX6_shot 197 = .ok (.dup, 1) := by decide +kernel
theorem dX6_shot_198 : decode cX6_shot 198 = .ok (.getfield 116, 3) := by decide +kernel
theorem dX6_shot_201 : decode cX6_shot 201 = .ok (.iconst 1, 1) := by decide +kernel
theorem dX6_shot_202 : decode cX6_shot 202 = .ok (.iadd, 1) := by decide +kernel
theorem dX6_shot_203 : decode cX6_shot 203 = .ok (.putfield 116, 3) := by decide +kernel
theorem dX6_shot_206 : decode cX6_shot 206 = .ok (.iconst 0, 1) := by decide +kernel
theorem dX6_shot_207 : decode cX6_shot 207 = .ok (.istore 11, 2) := by decide +kernel
theorem dX6_shot_209 : decode cX6_shot 209 = .ok (.iload 11, 2) := by decide +kernel
theorem dX6_shot_211 : decode cX6_shot 211 = .ok (.iconst 4, 1) := by decide +kernel
theorem dX6_shot_212 : decode cX6_shot 212 = .ok (.if_icmp .ge 48, 3) := by decide +kernel
theorem dX6_shot_215 : decode cX6_shot 215 = .ok (.aload_n 0, 1) := by decide +kernel
theorem dX6_shot_216 : decode cX6_shot 216 = .ok (.getfield 60, 3) := by decide +kernel
theorem dX6_shot_219 : decode cX6_shot 219 = .ok (.iload 11, 2) := by decide +kernel
theorem dX6_shot_221 : decode cX6_shot 221 = .ok (.baload, 1) := by decide +kernel
theorem dX6_shot_222 : decode cX6_shot 222 = .ok (.ifCond .ne 32, 3) := by decide +kernel
theorem dX6_shot_225 : decode cX6_shot 225 = .ok (.aload_n 0, 1) := by decide +kernel
theorem dX6_shot_226 : decode cX6_shot 226 = .ok (.getfield 54, 3) := by decide +kernel
theorem dX6_shot_229 : decode cX6_shot 229 = .ok (.bipush 72, 2) := by decide +kernel
theorem dX6_shot_231 : decode cX6_shot 231 = .ok (.iload 11, 2) := by decide +kernel
theorem dX6_shot_233 : decode cX6_shot 233 = .ok (.imul, 1) := by decide +kernel
theorem dX6_shot_234 : decode cX6_shot 234 = .ok (.iload 9, 2) := by decide +kernel
theorem dX6_shot_236 : decode cX6_shot 236 = .ok (.iadd, 1) := by decide +kernel
theorem dX6_shot_237 : decode cX6_shot 237 = .ok (.iconst 1, 1) := by decide +kernel
theorem dX6_shot_238 : decode cX6_shot 238 = .ok (.bastore, 1) := by decide +kernel
theorem dX6_shot_239 : decode cX6_shot 239 = .ok (.aload_n 0, 1) := by decide +kernel
theorem dX6_shot_240 : decode cX6_shot 240 = .ok (.getfield 57, 3) := by decide +kernel
theorem dX6_shot_243 : decode cX6_shot 243 = .ok (.bipush 72, 2) := by decide +kernel
theorem dX6_shot_245 : decode cX6_shot 245 = .ok (.iload 11, 2) := by decide +kernel
theorem dX6_shot_247 : decode cX6_shot 247 = .ok (.imul, 1) := by decide +kernel
theorem dX6_shot_248 : decode cX6_shot 248 = .ok (.iload 9, 2) := by decide +kernel
theorem dX6_shot_250 : decode cX6_shot 250 = .ok (.iadd, 1) := by decide +kernel
theorem dX6_shot_251 : decode cX6_shot 251 = .ok (.lload 4, 2) := by decide +kernel
theorem dX6_shot_253 : decode cX6_shot 253 = .ok (.lastore, 1) := by decide +kernel
theorem dX6_shot_254 : decode cX6_shot 254 = .ok (.iinc 11 1, 3) := by decide +kernel
theorem dX6_shot_257 : decode cX6_shot 257 = .ok (.goto (-48), 3) := by decide +kernel
theorem dX6_shot_260 : decode cX6_shot 260 = .ok (.aload_n 0, 1) := by decide +kernel
theorem dX6_shot_261 : decode cX6_shot 261 = .ok (.getfield 16, 3) := by decide +kernel
theorem dX6_shot_264 : decode cX6_shot 264 = .ok (.iload_n 1, 1) := by decide +kernel
theorem dX6_shot_265 : decode cX6_shot 265 = .ok (.iaload, 1) := by decide +kernel
theorem dX6_shot_266 : decode cX6_shot 266 = .ok (.ireturn, 1) := by decide +kernel
theorem dX6_look_0 : decode cX6_look 0 = .ok (.aload_n 0, 1) := by decide +kernel
theorem dX6_look_1 : decode cX6_look 1 = .ok (.iload_n 1, 1) := by decide +kernel
theorem dX6_look_2 : decode cX6_look 2 = .ok (.iload_n 2, 1) := by decide +kernel
theorem dX6_look_3 : decode cX6_look 3 = .ok (.invokevirtual 105, 3) := by decide +kernel
theorem dX6_look_6 : decode cX6_look 6 = .ok (.istore_n 3, 1) := by decide +kernel
theorem dX6_look_7 : decode cX6_look 7 = .ok (.bipush 12, 2) := by decide +kernel
theorem dX6_look_9 : decode cX6_look 9 = .ok (.iload_n 1, 1) := by decide +kernel
theorem dX6_look_10 : decode cX6_look 10 = .ok (.imul, 1) := by decide +kernel
theorem dX6_look_11 : decode cX6_look 11 = .ok (.iload_n 2, 1) := by decide +kernel
theorem dX6_look_12 : decode cX6_look 12 = .ok (.iadd, 1) := by decide +kernel
theorem dX6_look_13 : decode cX6_look 13 = .ok (.istore 4, 2) := by decide +kernel
theorem dX6_look_15 : decode cX6_look 15 = .ok (.aload_n 0, 1) := by decide +kernel
theorem dX6_look_16 : decode cX6_look 16 = .ok (.iload_n 3, 1) := by decide +kernel
theorem dX6_look_17 : decode cX6_look 17 = .ok (.ifCond .ne 7, 3) := by decide +kernel
theorem dX6_look_20 : decode cX6_look 20 = .ok (.iconst 1, 1) := by decide +kernel
theorem dX6_look_21 : decode cX6_look 21 = .ok (.goto 18, 3) := by decide +kernel
theorem dX6_look_24 : decode cX6_look 24 = .ok (.aload_n 0, 1) := by decide +kernel
theorem dX6_look_25 : decode cX6_look 25 = .ok (.getfield 35, 3) := by decide +kernel
theorem dX6_look_28 : decode cX6_look 28 = .ok (.iload 4, 2) := by decide +kernel
theorem dX6_look_30 : decode cX6_look 30 = .ok (.baload, 1) := by decide +kernel
theorem dX6_look_31 : decode cX6_look 31 = .ok (.ifCond .eq 7, 3) := by decide +kernel
theorem dX6_look_34 : decode cX6_look 34 = .ok (.iconst 0, 1) := by decide +kernel
theorem dX6_look_35 : decode cX6_look 35 = .ok (.goto 4, 3) := by decide +kernel
theorem dX6_look_38 : decode cX6_look 38 = .ok (.iconst 2, 1) := by decide +kernel
theorem dX6_look_39 : decode cX6_look 39 = .ok (.invokevirtual 109, 3) := by decide +kernel
theorem dX6_look_42 : decode cX6_look 42 = .ok (.ifCond .ne 5, 3) := by decide +kernel
theorem dX6_look_45 : decode cX6_look 45 = .ok (.iconst 0, 1) := by decide +kernel
theorem dX6_look_46 : decode cX6_look 46 = .ok (.ireturn, 1) := by decide +kernel
theorem dX6_look_47 : decode cX6_look 47 = .ok (.aload_n 0, 1) := by decide +kernel
theorem dX6_look_48 : decode cX6_look 48 = .ok (.getfield 41, 3) := by decide +kernel
theorem dX6_look_51 : decode cX6_look 51 = .ok (.iload 4, 2) := by decide +kernel
theorem dX6_look_53 : decode cX6_look 53 = .ok (.aload_n 0, 1) := by decide +kernel
theorem dX6_look_54 : decode cX6_look 54 = .ok (.getfield 41, 3) := by decide +kernel
theorem dX6_look_57 : decode cX6_look 57 = .ok (.iload 4, 2) := by decide +kernel
theorem dX6_look_59 : decode cX6_look 59 = .ok (.baload, 1) := by decide +kernel
theorem dX6_look_60 : decode cX6_look 60 = .ok (.ifCond .ne 13, 3) := by decide +kernel
theorem dX6_look_63 : decode cX6_look 63 = .ok (.aload_n 0, 1) := by decide +kernel
theorem dX6_look_64 : decode cX6_look 64 = .ok (.getfield 38, 3) := by decide +kernel
theorem dX6_look_67 : decode cX6_look 67 = .ok (.iload 4, 2) := by decide +kernel
theorem dX6_look_69 : decode cX6_look 69 = .ok (.baload, 1) := by decide +kernel
theorem dX6_look_70 : decode cX6_look 70 = .ok (.ifCond .eq 7, 3) := by decide +kernel
theorem dX6_look_73 : decode cX6_look 73 = .ok (.iconst 1, 1) := by decide +kernel
theorem dX6_look_74 : decode cX6_look 74 = .ok (.goto 4, 3) := by decide +kernel
theorem dX6_look_77 : decode cX6_look 77 = .ok (.iconst 0, 1) := by decide +kernel
theorem dX6_look_78 : decode cX6_look 78 = .ok (.bastore, 1) := by decide +kernel
theorem dX6_look_79 : decode cX6_look 79 = .ok (.aload_n 0, 1) := by decide +kernel
theorem dX6_look_80 : decode cX6_look 80 = .ok (.getfield 38, 3) := by decide +kernel
theorem dX6_look_83 : decode cX6_look 83 = .ok (.iload 4, 2) := by decide +kernel
theorem dX6_look_85 : decode cX6_look 85 = .ok (.baload, 1) := by decide +kernel
theorem dX6_look_86 : decode cX6_look 86 = .ok (.ireturn, 1) := by decide +kernel
theorem dX6_calibrate_0 : decode cX6_calibrate 0 = .ok (.aload_n 0, 1) := by decide +kernel
theorem dX6_calibrate_1 : decode cX6_calibrate 1 = .ok (.iconst 0, 1) := by decide +kernel
theorem dX6_calibrate_2 : decode cX6_calibrate 2 = .ok (.putfield 91, 3) := by decide +kernel
theorem dX6_calibrate_5 : decode cX6_calibrate 5 = .ok (.aload_n 0, 1) := by decide +kernel
theorem dX6_calibrate_6 : decode cX6_calibrate 6 = .ok (.getfield 116, 3) := by decide +kernel
theorem dX6_calibrate_9 : decode cX6_calibrate 9 = .ok (.istore_n 1, 1) := by decide +kernel
theorem dX6_calibrate_10 : decode cX6_calibrate 10 = .ok (.aload_n 0, 1) := by decide +kernel
theorem dX6_calibrate_11 : decode cX6_calibrate 11 = .ok (.iconst 0, 1) := by decide +kernel
theorem dX6_calibrate_12 : decode cX6_calibrate 12 = .ok (.putfield 116, 3) := by decide +kernel
theorem dX6_calibrate_15 : decode cX6_calibrate 15 = .ok (.iload_n 1, 1) := by decide +kernel
theorem dX6_calibrate_16 : decode cX6_calibrate 16 = .ok (.ireturn, 1) := by decide +kernel
theorem dX6_proof_0 : decode cX6_proof 0 = .ok (.lload_n 0, 1) := by decide +kernel
theorem dX6_proof_1 : decode cX6_proof 1 = .ok (.ldc2_w 119, 3) := by decide +kernel
theorem dX6_proof_4 : decode cX6_proof 4 = .ok (.lmul, 1) := by decide +kernel
theorem dX6_proof_5 : decode cX6_proof 5 = .ok (.ldc2_w 121, 3) := by decide +kernel
theorem dX6_proof_8 : decode cX6_proof 8 = .ok (.ladd, 1) := by decide +kernel
theorem dX6_proof_9 : decode cX6_proof 9 = .ok (.lreturn, 1) := by decide +kernel
theorem dX6_holds_0 : decode cX6_holds 0 = .ok (.aload_n 0, 1) := by decide +kernel
theorem dX6_holds_1 : decode cX6_holds 1 = .ok (.getfield 54, 3) := by decide +kernel
theorem dX6_holds_4 : decode cX6_holds 4 = .ok (.bipush 72, 2) := by decide +kernel
theorem dX6_holds_6 : decode cX6_holds 6 = .ok (.iload_n 1, 1) := by decide +kernel
theorem dX6_holds_7 : decode cX6_holds 7 = .ok (.imul, 1) := by decide +kernel
theorem dX6_holds_8 : decode cX6_holds 8 = .ok (.iload_n 2, 1) := by decide +kernel
theorem dX6_holds_9 : decode cX6_holds 9 = .ok (.iadd, 1) := by decide +kernel
theorem dX6_holds_10 : decode cX6_holds 10 = .ok (.baload, 1) := by decide +kernel
theorem dX6_holds_11 : decode cX6_holds 11 = .ok (.ifCond .eq 43, 3) := by decide +kernel
theorem dX6_holds_14 : decode cX6_holds 14 = .ok (.aload_n 0, 1) := by decide +kernel
theorem dX6_holds_15 : decode cX6_holds 15 = .ok (.getfield 35, 3) := by decide +kernel
theorem dX6_holds_18 : decode cX6_holds 18 = .ok (.iload_n 2, 1) := by decide +kernel
theorem dX6_holds_19 : decode cX6_holds 19 = .ok (.baload, 1) := by decide +kernel
theorem dX6_holds_20 : decode cX6_holds 20 = .ok (.ifCond .eq 34, 3) := by decide +kernel
theorem dX6_holds_23 : decode cX6_holds 23 = .ok (.aload_n 0, 1) := by decide +kernel
theorem dX6_holds_24 : decode cX6_holds 24 = .ok (.getfield 57, 3) := by decide +kernel
theorem dX6_holds_27 : decode cX6_holds 27 = .ok (.bipush 72, 2) := by decide +kernel
theorem dX6_holds_29 : decode cX6_holds 29 = .ok (.iload_n 1, 1) := by decide +kernel
theorem dX6_holds_30 : decode cX6_holds 30 = .ok (.imul, 1) := by decide +kernel
theorem dX6_holds_31 : decode cX6_holds 31 = .ok (.iload_n 2, 1) := by decide +kernel
theorem dX6_holds_32 : decode cX6_holds 32 = .ok (.iadd, 1) := by decide +kernel
theorem dX6_holds_33 : decode cX6_holds 33 = .ok (.laload, 1) := by decide +kernel
theorem dX6_holds_34 : decode cX6_holds 34 = .ok (.invokestatic 123, 3) := by decide +kernel
theorem dX6_holds_37 : decode cX6_holds 37 = .ok (.aload_n 0, 1) := by decide +kernel
theorem dX6_holds_38 : decode cX6_holds 38 = .ok (.getfield 44, 3) := by decide +kernel
theorem dX6_holds_41 : decode cX6_holds 41 = .ok (.iload_n 2, 1) := by decide +kernel
theorem dX6_holds_42 : decode cX6_holds 42 = .ok (.laload, 1) := by decide +kernel
theorem dX6_holds_43 : decode cX6_holds 43 = .ok (.invokestatic 123, 3) := by decide +kernel
theorem dX6_holds_46 : decode cX6_holds 46 = .ok (.lcmp, 1) := by decide +kernel
theorem dX6_holds_47 : decode cX6_holds 47 = .ok (.ifCond .ne 7, 3) := by decide +kernel
theorem dX6_holds_50 : decode cX6_holds 50 = .ok (.iconst 1, 1) := by decide +kernel
theorem dX6_holds_51 : decode cX6_holds 51 = .ok (.goto 4, 3) := by decide +kernel
theorem dX6_holds_54 : decode cX6_holds 54 = .ok (.iconst 0, 1) := by decide +kernel
theorem dX6_holds_55 : decode cX6_holds 55 = .ok (.ireturn, 1) := by decide +kernel
theorem dX6_holder_0 : decode cX6_holder 0 = .ok (.iconst (-1), 1) := by decide +kernel
theorem dX6_holder_1 : decode cX6_holder 1 = .ok (.istore_n 2, 1) := by decide +kernel
theorem dX6_holder_2 : decode cX6_holder 2 = .ok (.iconst 3, 1) := by decide +kernel
theorem dX6_holder_3 : decode cX6_holder 3 = .ok (.istore_n 3, 1) := by decide +kernel
theorem dX6_holder_4 : decode cX6_holder 4 = .ok (.iload_n 3, 1) := by decide +kernel
theorem dX6_holder_5 : decode cX6_holder 5 = .ok (.ifCond .lt 24, 3) := by decide +kernel
theorem dX6_holder_8 : decode cX6_holder 8 = .ok (.aload_n 0, 1) := by decide +kernel
theorem dX6_holder_9 : decode cX6_holder 9 = .ok (.iload_n 3, 1) := by decide +kernel
theorem dX6_holder_10 : decode cX6_holder 10 = .ok (.iload_n 1, 1) := by decide +kernel
theorem dX6_holder_11 : decode cX6_holder 11 = .ok (.invokevirtual 127, 3) := by decide +kernel
theorem dX6_holder_14 : decode cX6_holder 14 = .ok (.ifCond .eq 7, 3) := by decide +kernel
theorem dX6_holder_17 : decode cX6_holder 17 = .ok (.iload_n 3, 1) := by decide +kernel
theorem dX6_holder_18 : decode cX6_holder 18 = .ok (.goto 4, 3) := by decide +kernel
theorem dX6_holder_21 : decode cX6_holder 21 = .ok (.iload_n 2, 1) := by decide +kernel
theorem dX6_holder_22 : decode cX6_holder 22 = .ok (.istore_n 2, 1) := by decide +kernel
theorem dX6_holder_23 : decode cX6_holder 23 = .ok (.iinc 3 (-1), 3) := by decide +kernel
theorem dX6_holder_26 : decode cX6_holder 26 = .ok (.goto (-22), 3) := by decide +kernel
theorem dX6_holder_29 : decode cX6_holder 29 = .ok (.iload_n 2, 1) := by decide +kernel
theorem dX6_holder_30 : decode cX6_holder 30 = .ok (.ireturn, 1) := by decide +kernel
theorem dX6_rot_0 : decode cX6_rot 0 = .ok (.iload_n 1, 1) := by decide +kernel
theorem dX6_rot_1 : decode cX6_rot 1 = .ok (.invokestatic 130, 3) := by decide +kernel
theorem dX6_rot_4 : decode cX6_rot 4 = .ok (.ifCond .eq 16, 3) := by decide +kernel
theorem dX6_rot_7 : decode cX6_rot 7 = .ok (.aload_n 0, 1) := by decide +kernel
theorem dX6_rot_8 : decode cX6_rot 8 = .ok (.iload_n 2, 1) := by decide +kernel
theorem dX6_rot_9 : decode cX6_rot 9 = .ok (.iload_n 3, 1) := by decide +kernel
theorem dX6_rot_10 : decode cX6_rot 10 = .ok (.invokevirtual 105, 3) := by decide +kernel
theorem dX6_rot_13 : decode cX6_rot 13 = .ok (.ifCond .eq 7, 3) := by decide +kernel
theorem dX6_rot_16 : decode cX6_rot 16 = .ok (.iconst 1, 1) := by decide +kernel
theorem dX6_rot_17 : decode cX6_rot 17 = .ok (.goto 4, 3) := by decide +kernel
theorem dX6_rot_20 : decode cX6_rot 20 = .ok (.iconst 0, 1) := by decide +kernel
theorem dX6_rot_21 : decode cX6_rot 21 = .ok (.istore 5, 2) := by decide +kernel
theorem dX6_rot_23 : decode cX6_rot 23 = .ok (.iload 4, 2) := by decide +kernel
theorem dX6_rot_25 : decode cX6_rot 25 = .ok (.iconst 0, 1) := by decide +kernel
theorem dX6_rot_26 : decode cX6_rot 26 = .ok (.bipush 63, 2) := by decide +kernel
theorem dX6_rot_28 : decode cX6_rot 28 = .ok (.invokestatic 97, 3) := by decide +kernel
theorem dX6_rot_31 : decode cX6_rot 31 = .ok (.istore 6, 2) := by decide +kernel
theorem dX6_rot_33 : decode cX6_rot 33 = .ok (.bipush 12, 2) := by decide +kernel
theorem dX6_rot_35 : decode cX6_rot 35 = .ok (.iload_n 2, 1) := by decide +kernel
theorem dX6_rot_36 : decode cX6_rot 36 = .ok (.imul, 1) := by decide +kernel
theorem dX6_rot_37 : decode cX6_rot 37 = .ok (.iload_n 3, 1) := by decide +kernel
theorem dX6_rot_38 : decode cX6_rot 38 = .ok (.iadd, 1) := by decide +kernel
theorem dX6_rot_39 : decode cX6_rot 39 = .ok (.istore 7, 2) := by decide +kernel
theorem dX6_rot_41 : decode cX6_rot 41 = .ok (.aload_n 0, 1) := by decide +kernel
theorem dX6_rot_42 : decode cX6_rot 42 = .ok (.iload 5, 2) := by decide +kernel
theorem dX6_rot_44 : decode cX6_rot 44 = .ok (.ifCond .ne 7, 3) := by decide +kernel
theorem dX6_rot_47 : decode cX6_rot 47 = .ok (.iconst 1, 1) := by decide +kernel
theorem dX6_rot_48 : decode cX6_rot 48 = .ok (.goto 32, 3) := by decide +kernel
theorem dX6_rot_51 : decode cX6_rot 51 = .ok (.iload 6, 2) := by decide +kernel
theorem dX6_rot_53 : decode cX6_rot 53 = .ok (.ifCond .ne 7, 3) := by decide +kernel
theorem dX6_rot_56 : decode cX6_rot 56 = .ok (.iconst 2, 1) := by decide +kernel
theorem dX6_rot_57 : decode cX6_rot 57 = .ok (.goto 23, 3) := by decide +kernel
theorem dX6_rot_60 : decode cX6_rot 60 = .ok (.aload_n 0, 1) := by decide +kernel
theorem dX6_rot_61 : decode cX6_rot 61 = .ok (.getfield 54, 3) := by decide +kernel
theorem dX6_rot_64 : decode cX6_rot 64 = .ok (.bipush 72, 2) := by decide +kernel
theorem dX6_rot_66 : decode cX6_rot 66 = .ok (.iload_n 1, 1) := by decide +kernel
theorem dX6_rot_67 : decode cX6_rot 67 = .ok (.imul, 1) := by decide +kernel
theorem dX6_rot_68 : decode cX6_rot 68 = .ok (.iload 7, 2) := by decide +kernel
theorem dX6_rot_70 : decode cX6_rot 70 = .ok (.iadd, 1) := by decide +kernel
theorem dX6_rot_71 : decode cX6_rot 71 = .ok (.baload, 1) := by decide +kernel
theorem dX6_rot_72 : decode cX6_rot 72 = .ok (.ifCond .eq 7, 3) := by decide +kernel
theorem dX6_rot_75 : decode cX6_rot 75 = .ok (.iconst 0, 1) := by decide +kernel
theorem dX6_rot_76 : decode cX6_rot 76 = .ok (.goto 4, 3) := by decide +kernel
theorem dX6_rot_79 : decode cX6_rot 79 = .ok (.iconst 3, 1) := by decide +kernel
theorem dX6_rot_80 : decode cX6_rot 80 = .ok (.invokevirtual 109, 3) := by decide +kernel
theorem dX6_rot_83 : decode cX6_rot 83 = .ok (.ifCond .ne 5, 3) := by decide +kernel
theorem dX6_rot_86 : decode cX6_rot 86 = .ok (.iconst 0, 1) := by decide +kernel
theorem dX6_rot_87 : decode cX6_rot 87 = .ok (.ireturn, 1) := by decide +kernel
theorem dX6_rot_88 : decode cX6_rot 88 = .ok (.aload_n 0, 1) := by decide +kernel
theorem dX6_rot_89 : decode cX6_rot 89 = .ok (.getfield 57, 3) := by decide +kernel
theorem dX6_rot_92 : decode cX6_rot 92 = .ok (.bipush 72, 2) := by decide +kernel
theorem dX6_rot_94 : decode cX6_rot 94 = .ok (.iload_n 1, 1) := by decide +kernel
theorem dX6_rot_95 : decode cX6_rot 95 = .ok (.imul, 1) := by decide +kernel
theorem dX6_rot_96 : decode cX6_rot 96 = .ok (.iload 7, 2) := by decide +kernel
theorem dX6_rot_98 : decode cX6_rot 98 = .ok (.iadd, 1) := by decide +kernel
theorem dX6_rot_99 : decode cX6_rot 99 = .ok (.dup2, 1) := by decide +kernel
theorem dX6_rot_100 : decode cX6_rot 100 = .ok (.laload, 1) := by decide +kernel
theorem dX6_rot_101 : decode cX6_rot 101 = .ok (.lconst 1, 1) := by decide +kernel
theorem dX6_rot_102 : decode cX6_rot 102 = .ok (.iload 4, 2) := by decide +kernel
theorem dX6_rot_104 : decode cX6_rot 104 = .ok (.lshl, 1) := by decide +kernel
theorem dX6_rot_105 : decode cX6_rot 105 = .ok (.lxor, 1) := by decide +kernel
theorem dX6_rot_106 : decode cX6_rot 106 = .ok (.lastore, 1) := by decide +kernel
theorem dX6_rot_107 : decode cX6_rot 107 = .ok (.aload_n 0, 1) := by decide +kernel
theorem dX6_rot_108 : decode cX6_rot 108 = .ok (.iload_n 1, 1) := by decide +kernel
theorem dX6_rot_109 : decode cX6_rot 109 = .ok (.iload 7, 2) := by decide +kernel
theorem dX6_rot_111 : decode cX6_rot 111 = .ok (.invokevirtual 127, 3) := by decide +kernel
theorem dX6_rot_114 : decode cX6_rot 114 = .ok (.ireturn, 1) := by decide +kernel
theorem dX6_burn_0 : decode cX6_burn 0 = .ok (.iload_n 1, 1) := by decide +kernel
theorem dX6_burn_1 : decode cX6_burn 1 = .ok (.invokestatic 130, 3) := by decide +kernel
theorem dX6_burn_4 : decode cX6_burn 4 = .ok (.istore_n 2, 1) := by decide +kernel
theorem dX6_burn_5 : decode cX6_burn 5 = .ok (.aload_n 0, 1) := by decide +kernel
theorem dX6_burn_6 : decode cX6_burn 6 = .ok (.iload_n 2, 1) := by decide +kernel
theorem dX6_burn_7 : decode cX6_burn 7 = .ok (.ifCond .ne 7, 3) := by decide +kernel
theorem dX6_burn_10 : decode cX6_burn 10 = .ok (.iconst 1, 1) := by decide +kernel
theorem dX6_burn_11 : decode cX6_burn 11 = .ok (.goto 17, 3) := by decide +kernel
theorem dX6_burn_14 : decode cX6_burn 14 = .ok (.aload_n 0, 1) := by decide +kernel
theorem dX6_burn_15 : decode cX6_burn 15 = .ok (.getfield 60, 3) := by decide +kernel
theorem dX6_burn_18 : decode cX6_burn 18 = .ok (.iload_n 1, 1) := by decide +kernel
theorem dX6_burn_19 : decode cX6_burn 19 = .ok (.baload, 1) := by decide +kernel
theorem dX6_burn_20 : decode cX6_burn 20 = .ok (.ifCond .eq 7, 3) := by decide +kernel
theorem dX6_burn_23 : decode cX6_burn 23 = .ok (.iconst 2, 1) := by decide +kernel
theorem dX6_burn_24 : decode cX6_burn 24 = .ok (.goto 4, 3) := by decide +kernel
theorem dX6_burn_27 : decode cX6_burn 27 = .ok (.iconst 0, 1) := by decide +kernel
theorem dX6_burn_28 : decode cX6_burn 28 = .ok (.invokevirtual 109, 3) := by decide +kernel
theorem dX6_burn_31 : decode cX6_burn 31 = .ok (.ifCond .ne 5, 3) := by decide +kernel
theorem dX6_burn_34 : decode cX6_burn 34 = .ok (.iconst 0, 1) := by decide +kernel
theorem dX6_burn_35 : decode cX6_burn 35 = .ok (.ireturn, 1) := by decide +kernel
theorem dX6_burn_36 : decode cX6_burn 36 = .ok (.iconst 0, 1) := by decide +kernel
theorem dX6_burn_37 : decode cX6_burn 37 = .ok (.istore_n 3, 1) := by decide +kernel
theorem dX6_burn_38 : decode cX6_burn 38 = .ok (.iconst 0, 1) := by decide +kernel
theorem dX6_burn_39 : decode cX6_burn 39 = .ok (.istore 4, 2) := by decide +kernel
theorem dX6_burn_41 : decode cX6_burn 41 = .ok (.iload 4, 2) := by decide +kernel
theorem dX6_burn_43 : decode cX6_burn 43 = .ok (.bipush 72, 2) := by decide +kernel
theorem dX6_burn_45 : decode cX6_burn 45 = .ok (.if_icmp .ge 45, 3) := by decide +kernel
theorem dX6_burn_48 : decode cX6_burn 48 = .ok (.iload_n 3, 1) := by decide +kernel
theorem dX6_burn_49 : decode cX6_burn 49 = .ok (.aload_n 0, 1) := by decide +kernel
theorem dX6_burn_50 : decode cX6_burn 50 = .ok (.getfield 54, 3) := by decide +kernel
theorem dX6_burn_53 : decode cX6_burn 53 = .ok (.bipush 72, 2) := by decide +kernel
theorem dX6_burn_55 : decode cX6_burn 55 = .ok (.iload_n 1, 1) := by decide +kernel
theorem dX6_burn_56 : decode cX6_burn 56 = .ok (.imul, 1) := by decide +kernel
theorem dX6_burn_57 : decode cX6_burn 57 = .ok (.iload 4, 2) := by decide +kernel
theorem dX6_burn_59 : decode cX6_burn 59 = .ok (.iadd, 1) := by decide +kernel
theorem dX6_burn_60 : decode cX6_burn 60 = .ok (.baload, 1) := by decide +kernel
theorem dX6_burn_61 : decode cX6_burn 61 = .ok (.ifCond .eq 7, 3) := by decide +kernel
theorem dX6_burn_64 : decode cX6_burn 64 = .ok (.iconst 1, 1) := by decide +kernel
theorem dX6_burn_65 : decode cX6_burn 65 = .ok (.goto 4, 3) := by decide +kernel
theorem dX6_burn_68 : decode cX6_burn 68 = .ok (.iconst 0, 1) := by decide +kernel
theorem dX6_burn_69 : decode cX6_burn 69 = .ok (.iadd, 1) := by decide +kernel
theorem dX6_burn_70 : decode cX6_burn 70 = .ok (.istore_n 3, 1) := by decide +kernel
theorem dX6_burn_71 : decode cX6_burn 71 = .ok (.aload_n 0, 1) := by decide +kernel
theorem dX6_burn_72 : decode cX6_burn 72 = .ok (.getfield 54, 3) := by decide +kernel
theorem dX6_burn_75 : decode cX6_burn 75 = .ok (.bipush 72, 2) := by decide +kernel
theorem dX6_burn_77 : decode cX6_burn 77 = .ok (.iload_n 1, 1) := by decide +kernel
theorem dX6_burn_78 : decode cX6_burn 78 = .ok (.imul, 1) := by decide +kernel
theorem dX6_burn_79 : decode cX6_burn 79 = .ok (.iload 4, 2) := by decide +kernel
theorem dX6_burn_81 : decode cX6_burn 81 = .ok (.iadd, 1) := by decide +kernel
theorem dX6_burn_82 : decode cX6_burn 82 = .ok (.iconst 0, 1) := by decide +kernel
theorem dX6_burn_83 : decode cX6_burn 83 = .ok (.bastore, 1) := by decide +kernel
theorem dX6_burn_84 : decode cX6_burn 84 = .ok (.iinc 4 1, 3) := by decide +kernel
theorem dX6_burn_87 : decode cX6_burn 87 = .ok (.goto (-46), 3) := by decide +kernel
theorem dX6_burn_90 : decode cX6_burn 90 = .ok (.aload_n 0, 1) := by decide +kernel
theorem dX6_burn_91 : decode cX6_burn 91 = .ok (.getfield 60, 3) := by decide +kernel
theorem dX6_burn_94 : decode cX6_burn 94 = .ok (.iload_n 1, 1) := by decide +kernel
theorem dX6_burn_95 : decode cX6_burn 95 = .ok (.iconst 1, 1) := by decide +kernel
theorem dX6_burn_96 : decode cX6_burn 96 = .ok (.bastore, 1) := by decide +kernel
theorem dX6_burn_97 : decode cX6_burn 97 = .ok (.iload_n 3, 1) := by decide +kernel
theorem dX6_burn_98 : decode cX6_burn 98 = .ok (.ireturn, 1) := by decide +kernel
theorem dX6_build_0 : decode cX6_build 0 = .ok (.iload_n 1, 1) := by decide +kernel
theorem dX6_build_1 : decode cX6_build 1 = .ok (.invokestatic 130, 3) := by decide +kernel
theorem dX6_build_4 : decode cX6_build 4 = .ok (.istore_n 2, 1) := by decide +kernel
theorem dX6_build_5 : decode cX6_build 5 = .ok (.aload_n 0, 1) := by decide +kernel
theorem dX6_build_6 : decode cX6_build 6 = .ok (.iload_n 2, 1) := by decide +kernel
theorem dX6_build_7 : decode cX6_build 7 = .ok (.ifCond .ne 7, 3) := by decide +kernel
theorem dX6_build_10 : decode cX6_build 10 = .ok (.iconst 1, 1) := by decide +kernel
theorem dX6_build_11 : decode cX6_build 11 = .ok (.goto 17, 3) := by decide +kernel
theorem dX6_build_14 : decode cX6_build 14 = .ok (.aload_n 0, 1) := by decide +kernel
theorem dX6_build_15 : decode cX6_build 15 = .ok (.getfield 60, 3) := by decide +kernel
theorem dX6_build_18 : decode cX6_build 18 = .ok (.iload_n 1, 1) := by decide +kernel
theorem dX6_build_19 : decode cX6_build 19 = .ok (.baload, 1) := by decide +kernel
theorem dX6_build_20 : decode cX6_build 20 = .ok (.ifCond .eq 7, 3) := by decide +kernel
theorem dX6_build_23 : decode cX6_build 23 = .ok (.iconst 0, 1) := by decide +kernel
theorem dX6_build_24 : decode cX6_build 24 = .ok (.goto 4, 3) := by decide +kernel
theorem dX6_build_27 : decode cX6_build 27 = .ok (.iconst 2, 1) := by decide +kernel
theorem dX6_build_28 : decode cX6_build 28 = .ok (.invokevirtual 109, 3) := by decide +kernel
theorem dX6_build_31 : decode cX6_build 31 = .ok (.ifCond .eq 10, 3) := by decide +kernel
theorem dX6_build_34 : decode cX6_build 34 = .ok (.aload_n 0, 1) := by decide +kernel
theorem dX6_build_35 : decode cX6_build 35 = .ok (.getfield 60, 3) := by decide +kernel
theorem dX6_build_38 : decode cX6_build 38 = .ok (.iload_n 1, 1) := by decide +kernel
theorem dX6_build_39 : decode cX6_build 39 = .ok (.iconst 0, 1) := by decide +kernel
theorem dX6_build_40 : decode cX6_build 40 = .ok (.bastore, 1) := by decide +kernel
theorem dX6_build_41 : decode cX6_build 41 = .ok (.return_, 1) := by decide +kernel
theorem dX6_layTrees_0 : decode cX6_layTrees 0 = .ok (.iconst 0, 1) := by decide +kernel
theorem dX6_layTrees_1 : decode cX6_layTrees 1 = .ok (.istore_n 3, 1) := by decide +kernel
theorem dX6_layTrees_2 : decode cX6_layTrees 2 = .ok (.iload_n 3, 1) := by decide +kernel
theorem dX6_layTrees_3 : decode cX6_layTrees 3 = .ok (.bipush 16, 2) := by decide +kernel
theorem dX6_layTrees_5 : decode cX6_layTrees 5 = .ok (.if_icmp .ge 120, 3) := by decide +kernel
theorem dX6_layTrees_8 : decode cX6_layTrees 8 = .ok (.bipush 12, 2) := by decide +kernel
theorem dX6_layTrees_10 : decode cX6_layTrees 10 = .ok (.iload_n 2, 1) := by decide +kernel
theorem dX6_layTrees_11 : decode cX6_layTrees 11 = .ok (.imul, 1) := by decide +kernel
theorem dX6_layTrees_12 : decode cX6_layTrees 12 = .ok (.iload_n 3, 1) := by decide +kernel
theorem dX6_layTrees_13 : decode cX6_layTrees 13 = .ok (.iadd, 1) := by decide +kernel
theorem dX6_layTrees_14 : decode cX6_layTrees 14 = .ok (.istore 4, 2) := by decide +kernel
theorem dX6_layTrees_16 : decode cX6_layTrees 16 = .ok (.iload_n 3, 1) := by decide +kernel
theorem dX6_layTrees_17 : decode cX6_layTrees 17 = .ok (.aload_n 0, 1) := by decide +kernel
theorem dX6_layTrees_18 : decode cX6_layTrees 18 = .ok (.getfield 7, 3) := by decide +kernel
theorem dX6_layTrees_21 : decode cX6_layTrees 21 = .ok (.iload_n 2, 1) := by decide +kernel
theorem dX6_layTrees_22 : decode cX6_layTrees 22 = .ok (.iaload, 1) := by decide +kernel
theorem dX6_layTrees_23 : decode cX6_layTrees 23 = .ok (.if_icmp .ge 7, 3) := by decide +kernel
theorem dX6_layTrees_26 : decode cX6_layTrees 26 = .ok (.iconst 1, 1) := by decide +kernel
theorem dX6_layTrees_27 : decode cX6_layTrees 27 = .ok (.goto 4, 3) := by decide +kernel
theorem dX6_layTrees_30 : decode cX6_layTrees 30 = .ok (.iconst 0, 1) := by decide +kernel
theorem dX6_layTrees_31 : decode cX6_layTrees 31 = .ok (.istore 5, 2) := by decide +kernel
theorem dX6_layTrees_33 : decode cX6_layTrees 33 = .ok (.aload_n 0, 1) := by decide +kernel
theorem dX6_layTrees_34 : decode cX6_layTrees 34 = .ok (.getfield 63, 3) := by decide +kernel
theorem dX6_layTrees_37 : decode cX6_layTrees 37 = .ok (.bipush 15, 2) := by decide +kernel
theorem dX6_layTrees_39 : decode cX6_layTrees 39 = .ok (.iload_n 3, 1) := by decide +kernel
theorem dX6_layTrees_40 : decode cX6_layTrees 40 = .ok (.iadd, 1) := by decide +kernel
theorem dX6_layTrees_41 : decode cX6_layTrees 41 = .ok (.iload 5, 2) := by decide +kernel
theorem dX6_layTrees_43 : decode cX6_layTrees 43 = .ok (.ifCond .eq 26, 3) := by decide +kernel
theorem dX6_layTrees_46 : decode cX6_layTrees 46 = .ok (.aload_n 0, 1) := by decide +kernel
theorem dX6_layTrees_47 : decode cX6_layTrees 47 = .ok (.getfield 35, 3) := by decide +kernel
theorem dX6_layTrees_50 : decode cX6_layTrees 50 = .ok (.iload 4, 2) := by decide +kernel
theorem dX6_layTrees_52 : decode cX6_layTrees 52 = .ok (.baload, 1) := by decide +kernel
theorem dX6_layTrees_53 : decode cX6_layTrees 53 = .ok (.ifCond .eq 16, 3) := by decide +kernel
theorem dX6_layTrees_56 : decode cX6_layTrees 56 = .ok (.aload_n 0, 1) := by decide +kernel
theorem dX6_layTrees_57 : decode cX6_layTrees 57 = .ok (.getfield 44, 3) := by decide +kernel
theorem dX6_layTrees_60 : decode cX6_layTrees 60 = .ok (.iload 4, 2) := by decide +kernel
theorem dX6_layTrees_62 : decode cX6_layTrees 62 = .ok (.laload, 1) := by decide +kernel
theorem dX6_layTrees_63 : decode cX6_layTrees 63 = .ok (.invokestatic 123, 3) := by decide +kernel
theorem dX6_layTrees_66 : decode cX6_layTrees 66 = .ok (.goto 4, 3) := by decide +kernel
theorem dX6_layTrees_69 : decode cX6_layTrees 69 = .ok (.lconst 0, 1) := by decide +kernel
theorem dX6_layTrees_70 : decode cX6_layTrees 70 = .ok (.lastore, 1) := by decide +kernel
theorem dX6_layTrees_71 : decode cX6_layTrees 71 = .ok (.aload_n 0, 1) := by decide +kernel
theorem dX6_layTrees_72 : decode cX6_layTrees 72 = .ok (.getfield 66, 3) := by decide +kernel
theorem dX6_layTrees_75 : decode cX6_layTrees 75 = .ok (.bipush 15, 2) := by decide +kernel
theorem dX6_layTrees_77 : decode cX6_layTrees 77 = .ok (.iload_n 3, 1) := by decide +kernel
theorem dX6_layTrees_78 : decode cX6_layTrees 78 = .ok (.iadd, 1) := by decide +kernel
theorem dX6_layTrees_79 : decode cX6_layTrees 79 = .ok (.iload 5, 2) := by decide +kernel
theorem dX6_layTrees_81 : decode cX6_layTrees 81 = .ok (.ifCond .eq 36, 3) := by decide +kernel
theorem dX6_layTrees_84 : decode cX6_layTrees 84 = .ok (.aload_n 0, 1) := by decide +kernel
theorem dX6_layTrees_85 : decode cX6_layTrees 85 = .ok (.getfield 54, 3) := by decide +kernel
theorem dX6_layTrees_88 : decode cX6_layTrees 88 = .ok (.bipush 72, 2) := by decide +kernel
theorem dX6_layTrees_90 : decode cX6_layTrees 90 = .ok (.iload_n 1, 1) := by decide +kernel
theorem dX6_layTrees_91 : decode cX6_layTrees 91 = .ok (.imul, 1) := by decide +kernel
theorem dX6_layTrees_92 : decode cX6_layTrees 92 = .ok (.iload 4, 2) := by decide +kernel
theorem dX6_layTrees_94 : decode cX6_layTrees 94 = .ok (.iadd, 1) := by decide +kernel
theorem dX6_layTrees_95 : decode cX6_layTrees 95 = .ok (.baload, 1) := by decide +kernel
theorem dX6_layTrees_96 : decode cX6_layTrees 96 = .ok (.ifCond .eq 21, 3) := by decide +kernel
theorem dX6_layTrees_99 : decode cX6_layTrees 99 = .ok (.aload_n 0, 1) := by decide +kernel
theorem dX6_layTrees_100 : decode cX6_layTrees 100 = .ok (.getfield 57, 3) := by decide +kernel
theorem dX6_layTrees_103 : decode cX6_layTrees 103 = .ok (.bipush 72, 2) := by decide +kernel
theorem dX6_layTrees_105 : decode cX6_layTrees 105 = .ok (.iload_n 1, 1) := by decide +kernel
theorem dX6_layTrees_106 : decode cX6_layTrees 106 = .ok (.imul, 1) := by decide +kernel
theorem dX6_layTrees_107 : decode cX6_layTrees 107 = .ok (.iload 4, 2) := by decide +kernel
theorem dX6_layTrees_109 : decode cX6_layTrees 109 = .ok (.iadd, 1) := by decide +kernel
theorem dX6_layTrees_110 : decode cX6_layTrees 110 = .ok (.laload, 1) := by decide +kernel
theorem dX6_layTrees_111 : decode cX6_layTrees 111 = .ok (.invokestatic 123, 3) := by decide +kernel
theorem dX6_layTrees_114 : decode cX6_layTrees 114 = .ok (.goto 4, 3) := by decide +kernel
theorem dX6_layTrees_117 : decode cX6_layTrees 117 = .ok (.lconst 0, 1) := by decide +kernel
theorem dX6_layTrees_118 : decode cX6_layTrees 118 = .ok (.lastore, 1) := by decide +kernel
theorem dX6_layTrees_119 : decode cX6_layTrees 119 = .ok (.iinc 3 1, 3) := by decide +kernel
theorem dX6_layTrees_122 : decode cX6_layTrees 122 = .ok (.goto (-120), 3) := by decide +kernel
theorem dX6_layTrees_125 : decode cX6_layTrees 125 = .ok (.bipush 14, 2) := by decide +kernel
theorem dX6_layTrees_127 : decode cX6_layTrees 127 = .ok (.istore_n 3, 1) := by decide +kernel
theorem dX6_layTrees_128 : decode cX6_layTrees 128 = .ok (.iload_n 3, 1) := by decide +kernel
theorem dX6_layTrees_129 : decode cX6_layTrees 129 = .ok (.ifCond .lt 71, 3) := by decide +kernel
theorem dX6_layTrees_132 : decode cX6_layTrees 132 = .ok (.aload_n 0, 1) := by decide +kernel
theorem dX6_layTrees_133 : decode cX6_layTrees 133 = .ok (.getfield 63, 3) := by decide +kernel
theorem dX6_layTrees_136 : decode cX6_layTrees 136 = .ok (.iload_n 3, 1) := by decide +kernel
theorem dX6_layTrees_137 : decode cX6_layTrees 137 = .ok (.ldc2_w 133, 3) := by decide +kernel
theorem dX6_layTrees_140 : decode cX6_layTrees 140 = .ok (.aload_n 0, 1) := by decide +kernel
theorem dX6_layTrees_141 : decode cX6_layTrees 141 = .ok (.getfield 63, 3) := by decide +kernel
theorem dX6_layTrees_144 : decode cX6_layTrees 144 = .ok (.iconst 2, 1) := by decide +kernel
theorem dX6_layTrees_145 : decode cX6_layTrees 145 = .ok (.iload_n 3, 1) := by decide +kernel
theorem dX6_layTrees_146 : decode cX6_layTrees 146 = .ok (.imul, 1) := by decide +kernel
theorem dX6_layTrees_147 : decode cX6_layTrees 147 = .ok (.iconst 1, 1) := by decide +kernel
theorem dX6_layTrees_148 : decode cX6_layTrees 148 = .ok (.iadd, 1) := by decide +kernel
theorem dX6_layTrees_149 : decode cX6_layTrees 149 = .ok (.laload, 1) := by decide +kernel
theorem dX6_layTrees_150 : decode cX6_layTrees 150 = .ok (.lmul, 1) := by decide +kernel
theorem dX6_layTrees_151 : decode cX6_layTrees 151 = .ok (.aload_n 0, 1) := by decide +kernel
theorem dX6_layTrees_152 : decode cX6_layTrees 152 = .ok (.getfield 63, 3) := by decide +kernel
theorem dX6_layTrees_155 : decode cX6_layTrees 155 = .ok (.iconst 2, 1) := by decide +kernel
theorem dX6_layTrees_156 : decode cX6_layTrees 156 = .ok (.iload_n 3, 1) := by decide +kernel
theorem dX6_layTrees_157 : decode cX6_layTrees 157 = .ok (.imul, 1) := by decide +kernel
theorem dX6_layTrees_158 : decode cX6_layTrees 158 = .ok (.iconst 2, 1) := by decide +kernel
theorem dX6_layTrees_159 : decode cX6_layTrees 159 = .ok (.iadd, 1) := by decide +kernel
theorem dX6_layTrees_160 : decode cX6_layTrees 160 = .ok (.laload, 1) := by decide +kernel
theorem dX6_layTrees_161 : decode cX6_layTrees 161 = .ok (.ladd, 1) := by decide +kernel
theorem dX6_layTrees_162 : decode cX6_layTrees 162 = .ok (.lastore, 1) := by decide +kernel
theorem dX6_layTrees_163 : decode cX6_layTrees 163 = .ok (.aload_n 0, 1) := by decide +kernel
theorem dX6_layTrees_164 : decode cX6_layTrees 164 = .ok (.getfield 66, 3) := by decide +kernel
theorem dX6_layTrees_167 : decode cX6_layTrees 167 = .ok (.iload_n 3, 1) := by decide +kernel
theorem dX6_layTrees_168 : decode cX6_layTrees 168 = .ok (.ldc2_w 133, 3) := by decide +kernel
theorem dX6_layTrees_171 : decode cX6_layTrees 171 = .ok (.aload_n 0, 1) := by decide +kernel
theorem dX6_layTrees_172 : decode cX6_layTrees 172 = .ok (.getfield 66, 3) := by decide +kernel
theorem dX6_layTrees_175 : decode cX6_layTrees 175 = .ok (.iconst 2, 1) := by decide +kernel
theorem dX6_layTrees_176 : decode cX6_layTrees 176 = .ok (.iload_n 3, 1) := by decide +kernel
theorem dX6_layTrees_177 : decode cX6_layTrees 177 = .ok (.imul, 1) := by decide +kernel
theorem dX6_layTrees_178 : decode cX6_layTrees 178 = .ok (.iconst 1, 1) := by decide +kernel
theorem dX6_layTrees_179 : decode cX6_layTrees 179 = .ok (.iadd, 1) := by decide +kernel
theorem dX6_layTrees_180 : decode cX6_layTrees 180 = .ok (.laload, 1) := by decide +kernel
theorem dX6_layTrees_181 : decode cX6_layTrees 181 = .ok (.lmul, 1) := by decide +kernel
theorem dX6_layTrees_182 : decode cX6_layTrees 182 = .ok (.aload_n 0, 1) := by decide +kernel
theorem dX6_layTrees_183 : decode cX6_layTrees 183 = .ok (.getfield 66, 3) := by decide +kernel
theorem dX6_layTrees_186 : decode cX6_layTrees 186 = .ok (.iconst 2, 1) := by decide +kernel
theorem dX6_layTrees_187 : decode cX6_layTrees 187 = .ok (.iload_n 3, 1) := by decide +kernel
theorem dX6_layTrees_188 : decode cX6_layTrees 188 = .ok (.imul, 1) := by decide +kernel
theorem dX6_layTrees_189 : decode cX6_layTrees 189 = .ok (.iconst 2, 1) := by decide +kernel
theorem dX6_layTrees_190 : decode cX6_layTrees 190 = .ok (.iadd, 1) := by decide +kernel
theorem dX6_layTrees_191 : decode cX6_layTrees 191 = .ok (.laload, 1) := by decide +kernel
theorem dX6_layTrees_192 : decode cX6_layTrees 192 = .ok (.ladd, 1) := by decide +kernel
theorem dX6_layTrees_193 : decode cX6_layTrees 193 = .ok (.lastore, 1) := by decide +kernel
theorem dX6_layTrees_194 : decode cX6_layTrees 194 = .ok (.iinc 3 (-1), 3) := by decide +kernel
theorem dX6_layTrees_197 : decode cX6_layTrees 197 = .ok (.goto (-69), 3) := by decide +kernel
theorem dX6_layTrees_200 : decode cX6_layTrees 200 = .ok (.return_, 1) := by decide +kernel
theorem dX6_check_0 : decode cX6_check 0 = .ok (.aload_n 0, 1) := by decide +kernel
theorem dX6_check_1 : decode cX6_check 1 = .ok (.iload_n 1, 1) := by decide +kernel
theorem dX6_check_2 : decode cX6_check 2 = .ok (.invokestatic 130, 3) := by decide +kernel
theorem dX6_check_5 : decode cX6_check 5 = .ok (.ifCond .eq 15, 3) := by decide +kernel
theorem dX6_check_8 : decode cX6_check 8 = .ok (.aload_n 0, 1) := by decide +kernel
theorem dX6_check_9 : decode cX6_check 9 = .ok (.iload_n 2, 1) := by decide +kernel
theorem dX6_check_10 : decode cX6_check 10 = .ok (.invokevirtual 101, 3) := by decide +kernel
theorem dX6_check_13 : decode cX6_check 13 = .ok (.ifCond .eq 7, 3) := by decide +kernel
theorem dX6_check_16 : decode cX6_check 16 = .ok (.iconst 0, 1) := by decide +kernel
theorem dX6_check_17 : decode cX6_check 17 = .ok (.goto 4, 3) := by decide +kernel
theorem dX6_check_20 : decode cX6_check 20 = .ok (.iconst 1, 1) := by decide +kernel
theorem dX6_check_21 : decode cX6_check 21 = .ok (.invokevirtual 109, 3) := by decide +kernel
theorem dX6_check_24 : decode cX6_check 24 = .ok (.ifCond .ne 5, 3) := by decide +kernel
theorem dX6_check_27 : decode cX6_check 27 = .ok (.iconst 0, 1) := by decide +kernel
theorem dX6_check_28 : decode cX6_check 28 = .ok (.ireturn, 1) := by decide +kernel
theorem dX6_check_29 : decode cX6_check 29 = .ok (.aload_n 0, 1) := by decide +kernel
theorem dX6_check_30 : decode cX6_check 30 = .ok (.iload_n 1, 1) := by decide +kernel
theorem dX6_check_31 : decode cX6_check 31 = .ok (.iload_n 2, 1) := by decide +kernel
theorem dX6_check_32 : decode cX6_check 32 = .ok (.invokevirtual 135, 3) := by decide +kernel
theorem dX6_check_35 : decode cX6_check 35 = .ok (.iconst 0, 1) := by decide +kernel
theorem dX6_check_36 : decode cX6_check 36 = .ok (.istore_n 3, 1) := by decide +kernel
theorem dX6_check_37 : decode cX6_check 37 = .ok (.aload_n 0, 1) := by decide +kernel
theorem dX6_check_38 : decode cX6_check 38 = .ok (.iconst 0, 1) := by decide +kernel
theorem dX6_check_39 : decode cX6_check 39 = .ok (.putfield 139, 3) := by decide +kernel
theorem dX6_check_42 : decode cX6_check 42 = .ok (.iconst 0, 1) := by decide +kernel
theorem dX6_check_43 : decode cX6_check 43 = .ok (.istore 4, 2) := by decide +kernel
theorem dX6_check_45 : decode cX6_check 45 = .ok (.iload 4, 2) := by decide +kernel
theorem dX6_check_47 : decode cX6_check 47 = .ok (.bipush 31, 2) := by decide +kernel
theorem dX6_check_49 : decode cX6_check 49 = .ok (.if_icmp .ge 137, 3) := by decide +kernel
theorem dX6_check_52 : decode cX6_check 52 = .ok (.iload 4, 2) := by decide +kernel
theorem dX6_check_54 : decode cX6_check 54 = .ok (.iconst 1, 1) := by decide +kernel
theorem dX6_check_55 : decode cX6_check 55 = .ok (.isub, 1) := by decide +kernel
theorem dX6_check_56 : decode cX6_check 56 = .ok (.iconst 2, 1) := by decide +kernel
theorem dX6_check_57 : decode cX6_check 57 = .ok (.idiv, 1) := by decide +kernel
theorem dX6_check_58 : decode cX6_check 58 = .ok (.istore 5, 2) := by decide +kernel
theorem dX6_check_60 : decode cX6_check 60 = .ok (.aload_n 0, 1) := by decide +kernel
theorem dX6_check_61 : decode cX6_check 61 = .ok (.getfield 69, 3) := by decide +kernel
theorem dX6_check_64 : decode cX6_check 64 = .ok (.iload 4, 2) := by decide +kernel
theorem dX6_check_66 : decode cX6_check 66 = .ok (.iload 4, 2) := by decide +kernel
theorem dX6_check_68 : decode cX6_check 68 = .ok (.ifCond .eq 31, 3) := by decide +kernel
theorem dX6_check_71 : decode cX6_check 71 = .ok (.aload_n 0, 1) := by decide +kernel
theorem dX6_check_72 : decode cX6_check 72 = .ok (.getfield 69, 3) := by decide +kernel
theorem dX6_check_75 : decode cX6_check 75 = .ok (.iload 5, 2) := by decide +kernel
theorem dX6_check_77 : decode cX6_check 77 = .ok (.baload, 1) := by decide +kernel
theorem dX6_check_78 : decode cX6_check 78 = .ok (.ifCond .eq 25, 3) := by decide +kernel
theorem dX6_check_81 : decode cX6_check 81 = .ok (.aload_n 0, 1) := by decide +kernel
theorem dX6_check_82 : decode cX6_check 82 = .ok (.getfield 63, 3) := by decide +kernel
theorem dX6_check_85 : decode cX6_check 85 = .ok (.iload 5, 2) := by decide +kernel
theorem dX6_check_87 : decode cX6_check 87 = .ok (.laload, 1) := by decide +kernel
theorem dX6_check_88 : decode cX6_check 88 = .ok (.aload_n 0, 1) := by decide +kernel
theorem dX6_check_89 : decode cX6_check 89 = .ok (.getfield 66, 3) := by decide +kernel
theorem dX6_check_92 : decode cX6_check 92 = .ok (.iload 5, 2) := by decide +kernel
theorem dX6_check_94 : decode cX6_check 94 = .ok (.laload, 1) := by decide +kernel
theorem dX6_check_95 : decode cX6_check 95 = .ok (.lcmp, 1) := by decide +kernel
theorem dX6_check_96 : decode cX6_check 96 = .ok (.ifCond .eq 7, 3) := by decide +kernel
theorem dX6_check_99 : decode cX6_check 99 = .ok (.iconst 1, 1) := by decide +kernel
theorem dX6_check_100 : decode cX6_check 100 = .ok (.goto 4, 3) := by decide +kernel
theorem dX6_check_103 : decode cX6_check 103 = .ok (.iconst 0, 1) := by decide +kernel
theorem dX6_check_104 : decode cX6_check 104 = .ok (.bastore, 1) := by decide +kernel
theorem dX6_check_105 : decode cX6_check 105 = .ok (.aload_n 0, 1) := by decide +kernel
theorem dX6_check_106 : decode cX6_check 106 = .ok (.dup, 1) := by decide +kernel
theorem dX6_check_107 : decode cX6_check 107 = .ok (.getfield 139, 3) := by decide +kernel
theorem dX6_check_110 : decode cX6_check 110 = .ok (.aload_n 0, 1) := by decide +kernel
theorem dX6_check_111 : decode cX6_check 111 = .ok (.getfield 69, 3) := by decide +kernel
theorem dX6_check_114 : decode cX6_check 114 = .ok (.iload 4, 2) := by decide +kernel
theorem dX6_check_116 : decode cX6_check 116 = .ok (.baload, 1) := by decide +kernel
theorem dX6_check_117 : decode cX6_check 117 = .ok (.ifCond .eq 7, 3) := by decide +kernel
theorem dX6_check_120 : decode cX6_check 120 = .ok (.iconst 1, 1) := by decide +kernel
theorem dX6_check_121 : decode cX6_check 121 = .ok (.goto 4, 3) := by decide +kernel
theorem dX6_check_124 : decode cX6_check 124 = .ok (.iconst 0, 1) := by decide +kernel
theorem dX6_check_125 : decode cX6_check 125 = .ok (.iadd, 1) := by decide +kernel
theorem dX6_check_126 : decode cX6_check 126 = .ok (.putfield 139, 3) := by decide +kernel
theorem dX6_check_129 : decode cX6_check 129 = .ok (.iload_n 3, 1) := by decide +kernel
theorem dX6_check_130 : decode cX6_check 130 = .ok (.aload_n 0, 1) := by decide +kernel
theorem dX6_check_131 : decode cX6_check 131 = .ok (.getfield 69, 3) := by decide +kernel
theorem dX6_check_134 : decode cX6_check 134 = .ok (.iload 4, 2) := by decide +kernel
theorem dX6_check_136 : decode cX6_check 136 = .ok (.baload, 1) := by decide +kernel
theorem dX6_check_137 : decode cX6_check 137 = .ok (.ifCond .eq 40, 3) := by decide +kernel
theorem dX6_check_140 : decode cX6_check 140 = .ok (.iload 4, 2) := by decide +kernel
theorem dX6_check_142 : decode cX6_check 142 = .ok (.bipush 15, 2) := by decide +kernel
theorem dX6_check_144 : decode cX6_check 144 = .ok (.if_icmp .lt 33, 3) := by decide +kernel
theorem dX6_check_147 : decode cX6_check 147 = .ok (.aload_n 0, 1) := by decide +kernel
theorem dX6_check_148 : decode cX6_check 148 = .ok (.getfield 63, 3) := by decide +kernel
theorem dX6_check_151 : decode cX6_check 151 = .ok (.iload 4, 2) := by decide +kernel
theorem dX6_check_153 : decode cX6_check 153 = .ok (.laload, 1) := by decide +kernel
theorem dX6_check_154 : decode cX6_check 154 = .ok (.aload_n 0, 1) := by decide +kernel
theorem dX6_check_155 : decode cX6_check 155 = .ok (.getfield 66, 3) := by decide +kernel
theorem dX6_check_158 : decode cX6_check 158 = .ok (.iload 4, 2) := by decide +kernel
theorem dX6_check_160 : decode cX6_check 160 = .ok (.laload, 1) := by decide +kernel
theorem dX6_check_161 : decode cX6_check 161 = .ok (.lcmp, 1) := by decide +kernel
theorem dX6_check_162 : decode cX6_check 162 = .ok (.ifCond .eq 15, 3) := by decide +kernel
theorem dX6_check_165 : decode cX6_check 165 = .ok (.iconst 1, 1) := by decide +kernel
theorem dX6_check_166 : decode cX6_check 166 = .ok (.iload 4, 2) := by decide +kernel
theorem dX6_check_168 : decode cX6_check 168 = .ok (.bipush 16, 2) := by decide +kernel
theorem dX6_check_170 : decode cX6_check 170 = .ok (.isub, 1) := by decide +kernel
theorem dX6_check_171 : decode cX6_check 171 = .ok (.iconst 1, 1) := by decide +kernel
theorem dX6_check_172 : decode cX6_check 172 = .ok (.iadd, 1) := by decide +kernel
theorem dX6_check_173 : decode cX6_check 173 = .ok (.ishl, 1) := by decide +kernel
theorem dX6_check_174 : decode cX6_check 174 = .ok (.goto 4, 3) := by decide +kernel
theorem dX6_check_177 : decode cX6_check 177 = .ok (.iconst 0, 1) := by decide +kernel
theorem dX6_check_178 : decode cX6_check 178 = .ok (.ior, 1) := by decide +kernel
theorem dX6_check_179 : decode cX6_check 179 = .ok (.istore_n 3, 1) := by decide +kernel
theorem dX6_check_180 : decode cX6_check 180 = .ok (.iinc 4 1, 3) := by decide +kernel
theorem dX6_check_183 : decode cX6_check 183 = .ok (.goto (-138), 3) := by decide +kernel
theorem dX6_check_186 : decode cX6_check 186 = .ok (.iload_n 3, 1) := by decide +kernel
theorem dX6_check_187 : decode cX6_check 187 = .ok (.ireturn, 1) := by decide +kernel
theorem dX6_looked_0 : decode cX6_looked 0 = .ok (.aload_n 0, 1) := by decide +kernel
theorem dX6_looked_1 : decode cX6_looked 1 = .ok (.iconst 0, 1) := by decide +kernel
theorem dX6_looked_2 : decode cX6_looked 2 = .ok (.putfield 91, 3) := by decide +kernel
theorem dX6_looked_5 : decode cX6_looked 5 = .ok (.aload_n 0, 1) := by decide +kernel
theorem dX6_looked_6 : decode cX6_looked 6 = .ok (.getfield 139, 3) := by decide +kernel
theorem dX6_looked_9 : decode cX6_looked 9 = .ok (.ireturn, 1) := by decide +kernel
theorem dX6_mend_0 : decode cX6_mend 0 = .ok (.iload_n 1, 1) := by decide +kernel
theorem dX6_mend_1 : decode cX6_mend 1 = .ok (.invokestatic 130, 3) := by decide +kernel
theorem dX6_mend_4 : decode cX6_mend 4 = .ok (.ifCond .eq 15, 3) := by decide +kernel
theorem dX6_mend_7 : decode cX6_mend 7 = .ok (.aload_n 0, 1) := by decide +kernel
theorem dX6_mend_8 : decode cX6_mend 8 = .ok (.iload_n 2, 1) := by decide +kernel
theorem dX6_mend_9 : decode cX6_mend 9 = .ok (.invokevirtual 101, 3) := by decide +kernel
theorem dX6_mend_12 : decode cX6_mend 12 = .ok (.ifCond .eq 7, 3) := by decide +kernel
theorem dX6_mend_15 : decode cX6_mend 15 = .ok (.iconst 1, 1) := by decide +kernel
theorem dX6_mend_16 : decode cX6_mend 16 = .ok (.goto 4, 3) := by decide +kernel
theorem dX6_mend_19 : decode cX6_mend 19 = .ok (.iconst 0, 1) := by decide +kernel
theorem dX6_mend_20 : decode cX6_mend 20 = .ok (.istore_n 3, 1) := by decide +kernel
theorem dX6_mend_21 : decode cX6_mend 21 = .ok (.aload_n 0, 1) := by decide +kernel
theorem dX6_mend_22 : decode cX6_mend 22 = .ok (.iload_n 3, 1) := by decide +kernel
theorem dX6_mend_23 : decode cX6_mend 23 = .ok (.ifCond .ne 7, 3) := by decide +kernel
theorem dX6_mend_26 : decode cX6_mend 26 = .ok (.iconst 1, 1) := by decide +kernel
theorem dX6_mend_27 : decode cX6_mend 27 = .ok (.goto 17, 3) := by decide +kernel
theorem dX6_mend_30 : decode cX6_mend 30 = .ok (.aload_n 0, 1) := by decide +kernel
theorem dX6_mend_31 : decode cX6_mend 31 = .ok (.getfield 60, 3) := by decide +kernel
theorem dX6_mend_34 : decode cX6_mend 34 = .ok (.iload_n 1, 1) := by decide +kernel
theorem dX6_mend_35 : decode cX6_mend 35 = .ok (.baload, 1) := by decide +kernel
theorem dX6_mend_36 : decode cX6_mend 36 = .ok (.ifCond .eq 7, 3) := by decide +kernel
theorem dX6_mend_39 : decode cX6_mend 39 = .ok (.iconst 2, 1) := by decide +kernel
theorem dX6_mend_40 : decode cX6_mend 40 = .ok (.goto 4, 3) := by decide +kernel
theorem dX6_mend_43 : decode cX6_mend 43 = .ok (.iconst 0, 1) := by decide +kernel
theorem dX6_mend_44 : decode cX6_mend 44 = .ok (.invokevirtual 109, 3) := by decide +kernel
theorem dX6_mend_47 : decode cX6_mend 47 = .ok (.ifCond .ne 5, 3) := by decide +kernel
theorem dX6_mend_50 : decode cX6_mend 50 = .ok (.iconst 0, 1) := by decide +kernel
theorem dX6_mend_51 : decode cX6_mend 51 = .ok (.ireturn, 1) := by decide +kernel
theorem dX6_mend_52 : decode cX6_mend 52 = .ok (.iconst 0, 1) := by decide +kernel
theorem dX6_mend_53 : decode cX6_mend 53 = .ok (.istore 4, 2) := by decide +kernel
theorem dX6_mend_55 : decode cX6_mend 55 = .ok (.iconst 0, 1) := by decide +kernel
theorem dX6_mend_56 : decode cX6_mend 56 = .ok (.istore 5, 2) := by decide +kernel
theorem dX6_mend_58 : decode cX6_mend 58 = .ok (.iload 5, 2) := by decide +kernel
theorem dX6_mend_60 : decode cX6_mend 60 = .ok (.aload_n 0, 1) := by decide +kernel
theorem dX6_mend_61 : decode cX6_mend 61 = .ok (.getfield 7, 3) := by decide +kernel
theorem dX6_mend_64 : decode cX6_mend 64 = .ok (.iload_n 2, 1) := by decide +kernel
theorem dX6_mend_65 : decode cX6_mend 65 = .ok (.iaload, 1) := by decide +kernel
theorem dX6_mend_66 : decode cX6_mend 66 = .ok (.if_icmp .ge 83, 3) := by decide +kernel
theorem dX6_mend_69 : decode cX6_mend 69 = .ok (.bipush 12, 2) := by decide +kernel
theorem dX6_mend_71 : decode cX6_mend 71 = .ok (.iload_n 2, 1) := by decide +kernel
theorem dX6_mend_72 : decode cX6_mend 72 = .ok (.imul, 1) := by decide +kernel
theorem dX6_mend_73 : decode cX6_mend 73 = .ok (.iload 5, 2) := by decide +kernel
theorem dX6_mend_75 : decode cX6_mend 75 = .ok (.iadd, 1) := by decide +kernel
theorem dX6_mend_76 : decode cX6_mend 76 = .ok (.istore 6, 2) := by decide +kernel
theorem dX6_mend_78 : decode cX6_mend 78 = .ok (.aload_n 0, 1) := by decide +kernel
theorem dX6_mend_79 : decode cX6_mend 79 = .ok (.iload 6, 2) := by decide +kernel
theorem dX6_mend_81 : decode cX6_mend 81 = .ok (.invokevirtual 142, 3) := by decide +kernel
theorem dX6_mend_84 : decode cX6_mend 84 = .ok (.istore 7, 2) := by decide +kernel
theorem dX6_mend_86 : decode cX6_mend 86 = .ok (.iload 7, 2) := by decide +kernel
theorem dX6_mend_88 : decode cX6_mend 88 = .ok (.iconst (-1), 1) := by decide +kernel
theorem dX6_mend_89 : decode cX6_mend 89 = .ok (.if_icmp .eq 54, 3) := by decide +kernel
theorem dX6_mend_92 : decode cX6_mend 92 = .ok (.aload_n 0, 1) := by decide +kernel
theorem dX6_mend_93 : decode cX6_mend 93 = .ok (.iload_n 1, 1) := by decide +kernel
theorem dX6_mend_94 : decode cX6_mend 94 = .ok (.iload 6, 2) := by decide +kernel
theorem dX6_mend_96 : decode cX6_mend 96 = .ok (.invokevirtual 127, 3) := by decide +kernel
theorem dX6_mend_99 : decode cX6_mend 99 = .ok (.ifCond .ne 44, 3) := by decide +kernel
theorem dX6_mend_102 : decode cX6_mend 102 = .ok (.aload_n 0, 1) := by decide +kernel
theorem dX6_mend_103 : decode cX6_mend 103 = .ok (.getfield 54, 3) := by decide +kernel
theorem dX6_mend_106 : decode cX6_mend 106 = .ok (.bipush 72, 2) := by decide +kernel
theorem dX6_mend_108 : decode cX6_mend 108 = .ok (.iload_n 1, 1) := by decide +kernel
theorem dX6_mend_109 : decode cX6_mend 109 = .ok (.imul, 1) := by decide +kernel
theorem dX6_mend_110 : decode cX6_mend 110 = .ok (.iload 6, 2) := by decide +kernel
theorem dX6_mend_112 : decode cX6_mend 112 = .ok (.iadd, 1) := by decide +kernel
theorem dX6_mend_113 : decode cX6_mend 113 = .ok (.iconst 1, 1) := by decide +kernel
theorem dX6_mend_114 : decode cX6_mend 114 = .ok (.bastore, 1) := by decide +kernel
theorem dX6_mend_115 : decode cX6_mend 115 = .ok (.aload_n 0, 1) := by decide +kernel
theorem dX6_mend_116 : decode cX6_mend 116 = .ok (.getfield 57, 3) := by decide +kernel
theorem dX6_mend_119 : decode cX6_mend 119 = .ok (.bipush 72, 2) := by decide +kernel
theorem dX6_mend_121 : decode cX6_mend 121 = .ok (.iload_n 1, 1) := by decide +kernel
theorem dX6_mend_122 : decode cX6_mend 122 = .ok (.imul, 1) := by decide +kernel
theorem dX6_mend_123 : decode cX6_mend 123 = .ok (.iload 6, 2) := by decide +kernel
theorem dX6_mend_125 : decode cX6_mend 125 = .ok (.iadd, 1) := by decide +kernel
theorem dX6_mend_126 : decode cX6_mend 126 = .ok (.aload_n 0, 1) := by decide +kernel
theorem dX6_mend_127 : decode cX6_mend 127 = .ok (.getfield 57, 3) := by decide +kernel
theorem dX6_mend_130 : decode cX6_mend 130 = .ok (.bipush 72, 2) := by decide +kernel
theorem dX6_mend_132 : decode cX6_mend 132 = .ok (.iload 7, 2) := by decide +kernel
theorem dX6_mend_134 : decode cX6_mend 134 = .ok (.imul, 1) := by decide +kernel
theorem dX6_mend_135 : decode cX6_mend 135 = .ok (.iload 6, 2) := by decide +kernel
theorem dX6_mend_137 : decode cX6_mend 137 = .ok (.iadd, 1) := by decide +kernel
theorem dX6_mend_138 : decode cX6_mend 138 = .ok (.laload, 1) := by decide +kernel
theorem dX6_mend_139 : decode cX6_mend 139 = .ok (.lastore, 1) := by decide +kernel
theorem dX6_mend_140 : decode cX6_mend 140 = .ok (.iinc 4 1, 3) := by decide +kernel
theorem dX6_mend_143 : decode cX6_mend 143 = .ok (.iinc 5 1, 3) := by decide +kernel
theorem dX6_mend_146 : decode cX6_mend 146 = .ok (.goto (-88), 3) := by decide +kernel
theorem dX6_mend_149 : decode cX6_mend 149 = .ok (.iload 4, 2) := by decide +kernel
theorem dX6_mend_151 : decode cX6_mend 151 = .ok (.ireturn, 1) := by decide +kernel
theorem dX6_copy_0 : decode cX6_copy 0 = .ok (.iload_n 1, 1) := by decide +kernel
theorem dX6_copy_1 : decode cX6_copy 1 = .ok (.invokestatic 130, 3) := by decide +kernel
theorem dX6_copy_4 : decode cX6_copy 4 = .ok (.ifCond .eq 16, 3) := by decide +kernel
theorem dX6_copy_7 : decode cX6_copy 7 = .ok (.aload_n 0, 1) := by decide +kernel
theorem dX6_copy_8 : decode cX6_copy 8 = .ok (.iload_n 2, 1) := by decide +kernel
theorem dX6_copy_9 : decode cX6_copy 9 = .ok (.iload_n 3, 1) := by decide +kernel
theorem dX6_copy_10 : decode cX6_copy 10 = .ok (.invokevirtual 105, 3) := by decide +kernel
theorem dX6_copy_13 : decode cX6_copy 13 = .ok (.ifCond .eq 7, 3) := by decide +kernel
theorem dX6_copy_16 : decode cX6_copy 16 = .ok (.iconst 1, 1) := by decide +kernel
theorem dX6_copy_17 : decode cX6_copy 17 = .ok (.goto 4, 3) := by decide +kernel
theorem dX6_copy_20 : decode cX6_copy 20 = .ok (.iconst 0, 1) := by decide +kernel
theorem dX6_copy_21 : decode cX6_copy 21 = .ok (.istore 4, 2) := by decide +kernel
theorem dX6_copy_23 : decode cX6_copy 23 = .ok (.bipush 72, 2) := by decide +kernel
theorem dX6_copy_25 : decode cX6_copy 25 = .ok (.iload_n 1, 1) := by decide +kernel
theorem dX6_copy_26 : decode cX6_copy 26 = .ok (.imul, 1) := by decide +kernel
theorem dX6_copy_27 : decode cX6_copy 27 = .ok (.bipush 12, 2) := by decide +kernel
theorem dX6_copy_29 : decode cX6_copy 29 = .ok (.iload_n 2, 1) := by decide +kernel
theorem dX6_copy_30 : decode cX6_copy 30 = .ok (.imul, 1) := by decide +kernel
theorem dX6_copy_31 : decode cX6_copy 31 = .ok (.iadd, 1) := by decide +kernel
theorem dX6_copy_32 : decode cX6_copy 32 = .ok (.iload_n 3, 1) := by decide +kernel
theorem dX6_copy_33 : decode cX6_copy 33 = .ok (.iadd, 1) := by decide +kernel
theorem dX6_copy_34 : decode cX6_copy 34 = .ok (.istore 5, 2) := by decide +kernel
theorem dX6_copy_36 : decode cX6_copy 36 = .ok (.aload_n 0, 1) := by decide +kernel
theorem dX6_copy_37 : decode cX6_copy 37 = .ok (.iload 4, 2) := by decide +kernel
theorem dX6_copy_39 : decode cX6_copy 39 = .ok (.ifCond .ne 7, 3) := by decide +kernel
theorem dX6_copy_42 : decode cX6_copy 42 = .ok (.iconst 1, 1) := by decide +kernel
theorem dX6_copy_43 : decode cX6_copy 43 = .ok (.goto 18, 3) := by decide +kernel
theorem dX6_copy_46 : decode cX6_copy 46 = .ok (.aload_n 0, 1) := by decide +kernel
theorem dX6_copy_47 : decode cX6_copy 47 = .ok (.getfield 54, 3) := by decide +kernel
theorem dX6_copy_50 : decode cX6_copy 50 = .ok (.iload 5, 2) := by decide +kernel
theorem dX6_copy_52 : decode cX6_copy 52 = .ok (.baload, 1) := by decide +kernel
theorem dX6_copy_53 : decode cX6_copy 53 = .ok (.ifCond .eq 7, 3) := by decide +kernel
theorem dX6_copy_56 : decode cX6_copy 56 = .ok (.iconst 0, 1) := by decide +kernel
theorem dX6_copy_57 : decode cX6_copy 57 = .ok (.goto 4, 3) := by decide +kernel
theorem dX6_copy_60 : decode cX6_copy 60 = .ok (.iconst 2, 1) := by decide +kernel
theorem dX6_copy_61 : decode cX6_copy 61 = .ok (.invokevirtual 109, 3) := by decide +kernel
theorem dX6_copy_64 : decode cX6_copy 64 = .ok (.ifCond .eq 13, 3) := by decide +kernel
theorem dX6_copy_67 : decode cX6_copy 67 = .ok (.aload_n 0, 1) := by decide +kernel
theorem dX6_copy_68 : decode cX6_copy 68 = .ok (.getfield 57, 3) := by decide +kernel
theorem dX6_copy_71 : decode cX6_copy 71 = .ok (.iload 5, 2) := by decide +kernel
theorem dX6_copy_73 : decode cX6_copy 73 = .ok (.laload, 1) := by decide +kernel
theorem dX6_copy_74 : decode cX6_copy 74 = .ok (.goto 4, 3) := by decide +kernel
theorem dX6_copy_77 : decode cX6_copy 77 = .ok (.lconst 0, 1) := by decide +kernel
theorem dX6_copy_78 : decode cX6_copy 78 = .ok (.lreturn, 1) := by decide +kernel
theorem dX6_isLostAt_0 : decode cX6_isLostAt 0 = .ok (.aload_n 0, 1) := by decide +kernel
theorem dX6_isLostAt_1 : decode cX6_isLostAt 1 = .ok (.getfield 35, 3) := by decide +kernel
theorem dX6_isLostAt_4 : decode cX6_isLostAt 4 = .ok (.iload_n 1, 1) := by decide +kernel
theorem dX6_isLostAt_5 : decode cX6_isLostAt 5 = .ok (.baload, 1) := by decide +kernel
theorem dX6_isLostAt_6 : decode cX6_isLostAt 6 = .ok (.ifCond .eq 16, 3) := by decide +kernel
theorem dX6_isLostAt_9 : decode cX6_isLostAt 9 = .ok (.aload_n 0, 1) := by decide +kernel
theorem dX6_isLostAt_10 : decode cX6_isLostAt 10 = .ok (.iload_n 1, 1) := by decide +kernel
theorem dX6_isLostAt_11 : decode cX6_isLostAt 11 = .ok (.invokevirtual 142, 3) := by decide +kernel
theorem dX6_isLostAt_14 : decode cX6_isLostAt 14 = .ok (.iconst (-1), 1) := by decide +kernel
theorem dX6_isLostAt_15 : decode cX6_isLostAt 15 = .ok (.if_icmp .ne 7, 3) := by decide +kernel
theorem dX6_isLostAt_18 : decode cX6_isLostAt 18 = .ok (.iconst 1, 1) := by decide +kernel
theorem dX6_isLostAt_19 : decode cX6_isLostAt 19 = .ok (.goto 4, 3) := by decide +kernel
theorem dX6_isLostAt_22 : decode cX6_isLostAt 22 = .ok (.iconst 0, 1) := by decide +kernel
theorem dX6_isLostAt_23 : decode cX6_isLostAt 23 = .ok (.ireturn, 1) := by decide +kernel
theorem dX6_isLost_0 : decode cX6_isLost 0 = .ok (.aload_n 0, 1) := by decide +kernel
theorem dX6_isLost_1 : decode cX6_isLost 1 = .ok (.aload_n 0, 1) := by decide +kernel
theorem dX6_isLost_2 : decode cX6_isLost 2 = .ok (.iload_n 1, 1) := by decide +kernel
theorem dX6_isLost_3 : decode cX6_isLost 3 = .ok (.iload_n 2, 1) := by decide +kernel
theorem dX6_isLost_4 : decode cX6_isLost 4 = .ok (.invokevirtual 105, 3) := by decide +kernel
theorem dX6_isLost_7 : decode cX6_isLost 7 = .ok (.ifCond .eq 7, 3) := by decide +kernel
theorem dX6_isLost_10 : decode cX6_isLost 10 = .ok (.iconst 0, 1) := by decide +kernel
theorem dX6_isLost_11 : decode cX6_isLost 11 = .ok (.goto 4, 3) := by decide +kernel
theorem dX6_isLost_14 : decode cX6_isLost 14 = .ok (.iconst 1, 1) := by decide +kernel
theorem dX6_isLost_15 : decode cX6_isLost 15 = .ok (.invokevirtual 109, 3) := by decide +kernel
theorem dX6_isLost_18 : decode cX6_isLost 18 = .ok (.ifCond .eq 20, 3) := by decide +kernel
theorem dX6_isLost_21 : decode cX6_isLost 21 = .ok (.aload_n 0, 1) := by decide +kernel
theorem dX6_isLost_22 : decode cX6_isLost 22 = .ok (.bipush 12, 2) := by decide +kernel
theorem dX6_isLost_24 : decode cX6_isLost 24 = .ok (.iload_n 1, 1) := by decide +kernel
theorem dX6_isLost_25 : decode cX6_isLost 25 = .ok (.imul, 1) := by decide +kernel
theorem dX6_isLost_26 : decode cX6_isLost 26 = .ok (.iload_n 2, 1) := by decide +kernel
theorem dX6_isLost_27 : decode cX6_isLost 27 = .ok (.iadd, 1) := by decide +kernel
theorem dX6_isLost_28 : decode cX6_isLost 28 = .ok (.invokevirtual 145, 3) := by decide +kernel
theorem dX6_isLost_31 : decode cX6_isLost 31 = .ok (.ifCond .eq 7, 3) := by decide +kernel
theorem dX6_isLost_34 : decode cX6_isLost 34 = .ok (.iconst 1, 1) := by decide +kernel
theorem dX6_isLost_35 : decode cX6_isLost 35 = .ok (.goto 4, 3) := by decide +kernel
theorem dX6_isLost_38 : decode cX6_isLost 38 = .ok (.iconst 0, 1) := by decide +kernel
theorem dX6_isLost_39 : decode cX6_isLost 39 = .ok (.ireturn, 1) := by decide +kernel
theorem dX6_words_0 : decode cX6_words 0 = .ok (.aload_n 0, 1) := by decide +kernel
theorem dX6_words_1 : decode cX6_words 1 = .ok (.iload_n 1, 1) := by decide +kernel
theorem dX6_words_2 : decode cX6_words 2 = .ok (.iload_n 2, 1) := by decide +kernel
theorem dX6_words_3 : decode cX6_words 3 = .ok (.invokevirtual 105, 3) := by decide +kernel
theorem dX6_words_6 : decode cX6_words 6 = .ok (.istore 5, 2) := by decide +kernel
theorem dX6_words_8 : decode cX6_words 8 = .ok (.aload_n 0, 1) := by decide +kernel
theorem dX6_words_9 : decode cX6_words 9 = .ok (.iload 5, 2) := by decide +kernel
theorem dX6_words_11 : decode cX6_words 11 = .ok (.ifCond .ne 7, 3) := by decide +kernel
theorem dX6_words_14 : decode cX6_words 14 = .ok (.iconst 1, 1) := by decide +kernel
theorem dX6_words_15 : decode cX6_words 15 = .ok (.goto 29, 3) := by decide +kernel
theorem dX6_words_18 : decode cX6_words 18 = .ok (.iload_n 3, 1) := by decide +kernel
theorem dX6_words_19 : decode cX6_words 19 = .ok (.iconst 0, 1) := by decide +kernel
theorem dX6_words_20 : decode cX6_words 20 = .ok (.bipush 99, 2) := by decide +kernel
theorem dX6_words_22 : decode cX6_words 22 = .ok (.invokestatic 97, 3) := by decide +kernel
theorem dX6_words_25 : decode cX6_words 25 = .ok (.ifCond .eq 18, 3) := by decide +kernel
theorem dX6_words_28 : decode cX6_words 28 = .ok (.iload 4, 2) := by decide +kernel
theorem dX6_words_30 : decode cX6_words 30 = .ok (.iconst 0, 1) := by decide +kernel
theorem dX6_words_31 : decode cX6_words 31 = .ok (.bipush 99, 2) := by decide +kernel
theorem dX6_words_33 : decode cX6_words 33 = .ok (.invokestatic 97, 3) := by decide +kernel
theorem dX6_words_36 : decode cX6_words 36 = .ok (.ifCond .eq 7, 3) := by decide +kernel
theorem dX6_words_39 : decode cX6_words 39 = .ok (.iconst 0, 1) := by decide +kernel
theorem dX6_words_40 : decode cX6_words 40 = .ok (.goto 4, 3) := by decide +kernel
theorem dX6_words_43 : decode cX6_words 43 = .ok (.iconst 2, 1) := by decide +kernel
theorem dX6_words_44 : decode cX6_words 44 = .ok (.invokevirtual 109, 3) := by decide +kernel
theorem dX6_words_47 : decode cX6_words 47 = .ok (.ifCond .eq 28, 3) := by decide +kernel
theorem dX6_words_50 : decode cX6_words 50 = .ok (.aload_n 0, 1) := by decide +kernel
theorem dX6_words_51 : decode cX6_words 51 = .ok (.getfield 48, 3) := by decide +kernel
theorem dX6_words_54 : decode cX6_words 54 = .ok (.bipush 12, 2) := by decide +kernel
theorem dX6_words_56 : decode cX6_words 56 = .ok (.iload_n 1, 1) := by decide +kernel
theorem dX6_words_57 : decode cX6_words 57 = .ok (.imul, 1) := by decide +kernel
theorem dX6_words_58 : decode cX6_words 58 = .ok (.iload_n 2, 1) := by decide +kernel
theorem dX6_words_59 : decode cX6_words 59 = .ok (.iadd, 1) := by decide +kernel
theorem dX6_words_60 : decode cX6_words 60 = .ok (.iload_n 3, 1) := by decide +kernel
theorem dX6_words_61 : decode cX6_words 61 = .ok (.iastore, 1) := by decide +kernel
theorem dX6_words_62 : decode cX6_words 62 = .ok (.aload_n 0, 1) := by decide +kernel
theorem dX6_words_63 : decode cX6_words 63 = .ok (.getfield 51, 3) := by decide +kernel
theorem dX6_words_66 : decode cX6_words 66 = .ok (.bipush 12, 2) := by decide +kernel
theorem dX6_words_68 : decode cX6_words 68 = .ok (.iload_n 1, 1) := by decide +kernel
theorem dX6_words_69 : decode cX6_words 69 = .ok (.imul, 1) := by decide +kernel
theorem dX6_words_70 : decode cX6_words 70 = .ok (.iload_n 2, 1) := by decide +kernel
theorem dX6_words_71 : decode cX6_words 71 = .ok (.iadd, 1) := by decide +kernel
theorem dX6_words_72 : decode cX6_words 72 = .ok (.iload 4, 2) := by decide +kernel
theorem dX6_words_74 : decode cX6_words 74 = .ok (.iastore, 1) := by decide +kernel
theorem dX6_words_75 : decode cX6_words 75 = .ok (.return_, 1) := by decide +kernel
theorem dX6_fits_0 : decode cX6_fits 0 = .ok (.iload_n 2, 1) := by decide +kernel
theorem dX6_fits_1 : decode cX6_fits 1 = .ok (.ifCond .eq 40, 3) := by decide +kernel
theorem dX6_fits_4 : decode cX6_fits 4 = .ok (.aload_n 0, 1) := by decide +kernel
theorem dX6_fits_5 : decode cX6_fits 5 = .ok (.getfield 51, 3) := by decide +kernel
theorem dX6_fits_8 : decode cX6_fits 8 = .ok (.bipush 12, 2) := by decide +kernel
theorem dX6_fits_10 : decode cX6_fits 10 = .ok (.iload_n 1, 1) := by decide +kernel
theorem dX6_fits_11 : decode cX6_fits 11 = .ok (.imul, 1) := by decide +kernel
theorem dX6_fits_12 : decode cX6_fits 12 = .ok (.aload_n 0, 1) := by decide +kernel
theorem dX6_fits_13 : decode cX6_fits 13 = .ok (.getfield 88, 3) := by decide +kernel
theorem dX6_fits_16 : decode cX6_fits 16 = .ok (.iload_n 2, 1) := by decide +kernel
theorem dX6_fits_17 : decode cX6_fits 17 = .ok (.iconst 1, 1) := by decide +kernel
theorem dX6_fits_18 : decode cX6_fits 18 = .ok (.isub, 1) := by decide +kernel
theorem dX6_fits_19 : decode cX6_fits 19 = .ok (.iaload, 1) := by decide +kernel
theorem dX6_fits_20 : decode cX6_fits 20 = .ok (.iadd, 1) := by decide +kernel
theorem dX6_fits_21 : decode cX6_fits 21 = .ok (.iaload, 1) := by decide +kernel
theorem dX6_fits_22 : decode cX6_fits 22 = .ok (.aload_n 0, 1) := by decide +kernel
theorem dX6_fits_23 : decode cX6_fits 23 = .ok (.getfield 48, 3) := by decide +kernel
theorem dX6_fits_26 : decode cX6_fits 26 = .ok (.bipush 12, 2) := by decide +kernel
theorem dX6_fits_28 : decode cX6_fits 28 = .ok (.iload_n 1, 1) := by decide +kernel
theorem dX6_fits_29 : decode cX6_fits 29 = .ok (.imul, 1) := by decide +kernel
theorem dX6_fits_30 : decode cX6_fits 30 = .ok (.aload_n 0, 1) := by decide +kernel
theorem dX6_fits_31 : decode cX6_fits 31 = .ok (.getfield 88, 3) := by decide +kernel
theorem dX6_fits_34 : decode cX6_fits 34 = .ok (.iload_n 2, 1) := by decide +kernel
theorem dX6_fits_35 : decode cX6_fits 35 = .ok (.iaload, 1) := by decide +kernel
theorem dX6_fits_36 : decode cX6_fits 36 = .ok (.iadd, 1) := by decide +kernel
theorem dX6_fits_37 : decode cX6_fits 37 = .ok (.iaload, 1) := by decide +kernel
theorem dX6_fits_38 : decode cX6_fits 38 = .ok (.if_icmp .ne 7, 3) := by decide +kernel
theorem dX6_fits_41 : decode cX6_fits 41 = .ok (.iconst 1, 1) := by decide +kernel
theorem dX6_fits_42 : decode cX6_fits 42 = .ok (.goto 4, 3) := by decide +kernel
theorem dX6_fits_45 : decode cX6_fits 45 = .ok (.iconst 0, 1) := by decide +kernel
theorem dX6_fits_46 : decode cX6_fits 46 = .ok (.istore_n 3, 1) := by decide +kernel
theorem dX6_fits_47 : decode cX6_fits 47 = .ok (.iconst 0, 1) := by decide +kernel
theorem dX6_fits_48 : decode cX6_fits 48 = .ok (.istore 4, 2) := by decide +kernel
theorem dX6_fits_50 : decode cX6_fits 50 = .ok (.iload 4, 2) := by decide +kernel
theorem dX6_fits_52 : decode cX6_fits 52 = .ok (.iload_n 2, 1) := by decide +kernel
theorem dX6_fits_53 : decode cX6_fits 53 = .ok (.if_icmp .ge 35, 3) := by decide +kernel
theorem dX6_fits_56 : decode cX6_fits 56 = .ok (.iload_n 3, 1) := by decide +kernel
theorem dX6_fits_57 : decode cX6_fits 57 = .ok (.ifCond .eq 23, 3) := by decide +kernel
theorem dX6_fits_60 : decode cX6_fits 60 = .ok (.aload_n 0, 1) := by decide +kernel
theorem dX6_fits_61 : decode cX6_fits 61 = .ok (.getfield 88, 3) := by decide +kernel
theorem dX6_fits_64 : decode cX6_fits 64 = .ok (.iload 4, 2) := by decide +kernel
theorem dX6_fits_66 : decode cX6_fits 66 = .ok (.iaload, 1) := by decide +kernel
theorem dX6_fits_67 : decode cX6_fits 67 = .ok (.aload_n 0, 1) := by decide +kernel
theorem dX6_fits_68 : decode cX6_fits 68 = .ok (.getfield 88, 3) := by decide +kernel
theorem dX6_fits_71 : decode cX6_fits 71 = .ok (.iload_n 2, 1) := by decide +kernel
theorem dX6_fits_72 : decode cX6_fits 72 = .ok (.iaload, 1) := by decide +kernel
theorem dX6_fits_73 : decode cX6_fits 73 = .ok (.if_icmp .eq 7, 3) := by decide +kernel
theorem dX6_fits_76 : decode cX6_fits 76 = .ok (.iconst 1, 1) := by decide +kernel
theorem dX6_fits_77 : decode cX6_fits 77 = .ok (.goto 4, 3) := by decide +kernel
theorem dX6_fits_80 : decode cX6_fits 80 = .ok (.iconst 0, 1) := by decide +kernel
theorem dX6_fits_81 : decode cX6_fits 81 = .ok (.istore_n 3, 1) := by decide +kernel
theorem dX6_fits_82 : decode cX6_fits 82 = .ok (.iinc 4 1, 3) := by decide +kernel
theorem dX6_fits_85 : decode cX6_fits 85 = .ok (.goto (-35), 3) := by decide +kernel
theorem dX6_fits_88 : decode cX6_fits 88 = .ok (.iload_n 3, 1) := by decide +kernel
theorem dX6_fits_89 : decode cX6_fits 89 = .ok (.ireturn, 1) := by decide +kernel
theorem dX6_layOrder_0 : decode cX6_layOrder 0 = .ok (.iconst 0, 1) := by decide +kernel
theorem dX6_layOrder_1 : decode cX6_layOrder 1 = .ok (.istore_n 2, 1) := by decide +kernel
theorem dX6_layOrder_2 : decode cX6_layOrder 2 = .ok (.aload_n 0, 1) := by decide +kernel
theorem dX6_layOrder_3 : decode cX6_layOrder 3 = .ok (.getfield 88, 3) := by decide +kernel
theorem dX6_layOrder_6 : decode cX6_layOrder 6 = .ok (.iconst 0, 1) := by decide +kernel
theorem dX6_layOrder_7 : decode cX6_layOrder 7 = .ok (.iconst (-1), 1) := by decide +kernel
theorem dX6_layOrder_8 : decode cX6_layOrder 8 = .ok (.iastore, 1) := by decide +kernel
theorem dX6_layOrder_9 : decode cX6_layOrder 9 = .ok (.iload_n 2, 1) := by decide +kernel
theorem dX6_layOrder_10 : decode cX6_layOrder 10 = .ok (.ifCond .lt 66, 3) := by decide +kernel
theorem dX6_layOrder_13 : decode cX6_layOrder 13 = .ok (.iload_n 2, 1) := by decide +kernel
theorem dX6_layOrder_14 : decode cX6_layOrder 14 = .ok (.aload_n 0, 1) := by decide +kernel
theorem dX6_layOrder_15 : decode cX6_layOrder 15 = .ok (.getfield 7, 3) := by decide +kernel
theorem dX6_layOrder_18 : decode cX6_layOrder 18 = .ok (.iload_n 1, 1) := by decide +kernel
theorem dX6_layOrder_19 : decode cX6_layOrder 19 = .ok (.iaload, 1) := by decide +kernel
theorem dX6_layOrder_20 : decode cX6_layOrder 20 = .ok (.if_icmp .ge 56, 3) := by decide +kernel
theorem dX6_layOrder_23 : decode cX6_layOrder 23 = .ok (.aload_n 0, 1) := by decide +kernel
theorem dX6_layOrder_24 : decode cX6_layOrder 24 = .ok (.getfield 88, 3) := by decide +kernel
theorem dX6_layOrder_27 : decode cX6_layOrder 27 = .ok (.iload_n 2, 1) := by decide +kernel
theorem dX6_layOrder_28 : decode cX6_layOrder 28 = .ok (.dup2, 1) := by decide +kernel
theorem dX6_layOrder_29 : decode cX6_layOrder 29 = .ok (.iaload, 1) := by decide +kernel
theorem dX6_layOrder_30 : decode cX6_layOrder 30 = .ok (.iconst 1, 1) := by decide +kernel
theorem dX6_layOrder_31 : decode cX6_layOrder 31 = .ok (.iadd, 1) := by decide +kernel
theorem dX6_layOrder_32 : decode cX6_layOrder 32 = .ok (.iastore, 1) := by decide +kernel
theorem dX6_layOrder_33 : decode cX6_layOrder 33 = .ok (.aload_n 0, 1) := by decide +kernel
theorem dX6_layOrder_34 : decode cX6_layOrder 34 = .ok (.getfield 88, 3) := by decide +kernel
theorem dX6_layOrder_37 : decode cX6_layOrder 37 = .ok (.iload_n 2, 1) := by decide +kernel
theorem dX6_layOrder_38 : decode cX6_layOrder 38 = .ok (.iaload, 1) := by decide +kernel
theorem dX6_layOrder_39 : decode cX6_layOrder 39 = .ok (.aload_n 0, 1) := by decide +kernel
theorem dX6_layOrder_40 : decode cX6_layOrder 40 = .ok (.getfield 7, 3) := by decide +kernel
theorem dX6_layOrder_43 : decode cX6_layOrder 43 = .ok (.iload_n 1, 1) := by decide +kernel
theorem dX6_layOrder_44 : decode cX6_layOrder 44 = .ok (.iaload, 1) := by decide +kernel
theorem dX6_layOrder_45 : decode cX6_layOrder 45 = .ok (.if_icmp .ne 9, 3) := by decide +kernel
theorem dX6_layOrder_48 : decode cX6_layOrder 48 = .ok (.iinc 2 (-1), 3) := by decide +kernel
theorem dX6_layOrder_51 : decode cX6_layOrder 51 = .ok (.goto (-42), 3) := by decide +kernel
theorem dX6_layOrder_54 : decode cX6_layOrder 54 = .ok (.aload_n 0, 1) := by decide +kernel
theorem dX6_layOrder_55 : decode cX6_layOrder 55 = .ok (.iload_n 1, 1) := by decide +kernel
theorem dX6_layOrder_56 : decode cX6_layOrder 56 = .ok (.iload_n 2, 1) := by decide +kernel
theorem dX6_layOrder_57 : decode cX6_layOrder 57 = .ok (.invokevirtual 148, 3) := by decide +kernel
theorem dX6_layOrder_60 : decode cX6_layOrder 60 = .ok (.ifCond .eq (-51), 3) := by decide +kernel
theorem dX6_layOrder_63 : decode cX6_layOrder 63 = .ok (.iinc 2 1, 3) := by decide +kernel
theorem dX6_layOrder_66 : decode cX6_layOrder 66 = .ok (.aload_n 0, 1) := by decide +kernel
theorem dX6_layOrder_67 : decode cX6_layOrder 67 = .ok (.getfield 88, 3) := by decide +kernel
theorem dX6_layOrder_70 : decode cX6_layOrder 70 = .ok (.iload_n 2, 1) := by decide +kernel
theorem dX6_layOrder_71 : decode cX6_layOrder 71 = .ok (.iconst (-1), 1) := by decide +kernel
theorem dX6_layOrder_72 : decode cX6_layOrder 72 = .ok (.iastore, 1) := by decide +kernel
theorem dX6_layOrder_73 : decode cX6_layOrder 73 = .ok (.goto (-64), 3) := by decide +kernel
theorem dX6_layOrder_76 : decode cX6_layOrder 76 = .ok (.iload_n 2, 1) := by decide +kernel
theorem dX6_layOrder_77 : decode cX6_layOrder 77 = .ok (.ifCond .lt 7, 3) := by decide +kernel
theorem dX6_layOrder_80 : decode cX6_layOrder 80 = .ok (.iconst 1, 1) := by decide +kernel
theorem dX6_layOrder_81 : decode cX6_layOrder 81 = .ok (.goto 4, 3) := by decide +kernel
theorem dX6_layOrder_84 : decode cX6_layOrder 84 = .ok (.iconst 0, 1) := by decide +kernel
theorem dX6_layOrder_85 : decode cX6_layOrder 85 = .ok (.ireturn, 1) := by decide +kernel
theorem dX6_orderOf_0 : decode cX6_orderOf 0 = .ok (.aload_n 0, 1) := by decide +kernel
theorem dX6_orderOf_1 : decode cX6_orderOf 1 = .ok (.iload_n 1, 1) := by decide +kernel
theorem dX6_orderOf_2 : decode cX6_orderOf 2 = .ok (.invokevirtual 101, 3) := by decide +kernel
theorem dX6_orderOf_5 : decode cX6_orderOf 5 = .ok (.ifCond .eq 23, 3) := by decide +kernel
theorem dX6_orderOf_8 : decode cX6_orderOf 8 = .ok (.iload_n 2, 1) := by decide +kernel
theorem dX6_orderOf_9 : decode cX6_orderOf 9 = .ok (.iconst 0, 1) := by decide +kernel
theorem dX6_orderOf_10 : decode cX6_orderOf 10 = .ok (.aload_n 0, 1) := by decide +kernel
theorem dX6_orderOf_11 : decode cX6_orderOf 11 = .ok (.getfield 7, 3) := by decide +kernel
theorem dX6_orderOf_14 : decode cX6_orderOf 14 = .ok (.iload_n 1, 1) := by decide +kernel
theorem dX6_orderOf_15 : decode cX6_orderOf 15 = .ok (.iaload, 1) := by decide +kernel
theorem dX6_orderOf_16 : decode cX6_orderOf 16 = .ok (.iconst 1, 1) := by decide +kernel
theorem dX6_orderOf_17 : decode cX6_orderOf 17 = .ok (.isub, 1) := by decide +kernel
theorem dX6_orderOf_18 : decode cX6_orderOf 18 = .ok (.invokestatic 97, 3) := by decide +kernel
theorem dX6_orderOf_21 : decode cX6_orderOf 21 = .ok (.ifCond .eq 7, 3) := by decide +kernel
theorem dX6_orderOf_24 : decode cX6_orderOf 24 = .ok (.iconst 1, 1) := by decide +kernel
theorem dX6_orderOf_25 : decode cX6_orderOf 25 = .ok (.goto 4, 3) := by decide +kernel
theorem dX6_orderOf_28 : decode cX6_orderOf 28 = .ok (.iconst 0, 1) := by decide +kernel
theorem dX6_orderOf_29 : decode cX6_orderOf 29 = .ok (.istore_n 3, 1) := by decide +kernel
theorem dX6_orderOf_30 : decode cX6_orderOf 30 = .ok (.aload_n 0, 1) := by decide +kernel
theorem dX6_orderOf_31 : decode cX6_orderOf 31 = .ok (.iload_n 3, 1) := by decide +kernel
theorem dX6_orderOf_32 : decode cX6_orderOf 32 = .ok (.ifCond .ne 7, 3) := by decide +kernel
theorem dX6_orderOf_35 : decode cX6_orderOf 35 = .ok (.iconst 1, 1) := by decide +kernel
theorem dX6_orderOf_36 : decode cX6_orderOf 36 = .ok (.goto 19, 3) := by decide +kernel
theorem dX6_orderOf_39 : decode cX6_orderOf 39 = .ok (.aload_n 0, 1) := by decide +kernel
theorem dX6_orderOf_40 : decode cX6_orderOf 40 = .ok (.getfield 7, 3) := by decide +kernel
theorem dX6_orderOf_43 : decode cX6_orderOf 43 = .ok (.iload_n 1, 1) := by decide +kernel
theorem dX6_orderOf_44 : decode cX6_orderOf 44 = .ok (.iaload, 1) := by decide +kernel
theorem dX6_orderOf_45 : decode cX6_orderOf 45 = .ok (.bipush 7, 2) := by decide +kernel
theorem dX6_orderOf_47 : decode cX6_orderOf 47 = .ok (.if_icmp .le 7, 3) := by decide +kernel
theorem dX6_orderOf_50 : decode cX6_orderOf 50 = .ok (.iconst 2, 1) := by decide +kernel
theorem dX6_orderOf_51 : decode cX6_orderOf 51 = .ok (.goto 4, 3) := by decide +kernel
theorem dX6_orderOf_54 : decode cX6_orderOf 54 = .ok (.iconst 0, 1) := by decide +kernel
theorem dX6_orderOf_55 : decode cX6_orderOf 55 = .ok (.invokevirtual 109, 3) := by decide +kernel
theorem dX6_orderOf_58 : decode cX6_orderOf 58 = .ok (.ifCond .ne 5, 3) := by decide +kernel
theorem dX6_orderOf_61 : decode cX6_orderOf 61 = .ok (.iconst 0, 1) := by decide +kernel
theorem dX6_orderOf_62 : decode cX6_orderOf 62 = .ok (.ireturn, 1) := by decide +kernel
theorem dX6_orderOf_63 : decode cX6_orderOf 63 = .ok (.aload_n 0, 1) := by decide +kernel
theorem dX6_orderOf_64 : decode cX6_orderOf 64 = .ok (.iload_n 1, 1) := by decide +kernel
theorem dX6_orderOf_65 : decode cX6_orderOf 65 = .ok (.invokevirtual 151, 3) := by decide +kernel
theorem dX6_orderOf_68 : decode cX6_orderOf 68 = .ok (.ifCond .eq 12, 3) := by decide +kernel
theorem dX6_orderOf_71 : decode cX6_orderOf 71 = .ok (.aload_n 0, 1) := by decide +kernel
theorem dX6_orderOf_72 : decode cX6_orderOf 72 = .ok (.getfield 88, 3) := by decide +kernel
theorem dX6_orderOf_75 : decode cX6_orderOf 75 = .ok (.iload_n 2, 1) := by decide +kernel
theorem dX6_orderOf_76 : decode cX6_orderOf 76 = .ok (.iaload, 1) := by decide +kernel
theorem dX6_orderOf_77 : decode cX6_orderOf 77 = .ok (.goto 4, 3) := by decide +kernel
theorem dX6_orderOf_80 : decode cX6_orderOf 80 = .ok (.iconst (-1), 1) := by decide +kernel
theorem dX6_orderOf_81 : decode cX6_orderOf 81 = .ok (.ireturn, 1) := by decide +kernel
theorem dX6_order_0 : decode cX6_order 0 = .ok (.aload_n 0, 1) := by decide +kernel
theorem dX6_order_1 : decode cX6_order 1 = .ok (.iload_n 1, 1) := by decide +kernel
theorem dX6_order_2 : decode cX6_order 2 = .ok (.iload_n 2, 1) := by decide +kernel
theorem dX6_order_3 : decode cX6_order 3 = .ok (.invokevirtual 154, 3) := by decide +kernel
theorem dX6_order_6 : decode cX6_order 6 = .ok (.ireturn, 1) := by decide +kernel
theorem dX6_orderAnew_0 : decode cX6_orderAnew 0 = .ok (.aload_n 0, 1) := by decide +kernel
theorem dX6_orderAnew_1 : decode cX6_orderAnew 1 = .ok (.iload_n 1, 1) := by decide +kernel
theorem dX6_orderAnew_2 : decode cX6_orderAnew 2 = .ok (.iload_n 2, 1) := by decide +kernel
theorem dX6_orderAnew_3 : decode cX6_orderAnew 3 = .ok (.invokevirtual 154, 3) := by decide +kernel
theorem dX6_orderAnew_6 : decode cX6_orderAnew 6 = .ok (.ireturn, 1) := by decide +kernel
theorem dX6_spot_0 : decode cX6_spot 0 = .ok (.iconst 4, 1) := by decide +kernel
theorem dX6_spot_1 : decode cX6_spot 1 = .ok (.bipush 12, 2) := by decide +kernel
theorem dX6_spot_3 : decode cX6_spot 3 = .ok (.iload_n 0, 1) := by decide +kernel
theorem dX6_spot_4 : decode cX6_spot 4 = .ok (.imul, 1) := by decide +kernel
theorem dX6_spot_5 : decode cX6_spot 5 = .ok (.iload_n 1, 1) := by decide +kernel
theorem dX6_spot_6 : decode cX6_spot 6 = .ok (.iadd, 1) := by decide +kernel
theorem dX6_spot_7 : decode cX6_spot 7 = .ok (.imul, 1) := by decide +kernel
theorem dX6_spot_8 : decode cX6_spot 8 = .ok (.iload_n 2, 1) := by decide +kernel
theorem dX6_spot_9 : decode cX6_spot 9 = .ok (.iadd, 1) := by decide +kernel
theorem dX6_spot_10 : decode cX6_spot 10 = .ok (.ireturn, 1) := by decide +kernel
theorem dX6_gold_0 : decode cX6_gold 0 = .ok (.aload_n 0, 1) := by decide +kernel
theorem dX6_gold_1 : decode cX6_gold 1 = .ok (.iload_n 1, 1) := by decide +kernel
theorem dX6_gold_2 : decode cX6_gold 2 = .ok (.iload_n 2, 1) := by decide +kernel
theorem dX6_gold_3 : decode cX6_gold 3 = .ok (.iload_n 3, 1) := by decide +kernel
theorem dX6_gold_4 : decode cX6_gold 4 = .ok (.invokevirtual 158, 3) := by decide +kernel
theorem dX6_gold_7 : decode cX6_gold 7 = .ok (.istore 5, 2) := by decide +kernel
theorem dX6_gold_9 : decode cX6_gold 9 = .ok (.aload_n 0, 1) := by decide +kernel
theorem dX6_gold_10 : decode cX6_gold 10 = .ok (.iload 5, 2) := by decide +kernel
theorem dX6_gold_12 : decode cX6_gold 12 = .ok (.ifCond .ne 7, 3) := by decide +kernel
theorem dX6_gold_15 : decode cX6_gold 15 = .ok (.iconst 1, 1) := by decide +kernel
theorem dX6_gold_16 : decode cX6_gold 16 = .ok (.goto 19, 3) := by decide +kernel
theorem dX6_gold_19 : decode cX6_gold 19 = .ok (.iload 4, 2) := by decide +kernel
theorem dX6_gold_21 : decode cX6_gold 21 = .ok (.iconst 0, 1) := by decide +kernel
theorem dX6_gold_22 : decode cX6_gold 22 = .ok (.bipush 25, 2) := by decide +kernel
theorem dX6_gold_24 : decode cX6_gold 24 = .ok (.invokestatic 97, 3) := by decide +kernel
theorem dX6_gold_27 : decode cX6_gold 27 = .ok (.ifCond .eq 7, 3) := by decide +kernel
theorem dX6_gold_30 : decode cX6_gold 30 = .ok (.iconst 0, 1) := by decide +kernel
theorem dX6_gold_31 : decode cX6_gold 31 = .ok (.goto 4, 3) := by decide +kernel
theorem dX6_gold_34 : decode cX6_gold 34 = .ok (.iconst 2, 1) := by decide +kernel
theorem dX6_gold_35 : decode cX6_gold 35 = .ok (.invokevirtual 109, 3) := by decide +kernel
theorem dX6_gold_38 : decode cX6_gold 38 = .ok (.ifCond .ne 5, 3) := by decide +kernel
theorem dX6_gold_41 : decode cX6_gold 41 = .ok (.iconst 0, 1) := by decide +kernel
theorem dX6_gold_42 : decode cX6_gold 42 = .ok (.ireturn, 1) := by decide +kernel
theorem dX6_gold_43 : decode cX6_gold 43 = .ok (.aload_n 0, 1) := by decide +kernel
theorem dX6_gold_44 : decode cX6_gold 44 = .ok (.getfield 72, 3) := by decide +kernel
theorem dX6_gold_47 : decode cX6_gold 47 = .ok (.iload_n 1, 1) := by decide +kernel
theorem dX6_gold_48 : decode cX6_gold 48 = .ok (.iload_n 2, 1) := by decide +kernel
theorem dX6_gold_49 : decode cX6_gold 49 = .ok (.iload_n 3, 1) := by decide +kernel
theorem dX6_gold_50 : decode cX6_gold 50 = .ok (.invokestatic 161, 3) := by decide +kernel
theorem dX6_gold_53 : decode cX6_gold 53 = .ok (.iaload, 1) := by decide +kernel
theorem dX6_gold_54 : decode cX6_gold 54 = .ok (.istore 6, 2) := by decide +kernel
theorem dX6_gold_56 : decode cX6_gold 56 = .ok (.aload_n 0, 1) := by decide +kernel
theorem dX6_gold_57 : decode cX6_gold 57 = .ok (.getfield 72, 3) := by decide +kernel
theorem dX6_gold_60 : decode cX6_gold 60 = .ok (.iload_n 1, 1) := by decide +kernel
theorem dX6_gold_61 : decode cX6_gold 61 = .ok (.iload_n 2, 1) := by decide +kernel
theorem dX6_gold_62 : decode cX6_gold 62 = .ok (.iload_n 3, 1) := by decide +kernel
theorem dX6_gold_63 : decode cX6_gold 63 = .ok (.invokestatic 161, 3) := by decide +kernel
theorem dX6_gold_66 : decode cX6_gold 66 = .ok (.iload 4, 2) := by decide +kernel
theorem dX6_gold_68 : decode cX6_gold 68 = .ok (.iconst 1, 1) := by decide +kernel
theorem dX6_gold_69 : decode cX6_gold 69 = .ok (.iadd, 1) := by decide +kernel
theorem dX6_gold_70 : decode cX6_gold 70 = .ok (.iastore, 1) := by decide +kernel
theorem dX6_gold_71 : decode cX6_gold 71 = .ok (.iload 6, 2) := by decide +kernel
theorem dX6_gold_73 : decode cX6_gold 73 = .ok (.iconst 1, 1) := by decide +kernel
theorem dX6_gold_74 : decode cX6_gold 74 = .ok (.isub, 1) := by decide +kernel
theorem dX6_gold_75 : decode cX6_gold 75 = .ok (.ireturn, 1) := by decide +kernel
theorem dX6_key_0 : decode cX6_key 0 = .ok (.iload_n 1, 1) := by decide +kernel
theorem dX6_key_1 : decode cX6_key 1 = .ok (.iconst 0, 1) := by decide +kernel
theorem dX6_key_2 : decode cX6_key 2 = .ok (.iconst 4, 1) := by decide +kernel
theorem dX6_key_3 : decode cX6_key 3 = .ok (.invokestatic 97, 3) := by decide +kernel
theorem dX6_key_6 : decode cX6_key 6 = .ok (.ifCond .eq 18, 3) := by decide +kernel
theorem dX6_key_9 : decode cX6_key 9 = .ok (.aload_n 0, 1) := by decide +kernel
theorem dX6_key_10 : decode cX6_key 10 = .ok (.iload_n 2, 1) := by decide +kernel
theorem dX6_key_11 : decode cX6_key 11 = .ok (.iload_n 3, 1) := by decide +kernel
theorem dX6_key_12 : decode cX6_key 12 = .ok (.iload 4, 2) := by decide +kernel
theorem dX6_key_14 : decode cX6_key 14 = .ok (.invokevirtual 158, 3) := by decide +kernel
theorem dX6_key_17 : decode cX6_key 17 = .ok (.ifCond .eq 7, 3) := by decide +kernel
theorem dX6_key_20 : decode cX6_key 20 = .ok (.iconst 1, 1) := by decide +kernel
theorem dX6_key_21 : decode cX6_key 21 = .ok (.goto 4, 3) := by decide +kernel
theorem dX6_key_24 : decode cX6_key 24 = .ok (.iconst 0, 1) := by decide +kernel
theorem dX6_key_25 : decode cX6_key 25 = .ok (.istore 6, 2) := by decide +kernel
theorem dX6_key_27 : decode cX6_key 27 = .ok (.aload_n 0, 1) := by decide +kernel
theorem dX6_key_28 : decode cX6_key 28 = .ok (.iload 6, 2) := by decide +kernel
theorem dX6_key_30 : decode cX6_key 30 = .ok (.ifCond .ne 7, 3) := by decide +kernel
theorem dX6_key_33 : decode cX6_key 33 = .ok (.iconst 1, 1) := by decide +kernel
theorem dX6_key_34 : decode cX6_key 34 = .ok (.goto 19, 3) := by decide +kernel
theorem dX6_key_37 : decode cX6_key 37 = .ok (.iload 5, 2) := by decide +kernel
theorem dX6_key_39 : decode cX6_key 39 = .ok (.iconst 0, 1) := by decide +kernel
theorem dX6_key_40 : decode cX6_key 40 = .ok (.bipush 25, 2) := by decide +kernel
theorem dX6_key_42 : decode cX6_key 42 = .ok (.invokestatic 97, 3) := by decide +kernel
theorem dX6_key_45 : decode cX6_key 45 = .ok (.ifCond .eq 7, 3) := by decide +kernel
theorem dX6_key_48 : decode cX6_key 48 = .ok (.iconst 0, 1) := by decide +kernel
theorem dX6_key_49 : decode cX6_key 49 = .ok (.goto 4, 3) := by decide +kernel
theorem dX6_key_52 : decode cX6_key 52 = .ok (.iconst 2, 1) := by decide +kernel
theorem dX6_key_53 : decode cX6_key 53 = .ok (.invokevirtual 109, 3) := by decide +kernel
theorem dX6_key_56 : decode cX6_key 56 = .ok (.ifCond .ne 5, 3) := by decide +kernel
theorem dX6_key_59 : decode cX6_key 59 = .ok (.iconst 0, 1) := by decide +kernel
theorem dX6_key_60 : decode cX6_key 60 = .ok (.ireturn, 1) := by decide +kernel
theorem dX6_key_61 : decode cX6_key 61 = .ok (.iconst 5, 1) := by decide +kernel
theorem dX6_key_62 : decode cX6_key 62 = .ok (.iload_n 2, 1) := by decide +kernel
theorem dX6_key_63 : decode cX6_key 63 = .ok (.iload_n 3, 1) := by decide +kernel
theorem dX6_key_64 : decode cX6_key 64 = .ok (.iload 4, 2) := by decide +kernel
theorem dX6_key_66 : decode cX6_key 66 = .ok (.invokestatic 161, 3) := by decide +kernel
theorem dX6_key_69 : decode cX6_key 69 = .ok (.imul, 1) := by decide +kernel
theorem dX6_key_70 : decode cX6_key 70 = .ok (.iload_n 1, 1) := by decide +kernel
theorem dX6_key_71 : decode cX6_key 71 = .ok (.iadd, 1) := by decide +kernel
theorem dX6_key_72 : decode cX6_key 72 = .ok (.istore 7, 2) := by decide +kernel
theorem dX6_key_74 : decode cX6_key 74 = .ok (.aload_n 0, 1) := by decide +kernel
theorem dX6_key_75 : decode cX6_key 75 = .ok (.getfield 75, 3) := by decide +kernel
theorem dX6_key_78 : decode cX6_key 78 = .ok (.iload 7, 2) := by decide +kernel
theorem dX6_key_80 : decode cX6_key 80 = .ok (.iaload, 1) := by decide +kernel
theorem dX6_key_81 : decode cX6_key 81 = .ok (.istore 8, 2) := by decide +kernel
theorem dX6_key_83 : decode cX6_key 83 = .ok (.aload_n 0, 1) := by decide +kernel
theorem dX6_key_84 : decode cX6_key 84 = .ok (.getfield 75, 3) := by decide +kernel
theorem dX6_key_87 : decode cX6_key 87 = .ok (.iload 7, 2) := by decide +kernel
theorem dX6_key_89 : decode cX6_key 89 = .ok (.iload 5, 2) := by decide +kernel
theorem dX6_key_91 : decode cX6_key 91 = .ok (.iconst 1, 1) := by decide +kernel
theorem dX6_key_92 : decode cX6_key 92 = .ok (.iadd, 1) := by decide +kernel
theorem dX6_key_93 : decode cX6_key 93 = .ok (.iastore, 1) := by decide +kernel
theorem dX6_key_94 : decode cX6_key 94 = .ok (.iload 8, 2) := by decide +kernel
theorem dX6_key_96 : decode cX6_key 96 = .ok (.iconst 1, 1) := by decide +kernel
theorem dX6_key_97 : decode cX6_key 97 = .ok (.isub, 1) := by decide +kernel
theorem dX6_key_98 : decode cX6_key 98 = .ok (.ireturn, 1) := by decide +kernel
theorem dX6_trustOf_0 : decode cX6_trustOf 0 = .ok (.iconst 0, 1) := by decide +kernel
theorem dX6_trustOf_1 : decode cX6_trustOf 1 = .ok (.istore_n 2, 1) := by decide +kernel
theorem dX6_trustOf_2 : decode cX6_trustOf 2 = .ok (.iconst 0, 1) := by decide +kernel
theorem dX6_trustOf_3 : decode cX6_trustOf 3 = .ok (.istore_n 3, 1) := by decide +kernel
theorem dX6_trustOf_4 : decode cX6_trustOf 4 = .ok (.iconst 0, 1) := by decide +kernel
theorem dX6_trustOf_5 : decode cX6_trustOf 5 = .ok (.istore 4, 2) := by decide +kernel
theorem dX6_trustOf_7 : decode cX6_trustOf 7 = .ok (.iload 4, 2) := by decide +kernel
theorem dX6_trustOf_9 : decode cX6_trustOf 9 = .ok (.sipush 288, 3) := by decide +kernel
theorem dX6_trustOf_12 : decode cX6_trustOf 12 = .ok (.if_icmp .ge 75, 3) := by decide +kernel
theorem dX6_trustOf_15 : decode cX6_trustOf 15 = .ok (.aload_n 0, 1) := by decide +kernel
theorem dX6_trustOf_16 : decode cX6_trustOf 16 = .ok (.getfield 75, 3) := by decide +kernel
theorem dX6_trustOf_19 : decode cX6_trustOf 19 = .ok (.iconst 5, 1) := by decide +kernel
theorem dX6_trustOf_20 : decode cX6_trustOf 20 = .ok (.iload 4, 2) := by decide +kernel
theorem dX6_trustOf_22 : decode cX6_trustOf 22 = .ok (.imul, 1) := by decide +kernel
theorem dX6_trustOf_23 : decode cX6_trustOf 23 = .ok (.iload_n 1, 1) := by decide +kernel
theorem dX6_trustOf_24 : decode cX6_trustOf 24 = .ok (.iadd, 1) := by decide +kernel
theorem dX6_trustOf_25 : decode cX6_trustOf 25 = .ok (.iaload, 1) := by decide +kernel
theorem dX6_trustOf_26 : decode cX6_trustOf 26 = .ok (.istore 5, 2) := by decide +kernel
theorem dX6_trustOf_28 : decode cX6_trustOf 28 = .ok (.iload_n 2, 1) := by decide +kernel
theorem dX6_trustOf_29 : decode cX6_trustOf 29 = .ok (.aload_n 0, 1) := by decide +kernel
theorem dX6_trustOf_30 : decode cX6_trustOf 30 = .ok (.getfield 72, 3) := by decide +kernel
theorem dX6_trustOf_33 : decode cX6_trustOf 33 = .ok (.iload 4, 2) := by decide +kernel
theorem dX6_trustOf_35 : decode cX6_trustOf 35 = .ok (.iaload, 1) := by decide +kernel
theorem dX6_trustOf_36 : decode cX6_trustOf 36 = .ok (.ifCond .le 12, 3) := by decide +kernel
theorem dX6_trustOf_39 : decode cX6_trustOf 39 = .ok (.iload 5, 2) := by decide +kernel
theorem dX6_trustOf_41 : decode cX6_trustOf 41 = .ok (.ifCond .le 7, 3) := by decide +kernel
theorem dX6_trustOf_44 : decode cX6_trustOf 44 = .ok (.iconst 1, 1) := by decide +kernel
theorem dX6_trustOf_45 : decode cX6_trustOf 45 = .ok (.goto 4, 3) := by decide +kernel
theorem dX6_trustOf_48 : decode cX6_trustOf 48 = .ok (.iconst 0, 1) := by decide +kernel
theorem dX6_trustOf_49 : decode cX6_trustOf 49 = .ok (.iadd, 1) := by decide +kernel
theorem dX6_trustOf_50 : decode cX6_trustOf 50 = .ok (.istore_n 2, 1) := by decide +kernel
theorem dX6_trustOf_51 : decode cX6_trustOf 51 = .ok (.iload_n 3, 1) := by decide +kernel
theorem dX6_trustOf_52 : decode cX6_trustOf 52 = .ok (.aload_n 0, 1) := by decide +kernel
theorem dX6_trustOf_53 : decode cX6_trustOf 53 = .ok (.getfield 72, 3) := by decide +kernel
theorem dX6_trustOf_56 : decode cX6_trustOf 56 = .ok (.iload 4, 2) := by decide +kernel
theorem dX6_trustOf_58 : decode cX6_trustOf 58 = .ok (.iaload, 1) := by decide +kernel
theorem dX6_trustOf_59 : decode cX6_trustOf 59 = .ok (.ifCond .le 19, 3) := by decide +kernel
theorem dX6_trustOf_62 : decode cX6_trustOf 62 = .ok (.iload 5, 2) := by decide +kernel
theorem dX6_trustOf_64 : decode cX6_trustOf 64 = .ok (.aload_n 0, 1) := by decide +kernel
theorem dX6_trustOf_65 : decode cX6_trustOf 65 = .ok (.getfield 72, 3) := by decide +kernel
theorem dX6_trustOf_68 : decode cX6_trustOf 68 = .ok (.iload 4, 2) := by decide +kernel
theorem dX6_trustOf_70 : decode cX6_trustOf 70 = .ok (.iaload, 1) := by decide +kernel
theorem dX6_trustOf_71 : decode cX6_trustOf 71 = .ok (.if_icmp .ne 7, 3) := by decide +kernel
theorem dX6_trustOf_74 : decode cX6_trustOf 74 = .ok (.iconst 1, 1) := by decide +kernel
theorem dX6_trustOf_75 : decode cX6_trustOf 75 = .ok (.goto 4, 3) := by decide +kernel
theorem dX6_trustOf_78 : decode cX6_trustOf 78 = .ok (.iconst 0, 1) := by decide +kernel
theorem dX6_trustOf_79 : decode cX6_trustOf 79 = .ok (.iadd, 1) := by decide +kernel
theorem dX6_trustOf_80 : decode cX6_trustOf 80 = .ok (.istore_n 3, 1) := by decide +kernel
theorem dX6_trustOf_81 : decode cX6_trustOf 81 = .ok (.iinc 4 1, 3) := by decide +kernel
theorem dX6_trustOf_84 : decode cX6_trustOf 84 = .ok (.goto (-77), 3) := by decide +kernel
theorem dX6_trustOf_87 : decode cX6_trustOf 87 = .ok (.iload_n 2, 1) := by decide +kernel
theorem dX6_trustOf_88 : decode cX6_trustOf 88 = .ok (.ifCond .ne 8, 3) := by decide +kernel
theorem dX6_trustOf_91 : decode cX6_trustOf 91 = .ok (.bipush 50, 2) := by decide +kernel
theorem dX6_trustOf_93 : decode cX6_trustOf 93 = .ok (.goto 9, 3) := by decide +kernel
theorem dX6_trustOf_96 : decode cX6_trustOf 96 = .ok (.bipush 100, 2) := by decide +kernel
theorem dX6_trustOf_98 : decode cX6_trustOf 98 = .ok (.iload_n 3, 1) := by decide +kernel
theorem dX6_trustOf_99 : decode cX6_trustOf 99 = .ok (.imul, 1) := by decide +kernel
theorem dX6_trustOf_100 : decode cX6_trustOf 100 = .ok (.iload_n 2, 1) := by decide +kernel
theorem dX6_trustOf_101 : decode cX6_trustOf 101 = .ok (.idiv, 1) := by decide +kernel
theorem dX6_trustOf_102 : decode cX6_trustOf 102 = .ok (.ireturn, 1) := by decide +kernel
theorem dX6_trust_0 : decode cX6_trust 0 = .ok (.aload_n 0, 1) := by decide +kernel
theorem dX6_trust_1 : decode cX6_trust 1 = .ok (.iload_n 1, 1) := by decide +kernel
theorem dX6_trust_2 : decode cX6_trust 2 = .ok (.iconst 0, 1) := by decide +kernel
theorem dX6_trust_3 : decode cX6_trust 3 = .ok (.iconst 4, 1) := by decide +kernel
theorem dX6_trust_4 : decode cX6_trust 4 = .ok (.invokestatic 97, 3) := by decide +kernel
theorem dX6_trust_7 : decode cX6_trust 7 = .ok (.ifCond .eq 7, 3) := by decide +kernel
theorem dX6_trust_10 : decode cX6_trust 10 = .ok (.iconst 0, 1) := by decide +kernel
theorem dX6_trust_11 : decode cX6_trust 11 = .ok (.goto 4, 3) := by decide +kernel
theorem dX6_trust_14 : decode cX6_trust 14 = .ok (.iconst 1, 1) := by decide +kernel
theorem dX6_trust_15 : decode cX6_trust 15 = .ok (.invokevirtual 109, 3) := by decide +kernel
theorem dX6_trust_18 : decode cX6_trust 18 = .ok (.ifCond .eq 11, 3) := by decide +kernel
theorem dX6_trust_21 : decode cX6_trust 21 = .ok (.aload_n 0, 1) := by decide +kernel
theorem dX6_trust_22 : decode cX6_trust 22 = .ok (.iload_n 1, 1) := by decide +kernel
theorem dX6_trust_23 : decode cX6_trust 23 = .ok (.invokevirtual 165, 3) := by decide +kernel
theorem dX6_trust_26 : decode cX6_trust 26 = .ok (.goto 4, 3) := by decide +kernel
theorem dX6_trust_29 : decode cX6_trust 29 = .ok (.iconst 0, 1) := by decide +kernel
theorem dX6_trust_30 : decode cX6_trust 30 = .ok (.ireturn, 1) := by decide +kernel
theorem dX6_pay_0 : decode cX6_pay 0 = .ok (.aload_n 0, 1) := by decide +kernel
theorem dX6_pay_1 : decode cX6_pay 1 = .ok (.iload_n 1, 1) := by decide +kernel
theorem dX6_pay_2 : decode cX6_pay 2 = .ok (.iconst 0, 1) := by decide +kernel
theorem dX6_pay_3 : decode cX6_pay 3 = .ok (.iconst 4, 1) := by decide +kernel
theorem dX6_pay_4 : decode cX6_pay 4 = .ok (.invokestatic 97, 3) := by decide +kernel
theorem dX6_pay_7 : decode cX6_pay 7 = .ok (.ifCond .eq 7, 3) := by decide +kernel
theorem dX6_pay_10 : decode cX6_pay 10 = .ok (.iconst 0, 1) := by decide +kernel
theorem dX6_pay_11 : decode cX6_pay 11 = .ok (.goto 4, 3) := by decide +kernel
theorem dX6_pay_14 : decode cX6_pay 14 = .ok (.iconst 1, 1) := by decide +kernel
theorem dX6_pay_15 : decode cX6_pay 15 = .ok (.invokevirtual 109, 3) := by decide +kernel
theorem dX6_pay_18 : decode cX6_pay 18 = .ok (.ifCond .ne 5, 3) := by decide +kernel
theorem dX6_pay_21 : decode cX6_pay 21 = .ok (.iconst 0, 1) := by decide +kernel
theorem dX6_pay_22 : decode cX6_pay 22 = .ok (.ireturn, 1) := by decide +kernel
theorem dX6_pay_23 : decode cX6_pay 23 = .ok (.iconst 0, 1) := by decide +kernel
theorem dX6_pay_24 : decode cX6_pay 24 = .ok (.istore_n 2, 1) := by decide +kernel
theorem dX6_pay_25 : decode cX6_pay 25 = .ok (.iconst 0, 1) := by decide +kernel
theorem dX6_pay_26 : decode cX6_pay 26 = .ok (.istore_n 3, 1) := by decide +kernel
theorem dX6_pay_27 : decode cX6_pay 27 = .ok (.iload_n 3, 1) := by decide +kernel
theorem dX6_pay_28 : decode cX6_pay 28 = .ok (.sipush 288, 3) := by decide +kernel
theorem dX6_pay_31 : decode cX6_pay 31 = .ok (.if_icmp .ge 30, 3) := by decide +kernel
theorem dX6_pay_34 : decode cX6_pay 34 = .ok (.iload_n 2, 1) := by decide +kernel
theorem dX6_pay_35 : decode cX6_pay 35 = .ok (.aload_n 0, 1) := by decide +kernel
theorem dX6_pay_36 : decode cX6_pay 36 = .ok (.getfield 75, 3) := by decide +kernel
theorem dX6_pay_39 : decode cX6_pay 39 = .ok (.iconst 5, 1) := by decide +kernel
theorem dX6_pay_40 : decode cX6_pay 40 = .ok (.iload_n 3, 1) := by decide +kernel
theorem dX6_pay_41 : decode cX6_pay 41 = .ok (.imul, 1) := by decide +kernel
theorem dX6_pay_42 : decode cX6_pay 42 = .ok (.iload_n 1, 1) := by decide +kernel
theorem dX6_pay_43 : decode cX6_pay 43 = .ok (.iadd, 1) := by decide +kernel
theorem dX6_pay_44 : decode cX6_pay 44 = .ok (.iaload, 1) := by decide +kernel
theorem dX6_pay_45 : decode cX6_pay 45 = .ok (.ifCond .le 7, 3) := by decide +kernel
theorem dX6_pay_48 : decode cX6_pay 48 = .ok (.iconst 1, 1) := by decide +kernel
theorem dX6_pay_49 : decode cX6_pay 49 = .ok (.goto 4, 3) := by decide +kernel
theorem dX6_pay_52 : decode cX6_pay 52 = .ok (.iconst 0, 1) := by decide +kernel
theorem dX6_pay_53 : decode cX6_pay 53 = .ok (.iadd, 1) := by decide +kernel
theorem dX6_pay_54 : decode cX6_pay 54 = .ok (.istore_n 2, 1) := by decide +kernel
theorem dX6_pay_55 : decode cX6_pay 55 = .ok (.iinc 3 1, 3) := by decide +kernel
theorem dX6_pay_58 : decode cX6_pay 58 = .ok (.goto (-31), 3) := by decide +kernel
theorem dX6_pay_61 : decode cX6_pay 61 = .ok (.iload_n 2, 1) := by decide +kernel
theorem dX6_pay_62 : decode cX6_pay 62 = .ok (.aload_n 0, 1) := by decide +kernel
theorem dX6_pay_63 : decode cX6_pay 63 = .ok (.iload_n 1, 1) := by decide +kernel
theorem dX6_pay_64 : decode cX6_pay 64 = .ok (.invokevirtual 165, 3) := by decide +kernel
theorem dX6_pay_67 : decode cX6_pay 67 = .ok (.imul, 1) := by decide +kernel
theorem dX6_pay_68 : decode cX6_pay 68 = .ok (.bipush 10, 2) := by decide +kernel
theorem dX6_pay_70 : decode cX6_pay 70 = .ok (.idiv, 1) := by decide +kernel
theorem dX6_pay_71 : decode cX6_pay 71 = .ok (.ireturn, 1) := by decide +kernel
theorem dX6_weight_0 : decode cX6_weight 0 = .ok (.iconst (-1), 1) := by decide +kernel
theorem dX6_weight_1 : decode cX6_weight 1 = .ok (.istore_n 3, 1) := by decide +kernel
theorem dX6_weight_2 : decode cX6_weight 2 = .ok (.iconst 0, 1) := by decide +kernel
theorem dX6_weight_3 : decode cX6_weight 3 = .ok (.istore 4, 2) := by decide +kernel
theorem dX6_weight_5 : decode cX6_weight 5 = .ok (.iload 4, 2) := by decide +kernel
theorem dX6_weight_7 : decode cX6_weight 7 = .ok (.iconst 5, 1) := by decide +kernel
theorem dX6_weight_8 : decode cX6_weight 8 = .ok (.if_icmp .ge 49, 3) := by decide +kernel
theorem dX6_weight_11 : decode cX6_weight 11 = .ok (.iload_n 3, 1) := by decide +kernel
theorem dX6_weight_12 : decode cX6_weight 12 = .ok (.aload_n 0, 1) := by decide +kernel
theorem dX6_weight_13 : decode cX6_weight 13 = .ok (.getfield 75, 3) := by decide +kernel
theorem dX6_weight_16 : decode cX6_weight 16 = .ok (.iconst 5, 1) := by decide +kernel
theorem dX6_weight_17 : decode cX6_weight 17 = .ok (.iload_n 1, 1) := by decide +kernel
theorem dX6_weight_18 : decode cX6_weight 18 = .ok (.imul, 1) := by decide +kernel
theorem dX6_weight_19 : decode cX6_weight 19 = .ok (.iload 4, 2) := by decide +kernel
theorem dX6_weight_21 : decode cX6_weight 21 = .ok (.iadd, 1) := by decide +kernel
theorem dX6_weight_22 : decode cX6_weight 22 = .ok (.iaload, 1) := by decide +kernel
theorem dX6_weight_23 : decode cX6_weight 23 = .ok (.iload_n 2, 1) := by decide +kernel
theorem dX6_weight_24 : decode cX6_weight 24 = .ok (.if_icmp .ne 24, 3) := by decide +kernel
theorem dX6_weight_27 : decode cX6_weight 27 = .ok (.aload_n 0, 1) := by decide +kernel
theorem dX6_weight_28 : decode cX6_weight 28 = .ok (.getfield 78, 3) := by decide +kernel
theorem dX6_weight_31 : decode cX6_weight 31 = .ok (.iload 4, 2) := by decide +kernel
theorem dX6_weight_33 : decode cX6_weight 33 = .ok (.iaload, 1) := by decide +kernel
theorem dX6_weight_34 : decode cX6_weight 34 = .ok (.iload_n 3, 1) := by decide +kernel
theorem dX6_weight_35 : decode cX6_weight 35 = .ok (.iconst (-1), 1) := by decide +kernel
theorem dX6_weight_36 : decode cX6_weight 36 = .ok (.if_icmp .ne 7, 3) := by decide +kernel
theorem dX6_weight_39 : decode cX6_weight 39 = .ok (.iconst 1, 1) := by decide +kernel
theorem dX6_weight_40 : decode cX6_weight 40 = .ok (.goto 4, 3) := by decide +kernel
theorem dX6_weight_43 : decode cX6_weight 43 = .ok (.iconst 0, 1) := by decide +kernel
theorem dX6_weight_44 : decode cX6_weight 44 = .ok (.iadd, 1) := by decide +kernel
theorem dX6_weight_45 : decode cX6_weight 45 = .ok (.goto 4, 3) := by decide +kernel
theorem dX6_weight_48 : decode cX6_weight 48 = .ok (.iconst 0, 1) := by decide +kernel
theorem dX6_weight_49 : decode cX6_weight 49 = .ok (.iadd, 1) := by decide +kernel
theorem dX6_weight_50 : decode cX6_weight 50 = .ok (.istore_n 3, 1) := by decide +kernel
theorem dX6_weight_51 : decode cX6_weight 51 = .ok (.iinc 4 1, 3) := by decide +kernel
theorem dX6_weight_54 : decode cX6_weight 54 = .ok (.goto (-49), 3) := by decide +kernel
theorem dX6_weight_57 : decode cX6_weight 57 = .ok (.iload_n 3, 1) := by decide +kernel
theorem dX6_weight_58 : decode cX6_weight 58 = .ok (.ireturn, 1) := by decide +kernel
theorem dX6_weigh_0 : decode cX6_weigh 0 = .ok (.iconst 0, 1) := by decide +kernel
theorem dX6_weigh_1 : decode cX6_weigh 1 = .ok (.istore_n 1, 1) := by decide +kernel
theorem dX6_weigh_2 : decode cX6_weigh 2 = .ok (.iload_n 1, 1) := by decide +kernel
theorem dX6_weigh_3 : decode cX6_weigh 3 = .ok (.iconst 5, 1) := by decide +kernel
theorem dX6_weigh_4 : decode cX6_weigh 4 = .ok (.if_icmp .ge 20, 3) := by decide +kernel
theorem dX6_weigh_7 : decode cX6_weigh 7 = .ok (.aload_n 0, 1) := by decide +kernel
theorem dX6_weigh_8 : decode cX6_weigh 8 = .ok (.getfield 78, 3) := by decide +kernel
theorem dX6_weigh_11 : decode cX6_weigh 11 = .ok (.iload_n 1, 1) := by decide +kernel
theorem dX6_weigh_12 : decode cX6_weigh 12 = .ok (.aload_n 0, 1) := by decide +kernel
theorem dX6_weigh_13 : decode cX6_weigh 13 = .ok (.iload_n 1, 1) := by decide +kernel
theorem dX6_weigh_14 : decode cX6_weigh 14 = .ok (.invokevirtual 165, 3) := by decide +kernel
theorem dX6_weigh_17 : decode cX6_weigh 17 = .ok (.iastore, 1) := by decide +kernel
theorem dX6_weigh_18 : decode cX6_weigh 18 = .ok (.iinc 1 1, 3) := by decide +kernel
theorem dX6_weigh_21 : decode cX6_weigh 21 = .ok (.goto (-19), 3) := by decide +kernel
theorem dX6_weigh_24 : decode cX6_weigh 24 = .ok (.return_, 1) := by decide +kernel
theorem dX6_read_0 : decode cX6_read 0 = .ok (.aload_n 0, 1) := by decide +kernel
theorem dX6_read_1 : decode cX6_read 1 = .ok (.aload_n 0, 1) := by decide +kernel
theorem dX6_read_2 : decode cX6_read 2 = .ok (.iload_n 1, 1) := by decide +kernel
theorem dX6_read_3 : decode cX6_read 3 = .ok (.iload_n 2, 1) := by decide +kernel
theorem dX6_read_4 : decode cX6_read 4 = .ok (.iload_n 3, 1) := by decide +kernel
theorem dX6_read_5 : decode cX6_read 5 = .ok (.invokevirtual 158, 3) := by decide +kernel
theorem dX6_read_8 : decode cX6_read 8 = .ok (.ifCond .eq 7, 3) := by decide +kernel
theorem dX6_read_11 : decode cX6_read 11 = .ok (.iconst 0, 1) := by decide +kernel
theorem dX6_read_12 : decode cX6_read 12 = .ok (.goto 4, 3) := by decide +kernel
theorem dX6_read_15 : decode cX6_read 15 = .ok (.iconst 1, 1) := by decide +kernel
theorem dX6_read_16 : decode cX6_read 16 = .ok (.invokevirtual 109, 3) := by decide +kernel
theorem dX6_read_19 : decode cX6_read 19 = .ok (.ifCond .ne 5, 3) := by decide +kernel
theorem dX6_read_22 : decode cX6_read 22 = .ok (.iconst 0, 1) := by decide +kernel
theorem dX6_read_23 : decode cX6_read 23 = .ok (.ireturn, 1) := by decide +kernel
theorem dX6_read_24 : decode cX6_read 24 = .ok (.iload_n 1, 1) := by decide +kernel
theorem dX6_read_25 : decode cX6_read 25 = .ok (.iload_n 2, 1) := by decide +kernel
theorem dX6_read_26 : decode cX6_read 26 = .ok (.iload_n 3, 1) := by decide +kernel
theorem dX6_read_27 : decode cX6_read 27 = .ok (.invokestatic 161, 3) := by decide +kernel
theorem dX6_read_30 : decode cX6_read 30 = .ok (.istore 4, 2) := by decide +kernel
theorem dX6_read_32 : decode cX6_read 32 = .ok (.aload_n 0, 1) := by decide +kernel
theorem dX6_read_33 : decode cX6_read 33 = .ok (.getfield 72, 3) := by decide +kernel
theorem dX6_read_36 : decode cX6_read 36 = .ok (.iload 4, 2) := by decide +kernel
theorem dX6_read_38 : decode cX6_read 38 = .ok (.iaload, 1) := by decide +kernel
theorem dX6_read_39 : decode cX6_read 39 = .ok (.ifCond .le 13, 3) := by decide +kernel
theorem dX6_read_42 : decode cX6_read 42 = .ok (.aload_n 0, 1) := by decide +kernel
theorem dX6_read_43 : decode cX6_read 43 = .ok (.getfield 72, 3) := by decide +kernel
theorem dX6_read_46 : decode cX6_read 46 = .ok (.iload 4, 2) := by decide +kernel
theorem dX6_read_48 : decode cX6_read 48 = .ok (.iaload, 1) := by decide +kernel
theorem dX6_read_49 : decode cX6_read 49 = .ok (.iconst 1, 1) := by decide +kernel
theorem dX6_read_50 : decode cX6_read 50 = .ok (.isub, 1) := by decide +kernel
theorem dX6_read_51 : decode cX6_read 51 = .ok (.ireturn, 1) := by decide +kernel
theorem dX6_read_52 : decode cX6_read 52 = .ok (.aload_n 0, 1) := by decide +kernel
theorem dX6_read_53 : decode cX6_read 53 = .ok (.invokevirtual 168, 3) := by decide +kernel
theorem dX6_read_56 : decode cX6_read 56 = .ok (.iconst (-1), 1) := by decide +kernel
theorem dX6_read_57 : decode cX6_read 57 = .ok (.istore 5, 2) := by decide +kernel
theorem dX6_read_59 : decode cX6_read 59 = .ok (.iconst (-1), 1) := by decide +kernel
theorem dX6_read_60 : decode cX6_read 60 = .ok (.istore 6, 2) := by decide +kernel
theorem dX6_read_62 : decode cX6_read 62 = .ok (.iconst 1, 1) := by decide +kernel
theorem dX6_read_63 : decode cX6_read 63 = .ok (.istore 7, 2) := by decide +kernel
theorem dX6_read_65 : decode cX6_read 65 = .ok (.iload 7, 2) := by decide +kernel
theorem dX6_read_67 : decode cX6_read 67 = .ok (.bipush 26, 2) := by decide +kernel
theorem dX6_read_69 : decode cX6_read 69 = .ok (.if_icmp .gt 53, 3) := by decide +kernel
theorem dX6_read_72 : decode cX6_read 72 = .ok (.aload_n 0, 1) := by decide +kernel
theorem dX6_read_73 : decode cX6_read 73 = .ok (.iload 4, 2) := by decide +kernel
theorem dX6_read_75 : decode cX6_read 75 = .ok (.iload 7, 2) := by decide +kernel
theorem dX6_read_77 : decode cX6_read 77 = .ok (.invokevirtual 171, 3) := by decide +kernel
theorem dX6_read_80 : decode cX6_read 80 = .ok (.istore 8, 2) := by decide +kernel
theorem dX6_read_82 : decode cX6_read 82 = .ok (.iload 8, 2) := by decide +kernel
theorem dX6_read_84 : decode cX6_read 84 = .ok (.iload 6, 2) := by decide +kernel
theorem dX6_read_86 : decode cX6_read 86 = .ok (.if_icmp .le 10, 3) := by decide +kernel
theorem dX6_read_89 : decode cX6_read 89 = .ok (.iload 7, 2) := by decide +kernel
theorem dX6_read_91 : decode cX6_read 91 = .ok (.iconst 1, 1) := by decide +kernel
theorem dX6_read_92 : decode cX6_read 92 = .ok (.isub, 1) := by decide +kernel
theorem dX6_read_93 : decode cX6_read 93 = .ok (.goto 5, 3) := by decide +kernel
theorem dX6_read_96 : decode cX6_read 96 = .ok (.iload 5, 2) := by decide +kernel
theorem dX6_read_98 : decode cX6_read 98 = .ok (.istore 5, 2) := by decide +kernel
theorem dX6_read_100 : decode cX6_read 100 = .ok (.iload 8, 2) := by decide +kernel
theorem dX6_read_102 : decode cX6_read 102 = .ok (.iload 6, 2) := by decide +kernel
theorem dX6_read_104 : decode cX6_read 104 = .ok (.if_icmp .le 8, 3) := by decide +kernel
theorem dX6_read_107 : decode cX6_read 107 = .ok (.iload 8, 2) := by decide +kernel
theorem dX6_read_109 : decode cX6_read 109 = .ok (.goto 5, 3) := by decide +kernel
theorem dX6_read_112 : decode cX6_read 112 = .ok (.iload 6, 2) := by decide +kernel
theorem dX6_read_114 : decode cX6_read 114 = .ok (.istore 6, 2) := by decide +kernel
theorem dX6_read_116 : decode cX6_read 116 = .ok (.iinc 7 1, 3) := by decide +kernel
theorem dX6_read_119 : decode cX6_read 119 = .ok (.goto (-54), 3) := by decide +kernel
theorem dX6_read_122 : decode cX6_read 122 = .ok (.iload 5, 2) := by decide +kernel
theorem dX6_read_124 : decode cX6_read 124 = .ok (.ireturn, 1) := by decide +kernel
theorem dX6_doubt_0 : decode cX6_doubt 0 = .ok (.aload_n 0, 1) := by decide +kernel
theorem dX6_doubt_1 : decode cX6_doubt 1 = .ok (.aload_n 0, 1) := by decide +kernel
theorem dX6_doubt_2 : decode cX6_doubt 2 = .ok (.iload_n 1, 1) := by decide +kernel
theorem dX6_doubt_3 : decode cX6_doubt 3 = .ok (.iload_n 2, 1) := by decide +kernel
theorem dX6_doubt_4 : decode cX6_doubt 4 = .ok (.iload_n 3, 1) := by decide +kernel
theorem dX6_doubt_5 : decode cX6_doubt 5 = .ok (.invokevirtual 158, 3) := by decide +kernel
theorem dX6_doubt_8 : decode cX6_doubt 8 = .ok (.ifCond .eq 7, 3) := by decide +kernel
theorem dX6_doubt_11 : decode cX6_doubt 11 = .ok (.iconst 0, 1) := by decide +kernel
theorem dX6_doubt_12 : decode cX6_doubt 12 = .ok (.goto 4, 3) := by decide +kernel
theorem dX6_doubt_15 : decode cX6_doubt 15 = .ok (.iconst 1, 1) := by decide +kernel
theorem dX6_doubt_16 : decode cX6_doubt 16 = .ok (.invokevirtual 109, 3) := by decide +kernel
theorem dX6_doubt_19 : decode cX6_doubt 19 = .ok (.ifCond .ne 5, 3) := by decide +kernel
theorem dX6_doubt_22 : decode cX6_doubt 22 = .ok (.iconst 0, 1) := by decide +kernel
theorem dX6_doubt_23 : decode cX6_doubt 23 = .ok (.ireturn, 1) := by decide +kernel
theorem dX6_doubt_24 : decode cX6_doubt 24 = .ok (.iload_n 1, 1) := by decide +kernel
theorem dX6_doubt_25 : decode cX6_doubt 25 = .ok (.iload_n 2, 1) := by decide +kernel
theorem dX6_doubt_26 : decode cX6_doubt 26 = .ok (.iload_n 3, 1) := by decide +kernel
theorem dX6_doubt_27 : decode cX6_doubt 27 = .ok (.invokestatic 161, 3) := by decide +kernel
theorem dX6_doubt_30 : decode cX6_doubt 30 = .ok (.istore 4, 2) := by decide +kernel
theorem dX6_doubt_32 : decode cX6_doubt 32 = .ok (.aload_n 0, 1) := by decide +kernel
theorem dX6_doubt_33 : decode cX6_doubt 33 = .ok (.getfield 72, 3) := by decide +kernel
theorem dX6_doubt_36 : decode cX6_doubt 36 = .ok (.iload 4, 2) := by decide +kernel
theorem dX6_doubt_38 : decode cX6_doubt 38 = .ok (.iaload, 1) := by decide +kernel
theorem dX6_doubt_39 : decode cX6_doubt 39 = .ok (.ifCond .le 5, 3) := by decide +kernel
theorem dX6_doubt_42 : decode cX6_doubt 42 = .ok (.iconst 0, 1) := by decide +kernel
theorem dX6_doubt_43 : decode cX6_doubt 43 = .ok (.ireturn, 1) := by decide +kernel
theorem dX6_doubt_44 : decode cX6_doubt 44 = .ok (.aload_n 0, 1) := by decide +kernel
theorem dX6_doubt_45 : decode cX6_doubt 45 = .ok (.invokevirtual 168, 3) := by decide +kernel
theorem dX6_doubt_48 : decode cX6_doubt 48 = .ok (.iconst 0, 1) := by decide +kernel
theorem dX6_doubt_49 : decode cX6_doubt 49 = .ok (.istore 5, 2) := by decide +kernel
theorem dX6_doubt_51 : decode cX6_doubt 51 = .ok (.iconst 0, 1) := by decide +kernel
theorem dX6_doubt_52 : decode cX6_doubt 52 = .ok (.istore 6, 2) := by decide +kernel
theorem dX6_doubt_54 : decode cX6_doubt 54 = .ok (.iconst 1, 1) := by decide +kernel
theorem dX6_doubt_55 : decode cX6_doubt 55 = .ok (.istore 7, 2) := by decide +kernel
theorem dX6_doubt_57 : decode cX6_doubt 57 = .ok (.iload 7, 2) := by decide +kernel
theorem dX6_doubt_59 : decode cX6_doubt 59 = .ok (.bipush 26, 2) := by decide +kernel
theorem dX6_doubt_61 : decode cX6_doubt 61 = .ok (.if_icmp .gt 51, 3) := by decide +kernel
theorem dX6_doubt_64 : decode cX6_doubt 64 = .ok (.aload_n 0, 1) := by decide +kernel
theorem dX6_doubt_65 : decode cX6_doubt 65 = .ok (.iload 4, 2) := by decide +kernel
theorem dX6_doubt_67 : decode cX6_doubt 67 = .ok (.iload 7, 2) := by decide +kernel
theorem dX6_doubt_69 : decode cX6_doubt 69 = .ok (.invokevirtual 171, 3) := by decide +kernel
theorem dX6_doubt_72 : decode cX6_doubt 72 = .ok (.istore 8, 2) := by decide +kernel
theorem dX6_doubt_74 : decode cX6_doubt 74 = .ok (.iload 5, 2) := by decide +kernel
theorem dX6_doubt_76 : decode cX6_doubt 76 = .ok (.iload 8, 2) := by decide +kernel
theorem dX6_doubt_78 : decode cX6_doubt 78 = .ok (.ifCond .le 8, 3) := by decide +kernel
theorem dX6_doubt_81 : decode cX6_doubt 81 = .ok (.iload 8, 2) := by decide +kernel
theorem dX6_doubt_83 : decode cX6_doubt 83 = .ok (.goto 4, 3) := by decide +kernel
theorem dX6_doubt_86 : decode cX6_doubt 86 = .ok (.iconst 0, 1) := by decide +kernel
theorem dX6_doubt_87 : decode cX6_doubt 87 = .ok (.iadd, 1) := by decide +kernel
theorem dX6_doubt_88 : decode cX6_doubt 88 = .ok (.istore 5, 2) := by decide +kernel
theorem dX6_doubt_90 : decode cX6_doubt 90 = .ok (.iload 8, 2) := by decide +kernel
theorem dX6_doubt_92 : decode cX6_doubt 92 = .ok (.iload 6, 2) := by decide +kernel
theorem dX6_doubt_94 : decode cX6_doubt 94 = .ok (.if_icmp .le 8, 3) := by decide +kernel
theorem dX6_doubt_97 : decode cX6_doubt 97 = .ok (.iload 8, 2) := by decide +kernel
theorem dX6_doubt_99 : decode cX6_doubt 99 = .ok (.goto 5, 3) := by decide +kernel
theorem dX6_doubt_102 : decode cX6_doubt 102 = .ok (.iload 6, 2) := by decide +kernel
theorem dX6_doubt_104 : decode cX6_doubt 104 = .ok (.istore 6, 2) := by decide +kernel
theorem dX6_doubt_106 : decode cX6_doubt 106 = .ok (.iinc 7 1, 3) := by decide +kernel
theorem dX6_doubt_109 : decode cX6_doubt 109 = .ok (.goto (-52), 3) := by decide +kernel
theorem dX6_doubt_112 : decode cX6_doubt 112 = .ok (.iload 5, 2) := by decide +kernel
theorem dX6_doubt_114 : decode cX6_doubt 114 = .ok (.ifCond .ne 8, 3) := by decide +kernel
theorem dX6_doubt_117 : decode cX6_doubt 117 = .ok (.bipush 100, 2) := by decide +kernel
theorem dX6_doubt_119 : decode cX6_doubt 119 = .ok (.goto 14, 3) := by decide +kernel
theorem dX6_doubt_122 : decode cX6_doubt 122 = .ok (.bipush 100, 2) := by decide +kernel
theorem dX6_doubt_124 : decode cX6_doubt 124 = .ok (.bipush 100, 2) := by decide +kernel
theorem dX6_doubt_126 : decode cX6_doubt 126 = .ok (.iload 6, 2) := by decide +kernel
theorem dX6_doubt_128 : decode cX6_doubt 128 = .ok (.imul, 1) := by decide +kernel
theorem dX6_doubt_129 : decode cX6_doubt 129 = .ok (.iload 5, 2) := by decide +kernel
theorem dX6_doubt_131 : decode cX6_doubt 131 = .ok (.idiv, 1) := by decide +kernel
theorem dX6_doubt_132 : decode cX6_doubt 132 = .ok (.isub, 1) := by decide +kernel
theorem dX6_doubt_133 : decode cX6_doubt 133 = .ok (.ireturn, 1) := by decide +kernel
theorem dX6_pass_0 : decode cX6_pass 0 = .ok (.iload_n 1, 1) := by decide +kernel
theorem dX6_pass_1 : decode cX6_pass 1 = .ok (.iconst 1, 1) := by decide +kernel
theorem dX6_pass_2 : decode cX6_pass 2 = .ok (.bipush 100, 2) := by decide +kernel
theorem dX6_pass_4 : decode cX6_pass 4 = .ok (.invokestatic 97, 3) := by decide +kernel
theorem dX6_pass_7 : decode cX6_pass 7 = .ok (.istore_n 2, 1) := by decide +kernel
theorem dX6_pass_8 : decode cX6_pass 8 = .ok (.aload_n 0, 1) := by decide +kernel
theorem dX6_pass_9 : decode cX6_pass 9 = .ok (.iload_n 2, 1) := by decide +kernel
theorem dX6_pass_10 : decode cX6_pass 10 = .ok (.ifCond .ne 7, 3) := by decide +kernel
theorem dX6_pass_13 : decode cX6_pass 13 = .ok (.iconst 1, 1) := by decide +kernel
theorem dX6_pass_14 : decode cX6_pass 14 = .ok (.goto 20, 3) := by decide +kernel
theorem dX6_pass_17 : decode cX6_pass 17 = .ok (.aload_n 0, 1) := by decide +kernel
theorem dX6_pass_18 : decode cX6_pass 18 = .ok (.getfield 81, 3) := by decide +kernel
theorem dX6_pass_21 : decode cX6_pass 21 = .ok (.iload_n 1, 1) := by decide +kernel
theorem dX6_pass_22 : decode cX6_pass 22 = .ok (.iadd, 1) := by decide +kernel
theorem dX6_pass_23 : decode cX6_pass 23 = .ok (.sipush 4000, 3) := by decide +kernel
theorem dX6_pass_26 : decode cX6_pass 26 = .ok (.if_icmp .le 7, 3) := by decide +kernel
theorem dX6_pass_29 : decode cX6_pass 29 = .ok (.iconst 2, 1) := by decide +kernel
theorem dX6_pass_30 : decode cX6_pass 30 = .ok (.goto 4, 3) := by decide +kernel
theorem dX6_pass_33 : decode cX6_pass 33 = .ok (.iconst 0, 1) := by decide +kernel
theorem dX6_pass_34 : decode cX6_pass 34 = .ok (.invokevirtual 109, 3) := by decide +kernel
theorem dX6_pass_37 : decode cX6_pass 37 = .ok (.ifCond .ne 5, 3) := by decide +kernel
theorem dX6_pass_40 : decode cX6_pass 40 = .ok (.iconst 0, 1) := by decide +kernel
theorem dX6_pass_41 : decode cX6_pass 41 = .ok (.ireturn, 1) := by decide +kernel
theorem dX6_pass_42 : decode cX6_pass 42 = .ok (.aload_n 0, 1) := by decide +kernel
theorem dX6_pass_43 : decode cX6_pass 43 = .ok (.dup, 1) := by decide +kernel
theorem dX6_pass_44 : decode cX6_pass 44 = .ok (.getfield 81, 3) := by decide +kernel
theorem dX6_pass_47 : decode cX6_pass 47 = .ok (.iload_n 1, 1) := by decide +kernel
theorem dX6_pass_48 : decode cX6_pass 48 = .ok (.iadd, 1) := by decide +kernel
theorem dX6_pass_49 : decode cX6_pass 49 = .ok (.putfield 81, 3) := by decide +kernel
theorem dX6_pass_52 : decode cX6_pass 52 = .ok (.aload_n 0, 1) := by decide +kernel
theorem dX6_pass_53 : decode cX6_pass 53 = .ok (.getfield 81, 3) := by decide +kernel
theorem dX6_pass_56 : decode cX6_pass 56 = .ok (.ireturn, 1) := by decide +kernel
theorem dX6_term_0 : decode cX6_term 0 = .ok (.iload_n 1, 1) := by decide +kernel
theorem dX6_term_1 : decode cX6_term 1 = .ok (.iconst 0, 1) := by decide +kernel
theorem dX6_term_2 : decode cX6_term 2 = .ok (.iconst 3, 1) := by decide +kernel
theorem dX6_term_3 : decode cX6_term 3 = .ok (.invokestatic 97, 3) := by decide +kernel
theorem dX6_term_6 : decode cX6_term 6 = .ok (.istore_n 3, 1) := by decide +kernel
theorem dX6_term_7 : decode cX6_term 7 = .ok (.aload_n 0, 1) := by decide +kernel
theorem dX6_term_8 : decode cX6_term 8 = .ok (.iload_n 3, 1) := by decide +kernel
theorem dX6_term_9 : decode cX6_term 9 = .ok (.ifCond .ne 7, 3) := by decide +kernel
theorem dX6_term_12 : decode cX6_term 12 = .ok (.iconst 1, 1) := by decide +kernel
theorem dX6_term_13 : decode cX6_term 13 = .ok (.goto 18, 3) := by decide +kernel
theorem dX6_term_16 : decode cX6_term 16 = .ok (.iload_n 2, 1) := by decide +kernel
theorem dX6_term_17 : decode cX6_term 17 = .ok (.iconst 0, 1) := by decide +kernel
theorem dX6_term_18 : decode cX6_term 18 = .ok (.bipush 120, 2) := by decide +kernel
theorem dX6_term_20 : decode cX6_term 20 = .ok (.invokestatic 97, 3) := by decide +kernel
theorem dX6_term_23 : decode cX6_term 23 = .ok (.ifCond .eq 7, 3) := by decide +kernel
theorem dX6_term_26 : decode cX6_term 26 = .ok (.iconst 0, 1) := by decide +kernel
theorem dX6_term_27 : decode cX6_term 27 = .ok (.goto 4, 3) := by decide +kernel
theorem dX6_term_30 : decode cX6_term 30 = .ok (.iconst 2, 1) := by decide +kernel
theorem dX6_term_31 : decode cX6_term 31 = .ok (.invokevirtual 109, 3) := by decide +kernel
theorem dX6_term_34 : decode cX6_term 34 = .ok (.ifCond .ne 5, 3) := by decide +kernel
theorem dX6_term_37 : decode cX6_term 37 = .ok (.iconst 0, 1) := by decide +kernel
theorem dX6_term_38 : decode cX6_term 38 = .ok (.ireturn, 1) := by decide +kernel
theorem dX6_term_39 : decode cX6_term 39 = .ok (.aload_n 0, 1) := by decide +kernel
theorem dX6_term_40 : decode cX6_term 40 = .ok (.getfield 85, 3) := by decide +kernel
theorem dX6_term_43 : decode cX6_term 43 = .ok (.iload_n 1, 1) := by decide +kernel
theorem dX6_term_44 : decode cX6_term 44 = .ok (.iaload, 1) := by decide +kernel
theorem dX6_term_45 : decode cX6_term 45 = .ok (.istore 4, 2) := by decide +kernel
theorem dX6_term_47 : decode cX6_term 47 = .ok (.aload_n 0, 1) := by decide +kernel
theorem dX6_term_48 : decode cX6_term 48 = .ok (.getfield 85, 3) := by decide +kernel
theorem dX6_term_51 : decode cX6_term 51 = .ok (.iload_n 1, 1) := by decide +kernel
theorem dX6_term_52 : decode cX6_term 52 = .ok (.iload_n 2, 1) := by decide +kernel
theorem dX6_term_53 : decode cX6_term 53 = .ok (.iastore, 1) := by decide +kernel
theorem dX6_term_54 : decode cX6_term 54 = .ok (.iload 4, 2) := by decide +kernel
theorem dX6_term_56 : decode cX6_term 56 = .ok (.ireturn, 1) := by decide +kernel
theorem dX6_died_0 : decode cX6_died 0 = .ok (.aload_n 0, 1) := by decide +kernel
theorem dX6_died_1 : decode cX6_died 1 = .ok (.iload_n 1, 1) := by decide +kernel
theorem dX6_died_2 : decode cX6_died 2 = .ok (.invokevirtual 101, 3) := by decide +kernel
theorem dX6_died_5 : decode cX6_died 5 = .ok (.istore_n 3, 1) := by decide +kernel
theorem dX6_died_6 : decode cX6_died 6 = .ok (.aload_n 0, 1) := by decide +kernel
theorem dX6_died_7 : decode cX6_died 7 = .ok (.iload_n 3, 1) := by decide +kernel
theorem dX6_died_8 : decode cX6_died 8 = .ok (.ifCond .ne 7, 3) := by decide +kernel
theorem dX6_died_11 : decode cX6_died 11 = .ok (.iconst 1, 1) := by decide +kernel
theorem dX6_died_12 : decode cX6_died 12 = .ok (.goto 35, 3) := by decide +kernel
theorem dX6_died_15 : decode cX6_died 15 = .ok (.iload_n 2, 1) := by decide +kernel
theorem dX6_died_16 : decode cX6_died 16 = .ok (.sipush 1500, 3) := by decide +kernel
theorem dX6_died_19 : decode cX6_died 19 = .ok (.sipush 3000, 3) := by decide +kernel
theorem dX6_died_22 : decode cX6_died 22 = .ok (.invokestatic 97, 3) := by decide +kernel
theorem dX6_died_25 : decode cX6_died 25 = .ok (.ifCond .ne 7, 3) := by decide +kernel
theorem dX6_died_28 : decode cX6_died 28 = .ok (.iconst 2, 1) := by decide +kernel
theorem dX6_died_29 : decode cX6_died 29 = .ok (.goto 18, 3) := by decide +kernel
theorem dX6_died_32 : decode cX6_died 32 = .ok (.aload_n 0, 1) := by decide +kernel
theorem dX6_died_33 : decode cX6_died 33 = .ok (.getfield 22, 3) := by decide +kernel
theorem dX6_died_36 : decode cX6_died 36 = .ok (.iload_n 1, 1) := by decide +kernel
theorem dX6_died_37 : decode cX6_died 37 = .ok (.iaload, 1) := by decide +kernel
theorem dX6_died_38 : decode cX6_died 38 = .ok (.iconst (-1), 1) := by decide +kernel
theorem dX6_died_39 : decode cX6_died 39 = .ok (.if_icmp .eq 7, 3) := by decide +kernel
theorem dX6_died_42 : decode cX6_died 42 = .ok (.iconst 3, 1) := by decide +kernel
theorem dX6_died_43 : decode cX6_died 43 = .ok (.goto 4, 3) := by decide +kernel
theorem dX6_died_46 : decode cX6_died 46 = .ok (.iconst 0, 1) := by decide +kernel
theorem dX6_died_47 : decode cX6_died 47 = .ok (.invokevirtual 109, 3) := by decide +kernel
theorem dX6_died_50 : decode cX6_died 50 = .ok (.ifCond .eq 10, 3) := by decide +kernel
theorem dX6_died_53 : decode cX6_died 53 = .ok (.aload_n 0, 1) := by decide +kernel
theorem dX6_died_54 : decode cX6_died 54 = .ok (.getfield 22, 3) := by decide +kernel
theorem dX6_died_57 : decode cX6_died 57 = .ok (.iload_n 1, 1) := by decide +kernel
theorem dX6_died_58 : decode cX6_died 58 = .ok (.iload_n 2, 1) := by decide +kernel
theorem dX6_died_59 : decode cX6_died 59 = .ok (.iastore, 1) := by decide +kernel
theorem dX6_died_60 : decode cX6_died 60 = .ok (.return_, 1) := by decide +kernel
theorem dX6_search_0 : decode cX6_search 0 = .ok (.aload_n 0, 1) := by decide +kernel
theorem dX6_search_1 : decode cX6_search 1 = .ok (.aload_n 0, 1) := by decide +kernel
theorem dX6_search_2 : decode cX6_search 2 = .ok (.iload_n 1, 1) := by decide +kernel
theorem dX6_search_3 : decode cX6_search 3 = .ok (.invokevirtual 101, 3) := by decide +kernel
theorem dX6_search_6 : decode cX6_search 6 = .ok (.ifCond .eq 7, 3) := by decide +kernel
theorem dX6_search_9 : decode cX6_search 9 = .ok (.iconst 0, 1) := by decide +kernel
theorem dX6_search_10 : decode cX6_search 10 = .ok (.goto 4, 3) := by decide +kernel
theorem dX6_search_13 : decode cX6_search 13 = .ok (.iconst 1, 1) := by decide +kernel
theorem dX6_search_14 : decode cX6_search 14 = .ok (.invokevirtual 109, 3) := by decide +kernel
theorem dX6_search_17 : decode cX6_search 17 = .ok (.ifCond .ne 5, 3) := by decide +kernel
theorem dX6_search_20 : decode cX6_search 20 = .ok (.iconst 0, 1) := by decide +kernel
theorem dX6_search_21 : decode cX6_search 21 = .ok (.ireturn, 1) := by decide +kernel
theorem dX6_search_22 : decode cX6_search 22 = .ok (.aload_n 0, 1) := by decide +kernel
theorem dX6_search_23 : decode cX6_search 23 = .ok (.getfield 28, 3) := by decide +kernel
theorem dX6_search_26 : decode cX6_search 26 = .ok (.iload_n 1, 1) := by decide +kernel
theorem dX6_search_27 : decode cX6_search 27 = .ok (.baload, 1) := by decide +kernel
theorem dX6_search_28 : decode cX6_search 28 = .ok (.istore_n 2, 1) := by decide +kernel
theorem dX6_search_29 : decode cX6_search 29 = .ok (.aload_n 0, 1) := by decide +kernel
theorem dX6_search_30 : decode cX6_search 30 = .ok (.getfield 28, 3) := by decide +kernel
theorem dX6_search_33 : decode cX6_search 33 = .ok (.iload_n 1, 1) := by decide +kernel
theorem dX6_search_34 : decode cX6_search 34 = .ok (.iconst 1, 1) := by decide +kernel
theorem dX6_search_35 : decode cX6_search 35 = .ok (.bastore, 1) := by decide +kernel
theorem dX6_search_36 : decode cX6_search 36 = .ok (.iload_n 2, 1) := by decide +kernel
theorem dX6_search_37 : decode cX6_search 37 = .ok (.ireturn, 1) := by decide +kernel
theorem dX6_takeDown_0 : decode cX6_takeDown 0 = .ok (.aload_n 0, 1) := by decide +kernel
theorem dX6_takeDown_1 : decode cX6_takeDown 1 = .ok (.aload_n 0, 1) := by decide +kernel
theorem dX6_takeDown_2 : decode cX6_takeDown 2 = .ok (.iload_n 1, 1) := by decide +kernel
theorem dX6_takeDown_3 : decode cX6_takeDown 3 = .ok (.invokevirtual 101, 3) := by decide +kernel
theorem dX6_takeDown_6 : decode cX6_takeDown 6 = .ok (.ifCond .eq 7, 3) := by decide +kernel
theorem dX6_takeDown_9 : decode cX6_takeDown 9 = .ok (.iconst 0, 1) := by decide +kernel
theorem dX6_takeDown_10 : decode cX6_takeDown 10 = .ok (.goto 4, 3) := by decide +kernel
theorem dX6_takeDown_13 : decode cX6_takeDown 13 = .ok (.iconst 1, 1) := by decide +kernel
theorem dX6_takeDown_14 : decode cX6_takeDown 14 = .ok (.invokevirtual 109, 3) := by decide +kernel
theorem dX6_takeDown_17 : decode cX6_takeDown 17 = .ok (.ifCond .ne 5, 3) := by decide +kernel
theorem dX6_takeDown_20 : decode cX6_takeDown 20 = .ok (.iconst 0, 1) := by decide +kernel
theorem dX6_takeDown_21 : decode cX6_takeDown 21 = .ok (.ireturn, 1) := by decide +kernel
theorem dX6_takeDown_22 : decode cX6_takeDown 22 = .ok (.aload_n 0, 1) := by decide +kernel
theorem dX6_takeDown_23 : decode cX6_takeDown 23 = .ok (.getfield 32, 3) := by decide +kernel
theorem dX6_takeDown_26 : decode cX6_takeDown 26 = .ok (.iload_n 1, 1) := by decide +kernel
theorem dX6_takeDown_27 : decode cX6_takeDown 27 = .ok (.baload, 1) := by decide +kernel
theorem dX6_takeDown_28 : decode cX6_takeDown 28 = .ok (.istore_n 3, 1) := by decide +kernel
theorem dX6_takeDown_29 : decode cX6_takeDown 29 = .ok (.aload_n 0, 1) := by decide +kernel
theorem dX6_takeDown_30 : decode cX6_takeDown 30 = .ok (.getfield 32, 3) := by decide +kernel
theorem dX6_takeDown_33 : decode cX6_takeDown 33 = .ok (.iload_n 1, 1) := by decide +kernel
theorem dX6_takeDown_34 : decode cX6_takeDown 34 = .ok (.iload_n 2, 1) := by decide +kernel
theorem dX6_takeDown_35 : decode cX6_takeDown 35 = .ok (.bastore, 1) := by decide +kernel
theorem dX6_takeDown_36 : decode cX6_takeDown 36 = .ok (.iload_n 3, 1) := by decide +kernel
theorem dX6_takeDown_37 : decode cX6_takeDown 37 = .ok (.ireturn, 1) := by decide +kernel
theorem dX6_whyNot_0 : decode cX6_whyNot 0 = .ok (.aload_n 0, 1) := by decide +kernel
theorem dX6_whyNot_1 : decode cX6_whyNot 1 = .ok (.aload_n 0, 1) := by decide +kernel
theorem dX6_whyNot_2 : decode cX6_whyNot 2 = .ok (.iload_n 1, 1) := by decide +kernel
theorem dX6_whyNot_3 : decode cX6_whyNot 3 = .ok (.iload_n 2, 1) := by decide +kernel
theorem dX6_whyNot_4 : decode cX6_whyNot 4 = .ok (.invokevirtual 105, 3) := by decide +kernel
theorem dX6_whyNot_7 : decode cX6_whyNot 7 = .ok (.ifCond .eq 16, 3) := by decide +kernel
theorem dX6_whyNot_10 : decode cX6_whyNot 10 = .ok (.iload_n 3, 1) := by decide +kernel
theorem dX6_whyNot_11 : decode cX6_whyNot 11 = .ok (.iconst 0, 1) := by decide +kernel
theorem dX6_whyNot_12 : decode cX6_whyNot 12 = .ok (.iconst 3, 1) := by decide +kernel
theorem dX6_whyNot_13 : decode cX6_whyNot 13 = .ok (.invokestatic 97, 3) := by decide +kernel
theorem dX6_whyNot_16 : decode cX6_whyNot 16 = .ok (.ifCond .eq 7, 3) := by decide +kernel
theorem dX6_whyNot_19 : decode cX6_whyNot 19 = .ok (.iconst 0, 1) := by decide +kernel
theorem dX6_whyNot_20 : decode cX6_whyNot 20 = .ok (.goto 4, 3) := by decide +kernel
theorem dX6_whyNot_23 : decode cX6_whyNot 23 = .ok (.iconst 1, 1) := by decide +kernel
theorem dX6_whyNot_24 : decode cX6_whyNot 24 = .ok (.invokevirtual 109, 3) := by decide +kernel
theorem dX6_whyNot_27 : decode cX6_whyNot 27 = .ok (.ifCond .ne 5, 3) := by decide +kernel
theorem dX6_whyNot_30 : decode cX6_whyNot 30 = .ok (.iconst 0, 1) := by decide +kernel
theorem dX6_whyNot_31 : decode cX6_whyNot 31 = .ok (.ireturn, 1) := by decide +kernel
theorem dX6_whyNot_32 : decode cX6_whyNot 32 = .ok (.bipush 12, 2) := by decide +kernel
theorem dX6_whyNot_34 : decode cX6_whyNot 34 = .ok (.iload_n 1, 1) := by decide +kernel
theorem dX6_whyNot_35 : decode cX6_whyNot 35 = .ok (.imul, 1) := by decide +kernel
theorem dX6_whyNot_36 : decode cX6_whyNot 36 = .ok (.iload_n 2, 1) := by decide +kernel
theorem dX6_whyNot_37 : decode cX6_whyNot 37 = .ok (.iadd, 1) := by decide +kernel
theorem dX6_whyNot_38 : decode cX6_whyNot 38 = .ok (.istore 4, 2) := by decide +kernel
theorem dX6_whyNot_40 : decode cX6_whyNot 40 = .ok (.aload_n 0, 1) := by decide +kernel
theorem dX6_whyNot_41 : decode cX6_whyNot 41 = .ok (.getfield 22, 3) := by decide +kernel
theorem dX6_whyNot_44 : decode cX6_whyNot 44 = .ok (.iload_n 1, 1) := by decide +kernel
theorem dX6_whyNot_45 : decode cX6_whyNot 45 = .ok (.iaload, 1) := by decide +kernel
theorem dX6_whyNot_46 : decode cX6_whyNot 46 = .ok (.iconst (-1), 1) := by decide +kernel
theorem dX6_whyNot_47 : decode cX6_whyNot 47 = .ok (.if_icmp .eq 7, 3) := by decide +kernel
theorem dX6_whyNot_50 : decode cX6_whyNot 50 = .ok (.iconst 1, 1) := by decide +kernel
theorem dX6_whyNot_51 : decode cX6_whyNot 51 = .ok (.goto 4, 3) := by decide +kernel
theorem dX6_whyNot_54 : decode cX6_whyNot 54 = .ok (.iconst 0, 1) := by decide +kernel
theorem dX6_whyNot_55 : decode cX6_whyNot 55 = .ok (.istore 5, 2) := by decide +kernel
theorem dX6_whyNot_57 : decode cX6_whyNot 57 = .ok (.aload_n 0, 1) := by decide +kernel
theorem dX6_whyNot_58 : decode cX6_whyNot 58 = .ok (.getfield 35, 3) := by decide +kernel
theorem dX6_whyNot_61 : decode cX6_whyNot 61 = .ok (.iload 4, 2) := by decide +kernel
theorem dX6_whyNot_63 : decode cX6_whyNot 63 = .ok (.baload, 1) := by decide +kernel
theorem dX6_whyNot_64 : decode cX6_whyNot 64 = .ok (.ifCond .ne 7, 3) := by decide +kernel
theorem dX6_whyNot_67 : decode cX6_whyNot 67 = .ok (.iconst 1, 1) := by decide +kernel
theorem dX6_whyNot_68 : decode cX6_whyNot 68 = .ok (.goto 77, 3) := by decide +kernel
theorem dX6_whyNot_71 : decode cX6_whyNot 71 = .ok (.aload_n 0, 1) := by decide +kernel
theorem dX6_whyNot_72 : decode cX6_whyNot 72 = .ok (.getfield 32, 3) := by decide +kernel
theorem dX6_whyNot_75 : decode cX6_whyNot 75 = .ok (.iload_n 1, 1) := by decide +kernel
theorem dX6_whyNot_76 : decode cX6_whyNot 76 = .ok (.baload, 1) := by decide +kernel
theorem dX6_whyNot_77 : decode cX6_whyNot 77 = .ok (.ifCond .eq 7, 3) := by decide +kernel
theorem dX6_whyNot_80 : decode cX6_whyNot 80 = .ok (.iconst 2, 1) := by decide +kernel
theorem dX6_whyNot_81 : decode cX6_whyNot 81 = .ok (.goto 64, 3) := by decide +kernel
theorem dX6_whyNot_84 : decode cX6_whyNot 84 = .ok (.iload 5, 2) := by decide +kernel
theorem dX6_whyNot_86 : decode cX6_whyNot 86 = .ok (.ifCond .ne 16, 3) := by decide +kernel
theorem dX6_whyNot_89 : decode cX6_whyNot 89 = .ok (.aload_n 0, 1) := by decide +kernel
theorem dX6_whyNot_90 : decode cX6_whyNot 90 = .ok (.getfield 28, 3) := by decide +kernel
theorem dX6_whyNot_93 : decode cX6_whyNot 93 = .ok (.iload_n 1, 1) := by decide +kernel
theorem dX6_whyNot_94 : decode cX6_whyNot 94 = .ok (.baload, 1) := by decide +kernel
theorem dX6_whyNot_95 : decode cX6_whyNot 95 = .ok (.ifCond .ne 7, 3) := by decide +kernel
theorem dX6_whyNot_98 : decode cX6_whyNot 98 = .ok (.iconst 3, 1) := by decide +kernel
theorem dX6_whyNot_99 : decode cX6_whyNot 99 = .ok (.goto 46, 3) := by decide +kernel
theorem dX6_whyNot_102 : decode cX6_whyNot 102 = .ok (.iload 5, 2) := by decide +kernel
theorem dX6_whyNot_104 : decode cX6_whyNot 104 = .ok (.ifCond .eq 27, 3) := by decide +kernel
theorem dX6_whyNot_107 : decode cX6_whyNot 107 = .ok (.aload_n 0, 1) := by decide +kernel
theorem dX6_whyNot_108 : decode cX6_whyNot 108 = .ok (.getfield 81, 3) := by decide +kernel
theorem dX6_whyNot_111 : decode cX6_whyNot 111 = .ok (.aload_n 0, 1) := by decide +kernel
theorem dX6_whyNot_112 : decode cX6_whyNot 112 = .ok (.getfield 22, 3) := by decide +kernel
theorem dX6_whyNot_115 : decode cX6_whyNot 115 = .ok (.iload_n 1, 1) := by decide +kernel
theorem dX6_whyNot_116 : decode cX6_whyNot 116 = .ok (.iaload, 1) := by decide +kernel
theorem dX6_whyNot_117 : decode cX6_whyNot 117 = .ok (.aload_n 0, 1) := by decide +kernel
theorem dX6_whyNot_118 : decode cX6_whyNot 118 = .ok (.getfield 85, 3) := by decide +kernel
theorem dX6_whyNot_121 : decode cX6_whyNot 121 = .ok (.iload_n 3, 1) := by decide +kernel
theorem dX6_whyNot_122 : decode cX6_whyNot 122 = .ok (.iaload, 1) := by decide +kernel
theorem dX6_whyNot_123 : decode cX6_whyNot 123 = .ok (.iadd, 1) := by decide +kernel
theorem dX6_whyNot_124 : decode cX6_whyNot 124 = .ok (.if_icmp .gt 7, 3) := by decide +kernel
theorem dX6_whyNot_127 : decode cX6_whyNot 127 = .ok (.iconst 4, 1) := by decide +kernel
theorem dX6_whyNot_128 : decode cX6_whyNot 128 = .ok (.goto 17, 3) := by decide +kernel
theorem dX6_whyNot_131 : decode cX6_whyNot 131 = .ok (.aload_n 0, 1) := by decide +kernel
theorem dX6_whyNot_132 : decode cX6_whyNot 132 = .ok (.iload 4, 2) := by decide +kernel
theorem dX6_whyNot_134 : decode cX6_whyNot 134 = .ok (.invokevirtual 145, 3) := by decide +kernel
theorem dX6_whyNot_137 : decode cX6_whyNot 137 = .ok (.ifCond .eq 7, 3) := by decide +kernel
theorem dX6_whyNot_140 : decode cX6_whyNot 140 = .ok (.iconst 5, 1) := by decide +kernel
theorem dX6_whyNot_141 : decode cX6_whyNot 141 = .ok (.goto 4, 3) := by decide +kernel
theorem dX6_whyNot_144 : decode cX6_whyNot 144 = .ok (.iconst 0, 1) := by decide +kernel
theorem dX6_whyNot_145 : decode cX6_whyNot 145 = .ok (.ireturn, 1) := by decide +kernel
theorem dX6_about_0 : decode cX6_about 0 = .ok (.aload_n 0, 1) := by decide +kernel
theorem dX6_about_1 : decode cX6_about 1 = .ok (.iload_n 1, 1) := by decide +kernel
theorem dX6_about_2 : decode cX6_about 2 = .ok (.invokevirtual 101, 3) := by decide +kernel
theorem dX6_about_5 : decode cX6_about 5 = .ok (.istore_n 3, 1) := by decide +kernel
theorem dX6_about_6 : decode cX6_about 6 = .ok (.aload_n 0, 1) := by decide +kernel
theorem dX6_about_7 : decode cX6_about 7 = .ok (.iload_n 3, 1) := by decide +kernel
theorem dX6_about_8 : decode cX6_about 8 = .ok (.ifCond .ne 7, 3) := by decide +kernel
theorem dX6_about_11 : decode cX6_about 11 = .ok (.iconst 1, 1) := by decide +kernel
theorem dX6_about_12 : decode cX6_about 12 = .ok (.goto 17, 3) := by decide +kernel
theorem dX6_about_15 : decode cX6_about 15 = .ok (.iload_n 2, 1) := by decide +kernel
theorem dX6_about_16 : decode cX6_about 16 = .ok (.iconst 0, 1) := by decide +kernel
theorem dX6_about_17 : decode cX6_about 17 = .ok (.iconst 5, 1) := by decide +kernel
theorem dX6_about_18 : decode cX6_about 18 = .ok (.invokestatic 97, 3) := by decide +kernel
theorem dX6_about_21 : decode cX6_about 21 = .ok (.ifCond .eq 7, 3) := by decide +kernel
theorem dX6_about_24 : decode cX6_about 24 = .ok (.iconst 0, 1) := by decide +kernel
theorem dX6_about_25 : decode cX6_about 25 = .ok (.goto 4, 3) := by decide +kernel
theorem dX6_about_28 : decode cX6_about 28 = .ok (.iconst 2, 1) := by decide +kernel
theorem dX6_about_29 : decode cX6_about 29 = .ok (.invokevirtual 109, 3) := by decide +kernel
theorem dX6_about_32 : decode cX6_about 32 = .ok (.ifCond .ne 5, 3) := by decide +kernel
theorem dX6_about_35 : decode cX6_about 35 = .ok (.iconst 0, 1) := by decide +kernel
theorem dX6_about_36 : decode cX6_about 36 = .ok (.ireturn, 1) := by decide +kernel
theorem dX6_about_37 : decode cX6_about 37 = .ok (.iconst 0, 1) := by decide +kernel
theorem dX6_about_38 : decode cX6_about 38 = .ok (.istore 4, 2) := by decide +kernel
theorem dX6_about_40 : decode cX6_about 40 = .ok (.iconst 0, 1) := by decide +kernel
theorem dX6_about_41 : decode cX6_about 41 = .ok (.istore 5, 2) := by decide +kernel
theorem dX6_about_43 : decode cX6_about 43 = .ok (.iconst 0, 1) := by decide +kernel
theorem dX6_about_44 : decode cX6_about 44 = .ok (.istore 6, 2) := by decide +kernel
theorem dX6_about_46 : decode cX6_about 46 = .ok (.iload 6, 2) := by decide +kernel
theorem dX6_about_48 : decode cX6_about 48 = .ok (.aload_n 0, 1) := by decide +kernel
theorem dX6_about_49 : decode cX6_about 49 = .ok (.getfield 7, 3) := by decide +kernel
theorem dX6_about_52 : decode cX6_about 52 = .ok (.iload_n 1, 1) := by decide +kernel
theorem dX6_about_53 : decode cX6_about 53 = .ok (.iaload, 1) := by decide +kernel
theorem dX6_about_54 : decode cX6_about 54 = .ok (.if_icmp .ge 58, 3) := by decide +kernel
theorem dX6_about_57 : decode cX6_about 57 = .ok (.iload 4, 2) := by decide +kernel
theorem dX6_about_59 : decode cX6_about 59 = .ok (.aload_n 0, 1) := by decide +kernel
theorem dX6_about_60 : decode cX6_about 60 = .ok (.getfield 41, 3) := by decide +kernel
theorem dX6_about_63 : decode cX6_about 63 = .ok (.bipush 12, 2) := by decide +kernel
theorem dX6_about_65 : decode cX6_about 65 = .ok (.iload_n 1, 1) := by decide +kernel
theorem dX6_about_66 : decode cX6_about 66 = .ok (.imul, 1) := by decide +kernel
theorem dX6_about_67 : decode cX6_about 67 = .ok (.iload 6, 2) := by decide +kernel
theorem dX6_about_69 : decode cX6_about 69 = .ok (.iadd, 1) := by decide +kernel
theorem dX6_about_70 : decode cX6_about 70 = .ok (.baload, 1) := by decide +kernel
theorem dX6_about_71 : decode cX6_about 71 = .ok (.ifCond .eq 7, 3) := by decide +kernel
theorem dX6_about_74 : decode cX6_about 74 = .ok (.iconst 1, 1) := by decide +kernel
theorem dX6_about_75 : decode cX6_about 75 = .ok (.goto 4, 3) := by decide +kernel
theorem dX6_about_78 : decode cX6_about 78 = .ok (.iconst 0, 1) := by decide +kernel
theorem dX6_about_79 : decode cX6_about 79 = .ok (.iadd, 1) := by decide +kernel
theorem dX6_about_80 : decode cX6_about 80 = .ok (.istore 4, 2) := by decide +kernel
theorem dX6_about_82 : decode cX6_about 82 = .ok (.iload 5, 2) := by decide +kernel
theorem dX6_about_84 : decode cX6_about 84 = .ok (.aload_n 0, 1) := by decide +kernel
theorem dX6_about_85 : decode cX6_about 85 = .ok (.bipush 12, 2) := by decide +kernel
theorem dX6_about_87 : decode cX6_about 87 = .ok (.iload_n 1, 1) := by decide +kernel
theorem dX6_about_88 : decode cX6_about 88 = .ok (.imul, 1) := by decide +kernel
theorem dX6_about_89 : decode cX6_about 89 = .ok (.iload 6, 2) := by decide +kernel
theorem dX6_about_91 : decode cX6_about 91 = .ok (.iadd, 1) := by decide +kernel
theorem dX6_about_92 : decode cX6_about 92 = .ok (.invokevirtual 145, 3) := by decide +kernel
theorem dX6_about_95 : decode cX6_about 95 = .ok (.ifCond .eq 7, 3) := by decide +kernel
theorem dX6_about_98 : decode cX6_about 98 = .ok (.iconst 1, 1) := by decide +kernel
theorem dX6_about_99 : decode cX6_about 99 = .ok (.goto 4, 3) := by decide +kernel
theorem dX6_about_102 : decode cX6_about 102 = .ok (.iconst 0, 1) := by decide +kernel
theorem dX6_about_103 : decode cX6_about 103 = .ok (.iadd, 1) := by decide +kernel
theorem dX6_about_104 : decode cX6_about 104 = .ok (.istore 5, 2) := by decide +kernel
theorem dX6_about_106 : decode cX6_about 106 = .ok (.iinc 6 1, 3) := by decide +kernel
theorem dX6_about_109 : decode cX6_about 109 = .ok (.goto (-63), 3) := by decide +kernel
theorem dX6_about_112 : decode cX6_about 112 = .ok (.iload_n 2, 1) := by decide +kernel
theorem dX6_about_113 : decode cX6_about 113 = .ok (.ifCond .ne 12, 3) := by decide +kernel
theorem dX6_about_116 : decode cX6_about 116 = .ok (.aload_n 0, 1) := by decide +kernel
theorem dX6_about_117 : decode cX6_about 117 = .ok (.getfield 16, 3) := by decide +kernel
theorem dX6_about_120 : decode cX6_about 120 = .ok (.iload_n 1, 1) := by decide +kernel
theorem dX6_about_121 : decode cX6_about 121 = .ok (.iaload, 1) := by decide +kernel
theorem dX6_about_122 : decode cX6_about 122 = .ok (.goto 56, 3) := by decide +kernel
theorem dX6_about_125 : decode cX6_about 125 = .ok (.iload_n 2, 1) := by decide +kernel
theorem dX6_about_126 : decode cX6_about 126 = .ok (.iconst 1, 1) := by decide +kernel
theorem dX6_about_127 : decode cX6_about 127 = .ok (.if_icmp .ne 11, 3) := by decide +kernel
theorem dX6_about_130 : decode cX6_about 130 = .ok (.aload_n 0, 1) := by decide +kernel
theorem dX6_about_131 : decode cX6_about 131 = .ok (.iload_n 1, 1) := by decide +kernel
theorem dX6_about_132 : decode cX6_about 132 = .ok (.invokevirtual 112, 3) := by decide +kernel
theorem dX6_about_135 : decode cX6_about 135 = .ok (.goto 43, 3) := by decide +kernel
theorem dX6_about_138 : decode cX6_about 138 = .ok (.iload_n 2, 1) := by decide +kernel
theorem dX6_about_139 : decode cX6_about 139 = .ok (.iconst 2, 1) := by decide +kernel
theorem dX6_about_140 : decode cX6_about 140 = .ok (.if_icmp .ne 8, 3) := by decide +kernel
theorem dX6_about_143 : decode cX6_about 143 = .ok (.iload 4, 2) := by decide +kernel
theorem dX6_about_145 : decode cX6_about 145 = .ok (.goto 33, 3) := by decide +kernel
theorem dX6_about_148 : decode cX6_about 148 = .ok (.iload_n 2, 1) := by decide +kernel
theorem dX6_about_149 : decode cX6_about 149 = .ok (.iconst 3, 1) := by decide +kernel
theorem dX6_about_150 : decode cX6_about 150 = .ok (.if_icmp .ne 8, 3) := by decide +kernel
theorem dX6_about_153 : decode cX6_about 153 = .ok (.iload 5, 2) := by decide +kernel
theorem dX6_about_155 : decode cX6_about 155 = .ok (.goto 23, 3) := by decide +kernel
theorem dX6_about_158 : decode cX6_about 158 = .ok (.iload_n 2, 1) := by decide +kernel
theorem dX6_about_159 : decode cX6_about 159 = .ok (.iconst 4, 1) := by decide +kernel
theorem dX6_about_160 : decode cX6_about 160 = .ok (.if_icmp .ne 12, 3) := by decide +kernel
theorem dX6_about_163 : decode cX6_about 163 = .ok (.aload_n 0, 1) := by decide +kernel
theorem dX6_about_164 : decode cX6_about 164 = .ok (.getfield 22, 3) := by decide +kernel
theorem dX6_about_167 : decode cX6_about 167 = .ok (.iload_n 1, 1) := by decide +kernel
theorem dX6_about_168 : decode cX6_about 168 = .ok (.iaload, 1) := by decide +kernel
theorem dX6_about_169 : decode cX6_about 169 = .ok (.goto 9, 3) := by decide +kernel
theorem dX6_about_172 : decode cX6_about 172 = .ok (.aload_n 0, 1) := by decide +kernel
theorem dX6_about_173 : decode cX6_about 173 = .ok (.getfield 25, 3) := by decide +kernel
theorem dX6_about_176 : decode cX6_about 176 = .ok (.iload_n 1, 1) := by decide +kernel
theorem dX6_about_177 : decode cX6_about 177 = .ok (.iaload, 1) := by decide +kernel
theorem dX6_about_178 : decode cX6_about 178 = .ok (.ireturn, 1) := by decide +kernel
end
section
theorem dL_law_0 : decode cL_law 0 = .ok (.new 8, 3) := by decide +kernel
theorem dL_law_3 : decode cL_law 3 = .ok (.dup, 1) := by decide +kernel
theorem dL_law_4 : decode cL_law 4 = .ok (.invokespecial 107, 3) := by decide +kernel
theorem dL_law_7 : decode cL_law 7 = .ok (.astore_n 1, 1) := by decide +kernel
theorem dL_law_8 : decode cL_law 8 = .ok (.new 108, 3) := by decide +kernel
theorem dL_law_11 : decode cL_law 11 = .ok (.dup, 1) := by decide +kernel
theorem dL_law_12 : decode cL_law 12 = .ok (.invokespecial 110, 3) := by decide +kernel
theorem dL_law_15 : decode cL_law 15 = .ok (.astore_n 2, 1) := by decide +kernel
theorem dL_law_16 : decode cL_law 16 = .ok (.iconst 1, 1) := by decide +kernel
theorem dL_law_17 : decode cL_law 17 = .ok (.newarray .long, 2) := by decide +kernel
theorem dL_law_19 : decode cL_law 19 = .ok (.astore_n 3, 1) := by decide +kernel
theorem dL_law_20 : decode cL_law 20 = .ok (.iconst 0, 1) := by decide +kernel
theorem dL_law_21 : decode cL_law 21 = .ok (.istore 4, 2) := by decide +kernel
theorem dL_law_23 : decode cL_law 23 = .ok (.iload 4, 2) := by decide +kernel
theorem dL_law_25 : decode cL_law 25 = .ok (.aload_n 0, 1) := by decide +kernel
theorem dL_law_26 : decode cL_law 26 = .ok (.arraylength, 1) := by decide +kernel
theorem dL_law_27 : decode cL_law 27 = .ok (.bipush 6, 2) := by decide +kernel
theorem dL_law_29 : decode cL_law 29 = .ok (.isub, 1) := by decide +kernel
theorem dL_law_30 : decode cL_law 30 = .ok (.if_icmp .gt 2121, 3) := by decide +kernel
theorem dL_law_33 : decode cL_law 33 = .ok (.aload_n 0, 1) := by decide +kernel
theorem dL_law_34 : decode cL_law 34 = .ok (.iload 4, 2) := by decide +kernel
theorem dL_law_36 : decode cL_law 36 = .ok (.iaload, 1) := by decide +kernel
theorem dL_law_37 : decode cL_law 37 = .ok (.bipush 31, 2) := by decide +kernel
theorem dL_law_39 : decode cL_law 39 = .ok (.iand, 1) := by decide +kernel
theorem dL_law_40 : decode cL_law 40 = .ok (.tableswitch 2105 0 28 #[132, 236, 249, 373, 448, 461, 560, 616, 652, 720, 733, 801, 880, 955, 1027, 1095, 1163, 1255, 1359, 1415, 1471, 1551, 1631, 1687, 1755, 1803, 1866, 1957, 2037], 132) := by decide +kernel
theorem dL_law_172 : decode cL_law 172 = .ok (.aload_n 1, 1) := by decide +kernel
theorem dL_law_173 : decode cL_law 173 = .ok (.aload_n 0, 1) := by decide +kernel
theorem dL_law_174 : decode cL_law 174 = .ok (.iload 4, 2) := by decide +kernel
theorem dL_law_176 : decode cL_law 176 = .ok (.iconst 1, 1) := by decide +kernel
theorem dL_law_177 : decode cL_law 177 = .ok (.iadd, 1) := by decide +kernel
theorem dL_law_178 : decode cL_law 178 = .ok (.iaload, 1) := by decide +kernel
theorem dL_law_179 : decode cL_law 179 = .ok (.aload_n 0, 1) := by decide +kernel
theorem dL_law_180 : decode cL_law 180 = .ok (.iload 4, 2) := by decide +kernel
theorem dL_law_182 : decode cL_law 182 = .ok (.iconst 2, 1) := by decide +kernel
theorem dL_law_183 : decode cL_law 183 = .ok (.iadd, 1) := by decide +kernel
theorem dL_law_184 : decode cL_law 184 = .ok (.iaload, 1) := by decide +kernel
theorem dL_law_185 : decode cL_law 185 = .ok (.aload_n 0, 1) := by decide +kernel
theorem dL_law_186 : decode cL_law 186 = .ok (.iload 4, 2) := by decide +kernel
theorem dL_law_188 : decode cL_law 188 = .ok (.iconst 3, 1) := by decide +kernel
theorem dL_law_189 : decode cL_law 189 = .ok (.iadd, 1) := by decide +kernel
theorem dL_law_190 : decode cL_law 190 = .ok (.iaload, 1) := by decide +kernel
theorem dL_law_191 : decode cL_law 191 = .ok (.aload_n 0, 1) := by decide +kernel
theorem dL_law_192 : decode cL_law 192 = .ok (.iload 4, 2) := by decide +kernel
theorem dL_law_194 : decode cL_law 194 = .ok (.iconst 4, 1) := by decide +kernel
theorem dL_law_195 : decode cL_law 195 = .ok (.iadd, 1) := by decide +kernel
theorem dL_law_196 : decode cL_law 196 = .ok (.iaload, 1) := by decide +kernel
theorem dL_law_197 : decode cL_law 197 = .ok (.aload_n 0, 1) := by decide +kernel
theorem dL_law_198 : decode cL_law 198 = .ok (.iload 4, 2) := by decide +kernel
theorem dL_law_200 : decode cL_law 200 = .ok (.iconst 5, 1) := by decide +kernel
theorem dL_law_201 : decode cL_law 201 = .ok (.iadd, 1) := by decide +kernel
theorem dL_law_202 : decode cL_law 202 = .ok (.iaload, 1) := by decide +kernel
theorem dL_law_203 : decode cL_law 203 = .ok (.aload_n 3, 1) := by decide +kernel
theorem dL_law_204 : decode cL_law 204 = .ok (.invokestatic 111, 3) := by decide +kernel
theorem dL_law_207 : decode cL_law 207 = .ok (.istore 5, 2) := by decide +kernel
theorem dL_law_209 : decode cL_law 209 = .ok (.aload_n 2, 1) := by decide +kernel
theorem dL_law_210 : decode cL_law 210 = .ok (.aload_n 0, 1) := by decide +kernel
theorem dL_law_211 : decode cL_law 211 = .ok (.iload 4, 2) := by decide +kernel
theorem dL_law_213 : decode cL_law 213 = .ok (.iconst 1, 1) := by decide +kernel
theorem dL_law_214 : decode cL_law 214 = .ok (.iadd, 1) := by decide +kernel
theorem dL_law_215 : decode cL_law 215 = .ok (.iaload, 1) := by decide +kernel
theorem dL_law_216 : decode cL_law 216 = .ok (.aload_n 0, 1) := by decide +kernel
theorem dL_law_217 : decode cL_law 217 = .ok (.iload 4, 2) := by decide +kernel
theorem dL_law_219 : decode cL_law 219 = .ok (.iconst 2, 1) := by decide +kernel
theorem dL_law_220 : decode cL_law 220 = .ok (.iadd, 1) := by decide +kernel
theorem dL_law_221 : decode cL_law 221 = .ok (.iaload, 1) := by decide +kernel
theorem dL_law_222 : decode cL_law 222 = .ok (.aload_n 0, 1) := by decide +kernel
theorem dL_law_223 : decode cL_law 223 = .ok (.iload 4, 2) := by decide +kernel
theorem dL_law_225 : decode cL_law 225 = .ok (.iconst 3, 1) := by decide +kernel
theorem dL_law_226 : decode cL_law 226 = .ok (.iadd, 1) := by decide +kernel
theorem dL_law_227 : decode cL_law 227 = .ok (.iaload, 1) := by decide +kernel
theorem dL_law_228 : decode cL_law 228 = .ok (.aload_n 0, 1) := by decide +kernel
theorem dL_law_229 : decode cL_law 229 = .ok (.iload 4, 2) := by decide +kernel
theorem dL_law_231 : decode cL_law 231 = .ok (.iconst 4, 1) := by decide +kernel
theorem dL_law_232 : decode cL_law 232 = .ok (.iadd, 1) := by decide +kernel
theorem dL_law_233 : decode cL_law 233 = .ok (.iaload, 1) := by decide +kernel
theorem dL_law_234 : decode cL_law 234 = .ok (.aload_n 0, 1) := by decide +kernel
theorem dL_law_235 : decode cL_law 235 = .ok (.iload 4, 2) := by decide +kernel
theorem dL_law_237 : decode cL_law 237 = .ok (.iconst 5, 1) := by decide +kernel
theorem dL_law_238 : decode cL_law 238 = .ok (.iadd, 1) := by decide +kernel
theorem dL_law_239 : decode cL_law 239 = .ok (.iaload, 1) := by decide +kernel
theorem dL_law_240 : decode cL_law 240 = .ok (.invokevirtual 116, 3) := by decide +kernel
theorem dL_law_243 : decode cL_law 243 = .ok (.istore 6, 2) := by decide +kernel
theorem dL_law_245 : decode cL_law 245 = .ok (.aload_n 2, 1) := by decide +kernel
theorem dL_law_246 : decode cL_law 246 = .ok (.invokevirtual 117, 3) := by decide +kernel
theorem dL_law_249 : decode cL_law 249 = .ok (.iload 5, 2) := by decide +kernel
theorem dL_law_251 : decode cL_law 251 = .ok (.if_icmp .eq 5, 3) := by decide +kernel
theorem dL_law_254 : decode cL_law 254 = .ok (.iconst 0, 1) := by decide +kernel
theorem dL_law_255 : decode cL_law 255 = .ok (.ireturn, 1) := by decide +kernel
theorem dL_law_256 : decode cL_law 256 = .ok (.iload 5, 2) := by decide +kernel
theorem dL_law_258 : decode cL_law 258 = .ok (.ifCond .ne 15, 3) := by decide +kernel
theorem dL_law_261 : decode cL_law 261 = .ok (.aload_n 3, 1) := by decide +kernel
theorem dL_law_262 : decode cL_law 262 = .ok (.iconst 0, 1) := by decide +kernel
theorem dL_law_263 : decode cL_law 263 = .ok (.laload, 1) := by decide +kernel
theorem dL_law_264 : decode cL_law 264 = .ok (.iload 6, 2) := by decide +kernel
theorem dL_law_266 : decode cL_law 266 = .ok (.i2l, 1) := by decide +kernel
theorem dL_law_267 : decode cL_law 267 = .ok (.lcmp, 1) := by decide +kernel
theorem dL_law_268 : decode cL_law 268 = .ok (.ifCond .eq 5, 3) := by decide +kernel
theorem dL_law_271 : decode cL_law 271 = .ok (.iconst 0, 1) := by decide +kernel
theorem dL_law_272 : decode cL_law 272 = .ok (.ireturn, 1) := by decide +kernel
theorem dL_law_273 : decode cL_law 273 = .ok (.goto 1872, 3) := by decide +kernel
theorem dL_law_276 : decode cL_law 276 = .ok (.aload_n 1, 1) := by decide +kernel
theorem dL_law_277 : decode cL_law 277 = .ok (.invokevirtual 121, 3) := by decide +kernel
theorem dL_law_280 : decode cL_law 280 = .ok (.aload_n 2, 1) := by decide +kernel
theorem dL_law_281 : decode cL_law 281 = .ok (.invokevirtual 124, 3) := by decide +kernel
theorem dL_law_284 : decode cL_law 284 = .ok (.if_icmp .eq 1861, 3) := by decide +kernel
theorem dL_law_287 : decode cL_law 287 = .ok (.iconst 0, 1) := by decide +kernel
theorem dL_law_288 : decode cL_law 288 = .ok (.ireturn, 1) := by decide +kernel
theorem dL_law_289 : decode cL_law 289 = .ok (.aload_n 1, 1) := by decide +kernel
theorem dL_law_290 : decode cL_law 290 = .ok (.aload_n 0, 1) := by decide +kernel
theorem dL_law_291 : decode cL_law 291 = .ok (.iload 4, 2) := by decide +kernel
theorem dL_law_293 : decode cL_law 293 = .ok (.iconst 1, 1) := by decide +kernel
theorem dL_law_294 : decode cL_law 294 = .ok (.iadd, 1) := by decide +kernel
theorem dL_law_295 : decode cL_law 295 = .ok (.iaload, 1) := by decide +kernel
theorem dL_law_296 : decode cL_law 296 = .ok (.aload_n 0, 1) := by decide +kernel
theorem dL_law_297 : decode cL_law 297 = .ok (.iload 4, 2) := by decide +kernel
theorem dL_law_299 : decode cL_law 299 = .ok (.iconst 2, 1) := by decide +kernel
theorem dL_law_300 : decode cL_law 300 = .ok (.iadd, 1) := by decide +kernel
theorem dL_law_301 : decode cL_law 301 = .ok (.iaload, 1) := by decide +kernel
theorem dL_law_302 : decode cL_law 302 = .ok (.aload_n 0, 1) := by decide +kernel
theorem dL_law_303 : decode cL_law 303 = .ok (.iload 4, 2) := by decide +kernel
theorem dL_law_305 : decode cL_law 305 = .ok (.iconst 3, 1) := by decide +kernel
theorem dL_law_306 : decode cL_law 306 = .ok (.iadd, 1) := by decide +kernel
theorem dL_law_307 : decode cL_law 307 = .ok (.iaload, 1) := by decide +kernel
theorem dL_law_308 : decode cL_law 308 = .ok (.aload_n 0, 1) := by decide +kernel
theorem dL_law_309 : decode cL_law 309 = .ok (.iload 4, 2) := by decide +kernel
theorem dL_law_311 : decode cL_law 311 = .ok (.iconst 4, 1) := by decide +kernel
theorem dL_law_312 : decode cL_law 312 = .ok (.iadd, 1) := by decide +kernel
theorem dL_law_313 : decode cL_law 313 = .ok (.iaload, 1) := by decide +kernel
theorem dL_law_314 : decode cL_law 314 = .ok (.i2l, 1) := by decide +kernel
theorem dL_law_315 : decode cL_law 315 = .ok (.bipush 32, 2) := by decide +kernel
theorem dL_law_317 : decode cL_law 317 = .ok (.lshl, 1) := by decide +kernel
theorem dL_law_318 : decode cL_law 318 = .ok (.aload_n 0, 1) := by decide +kernel
theorem dL_law_319 : decode cL_law 319 = .ok (.iload 4, 2) := by decide +kernel
theorem dL_law_321 : decode cL_law 321 = .ok (.iconst 5, 1) := by decide +kernel
theorem dL_law_322 : decode cL_law 322 = .ok (.iadd, 1) := by decide +kernel
theorem dL_law_323 : decode cL_law 323 = .ok (.iaload, 1) := by decide +kernel
theorem dL_law_324 : decode cL_law 324 = .ok (.i2l, 1) := by decide +kernel
theorem dL_law_325 : decode cL_law 325 = .ok (.ldc2_w 125, 3) := by decide +kernel
theorem dL_law_328 : decode cL_law 328 = .ok (.land, 1) := by decide +kernel
theorem dL_law_329 : decode cL_law 329 = .ok (.lor, 1) := by decide +kernel
theorem dL_law_330 : decode cL_law 330 = .ok (.aload_n 3, 1) := by decide +kernel
theorem dL_law_331 : decode cL_law 331 = .ok (.invokestatic 127, 3) := by decide +kernel
theorem dL_law_334 : decode cL_law 334 = .ok (.istore 5, 2) := by decide +kernel
theorem dL_law_336 : decode cL_law 336 = .ok (.aload_n 2, 1) := by decide +kernel
theorem dL_law_337 : decode cL_law 337 = .ok (.aload_n 0, 1) := by decide +kernel
theorem dL_law_338 : decode cL_law 338 = .ok (.iload 4, 2) := by decide +kernel
theorem dL_law_340 : decode cL_law 340 = .ok (.iconst 1, 1) := by decide +kernel
theorem dL_law_341 : decode cL_law 341 = .ok (.iadd, 1) := by decide +kernel
theorem dL_law_342 : decode cL_law 342 = .ok (.iaload, 1) := by decide +kernel
theorem dL_law_343 : decode cL_law 343 = .ok (.aload_n 0, 1) := by decide +kernel
theorem dL_law_344 : decode cL_law 344 = .ok (.iload 4, 2) := by decide +kernel
theorem dL_law_346 : decode cL_law 346 = .ok (.iconst 2, 1) := by decide +kernel
theorem dL_law_347 : decode cL_law 347 = .ok (.iadd, 1) := by decide +kernel
theorem dL_law_348 : decode cL_law 348 = .ok (.iaload, 1) := by decide +kernel
theorem dL_law_349 : decode cL_law 349 = .ok (.aload_n 0, 1) := by decide +kernel
theorem dL_law_350 : decode cL_law 350 = .ok (.iload 4, 2) := by decide +kernel
theorem dL_law_352 : decode cL_law 352 = .ok (.iconst 3, 1) := by decide +kernel
theorem dL_law_353 : decode cL_law 353 = .ok (.iadd, 1) := by decide +kernel
theorem dL_law_354 : decode cL_law 354 = .ok (.iaload, 1) := by decide +kernel
theorem dL_law_355 : decode cL_law 355 = .ok (.aload_n 0, 1) := by decide +kernel
theorem dL_law_356 : decode cL_law 356 = .ok (.iload 4, 2) := by decide +kernel
theorem dL_law_358 : decode cL_law 358 = .ok (.iconst 4, 1) := by decide +kernel
theorem dL_law_359 : decode cL_law 359 = .ok (.iadd, 1) := by decide +kernel
theorem dL_law_360 : decode cL_law 360 = .ok (.iaload, 1) := by decide +kernel
theorem dL_law_361 : decode cL_law 361 = .ok (.i2l, 1) := by decide +kernel
theorem dL_law_362 : decode cL_law 362 = .ok (.bipush 32, 2) := by decide +kernel
theorem dL_law_364 : decode cL_law 364 = .ok (.lshl, 1) := by decide +kernel
theorem dL_law_365 : decode cL_law 365 = .ok (.aload_n 0, 1) := by decide +kernel
theorem dL_law_366 : decode cL_law 366 = .ok (.iload 4, 2) := by decide +kernel
theorem dL_law_368 : decode cL_law 368 = .ok (.iconst 5, 1) := by decide +kernel
theorem dL_law_369 : decode cL_law 369 = .ok (.iadd, 1) := by decide +kernel
theorem dL_law_370 : decode cL_law 370 = .ok (.iaload, 1) := by decide +kernel
theorem dL_law_371 : decode cL_law 371 = .ok (.i2l, 1) := by decide +kernel
theorem dL_law_372 : decode cL_law 372 = .ok (.ldc2_w 125, 3) := by decide +kernel
theorem dL_law_375 : decode cL_law 375 = .ok (.land, 1) := by decide +kernel
theorem dL_law_376 : decode cL_law 376 = .ok (.lor, 1) := by decide +kernel
theorem dL_law_377 : decode cL_law 377 = .ok (.invokevirtual 130, 3) := by decide +kernel
theorem dL_law_380 : decode cL_law 380 = .ok (.istore 6, 2) := by decide +kernel
theorem dL_law_382 : decode cL_law 382 = .ok (.aload_n 2, 1) := by decide +kernel
theorem dL_law_383 : decode cL_law 383 = .ok (.invokevirtual 117, 3) := by decide +kernel
theorem dL_law_386 : decode cL_law 386 = .ok (.iload 5, 2) := by decide +kernel
theorem dL_law_388 : decode cL_law 388 = .ok (.if_icmp .eq 5, 3) := by decide +kernel
theorem dL_law_391 : decode cL_law 391 = .ok (.iconst 0, 1) := by decide +kernel
theorem dL_law_392 : decode cL_law 392 = .ok (.ireturn, 1) := by decide +kernel
theorem dL_law_393 : decode cL_law 393 = .ok (.iload 5, 2) := by decide +kernel
theorem dL_law_395 : decode cL_law 395 = .ok (.ifCond .ne 15, 3) := by decide +kernel
theorem dL_law_398 : decode cL_law 398 = .ok (.aload_n 3, 1) := by decide +kernel
theorem dL_law_399 : decode cL_law 399 = .ok (.iconst 0, 1) := by decide +kernel
theorem dL_law_400 : decode cL_law 400 = .ok (.laload, 1) := by decide +kernel
theorem dL_law_401 : decode cL_law 401 = .ok (.iload 6, 2) := by decide +kernel
theorem dL_law_403 : decode cL_law 403 = .ok (.i2l, 1) := by decide +kernel
theorem dL_law_404 : decode cL_law 404 = .ok (.lcmp, 1) := by decide +kernel
theorem dL_law_405 : decode cL_law 405 = .ok (.ifCond .eq 5, 3) := by decide +kernel
theorem dL_law_408 : decode cL_law 408 = .ok (.iconst 0, 1) := by decide +kernel
theorem dL_law_409 : decode cL_law 409 = .ok (.ireturn, 1) := by decide +kernel
theorem dL_law_410 : decode cL_law 410 = .ok (.goto 1735, 3) := by decide +kernel
theorem dL_law_413 : decode cL_law 413 = .ok (.aload_n 1, 1) := by decide +kernel
theorem dL_law_414 : decode cL_law 414 = .ok (.aload_n 0, 1) := by decide +kernel
theorem dL_law_415 : decode cL_law 415 = .ok (.iload 4, 2) := by decide +kernel
theorem dL_law_417 : decode cL_law 417 = .ok (.iconst 1, 1) := by decide +kernel
theorem dL_law_418 : decode cL_law 418 = .ok (.iadd, 1) := by decide +kernel
theorem dL_law_419 : decode cL_law 419 = .ok (.iaload, 1) := by decide +kernel
theorem dL_law_420 : decode cL_law 420 = .ok (.aload_n 0, 1) := by decide +kernel
theorem dL_law_421 : decode cL_law 421 = .ok (.iload 4, 2) := by decide +kernel
theorem dL_law_423 : decode cL_law 423 = .ok (.iconst 2, 1) := by decide +kernel
theorem dL_law_424 : decode cL_law 424 = .ok (.iadd, 1) := by decide +kernel
theorem dL_law_425 : decode cL_law 425 = .ok (.iaload, 1) := by decide +kernel
theorem dL_law_426 : decode cL_law 426 = .ok (.aload_n 3, 1) := by decide +kernel
theorem dL_law_427 : decode cL_law 427 = .ok (.invokestatic 131, 3) := by decide +kernel
theorem dL_law_430 : decode cL_law 430 = .ok (.istore 5, 2) := by decide +kernel
theorem dL_law_432 : decode cL_law 432 = .ok (.aload_n 2, 1) := by decide +kernel
theorem dL_law_433 : decode cL_law 433 = .ok (.aload_n 0, 1) := by decide +kernel
theorem dL_law_434 : decode cL_law 434 = .ok (.iload 4, 2) := by decide +kernel
theorem dL_law_436 : decode cL_law 436 = .ok (.iconst 1, 1) := by decide +kernel
theorem dL_law_437 : decode cL_law 437 = .ok (.iadd, 1) := by decide +kernel
theorem dL_law_438 : decode cL_law 438 = .ok (.iaload, 1) := by decide +kernel
theorem dL_law_439 : decode cL_law 439 = .ok (.aload_n 0, 1) := by decide +kernel
theorem dL_law_440 : decode cL_law 440 = .ok (.iload 4, 2) := by decide +kernel
theorem dL_law_442 : decode cL_law 442 = .ok (.iconst 2, 1) := by decide +kernel
theorem dL_law_443 : decode cL_law 443 = .ok (.iadd, 1) := by decide +kernel
theorem dL_law_444 : decode cL_law 444 = .ok (.iaload, 1) := by decide +kernel
theorem dL_law_445 : decode cL_law 445 = .ok (.invokevirtual 134, 3) := by decide +kernel
theorem dL_law_448 : decode cL_law 448 = .ok (.istore 6, 2) := by decide +kernel
theorem dL_law_450 : decode cL_law 450 = .ok (.aload_n 2, 1) := by decide +kernel
theorem dL_law_451 : decode cL_law 451 = .ok (.invokevirtual 117, 3) := by decide +kernel
theorem dL_law_454 : decode cL_law 454 = .ok (.iload 5, 2) := by decide +kernel
theorem dL_law_456 : decode cL_law 456 = .ok (.if_icmp .eq 5, 3) := by decide +kernel
theorem dL_law_459 : decode cL_law 459 = .ok (.iconst 0, 1) := by decide +kernel
theorem dL_law_460 : decode cL_law 460 = .ok (.ireturn, 1) := by decide +kernel
theorem dL_law_461 : decode cL_law 461 = .ok (.iload 5, 2) := by decide +kernel
theorem dL_law_463 : decode cL_law 463 = .ok (.ifCond .ne 22, 3) := by decide +kernel
theorem dL_law_466 : decode cL_law 466 = .ok (.aload_n 3, 1) := by decide +kernel
theorem dL_law_467 : decode cL_law 467 = .ok (.iconst 0, 1) := by decide +kernel
theorem dL_law_468 : decode cL_law 468 = .ok (.laload, 1) := by decide +kernel
theorem dL_law_469 : decode cL_law 469 = .ok (.iload 6, 2) := by decide +kernel
theorem dL_law_471 : decode cL_law 471 = .ok (.ifCond .eq 7, 3) := by decide +kernel
theorem dL_law_474 : decode cL_law 474 = .ok (.lconst 1, 1) := by decide +kernel
theorem dL_law_475 : decode cL_law 475 = .ok (.goto 4, 3) := by decide +kernel
theorem dL_law_478 : decode cL_law 478 = .ok (.lconst 0, 1) := by decide +kernel
theorem dL_law_479 : decode cL_law 479 = .ok (.lcmp, 1) := by decide +kernel
theorem dL_law_480 : decode cL_law 480 = .ok (.ifCond .eq 5, 3) := by decide +kernel
theorem dL_law_483 : decode cL_law 483 = .ok (.iconst 0, 1) := by decide +kernel
theorem dL_law_484 : decode cL_law 484 = .ok (.ireturn, 1) := by decide +kernel
theorem dL_law_485 : decode cL_law 485 = .ok (.goto 1660, 3) := by decide +kernel
theorem dL_law_488 : decode cL_law 488 = .ok (.aload_n 1, 1) := by decide +kernel
theorem dL_law_489 : decode cL_law 489 = .ok (.invokevirtual 135, 3) := by decide +kernel
theorem dL_law_492 : decode cL_law 492 = .ok (.aload_n 2, 1) := by decide +kernel
theorem dL_law_493 : decode cL_law 493 = .ok (.invokevirtual 138, 3) := by decide +kernel
theorem dL_law_496 : decode cL_law 496 = .ok (.if_icmp .eq 1649, 3) := by decide +kernel
theorem dL_law_499 : decode cL_law 499 = .ok (.iconst 0, 1) := by decide +kernel
theorem dL_law_500 : decode cL_law 500 = .ok (.ireturn, 1) := by decide +kernel
theorem dL_law_501 : decode cL_law 501 = .ok (.aload_n 1, 1) := by decide +kernel
theorem dL_law_502 : decode cL_law 502 = .ok (.aload_n 0, 1) := by decide +kernel
theorem dL_law_503 : decode cL_law 503 = .ok (.iload 4, 2) := by decide +kernel
theorem dL_law_505 : decode cL_law 505 = .ok (.iconst 1, 1) := by decide +kernel
theorem dL_law_506 : decode cL_law 506 = .ok (.iadd, 1) := by decide +kernel
theorem dL_law_507 : decode cL_law 507 = .ok (.iaload, 1) := by decide +kernel
theorem dL_law_508 : decode cL_law 508 = .ok (.aload_n 0, 1) := by decide +kernel
theorem dL_law_509 : decode cL_law 509 = .ok (.iload 4, 2) := by decide +kernel
theorem dL_law_511 : decode cL_law 511 = .ok (.iconst 2, 1) := by decide +kernel
theorem dL_law_512 : decode cL_law 512 = .ok (.iadd, 1) := by decide +kernel
theorem dL_law_513 : decode cL_law 513 = .ok (.iaload, 1) := by decide +kernel
theorem dL_law_514 : decode cL_law 514 = .ok (.aload_n 0, 1) := by decide +kernel
theorem dL_law_515 : decode cL_law 515 = .ok (.iload 4, 2) := by decide +kernel
theorem dL_law_517 : decode cL_law 517 = .ok (.iconst 3, 1) := by decide +kernel
theorem dL_law_518 : decode cL_law 518 = .ok (.iadd, 1) := by decide +kernel
theorem dL_law_519 : decode cL_law 519 = .ok (.iaload, 1) := by decide +kernel
theorem dL_law_520 : decode cL_law 520 = .ok (.aload_n 0, 1) := by decide +kernel
theorem dL_law_521 : decode cL_law 521 = .ok (.iload 4, 2) := by decide +kernel
theorem dL_law_523 : decode cL_law 523 = .ok (.iconst 4, 1) := by decide +kernel
theorem dL_law_524 : decode cL_law 524 = .ok (.iadd, 1) := by decide +kernel
theorem dL_law_525 : decode cL_law 525 = .ok (.iaload, 1) := by decide +kernel
theorem dL_law_526 : decode cL_law 526 = .ok (.aload_n 3, 1) := by decide +kernel
theorem dL_law_527 : decode cL_law 527 = .ok (.invokestatic 139, 3) := by decide +kernel
theorem dL_law_530 : decode cL_law 530 = .ok (.istore 5, 2) := by decide +kernel
theorem dL_law_532 : decode cL_law 532 = .ok (.aload_n 2, 1) := by decide +kernel
theorem dL_law_533 : decode cL_law 533 = .ok (.aload_n 0, 1) := by decide +kernel
theorem dL_law_534 : decode cL_law 534 = .ok (.iload 4, 2) := by decide +kernel
theorem dL_law_536 : decode cL_law 536 = .ok (.iconst 1, 1) := by decide +kernel
theorem dL_law_537 : decode cL_law 537 = .ok (.iadd, 1) := by decide +kernel
theorem dL_law_538 : decode cL_law 538 = .ok (.iaload, 1) := by decide +kernel
theorem dL_law_539 : decode cL_law 539 = .ok (.aload_n 0, 1) := by decide +kernel
theorem dL_law_540 : decode cL_law 540 = .ok (.iload 4, 2) := by decide +kernel
theorem dL_law_542 : decode cL_law 542 = .ok (.iconst 2, 1) := by decide +kernel
theorem dL_law_543 : decode cL_law 543 = .ok (.iadd, 1) := by decide +kernel
theorem dL_law_544 : decode cL_law 544 = .ok (.iaload, 1) := by decide +kernel
theorem dL_law_545 : decode cL_law 545 = .ok (.aload_n 0, 1) := by decide +kernel
theorem dL_law_546 : decode cL_law 546 = .ok (.iload 4, 2) := by decide +kernel
theorem dL_law_548 : decode cL_law 548 = .ok (.iconst 3, 1) := by decide +kernel
theorem dL_law_549 : decode cL_law 549 = .ok (.iadd, 1) := by decide +kernel
theorem dL_law_550 : decode cL_law 550 = .ok (.iaload, 1) := by decide +kernel
theorem dL_law_551 : decode cL_law 551 = .ok (.aload_n 0, 1) := by decide +kernel
theorem dL_law_552 : decode cL_law 552 = .ok (.iload 4, 2) := by decide +kernel
theorem dL_law_554 : decode cL_law 554 = .ok (.iconst 4, 1) := by decide +kernel
theorem dL_law_555 : decode cL_law 555 = .ok (.iadd, 1) := by decide +kernel
theorem dL_law_556 : decode cL_law 556 = .ok (.iaload, 1) := by decide +kernel
theorem dL_law_557 : decode cL_law 557 = .ok (.invokevirtual 142, 3) := by decide +kernel
theorem dL_law_560 : decode cL_law 560 = .ok (.istore 6, 2) := by decide +kernel
theorem dL_law_562 : decode cL_law 562 = .ok (.aload_n 2, 1) := by decide +kernel
theorem dL_law_563 : decode cL_law 563 = .ok (.invokevirtual 117, 3) := by decide +kernel
theorem dL_law_566 : decode cL_law 566 = .ok (.iload 5, 2) := by decide +kernel
theorem dL_law_568 : decode cL_law 568 = .ok (.if_icmp .eq 5, 3) := by decide +kernel
theorem dL_law_571 : decode cL_law 571 = .ok (.iconst 0, 1) := by decide +kernel
theorem dL_law_572 : decode cL_law 572 = .ok (.ireturn, 1) := by decide +kernel
theorem dL_law_573 : decode cL_law 573 = .ok (.iload 5, 2) := by decide +kernel
theorem dL_law_575 : decode cL_law 575 = .ok (.ifCond .ne 22, 3) := by decide +kernel
theorem dL_law_578 : decode cL_law 578 = .ok (.aload_n 3, 1) := by decide +kernel
theorem dL_law_579 : decode cL_law 579 = .ok (.iconst 0, 1) := by decide +kernel
theorem dL_law_580 : decode cL_law 580 = .ok (.laload, 1) := by decide +kernel
theorem dL_law_581 : decode cL_law 581 = .ok (.iload 6, 2) := by decide +kernel
theorem dL_law_583 : decode cL_law 583 = .ok (.ifCond .eq 7, 3) := by decide +kernel
theorem dL_law_586 : decode cL_law 586 = .ok (.lconst 1, 1) := by decide +kernel
theorem dL_law_587 : decode cL_law 587 = .ok (.goto 4, 3) := by decide +kernel
theorem dL_law_590 : decode cL_law 590 = .ok (.lconst 0, 1) := by decide +kernel
theorem dL_law_591 : decode cL_law 591 = .ok (.lcmp, 1) := by decide +kernel
theorem dL_law_592 : decode cL_law 592 = .ok (.ifCond .eq 5, 3) := by decide +kernel
theorem dL_law_595 : decode cL_law 595 = .ok (.iconst 0, 1) := by decide +kernel
theorem dL_law_596 : decode cL_law 596 = .ok (.ireturn, 1) := by decide +kernel
theorem dL_law_597 : decode cL_law 597 = .ok (.goto 1548, 3) := by decide +kernel
theorem dL_law_600 : decode cL_law 600 = .ok (.aload_n 1, 1) := by decide +kernel
theorem dL_law_601 : decode cL_law 601 = .ok (.aload_n 0, 1) := by decide +kernel
theorem dL_law_602 : decode cL_law 602 = .ok (.iload 4, 2) := by decide +kernel
theorem dL_law_604 : decode cL_law 604 = .ok (.iconst 1, 1) := by decide +kernel
theorem dL_law_605 : decode cL_law 605 = .ok (.iadd, 1) := by decide +kernel
theorem dL_law_606 : decode cL_law 606 = .ok (.iaload, 1) := by decide +kernel
theorem dL_law_607 : decode cL_law 607 = .ok (.aload_n 3, 1) := by decide +kernel
theorem dL_law_608 : decode cL_law 608 = .ok (.invokestatic 143, 3) := by decide +kernel
theorem dL_law_611 : decode cL_law 611 = .ok (.istore 5, 2) := by decide +kernel
theorem dL_law_613 : decode cL_law 613 = .ok (.aload_n 2, 1) := by decide +kernel
theorem dL_law_614 : decode cL_law 614 = .ok (.aload_n 0, 1) := by decide +kernel
theorem dL_law_615 : decode cL_law 615 = .ok (.iload 4, 2) := by decide +kernel
theorem dL_law_617 : decode cL_law 617 = .ok (.iconst 1, 1) := by decide +kernel
theorem dL_law_618 : decode cL_law 618 = .ok (.iadd, 1) := by decide +kernel
theorem dL_law_619 : decode cL_law 619 = .ok (.iaload, 1) := by decide +kernel
theorem dL_law_620 : decode cL_law 620 = .ok (.invokevirtual 146, 3) := by decide +kernel
theorem dL_law_623 : decode cL_law 623 = .ok (.istore 6, 2) := by decide +kernel
theorem dL_law_625 : decode cL_law 625 = .ok (.aload_n 2, 1) := by decide +kernel
theorem dL_law_626 : decode cL_law 626 = .ok (.invokevirtual 117, 3) := by decide +kernel
theorem dL_law_629 : decode cL_law 629 = .ok (.iload 5, 2) := by decide +kernel
theorem dL_law_631 : decode cL_law 631 = .ok (.if_icmp .eq 5, 3) := by decide +kernel
theorem dL_law_634 : decode cL_law 634 = .ok (.iconst 0, 1) := by decide +kernel
theorem dL_law_635 : decode cL_law 635 = .ok (.ireturn, 1) := by decide +kernel
theorem dL_law_636 : decode cL_law 636 = .ok (.iload 5, 2) := by decide +kernel
theorem dL_law_638 : decode cL_law 638 = .ok (.ifCond .ne 15, 3) := by decide +kernel
theorem dL_law_641 : decode cL_law 641 = .ok (.aload_n 3, 1) := by decide +kernel
theorem dL_law_642 : decode cL_law 642 = .ok (.iconst 0, 1) := by decide +kernel
theorem dL_law_643 : decode cL_law 643 = .ok (.laload, 1) := by decide +kernel
theorem dL_law_644 : decode cL_law 644 = .ok (.iload 6, 2) := by decide +kernel
theorem dL_law_646 : decode cL_law 646 = .ok (.i2l, 1) := by decide +kernel
theorem dL_law_647 : decode cL_law 647 = .ok (.lcmp, 1) := by decide +kernel
theorem dL_law_648 : decode cL_law 648 = .ok (.ifCond .eq 5, 3) := by decide +kernel
theorem dL_law_651 : decode cL_law 651 = .ok (.iconst 0, 1) := by decide +kernel
theorem dL_law_652 : decode cL_law 652 = .ok (.ireturn, 1) := by decide +kernel
theorem dL_law_653 : decode cL_law 653 = .ok (.goto 1492, 3) := by decide +kernel
theorem dL_law_656 : decode cL_law 656 = .ok (.aload_n 1, 1) := by decide +kernel
theorem dL_law_657 : decode cL_law 657 = .ok (.aload_n 0, 1) := by decide +kernel
theorem dL_law_658 : decode cL_law 658 = .ok (.iload 4, 2) := by decide +kernel
theorem dL_law_660 : decode cL_law 660 = .ok (.iconst 1, 1) := by decide +kernel
theorem dL_law_661 : decode cL_law 661 = .ok (.iadd, 1) := by decide +kernel
theorem dL_law_662 : decode cL_law 662 = .ok (.iaload, 1) := by decide +kernel
theorem dL_law_663 : decode cL_law 663 = .ok (.invokestatic 147, 3) := by decide +kernel
theorem dL_law_666 : decode cL_law 666 = .ok (.istore 5, 2) := by decide +kernel
theorem dL_law_668 : decode cL_law 668 = .ok (.aload_n 2, 1) := by decide +kernel
theorem dL_law_669 : decode cL_law 669 = .ok (.aload_n 0, 1) := by decide +kernel
theorem dL_law_670 : decode cL_law 670 = .ok (.iload 4, 2) := by decide +kernel
theorem dL_law_672 : decode cL_law 672 = .ok (.iconst 1, 1) := by decide +kernel
theorem dL_law_673 : decode cL_law 673 = .ok (.iadd, 1) := by decide +kernel
theorem dL_law_674 : decode cL_law 674 = .ok (.iaload, 1) := by decide +kernel
theorem dL_law_675 : decode cL_law 675 = .ok (.invokevirtual 150, 3) := by decide +kernel
theorem dL_law_678 : decode cL_law 678 = .ok (.aload_n 2, 1) := by decide +kernel
theorem dL_law_679 : decode cL_law 679 = .ok (.invokevirtual 117, 3) := by decide +kernel
theorem dL_law_682 : decode cL_law 682 = .ok (.iload 5, 2) := by decide +kernel
theorem dL_law_684 : decode cL_law 684 = .ok (.if_icmp .eq 5, 3) := by decide +kernel
theorem dL_law_687 : decode cL_law 687 = .ok (.iconst 0, 1) := by decide +kernel
theorem dL_law_688 : decode cL_law 688 = .ok (.ireturn, 1) := by decide +kernel
theorem dL_law_689 : decode cL_law 689 = .ok (.goto 1456, 3) := by decide +kernel
theorem dL_law_692 : decode cL_law 692 = .ok (.aload_n 1, 1) := by decide +kernel
theorem dL_law_693 : decode cL_law 693 = .ok (.aload_n 0, 1) := by decide +kernel
theorem dL_law_694 : decode cL_law 694 = .ok (.iload 4, 2) := by decide +kernel
theorem dL_law_696 : decode cL_law 696 = .ok (.iconst 1, 1) := by decide +kernel
theorem dL_law_697 : decode cL_law 697 = .ok (.iadd, 1) := by decide +kernel
theorem dL_law_698 : decode cL_law 698 = .ok (.iaload, 1) := by decide +kernel
theorem dL_law_699 : decode cL_law 699 = .ok (.aload_n 0, 1) := by decide +kernel
theorem dL_law_700 : decode cL_law 700 = .ok (.iload 4, 2) := by decide +kernel
theorem dL_law_702 : decode cL_law 702 = .ok (.iconst 2, 1) := by decide +kernel
theorem dL_law_703 : decode cL_law 703 = .ok (.iadd, 1) := by decide +kernel
theorem dL_law_704 : decode cL_law 704 = .ok (.iaload, 1) := by decide +kernel
theorem dL_law_705 : decode cL_law 705 = .ok (.aload_n 3, 1) := by decide +kernel
theorem dL_law_706 : decode cL_law 706 = .ok (.invokestatic 151, 3) := by decide +kernel
theorem dL_law_709 : decode cL_law 709 = .ok (.istore 5, 2) := by decide +kernel
theorem dL_law_711 : decode cL_law 711 = .ok (.aload_n 2, 1) := by decide +kernel
theorem dL_law_712 : decode cL_law 712 = .ok (.aload_n 0, 1) := by decide +kernel
theorem dL_law_713 : decode cL_law 713 = .ok (.iload 4, 2) := by decide +kernel
theorem dL_law_715 : decode cL_law 715 = .ok (.iconst 1, 1) := by decide +kernel
theorem dL_law_716 : decode cL_law 716 = .ok (.iadd, 1) := by decide +kernel
theorem dL_law_717 : decode cL_law 717 = .ok (.iaload, 1) := by decide +kernel
theorem dL_law_718 : decode cL_law 718 = .ok (.aload_n 0, 1) := by decide +kernel
theorem dL_law_719 : decode cL_law 719 = .ok (.iload 4, 2) := by decide +kernel
theorem dL_law_721 : decode cL_law 721 = .ok (.iconst 2, 1) := by decide +kernel
theorem dL_law_722 : decode cL_law 722 = .ok (.iadd, 1) := by decide +kernel
theorem dL_law_723 : decode cL_law 723 = .ok (.iaload, 1) := by decide +kernel
theorem dL_law_724 : decode cL_law 724 = .ok (.invokevirtual 153, 3) := by decide +kernel
theorem dL_law_727 : decode cL_law 727 = .ok (.istore 6, 2) := by decide +kernel
theorem dL_law_729 : decode cL_law 729 = .ok (.aload_n 2, 1) := by decide +kernel
theorem dL_law_730 : decode cL_law 730 = .ok (.invokevirtual 117, 3) := by decide +kernel
theorem dL_law_733 : decode cL_law 733 = .ok (.iload 5, 2) := by decide +kernel
theorem dL_law_735 : decode cL_law 735 = .ok (.if_icmp .eq 5, 3) := by decide +kernel
theorem dL_law_738 : decode cL_law 738 = .ok (.iconst 0, 1) := by decide +kernel
theorem dL_law_739 : decode cL_law 739 = .ok (.ireturn, 1) := by decide +kernel
theorem dL_law_740 : decode cL_law 740 = .ok (.iload 5, 2) := by decide +kernel
theorem dL_law_742 : decode cL_law 742 = .ok (.ifCond .ne 15, 3) := by decide +kernel
theorem dL_law_745 : decode cL_law 745 = .ok (.aload_n 3, 1) := by decide +kernel
theorem dL_law_746 : decode cL_law 746 = .ok (.iconst 0, 1) := by decide +kernel
theorem dL_law_747 : decode cL_law 747 = .ok (.laload, 1) := by decide +kernel
theorem dL_law_748 : decode cL_law 748 = .ok (.iload 6, 2) := by decide +kernel
theorem dL_law_750 : decode cL_law 750 = .ok (.i2l, 1) := by decide +kernel
theorem dL_law_751 : decode cL_law 751 = .ok (.lcmp, 1) := by decide +kernel
theorem dL_law_752 : decode cL_law 752 = .ok (.ifCond .eq 5, 3) := by decide +kernel
theorem dL_law_755 : decode cL_law 755 = .ok (.iconst 0, 1) := by decide +kernel
theorem dL_law_756 : decode cL_law 756 = .ok (.ireturn, 1) := by decide +kernel
theorem dL_law_757 : decode cL_law 757 = .ok (.goto 1388, 3) := by decide +kernel
theorem dL_law_760 : decode cL_law 760 = .ok (.aload_n 1, 1) := by decide +kernel
theorem dL_law_761 : decode cL_law 761 = .ok (.invokevirtual 154, 3) := by decide +kernel
theorem dL_law_764 : decode cL_law 764 = .ok (.aload_n 2, 1) := by decide +kernel
theorem dL_law_765 : decode cL_law 765 = .ok (.invokevirtual 157, 3) := by decide +kernel
theorem dL_law_768 : decode cL_law 768 = .ok (.if_icmp .eq 1377, 3) := by decide +kernel
theorem dL_law_771 : decode cL_law 771 = .ok (.iconst 0, 1) := by decide +kernel
theorem dL_law_772 : decode cL_law 772 = .ok (.ireturn, 1) := by decide +kernel
theorem dL_law_773 : decode cL_law 773 = .ok (.aload_n 1, 1) := by decide +kernel
theorem dL_law_774 : decode cL_law 774 = .ok (.aload_n 0, 1) := by decide +kernel
theorem dL_law_775 : decode cL_law 775 = .ok (.iload 4, 2) := by decide +kernel
theorem dL_law_777 : decode cL_law 777 = .ok (.iconst 1, 1) := by decide +kernel
theorem dL_law_778 : decode cL_law 778 = .ok (.iadd, 1) := by decide +kernel
theorem dL_law_779 : decode cL_law 779 = .ok (.iaload, 1) := by decide +kernel
theorem dL_law_780 : decode cL_law 780 = .ok (.aload_n 0, 1) := by decide +kernel
theorem dL_law_781 : decode cL_law 781 = .ok (.iload 4, 2) := by decide +kernel
theorem dL_law_783 : decode cL_law 783 = .ok (.iconst 2, 1) := by decide +kernel
theorem dL_law_784 : decode cL_law 784 = .ok (.iadd, 1) := by decide +kernel
theorem dL_law_785 : decode cL_law 785 = .ok (.iaload, 1) := by decide +kernel
theorem dL_law_786 : decode cL_law 786 = .ok (.aload_n 3, 1) := by decide +kernel
theorem dL_law_787 : decode cL_law 787 = .ok (.invokestatic 158, 3) := by decide +kernel
theorem dL_law_790 : decode cL_law 790 = .ok (.istore 5, 2) := by decide +kernel
theorem dL_law_792 : decode cL_law 792 = .ok (.aload_n 2, 1) := by decide +kernel
theorem dL_law_793 : decode cL_law 793 = .ok (.aload_n 0, 1) := by decide +kernel
theorem dL_law_794 : decode cL_law 794 = .ok (.iload 4, 2) := by decide +kernel
theorem dL_law_796 : decode cL_law 796 = .ok (.iconst 1, 1) := by decide +kernel
theorem dL_law_797 : decode cL_law 797 = .ok (.iadd, 1) := by decide +kernel
theorem dL_law_798 : decode cL_law 798 = .ok (.iaload, 1) := by decide +kernel
theorem dL_law_799 : decode cL_law 799 = .ok (.aload_n 0, 1) := by decide +kernel
theorem dL_law_800 : decode cL_law 800 = .ok (.iload 4, 2) := by decide +kernel
theorem dL_law_802 : decode cL_law 802 = .ok (.iconst 2, 1) := by decide +kernel
theorem dL_law_803 : decode cL_law 803 = .ok (.iadd, 1) := by decide +kernel
theorem dL_law_804 : decode cL_law 804 = .ok (.iaload, 1) := by decide +kernel
theorem dL_law_805 : decode cL_law 805 = .ok (.invokevirtual 160, 3) := by decide +kernel
theorem dL_law_808 : decode cL_law 808 = .ok (.istore 6, 2) := by decide +kernel
theorem dL_law_810 : decode cL_law 810 = .ok (.aload_n 2, 1) := by decide +kernel
theorem dL_law_811 : decode cL_law 811 = .ok (.invokevirtual 117, 3) := by decide +kernel
theorem dL_law_814 : decode cL_law 814 = .ok (.iload 5, 2) := by decide +kernel
theorem dL_law_816 : decode cL_law 816 = .ok (.if_icmp .eq 5, 3) := by decide +kernel
theorem dL_law_819 : decode cL_law 819 = .ok (.iconst 0, 1) := by decide +kernel
theorem dL_law_820 : decode cL_law 820 = .ok (.ireturn, 1) := by decide +kernel
theorem dL_law_821 : decode cL_law 821 = .ok (.iload 5, 2) := by decide +kernel
theorem dL_law_823 : decode cL_law 823 = .ok (.ifCond .ne 15, 3) := by decide +kernel
theorem dL_law_826 : decode cL_law 826 = .ok (.aload_n 3, 1) := by decide +kernel
theorem dL_law_827 : decode cL_law 827 = .ok (.iconst 0, 1) := by decide +kernel
theorem dL_law_828 : decode cL_law 828 = .ok (.laload, 1) := by decide +kernel
theorem dL_law_829 : decode cL_law 829 = .ok (.iload 6, 2) := by decide +kernel
theorem dL_law_831 : decode cL_law 831 = .ok (.i2l, 1) := by decide +kernel
theorem dL_law_832 : decode cL_law 832 = .ok (.lcmp, 1) := by decide +kernel
theorem dL_law_833 : decode cL_law 833 = .ok (.ifCond .eq 5, 3) := by decide +kernel
theorem dL_law_836 : decode cL_law 836 = .ok (.iconst 0, 1) := by decide +kernel
theorem dL_law_837 : decode cL_law 837 = .ok (.ireturn, 1) := by decide +kernel
theorem dL_law_838 : decode cL_law 838 = .ok (.goto 1307, 3) := by decide +kernel
theorem dL_law_841 : decode cL_law 841 = .ok (.aload_n 1, 1) := by decide +kernel
theorem dL_law_842 : decode cL_law 842 = .ok (.aload_n 0, 1) := by decide +kernel
theorem dL_law_843 : decode cL_law 843 = .ok (.iload 4, 2) := by decide +kernel
theorem dL_law_845 : decode cL_law 845 = .ok (.iconst 1, 1) := by decide +kernel
theorem dL_law_846 : decode cL_law 846 = .ok (.iadd, 1) := by decide +kernel
theorem dL_law_847 : decode cL_law 847 = .ok (.iaload, 1) := by decide +kernel
theorem dL_law_848 : decode cL_law 848 = .ok (.aload_n 0, 1) := by decide +kernel
theorem dL_law_849 : decode cL_law 849 = .ok (.iload 4, 2) := by decide +kernel
theorem dL_law_851 : decode cL_law 851 = .ok (.iconst 2, 1) := by decide +kernel
theorem dL_law_852 : decode cL_law 852 = .ok (.iadd, 1) := by decide +kernel
theorem dL_law_853 : decode cL_law 853 = .ok (.iaload, 1) := by decide +kernel
theorem dL_law_854 : decode cL_law 854 = .ok (.aload_n 0, 1) := by decide +kernel
theorem dL_law_855 : decode cL_law 855 = .ok (.iload 4, 2) := by decide +kernel
theorem dL_law_857 : decode cL_law 857 = .ok (.iconst 3, 1) := by decide +kernel
theorem dL_law_858 : decode cL_law 858 = .ok (.iadd, 1) := by decide +kernel
theorem dL_law_859 : decode cL_law 859 = .ok (.iaload, 1) := by decide +kernel
theorem dL_law_860 : decode cL_law 860 = .ok (.aload_n 3, 1) := by decide +kernel
theorem dL_law_861 : decode cL_law 861 = .ok (.invokestatic 161, 3) := by decide +kernel
theorem dL_law_864 : decode cL_law 864 = .ok (.istore 5, 2) := by decide +kernel
theorem dL_law_866 : decode cL_law 866 = .ok (.aload_n 2, 1) := by decide +kernel
theorem dL_law_867 : decode cL_law 867 = .ok (.aload_n 0, 1) := by decide +kernel
theorem dL_law_868 : decode cL_law 868 = .ok (.iload 4, 2) := by decide +kernel
theorem dL_law_870 : decode cL_law 870 = .ok (.iconst 1, 1) := by decide +kernel
theorem dL_law_871 : decode cL_law 871 = .ok (.iadd, 1) := by decide +kernel
theorem dL_law_872 : decode cL_law 872 = .ok (.iaload, 1) := by decide +kernel
theorem dL_law_873 : decode cL_law 873 = .ok (.aload_n 0, 1) := by decide +kernel
theorem dL_law_874 : decode cL_law 874 = .ok (.iload 4, 2) := by decide +kernel
theorem dL_law_876 : decode cL_law 876 = .ok (.iconst 2, 1) := by decide +kernel
theorem dL_law_877 : decode cL_law 877 = .ok (.iadd, 1) := by decide +kernel
theorem dL_law_878 : decode cL_law 878 = .ok (.iaload, 1) := by decide +kernel
theorem dL_law_879 : decode cL_law 879 = .ok (.aload_n 0, 1) := by decide +kernel
theorem dL_law_880 : decode cL_law 880 = .ok (.iload 4, 2) := by decide +kernel
theorem dL_law_882 : decode cL_law 882 = .ok (.iconst 3, 1) := by decide +kernel
theorem dL_law_883 : decode cL_law 883 = .ok (.iadd, 1) := by decide +kernel
theorem dL_law_884 : decode cL_law 884 = .ok (.iaload, 1) := by decide +kernel
theorem dL_law_885 : decode cL_law 885 = .ok (.invokevirtual 164, 3) := by decide +kernel
theorem dL_law_888 : decode cL_law 888 = .ok (.lstore 6, 2) := by decide +kernel
theorem dL_law_890 : decode cL_law 890 = .ok (.aload_n 2, 1) := by decide +kernel
theorem dL_law_891 : decode cL_law 891 = .ok (.invokevirtual 117, 3) := by decide +kernel
theorem dL_law_894 : decode cL_law 894 = .ok (.iload 5, 2) := by decide +kernel
theorem dL_law_896 : decode cL_law 896 = .ok (.if_icmp .eq 5, 3) := by decide +kernel
theorem dL_law_899 : decode cL_law 899 = .ok (.iconst 0, 1) := by decide +kernel
theorem dL_law_900 : decode cL_law 900 = .ok (.ireturn, 1) := by decide +kernel
theorem dL_law_901 : decode cL_law 901 = .ok (.iload 5, 2) := by decide +kernel
theorem dL_law_903 : decode cL_law 903 = .ok (.ifCond .ne 14, 3) := by decide +kernel
theorem dL_law_906 : decode cL_law 906 = .ok (.aload_n 3, 1) := by decide +kernel
theorem dL_law_907 : decode cL_law 907 = .ok (.iconst 0, 1) := by decide +kernel
theorem dL_law_908 : decode cL_law 908 = .ok (.laload, 1) := by decide +kernel
theorem dL_law_909 : decode cL_law 909 = .ok (.lload 6, 2) := by decide +kernel
theorem dL_law_911 : decode cL_law 911 = .ok (.lcmp, 1) := by decide +kernel
theorem dL_law_912 : decode cL_law 912 = .ok (.ifCond .eq 5, 3) := by decide +kernel
theorem dL_law_915 : decode cL_law 915 = .ok (.iconst 0, 1) := by decide +kernel
theorem dL_law_916 : decode cL_law 916 = .ok (.ireturn, 1) := by decide +kernel
theorem dL_law_917 : decode cL_law 917 = .ok (.goto 1228, 3) := by decide +kernel
theorem dL_law_920 : decode cL_law 920 = .ok (.aload_n 1, 1) := by decide +kernel
theorem dL_law_921 : decode cL_law 921 = .ok (.aload_n 0, 1) := by decide +kernel
theorem dL_law_922 : decode cL_law 922 = .ok (.iload 4, 2) := by decide +kernel
theorem dL_law_924 : decode cL_law 924 = .ok (.iconst 1, 1) := by decide +kernel
theorem dL_law_925 : decode cL_law 925 = .ok (.iadd, 1) := by decide +kernel
theorem dL_law_926 : decode cL_law 926 = .ok (.iaload, 1) := by decide +kernel
theorem dL_law_927 : decode cL_law 927 = .ok (.aload_n 0, 1) := by decide +kernel
theorem dL_law_928 : decode cL_law 928 = .ok (.iload 4, 2) := by decide +kernel
theorem dL_law_930 : decode cL_law 930 = .ok (.iconst 2, 1) := by decide +kernel
theorem dL_law_931 : decode cL_law 931 = .ok (.iadd, 1) := by decide +kernel
theorem dL_law_932 : decode cL_law 932 = .ok (.iaload, 1) := by decide +kernel
theorem dL_law_933 : decode cL_law 933 = .ok (.aload_n 3, 1) := by decide +kernel
theorem dL_law_934 : decode cL_law 934 = .ok (.invokestatic 165, 3) := by decide +kernel
theorem dL_law_937 : decode cL_law 937 = .ok (.istore 5, 2) := by decide +kernel
theorem dL_law_939 : decode cL_law 939 = .ok (.aload_n 2, 1) := by decide +kernel
theorem dL_law_940 : decode cL_law 940 = .ok (.aload_n 0, 1) := by decide +kernel
theorem dL_law_941 : decode cL_law 941 = .ok (.iload 4, 2) := by decide +kernel
theorem dL_law_943 : decode cL_law 943 = .ok (.iconst 1, 1) := by decide +kernel
theorem dL_law_944 : decode cL_law 944 = .ok (.iadd, 1) := by decide +kernel
theorem dL_law_945 : decode cL_law 945 = .ok (.iaload, 1) := by decide +kernel
theorem dL_law_946 : decode cL_law 946 = .ok (.aload_n 0, 1) := by decide +kernel
theorem dL_law_947 : decode cL_law 947 = .ok (.iload 4, 2) := by decide +kernel
theorem dL_law_949 : decode cL_law 949 = .ok (.iconst 2, 1) := by decide +kernel
theorem dL_law_950 : decode cL_law 950 = .ok (.iadd, 1) := by decide +kernel
theorem dL_law_951 : decode cL_law 951 = .ok (.iaload, 1) := by decide +kernel
theorem dL_law_952 : decode cL_law 952 = .ok (.invokevirtual 167, 3) := by decide +kernel
theorem dL_law_955 : decode cL_law 955 = .ok (.istore 6, 2) := by decide +kernel
theorem dL_law_957 : decode cL_law 957 = .ok (.aload_n 2, 1) := by decide +kernel
theorem dL_law_958 : decode cL_law 958 = .ok (.invokevirtual 117, 3) := by decide +kernel
theorem dL_law_961 : decode cL_law 961 = .ok (.iload 5, 2) := by decide +kernel
theorem dL_law_963 : decode cL_law 963 = .ok (.if_icmp .eq 5, 3) := by decide +kernel
theorem dL_law_966 : decode cL_law 966 = .ok (.iconst 0, 1) := by decide +kernel
theorem dL_law_967 : decode cL_law 967 = .ok (.ireturn, 1) := by decide +kernel
theorem dL_law_968 : decode cL_law 968 = .ok (.iload 5, 2) := by decide +kernel
theorem dL_law_970 : decode cL_law 970 = .ok (.ifCond .ne 22, 3) := by decide +kernel
theorem dL_law_973 : decode cL_law 973 = .ok (.aload_n 3, 1) := by decide +kernel
theorem dL_law_974 : decode cL_law 974 = .ok (.iconst 0, 1) := by decide +kernel
theorem dL_law_975 : decode cL_law 975 = .ok (.laload, 1) := by decide +kernel
theorem dL_law_976 : decode cL_law 976 = .ok (.iload 6, 2) := by decide +kernel
theorem dL_law_978 : decode cL_law 978 = .ok (.ifCond .eq 7, 3) := by decide +kernel
theorem dL_law_981 : decode cL_law 981 = .ok (.lconst 1, 1) := by decide +kernel
theorem dL_law_982 : decode cL_law 982 = .ok (.goto 4, 3) := by decide +kernel
theorem dL_law_985 : decode cL_law 985 = .ok (.lconst 0, 1) := by decide +kernel
theorem dL_law_986 : decode cL_law 986 = .ok (.lcmp, 1) := by decide +kernel
theorem dL_law_987 : decode cL_law 987 = .ok (.ifCond .eq 5, 3) := by decide +kernel
theorem dL_law_990 : decode cL_law 990 = .ok (.iconst 0, 1) := by decide +kernel
theorem dL_law_991 : decode cL_law 991 = .ok (.ireturn, 1) := by decide +kernel
theorem dL_law_992 : decode cL_law 992 = .ok (.goto 1153, 3) := by decide +kernel
theorem dL_law_995 : decode cL_law 995 = .ok (.aload_n 1, 1) := by decide +kernel
theorem dL_law_996 : decode cL_law 996 = .ok (.aload_n 0, 1) := by decide +kernel
theorem dL_law_997 : decode cL_law 997 = .ok (.iload 4, 2) := by decide +kernel
theorem dL_law_999 : decode cL_law 999 = .ok (.iconst 1, 1) := by decide +kernel
theorem dL_law_1000 : decode cL_law 1000 = .ok (.iadd, 1) := by decide +kernel
theorem dL_law_1001 : decode cL_law 1001 = .ok (.iaload, 1) := by decide +kernel
theorem dL_law_1002 : decode cL_law 1002 = .ok (.aload_n 0, 1) := by decide +kernel
theorem dL_law_1003 : decode cL_law 1003 = .ok (.iload 4, 2) := by decide +kernel
theorem dL_law_1005 : decode cL_law 1005 = .ok (.iconst 2, 1) := by decide +kernel
theorem dL_law_1006 : decode cL_law 1006 = .ok (.iadd, 1) := by decide +kernel
theorem dL_law_1007 : decode cL_law 1007 = .ok (.iaload, 1) := by decide +kernel
theorem dL_law_1008 : decode cL_law 1008 = .ok (.aload_n 0, 1) := by decide +kernel
theorem dL_law_1009 : decode cL_law 1009 = .ok (.iload 4, 2) := by decide +kernel
theorem dL_law_1011 : decode cL_law 1011 = .ok (.iconst 3, 1) := by decide +kernel
theorem dL_law_1012 : decode cL_law 1012 = .ok (.iadd, 1) := by decide +kernel
theorem dL_law_1013 : decode cL_law 1013 = .ok (.iaload, 1) := by decide +kernel
theorem dL_law_1014 : decode cL_law 1014 = .ok (.aload_n 0, 1) := by decide +kernel
theorem dL_law_1015 : decode cL_law 1015 = .ok (.iload 4, 2) := by decide +kernel
theorem dL_law_1017 : decode cL_law 1017 = .ok (.iconst 4, 1) := by decide +kernel
theorem dL_law_1018 : decode cL_law 1018 = .ok (.iadd, 1) := by decide +kernel
theorem dL_law_1019 : decode cL_law 1019 = .ok (.iaload, 1) := by decide +kernel
theorem dL_law_1020 : decode cL_law 1020 = .ok (.invokestatic 168, 3) := by decide +kernel
theorem dL_law_1023 : decode cL_law 1023 = .ok (.istore 5, 2) := by decide +kernel
theorem dL_law_1025 : decode cL_law 1025 = .ok (.aload_n 2, 1) := by decide +kernel
theorem dL_law_1026 : decode cL_law 1026 = .ok (.aload_n 0, 1) := by decide +kernel
theorem dL_law_1027 : decode cL_law 1027 = .ok (.iload 4, 2) := by decide +kernel
theorem dL_law_1029 : decode cL_law 1029 = .ok (.iconst 1, 1) := by decide +kernel
theorem dL_law_1030 : decode cL_law 1030 = .ok (.iadd, 1) := by decide +kernel
theorem dL_law_1031 : decode cL_law 1031 = .ok (.iaload, 1) := by decide +kernel
theorem dL_law_1032 : decode cL_law 1032 = .ok (.aload_n 0, 1) := by decide +kernel
theorem dL_law_1033 : decode cL_law 1033 = .ok (.iload 4, 2) := by decide +kernel
theorem dL_law_1035 : decode cL_law 1035 = .ok (.iconst 2, 1) := by decide +kernel
theorem dL_law_1036 : decode cL_law 1036 = .ok (.iadd, 1) := by decide +kernel
theorem dL_law_1037 : decode cL_law 1037 = .ok (.iaload, 1) := by decide +kernel
theorem dL_law_1038 : decode cL_law 1038 = .ok (.aload_n 0, 1) := by decide +kernel
theorem dL_law_1039 : decode cL_law 1039 = .ok (.iload 4, 2) := by decide +kernel
theorem dL_law_1041 : decode cL_law 1041 = .ok (.iconst 3, 1) := by decide +kernel
theorem dL_law_1042 : decode cL_law 1042 = .ok (.iadd, 1) := by decide +kernel
theorem dL_law_1043 : decode cL_law 1043 = .ok (.iaload, 1) := by decide +kernel
theorem dL_law_1044 : decode cL_law 1044 = .ok (.aload_n 0, 1) := by decide +kernel
theorem dL_law_1045 : decode cL_law 1045 = .ok (.iload 4, 2) := by decide +kernel
theorem dL_law_1047 : decode cL_law 1047 = .ok (.iconst 4, 1) := by decide +kernel
theorem dL_law_1048 : decode cL_law 1048 = .ok (.iadd, 1) := by decide +kernel
theorem dL_law_1049 : decode cL_law 1049 = .ok (.iaload, 1) := by decide +kernel
theorem dL_law_1050 : decode cL_law 1050 = .ok (.invokevirtual 171, 3) := by decide +kernel
theorem dL_law_1053 : decode cL_law 1053 = .ok (.aload_n 2, 1) := by decide +kernel
theorem dL_law_1054 : decode cL_law 1054 = .ok (.invokevirtual 117, 3) := by decide +kernel
theorem dL_law_1057 : decode cL_law 1057 = .ok (.iload 5, 2) := by decide +kernel
theorem dL_law_1059 : decode cL_law 1059 = .ok (.if_icmp .eq 5, 3) := by decide +kernel
theorem dL_law_1062 : decode cL_law 1062 = .ok (.iconst 0, 1) := by decide +kernel
theorem dL_law_1063 : decode cL_law 1063 = .ok (.ireturn, 1) := by decide +kernel
theorem dL_law_1064 : decode cL_law 1064 = .ok (.goto 1081, 3) := by decide +kernel
theorem dL_law_1067 : decode cL_law 1067 = .ok (.aload_n 1, 1) := by decide +kernel
theorem dL_law_1068 : decode cL_law 1068 = .ok (.aload_n 0, 1) := by decide +kernel
theorem dL_law_1069 : decode cL_law 1069 = .ok (.iload 4, 2) := by decide +kernel
theorem dL_law_1071 : decode cL_law 1071 = .ok (.iconst 1, 1) := by decide +kernel
theorem dL_law_1072 : decode cL_law 1072 = .ok (.iadd, 1) := by decide +kernel
theorem dL_law_1073 : decode cL_law 1073 = .ok (.iaload, 1) := by decide +kernel
theorem dL_law_1074 : decode cL_law 1074 = .ok (.aload_n 0, 1) := by decide +kernel
theorem dL_law_1075 : decode cL_law 1075 = .ok (.iload 4, 2) := by decide +kernel
theorem dL_law_1077 : decode cL_law 1077 = .ok (.iconst 2, 1) := by decide +kernel
theorem dL_law_1078 : decode cL_law 1078 = .ok (.iadd, 1) := by decide +kernel
theorem dL_law_1079 : decode cL_law 1079 = .ok (.iaload, 1) := by decide +kernel
theorem dL_law_1080 : decode cL_law 1080 = .ok (.aload_n 3, 1) := by decide +kernel
theorem dL_law_1081 : decode cL_law 1081 = .ok (.invokestatic 172, 3) := by decide +kernel
theorem dL_law_1084 : decode cL_law 1084 = .ok (.istore 5, 2) := by decide +kernel
theorem dL_law_1086 : decode cL_law 1086 = .ok (.aload_n 2, 1) := by decide +kernel
theorem dL_law_1087 : decode cL_law 1087 = .ok (.aload_n 0, 1) := by decide +kernel
theorem dL_law_1088 : decode cL_law 1088 = .ok (.iload 4, 2) := by decide +kernel
theorem dL_law_1090 : decode cL_law 1090 = .ok (.iconst 1, 1) := by decide +kernel
theorem dL_law_1091 : decode cL_law 1091 = .ok (.iadd, 1) := by decide +kernel
theorem dL_law_1092 : decode cL_law 1092 = .ok (.iaload, 1) := by decide +kernel
theorem dL_law_1093 : decode cL_law 1093 = .ok (.aload_n 0, 1) := by decide +kernel
theorem dL_law_1094 : decode cL_law 1094 = .ok (.iload 4, 2) := by decide +kernel
theorem dL_law_1096 : decode cL_law 1096 = .ok (.iconst 2, 1) := by decide +kernel
theorem dL_law_1097 : decode cL_law 1097 = .ok (.iadd, 1) := by decide +kernel
theorem dL_law_1098 : decode cL_law 1098 = .ok (.iaload, 1) := by decide +kernel
theorem dL_law_1099 : decode cL_law 1099 = .ok (.invokevirtual 174, 3) := by decide +kernel
theorem dL_law_1102 : decode cL_law 1102 = .ok (.istore 6, 2) := by decide +kernel
theorem dL_law_1104 : decode cL_law 1104 = .ok (.aload_n 2, 1) := by decide +kernel
theorem dL_law_1105 : decode cL_law 1105 = .ok (.invokevirtual 117, 3) := by decide +kernel
theorem dL_law_1108 : decode cL_law 1108 = .ok (.iload 5, 2) := by decide +kernel
theorem dL_law_1110 : decode cL_law 1110 = .ok (.if_icmp .eq 5, 3) := by decide +kernel
theorem dL_law_1113 : decode cL_law 1113 = .ok (.iconst 0, 1) := by decide +kernel
theorem dL_law_1114 : decode cL_law 1114 = .ok (.ireturn, 1) := by decide +kernel
theorem dL_law_1115 : decode cL_law 1115 = .ok (.iload 5, 2) := by decide +kernel
theorem dL_law_1117 : decode cL_law 1117 = .ok (.ifCond .ne 15, 3) := by decide +kernel
theorem dL_law_1120 : decode cL_law 1120 = .ok (.aload_n 3, 1) := by decide +kernel
theorem dL_law_1121 : decode cL_law 1121 = .ok (.iconst 0, 1) := by decide +kernel
theorem dL_law_1122 : decode cL_law 1122 = .ok (.laload, 1) := by decide +kernel
theorem dL_law_1123 : decode cL_law 1123 = .ok (.iload 6, 2) := by decide +kernel
theorem dL_law_1125 : decode cL_law 1125 = .ok (.i2l, 1) := by decide +kernel
theorem dL_law_1126 : decode cL_law 1126 = .ok (.lcmp, 1) := by decide +kernel
theorem dL_law_1127 : decode cL_law 1127 = .ok (.ifCond .eq 5, 3) := by decide +kernel
theorem dL_law_1130 : decode cL_law 1130 = .ok (.iconst 0, 1) := by decide +kernel
theorem dL_law_1131 : decode cL_law 1131 = .ok (.ireturn, 1) := by decide +kernel
theorem dL_law_1132 : decode cL_law 1132 = .ok (.goto 1013, 3) := by decide +kernel
theorem dL_law_1135 : decode cL_law 1135 = .ok (.aload_n 1, 1) := by decide +kernel
theorem dL_law_1136 : decode cL_law 1136 = .ok (.aload_n 0, 1) := by decide +kernel
theorem dL_law_1137 : decode cL_law 1137 = .ok (.iload 4, 2) := by decide +kernel
theorem dL_law_1139 : decode cL_law 1139 = .ok (.iconst 1, 1) := by decide +kernel
theorem dL_law_1140 : decode cL_law 1140 = .ok (.iadd, 1) := by decide +kernel
theorem dL_law_1141 : decode cL_law 1141 = .ok (.iaload, 1) := by decide +kernel
theorem dL_law_1142 : decode cL_law 1142 = .ok (.aload_n 0, 1) := by decide +kernel
theorem dL_law_1143 : decode cL_law 1143 = .ok (.iload 4, 2) := by decide +kernel
theorem dL_law_1145 : decode cL_law 1145 = .ok (.iconst 2, 1) := by decide +kernel
theorem dL_law_1146 : decode cL_law 1146 = .ok (.iadd, 1) := by decide +kernel
theorem dL_law_1147 : decode cL_law 1147 = .ok (.iaload, 1) := by decide +kernel
theorem dL_law_1148 : decode cL_law 1148 = .ok (.aload_n 3, 1) := by decide +kernel
theorem dL_law_1149 : decode cL_law 1149 = .ok (.invokestatic 175, 3) := by decide +kernel
theorem dL_law_1152 : decode cL_law 1152 = .ok (.istore 5, 2) := by decide +kernel
theorem dL_law_1154 : decode cL_law 1154 = .ok (.aload_n 2, 1) := by decide +kernel
theorem dL_law_1155 : decode cL_law 1155 = .ok (.aload_n 0, 1) := by decide +kernel
theorem dL_law_1156 : decode cL_law 1156 = .ok (.iload 4, 2) := by decide +kernel
theorem dL_law_1158 : decode cL_law 1158 = .ok (.iconst 1, 1) := by decide +kernel
theorem dL_law_1159 : decode cL_law 1159 = .ok (.iadd, 1) := by decide +kernel
theorem dL_law_1160 : decode cL_law 1160 = .ok (.iaload, 1) := by decide +kernel
theorem dL_law_1161 : decode cL_law 1161 = .ok (.aload_n 0, 1) := by decide +kernel
theorem dL_law_1162 : decode cL_law 1162 = .ok (.iload 4, 2) := by decide +kernel
theorem dL_law_1164 : decode cL_law 1164 = .ok (.iconst 2, 1) := by decide +kernel
theorem dL_law_1165 : decode cL_law 1165 = .ok (.iadd, 1) := by decide +kernel
theorem dL_law_1166 : decode cL_law 1166 = .ok (.iaload, 1) := by decide +kernel
theorem dL_law_1167 : decode cL_law 1167 = .ok (.invokevirtual 177, 3) := by decide +kernel
theorem dL_law_1170 : decode cL_law 1170 = .ok (.istore 6, 2) := by decide +kernel
theorem dL_law_1172 : decode cL_law 1172 = .ok (.aload_n 2, 1) := by decide +kernel
theorem dL_law_1173 : decode cL_law 1173 = .ok (.invokevirtual 117, 3) := by decide +kernel
theorem dL_law_1176 : decode cL_law 1176 = .ok (.iload 5, 2) := by decide +kernel
theorem dL_law_1178 : decode cL_law 1178 = .ok (.if_icmp .eq 5, 3) := by decide +kernel
theorem dL_law_1181 : decode cL_law 1181 = .ok (.iconst 0, 1) := by decide +kernel
theorem dL_law_1182 : decode cL_law 1182 = .ok (.ireturn, 1) := by decide +kernel
theorem dL_law_1183 : decode cL_law 1183 = .ok (.iload 5, 2) := by decide +kernel
theorem dL_law_1185 : decode cL_law 1185 = .ok (.ifCond .ne 15, 3) := by decide +kernel
theorem dL_law_1188 : decode cL_law 1188 = .ok (.aload_n 3, 1) := by decide +kernel
theorem dL_law_1189 : decode cL_law 1189 = .ok (.iconst 0, 1) := by decide +kernel
theorem dL_law_1190 : decode cL_law 1190 = .ok (.laload, 1) := by decide +kernel
theorem dL_law_1191 : decode cL_law 1191 = .ok (.iload 6, 2) := by decide +kernel
theorem dL_law_1193 : decode cL_law 1193 = .ok (.i2l, 1) := by decide +kernel
theorem dL_law_1194 : decode cL_law 1194 = .ok (.lcmp, 1) := by decide +kernel
theorem dL_law_1195 : decode cL_law 1195 = .ok (.ifCond .eq 5, 3) := by decide +kernel
theorem dL_law_1198 : decode cL_law 1198 = .ok (.iconst 0, 1) := by decide +kernel
theorem dL_law_1199 : decode cL_law 1199 = .ok (.ireturn, 1) := by decide +kernel
theorem dL_law_1200 : decode cL_law 1200 = .ok (.goto 945, 3) := by decide +kernel
theorem dL_law_1203 : decode cL_law 1203 = .ok (.aload_n 1, 1) := by decide +kernel
theorem dL_law_1204 : decode cL_law 1204 = .ok (.aload_n 0, 1) := by decide +kernel
theorem dL_law_1205 : decode cL_law 1205 = .ok (.iload 4, 2) := by decide +kernel
theorem dL_law_1207 : decode cL_law 1207 = .ok (.iconst 1, 1) := by decide +kernel
theorem dL_law_1208 : decode cL_law 1208 = .ok (.iadd, 1) := by decide +kernel
theorem dL_law_1209 : decode cL_law 1209 = .ok (.iaload, 1) := by decide +kernel
theorem dL_law_1210 : decode cL_law 1210 = .ok (.aload_n 0, 1) := by decide +kernel
theorem dL_law_1211 : decode cL_law 1211 = .ok (.iload 4, 2) := by decide +kernel
theorem dL_law_1213 : decode cL_law 1213 = .ok (.iconst 2, 1) := by decide +kernel
theorem dL_law_1214 : decode cL_law 1214 = .ok (.iadd, 1) := by decide +kernel
theorem dL_law_1215 : decode cL_law 1215 = .ok (.iaload, 1) := by decide +kernel
theorem dL_law_1216 : decode cL_law 1216 = .ok (.aload_n 0, 1) := by decide +kernel
theorem dL_law_1217 : decode cL_law 1217 = .ok (.iload 4, 2) := by decide +kernel
theorem dL_law_1219 : decode cL_law 1219 = .ok (.iconst 3, 1) := by decide +kernel
theorem dL_law_1220 : decode cL_law 1220 = .ok (.iadd, 1) := by decide +kernel
theorem dL_law_1221 : decode cL_law 1221 = .ok (.iaload, 1) := by decide +kernel
theorem dL_law_1222 : decode cL_law 1222 = .ok (.aload_n 0, 1) := by decide +kernel
theorem dL_law_1223 : decode cL_law 1223 = .ok (.iload 4, 2) := by decide +kernel
theorem dL_law_1225 : decode cL_law 1225 = .ok (.iconst 4, 1) := by decide +kernel
theorem dL_law_1226 : decode cL_law 1226 = .ok (.iadd, 1) := by decide +kernel
theorem dL_law_1227 : decode cL_law 1227 = .ok (.iaload, 1) := by decide +kernel
theorem dL_law_1228 : decode cL_law 1228 = .ok (.aload_n 3, 1) := by decide +kernel
theorem dL_law_1229 : decode cL_law 1229 = .ok (.invokestatic 178, 3) := by decide +kernel
theorem dL_law_1232 : decode cL_law 1232 = .ok (.istore 5, 2) := by decide +kernel
theorem dL_law_1234 : decode cL_law 1234 = .ok (.aload_n 2, 1) := by decide +kernel
theorem dL_law_1235 : decode cL_law 1235 = .ok (.aload_n 0, 1) := by decide +kernel
theorem dL_law_1236 : decode cL_law 1236 = .ok (.iload 4, 2) := by decide +kernel
theorem dL_law_1238 : decode cL_law 1238 = .ok (.iconst 1, 1) := by decide +kernel
theorem dL_law_1239 : decode cL_law 1239 = .ok (.iadd, 1) := by decide +kernel
theorem dL_law_1240 : decode cL_law 1240 = .ok (.iaload, 1) := by decide +kernel
theorem dL_law_1241 : decode cL_law 1241 = .ok (.aload_n 0, 1) := by decide +kernel
theorem dL_law_1242 : decode cL_law 1242 = .ok (.iload 4, 2) := by decide +kernel
theorem dL_law_1244 : decode cL_law 1244 = .ok (.iconst 2, 1) := by decide +kernel
theorem dL_law_1245 : decode cL_law 1245 = .ok (.iadd, 1) := by decide +kernel
theorem dL_law_1246 : decode cL_law 1246 = .ok (.iaload, 1) := by decide +kernel
theorem dL_law_1247 : decode cL_law 1247 = .ok (.aload_n 0, 1) := by decide +kernel
theorem dL_law_1248 : decode cL_law 1248 = .ok (.iload 4, 2) := by decide +kernel
theorem dL_law_1250 : decode cL_law 1250 = .ok (.iconst 3, 1) := by decide +kernel
theorem dL_law_1251 : decode cL_law 1251 = .ok (.iadd, 1) := by decide +kernel
theorem dL_law_1252 : decode cL_law 1252 = .ok (.iaload, 1) := by decide +kernel
theorem dL_law_1253 : decode cL_law 1253 = .ok (.aload_n 0, 1) := by decide +kernel
theorem dL_law_1254 : decode cL_law 1254 = .ok (.iload 4, 2) := by decide +kernel
theorem dL_law_1256 : decode cL_law 1256 = .ok (.iconst 4, 1) := by decide +kernel
theorem dL_law_1257 : decode cL_law 1257 = .ok (.iadd, 1) := by decide +kernel
theorem dL_law_1258 : decode cL_law 1258 = .ok (.iaload, 1) := by decide +kernel
theorem dL_law_1259 : decode cL_law 1259 = .ok (.invokevirtual 180, 3) := by decide +kernel
theorem dL_law_1262 : decode cL_law 1262 = .ok (.istore 6, 2) := by decide +kernel
theorem dL_law_1264 : decode cL_law 1264 = .ok (.aload_n 2, 1) := by decide +kernel
theorem dL_law_1265 : decode cL_law 1265 = .ok (.invokevirtual 117, 3) := by decide +kernel
theorem dL_law_1268 : decode cL_law 1268 = .ok (.iload 5, 2) := by decide +kernel
theorem dL_law_1270 : decode cL_law 1270 = .ok (.if_icmp .eq 5, 3) := by decide +kernel
theorem dL_law_1273 : decode cL_law 1273 = .ok (.iconst 0, 1) := by decide +kernel
theorem dL_law_1274 : decode cL_law 1274 = .ok (.ireturn, 1) := by decide +kernel
theorem dL_law_1275 : decode cL_law 1275 = .ok (.iload 5, 2) := by decide +kernel
theorem dL_law_1277 : decode cL_law 1277 = .ok (.ifCond .ne 15, 3) := by decide +kernel
theorem dL_law_1280 : decode cL_law 1280 = .ok (.aload_n 3, 1) := by decide +kernel
theorem dL_law_1281 : decode cL_law 1281 = .ok (.iconst 0, 1) := by decide +kernel
theorem dL_law_1282 : decode cL_law 1282 = .ok (.laload, 1) := by decide +kernel
theorem dL_law_1283 : decode cL_law 1283 = .ok (.iload 6, 2) := by decide +kernel
theorem dL_law_1285 : decode cL_law 1285 = .ok (.i2l, 1) := by decide +kernel
theorem dL_law_1286 : decode cL_law 1286 = .ok (.lcmp, 1) := by decide +kernel
theorem dL_law_1287 : decode cL_law 1287 = .ok (.ifCond .eq 5, 3) := by decide +kernel
theorem dL_law_1290 : decode cL_law 1290 = .ok (.iconst 0, 1) := by decide +kernel
theorem dL_law_1291 : decode cL_law 1291 = .ok (.ireturn, 1) := by decide +kernel
theorem dL_law_1292 : decode cL_law 1292 = .ok (.goto 853, 3) := by decide +kernel
theorem dL_law_1295 : decode cL_law 1295 = .ok (.aload_n 1, 1) := by decide +kernel
theorem dL_law_1296 : decode cL_law 1296 = .ok (.aload_n 0, 1) := by decide +kernel
theorem dL_law_1297 : decode cL_law 1297 = .ok (.iload 4, 2) := by decide +kernel
theorem dL_law_1299 : decode cL_law 1299 = .ok (.iconst 1, 1) := by decide +kernel
theorem dL_law_1300 : decode cL_law 1300 = .ok (.iadd, 1) := by decide +kernel
theorem dL_law_1301 : decode cL_law 1301 = .ok (.iaload, 1) := by decide +kernel
theorem dL_law_1302 : decode cL_law 1302 = .ok (.aload_n 0, 1) := by decide +kernel
theorem dL_law_1303 : decode cL_law 1303 = .ok (.iload 4, 2) := by decide +kernel
theorem dL_law_1305 : decode cL_law 1305 = .ok (.iconst 2, 1) := by decide +kernel
theorem dL_law_1306 : decode cL_law 1306 = .ok (.iadd, 1) := by decide +kernel
theorem dL_law_1307 : decode cL_law 1307 = .ok (.iaload, 1) := by decide +kernel
theorem dL_law_1308 : decode cL_law 1308 = .ok (.aload_n 0, 1) := by decide +kernel
theorem dL_law_1309 : decode cL_law 1309 = .ok (.iload 4, 2) := by decide +kernel
theorem dL_law_1311 : decode cL_law 1311 = .ok (.iconst 3, 1) := by decide +kernel
theorem dL_law_1312 : decode cL_law 1312 = .ok (.iadd, 1) := by decide +kernel
theorem dL_law_1313 : decode cL_law 1313 = .ok (.iaload, 1) := by decide +kernel
theorem dL_law_1314 : decode cL_law 1314 = .ok (.aload_n 0, 1) := by decide +kernel
theorem dL_law_1315 : decode cL_law 1315 = .ok (.iload 4, 2) := by decide +kernel
theorem dL_law_1317 : decode cL_law 1317 = .ok (.iconst 4, 1) := by decide +kernel
theorem dL_law_1318 : decode cL_law 1318 = .ok (.iadd, 1) := by decide +kernel
theorem dL_law_1319 : decode cL_law 1319 = .ok (.iaload, 1) := by decide +kernel
theorem dL_law_1320 : decode cL_law 1320 = .ok (.aload_n 0, 1) := by decide +kernel
theorem dL_law_1321 : decode cL_law 1321 = .ok (.iload 4, 2) := by decide +kernel
theorem dL_law_1323 : decode cL_law 1323 = .ok (.iconst 5, 1) := by decide +kernel
theorem dL_law_1324 : decode cL_law 1324 = .ok (.iadd, 1) := by decide +kernel
theorem dL_law_1325 : decode cL_law 1325 = .ok (.iaload, 1) := by decide +kernel
theorem dL_law_1326 : decode cL_law 1326 = .ok (.aload_n 3, 1) := by decide +kernel
theorem dL_law_1327 : decode cL_law 1327 = .ok (.invokestatic 181, 3) := by decide +kernel
theorem dL_law_1330 : decode cL_law 1330 = .ok (.istore 5, 2) := by decide +kernel
theorem dL_law_1332 : decode cL_law 1332 = .ok (.aload_n 2, 1) := by decide +kernel
theorem dL_law_1333 : decode cL_law 1333 = .ok (.aload_n 0, 1) := by decide +kernel
theorem dL_law_1334 : decode cL_law 1334 = .ok (.iload 4, 2) := by decide +kernel
theorem dL_law_1336 : decode cL_law 1336 = .ok (.iconst 1, 1) := by decide +kernel
theorem dL_law_1337 : decode cL_law 1337 = .ok (.iadd, 1) := by decide +kernel
theorem dL_law_1338 : decode cL_law 1338 = .ok (.iaload, 1) := by decide +kernel
theorem dL_law_1339 : decode cL_law 1339 = .ok (.aload_n 0, 1) := by decide +kernel
theorem dL_law_1340 : decode cL_law 1340 = .ok (.iload 4, 2) := by decide +kernel
theorem dL_law_1342 : decode cL_law 1342 = .ok (.iconst 2, 1) := by decide +kernel
theorem dL_law_1343 : decode cL_law 1343 = .ok (.iadd, 1) := by decide +kernel
theorem dL_law_1344 : decode cL_law 1344 = .ok (.iaload, 1) := by decide +kernel
theorem dL_law_1345 : decode cL_law 1345 = .ok (.aload_n 0, 1) := by decide +kernel
theorem dL_law_1346 : decode cL_law 1346 = .ok (.iload 4, 2) := by decide +kernel
theorem dL_law_1348 : decode cL_law 1348 = .ok (.iconst 3, 1) := by decide +kernel
theorem dL_law_1349 : decode cL_law 1349 = .ok (.iadd, 1) := by decide +kernel
theorem dL_law_1350 : decode cL_law 1350 = .ok (.iaload, 1) := by decide +kernel
theorem dL_law_1351 : decode cL_law 1351 = .ok (.aload_n 0, 1) := by decide +kernel
theorem dL_law_1352 : decode cL_law 1352 = .ok (.iload 4, 2) := by decide +kernel
theorem dL_law_1354 : decode cL_law 1354 = .ok (.iconst 4, 1) := by decide +kernel
theorem dL_law_1355 : decode cL_law 1355 = .ok (.iadd, 1) := by decide +kernel
theorem dL_law_1356 : decode cL_law 1356 = .ok (.iaload, 1) := by decide +kernel
theorem dL_law_1357 : decode cL_law 1357 = .ok (.aload_n 0, 1) := by decide +kernel
theorem dL_law_1358 : decode cL_law 1358 = .ok (.iload 4, 2) := by decide +kernel
theorem dL_law_1360 : decode cL_law 1360 = .ok (.iconst 5, 1) := by decide +kernel
theorem dL_law_1361 : decode cL_law 1361 = .ok (.iadd, 1) := by decide +kernel
theorem dL_law_1362 : decode cL_law 1362 = .ok (.iaload, 1) := by decide +kernel
theorem dL_law_1363 : decode cL_law 1363 = .ok (.invokevirtual 183, 3) := by decide +kernel
theorem dL_law_1366 : decode cL_law 1366 = .ok (.istore 6, 2) := by decide +kernel
theorem dL_law_1368 : decode cL_law 1368 = .ok (.aload_n 2, 1) := by decide +kernel
theorem dL_law_1369 : decode cL_law 1369 = .ok (.invokevirtual 117, 3) := by decide +kernel
theorem dL_law_1372 : decode cL_law 1372 = .ok (.iload 5, 2) := by decide +kernel
theorem dL_law_1374 : decode cL_law 1374 = .ok (.if_icmp .eq 5, 3) := by decide +kernel
theorem dL_law_1377 : decode cL_law 1377 = .ok (.iconst 0, 1) := by decide +kernel
theorem dL_law_1378 : decode cL_law 1378 = .ok (.ireturn, 1) := by decide +kernel
theorem dL_law_1379 : decode cL_law 1379 = .ok (.iload 5, 2) := by decide +kernel
theorem dL_law_1381 : decode cL_law 1381 = .ok (.ifCond .ne 15, 3) := by decide +kernel
theorem dL_law_1384 : decode cL_law 1384 = .ok (.aload_n 3, 1) := by decide +kernel
theorem dL_law_1385 : decode cL_law 1385 = .ok (.iconst 0, 1) := by decide +kernel
theorem dL_law_1386 : decode cL_law 1386 = .ok (.laload, 1) := by decide +kernel
theorem dL_law_1387 : decode cL_law 1387 = .ok (.iload 6, 2) := by decide +kernel
theorem dL_law_1389 : decode cL_law 1389 = .ok (.i2l, 1) := by decide +kernel
theorem dL_law_1390 : decode cL_law 1390 = .ok (.lcmp, 1) := by decide +kernel
theorem dL_law_1391 : decode cL_law 1391 = .ok (.ifCond .eq 5, 3) := by decide +kernel
theorem dL_law_1394 : decode cL_law 1394 = .ok (.iconst 0, 1) := by decide +kernel
theorem dL_law_1395 : decode cL_law 1395 = .ok (.ireturn, 1) := by decide +kernel
theorem dL_law_1396 : decode cL_law 1396 = .ok (.goto 749, 3) := by decide +kernel
theorem dL_law_1399 : decode cL_law 1399 = .ok (.aload_n 1, 1) := by decide +kernel
theorem dL_law_1400 : decode cL_law 1400 = .ok (.aload_n 0, 1) := by decide +kernel
theorem dL_law_1401 : decode cL_law 1401 = .ok (.iload 4, 2) := by decide +kernel
theorem dL_law_1403 : decode cL_law 1403 = .ok (.iconst 1, 1) := by decide +kernel
theorem dL_law_1404 : decode cL_law 1404 = .ok (.iadd, 1) := by decide +kernel
theorem dL_law_1405 : decode cL_law 1405 = .ok (.iaload, 1) := by decide +kernel
theorem dL_law_1406 : decode cL_law 1406 = .ok (.aload_n 3, 1) := by decide +kernel
theorem dL_law_1407 : decode cL_law 1407 = .ok (.invokestatic 184, 3) := by decide +kernel
theorem dL_law_1410 : decode cL_law 1410 = .ok (.istore 5, 2) := by decide +kernel
theorem dL_law_1412 : decode cL_law 1412 = .ok (.aload_n 2, 1) := by decide +kernel
theorem dL_law_1413 : decode cL_law 1413 = .ok (.aload_n 0, 1) := by decide +kernel
theorem dL_law_1414 : decode cL_law 1414 = .ok (.iload 4, 2) := by decide +kernel
theorem dL_law_1416 : decode cL_law 1416 = .ok (.iconst 1, 1) := by decide +kernel
theorem dL_law_1417 : decode cL_law 1417 = .ok (.iadd, 1) := by decide +kernel
theorem dL_law_1418 : decode cL_law 1418 = .ok (.iaload, 1) := by decide +kernel
theorem dL_law_1419 : decode cL_law 1419 = .ok (.invokevirtual 186, 3) := by decide +kernel
theorem dL_law_1422 : decode cL_law 1422 = .ok (.istore 6, 2) := by decide +kernel
theorem dL_law_1424 : decode cL_law 1424 = .ok (.aload_n 2, 1) := by decide +kernel
theorem dL_law_1425 : decode cL_law 1425 = .ok (.invokevirtual 117, 3) := by decide +kernel
theorem dL_law_1428 : decode cL_law 1428 = .ok (.iload 5, 2) := by decide +kernel
theorem dL_law_1430 : decode cL_law 1430 = .ok (.if_icmp .eq 5, 3) := by decide +kernel
theorem dL_law_1433 : decode cL_law 1433 = .ok (.iconst 0, 1) := by decide +kernel
theorem dL_law_1434 : decode cL_law 1434 = .ok (.ireturn, 1) := by decide +kernel
theorem dL_law_1435 : decode cL_law 1435 = .ok (.iload 5, 2) := by decide +kernel
theorem dL_law_1437 : decode cL_law 1437 = .ok (.ifCond .ne 15, 3) := by decide +kernel
theorem dL_law_1440 : decode cL_law 1440 = .ok (.aload_n 3, 1) := by decide +kernel
theorem dL_law_1441 : decode cL_law 1441 = .ok (.iconst 0, 1) := by decide +kernel
theorem dL_law_1442 : decode cL_law 1442 = .ok (.laload, 1) := by decide +kernel
theorem dL_law_1443 : decode cL_law 1443 = .ok (.iload 6, 2) := by decide +kernel
theorem dL_law_1445 : decode cL_law 1445 = .ok (.i2l, 1) := by decide +kernel
theorem dL_law_1446 : decode cL_law 1446 = .ok (.lcmp, 1) := by decide +kernel
theorem dL_law_1447 : decode cL_law 1447 = .ok (.ifCond .eq 5, 3) := by decide +kernel
theorem dL_law_1450 : decode cL_law 1450 = .ok (.iconst 0, 1) := by decide +kernel
theorem dL_law_1451 : decode cL_law 1451 = .ok (.ireturn, 1) := by decide +kernel
theorem dL_law_1452 : decode cL_law 1452 = .ok (.goto 693, 3) := by decide +kernel
theorem dL_law_1455 : decode cL_law 1455 = .ok (.aload_n 1, 1) := by decide +kernel
theorem dL_law_1456 : decode cL_law 1456 = .ok (.aload_n 0, 1) := by decide +kernel
theorem dL_law_1457 : decode cL_law 1457 = .ok (.iload 4, 2) := by decide +kernel
theorem dL_law_1459 : decode cL_law 1459 = .ok (.iconst 1, 1) := by decide +kernel
theorem dL_law_1460 : decode cL_law 1460 = .ok (.iadd, 1) := by decide +kernel
theorem dL_law_1461 : decode cL_law 1461 = .ok (.iaload, 1) := by decide +kernel
theorem dL_law_1462 : decode cL_law 1462 = .ok (.aload_n 3, 1) := by decide +kernel
theorem dL_law_1463 : decode cL_law 1463 = .ok (.invokestatic 187, 3) := by decide +kernel
theorem dL_law_1466 : decode cL_law 1466 = .ok (.istore 5, 2) := by decide +kernel
theorem dL_law_1468 : decode cL_law 1468 = .ok (.aload_n 2, 1) := by decide +kernel
theorem dL_law_1469 : decode cL_law 1469 = .ok (.aload_n 0, 1) := by decide +kernel
theorem dL_law_1470 : decode cL_law 1470 = .ok (.iload 4, 2) := by decide +kernel
theorem dL_law_1472 : decode cL_law 1472 = .ok (.iconst 1, 1) := by decide +kernel
theorem dL_law_1473 : decode cL_law 1473 = .ok (.iadd, 1) := by decide +kernel
theorem dL_law_1474 : decode cL_law 1474 = .ok (.iaload, 1) := by decide +kernel
theorem dL_law_1475 : decode cL_law 1475 = .ok (.invokevirtual 189, 3) := by decide +kernel
theorem dL_law_1478 : decode cL_law 1478 = .ok (.istore 6, 2) := by decide +kernel
theorem dL_law_1480 : decode cL_law 1480 = .ok (.aload_n 2, 1) := by decide +kernel
theorem dL_law_1481 : decode cL_law 1481 = .ok (.invokevirtual 117, 3) := by decide +kernel
theorem dL_law_1484 : decode cL_law 1484 = .ok (.iload 5, 2) := by decide +kernel
theorem dL_law_1486 : decode cL_law 1486 = .ok (.if_icmp .eq 5, 3) := by decide +kernel
theorem dL_law_1489 : decode cL_law 1489 = .ok (.iconst 0, 1) := by decide +kernel
theorem dL_law_1490 : decode cL_law 1490 = .ok (.ireturn, 1) := by decide +kernel
theorem dL_law_1491 : decode cL_law 1491 = .ok (.iload 5, 2) := by decide +kernel
theorem dL_law_1493 : decode cL_law 1493 = .ok (.ifCond .ne 15, 3) := by decide +kernel
theorem dL_law_1496 : decode cL_law 1496 = .ok (.aload_n 3, 1) := by decide +kernel
theorem dL_law_1497 : decode cL_law 1497 = .ok (.iconst 0, 1) := by decide +kernel
theorem dL_law_1498 : decode cL_law 1498 = .ok (.laload, 1) := by decide +kernel
theorem dL_law_1499 : decode cL_law 1499 = .ok (.iload 6, 2) := by decide +kernel
theorem dL_law_1501 : decode cL_law 1501 = .ok (.i2l, 1) := by decide +kernel
theorem dL_law_1502 : decode cL_law 1502 = .ok (.lcmp, 1) := by decide +kernel
theorem dL_law_1503 : decode cL_law 1503 = .ok (.ifCond .eq 5, 3) := by decide +kernel
theorem dL_law_1506 : decode cL_law 1506 = .ok (.iconst 0, 1) := by decide +kernel
theorem dL_law_1507 : decode cL_law 1507 = .ok (.ireturn, 1) := by decide +kernel
theorem dL_law_1508 : decode cL_law 1508 = .ok (.goto 637, 3) := by decide +kernel
theorem dL_law_1511 : decode cL_law 1511 = .ok (.aload_n 1, 1) := by decide +kernel
theorem dL_law_1512 : decode cL_law 1512 = .ok (.aload_n 0, 1) := by decide +kernel
theorem dL_law_1513 : decode cL_law 1513 = .ok (.iload 4, 2) := by decide +kernel
theorem dL_law_1515 : decode cL_law 1515 = .ok (.iconst 1, 1) := by decide +kernel
theorem dL_law_1516 : decode cL_law 1516 = .ok (.iadd, 1) := by decide +kernel
theorem dL_law_1517 : decode cL_law 1517 = .ok (.iaload, 1) := by decide +kernel
theorem dL_law_1518 : decode cL_law 1518 = .ok (.aload_n 0, 1) := by decide +kernel
theorem dL_law_1519 : decode cL_law 1519 = .ok (.iload 4, 2) := by decide +kernel
theorem dL_law_1521 : decode cL_law 1521 = .ok (.iconst 2, 1) := by decide +kernel
theorem dL_law_1522 : decode cL_law 1522 = .ok (.iadd, 1) := by decide +kernel
theorem dL_law_1523 : decode cL_law 1523 = .ok (.iaload, 1) := by decide +kernel
theorem dL_law_1524 : decode cL_law 1524 = .ok (.aload_n 0, 1) := by decide +kernel
theorem dL_law_1525 : decode cL_law 1525 = .ok (.iload 4, 2) := by decide +kernel
theorem dL_law_1527 : decode cL_law 1527 = .ok (.iconst 3, 1) := by decide +kernel
theorem dL_law_1528 : decode cL_law 1528 = .ok (.iadd, 1) := by decide +kernel
theorem dL_law_1529 : decode cL_law 1529 = .ok (.iaload, 1) := by decide +kernel
theorem dL_law_1530 : decode cL_law 1530 = .ok (.aload_n 3, 1) := by decide +kernel
theorem dL_law_1531 : decode cL_law 1531 = .ok (.invokestatic 190, 3) := by decide +kernel
theorem dL_law_1534 : decode cL_law 1534 = .ok (.istore 5, 2) := by decide +kernel
theorem dL_law_1536 : decode cL_law 1536 = .ok (.aload_n 2, 1) := by decide +kernel
theorem dL_law_1537 : decode cL_law 1537 = .ok (.aload_n 0, 1) := by decide +kernel
theorem dL_law_1538 : decode cL_law 1538 = .ok (.iload 4, 2) := by decide +kernel
theorem dL_law_1540 : decode cL_law 1540 = .ok (.iconst 1, 1) := by decide +kernel
theorem dL_law_1541 : decode cL_law 1541 = .ok (.iadd, 1) := by decide +kernel
theorem dL_law_1542 : decode cL_law 1542 = .ok (.iaload, 1) := by decide +kernel
theorem dL_law_1543 : decode cL_law 1543 = .ok (.aload_n 0, 1) := by decide +kernel
theorem dL_law_1544 : decode cL_law 1544 = .ok (.iload 4, 2) := by decide +kernel
theorem dL_law_1546 : decode cL_law 1546 = .ok (.iconst 2, 1) := by decide +kernel
theorem dL_law_1547 : decode cL_law 1547 = .ok (.iadd, 1) := by decide +kernel
theorem dL_law_1548 : decode cL_law 1548 = .ok (.iaload, 1) := by decide +kernel
theorem dL_law_1549 : decode cL_law 1549 = .ok (.aload_n 0, 1) := by decide +kernel
theorem dL_law_1550 : decode cL_law 1550 = .ok (.iload 4, 2) := by decide +kernel
theorem dL_law_1552 : decode cL_law 1552 = .ok (.iconst 3, 1) := by decide +kernel
theorem dL_law_1553 : decode cL_law 1553 = .ok (.iadd, 1) := by decide +kernel
theorem dL_law_1554 : decode cL_law 1554 = .ok (.iaload, 1) := by decide +kernel
theorem dL_law_1555 : decode cL_law 1555 = .ok (.invokevirtual 192, 3) := by decide +kernel
theorem dL_law_1558 : decode cL_law 1558 = .ok (.istore 6, 2) := by decide +kernel
theorem dL_law_1560 : decode cL_law 1560 = .ok (.aload_n 2, 1) := by decide +kernel
theorem dL_law_1561 : decode cL_law 1561 = .ok (.invokevirtual 117, 3) := by decide +kernel
theorem dL_law_1564 : decode cL_law 1564 = .ok (.iload 5, 2) := by decide +kernel
theorem dL_law_1566 : decode cL_law 1566 = .ok (.if_icmp .eq 5, 3) := by decide +kernel
theorem dL_law_1569 : decode cL_law 1569 = .ok (.iconst 0, 1) := by decide +kernel
theorem dL_law_1570 : decode cL_law 1570 = .ok (.ireturn, 1) := by decide +kernel
theorem dL_law_1571 : decode cL_law 1571 = .ok (.iload 5, 2) := by decide +kernel
theorem dL_law_1573 : decode cL_law 1573 = .ok (.ifCond .ne 15, 3) := by decide +kernel
theorem dL_law_1576 : decode cL_law 1576 = .ok (.aload_n 3, 1) := by decide +kernel
theorem dL_law_1577 : decode cL_law 1577 = .ok (.iconst 0, 1) := by decide +kernel
theorem dL_law_1578 : decode cL_law 1578 = .ok (.laload, 1) := by decide +kernel
theorem dL_law_1579 : decode cL_law 1579 = .ok (.iload 6, 2) := by decide +kernel
theorem dL_law_1581 : decode cL_law 1581 = .ok (.i2l, 1) := by decide +kernel
theorem dL_law_1582 : decode cL_law 1582 = .ok (.lcmp, 1) := by decide +kernel
theorem dL_law_1583 : decode cL_law 1583 = .ok (.ifCond .eq 5, 3) := by decide +kernel
theorem dL_law_1586 : decode cL_law 1586 = .ok (.iconst 0, 1) := by decide +kernel
theorem dL_law_1587 : decode cL_law 1587 = .ok (.ireturn, 1) := by decide +kernel
theorem dL_law_1588 : decode cL_law 1588 = .ok (.goto 557, 3) := by decide +kernel
theorem dL_law_1591 : decode cL_law 1591 = .ok (.aload_n 1, 1) := by decide +kernel
theorem dL_law_1592 : decode cL_law 1592 = .ok (.aload_n 0, 1) := by decide +kernel
theorem dL_law_1593 : decode cL_law 1593 = .ok (.iload 4, 2) := by decide +kernel
theorem dL_law_1595 : decode cL_law 1595 = .ok (.iconst 1, 1) := by decide +kernel
theorem dL_law_1596 : decode cL_law 1596 = .ok (.iadd, 1) := by decide +kernel
theorem dL_law_1597 : decode cL_law 1597 = .ok (.iaload, 1) := by decide +kernel
theorem dL_law_1598 : decode cL_law 1598 = .ok (.aload_n 0, 1) := by decide +kernel
theorem dL_law_1599 : decode cL_law 1599 = .ok (.iload 4, 2) := by decide +kernel
theorem dL_law_1601 : decode cL_law 1601 = .ok (.iconst 2, 1) := by decide +kernel
theorem dL_law_1602 : decode cL_law 1602 = .ok (.iadd, 1) := by decide +kernel
theorem dL_law_1603 : decode cL_law 1603 = .ok (.iaload, 1) := by decide +kernel
theorem dL_law_1604 : decode cL_law 1604 = .ok (.aload_n 0, 1) := by decide +kernel
theorem dL_law_1605 : decode cL_law 1605 = .ok (.iload 4, 2) := by decide +kernel
theorem dL_law_1607 : decode cL_law 1607 = .ok (.iconst 3, 1) := by decide +kernel
theorem dL_law_1608 : decode cL_law 1608 = .ok (.iadd, 1) := by decide +kernel
theorem dL_law_1609 : decode cL_law 1609 = .ok (.iaload, 1) := by decide +kernel
theorem dL_law_1610 : decode cL_law 1610 = .ok (.aload_n 3, 1) := by decide +kernel
theorem dL_law_1611 : decode cL_law 1611 = .ok (.invokestatic 193, 3) := by decide +kernel
theorem dL_law_1614 : decode cL_law 1614 = .ok (.istore 5, 2) := by decide +kernel
theorem dL_law_1616 : decode cL_law 1616 = .ok (.aload_n 2, 1) := by decide +kernel
theorem dL_law_1617 : decode cL_law 1617 = .ok (.aload_n 0, 1) := by decide +kernel
theorem dL_law_1618 : decode cL_law 1618 = .ok (.iload 4, 2) := by decide +kernel
theorem dL_law_1620 : decode cL_law 1620 = .ok (.iconst 1, 1) := by decide +kernel
theorem dL_law_1621 : decode cL_law 1621 = .ok (.iadd, 1) := by decide +kernel
theorem dL_law_1622 : decode cL_law 1622 = .ok (.iaload, 1) := by decide +kernel
theorem dL_law_1623 : decode cL_law 1623 = .ok (.aload_n 0, 1) := by decide +kernel
theorem dL_law_1624 : decode cL_law 1624 = .ok (.iload 4, 2) := by decide +kernel
theorem dL_law_1626 : decode cL_law 1626 = .ok (.iconst 2, 1) := by decide +kernel
theorem dL_law_1627 : decode cL_law 1627 = .ok (.iadd, 1) := by decide +kernel
theorem dL_law_1628 : decode cL_law 1628 = .ok (.iaload, 1) := by decide +kernel
theorem dL_law_1629 : decode cL_law 1629 = .ok (.aload_n 0, 1) := by decide +kernel
theorem dL_law_1630 : decode cL_law 1630 = .ok (.iload 4, 2) := by decide +kernel
theorem dL_law_1632 : decode cL_law 1632 = .ok (.iconst 3, 1) := by decide +kernel
theorem dL_law_1633 : decode cL_law 1633 = .ok (.iadd, 1) := by decide +kernel
theorem dL_law_1634 : decode cL_law 1634 = .ok (.iaload, 1) := by decide +kernel
theorem dL_law_1635 : decode cL_law 1635 = .ok (.invokevirtual 195, 3) := by decide +kernel
theorem dL_law_1638 : decode cL_law 1638 = .ok (.istore 6, 2) := by decide +kernel
theorem dL_law_1640 : decode cL_law 1640 = .ok (.aload_n 2, 1) := by decide +kernel
theorem dL_law_1641 : decode cL_law 1641 = .ok (.invokevirtual 117, 3) := by decide +kernel
theorem dL_law_1644 : decode cL_law 1644 = .ok (.iload 5, 2) := by decide +kernel
theorem dL_law_1646 : decode cL_law 1646 = .ok (.if_icmp .eq 5, 3) := by decide +kernel
theorem dL_law_1649 : decode cL_law 1649 = .ok (.iconst 0, 1) := by decide +kernel
theorem dL_law_1650 : decode cL_law 1650 = .ok (.ireturn, 1) := by decide +kernel
theorem dL_law_1651 : decode cL_law 1651 = .ok (.iload 5, 2) := by decide +kernel
theorem dL_law_1653 : decode cL_law 1653 = .ok (.ifCond .ne 15, 3) := by decide +kernel
theorem dL_law_1656 : decode cL_law 1656 = .ok (.aload_n 3, 1) := by decide +kernel
theorem dL_law_1657 : decode cL_law 1657 = .ok (.iconst 0, 1) := by decide +kernel
theorem dL_law_1658 : decode cL_law 1658 = .ok (.laload, 1) := by decide +kernel
theorem dL_law_1659 : decode cL_law 1659 = .ok (.iload 6, 2) := by decide +kernel
theorem dL_law_1661 : decode cL_law 1661 = .ok (.i2l, 1) := by decide +kernel
theorem dL_law_1662 : decode cL_law 1662 = .ok (.lcmp, 1) := by decide +kernel
theorem dL_law_1663 : decode cL_law 1663 = .ok (.ifCond .eq 5, 3) := by decide +kernel
theorem dL_law_1666 : decode cL_law 1666 = .ok (.iconst 0, 1) := by decide +kernel
theorem dL_law_1667 : decode cL_law 1667 = .ok (.ireturn, 1) := by decide +kernel
theorem dL_law_1668 : decode cL_law 1668 = .ok (.goto 477, 3) := by decide +kernel
theorem dL_law_1671 : decode cL_law 1671 = .ok (.aload_n 1, 1) := by decide +kernel
theorem dL_law_1672 : decode cL_law 1672 = .ok (.aload_n 0, 1) := by decide +kernel
theorem dL_law_1673 : decode cL_law 1673 = .ok (.iload 4, 2) := by decide +kernel
theorem dL_law_1675 : decode cL_law 1675 = .ok (.iconst 1, 1) := by decide +kernel
theorem dL_law_1676 : decode cL_law 1676 = .ok (.iadd, 1) := by decide +kernel
theorem dL_law_1677 : decode cL_law 1677 = .ok (.iaload, 1) := by decide +kernel
theorem dL_law_1678 : decode cL_law 1678 = .ok (.aload_n 3, 1) := by decide +kernel
theorem dL_law_1679 : decode cL_law 1679 = .ok (.invokestatic 196, 3) := by decide +kernel
theorem dL_law_1682 : decode cL_law 1682 = .ok (.istore 5, 2) := by decide +kernel
theorem dL_law_1684 : decode cL_law 1684 = .ok (.aload_n 2, 1) := by decide +kernel
theorem dL_law_1685 : decode cL_law 1685 = .ok (.aload_n 0, 1) := by decide +kernel
theorem dL_law_1686 : decode cL_law 1686 = .ok (.iload 4, 2) := by decide +kernel
theorem dL_law_1688 : decode cL_law 1688 = .ok (.iconst 1, 1) := by decide +kernel
theorem dL_law_1689 : decode cL_law 1689 = .ok (.iadd, 1) := by decide +kernel
theorem dL_law_1690 : decode cL_law 1690 = .ok (.iaload, 1) := by decide +kernel
theorem dL_law_1691 : decode cL_law 1691 = .ok (.invokevirtual 198, 3) := by decide +kernel
theorem dL_law_1694 : decode cL_law 1694 = .ok (.istore 6, 2) := by decide +kernel
theorem dL_law_1696 : decode cL_law 1696 = .ok (.aload_n 2, 1) := by decide +kernel
theorem dL_law_1697 : decode cL_law 1697 = .ok (.invokevirtual 117, 3) := by decide +kernel
theorem dL_law_1700 : decode cL_law 1700 = .ok (.iload 5, 2) := by decide +kernel
theorem dL_law_1702 : decode cL_law 1702 = .ok (.if_icmp .eq 5, 3) := by decide +kernel
theorem dL_law_1705 : decode cL_law 1705 = .ok (.iconst 0, 1) := by decide +kernel
theorem dL_law_1706 : decode cL_law 1706 = .ok (.ireturn, 1) := by decide +kernel
theorem dL_law_1707 : decode cL_law 1707 = .ok (.iload 5, 2) := by decide +kernel
theorem dL_law_1709 : decode cL_law 1709 = .ok (.ifCond .ne 15, 3) := by decide +kernel
theorem dL_law_1712 : decode cL_law 1712 = .ok (.aload_n 3, 1) := by decide +kernel
theorem dL_law_1713 : decode cL_law 1713 = .ok (.iconst 0, 1) := by decide +kernel
theorem dL_law_1714 : decode cL_law 1714 = .ok (.laload, 1) := by decide +kernel
theorem dL_law_1715 : decode cL_law 1715 = .ok (.iload 6, 2) := by decide +kernel
theorem dL_law_1717 : decode cL_law 1717 = .ok (.i2l, 1) := by decide +kernel
theorem dL_law_1718 : decode cL_law 1718 = .ok (.lcmp, 1) := by decide +kernel
theorem dL_law_1719 : decode cL_law 1719 = .ok (.ifCond .eq 5, 3) := by decide +kernel
theorem dL_law_1722 : decode cL_law 1722 = .ok (.iconst 0, 1) := by decide +kernel
theorem dL_law_1723 : decode cL_law 1723 = .ok (.ireturn, 1) := by decide +kernel
theorem dL_law_1724 : decode cL_law 1724 = .ok (.goto 421, 3) := by decide +kernel
theorem dL_law_1727 : decode cL_law 1727 = .ok (.aload_n 1, 1) := by decide +kernel
theorem dL_law_1728 : decode cL_law 1728 = .ok (.aload_n 0, 1) := by decide +kernel
theorem dL_law_1729 : decode cL_law 1729 = .ok (.iload 4, 2) := by decide +kernel
theorem dL_law_1731 : decode cL_law 1731 = .ok (.iconst 1, 1) := by decide +kernel
theorem dL_law_1732 : decode cL_law 1732 = .ok (.iadd, 1) := by decide +kernel
theorem dL_law_1733 : decode cL_law 1733 = .ok (.iaload, 1) := by decide +kernel
theorem dL_law_1734 : decode cL_law 1734 = .ok (.aload_n 0, 1) := by decide +kernel
theorem dL_law_1735 : decode cL_law 1735 = .ok (.iload 4, 2) := by decide +kernel
theorem dL_law_1737 : decode cL_law 1737 = .ok (.iconst 2, 1) := by decide +kernel
theorem dL_law_1738 : decode cL_law 1738 = .ok (.iadd, 1) := by decide +kernel
theorem dL_law_1739 : decode cL_law 1739 = .ok (.iaload, 1) := by decide +kernel
theorem dL_law_1740 : decode cL_law 1740 = .ok (.aload_n 3, 1) := by decide +kernel
theorem dL_law_1741 : decode cL_law 1741 = .ok (.invokestatic 199, 3) := by decide +kernel
theorem dL_law_1744 : decode cL_law 1744 = .ok (.istore 5, 2) := by decide +kernel
theorem dL_law_1746 : decode cL_law 1746 = .ok (.aload_n 2, 1) := by decide +kernel
theorem dL_law_1747 : decode cL_law 1747 = .ok (.aload_n 0, 1) := by decide +kernel
theorem dL_law_1748 : decode cL_law 1748 = .ok (.iload 4, 2) := by decide +kernel
theorem dL_law_1750 : decode cL_law 1750 = .ok (.iconst 1, 1) := by decide +kernel
theorem dL_law_1751 : decode cL_law 1751 = .ok (.iadd, 1) := by decide +kernel
theorem dL_law_1752 : decode cL_law 1752 = .ok (.iaload, 1) := by decide +kernel
theorem dL_law_1753 : decode cL_law 1753 = .ok (.aload_n 0, 1) := by decide +kernel
theorem dL_law_1754 : decode cL_law 1754 = .ok (.iload 4, 2) := by decide +kernel
theorem dL_law_1756 : decode cL_law 1756 = .ok (.iconst 2, 1) := by decide +kernel
theorem dL_law_1757 : decode cL_law 1757 = .ok (.iadd, 1) := by decide +kernel
theorem dL_law_1758 : decode cL_law 1758 = .ok (.iaload, 1) := by decide +kernel
theorem dL_law_1759 : decode cL_law 1759 = .ok (.invokevirtual 201, 3) := by decide +kernel
theorem dL_law_1762 : decode cL_law 1762 = .ok (.istore 6, 2) := by decide +kernel
theorem dL_law_1764 : decode cL_law 1764 = .ok (.aload_n 2, 1) := by decide +kernel
theorem dL_law_1765 : decode cL_law 1765 = .ok (.invokevirtual 117, 3) := by decide +kernel
theorem dL_law_1768 : decode cL_law 1768 = .ok (.iload 5, 2) := by decide +kernel
theorem dL_law_1770 : decode cL_law 1770 = .ok (.if_icmp .eq 5, 3) := by decide +kernel
theorem dL_law_1773 : decode cL_law 1773 = .ok (.iconst 0, 1) := by decide +kernel
theorem dL_law_1774 : decode cL_law 1774 = .ok (.ireturn, 1) := by decide +kernel
theorem dL_law_1775 : decode cL_law 1775 = .ok (.iload 5, 2) := by decide +kernel
theorem dL_law_1777 : decode cL_law 1777 = .ok (.ifCond .ne 15, 3) := by decide +kernel
theorem dL_law_1780 : decode cL_law 1780 = .ok (.aload_n 3, 1) := by decide +kernel
theorem dL_law_1781 : decode cL_law 1781 = .ok (.iconst 0, 1) := by decide +kernel
theorem dL_law_1782 : decode cL_law 1782 = .ok (.laload, 1) := by decide +kernel
theorem dL_law_1783 : decode cL_law 1783 = .ok (.iload 6, 2) := by decide +kernel
theorem dL_law_1785 : decode cL_law 1785 = .ok (.i2l, 1) := by decide +kernel
theorem dL_law_1786 : decode cL_law 1786 = .ok (.lcmp, 1) := by decide +kernel
theorem dL_law_1787 : decode cL_law 1787 = .ok (.ifCond .eq 5, 3) := by decide +kernel
theorem dL_law_1790 : decode cL_law 1790 = .ok (.iconst 0, 1) := by decide +kernel
theorem dL_law_1791 : decode cL_law 1791 = .ok (.ireturn, 1) := by decide +kernel
theorem dL_law_1792 : decode cL_law 1792 = .ok (.goto 353, 3) := by decide +kernel
theorem dL_law_1795 : decode cL_law 1795 = .ok (.aload_n 1, 1) := by decide +kernel
theorem dL_law_1796 : decode cL_law 1796 = .ok (.aload_n 0, 1) := by decide +kernel
theorem dL_law_1797 : decode cL_law 1797 = .ok (.iload 4, 2) := by decide +kernel
theorem dL_law_1799 : decode cL_law 1799 = .ok (.iconst 1, 1) := by decide +kernel
theorem dL_law_1800 : decode cL_law 1800 = .ok (.iadd, 1) := by decide +kernel
theorem dL_law_1801 : decode cL_law 1801 = .ok (.iaload, 1) := by decide +kernel
theorem dL_law_1802 : decode cL_law 1802 = .ok (.aload_n 0, 1) := by decide +kernel
theorem dL_law_1803 : decode cL_law 1803 = .ok (.iload 4, 2) := by decide +kernel
theorem dL_law_1805 : decode cL_law 1805 = .ok (.iconst 2, 1) := by decide +kernel
theorem dL_law_1806 : decode cL_law 1806 = .ok (.iadd, 1) := by decide +kernel
theorem dL_law_1807 : decode cL_law 1807 = .ok (.iaload, 1) := by decide +kernel
theorem dL_law_1808 : decode cL_law 1808 = .ok (.invokestatic 202, 3) := by decide +kernel
theorem dL_law_1811 : decode cL_law 1811 = .ok (.istore 5, 2) := by decide +kernel
theorem dL_law_1813 : decode cL_law 1813 = .ok (.aload_n 2, 1) := by decide +kernel
theorem dL_law_1814 : decode cL_law 1814 = .ok (.aload_n 0, 1) := by decide +kernel
theorem dL_law_1815 : decode cL_law 1815 = .ok (.iload 4, 2) := by decide +kernel
theorem dL_law_1817 : decode cL_law 1817 = .ok (.iconst 1, 1) := by decide +kernel
theorem dL_law_1818 : decode cL_law 1818 = .ok (.iadd, 1) := by decide +kernel
theorem dL_law_1819 : decode cL_law 1819 = .ok (.iaload, 1) := by decide +kernel
theorem dL_law_1820 : decode cL_law 1820 = .ok (.aload_n 0, 1) := by decide +kernel
theorem dL_law_1821 : decode cL_law 1821 = .ok (.iload 4, 2) := by decide +kernel
theorem dL_law_1823 : decode cL_law 1823 = .ok (.iconst 2, 1) := by decide +kernel
theorem dL_law_1824 : decode cL_law 1824 = .ok (.iadd, 1) := by decide +kernel
theorem dL_law_1825 : decode cL_law 1825 = .ok (.iaload, 1) := by decide +kernel
theorem dL_law_1826 : decode cL_law 1826 = .ok (.invokevirtual 205, 3) := by decide +kernel
theorem dL_law_1829 : decode cL_law 1829 = .ok (.aload_n 2, 1) := by decide +kernel
theorem dL_law_1830 : decode cL_law 1830 = .ok (.invokevirtual 117, 3) := by decide +kernel
theorem dL_law_1833 : decode cL_law 1833 = .ok (.iload 5, 2) := by decide +kernel
theorem dL_law_1835 : decode cL_law 1835 = .ok (.if_icmp .eq 5, 3) := by decide +kernel
theorem dL_law_1838 : decode cL_law 1838 = .ok (.iconst 0, 1) := by decide +kernel
theorem dL_law_1839 : decode cL_law 1839 = .ok (.ireturn, 1) := by decide +kernel
theorem dL_law_1840 : decode cL_law 1840 = .ok (.goto 305, 3) := by decide +kernel
theorem dL_law_1843 : decode cL_law 1843 = .ok (.aload_n 1, 1) := by decide +kernel
theorem dL_law_1844 : decode cL_law 1844 = .ok (.aload_n 0, 1) := by decide +kernel
theorem dL_law_1845 : decode cL_law 1845 = .ok (.iload 4, 2) := by decide +kernel
theorem dL_law_1847 : decode cL_law 1847 = .ok (.iconst 1, 1) := by decide +kernel
theorem dL_law_1848 : decode cL_law 1848 = .ok (.iadd, 1) := by decide +kernel
theorem dL_law_1849 : decode cL_law 1849 = .ok (.iaload, 1) := by decide +kernel
theorem dL_law_1850 : decode cL_law 1850 = .ok (.aload_n 3, 1) := by decide +kernel
theorem dL_law_1851 : decode cL_law 1851 = .ok (.invokestatic 206, 3) := by decide +kernel
theorem dL_law_1854 : decode cL_law 1854 = .ok (.istore 5, 2) := by decide +kernel
theorem dL_law_1856 : decode cL_law 1856 = .ok (.aload_n 2, 1) := by decide +kernel
theorem dL_law_1857 : decode cL_law 1857 = .ok (.aload_n 0, 1) := by decide +kernel
theorem dL_law_1858 : decode cL_law 1858 = .ok (.iload 4, 2) := by decide +kernel
theorem dL_law_1860 : decode cL_law 1860 = .ok (.iconst 1, 1) := by decide +kernel
theorem dL_law_1861 : decode cL_law 1861 = .ok (.iadd, 1) := by decide +kernel
theorem dL_law_1862 : decode cL_law 1862 = .ok (.iaload, 1) := by decide +kernel
theorem dL_law_1863 : decode cL_law 1863 = .ok (.invokevirtual 208, 3) := by decide +kernel
theorem dL_law_1866 : decode cL_law 1866 = .ok (.istore 6, 2) := by decide +kernel
theorem dL_law_1868 : decode cL_law 1868 = .ok (.aload_n 2, 1) := by decide +kernel
theorem dL_law_1869 : decode cL_law 1869 = .ok (.invokevirtual 117, 3) := by decide +kernel
theorem dL_law_1872 : decode cL_law 1872 = .ok (.iload 5, 2) := by decide +kernel
theorem dL_law_1874 : decode cL_law 1874 = .ok (.if_icmp .eq 5, 3) := by decide +kernel
theorem dL_law_1877 : decode cL_law 1877 = .ok (.iconst 0, 1) := by decide +kernel
theorem dL_law_1878 : decode cL_law 1878 = .ok (.ireturn, 1) := by decide +kernel
theorem dL_law_1879 : decode cL_law 1879 = .ok (.iload 5, 2) := by decide +kernel
theorem dL_law_1881 : decode cL_law 1881 = .ok (.ifCond .ne 22, 3) := by decide +kernel
theorem dL_law_1884 : decode cL_law 1884 = .ok (.aload_n 3, 1) := by decide +kernel
theorem dL_law_1885 : decode cL_law 1885 = .ok (.iconst 0, 1) := by decide +kernel
theorem dL_law_1886 : decode cL_law 1886 = .ok (.laload, 1) := by decide +kernel
theorem dL_law_1887 : decode cL_law 1887 = .ok (.iload 6, 2) := by decide +kernel
theorem dL_law_1889 : decode cL_law 1889 = .ok (.ifCond .eq 7, 3) := by decide +kernel
theorem dL_law_1892 : decode cL_law 1892 = .ok (.lconst 1, 1) := by decide +kernel
theorem dL_law_1893 : decode cL_law 1893 = .ok (.goto 4, 3) := by decide +kernel
theorem dL_law_1896 : decode cL_law 1896 = .ok (.lconst 0, 1) := by decide +kernel
theorem dL_law_1897 : decode cL_law 1897 = .ok (.lcmp, 1) := by decide +kernel
theorem dL_law_1898 : decode cL_law 1898 = .ok (.ifCond .eq 5, 3) := by decide +kernel
theorem dL_law_1901 : decode cL_law 1901 = .ok (.iconst 0, 1) := by decide +kernel
theorem dL_law_1902 : decode cL_law 1902 = .ok (.ireturn, 1) := by decide +kernel
theorem dL_law_1903 : decode cL_law 1903 = .ok (.goto 242, 3) := by decide +kernel
theorem dL_law_1906 : decode cL_law 1906 = .ok (.aload_n 1, 1) := by decide +kernel
theorem dL_law_1907 : decode cL_law 1907 = .ok (.aload_n 0, 1) := by decide +kernel
theorem dL_law_1908 : decode cL_law 1908 = .ok (.iload 4, 2) := by decide +kernel
theorem dL_law_1910 : decode cL_law 1910 = .ok (.iconst 1, 1) := by decide +kernel
theorem dL_law_1911 : decode cL_law 1911 = .ok (.iadd, 1) := by decide +kernel
theorem dL_law_1912 : decode cL_law 1912 = .ok (.iaload, 1) := by decide +kernel
theorem dL_law_1913 : decode cL_law 1913 = .ok (.aload_n 0, 1) := by decide +kernel
theorem dL_law_1914 : decode cL_law 1914 = .ok (.iload 4, 2) := by decide +kernel
theorem dL_law_1916 : decode cL_law 1916 = .ok (.iconst 2, 1) := by decide +kernel
theorem dL_law_1917 : decode cL_law 1917 = .ok (.iadd, 1) := by decide +kernel
theorem dL_law_1918 : decode cL_law 1918 = .ok (.iaload, 1) := by decide +kernel
theorem dL_law_1919 : decode cL_law 1919 = .ok (.ifCond .eq 7, 3) := by decide +kernel
theorem dL_law_1922 : decode cL_law 1922 = .ok (.iconst 1, 1) := by decide +kernel
theorem dL_law_1923 : decode cL_law 1923 = .ok (.goto 4, 3) := by decide +kernel
theorem dL_law_1926 : decode cL_law 1926 = .ok (.iconst 0, 1) := by decide +kernel
theorem dL_law_1927 : decode cL_law 1927 = .ok (.aload_n 3, 1) := by decide +kernel
theorem dL_law_1928 : decode cL_law 1928 = .ok (.invokestatic 209, 3) := by decide +kernel
theorem dL_law_1931 : decode cL_law 1931 = .ok (.istore 5, 2) := by decide +kernel
theorem dL_law_1933 : decode cL_law 1933 = .ok (.aload_n 2, 1) := by decide +kernel
theorem dL_law_1934 : decode cL_law 1934 = .ok (.aload_n 0, 1) := by decide +kernel
theorem dL_law_1935 : decode cL_law 1935 = .ok (.iload 4, 2) := by decide +kernel
theorem dL_law_1937 : decode cL_law 1937 = .ok (.iconst 1, 1) := by decide +kernel
theorem dL_law_1938 : decode cL_law 1938 = .ok (.iadd, 1) := by decide +kernel
theorem dL_law_1939 : decode cL_law 1939 = .ok (.iaload, 1) := by decide +kernel
theorem dL_law_1940 : decode cL_law 1940 = .ok (.aload_n 0, 1) := by decide +kernel
theorem dL_law_1941 : decode cL_law 1941 = .ok (.iload 4, 2) := by decide +kernel
theorem dL_law_1943 : decode cL_law 1943 = .ok (.iconst 2, 1) := by decide +kernel
theorem dL_law_1944 : decode cL_law 1944 = .ok (.iadd, 1) := by decide +kernel
theorem dL_law_1945 : decode cL_law 1945 = .ok (.iaload, 1) := by decide +kernel
theorem dL_law_1946 : decode cL_law 1946 = .ok (.ifCond .eq 7, 3) := by decide +kernel
theorem dL_law_1949 : decode cL_law 1949 = .ok (.iconst 1, 1) := by decide +kernel
theorem dL_law_1950 : decode cL_law 1950 = .ok (.goto 4, 3) := by decide +kernel
theorem dL_law_1953 : decode cL_law 1953 = .ok (.iconst 0, 1) := by decide +kernel
theorem dL_law_1954 : decode cL_law 1954 = .ok (.invokevirtual 212, 3) := by decide +kernel
theorem dL_law_1957 : decode cL_law 1957 = .ok (.istore 6, 2) := by decide +kernel
theorem dL_law_1959 : decode cL_law 1959 = .ok (.aload_n 2, 1) := by decide +kernel
theorem dL_law_1960 : decode cL_law 1960 = .ok (.invokevirtual 117, 3) := by decide +kernel
theorem dL_law_1963 : decode cL_law 1963 = .ok (.iload 5, 2) := by decide +kernel
theorem dL_law_1965 : decode cL_law 1965 = .ok (.if_icmp .eq 5, 3) := by decide +kernel
theorem dL_law_1968 : decode cL_law 1968 = .ok (.iconst 0, 1) := by decide +kernel
theorem dL_law_1969 : decode cL_law 1969 = .ok (.ireturn, 1) := by decide +kernel
theorem dL_law_1970 : decode cL_law 1970 = .ok (.iload 5, 2) := by decide +kernel
theorem dL_law_1972 : decode cL_law 1972 = .ok (.ifCond .ne 22, 3) := by decide +kernel
theorem dL_law_1975 : decode cL_law 1975 = .ok (.aload_n 3, 1) := by decide +kernel
theorem dL_law_1976 : decode cL_law 1976 = .ok (.iconst 0, 1) := by decide +kernel
theorem dL_law_1977 : decode cL_law 1977 = .ok (.laload, 1) := by decide +kernel
theorem dL_law_1978 : decode cL_law 1978 = .ok (.iload 6, 2) := by decide +kernel
theorem dL_law_1980 : decode cL_law 1980 = .ok (.ifCond .eq 7, 3) := by decide +kernel
theorem dL_law_1983 : decode cL_law 1983 = .ok (.lconst 1, 1) := by decide +kernel
theorem dL_law_1984 : decode cL_law 1984 = .ok (.goto 4, 3) := by decide +kernel
theorem dL_law_1987 : decode cL_law 1987 = .ok (.lconst 0, 1) := by decide +kernel
theorem dL_law_1988 : decode cL_law 1988 = .ok (.lcmp, 1) := by decide +kernel
theorem dL_law_1989 : decode cL_law 1989 = .ok (.ifCond .eq 5, 3) := by decide +kernel
theorem dL_law_1992 : decode cL_law 1992 = .ok (.iconst 0, 1) := by decide +kernel
theorem dL_law_1993 : decode cL_law 1993 = .ok (.ireturn, 1) := by decide +kernel
theorem dL_law_1994 : decode cL_law 1994 = .ok (.goto 151, 3) := by decide +kernel
theorem dL_law_1997 : decode cL_law 1997 = .ok (.aload_n 1, 1) := by decide +kernel
theorem dL_law_1998 : decode cL_law 1998 = .ok (.aload_n 0, 1) := by decide +kernel
theorem dL_law_1999 : decode cL_law 1999 = .ok (.iload 4, 2) := by decide +kernel
theorem dL_law_2001 : decode cL_law 2001 = .ok (.iconst 1, 1) := by decide +kernel
theorem dL_law_2002 : decode cL_law 2002 = .ok (.iadd, 1) := by decide +kernel
theorem dL_law_2003 : decode cL_law 2003 = .ok (.iaload, 1) := by decide +kernel
theorem dL_law_2004 : decode cL_law 2004 = .ok (.aload_n 0, 1) := by decide +kernel
theorem dL_law_2005 : decode cL_law 2005 = .ok (.iload 4, 2) := by decide +kernel
theorem dL_law_2007 : decode cL_law 2007 = .ok (.iconst 2, 1) := by decide +kernel
theorem dL_law_2008 : decode cL_law 2008 = .ok (.iadd, 1) := by decide +kernel
theorem dL_law_2009 : decode cL_law 2009 = .ok (.iaload, 1) := by decide +kernel
theorem dL_law_2010 : decode cL_law 2010 = .ok (.aload_n 0, 1) := by decide +kernel
theorem dL_law_2011 : decode cL_law 2011 = .ok (.iload 4, 2) := by decide +kernel
theorem dL_law_2013 : decode cL_law 2013 = .ok (.iconst 3, 1) := by decide +kernel
theorem dL_law_2014 : decode cL_law 2014 = .ok (.iadd, 1) := by decide +kernel
theorem dL_law_2015 : decode cL_law 2015 = .ok (.iaload, 1) := by decide +kernel
theorem dL_law_2016 : decode cL_law 2016 = .ok (.aload_n 3, 1) := by decide +kernel
theorem dL_law_2017 : decode cL_law 2017 = .ok (.invokestatic 213, 3) := by decide +kernel
theorem dL_law_2020 : decode cL_law 2020 = .ok (.istore 5, 2) := by decide +kernel
theorem dL_law_2022 : decode cL_law 2022 = .ok (.aload_n 2, 1) := by decide +kernel
theorem dL_law_2023 : decode cL_law 2023 = .ok (.aload_n 0, 1) := by decide +kernel
theorem dL_law_2024 : decode cL_law 2024 = .ok (.iload 4, 2) := by decide +kernel
theorem dL_law_2026 : decode cL_law 2026 = .ok (.iconst 1, 1) := by decide +kernel
theorem dL_law_2027 : decode cL_law 2027 = .ok (.iadd, 1) := by decide +kernel
theorem dL_law_2028 : decode cL_law 2028 = .ok (.iaload, 1) := by decide +kernel
theorem dL_law_2029 : decode cL_law 2029 = .ok (.aload_n 0, 1) := by decide +kernel
theorem dL_law_2030 : decode cL_law 2030 = .ok (.iload 4, 2) := by decide +kernel
theorem dL_law_2032 : decode cL_law 2032 = .ok (.iconst 2, 1) := by decide +kernel
theorem dL_law_2033 : decode cL_law 2033 = .ok (.iadd, 1) := by decide +kernel
theorem dL_law_2034 : decode cL_law 2034 = .ok (.iaload, 1) := by decide +kernel
theorem dL_law_2035 : decode cL_law 2035 = .ok (.aload_n 0, 1) := by decide +kernel
theorem dL_law_2036 : decode cL_law 2036 = .ok (.iload 4, 2) := by decide +kernel
theorem dL_law_2038 : decode cL_law 2038 = .ok (.iconst 3, 1) := by decide +kernel
theorem dL_law_2039 : decode cL_law 2039 = .ok (.iadd, 1) := by decide +kernel
theorem dL_law_2040 : decode cL_law 2040 = .ok (.iaload, 1) := by decide +kernel
theorem dL_law_2041 : decode cL_law 2041 = .ok (.invokevirtual 215, 3) := by decide +kernel
theorem dL_law_2044 : decode cL_law 2044 = .ok (.istore 6, 2) := by decide +kernel
theorem dL_law_2046 : decode cL_law 2046 = .ok (.aload_n 2, 1) := by decide +kernel
theorem dL_law_2047 : decode cL_law 2047 = .ok (.invokevirtual 117, 3) := by decide +kernel
theorem dL_law_2050 : decode cL_law 2050 = .ok (.iload 5, 2) := by decide +kernel
theorem dL_law_2052 : decode cL_law 2052 = .ok (.if_icmp .eq 5, 3) := by decide +kernel
theorem dL_law_2055 : decode cL_law 2055 = .ok (.iconst 0, 1) := by decide +kernel
theorem dL_law_2056 : decode cL_law 2056 = .ok (.ireturn, 1) := by decide +kernel
theorem dL_law_2057 : decode cL_law 2057 = .ok (.iload 5, 2) := by decide +kernel
theorem dL_law_2059 : decode cL_law 2059 = .ok (.ifCond .ne 15, 3) := by decide +kernel
theorem dL_law_2062 : decode cL_law 2062 = .ok (.aload_n 3, 1) := by decide +kernel
theorem dL_law_2063 : decode cL_law 2063 = .ok (.iconst 0, 1) := by decide +kernel
theorem dL_law_2064 : decode cL_law 2064 = .ok (.laload, 1) := by decide +kernel
theorem dL_law_2065 : decode cL_law 2065 = .ok (.iload 6, 2) := by decide +kernel
theorem dL_law_2067 : decode cL_law 2067 = .ok (.i2l, 1) := by decide +kernel
theorem dL_law_2068 : decode cL_law 2068 = .ok (.lcmp, 1) := by decide +kernel
theorem dL_law_2069 : decode cL_law 2069 = .ok (.ifCond .eq 5, 3) := by decide +kernel
theorem dL_law_2072 : decode cL_law 2072 = .ok (.iconst 0, 1) := by decide +kernel
theorem dL_law_2073 : decode cL_law 2073 = .ok (.ireturn, 1) := by decide +kernel
theorem dL_law_2074 : decode cL_law 2074 = .ok (.goto 71, 3) := by decide +kernel
theorem dL_law_2077 : decode cL_law 2077 = .ok (.aload_n 1, 1) := by decide +kernel
theorem dL_law_2078 : decode cL_law 2078 = .ok (.aload_n 0, 1) := by decide +kernel
theorem dL_law_2079 : decode cL_law 2079 = .ok (.iload 4, 2) := by decide +kernel
theorem dL_law_2081 : decode cL_law 2081 = .ok (.iconst 1, 1) := by decide +kernel
theorem dL_law_2082 : decode cL_law 2082 = .ok (.iadd, 1) := by decide +kernel
theorem dL_law_2083 : decode cL_law 2083 = .ok (.iaload, 1) := by decide +kernel
theorem dL_law_2084 : decode cL_law 2084 = .ok (.aload_n 0, 1) := by decide +kernel
theorem dL_law_2085 : decode cL_law 2085 = .ok (.iload 4, 2) := by decide +kernel
theorem dL_law_2087 : decode cL_law 2087 = .ok (.iconst 2, 1) := by decide +kernel
theorem dL_law_2088 : decode cL_law 2088 = .ok (.iadd, 1) := by decide +kernel
theorem dL_law_2089 : decode cL_law 2089 = .ok (.iaload, 1) := by decide +kernel
theorem dL_law_2090 : decode cL_law 2090 = .ok (.aload_n 3, 1) := by decide +kernel
theorem dL_law_2091 : decode cL_law 2091 = .ok (.invokestatic 216, 3) := by decide +kernel
theorem dL_law_2094 : decode cL_law 2094 = .ok (.istore 5, 2) := by decide +kernel
theorem dL_law_2096 : decode cL_law 2096 = .ok (.aload_n 2, 1) := by decide +kernel
theorem dL_law_2097 : decode cL_law 2097 = .ok (.aload_n 0, 1) := by decide +kernel
theorem dL_law_2098 : decode cL_law 2098 = .ok (.iload 4, 2) := by decide +kernel
theorem dL_law_2100 : decode cL_law 2100 = .ok (.iconst 1, 1) := by decide +kernel
theorem dL_law_2101 : decode cL_law 2101 = .ok (.iadd, 1) := by decide +kernel
theorem dL_law_2102 : decode cL_law 2102 = .ok (.iaload, 1) := by decide +kernel
theorem dL_law_2103 : decode cL_law 2103 = .ok (.aload_n 0, 1) := by decide +kernel
theorem dL_law_2104 : decode cL_law 2104 = .ok (.iload 4, 2) := by decide +kernel
theorem dL_law_2106 : decode cL_law 2106 = .ok (.iconst 2, 1) := by decide +kernel
theorem dL_law_2107 : decode cL_law 2107 = .ok (.iadd, 1) := by decide +kernel
theorem dL_law_2108 : decode cL_law 2108 = .ok (.iaload, 1) := by decide +kernel
theorem dL_law_2109 : decode cL_law 2109 = .ok (.invokevirtual 218, 3) := by decide +kernel
theorem dL_law_2112 : decode cL_law 2112 = .ok (.istore 6, 2) := by decide +kernel
theorem dL_law_2114 : decode cL_law 2114 = .ok (.aload_n 2, 1) := by decide +kernel
theorem dL_law_2115 : decode cL_law 2115 = .ok (.invokevirtual 117, 3) := by decide +kernel
theorem dL_law_2118 : decode cL_law 2118 = .ok (.iload 5, 2) := by decide +kernel
theorem dL_law_2120 : decode cL_law 2120 = .ok (.if_icmp .eq 5, 3) := by decide +kernel
theorem dL_law_2123 : decode cL_law 2123 = .ok (.iconst 0, 1) := by decide +kernel
theorem dL_law_2124 : decode cL_law 2124 = .ok (.ireturn, 1) := by decide +kernel
theorem dL_law_2125 : decode cL_law 2125 = .ok (.iload 5, 2) := by decide +kernel
theorem dL_law_2127 : decode cL_law 2127 = .ok (.ifCond .ne 15, 3) := by decide +kernel
theorem dL_law_2130 : decode cL_law 2130 = .ok (.aload_n 3, 1) := by decide +kernel
theorem dL_law_2131 : decode cL_law 2131 = .ok (.iconst 0, 1) := by decide +kernel
theorem dL_law_2132 : decode cL_law 2132 = .ok (.laload, 1) := by decide +kernel
theorem dL_law_2133 : decode cL_law 2133 = .ok (.iload 6, 2) := by decide +kernel
theorem dL_law_2135 : decode cL_law 2135 = .ok (.i2l, 1) := by decide +kernel
theorem dL_law_2136 : decode cL_law 2136 = .ok (.lcmp, 1) := by decide +kernel
theorem dL_law_2137 : decode cL_law 2137 = .ok (.ifCond .eq 5, 3) := by decide +kernel
theorem dL_law_2140 : decode cL_law 2140 = .ok (.iconst 0, 1) := by decide +kernel
theorem dL_law_2141 : decode cL_law 2141 = .ok (.ireturn, 1) := by decide +kernel
theorem dL_law_2142 : decode cL_law 2142 = .ok (.goto 3, 3) := by decide +kernel
theorem dL_law_2145 : decode cL_law 2145 = .ok (.iinc 4 6, 3) := by decide +kernel
theorem dL_law_2148 : decode cL_law 2148 = .ok (.goto (-2125), 3) := by decide +kernel
theorem dL_law_2151 : decode cL_law 2151 = .ok (.iconst 1, 1) := by decide +kernel
theorem dL_law_2152 : decode cL_law 2152 = .ok (.ireturn, 1) := by decide +kernel
end
section
/-! THE HEAP AS A FUNCTION: what lies at an address (an array, or an object's fields), or nothing that is known -/
abbrev mM : Type := Nat → Option va_E
abbrev mG : Type := va_G × (Nat → ClassId) × Nat
def gA (g : mG) : Nat → Prop := fun q => g.2.2 ≤ q
def up (μ : mM) (a : Nat) (e : va_E) : mM := fun q => if q = a then some e else μ q
theorem up_s {μ : mM} {a : Nat} {e : va_E} : up μ a e a = some e := if_pos rfl
theorem up_n {μ : mM} {a b : Nat} {e : va_E} (h : b ≠ a) : up μ a e b = μ b := if_neg h
def Hm (g : mG) (μ : mM) (z : Nat) (H : Heap) : Prop := (∀ a e, μ a = some e → va_at g.1 vwCl (a, e) H ∧ g.2.2 ≤ a) ∧ H.size = z ∧ g.2.2 ≤ z
abbrev tysG (g : mG) : List (ClassId × FieldType) := [(g.2.1 0, .int), (g.2.1 1, .boolean), (g.2.1 2, .long), (g.2.1 3, .object "ScanningHouse$Page"), (g.2.1 4, .object "ScanningHouse$Book"), (g.2.1 5, .array .int)]
theorem Hm.lt {g : mG} {μ : mM} {z : Nat} {H : Heap} (h : Hm g μ z H) {a : Nat} {e : va_E} (ha : μ a = some e) : a < z := by
  have h1 := ((h.1 a e ha).1).lt
  rw [h.2.1] at h1
  exact h1
theorem Hm.set {g : mG} {μ : mM} {z : Nat} {H H1 : Heap} (h : Hm g μ z H) {a : Nat} {e0 e : va_E} (ha : μ a = some e0) (he : va_at g.1 vwCl (a, e) H1) (hz : H1.size = H.size) (oq : ∀ q, q ≠ a → H1[q]? = H[q]?) : Hm g (up μ a e) z H1 := by
  refine ⟨fun b x hb => ?_, hz.trans h.2.1, h.2.2⟩
  by_cases e1 : b = a
  · subst e1
    rw [up_s] at hb
    cases hb
    exact ⟨he, (h.1 _ _ ha).2⟩
  · rw [up_n e1] at hb
    exact ⟨((h.1 b x hb).1).kept (oq b e1), (h.1 b x hb).2⟩
theorem Hm.push {g : mG} {μ : mM} {z : Nat} {H H1 : Heap} (h : Hm g μ z H) {e : va_E} (he : va_at g.1 vwCl (z, e) H1) (hz : H1.size = z + 1) (o1 : ∀ q, q < z → H1[q]? = H[q]?) : Hm g (up μ z e) (z + 1) H1 := by
  refine ⟨fun b x hb => ?_, hz, Nat.le_succ_of_le h.2.2⟩
  by_cases e1 : b = z
  · subst e1
    rw [up_s] at hb
    cases hb
    exact ⟨he, h.2.2⟩
  · rw [up_n e1] at hb
    exact ⟨((h.1 b x hb).1).kept (o1 b (h.lt hb)), (h.1 b x hb).2⟩
theorem Hm.ext {g : mG} {μ : mM} {z : Nat} {H H1 : Heap} (h : Hm g μ z H) (hz : H.size ≤ H1.size) (o1 : ∀ q, q < H.size → H1[q]? = H[q]?) : Hm g μ H1.size H1 := by
  refine ⟨fun b x hb => ⟨((h.1 b x hb).1).kept (o1 b (by rw [h.2.1]; exact h.lt hb)), (h.1 b x hb).2⟩, rfl, Nat.le_trans h.2.2 (by rw [← h.2.1]; exact hz)⟩
/-! what the tables say, kept from state to state -/
def gw2 : Cond → Bool
  | .declares _ => true
  | .castable _ _ => true
  | w => goodWord w
theorem gw2_c (w : Cond) (h : gw2 w = true) : goodWord w = true ∨ (∃ x, w = .declares x) ∨ ∃ C T, w = .castable C T := by
  cases w <;> first | exact Or.inr (Or.inl ⟨_, rfl⟩) | exact Or.inr (Or.inr ⟨_, _, rfl⟩) | exact Or.inl h
def mT : List Cond := lw_tbl.filter gw2
theorem mT_in {w : Cond} (i : Nat) (h : tables_1[i]? = some w) (hg : gw2 w = true) : w ∈ mT := List.mem_filter.mpr ⟨List.mem_append_right _ (List.mem_of_getElem? h), hg⟩
theorem mT_sel {q : MethodName × Nat} (h : q ∈ lw_privs) (hg : gw2 (Cond.selects q.1.cls q.1 q.1) = true) : Cond.selects q.1.cls q.1 q.1 ∈ mT := List.mem_filter.mpr ⟨List.mem_append_left _ (List.mem_map.mpr ⟨q, h, rfl⟩), hg⟩
def TB (U : State) : Prop := ∀ w ∈ mT, w.before #[] U = true
theorem TB.moved {s U : State} (hW : s.WarmedH U.vm) (h : TB s) : TB U := fun w hw => by
  rcases gw2_c w (List.mem_filter.mp hw).2 with h1 | ⟨x, rfl⟩ | ⟨C, T, rfl⟩
  · exact word_at hW (good_of_word h1) (h w hw)
  · exact va_Nw.warmD hW (h _ hw)
  · exact va_Nw.warmC hW (h _ hw)
theorem TB.args {s : State} (h : TB s) (a : Array Value) : ∀ w ∈ mT, w.before a s = true := fun w hw => by
  rcases gw2_c w (List.mem_filter.mp hw).2 with h1 | ⟨x, rfl⟩ | ⟨C, T, rfl⟩
  · exact word_at (State.WarmedH.refl s) (good_of_word h1) (h w hw)
  · exact va_Nw.use rfl (h _ hw)
  · exact va_Nw.use rfl (h _ hw)
def mSt : List (String × Nat × String) := [("ScanningHouse", 252, "an argument is out of its range"), ("ScanningHouse", 63, "there are as many books as there may be"), ("ScanningHouse", 257, "there is no such book"), ("ScanningHouse", 260, "there is no such page"), ("ScanningHouse", 90, "the book does not open as wide as that"), ("ScanningHouse", 95, "the book has less strength than the shot costs"), ("ScanningHouse", 106, "there is a shot that is not faulty"), ("ScanningHouse", 122, "there is no shot of the page"), ("ScanningHouse", 262, "there is no such vault"), ("ScanningHouse", 269, "the vault has no copy of the page"), ("ScanningHouse", 264, "the vault is burnt"), ("ScanningHouse", 150, "the vault is not burnt"), ("ScanningHouse", 277, "there is no such place in the order"), ("ScanningHouse", 279, "the book has too many pages to be put in order"), ("ScanningHouse", 271, "there is no such place"), ("ScanningHouse", 273, "there is no such keyer"), ("ScanningHouse", 225, "the year would be above the last one"), ("ScanningHouse", 275, "there is no such land"), ("ScanningHouse", 233, "the year of the death is known")]
def SB (U : State) : Prop := ∀ q ∈ mSt, ∃ a, vk_R q.1 q.2.1 q.2.2 a U
theorem SB.moved {s U : State} (hW : s.WarmedH U.vm) (h : SB s) : SB U := fun q hq => by
  obtain ⟨a, ha⟩ := h q hq
  exact ⟨a, vk_R.warm hW ha⟩
theorem mk_specA {args : Array Value} {first s : State} {o : Option Outcome} {idx : List Nat} {t : FieldType} (h : (Cond.arrayOver (.array t)).holds args first o s idx = true) :
    ∃ comp c k, s.vm.findClass (FieldType.array t).toString = some comp ∧ (s.vm.classes.findIdx? fun x => match x.kind with | .array component _ => component == comp | _ => false) = some c ∧ s.vm.classes[c]? = some k ∧ k.kind = .array comp (.array t) ∧
      s.vm.findClass ("[" ++ (FieldType.array t).toString) = some c := by
  simp only [Cond.holds, Cond.value, beq_iff_eq] at h
  cases hc : s.vm.findClass (FieldType.array t).toString with
  | none => simp [hc] at h
  | some comp =>
    simp only [hc, Option.bind_some, Option.bind_eq_some_iff, Option.map_eq_some_iff] at h
    obtain ⟨c, hi, k, hk, hb⟩ := h
    obtain ⟨hlt, hp, -⟩ := Array.findIdx?_eq_some_iff_getElem.mp hi
    have hkk : s.vm.classes[c] = k := (Array.getElem?_eq_some_iff.mp hk).2
    rw [hkk] at hp
    cases hkind : k.kind with
    | array component ty =>
      rw [hkind] at hb hp
      simp at hb hp
      exact ⟨comp, c, k, rfl, hi, hk, by rw [hkind, hp, hb.1], hb.2⟩
    | _ => rw [hkind] at hb; simp at hb
theorem va_AOA.moved {ty : FieldType} {u U : State} (hvm : u.vm.Alike U.vm) (h : va_AOA ty u) : va_AOA ty U := by
  obtain ⟨comp, c, k, h1, h2, h3, h4, h5⟩ := mk_specA h
  obtain ⟨k', hk', he⟩ := hvm.2.2 _ _ h3
  have hi : (U.vm.classes.findIdx? fun (x : Class) => match x.kind with | .array component _ => component == comp | _ => false) = some c := by
    have e := hvm.bare_eq
    have e1 := va_idx_bare U.vm comp
    have e2 := va_idx_bare u.vm comp
    first
      | (rw [e] at e2; exact (e1.symm.trans e2).trans h2)
      | (rw [e] at e1; exact (e1.symm.trans e2).trans h2)
  have hkind : k'.kind = .array comp (.array ty) := by rw [he]; exact h4
  have f1 : U.vm.findClass (FieldType.array ty).toString = some comp := by rw [hvm.findClass]; exact h1
  have f2 : U.vm.findClass ("[" ++ (FieldType.array ty).toString) = some c := by rw [hvm.findClass]; exact h5
  unfold va_AOA Cond.before Cond.holds
  simp only [Cond.value]
  rw [f1, Option.bind_some]
  refine (congrArg (fun o : Option Nat => (o.bind (fun c => (U.vm.classes[c]?).map fun (k : Class) => match k.kind with | .array _ t => decide (t = FieldType.array ty) && decide (U.vm.findClass ("[" ++ (FieldType.array ty).toString) = some c) | _ => false) == some true)) hi).trans ?_
  simp [hk', hkind, f2]
def mNc : List (String × String) := [("java/lang/IllegalArgumentException", "java/lang/IndexOutOfBoundsException"), ("java/lang/IllegalStateException", "java/lang/IndexOutOfBoundsException"), ("java/lang/IllegalStateException", "java/lang/IllegalArgumentException")]
def NB (U : State) : Prop := ∀ q ∈ mNc, va_Nc q.1 q.2 U
def Ef (g : mG) (U : State) : Prop := va_K g.1 vwCl (tysG g) U ∧ TB U ∧ SB U ∧ va_AO "ScanningHouse$Book" U ∧ va_AO "ScanningHouse$Page" U ∧ va_AOA .int U ∧ NB U
theorem Ef.moved {g : mG} {s U : State} (hW : s.WarmedH U.vm) (h : Ef g s) : Ef g U := ⟨va_K.moved hW.alike h.1, h.2.1.moved hW, h.2.2.1.moved hW, va_AO.moved hW.alike h.2.2.2.1, va_AO.moved hW.alike h.2.2.2.2.1, va_AOA.moved hW.alike h.2.2.2.2.2.1, fun q hq => va_Nc.moved hW.alike (h.2.2.2.2.2.2 q hq)⟩
def Zs (g : mG) (U : State) (H : Heap) : Prop := vx_Zq Bundle.tN "UNASSIGNED_STACK" Bundle.steD (gA g) U H ∧ vx_Zq Bundle.tN "SUPPRESSED_SENTINEL" Bundle.listD (gA g) U H
theorem Zs.go {g : mG} {s U : State} {H0 H : Heap} {locs : List Loc} (hvm : s.vm.Alike U.vm) (hS : va_S (gA g) H0 H locs) (h : Zs g s H0) : Zs g U H :=
  ⟨(h.1.moved hvm).kept (fun a h1 h2 => hS.2.1 a h1 h2), (h.2.moved hvm).kept (fun a h1 h2 => hS.2.1 a h1 h2)⟩
/-! contracts -/
def cPc (g : mG) (As : List Value) (μ : mM) (z : Nat) : Array Value → State → Prop := fun v U => v = As.toArray ∧ Hm g μ z U.heap ∧ Ef g U ∧ Zs g U U.heap
def cQc (g : mG) (post : Option Value → mM → Nat → Prop) : Array Value → State → Outcome → State → Prop := fun _ st o t => (∃ r μ' z', o = .returned r ∧ post r μ' z' ∧ Hm g μ' z' t.heap) ∧ va_F (gA g) st t
def cXC (g : mG) (ex : String → mM → Nat → Prop) : String → State → State → Prop := fun E st t => (∃ μ' z', ex E μ' z' ∧ Hm g μ' z' t.heap) ∧ va_F (gA g) st t
theorem cPc.blind {g : mG} {As : List Value} {μ : mM} {z : Nat} : FrameBlind (cPc g As μ z) := fun a U fr mk h =>
  ⟨h.1, h.2.1, Ef.moved (s := U) (U := U.calling fr mk a) (State.WarmedH.refl U) h.2.2.1, Zs.go (s := U) (U := U.calling fr mk a) (Vm.Alike.refl U.vm) va_S.rf h.2.2.2⟩
def Ct (l : Launch) (g : mG) (y : MethodName) (ws : List Cond) (rm : Room) (As : List Value) (μ : mM) (z : Nat) (post : Option Value → mM → Nat → Prop) (ex : String → mM → Nat → Prop) : Prop :=
  vx_Met l y ws rm (cPc g As μ z) (cQc g post) (cXC g ex) rm.cells rm.slots (gA g)
def noX : String → mM → Nat → Prop := fun _ _ _ => False
/-- an answer, nothing changed -/
def rdP (v : Option Value) (μ : mM) (z : Nat) : Option Value → mM → Nat → Prop := fun r μ' z' => r = v ∧ μ' = μ ∧ z' = z
def V (p : Program) (l : Launch) (e : Env) (R : Room) (s : State) (m : MethodId) (args : Array Value) (below : List Frame) (meth : Method) (c : Code) (Q : State → Prop) (g : mG) (μ : mM) (z k n pc : Nat) (lv : List (Nat × Value)) (st : List Value) : Prop :=
  ∀ (H : Heap) (locs : List Loc) (ls : Array Slot), Hm g μ z H → va_S (gA g) s.heap H locs → lv_has ls c.maxLocals lv → W p l e R s m args below meth c H locs k n Q (F0 m pc ls st)
def VX (p : Program) (l : Launch) (e : Env) (R : Room) (s : State) (m : MethodId) (args : Array Value) (below : List Frame) (meth : Method) (c : Code) (Q : State → Prop) (g : mG) (μ : mM) (z k n pc : Nat) (lv : List (Nat × Value)) (E : String) : Prop :=
  ∀ (H : Heap) (locs : List Loc) (ls : Array Slot) (q : Addr) (ce : Cell) (rest : List Value), Hm g μ z H → va_S (gA g) s.heap H locs → lv_has ls c.maxLocals lv → H[q]? = some ce → ce.vm = .none → s.vm.findClass E = some ce.cls → vx_W p l e R s m args below meth c H locs k n Q (F0 m pc ls rest) q
def Ok (p : Program) (l : Launch) (s : State) (m : MethodId) (args : Array Value) (meth : Method) (c : Code) (g : mG) (cc : ByteArray) (nL : Nat) (own : String) : Prop :=
  p.tables.exec = Jvm.exec ∧ c.code = cc ∧ c.maxLocals = nL ∧ s.vm.findClass own = some m.cls ∧ Ef g s ∧ Zs g s s.heap ∧ l.stackTraces = false ∧ meth.locks = false ∧ (∀ w ∈ mT, w.before args s = true)
theorem Ct.of {l : Launch} {g : mG} {y : MethodName} {rm : Room} {As : List Value} {μ : mM} {z : Nat} {post : Option Value → mM → Nat → Prop} {ex : String → mM → Nat → Prop} {cc : ByteArray} {nL : Nat} {ret : Option FieldType} (hl : l.stackTraces = false) (hy : plainName y.cls = true) (hn : (lg_sl As).length ≤ nL)
    (body : ∀ p e s m args below meth c, Ok p l s m args meth c g cc nL y.cls → meth.name = y.name → meth.sig.returnType = ret → (∀ x ∈ c.exceptionTable.toList, False) → V p l e rm s m args below meth c (vx_MQ below (cQc g post) (cXC g ex) args s rm.cells rm.slots (gA g)) g μ z 0 0 0 (lv_args 0 As) []) :
    Ct l g y [Cond.code y cc nL ret] rm As μ z post ex := by
  refine vx_ofW (cc := cc) (maxL := nL) (ret := ret) hy rfl ?_
  intro p e s m args below meth c s₁ B hml hex hv
  obtain ⟨rfl, hm, hE, hZ⟩ := hv
  rw [lg_entry_eq]
  exact body p e s m As.toArray below meth c ⟨B.exec, B.bytes, hml, findClass_of_methodNamed B.named, hE, hZ, hl, B.notSynchronized, hE.2.1.args _⟩ (name_of_methodNamed B.named B.method).1 B.returns hex s.heap [] _ hm va_S.rf (by rw [hml]; exact lv_entry As hn)
end
section
section MKR
variable {p : Program} {l : Launch} {e : Env} {R : Room} {s : State} {m : MethodId} {args : Array Value} {below : List Frame} {meth : Method} {c : Code} {Q : State → Prop} {g : mG} {μ : mM} {z k n pc : Nat} {lv : List (Nat × Value)} {st : List Value} {cc : ByteArray} {nL : Nat} {own : String}
theorem nI_ofInt {i : Int} {a : Nat} (h : i = (a : Int)) : Int32.ofInt i = nI a := by subst h; exact Int32.ofInt_eq_ofNat
theorem v_iconst {i : Int} (a : Nat) (o : Ok p l s m args meth c g cc nL own) (d : decode cc pc = .ok (.iconst i, 1)) (hi : i = (a : Int)) (kk : V p l e R s m args below meth c Q g μ z k n (pc + 1) lv (.int (nI a) :: st)) : V p l e R s m args below meth c Q g μ z k n (pc) lv (st) := fun H locs ls h1 h2 h3 => lv_iconst  o.1 o.2.1 d (nI_ofInt hi) (kk H locs ls h1 h2 h3)
theorem v_iconst_i {i : Int} (v : Int32) (o : Ok p l s m args meth c g cc nL own) (d : decode cc pc = .ok (.iconst i, 1)) (hi : Int32.ofInt i = v) (kk : V p l e R s m args below meth c Q g μ z k n (pc + 1) lv (.int v :: st)) : V p l e R s m args below meth c Q g μ z k n (pc) lv (st) := fun H locs ls h1 h2 h3 => lv_iconst  o.1 o.2.1 d hi (kk H locs ls h1 h2 h3)
theorem v_bipush {i : Int} (a : Nat) (o : Ok p l s m args meth c g cc nL own) (d : decode cc pc = .ok (.bipush i, 2)) (hi : (Int8.ofInt i).toInt32 = nI a) (kk : V p l e R s m args below meth c Q g μ z k n (pc + 2) lv (.int (nI a) :: st)) : V p l e R s m args below meth c Q g μ z k n (pc) lv (st) := fun H locs ls h1 h2 h3 => lv_bipush  o.1 o.2.1 d hi (kk H locs ls h1 h2 h3)
theorem v_sipush {i : Int} (a : Nat) (o : Ok p l s m args meth c g cc nL own) (d : decode cc pc = .ok (.sipush i, 3)) (hi : (Int16.ofInt i).toInt32 = nI a) (kk : V p l e R s m args below meth c Q g μ z k n (pc + 3) lv (.int (nI a) :: st)) : V p l e R s m args below meth c Q g μ z k n (pc) lv (st) := fun H locs ls h1 h2 h3 => lv_sipush  o.1 o.2.1 d hi (kk H locs ls h1 h2 h3)
theorem v_lconst {i : Fin 2} (v : Int64) (o : Ok p l s m args meth c g cc nL own) (d : decode cc pc = .ok (.lconst i, 1)) (hi : Int64.ofNat (i : Nat) = v) (kk : V p l e R s m args below meth c Q g μ z k n (pc + 1) lv (.long v :: st)) : V p l e R s m args below meth c Q g μ z k n (pc) lv (st) := fun H locs ls h1 h2 h3 => lv_lconst  o.1 o.2.1 d hi (kk H locs ls h1 h2 h3)
theorem v_iload_n {j : Fin 4} {i : Nat} {x : Int32} (q : Nat) (o : Ok p l s m args meth c g cc nL own) (d : decode cc pc = .ok (.iload_n j, 1)) (hi : (j : Nat) = i) (hl : lv[q]? = some (i, .int x)) (kk : V p l e R s m args below meth c Q g μ z k n (pc + 1) lv (.int x :: st)) : V p l e R s m args below meth c Q g μ z k n (pc) lv (st) := fun H locs ls h1 h2 h3 => lv_iload_n  o.1 o.2.1 d hi (lv_at h3 q hl) (kk H locs ls h1 h2 h3)
theorem v_iload {i : Nat} {x : Int32} (q : Nat) (o : Ok p l s m args meth c g cc nL own) (d : decode cc pc = .ok (.iload i, 2)) (hl : lv[q]? = some (i, .int x)) (kk : V p l e R s m args below meth c Q g μ z k n (pc + 2) lv (.int x :: st)) : V p l e R s m args below meth c Q g μ z k n (pc) lv (st) := fun H locs ls h1 h2 h3 => lv_iload  o.1 o.2.1 d (lv_at h3 q hl) (kk H locs ls h1 h2 h3)
theorem v_istore_n {j : Fin 4} {i : Nat} {x : Int32} (lv' : List (Nat × Value)) (o : Ok p l s m args meth c g cc nL own) (d : decode cc pc = .ok (.istore_n j, 1)) (hi : (j : Nat) = i) (hn : i < nL) (hl : (i, Value.int x) :: lv.filter (fun q => !(q.1 == i) && !(q.1 + 1 == i && q.2.category == 2)) = lv') (kk : V p l e R s m args below meth c Q g μ z k n (pc + 1) lv' (st)) : V p l e R s m args below meth c Q g μ z k n (pc) lv (.int x :: st) := fun H locs ls h1 h2 h3 => lv_istore_n o.1 o.2.1 d hi h3 (by rw [o.2.2.1]; exact hn) hl (fun ls1 h4 => kk H locs ls1 h1 h2 h4)
theorem v_istore {i : Nat} {x : Int32} (lv' : List (Nat × Value)) (o : Ok p l s m args meth c g cc nL own) (d : decode cc pc = .ok (.istore i, 2)) (hn : i < nL) (hl : (i, Value.int x) :: lv.filter (fun q => !(q.1 == i) && !(q.1 + 1 == i && q.2.category == 2)) = lv') (kk : V p l e R s m args below meth c Q g μ z k n (pc + 2) lv' (st)) : V p l e R s m args below meth c Q g μ z k n (pc) lv (.int x :: st) := fun H locs ls h1 h2 h3 => lv_istore o.1 o.2.1 d h3 (by rw [o.2.2.1]; exact hn) hl (fun ls1 h4 => kk H locs ls1 h1 h2 h4)
theorem v_lload_n {j : Fin 4} {i : Nat} {x : Int64} (q : Nat) (o : Ok p l s m args meth c g cc nL own) (d : decode cc pc = .ok (.lload_n j, 1)) (hi : (j : Nat) = i) (hl : lv[q]? = some (i, .long x)) (kk : V p l e R s m args below meth c Q g μ z k n (pc + 1) lv (.long x :: st)) : V p l e R s m args below meth c Q g μ z k n (pc) lv (st) := fun H locs ls h1 h2 h3 => lv_lload_n  o.1 o.2.1 d hi (lv_at h3 q hl) (kk H locs ls h1 h2 h3)
theorem v_lload {i : Nat} {x : Int64} (q : Nat) (o : Ok p l s m args meth c g cc nL own) (d : decode cc pc = .ok (.lload i, 2)) (hl : lv[q]? = some (i, .long x)) (kk : V p l e R s m args below meth c Q g μ z k n (pc + 2) lv (.long x :: st)) : V p l e R s m args below meth c Q g μ z k n (pc) lv (st) := fun H locs ls h1 h2 h3 => lv_lload  o.1 o.2.1 d (lv_at h3 q hl) (kk H locs ls h1 h2 h3)
theorem v_lstore_n {j : Fin 4} {i : Nat} {x : Int64} (lv' : List (Nat × Value)) (o : Ok p l s m args meth c g cc nL own) (d : decode cc pc = .ok (.lstore_n j, 1)) (hi : (j : Nat) = i) (hn : i + 1 < nL) (hl : (i, Value.long x) :: lv.filter (fun q => !(q.1 == i) && (!(q.1 == i + 1) && !(q.1 + 1 == i && q.2.category == 2))) = lv') (kk : V p l e R s m args below meth c Q g μ z k n (pc + 1) lv' (st)) : V p l e R s m args below meth c Q g μ z k n (pc) lv (.long x :: st) := fun H locs ls h1 h2 h3 => lv_lstore_n o.1 o.2.1 d hi h3 (by rw [o.2.2.1]; exact hn) hl (fun ls1 h4 => kk H locs ls1 h1 h2 h4)
theorem v_lstore {i : Nat} {x : Int64} (lv' : List (Nat × Value)) (o : Ok p l s m args meth c g cc nL own) (d : decode cc pc = .ok (.lstore i, 2)) (hn : i + 1 < nL) (hl : (i, Value.long x) :: lv.filter (fun q => !(q.1 == i) && (!(q.1 == i + 1) && !(q.1 + 1 == i && q.2.category == 2))) = lv') (kk : V p l e R s m args below meth c Q g μ z k n (pc + 2) lv' (st)) : V p l e R s m args below meth c Q g μ z k n (pc) lv (.long x :: st) := fun H locs ls h1 h2 h3 => lv_lstore o.1 o.2.1 d h3 (by rw [o.2.2.1]; exact hn) hl (fun ls1 h4 => kk H locs ls1 h1 h2 h4)
theorem v_aload_n {j : Fin 4} {i : Nat} {x : Nat} (q : Nat) (o : Ok p l s m args meth c g cc nL own) (d : decode cc pc = .ok (.aload_n j, 1)) (hi : (j : Nat) = i) (hl : lv[q]? = some (i, .ref x)) (kk : V p l e R s m args below meth c Q g μ z k n (pc + 1) lv (.ref x :: st)) : V p l e R s m args below meth c Q g μ z k n (pc) lv (st) := fun H locs ls h1 h2 h3 => lv_aload_n  o.1 o.2.1 d hi (lv_at h3 q hl) (kk H locs ls h1 h2 h3)
theorem v_aload {i : Nat} {x : Nat} (q : Nat) (o : Ok p l s m args meth c g cc nL own) (d : decode cc pc = .ok (.aload i, 2)) (hl : lv[q]? = some (i, .ref x)) (kk : V p l e R s m args below meth c Q g μ z k n (pc + 2) lv (.ref x :: st)) : V p l e R s m args below meth c Q g μ z k n (pc) lv (st) := fun H locs ls h1 h2 h3 => lv_aload  o.1 o.2.1 d (lv_at h3 q hl) (kk H locs ls h1 h2 h3)
theorem v_astore_n {j : Fin 4} {i : Nat} {x : Nat} (lv' : List (Nat × Value)) (o : Ok p l s m args meth c g cc nL own) (d : decode cc pc = .ok (.astore_n j, 1)) (hi : (j : Nat) = i) (hn : i < nL) (hl : (i, Value.ref x) :: lv.filter (fun q => !(q.1 == i) && !(q.1 + 1 == i && q.2.category == 2)) = lv') (kk : V p l e R s m args below meth c Q g μ z k n (pc + 1) lv' (st)) : V p l e R s m args below meth c Q g μ z k n (pc) lv (.ref x :: st) := fun H locs ls h1 h2 h3 => lv_astore_n o.1 o.2.1 d hi h3 (by rw [o.2.2.1]; exact hn) hl (fun ls1 h4 => kk H locs ls1 h1 h2 h4)
theorem v_astore {i : Nat} {x : Nat} (lv' : List (Nat × Value)) (o : Ok p l s m args meth c g cc nL own) (d : decode cc pc = .ok (.astore i, 2)) (hn : i < nL) (hl : (i, Value.ref x) :: lv.filter (fun q => !(q.1 == i) && !(q.1 + 1 == i && q.2.category == 2)) = lv') (kk : V p l e R s m args below meth c Q g μ z k n (pc + 2) lv' (st)) : V p l e R s m args below meth c Q g μ z k n (pc) lv (.ref x :: st) := fun H locs ls h1 h2 h3 => lv_astore o.1 o.2.1 d h3 (by rw [o.2.2.1]; exact hn) hl (fun ls1 h4 => kk H locs ls1 h1 h2 h4)
theorem v_anload_n {j : Fin 4} {i : Nat} (q : Nat) (o : Ok p l s m args meth c g cc nL own) (d : decode cc pc = .ok (.aload_n j, 1)) (hi : (j : Nat) = i) (hl : lv[q]? = some (i, .null)) (kk : V p l e R s m args below meth c Q g μ z k n (pc + 1) lv (.null :: st)) : V p l e R s m args below meth c Q g μ z k n (pc) lv (st) := fun H locs ls h1 h2 h3 => lv_aload_nN  o.1 o.2.1 d hi (lv_at h3 q hl) (kk H locs ls h1 h2 h3)
theorem v_anload {i : Nat} (q : Nat) (o : Ok p l s m args meth c g cc nL own) (d : decode cc pc = .ok (.aload i, 2)) (hl : lv[q]? = some (i, .null)) (kk : V p l e R s m args below meth c Q g μ z k n (pc + 2) lv (.null :: st)) : V p l e R s m args below meth c Q g μ z k n (pc) lv (st) := fun H locs ls h1 h2 h3 => lv_aloadN  o.1 o.2.1 d (lv_at h3 q hl) (kk H locs ls h1 h2 h3)
theorem v_anstore_n {j : Fin 4} {i : Nat} (lv' : List (Nat × Value)) (o : Ok p l s m args meth c g cc nL own) (d : decode cc pc = .ok (.astore_n j, 1)) (hi : (j : Nat) = i) (hn : i < nL) (hl : (i, Value.null) :: lv.filter (fun q => !(q.1 == i) && !(q.1 + 1 == i && q.2.category == 2)) = lv') (kk : V p l e R s m args below meth c Q g μ z k n (pc + 1) lv' (st)) : V p l e R s m args below meth c Q g μ z k n (pc) lv (.null :: st) := fun H locs ls h1 h2 h3 => lv_astore_nN o.1 o.2.1 d hi h3 (by rw [o.2.2.1]; exact hn) hl (fun ls1 h4 => kk H locs ls1 h1 h2 h4)
theorem v_anstore {i : Nat} (lv' : List (Nat × Value)) (o : Ok p l s m args meth c g cc nL own) (d : decode cc pc = .ok (.astore i, 2)) (hn : i < nL) (hl : (i, Value.null) :: lv.filter (fun q => !(q.1 == i) && !(q.1 + 1 == i && q.2.category == 2)) = lv') (kk : V p l e R s m args below meth c Q g μ z k n (pc + 2) lv' (st)) : V p l e R s m args below meth c Q g μ z k n (pc) lv (.null :: st) := fun H locs ls h1 h2 h3 => lv_astoreN o.1 o.2.1 d h3 (by rw [o.2.2.1]; exact hn) hl (fun ls1 h4 => kk H locs ls1 h1 h2 h4)
theorem v_iinc {i : Nat} {b : Int} {x : Int32} (v : Int32) (lv' : List (Nat × Value)) (o : Ok p l s m args meth c g cc nL own) (d : decode cc pc = .ok (.iinc i b, 3)) (q : Nat) (hq : lv[q]? = some (i, .int x)) (hv : x + Int32.ofInt b = v) (hn : i < nL) (hl : (i, Value.int v) :: lv.filter (fun q => !(q.1 == i) && !(q.1 + 1 == i && q.2.category == 2)) = lv') (kk : V p l e R s m args below meth c Q g μ z k n (pc + 3) lv' (st)) : V p l e R s m args below meth c Q g μ z k n (pc) lv (st) := fun H locs ls h1 h2 h3 => lv_iinc o.1 o.2.1 d h3 hq hv (by rw [o.2.2.1]; exact hn) hl (fun ls1 h4 => kk H locs ls1 h1 h2 h4)
theorem v_iadd {x y : Int32} (r : Int32) (o : Ok p l s m args meth c g cc nL own) (d : decode cc pc = .ok (.iadd, 1)) (hr : x + y = r) (kk : V p l e R s m args below meth c Q g μ z k n (pc + 1) lv (.int r :: st)) : V p l e R s m args below meth c Q g μ z k n (pc) lv (.int y :: .int x :: st) := by
  subst hr
  exact fun H locs ls h1 h2 h3 => lv_iadd o.1 o.2.1 d (kk H locs ls h1 h2 h3)
theorem v_isub {x y : Int32} (r : Int32) (o : Ok p l s m args meth c g cc nL own) (d : decode cc pc = .ok (.isub, 1)) (hr : x - y = r) (kk : V p l e R s m args below meth c Q g μ z k n (pc + 1) lv (.int r :: st)) : V p l e R s m args below meth c Q g μ z k n (pc) lv (.int y :: .int x :: st) := by
  subst hr
  exact fun H locs ls h1 h2 h3 => lv_isub o.1 o.2.1 d (kk H locs ls h1 h2 h3)
theorem v_imul {x y : Int32} (r : Int32) (o : Ok p l s m args meth c g cc nL own) (d : decode cc pc = .ok (.imul, 1)) (hr : x * y = r) (kk : V p l e R s m args below meth c Q g μ z k n (pc + 1) lv (.int r :: st)) : V p l e R s m args below meth c Q g μ z k n (pc) lv (.int y :: .int x :: st) := by
  subst hr
  exact fun H locs ls h1 h2 h3 => lv_imul o.1 o.2.1 d (kk H locs ls h1 h2 h3)
theorem v_iand {x y : Int32} (r : Int32) (o : Ok p l s m args meth c g cc nL own) (d : decode cc pc = .ok (.iand, 1)) (hr : x &&& y = r) (kk : V p l e R s m args below meth c Q g μ z k n (pc + 1) lv (.int r :: st)) : V p l e R s m args below meth c Q g μ z k n (pc) lv (.int y :: .int x :: st) := by
  subst hr
  exact fun H locs ls h1 h2 h3 => lv_iand o.1 o.2.1 d (kk H locs ls h1 h2 h3)
theorem v_ior {x y : Int32} (r : Int32) (o : Ok p l s m args meth c g cc nL own) (d : decode cc pc = .ok (.ior, 1)) (hr : x ||| y = r) (kk : V p l e R s m args below meth c Q g μ z k n (pc + 1) lv (.int r :: st)) : V p l e R s m args below meth c Q g μ z k n (pc) lv (.int y :: .int x :: st) := by
  subst hr
  exact fun H locs ls h1 h2 h3 => lv_ior o.1 o.2.1 d (kk H locs ls h1 h2 h3)
theorem v_ishl {x y : Int32} (r : Int32) (o : Ok p l s m args meth c g cc nL own) (d : decode cc pc = .ok (.ishl, 1)) (hr : x <<< (y &&& 31) = r) (kk : V p l e R s m args below meth c Q g μ z k n (pc + 1) lv (.int r :: st)) : V p l e R s m args below meth c Q g μ z k n (pc) lv (.int y :: .int x :: st) := by
  subst hr
  exact fun H locs ls h1 h2 h3 => lv_ishl o.1 o.2.1 d (kk H locs ls h1 h2 h3)
theorem v_ishr {x y : Int32} (r : Int32) (o : Ok p l s m args meth c g cc nL own) (d : decode cc pc = .ok (.ishr, 1)) (hr : x >>> (y &&& 31) = r) (kk : V p l e R s m args below meth c Q g μ z k n (pc + 1) lv (.int r :: st)) : V p l e R s m args below meth c Q g μ z k n (pc) lv (.int y :: .int x :: st) := by
  subst hr
  exact fun H locs ls h1 h2 h3 => lv_ishr o.1 o.2.1 d (kk H locs ls h1 h2 h3)
theorem v_idiv {x y : Int32} (r : Int32) (o : Ok p l s m args meth c g cc nL own) (d : decode cc pc = .ok (.idiv, 1)) (h0 : ¬ y = 0) (hr : x / y = r) (kk : V p l e R s m args below meth c Q g μ z k n (pc + 1) lv (.int r :: st)) : V p l e R s m args below meth c Q g μ z k n (pc) lv (.int y :: .int x :: st) := by
  subst hr
  exact fun H locs ls h1 h2 h3 => lv_idiv o.1 o.2.1 d h0 (kk H locs ls h1 h2 h3)
theorem v_ladd {x y : Int64} (r : Int64) (o : Ok p l s m args meth c g cc nL own) (d : decode cc pc = .ok (.ladd, 1)) (hr : x + y = r) (kk : V p l e R s m args below meth c Q g μ z k n (pc + 1) lv (.long r :: st)) : V p l e R s m args below meth c Q g μ z k n (pc) lv (.long y :: .long x :: st) := by
  subst hr
  exact fun H locs ls h1 h2 h3 => lv_ladd o.1 o.2.1 d (kk H locs ls h1 h2 h3)
theorem v_lmul {x y : Int64} (r : Int64) (o : Ok p l s m args meth c g cc nL own) (d : decode cc pc = .ok (.lmul, 1)) (hr : x * y = r) (kk : V p l e R s m args below meth c Q g μ z k n (pc + 1) lv (.long r :: st)) : V p l e R s m args below meth c Q g μ z k n (pc) lv (.long y :: .long x :: st) := by
  subst hr
  exact fun H locs ls h1 h2 h3 => lv_lmul o.1 o.2.1 d (kk H locs ls h1 h2 h3)
theorem v_land {x y : Int64} (r : Int64) (o : Ok p l s m args meth c g cc nL own) (d : decode cc pc = .ok (.land, 1)) (hr : x &&& y = r) (kk : V p l e R s m args below meth c Q g μ z k n (pc + 1) lv (.long r :: st)) : V p l e R s m args below meth c Q g μ z k n (pc) lv (.long y :: .long x :: st) := by
  subst hr
  exact fun H locs ls h1 h2 h3 => lv_land o.1 o.2.1 d (kk H locs ls h1 h2 h3)
theorem v_lor {x y : Int64} (r : Int64) (o : Ok p l s m args meth c g cc nL own) (d : decode cc pc = .ok (.lor, 1)) (hr : x ||| y = r) (kk : V p l e R s m args below meth c Q g μ z k n (pc + 1) lv (.long r :: st)) : V p l e R s m args below meth c Q g μ z k n (pc) lv (.long y :: .long x :: st) := by
  subst hr
  exact fun H locs ls h1 h2 h3 => lv_lor o.1 o.2.1 d (kk H locs ls h1 h2 h3)
theorem v_lxor {x y : Int64} (r : Int64) (o : Ok p l s m args meth c g cc nL own) (d : decode cc pc = .ok (.lxor, 1)) (hr : x ^^^ y = r) (kk : V p l e R s m args below meth c Q g μ z k n (pc + 1) lv (.long r :: st)) : V p l e R s m args below meth c Q g μ z k n (pc) lv (.long y :: .long x :: st) := by
  subst hr
  exact fun H locs ls h1 h2 h3 => lv_lxor o.1 o.2.1 d (kk H locs ls h1 h2 h3)
theorem v_lshl {x : Int64} {y : Int32} (r : Int64) (o : Ok p l s m args meth c g cc nL own) (d : decode cc pc = .ok (.lshl, 1)) (hr : x <<< (y.toInt64 &&& 63) = r) (kk : V p l e R s m args below meth c Q g μ z k n (pc + 1) lv (.long r :: st)) : V p l e R s m args below meth c Q g μ z k n (pc) lv (.int y :: .long x :: st) := fun H locs ls h1 h2 h3 => lv_lshl  o.1 o.2.1 d hr (kk H locs ls h1 h2 h3)
theorem v_i2l {x : Int32} (r : Int64) (o : Ok p l s m args meth c g cc nL own) (d : decode cc pc = .ok (.i2l, 1)) (hr : x.toInt64 = r) (kk : V p l e R s m args below meth c Q g μ z k n (pc + 1) lv (.long r :: st)) : V p l e R s m args below meth c Q g μ z k n (pc) lv (.int x :: st) := fun H locs ls h1 h2 h3 => lv_i2l  o.1 o.2.1 d hr (kk H locs ls h1 h2 h3)
theorem v_lcmp {x y : Int64} (o : Ok p l s m args meth c g cc nL own) (d : decode cc pc = .ok (.lcmp, 1))  (kk : V p l e R s m args below meth c Q g μ z k n (pc + 1) lv (.int (lg_cmp x y) :: st)) : V p l e R s m args below meth c Q g μ z k n (pc) lv (.long y :: .long x :: st) := fun H locs ls h1 h2 h3 => W.lcmp  o.1 o.2.1 d  (kk H locs ls h1 h2 h3)
theorem v_dup {x : Value} (o : Ok p l s m args meth c g cc nL own) (d : decode cc pc = .ok (.dup, 1)) (hx : x.category = 1) (kk : V p l e R s m args below meth c Q g μ z k n (pc + 1) lv (x :: x :: st)) : V p l e R s m args below meth c Q g μ z k n (pc) lv (x :: st) := fun H locs ls h1 h2 h3 => lv_dup  o.1 o.2.1 d hx (kk H locs ls h1 h2 h3)
theorem v_dup2 {x y : Value} (o : Ok p l s m args meth c g cc nL own) (d : decode cc pc = .ok (.dup2, 1)) (hx : x.category = 1) (hy : y.category = 1) (kk : V p l e R s m args below meth c Q g μ z k n (pc + 1) lv (x :: y :: x :: y :: st)) : V p l e R s m args below meth c Q g μ z k n (pc) lv (x :: y :: st) := fun H locs ls h1 h2 h3 => lv_dup2_11  o.1 o.2.1 d hx hy (kk H locs ls h1 h2 h3)
theorem v_null  (o : Ok p l s m args meth c g cc nL own) (d : decode cc pc = .ok (.aconst_null, 1))  (kk : V p l e R s m args below meth c Q g μ z k n (pc + 1) lv (.null :: st)) : V p l e R s m args below meth c Q g μ z k n (pc) lv (st) := fun H locs ls h1 h2 h3 => lv_null  o.1 o.2.1 d  (kk H locs ls h1 h2 h3)
theorem v_goto {off : Int} (tgt : Nat) (o : Ok p l s m args meth c g cc nL own) (d : decode cc pc = .ok (.goto off, 3)) (ht : (pc : Int) + off = (tgt : Int)) (kk : V p l e R s m args below meth c Q g μ z k n (tgt) lv (st)) : V p l e R s m args below meth c Q g μ z k n (pc) lv (st) := fun H locs ls h1 h2 h3 => lv_goto o.1 o.2.1 d ht (kk H locs ls h1 h2 h3)
theorem v_if_eq {x : Int32} {off : Int} (tgt : Nat) (o : Ok p l s m args meth c g cc nL own) (d : decode cc pc = .ok (.ifCond .eq off, 3)) (ht : (pc : Int) + off = (tgt : Int)) (kt : x = 0 → V p l e R s m args below meth c Q g μ z k n (tgt) lv (st)) (kf : ¬ x = 0 → V p l e R s m args below meth c Q g μ z k n (pc + 3) lv (st)) : V p l e R s m args below meth c Q g μ z k n (pc) lv (.int x :: st) := fun H locs ls h1 h2 h3 => lv_if_eq o.1 o.2.1 d ht (fun q => kt q H locs ls h1 h2 h3) (fun q => kf q H locs ls h1 h2 h3)
theorem v_icmp_eq {x y : Int32} {off : Int} (tgt : Nat) (o : Ok p l s m args meth c g cc nL own) (d : decode cc pc = .ok (.if_icmp .eq off, 3)) (ht : (pc : Int) + off = (tgt : Int)) (kt : x = y → V p l e R s m args below meth c Q g μ z k n (tgt) lv (st)) (kf : ¬ x = y → V p l e R s m args below meth c Q g μ z k n (pc + 3) lv (st)) : V p l e R s m args below meth c Q g μ z k n (pc) lv (.int y :: .int x :: st) := fun H locs ls h1 h2 h3 => lv_icmp_eq o.1 o.2.1 d ht (fun q => kt q H locs ls h1 h2 h3) (fun q => kf q H locs ls h1 h2 h3)
theorem v_if_ne {x : Int32} {off : Int} (tgt : Nat) (o : Ok p l s m args meth c g cc nL own) (d : decode cc pc = .ok (.ifCond .ne off, 3)) (ht : (pc : Int) + off = (tgt : Int)) (kt : ¬ x = 0 → V p l e R s m args below meth c Q g μ z k n (tgt) lv (st)) (kf : x = 0 → V p l e R s m args below meth c Q g μ z k n (pc + 3) lv (st)) : V p l e R s m args below meth c Q g μ z k n (pc) lv (.int x :: st) := fun H locs ls h1 h2 h3 => lv_if_ne o.1 o.2.1 d ht (fun q => kt q H locs ls h1 h2 h3) (fun q => kf q H locs ls h1 h2 h3)
theorem v_icmp_ne {x y : Int32} {off : Int} (tgt : Nat) (o : Ok p l s m args meth c g cc nL own) (d : decode cc pc = .ok (.if_icmp .ne off, 3)) (ht : (pc : Int) + off = (tgt : Int)) (kt : ¬ x = y → V p l e R s m args below meth c Q g μ z k n (tgt) lv (st)) (kf : x = y → V p l e R s m args below meth c Q g μ z k n (pc + 3) lv (st)) : V p l e R s m args below meth c Q g μ z k n (pc) lv (.int y :: .int x :: st) := fun H locs ls h1 h2 h3 => lv_icmp_ne o.1 o.2.1 d ht (fun q => kt q H locs ls h1 h2 h3) (fun q => kf q H locs ls h1 h2 h3)
theorem v_if_lt {x : Int32} {off : Int} (tgt : Nat) (o : Ok p l s m args meth c g cc nL own) (d : decode cc pc = .ok (.ifCond .lt off, 3)) (ht : (pc : Int) + off = (tgt : Int)) (kt : x < 0 → V p l e R s m args below meth c Q g μ z k n (tgt) lv (st)) (kf : ¬ x < 0 → V p l e R s m args below meth c Q g μ z k n (pc + 3) lv (st)) : V p l e R s m args below meth c Q g μ z k n (pc) lv (.int x :: st) := fun H locs ls h1 h2 h3 => lv_if_lt o.1 o.2.1 d ht (fun q => kt q H locs ls h1 h2 h3) (fun q => kf q H locs ls h1 h2 h3)
theorem v_icmp_lt {x y : Int32} {off : Int} (tgt : Nat) (o : Ok p l s m args meth c g cc nL own) (d : decode cc pc = .ok (.if_icmp .lt off, 3)) (ht : (pc : Int) + off = (tgt : Int)) (kt : x < y → V p l e R s m args below meth c Q g μ z k n (tgt) lv (st)) (kf : ¬ x < y → V p l e R s m args below meth c Q g μ z k n (pc + 3) lv (st)) : V p l e R s m args below meth c Q g μ z k n (pc) lv (.int y :: .int x :: st) := fun H locs ls h1 h2 h3 => lv_icmp_lt o.1 o.2.1 d ht (fun q => kt q H locs ls h1 h2 h3) (fun q => kf q H locs ls h1 h2 h3)
theorem v_if_ge {x : Int32} {off : Int} (tgt : Nat) (o : Ok p l s m args meth c g cc nL own) (d : decode cc pc = .ok (.ifCond .ge off, 3)) (ht : (pc : Int) + off = (tgt : Int)) (kt : 0 ≤ x → V p l e R s m args below meth c Q g μ z k n (tgt) lv (st)) (kf : ¬ 0 ≤ x → V p l e R s m args below meth c Q g μ z k n (pc + 3) lv (st)) : V p l e R s m args below meth c Q g μ z k n (pc) lv (.int x :: st) := fun H locs ls h1 h2 h3 => lv_if_ge o.1 o.2.1 d ht (fun q => kt q H locs ls h1 h2 h3) (fun q => kf q H locs ls h1 h2 h3)
theorem v_icmp_ge {x y : Int32} {off : Int} (tgt : Nat) (o : Ok p l s m args meth c g cc nL own) (d : decode cc pc = .ok (.if_icmp .ge off, 3)) (ht : (pc : Int) + off = (tgt : Int)) (kt : y ≤ x → V p l e R s m args below meth c Q g μ z k n (tgt) lv (st)) (kf : ¬ y ≤ x → V p l e R s m args below meth c Q g μ z k n (pc + 3) lv (st)) : V p l e R s m args below meth c Q g μ z k n (pc) lv (.int y :: .int x :: st) := fun H locs ls h1 h2 h3 => lv_icmp_ge o.1 o.2.1 d ht (fun q => kt q H locs ls h1 h2 h3) (fun q => kf q H locs ls h1 h2 h3)
theorem v_if_gt {x : Int32} {off : Int} (tgt : Nat) (o : Ok p l s m args meth c g cc nL own) (d : decode cc pc = .ok (.ifCond .gt off, 3)) (ht : (pc : Int) + off = (tgt : Int)) (kt : 0 < x → V p l e R s m args below meth c Q g μ z k n (tgt) lv (st)) (kf : ¬ 0 < x → V p l e R s m args below meth c Q g μ z k n (pc + 3) lv (st)) : V p l e R s m args below meth c Q g μ z k n (pc) lv (.int x :: st) := fun H locs ls h1 h2 h3 => lv_if_gt o.1 o.2.1 d ht (fun q => kt q H locs ls h1 h2 h3) (fun q => kf q H locs ls h1 h2 h3)
theorem v_icmp_gt {x y : Int32} {off : Int} (tgt : Nat) (o : Ok p l s m args meth c g cc nL own) (d : decode cc pc = .ok (.if_icmp .gt off, 3)) (ht : (pc : Int) + off = (tgt : Int)) (kt : y < x → V p l e R s m args below meth c Q g μ z k n (tgt) lv (st)) (kf : ¬ y < x → V p l e R s m args below meth c Q g μ z k n (pc + 3) lv (st)) : V p l e R s m args below meth c Q g μ z k n (pc) lv (.int y :: .int x :: st) := fun H locs ls h1 h2 h3 => lv_icmp_gt o.1 o.2.1 d ht (fun q => kt q H locs ls h1 h2 h3) (fun q => kf q H locs ls h1 h2 h3)
theorem v_if_le {x : Int32} {off : Int} (tgt : Nat) (o : Ok p l s m args meth c g cc nL own) (d : decode cc pc = .ok (.ifCond .le off, 3)) (ht : (pc : Int) + off = (tgt : Int)) (kt : x ≤ 0 → V p l e R s m args below meth c Q g μ z k n (tgt) lv (st)) (kf : ¬ x ≤ 0 → V p l e R s m args below meth c Q g μ z k n (pc + 3) lv (st)) : V p l e R s m args below meth c Q g μ z k n (pc) lv (.int x :: st) := fun H locs ls h1 h2 h3 => lv_if_le o.1 o.2.1 d ht (fun q => kt q H locs ls h1 h2 h3) (fun q => kf q H locs ls h1 h2 h3)
theorem v_icmp_le {x y : Int32} {off : Int} (tgt : Nat) (o : Ok p l s m args meth c g cc nL own) (d : decode cc pc = .ok (.if_icmp .le off, 3)) (ht : (pc : Int) + off = (tgt : Int)) (kt : x ≤ y → V p l e R s m args below meth c Q g μ z k n (tgt) lv (st)) (kf : ¬ x ≤ y → V p l e R s m args below meth c Q g μ z k n (pc + 3) lv (st)) : V p l e R s m args below meth c Q g μ z k n (pc) lv (.int y :: .int x :: st) := fun H locs ls h1 h2 h3 => lv_icmp_le o.1 o.2.1 d ht (fun q => kt q H locs ls h1 h2 h3) (fun q => kf q H locs ls h1 h2 h3)
theorem v_ifnull {x : Nat} {off : Int} (o : Ok p l s m args meth c g cc nL own) (d : decode cc pc = .ok (.ifnull off, 3)) (kk : V p l e R s m args below meth c Q g μ z k n (pc + 3) lv (st)) : V p l e R s m args below meth c Q g μ z k n (pc) lv (.ref x :: st) := fun H locs ls h1 h2 h3 => lv_ifnull o.1 o.2.1 d (kk H locs ls h1 h2 h3)
theorem v_ifnullN {off : Int} (tgt : Nat) (o : Ok p l s m args meth c g cc nL own) (d : decode cc pc = .ok (.ifnull off, 3)) (ht : (pc : Int) + off = (tgt : Int)) (kk : V p l e R s m args below meth c Q g μ z k n (tgt) lv (st)) : V p l e R s m args below meth c Q g μ z k n (pc) lv (.null :: st) := fun H locs ls h1 h2 h3 => lv_ifnullN o.1 o.2.1 d ht (kk H locs ls h1 h2 h3)
theorem v_ifnonnull {x : Nat} {off : Int} (tgt : Nat) (o : Ok p l s m args meth c g cc nL own) (d : decode cc pc = .ok (.ifnonnull off, 3)) (ht : (pc : Int) + off = (tgt : Int)) (kk : V p l e R s m args below meth c Q g μ z k n (tgt) lv (st)) : V p l e R s m args below meth c Q g μ z k n (pc) lv (.ref x :: st) := fun H locs ls h1 h2 h3 => lv_ifnonnull o.1 o.2.1 d ht (kk H locs ls h1 h2 h3)
theorem v_ifnonnullN {off : Int} (o : Ok p l s m args meth c g cc nL own) (d : decode cc pc = .ok (.ifnonnull off, 3)) (kk : V p l e R s m args below meth c Q g μ z k n (pc + 3) lv (st)) : V p l e R s m args below meth c Q g μ z k n (pc) lv (.null :: st) := fun H locs ls h1 h2 h3 => lv_ifnonnullN o.1 o.2.1 d (kk H locs ls h1 h2 h3)
theorem v_ldc2 {ix : Nat} (v : Int64) (o : Ok p l s m args meth c g cc nL own) (d : decode cc pc = .ok (.ldc2_w ix, 3)) (hc : Cond.constantLong own ix v ∈ mT) (kk : V p l e R s m args below meth c Q g μ z k n (pc + 3) lv (.long v :: st)) : V p l e R s m args below meth c Q g μ z k n (pc) lv (st) := fun H locs ls h1 h2 h3 => lv_ldc2 o.1 o.2.1 o.2.2.2.1 (o.2.2.2.2.2.2.2.2 _ hc) d (kk H locs ls h1 h2 h3)
theorem v_tabIn {dflt lo hi : Int} {offs : Array Int} {len : Nat} {x : Int32} {off : Int} (tgt : Nat) (o : Ok p l s m args meth c g cc nL own) (d : decode cc pc = .ok (.tableswitch dflt lo hi offs, len)) (h1 : ¬ x.toInt < lo) (h2 : ¬ hi < x.toInt) (ho : offs[(x.toInt - lo).toNat]? = some off) (ht : (pc : Int) + off = (tgt : Int)) (kk : V p l e R s m args below meth c Q g μ z k n (tgt) lv (st)) : V p l e R s m args below meth c Q g μ z k n (pc) lv (.int x :: st) := fun H locs ls a1 a2 a3 => lv_tableIn o.1 o.2.1 d h1 h2 ho ht (kk H locs ls a1 a2 a3)
theorem v_tabOut {dflt lo hi : Int} {offs : Array Int} {len : Nat} {x : Int32} (tgt : Nat) (o : Ok p l s m args meth c g cc nL own) (d : decode cc pc = .ok (.tableswitch dflt lo hi offs, len)) (h : x.toInt < lo ∨ hi < x.toInt) (ht : (pc : Int) + dflt = (tgt : Int)) (kk : V p l e R s m args below meth c Q g μ z k n (tgt) lv (st)) : V p l e R s m args below meth c Q g μ z k n (pc) lv (.int x :: st) := fun H locs ls a1 a2 a3 => lv_tableOut o.1 o.2.1 d h ht (kk H locs ls a1 a2 a3)
/-- what is written down of a class: its place in the list, its fields, their types -/
def CF (ci : Nat) (C : String) (T : u_T) (N : Nat) (ty : Nat → FieldType) : Prop := vwCl[ci]? = some (C, T, N) ∧ (∀ w ∈ u_ws C T N, w ∈ mT) ∧ (∀ k, k < N → parseFieldDescriptor (T k).2.2.1 = some (ty k)) ∧ (∀ a, a < N → ∀ b, b < N → a ≠ b → (T a).2.1 ≠ (T b).2.1) ∧ (∀ k, k < N → (T k).1 = C)
theorem v_get {a ci N ix : Nat} {C : String} {T : u_T} {ty : Nat → FieldType} {fs : List Value} {v : Value} (o : Ok p l s m args meth c g cc nL own) (d : decode cc pc = .ok (.getfield ix, 3)) (cf : CF ci C T N ty) (j : Nat) (hj : j < N) (hl : Cond.fieldLink own ix (T j).1 (T j).2.1 (T j).2.2.1 ∈ mT) (he : μ a = some (.inr (ci, fs))) (hv : fs[j]? = some v) (kk : V p l e R s m args below meth c Q g μ z k n (pc + 3) lv (v :: st)) : V p l e R s m args below meth c Q g μ z k n (pc) lv (.ref a :: st) := fun H locs ls h1 h2 h3 => by
  have hP : va_P g.1 vwCl [(a, .inr (ci, fs))] H := fun i q hq => by
    have h0 : i < 1 := (List.getElem?_eq_some_iff.mp hq).1
    rw [show i = 0 by omega] at hq
    cases hq
    exact (h1.1 _ _ he).1
  exact va_get (Ts := mT) o.1 o.2.1 o.2.2.2.2.2.2.2.2 cf.2.1 o.2.2.2.1 o.2.2.2.2.1.1 hP 0 rfl cf.1 j hj (o.2.2.2.2.2.2.2.2 _ hl) (fun _ h => h) hv d (kk H locs ls h1 h2 h3)
theorem v_put {a ci N ix : Nat} {C : String} {T : u_T} {ty : Nat → FieldType} {fs : List Value} {v : Value} (fs' : List Value) (o : Ok p l s m args meth c g cc nL own) (d : decode cc pc = .ok (.putfield ix, 3)) (cf : CF ci C T N ty) (j : Nat) (hj : j < N) (hf : (T j).2.2.2 = false) (hl : Cond.fieldLink own ix (T j).1 (T j).2.1 (T j).2.2.1 ∈ mT) (he : μ a = some (.inr (ci, fs))) (hn : narrow (ty j) v = v) (hw : fits (ty j) v = true) (hlen : j < fs.length) (hfs : fs.set j v = fs') (kk : ∀ μ1 : mM, μ1 = up μ a (.inr (ci, fs')) → V p l e R s m args below meth c Q g μ1 z k n (pc + 3) lv (st)) : V p l e R s m args below meth c Q g μ z k n (pc) lv (v :: .ref a :: st) := fun H locs ls h1 h2 h3 => by
  subst hfs
  have hap := va_apart (own := own) o.2.2.2.2.2.2.2.2 cf.2.1 ty cf.2.2.1 cf.2.2.2.1 o.2.2.2.2.1.1 cf.1
  have hK := o.2.2.2.2.1.1
  obtain ⟨r, hr1, cell, q1, q2, q3, q4⟩ := (h1.1 _ _ he).1
  have hr : r = (C, T, N) := Option.some.inj (hr1.symm.trans cf.1)
  subst hr
  obtain ⟨hS, hfc, kC, hkC, hkind⟩ := hK.1 ci _ cf.1
  obtain ⟨cfi, kf, fi, f, hi0, hsl⟩ := hS j hj
  have hlay := o.2.2.2.2.2.2.2.2 _ (cf.2.1 _ (u_in_lay hj))
  unfold u_lay at hlay
  rw [if_neg (by rw [hf]; decide)] at hlay
  have hst := (u_facts hfc hkC (u_lays o.2.2.2.2.2.2.2.2 cf.2.1 hj) hi0).1
  have h6 := u_store hfc hkC hkind hlay hi0 (cf.2.2.1 j hj) hn hw
  refine W.putK o.1 o.2.1 (f := f) ⟨o.2.2.2.1, o.2.2.2.2.2.2.2.2 _ hl, ⟨_, _, _, hi0⟩, hst⟩ (by rw [q2]; exact h6) q1 q3 (by rw [hsl]; exact k2_hasslot (q4 j hj)) rfl rfl d fun H' e1 e2 e3 => ?_
  rw [hsl] at e1 ⊢
  have hm : Hm g (up μ a (.inr (ci, fs.set j v))) z H' := h1.set he ⟨_, cf.1, t_OB.to (V := updV (vp_V fs) j v) ⟨_, e1, q2, q3, t_set q4 hap hj v⟩ (fun i _ => vp_updV_set hlen v i)⟩ e2 e3
  exact kk _ rfl H' _ ls hm (h2.put e2 e3 (h1.1 _ _ he).2) h3
theorem v_putF {a ci N ix : Nat} {C : String} {T : u_T} {ty : Nat → FieldType} {fs : List Value} {v : Value} (fs' : List Value) (o : Ok p l s m args meth c g cc nL own) (d : decode cc pc = .ok (.putfield ix, 3)) (cf : CF ci C T N ty) (j : Nat) (hj : j < N) (hf : (T j).2.2.2 = true) (hi : meth.name = "<init>") (hc : own = C) (hl : Cond.fieldLink own ix (T j).1 (T j).2.1 (T j).2.2.1 ∈ mT) (he : μ a = some (.inr (ci, fs))) (hn : narrow (ty j) v = v) (hw : fits (ty j) v = true) (hlen : j < fs.length) (hfs : fs.set j v = fs') (kk : ∀ μ1 : mM, μ1 = up μ a (.inr (ci, fs')) → V p l e R s m args below meth c Q g μ1 z k n (pc + 3) lv (st)) : V p l e R s m args below meth c Q g μ z k n (pc) lv (v :: .ref a :: st) := fun H locs ls h1 h2 h3 => by
  subst hfs
  have hap := va_apart (own := own) o.2.2.2.2.2.2.2.2 cf.2.1 ty cf.2.2.1 cf.2.2.2.1 o.2.2.2.2.1.1 cf.1
  have hK := o.2.2.2.2.1.1
  obtain ⟨r, hr1, cell, q1, q2, q3, q4⟩ := (h1.1 _ _ he).1
  have hr : r = (C, T, N) := Option.some.inj (hr1.symm.trans cf.1)
  subst hr
  obtain ⟨hS, hfc, kC, hkC, hkind⟩ := hK.1 ci _ cf.1
  obtain ⟨cfi, kf, fi, f, hi0, hsl⟩ := hS j hj
  have hlay := o.2.2.2.2.2.2.2.2 _ (cf.2.1 _ (u_in_lay hj))
  unfold u_lay at hlay
  rw [if_pos hf] at hlay
  have hst := (u_facts hfc hkC (u_lays o.2.2.2.2.2.2.2.2 cf.2.1 hj) hi0).1
  have hcf : m.cls = cfi := by
    obtain ⟨_, _, c', _, _, _, -, -, hf', -, -, -, hown2, -⟩ := Cond.laysFinal_spec hlay
    have e1 : c' = cfi := by have := hi0.symm.trans hf'; simp at this; exact this.1.symm
    rw [cf.2.2.2.2 j hj, ← hc] at hown2
    rw [← e1]; exact Option.some.inj (o.2.2.2.1.symm.trans hown2)
  have h6 := u_fits hfc hkC hkind (u_lays o.2.2.2.2.2.2.2.2 cf.2.1 hj) hi0 (cf.2.2.1 j hj) hn hw
  refine W.putFinK o.1 o.2.1 o.2.2.2.1 (o.2.2.2.2.2.2.2.2 _ hl) hi0 hst hcf hi (by rw [q2]; exact h6) q1 q3 (by rw [hsl]; exact k2_hasslot (q4 j hj)) rfl rfl d fun H' e1 e2 e3 => ?_
  rw [hsl] at e1 ⊢
  have hm : Hm g (up μ a (.inr (ci, fs.set j v))) z H' := h1.set he ⟨_, cf.1, t_OB.to (V := updV (vp_V fs) j v) ⟨_, e1, q2, q3, t_set q4 hap hj v⟩ (fun i _ => vp_updV_set hlen v i)⟩ e2 e3
  exact kk _ rfl H' _ ls hm (h2.put e2 e3 (h1.1 _ _ he).2) h3
end MKR
end
section
/-! arrays, new things, ends, calls -/
def bI (b : Bool) : Int32 := if b then 1 else 0
theorem bI_t : bI true = 1 := rfl
theorem bI_f : bI false = 0 := rfl
theorem nar_bI (b : Bool) : vp_nar .boolean (bI b) = bI b := by cases b <;> rfl
theorem narrow_bI (b : Bool) : narrow .boolean (.int (bI b)) = .int (bI b) := by cases b <;> rfl
theorem fits_bI (b : Bool) : fits .boolean (.int (bI b)) = true := by cases b <;> rfl
theorem bI_z {b : Bool} : bI b = 0 ↔ b = false := by cases b <;> decide
theorem bI_nz {b : Bool} : ¬ bI b = 0 ↔ b = true := by cases b <;> decide
abbrev aI (n : Nat) (f : Nat → Int32) : vp_A := (n, .inl f)
abbrev aL (n : Nat) (f : Nat → Int64) : vp_A := (n, .inr (.inl f))
abbrev aQ (n : Nat) (f : Nat → Option Nat) : vp_A := (n, .inr (.inr (.inr (.inr f))))
section MKA
variable {p : Program} {l : Launch} {e : Env} {R : Room} {s : State} {m : MethodId} {args : Array Value} {below : List Frame} {meth : Method} {c : Code} {Q : State → Prop} {g : mG} {μ : mM} {z k n pc : Nat} {lv : List (Nat × Value)} {st : List Value} {cc : ByteArray} {nL : Nat} {own : String}
theorem Hm.one {H : Heap} {a : Nat} {e0 : va_E} (h : Hm g μ z H) (he : μ a = some e0) : va_P g.1 vwCl [(a, e0)] H := fun i q hq => by
  have h0 : i < 1 := (List.getElem?_eq_some_iff.mp hq).1
  rw [show i = 0 by omega] at hq
  cases hq
  exact (h.1 _ _ he).1
theorem v_iald {a N : Nat} {f : Nat → Int32} (x : Int32) (o : Ok p l s m args meth c g cc nL own) (d : decode cc pc = .ok (.iaload, 1)) {j : Nat} (hj : j < N) (hN : N < 2 ^ 31) (he : μ a = some (.inl (g.2.1 0, aI N f))) (hx : f j = x) (kk : V p l e R s m args below meth c Q g μ z k n (pc + 1) lv (.int x :: st)) : V p l e R s m args below meth c Q g μ z k n pc lv (.int (nI j) :: .ref a :: st) := fun H locs ls h1 h2 h3 =>
  va_iald o.1 o.2.1 o.2.2.2.2.1.1 (h1.one he) 0 0 rfl rfl (vp_in_nI hj hN) d (by rw [nI_clamp (Nat.lt_trans hj hN), hx]; exact kk H locs ls h1 h2 h3)
theorem v_zald {a N : Nat} {f : Nat → Int32} (x : Int32) (o : Ok p l s m args meth c g cc nL own) (d : decode cc pc = .ok (.baload, 1)) {j : Nat} (hj : j < N) (hN : N < 2 ^ 31) (he : μ a = some (.inl (g.2.1 1, aI N f))) (hx : f j = x) (kk : V p l e R s m args below meth c Q g μ z k n (pc + 1) lv (.int x :: st)) : V p l e R s m args below meth c Q g μ z k n pc lv (.int (nI j) :: .ref a :: st) := fun H locs ls h1 h2 h3 =>
  va_zald o.1 o.2.1 o.2.2.2.2.1.1 (h1.one he) 0 1 rfl rfl (vp_in_nI hj hN) d (by rw [nI_clamp (Nat.lt_trans hj hN), hx]; exact kk H locs ls h1 h2 h3)
theorem v_lald {a N : Nat} {f : Nat → Int64} (x : Int64) (o : Ok p l s m args meth c g cc nL own) (d : decode cc pc = .ok (.laload, 1)) {j : Nat} (hj : j < N) (hN : N < 2 ^ 31) (he : μ a = some (.inl (g.2.1 2, aL N f))) (hx : f j = x) (kk : V p l e R s m args below meth c Q g μ z k n (pc + 1) lv (.long x :: st)) : V p l e R s m args below meth c Q g μ z k n pc lv (.int (nI j) :: .ref a :: st) := fun H locs ls h1 h2 h3 =>
  va_lald o.1 o.2.1 o.2.2.2.2.1.1 (h1.one he) 0 2 rfl rfl (vp_in_nI hj hN) d (by rw [nI_clamp (Nat.lt_trans hj hN), hx]; exact kk H locs ls h1 h2 h3)
/-- of an array of objects -/
theorem v_aald {a N t0 : Nat} {C : String} {f : Nat → Option Nat} (v : Value) (o : Ok p l s m args meth c g cc nL own) (d : decode cc pc = .ok (.aaload, 1)) (ht : (tysG g)[t0]? = some (g.2.1 t0, .object C)) {j : Nat} (hj : j < N) (hN : N < 2 ^ 31) (he : μ a = some (.inl (g.2.1 t0, aQ N f))) (hv : va_rf (f j) = v) (kk : V p l e R s m args below meth c Q g μ z k n (pc + 1) lv (v :: st)) : V p l e R s m args below meth c Q g μ z k n pc lv (.int (nI j) :: .ref a :: st) := fun H locs ls h1 h2 h3 =>
  va_aldq o.1 o.2.1 o.2.2.2.2.1.1 (h1.one he) 0 t0 rfl ht (vp_in_nI hj hN) d (by rw [nI_clamp (Nat.lt_trans hj hN), hv]; exact kk H locs ls h1 h2 h3)
/-- of an array of int arrays -/
theorem v_aaldI {a N : Nat} {f : Nat → Option Nat} (v : Value) (o : Ok p l s m args meth c g cc nL own) (d : decode cc pc = .ok (.aaload, 1)) {j : Nat} (hj : j < N) (hN : N < 2 ^ 31) (he : μ a = some (.inl (g.2.1 5, aQ N f))) (hv : va_rf (f j) = v) (kk : V p l e R s m args below meth c Q g μ z k n (pc + 1) lv (v :: st)) : V p l e R s m args below meth c Q g μ z k n pc lv (.int (nI j) :: .ref a :: st) := fun H locs ls h1 h2 h3 => by
  have hin : vp_in (nI j) N := vp_in_nI hj hN
  have hc : (nI j).toNatClampNeg = j := nI_clamp (Nat.lt_trans hj hN)
  refine W.aald (v := va_rf (f j)) (ty := .array .int) o.1 o.2.1 (h1.1 _ _ he).1 ((o.2.2.2.2.1.1.2 5 _ rfl).1 N (fun i => va_rf (f i))) rfl (fun q => by cases q) (by show ¬ (nI j < 0 ∨ (arrV _ _ _).slots.size ≤ _); rw [arrV_size]; exact hin) (by show (arrV _ _ _).slots[_]? = _; rw [hc, arrV_read _ _ hj]) rfl rfl d (by rw [hv]; exact kk H locs ls h1 h2 h3)
theorem v_iast {a N : Nat} {f : Nat → Int32} {x : Int32} (o : Ok p l s m args meth c g cc nL own) (d : decode cc pc = .ok (.iastore, 1)) {j : Nat} (hj : j < N) (hN : N < 2 ^ 31) (he : μ a = some (.inl (g.2.1 0, aI N f))) (kk : ∀ μ1 : mM, μ1 = up μ a (.inl (g.2.1 0, aI N (upd f j x))) → V p l e R s m args below meth c Q g μ1 z k n (pc + 1) lv st) : V p l e R s m args below meth c Q g μ z k n pc lv (.int x :: .int (nI j) :: .ref a :: st) := fun H locs ls h1 h2 h3 => by
  have hin : vp_in (nI j) N := vp_in_nI hj hN
  have hc : (nI j).toNatClampNeg = j := nI_clamp (Nat.lt_trans hj hN)
  refine W.iast o.1 o.2.1 (h1.1 _ _ he).1 ((o.2.2.2.2.1.1.2 0 _ rfl).1 N (fun i => .int (f i))) (fun q => by cases q) (by show ¬ (nI j < 0 ∨ (arrV _ _ _).slots.size ≤ _); rw [arrV_size]; exact hin) rfl rfl d fun H1 e1 z1 oq => ?_
  refine kk _ rfl H1 _ ls (h1.set he ?_ z1 oq) (h2.put z1 oq (h1.1 _ _ he).2) h3
  show H1[a]? = some (vp_cell _ _)
  rw [e1, hc, vp_cell_i, vp_cell_i, arrV_store]
  congr 2
  funext q
  by_cases hq : q = j
  · subst hq
    simp [updV, upd]
  · simp [updV, upd, hq]
theorem v_zast {a N : Nat} {f : Nat → Int32} {x : Int32} (o : Ok p l s m args meth c g cc nL own) (d : decode cc pc = .ok (.bastore, 1)) {j : Nat} (hj : j < N) (hN : N < 2 ^ 31) (hx : vp_nar .boolean x = x) (he : μ a = some (.inl (g.2.1 1, aI N f))) (kk : ∀ μ1 : mM, μ1 = up μ a (.inl (g.2.1 1, aI N (upd f j x))) → V p l e R s m args below meth c Q g μ1 z k n (pc + 1) lv st) : V p l e R s m args below meth c Q g μ z k n pc lv (.int x :: .int (nI j) :: .ref a :: st) := fun H locs ls h1 h2 h3 => by
  have hin : vp_in (nI j) N := vp_in_nI hj hN
  have hc : (nI j).toNatClampNeg = j := nI_clamp (Nat.lt_trans hj hN)
  refine W.zast o.1 o.2.1 (h1.1 _ _ he).1 ((o.2.2.2.2.1.1.2 1 _ rfl).1 N (fun i => .int (f i))) (fun q => by cases q) (by show ¬ (nI j < 0 ∨ (arrV _ _ _).slots.size ≤ _); rw [arrV_size]; exact hin) rfl rfl d fun H1 e1 z1 oq => ?_
  refine kk _ rfl H1 _ ls (h1.set he ?_ z1 oq) (h2.put z1 oq (h1.1 _ _ he).2) h3
  show H1[a]? = some (vp_cell _ _)
  have hn : narrow .boolean (.int x) = .int x := by
    have h := hx
    unfold vp_nar at h
    simp only [narrow] at h ⊢
    rw [h]
  rw [e1, hc, hn, vp_cell_i, vp_cell_i, arrV_store]
  congr 2
  funext q
  by_cases hq : q = j
  · subst hq
    simp [updV, upd]
  · simp [updV, upd, hq]
theorem v_last {a N : Nat} {f : Nat → Int64} {x : Int64} (o : Ok p l s m args meth c g cc nL own) (d : decode cc pc = .ok (.lastore, 1)) {j : Nat} (hj : j < N) (hN : N < 2 ^ 31) (he : μ a = some (.inl (g.2.1 2, aL N f))) (kk : ∀ μ1 : mM, μ1 = up μ a (.inl (g.2.1 2, aL N (vp_updL f j x))) → V p l e R s m args below meth c Q g μ1 z k n (pc + 1) lv st) : V p l e R s m args below meth c Q g μ z k n pc lv (.long x :: .int (nI j) :: .ref a :: st) := fun H locs ls h1 h2 h3 => by
  have hin : vp_in (nI j) N := vp_in_nI hj hN
  have hc : (nI j).toNatClampNeg = j := nI_clamp (Nat.lt_trans hj hN)
  refine W.last o.1 o.2.1 (h1.1 _ _ he).1 ((o.2.2.2.2.1.1.2 2 _ rfl).1 N (fun i => .long (f i))) (fun q => by cases q) (by show ¬ (nI j < 0 ∨ (arrV _ _ _).slots.size ≤ _); rw [arrV_size]; exact hin) rfl rfl d fun H1 e1 z1 oq => ?_
  refine kk _ rfl H1 _ ls (h1.set he ?_ z1 oq) (h2.put z1 oq (h1.1 _ _ he).2) h3
  show H1[a]? = some (vp_cell _ _)
  rw [e1, hc, vp_cell_l, vp_cell_l, arrV_store]
  congr 2
  funext q
  by_cases hq : q = j
  · subst hq
    simp [updV, vp_updL]
  · simp [updV, vp_updL, hq]
/-- an object into an array of its class -/
theorem v_aast {a N t0 b ci NN : Nat} {C : String} {T : u_T} {ty : Nat → FieldType} {f : Nat → Option Nat} {vs : List Value} (o : Ok p l s m args meth c g cc nL own) (d : decode cc pc = .ok (.aastore, 1)) (ht : (tysG g)[t0]? = some (g.2.1 t0, .object C)) (cf : CF ci C T NN ty) {j : Nat} (hj : j < N) (hN : N < 2 ^ 31) (he : μ a = some (.inl (g.2.1 t0, aQ N f))) (hb : μ b = some (.inr (ci, vs))) (kk : ∀ μ1 : mM, μ1 = up μ a (.inl (g.2.1 t0, aQ N (va_up f j (some b)))) → V p l e R s m args below meth c Q g μ1 z k n (pc + 1) lv st) : V p l e R s m args below meth c Q g μ z k n pc lv (.ref b :: .int (nI j) :: .ref a :: st) := fun H locs ls h1 h2 h3 => by
  have hin : vp_in (nI j) N := vp_in_nI hj hN
  have hcl : (nI j).toNatClampNeg = j := nI_clamp (Nat.lt_trans hj hN)
  have h0 : ¬ nI j < 0 := fun q => hin (Or.inl q)
  obtain ⟨r', hr', cellV, g1, g2, g3, -⟩ := (h1.1 _ _ hb).1
  have hK := o.2.2.2.2.1.1
  have hcls := (hK.1 ci _ cf.1).2
  obtain ⟨kA, comp, k1, k2, k3, -⟩ := (hK.2 t0 _ ht).2
  have hcomp : comp = g.1.1 ci := Option.some.inj (k3.symm.trans hcls.1)
  subst hcomp
  obtain ⟨kC, hkC, -⟩ := hcls.2
  refine W.aast o.1 o.2.1 (h1.1 _ _ he).1 (fun q h => by cases h) (fun h => by cases h) k1 k2 rfl hkC ⟨h0, by show _ < (arrV _ _ _).slots.size; rw [arrV_size, hcl]; exact hj⟩ g1 (fun q h => by rw [g3] at h; cases h) (by rw [g2]; exact hkC) (by rw [g2]; exact va_assign hcls) rfl rfl d fun H1 e1 z1 oq => ?_
  refine kk _ rfl H1 _ ls (h1.set he ?_ z1 oq) (h2.put z1 oq (h1.1 _ _ he).2) h3
  show H1[a]? = some (vp_cell _ _)
  rw [e1, hcl, vp_cell_q, vp_cell_q, arrV_store]
  congr 2
  funext q
  by_cases hq : q = j
  · subst hq
    simp [updV, va_up, va_rf]
  · simp [updV, va_up, hq]
theorem v_alen {a t0 : Nat} {x : vp_A} {ty : FieldType} (o : Ok p l s m args meth c g cc nL own) (d : decode cc pc = .ok (.arraylength, 1)) (ht : (tysG g)[t0]? = some (g.2.1 t0, ty)) (he : μ a = some (.inl (g.2.1 t0, x))) (kk : V p l e R s m args below meth c Q g μ z k n (pc + 1) lv (.int (nI x.1) :: st)) : V p l e R s m args below meth c Q g μ z k n pc lv (.ref a :: st) := fun H locs ls h1 h2 h3 =>
  va_alen o.1 o.2.1 o.2.2.2.2.1.1 (h1.one he) 0 t0 rfl ht rfl d (kk H locs ls h1 h2 h3)
theorem v_new {ci N ix : Nat} {C : String} {T : u_T} {ty : Nat → FieldType} (fs : List Value) (o : Ok p l s m args meth c g cc nL own) (d : decode cc pc = .ok (.new ix, 3)) (cf : CF ci C T N ty) (hl : Cond.classLink own ix C ∈ mT) (hi : Cond.instantiable C N ∈ mT) (hn : Cond.initialized C ∈ mT) (hfs : ∀ j, j < N → defaultValue (ty j) = vp_V fs j) (hk : k + 1 ≤ R.cells) (hs : n + N ≤ R.slots) (kk : V p l e R s m args below meth c Q g (up μ z (.inr (ci, fs))) (z + 1) (k + 1) (n + N) (pc + 3) lv (.ref z :: st)) : V p l e R s m args below meth c Q g μ z k n pc lv st := fun H locs ls h1 h2 h3 => by
  have hts := o.2.2.2.2.2.2.2.2
  have hKn := o.2.2.2.2.1.1.1 ci _ cf.1
  refine W.newcK o.1 o.2.1 o.2.2.2.1 (hts _ hl) (hts _ hi) (hts _ hn) rfl d hk hs hKn.2.1 h1.2.1 fun H1 kC hkC e1 z1 o1 => ?_
  refine kk H1 locs ls (h1.push ⟨_, cf.1, (u_born ty hts cf.2.1 hKn hkC e1 cf.2.2.1).to hfs⟩ z1 o1) ⟨Nat.le_trans h2.1 (by rw [h1.2.1, z1]; omega), fun x a1 a2 => (o1 x (by rw [← h1.2.1]; exact Nat.lt_of_lt_of_le a1 h2.1)).trans (h2.2.1 x a1 a2), h2.2.2⟩ h3
theorem v_newa_aux {atype : ArrayType} {t0 : Nat} {x0 : vp_A} {N : Nat} (o : Ok p l s m args meth c g cc nL own) (d : decode cc pc = .ok (.newarray atype, 2)) (hl : Cond.arrayClass (newarray.typeOf atype) ∈ mT) (ht : (tysG g)[t0]? = some (g.2.1 t0, newarray.typeOf atype)) (hnm : ∀ cA, va_RA s cA (newarray.typeOf atype) ↔ s.vm.findClass ("[" ++ (newarray.typeOf atype).toString) = some cA) (hx : ∀ cA : ClassId, vp_cell cA x0 = arrV cA N (fun _ => defaultValue (newarray.typeOf atype))) (hN : N * componentBytes (newarray.typeOf atype) ≤ 536870912) (hN2 : N < 2 ^ 31) (hk : k + 1 ≤ R.cells) (hs : n + N ≤ R.slots) (kk : V p l e R s m args below meth c Q g (up μ z (.inl (g.2.1 t0, x0))) (z + 1) (k + 1) (n + N) (pc + 2) lv (.ref z :: st)) : V p l e R s m args below meth c Q g μ z k n pc lv (.int (nI N) :: st) := fun H locs ls h1 h2 h3 => by
  have hts := o.2.2.2.2.2.2.2.2
  refine va_newaK o.1 o.2.1 (hts _ hl) rfl d rfl (nI_pos hN2) (nI_clamp hN2) hN hk hs h1.2.1 fun H1 cA e1 z1 o1 hAr hNm => ?_
  have hcA : cA = g.2.1 t0 := by
    have h5 := (hnm _).mp (o.2.2.2.2.1.1.2 t0 _ ht).2
    exact Option.some.inj (hNm.symm.trans h5)
  subst hcA
  refine kk H1 locs ls (h1.push (by show H1[z]? = some (vp_cell _ _); rw [hx]; exact e1) z1 o1) ⟨Nat.le_trans h2.1 (by rw [h1.2.1, z1]; omega), fun x a1 a2 => (o1 x (by rw [← h1.2.1]; exact Nat.lt_of_lt_of_le a1 h2.1)).trans (h2.2.1 x a1 a2), h2.2.2⟩ h3
theorem v_newI (N : Nat) (o : Ok p l s m args meth c g cc nL own) (d : decode cc pc = .ok (.newarray .int, 2)) (hl : Cond.arrayClass .int ∈ mT) (hN : N ≤ 4096) (hk : k + 1 ≤ R.cells) (hs : n + N ≤ R.slots) (kk : V p l e R s m args below meth c Q g (up μ z (.inl (g.2.1 0, aI N (fun _ => 0)))) (z + 1) (k + 1) (n + N) (pc + 2) lv (.ref z :: st)) : V p l e R s m args below meth c Q g μ z k n pc lv (.int (nI N) :: st) :=
  v_newa_aux (t0 := 0) (x0 := aI N (fun _ => 0)) o d hl rfl (fun _ => Iff.rfl) (fun _ => rfl) (by show N * 4 ≤ _; omega) (by omega) hk hs kk
theorem v_newZ (N : Nat) (o : Ok p l s m args meth c g cc nL own) (d : decode cc pc = .ok (.newarray .boolean, 2)) (hl : Cond.arrayClass .boolean ∈ mT) (hN : N ≤ 4096) (hk : k + 1 ≤ R.cells) (hs : n + N ≤ R.slots) (kk : V p l e R s m args below meth c Q g (up μ z (.inl (g.2.1 1, aI N (fun _ => 0)))) (z + 1) (k + 1) (n + N) (pc + 2) lv (.ref z :: st)) : V p l e R s m args below meth c Q g μ z k n pc lv (.int (nI N) :: st) :=
  v_newa_aux (t0 := 1) (x0 := aI N (fun _ => 0)) o d hl rfl (fun _ => Iff.rfl) (fun _ => rfl) (by show N * 1 ≤ _; omega) (by omega) hk hs kk
theorem v_newL (N : Nat) (o : Ok p l s m args meth c g cc nL own) (d : decode cc pc = .ok (.newarray .long, 2)) (hl : Cond.arrayClass .long ∈ mT) (hN : N ≤ 4096) (hk : k + 1 ≤ R.cells) (hs : n + N ≤ R.slots) (kk : V p l e R s m args below meth c Q g (up μ z (.inl (g.2.1 2, aL N (fun _ => 0)))) (z + 1) (k + 1) (n + N) (pc + 2) lv (.ref z :: st)) : V p l e R s m args below meth c Q g μ z k n pc lv (.int (nI N) :: st) :=
  v_newa_aux (t0 := 2) (x0 := aL N (fun _ => 0)) o d hl rfl (fun _ => Iff.rfl) (fun _ => rfl) (by show N * 8 ≤ _; omega) (by omega) hk hs kk
theorem v_newQ {C : String} {ix t0 : Nat} (N : Nat) (o : Ok p l s m args meth c g cc nL own) (d : decode cc pc = .ok (.anewarray ix, 3)) (hl : Cond.classLink own ix C ∈ mT) (ho : va_AO C s) (ht : (tysG g)[t0]? = some (g.2.1 t0, .object C)) (hN : N ≤ 4096) (hk : k + 1 ≤ R.cells) (hs : n + N ≤ R.slots) (kk : V p l e R s m args below meth c Q g (up μ z (.inl (g.2.1 t0, aQ N (fun _ => none)))) (z + 1) (k + 1) (n + N) (pc + 3) lv (.ref z :: st)) : V p l e R s m args below meth c Q g μ z k n pc lv (.int (nI N) :: st) := fun H locs ls h1 h2 h3 => by
  have hts := o.2.2.2.2.2.2.2.2
  have hc : (nI N).toNatClampNeg = N := nI_clamp (by omega)
  refine W.anew o.1 o.2.1 o.2.2.2.1 (hts _ hl) (va_AO.use ho) rfl d rfl (nI_pos (by omega)) (by rw [hc]; omega) hk (by rw [hc]; exact hs) fun cA kA comp f1 f2 f3 f4 => ?_
  have hcA : cA = g.2.1 t0 := by
    obtain ⟨-, -, -, -, -, h5⟩ := (o.2.2.2.2.1.1.2 t0 _ ht).2
    exact Option.some.inj (f1.symm.trans h5)
  subst hcA
  rw [hc]
  generalize hH1 : H.push ({ cls := g.2.1 t0, slots := Array.replicate N .null, vm := .none } : Cell) = H1
  have z1 : H1.size = z + 1 := by rw [← hH1, Array.size_push, h1.2.1]
  have e1 : H1[z]? = some (arrV (g.2.1 t0) N (fun _ => .null)) := by rw [← hH1, ← h1.2.1, Array.getElem?_push_size, ← arrV_new]
  have o1 : ∀ q : Nat, q < z → H1[q]? = H[q]? := fun q hq => by rw [← hH1, Array.getElem?_push, if_neg (Nat.ne_of_lt (by rw [h1.2.1]; exact hq))]
  have kk2 := kk H1 locs ls (h1.push (by show H1[z]? = some (vp_cell _ _); rw [vp_cell_q]; exact e1) z1 o1) ⟨Nat.le_trans h2.1 (by rw [h1.2.1, z1]; omega), fun x a1 a2 => (o1 x (by rw [← h1.2.1]; exact Nat.lt_of_lt_of_le a1 h2.1)).trans (h2.2.1 x a1 a2), h2.2.2⟩ h3
  rw [h1.2.1]
  exact kk2
end MKA
end
section
/-! ===== BEGIN a constructor that throws (launches without stack traces) ===== -/
section VXIA
variable {p : Program} {l : Launch} {e : Env} {R : Room} {s : State} {m : MethodId} {args : Array Value} {below : List Frame} {meth : Method} {c : Code} {T : State} {locs : List Loc} {cells slots : Nat}
theorem vx_callI (X : Stand p l e R s m args below meth c T locs cells slots) (hexec : p.tables.exec = Jvm.exec) {own : String} {index : Nat} {y : MethodName} {bytes : ByteArray} {maxL : Nat}
    (hown : s.vm.findClass own = some m.cls) (hy1 : y.name = "<init>") (hlink : (Cond.methodLink own index y).before args s = true) (hinst : (Cond.instanceMethod y).before args s = true)
    (hcode : (Cond.code y bytes maxL none).before args s = true) (hy : y.cls ≠ "java/lang/invoke/MethodHandle" ∧ y.cls ≠ "java/lang/invoke/VarHandle")
    {W9 : Nat} {Pre : Pt → Array Value → Prop} {Post : Pt → Array Value → Option Value → Pt → Prop} {PostX : Pt → Array Value → Addr → Pt → Prop} (hK : vx_Back l R p e below s args y 3 W9 Pre Post PostX)
    {g : JFrame} (hg : g.method = m) (hsize : g.locals.size = c.maxLocals) {a : Addr} {argsL rest : List Value} (hlen : ∀ sig, parseMethodDescriptor y.desc = some sig → argsL.length = sig.parameters.length)
    (hstack : g.stack = argsL.reverse ++ .ref a :: rest) (hW : 2 * g.monitorRoom + (rest.map fun v => v.category).sum ≤ W9) (hdg : decode c.code g.pc = .ok (.invokespecial index, 3))
    (hpre : ∀ vm₁, s.WarmedH vm₁ → Pre ⟨T.setVm vm₁, locs, cells, slots⟩ (Value.ref a :: argsL).toArray) :
    (∃ (v : Option Value) (vm₁ : Vm) (B : Pt), s.WarmedH vm₁ ∧ Stand p l e R s m args below meth c B.U B.locs B.cells B.slots ∧ Post ⟨T.setVm vm₁, locs, cells, slots⟩ (Value.ref a :: argsL).toArray v B ∧
      ∀ target, Steps p.tables e below (B.U.setTop { g with pc := g.pc + 3, stack := v.toList ++ rest }) target → Steps p.tables e below (T.setTop g) target) ∨
    (∃ (q : Addr) (vm₁ : Vm) (B : Pt), s.WarmedH vm₁ ∧ Stand p l e R s m args below meth c B.U B.locs B.cells B.slots ∧ PostX ⟨T.setVm vm₁, locs, cells, slots⟩ (Value.ref a :: argsL).toArray q B ∧
      Steps p.tables e below (T.setTop g) ((B.U.setTop { g with stack := rest }).pushFrame (.throwing q))) := by
  subst hg
  have hpl : e.platform.magicAccessors = ({} : Platform).magicAccessors := by rw [X.admits.platform]
  obtain ⟨mk, methM, cM, kP, vm₁, hnamed, hmethM, hcodeM, -, hlocalsM, -, hkP, -, hW₁, hstep₁⟩ := Steps.initColdArgs (e := e) X.here hexec X.warmed hpl hown hy1 hy hlink hinst hcode (f := g) rfl hlen hstack hdg
  have X₁ := X.noted hW₁
  rcases hK g.method meth c ⟨T.setVm vm₁, locs, cells, slots⟩ { g with stack := rest } (.invokespecial index) mk (Value.ref a :: argsL).toArray X₁ rfl hsize hdg hW (X₁.named hnamed) (hpre vm₁ X₁.warmed) with ⟨v, B, X', hpost, hsteps⟩ | ⟨q, B, X', hpost, hsteps⟩
  · exact Or.inl ⟨v, vm₁, B, X₁.warmed, X', hpost, fun target h => hstep₁ _ fun acts => by rw [doInvoke_state]; exact hsteps.trans h⟩
  · exact Or.inr ⟨q, vm₁, B, X₁.warmed, X', hpost, hstep₁ _ fun acts => by rw [doInvoke_state]; exact hsteps⟩
end VXIA
section VXIB
variable {p : Program} {l : Launch} {e : Env} {R : Room} {s : State} {m : MethodId} {args : Array Value} {below : List Frame} {meth : Method} {c : Code} {H : Heap} {locs : List Loc} {cells slots : Nat}
variable {y : MethodName} {bytes cc : ByteArray} {maxL nL mc ms n index : Nat} {ret : Option FieldType} {ws : List Cond} {rm : Room} {Pc : Array Value → State → Prop} {Qc : Array Value → State → Outcome → State → Prop} {XC : String → State → State → Prop} {free : Addr → Prop} {Ts : List Cond} {own C : String} {b : Addr} {As rest : List Value} {g : JFrame}
theorem vx_runI (S : CallFix p m c cc nL s args Ts own) (hM : vx_Met l y ws rm Pc Qc XC mc ms free) (cw : CallB R s args own index y bytes maxL none ws rm mc ms n ∧ y.name = "<init>" ∧ (Cond.instanceMethod y).before args s = true) (hp : PreS s H Pc (.ref b :: As))
    (hg : g.method = m) (hn : As.length = n) (hsize : g.locals.size = nL) (hstack : g.stack = As.reverse ++ .ref b :: rest) (hW : 2 * g.monitorRoom + (rest.map fun v => v.category).sum ≤ 8) (hdg : decode cc g.pc = .ok (.invokespecial index, 3)) (hf : cells + mc ≤ R.cells ∧ slots + ms ≤ R.slots) :
    vx_Run p l e R s m args below meth c H locs cells slots mc ms g rest (Qc (Value.ref b :: As).toArray) XC free := by
  have hK : vx_Back l R p e below s args y 3 8 (PreOf R mc ms Pc) (PostOf Qc mc ms free) (vx_Post XC mc ms free) := vx_callBack cw.1 hM hp.1
  obtain ⟨⟨-, -, -, -, -, -, hcode, -, hy, hlen, hl⟩, hy1, hin⟩ := cw
  obtain ⟨hx, hb, hml, ho, -⟩ := S
  have hPc := hp.2
  intro T hT X
  rcases vx_callI X hx (bytes := bytes) (maxL := maxL) ho hy1 hl hin hcode hy hK hg (hsize.trans hml.symm) (a := b) (argsL := As) (rest := rest) (fun sig h => hn.trans (hlen sig h)) hstack hW (by rw [hb]; exact hdg)
    (fun vm₁ hW₁ => ⟨hf.1, hf.2, hPc (T.setVm vm₁) hT hW₁⟩) with ⟨v, vm₁, ⟨U', l2, c2, s2⟩, hW₁, X', ⟨g', mk, t, L, e1, e2, hq, h1, hL, h2, h3⟩, st⟩ | ⟨q, vm₁, ⟨U', l2, c2, s2⟩, hW₁, X', ⟨g', mk, t, L, E, ce, e1, e2, hq, hce, hcv, hcl, h1, hL, h2, h3⟩, st⟩
  · dsimp only [Pt.U, Pt.locs, Pt.cells, Pt.slots] at X' e1 e2 h1 h2 h3 st
    subst h1; subst h2; subst h3
    exact Or.inl ⟨v, (T.setVm vm₁).calling g' mk (Value.ref b :: As).toArray, t, U', L, hT, X', hL, e1, e2, hq, st⟩
  · dsimp only [Pt.U, Pt.locs, Pt.cells, Pt.slots] at X' e1 e2 h1 h2 h3 st hcl
    subst h1; subst h2; subst h3
    exact Or.inr ⟨q, (T.setVm vm₁).calling g' mk (Value.ref b :: As).toArray, t, U', L, E, ce, hT, X', hL, e1, e2, hq, hce, hcv, vx_cls hW₁ hcl, st⟩
end VXIB
/-! ===== END ===== -/
end
section
/-! rows of an array of arrays; ends; throws; calls -/
def upm (μ : mM) (z n : Nat) (e r : va_E) : mM := fun q => if q = z then some e else if z < q ∧ q ≤ z + n then some r else μ q
section MKB
variable {p : Program} {l : Launch} {e : Env} {R : Room} {s : State} {m : MethodId} {args : Array Value} {below : List Frame} {meth : Method} {c : Code} {Q : State → Prop} {g : mG} {μ : mM} {z k n pc : Nat} {lv : List (Nat × Value)} {st : List Value} {cc : ByteArray} {nL : Nat} {own : String}
theorem v_newII {ix : Nat} (N K : Nat) (o : Ok p l s m args meth c g cc nL own) (d : decode cc pc = .ok (.multianewarray ix 2, 4)) (hl : Cond.classLink own ix "[[I" ∈ mT) (ha : Cond.arrayClass .int ∈ mT) (hN : N ≤ 4096) (hK : K ≤ 4096) (hk : k + (1 + N) ≤ R.cells) (hs : n + (N + N * K) ≤ R.slots) (kk : V p l e R s m args below meth c Q g (upm μ z N (.inl (g.2.1 5, aQ N (fun i => if i < N then some (z + 1 + i) else none))) (.inl (g.2.1 0, aI K (fun _ => 0)))) (z + 1 + N) (k + 1 + N) (n + N + N * K) (pc + 4) lv (.ref z :: st)) : V p l e R s m args below meth c Q g μ z k n pc lv (.int (nI K) :: .int (nI N) :: st) := fun H locs ls h1 h2 h3 T hT X => by
  have hts := o.2.2.2.2.2.2.2.2
  have cN : (nI N).toNatClampNeg = N := nI_clamp (by omega)
  have cK : (nI K).toNatClampNeg = K := nI_clamp (by omega)
  obtain ⟨vm₁, cA, comp, -, fA, fC, hO, -, X', step⟩ := X.multianewarray2F o.1 (ty := .int) o.2.2.2.1 (hts _ hl) (va_AOA.use o.2.2.2.2.1.2.2.2.2.2.1) (hts _ ha) (g := F0 m pc ls (.int (nI K) :: .int (nI N) :: st)) rfl (by rw [o.2.1]; exact d) rfl (nI_pos (by omega)) (nI_pos (by omega)) (by rw [cN]; omega) (by rw [cK]; show K * 4 ≤ _; omega) (by rw [cK]; omega) rfl rfl (by rw [cN]; exact hk) (by rw [cN, cK]; exact hs)
  rw [cN, cK] at X' step
  have hcA : cA = g.2.1 5 := Option.some.inj (fA.symm.trans (o.2.2.2.2.1.1.2 5 _ rfl).2)
  have hcI : comp = g.2.1 0 := Option.some.inj (fC.symm.trans (o.2.2.2.2.1.1.2 0 _ rfl).2)
  subst hcA
  subst hcI
  have hTh : (T.setVm vm₁).heap = H := hT
  obtain ⟨f1, f2, -, -⟩ := Jvm.Free.Multi.fill_facts (T.setVm vm₁) (g.2.1 5) (g.2.1 0) N K (defaultValue .int) N
  have hold : ∀ x : Nat, x < H.size → (Jvm.Free.Multi.fill (T.setVm vm₁) (g.2.1 5) (g.2.1 0) N K (defaultValue .int) N).heap[x]? = H[x]? := fun x hx => by
    have := Jvm.Free.Multi.fill_old (T.setVm vm₁) (g.2.1 5) (g.2.1 0) N K (defaultValue .int) (a := x) (by rw [hTh]; exact hx) N
    rw [hTh] at this
    exact this
  have hrow : ∀ j : Nat, j < N → (Jvm.Free.Multi.fill (T.setVm vm₁) (g.2.1 5) (g.2.1 0) N K (defaultValue .int) N).heap[H.size + 1 + j]? = some (vp_cell (g.2.1 0) (aI K (fun _ => 0))) := fun j hj => by
    have := Jvm.Free.Multi.fill_inner (T.setVm vm₁) (g.2.1 5) (g.2.1 0) N K (defaultValue .int) N j hj
    rw [hTh] at this
    rw [this]
    rw [vp_cell_i, show Jvm.Free.Multi.innerC (g.2.1 0) K (defaultValue .int) = { cls := g.2.1 0, slots := Array.replicate K (.int 0), vm := .none } from rfl, arrV_new]
  rw [hTh] at f1 f2
  generalize Jvm.Free.Multi.fill (T.setVm vm₁) (g.2.1 5) (g.2.1 0) N K (defaultValue .int) N = F at X' step f1 f2 hold hrow
  rw [vr_outer] at f2
  have hm : Hm g (upm μ z N (.inl (g.2.1 5, aQ N (fun i => if i < N then some (z + 1 + i) else none))) (.inl (g.2.1 0, aI K (fun _ => 0)))) (z + 1 + N) F.heap := by
    have hz : H.size = z := h1.2.1
    refine ⟨fun b x hb => ?_, by rw [f1]; omega, by have := h1.2.2; omega⟩
    unfold upm at hb
    by_cases e1 : b = z
    · rw [if_pos e1] at hb
      cases hb
      subst e1
      refine ⟨?_, h1.2.2⟩
      show F.heap[b]? = some (vp_cell _ _)
      rw [vp_cell_q, ← hz]
      exact f2
    · rw [if_neg e1] at hb
      by_cases e2 : z < b ∧ b ≤ z + N
      · rw [if_pos e2] at hb
        cases hb
        have := h1.2.2
        refine ⟨?_, by omega⟩
        show F.heap[b]? = some (vp_cell _ _)
        have h9 := hrow (b - (z + 1)) (by omega)
        rw [show H.size + 1 + (b - (z + 1)) = b by omega] at h9
        exact h9
      · rw [if_neg e2] at hb
        exact ⟨((h1.1 b x hb).1).kept (hold b (by rw [hz]; exact h1.lt hb)), (h1.1 b x hb).2⟩
  have kk2 := kk F.heap locs ls hm ⟨by rw [f1]; have := h2.1; omega, fun x a1 a2 => (hold x (Nat.lt_of_lt_of_le a1 h2.1)).trans (h2.2.1 x a1 a2), h2.2.2⟩ h3 F rfl X'
  obtain ⟨t, a1, b1⟩ := kk2
  refine ⟨t, step t ?_, b1⟩
  have e9 : T.heap.size = z := by rw [hT]; exact h1.2.1
  rw [e9]
  exact a1
theorem v_objInit {a ix : Nat} (o : Ok p l s m args meth c g cc nL own) (d : decode cc pc = .ok (.invokespecial ix, 3)) (hl : Cond.methodLink own ix objectInit ∈ mT) (h1 : Cond.instanceMethod objectInit ∈ mT) (h2 : Cond.code objectInit ⟨#[0xb1]⟩ 1 none ∈ mT) (hf : 1 ≤ R.frames) (hlo : (st.map fun v => v.category).sum + 12 ≤ R.locals) (kk : V p l e R s m args below meth c Q g μ z k n (pc + 3) lv st) : V p l e R s m args below meth c Q g μ z k n pc lv (.ref a :: st) := fun H locs ls a1 a2 a3 => by
  have hts := o.2.2.2.2.2.2.2.2
  exact W.objInit o.1 o.2.1 o.2.2.2.1 (hts _ hl) (hts _ h1) (hts _ h2) rfl a3.1 rfl d hf (by show 2 * 0 + _ + 12 ≤ _; omega) (kk H locs ls a1 a2 a3)
theorem v_mmax {x y : Int32} {ix : Nat} (o : Ok p l s m args meth c g cc nL own) (d : decode cc pc = .ok (.invokestatic ix, 3)) (hl : Cond.methodLink own ix Lib.Math.max.name ∈ mT) (h1 : Cond.static Lib.Math.max.name ∈ mT) (h2 : Cond.initialized "java/lang/Math" ∈ mT) (h3 : Cond.code Lib.Math.max.name Lib.Math.max.code 2 (some .int) ∈ mT) (hf : 1 ≤ R.frames) (hlo : (st.map fun v => v.category).sum + 13 ≤ R.locals) (hk : k ≤ R.cells) (hn : n ≤ R.slots) (kk : V p l e R s m args below meth c Q g μ z k n (pc + 3) lv (.int (if x < y then y else x) :: st)) : V p l e R s m args below meth c Q g μ z k n pc lv (.int y :: .int x :: st) := fun H locs ls a1 a2 a3 => by
  have hts := o.2.2.2.2.2.2.2.2
  exact va_mmax o.1 o.2.1 a3.1.symm o.2.2.2.1 (hts _ hl) (hts _ h1) (hts _ h2) (hts _ h3) hf hlo hk hn d (kk H locs ls a1 a2 a3)
theorem v_widen (k' n' : Nat) (hk : k ≤ k') (hn : n ≤ n') (kk : V p l e R s m args below meth c Q g μ z k' n' pc lv st) : V p l e R s m args below meth c Q g μ z k n pc lv st := fun H locs ls a1 a2 a3 => W.widen hk hn (kk H locs ls a1 a2 a3)
theorem vx_widenV (E : String) (k' n' : Nat) (hk : k ≤ k') (hn : n ≤ n') (kk : VX p l e R s m args below meth c Q g μ z k' n' pc lv E) : VX p l e R s m args below meth c Q g μ z k n pc lv E := fun H locs ls q ce rest a1 a2 a3 a4 a5 a6 => vx_widen hk hn (kk H locs ls q ce rest a1 a2 a3 a4 a5 a6)
/-- other words for the same locals -/
theorem v_sub (lv' : List (Nat × Value)) (ks : List Nat) (h : lv_pick lv ks = lv') (kk : V p l e R s m args below meth c Q g μ z k n pc lv' st) : V p l e R s m args below meth c Q g μ z k n pc lv st := fun H locs ls a1 a2 a3 => kk H locs ls a1 a2 (lv_sub a3 ks h)
/-- more is known of the heap -/
theorem v_mono {μ' : mM} (h : ∀ a e0, μ' a = some e0 → μ a = some e0) (kk : V p l e R s m args below meth c Q g μ' z k n pc lv st) : V p l e R s m args below meth c Q g μ z k n pc lv st := fun H locs ls a1 a2 a3 => kk H locs ls ⟨fun a e0 ha => a1.1 a e0 (h a e0 ha), a1.2⟩ a2 a3
variable {post : Option Value → mM → Nat → Prop} {ex : String → mM → Nat → Prop} {mc ms : Nat}
theorem v_iret {v : Int32} (o : Ok p l s m args meth c g cc nL own) (d : decode cc pc = .ok (.ireturn, 1)) (hr : meth.sig.returnType = some .int) (hk : k ≤ mc) (hn : n ≤ ms) (hp : post (some (.int v)) μ z) : V p l e R s m args below meth c (vx_MQ below (cQc g post) (cXC g ex) args s mc ms (gA g)) g μ z k n pc lv [.int v] := fun H locs ls h1 h2 h3 =>
  W.widen hk hn (vx_ret (W.iret (hlocks := o.2.2.2.2.2.2.2.1) o.1 o.2.1 hr (fun t ht hW => ⟨⟨_, _, _, rfl, hp, by rw [ht]; exact h1⟩, h2.F ht⟩) (fun q hq => h2.2.2 q hq) d))
theorem v_zret {v : Int32} (o : Ok p l s m args meth c g cc nL own) (d : decode cc pc = .ok (.ireturn, 1)) (hr : meth.sig.returnType = some .boolean) (hv : narrow .boolean (.int v) = .int v) (hk : k ≤ mc) (hn : n ≤ ms) (hp : post (some (.int v)) μ z) : V p l e R s m args below meth c (vx_MQ below (cQc g post) (cXC g ex) args s mc ms (gA g)) g μ z k n pc lv [.int v] := fun H locs ls h1 h2 h3 =>
  W.widen hk hn (vx_ret (W.zret (hlocks := o.2.2.2.2.2.2.2.1) o.1 o.2.1 hr hv (fun t ht hW => ⟨⟨_, _, _, rfl, hp, by rw [ht]; exact h1⟩, h2.F ht⟩) (fun q hq => h2.2.2 q hq) d))
theorem v_lret {v : Int64} (o : Ok p l s m args meth c g cc nL own) (d : decode cc pc = .ok (.lreturn, 1)) (hr : meth.sig.returnType = some .long) (hk : k ≤ mc) (hn : n ≤ ms) (hp : post (some (.long v)) μ z) : V p l e R s m args below meth c (vx_MQ below (cQc g post) (cXC g ex) args s mc ms (gA g)) g μ z k n pc lv [.long v] := fun H locs ls h1 h2 h3 =>
  W.widen hk hn (vx_ret (W.lret (hlocks := o.2.2.2.2.2.2.2.1) o.1 o.2.1 hr (fun t ht hW => ⟨⟨_, _, _, rfl, hp, by rw [ht]; exact h1⟩, h2.F ht⟩) (fun q hq => h2.2.2 q hq) d))
theorem v_aret {a : Nat} {C : String} (o : Ok p l s m args meth c g cc nL own) (d : decode cc pc = .ok (.areturn, 1)) (hr : meth.sig.returnType = some (.object C)) (hk : k ≤ mc) (hn : n ≤ ms) (hp : post (some (.ref a)) μ z) : V p l e R s m args below meth c (vx_MQ below (cQc g post) (cXC g ex) args s mc ms (gA g)) g μ z k n pc lv [.ref a] := fun H locs ls h1 h2 h3 =>
  W.widen hk hn (vx_ret (W.aret (hlocks := o.2.2.2.2.2.2.2.1) o.1 o.2.1 hr (Or.inl ⟨_, rfl⟩) (Or.inr ⟨_, rfl⟩) (fun t ht hW => ⟨⟨_, _, _, rfl, hp, by rw [ht]; exact h1⟩, h2.F ht⟩) (fun q hq => h2.2.2 q hq) d))
theorem v_vret (o : Ok p l s m args meth c g cc nL own) (d : decode cc pc = .ok (.return_, 1)) (hr : meth.sig.returnType = none) (hk : k ≤ mc) (hn : n ≤ ms) (hp : post none μ z) : V p l e R s m args below meth c (vx_MQ below (cQc g post) (cXC g ex) args s mc ms (gA g)) g μ z k n pc lv [] := fun H locs ls h1 h2 h3 =>
  W.widen hk hn (vx_ret (W.vret (hlocks := o.2.2.2.2.2.2.2.1) o.1 o.2.1 hr (fun t ht hW => ⟨⟨_, _, _, rfl, hp, by rw [ht]; exact h1⟩, h2.F ht⟩) (fun q hq => h2.2.2 q hq) d))
theorem v_out {E : String} (o : Ok p l s m args meth c g cc nL own) (hx : ∀ x ∈ c.exceptionTable.toList, False) (hk : k ≤ mc) (hn : n ≤ ms) (hp : ex E μ z) : VX p l e R s m args below meth c (vx_MQ below (cQc g post) (cXC g ex) args s mc ms (gA g)) g μ z k n pc lv E := fun H locs ls q ce rest h1 h2 h3 h4 h5 h6 =>
  vx_out (fun x h => (hx x h).elim) o.2.2.2.2.2.2.2.1 h4 h5 h6 (fun t ht hW => ⟨⟨μ, z, hp, by rw [ht]; exact h1⟩, h2.F ht⟩) (fun q hq => h2.2.2 q hq) hk hn
theorem v_throw {E text : String} {ik is ic : Nat} (o : Ok p l s m args meth c g cc nL own) (hx : ∀ x ∈ c.exceptionTable.toList, False) (d0 : decode cc pc = .ok (.new ik, 3)) (d3 : decode cc (pc + 3) = .ok (.dup, 1)) (d4 : decode cc (pc + 4) = .ok (.ldc is, 2)) (d6 : decode cc (pc + 6) = .ok (.invokespecial ic, 3)) (d9 : decode cc (pc + 9) = .ok (.athrow, 1)) (hE : Bundle.fit E = true) (hstr : (own, is, text) ∈ mSt) (hw : ∀ w ∈ Cond.classLink own ik E :: Cond.initialized E :: vx_atS own ic E ["java/lang/RuntimeException", "java/lang/Exception"], w ∈ mT) (hf : 5 < R.frames) (hlo : (st.map fun v => v.category).sum + 82 ≤ R.locals) (hc1 : k + 1 ≤ R.cells) (hs1 : n + 6 ≤ R.slots) (hk : k + 1 ≤ mc) (hn : n + 6 ≤ ms) (hp : ∀ z', z ≤ z' → ex E μ z') : V p l e R s m args below meth c (vx_MQ below (cQc g post) (cXC g ex) args s mc ms (gA g)) g μ z k n pc lv st := fun H locs ls h1 h2 h3 => by
  have hts := o.2.2.2.2.2.2.2.2
  obtain ⟨sa, hsa⟩ := o.2.2.2.2.1.2.2.1 _ hstr
  refine vx_throwS (text := text) (names := ["java/lang/RuntimeException", "java/lang/Exception"]) (sa := sa) (A := gA g) o.1 o.2.1 o.2.2.2.2.2.2.1 o.2.2.2.1 hE (by decide +kernel) (hts _ (hw _ List.mem_cons_self)) (hts _ (hw _ (List.mem_cons_of_mem _ List.mem_cons_self))) hsa (fun w h => hts w (hw w (List.mem_cons_of_mem _ (List.mem_cons_of_mem _ h)))) (fun w h => ?_) o.2.2.2.2.2.1.1 o.2.2.2.2.2.1.2 h2 h3.1 d0 d3 d4 d6 d9 (fun x h => (hx x h).elim) hf hlo hc1 hs1 o.2.2.2.2.2.2.2.1 (fun t hW h4 h5 => ?_) (fun q hq => h2.2.2 q hq) hk hn
  · unfold vx_ot
    rcases gw2_c w (List.mem_filter.mp (hw w h)).2 with h7 | ⟨x, rfl⟩ | ⟨C, T, rfl⟩
    · rw [h7, Bool.or_true]
    · rfl
    · rfl
  · refine ⟨⟨μ, t.heap.size, hp _ (by rw [← h1.2.1]; exact h4), h1.ext h4 h5⟩, Nat.le_trans h2.1 h4, fun q a1 a2 => ?_⟩
    rw [h5 q (Nat.lt_of_lt_of_le a1 h2.1)]
    exact h2.2.1 q a1 a2
/-! calls -/
theorem v_core {mc' ms' : Nat} {post' : Option Value → mM → Nat → Prop} {ex' : String → mM → Nat → Prop} {a' : Array Value} {st0 : List Value} (hr : ∀ (H : Heap) (locs : List Loc) (ls : Array Slot), Hm g μ z H → va_S (gA g) s.heap H locs → lv_has ls c.maxLocals lv → vx_Run p l e R s m args below meth c H locs k n mc' ms' (F0 m pc ls st0) st (cQc g post' a') (cXC g ex') (gA g))
    (kk : ∀ r μ' z', z ≤ z' → post' r μ' z' → V p l e R s m args below meth c Q g μ' z' (k + mc') (n + ms') (pc + 3) lv (r.toList ++ st))
    (kx : ∀ E μ' z', z ≤ z' → ex' E μ' z' → VX p l e R s m args below meth c Q g μ' z' (k + mc') (n + ms') pc lv E) : V p l e R s m args below meth c Q g μ z k n pc lv st0 := fun H locs ls h1 h2 h3 T hT X => by
  rcases hr H locs ls h1 h2 h3 T hT X with ⟨v, st₀, t, T', L, h0, X', hL, e1, e2, ⟨⟨r, μ', z', hv, hp, hm'⟩, hF⟩, stp⟩ | ⟨q, st₀, t, T', L, E, ce, h0, X', hL, e1, e2, ⟨⟨μ', z', hp, hm'⟩, hF⟩, hce, hcv, hcl, stp⟩
  · cases hv
    obtain ⟨k1, k2, k3⟩ := vx_keep h0 e1 h2 (fun q _ h => h) (fun q h => h) hL hF
    have hz : z ≤ z' := by rw [← h1.2.1, ← hm'.2.1, ← e1]; exact k1
    obtain ⟨t2, a1, b1⟩ := kk v μ' z' hz hp T'.heap (locs ++ L) ls (by rw [e1]; exact hm') k3 h3 T' rfl X'
    exact ⟨t2, stp t2 a1, b1⟩
  · obtain ⟨k1, k2, k3⟩ := vx_keep h0 e1 h2 (fun q _ h => h) (fun q h => h) hL hF
    have hz : z ≤ z' := by rw [← h1.2.1, ← hm'.2.1, ← e1]; exact k1
    obtain ⟨t2, a1, b1⟩ := kx E μ' z' hz hp T'.heap (locs ++ L) ls q ce st (by rw [e1]; exact hm') k3 h3 (by rw [e1]; exact hce) hcv hcl T' rfl X'
    exact ⟨t2, stp.trans a1, b1⟩
/-- what a call's words say -/
def CW (own : String) (index : Nat) (y : MethodName) (bytes : ByteArray) (maxL : Nat) (ret : Option FieldType) (nn : Nat) : Prop :=
  Cond.methodLink own index y ∈ mT ∧ Cond.code y bytes maxL ret ∈ mT ∧ Cond.initialized y.cls ∈ mT ∧ (y.cls ≠ "java/lang/invoke/MethodHandle" ∧ y.cls ≠ "java/lang/invoke/VarHandle") ∧ (parseMethodDescriptor y.desc).map (fun d => d.parameters.length) = some nn
theorem CW.B {index nn maxL : Nat} {y : MethodName} {bytes : ByteArray} {ret : Option FieldType} {rm : Room} (h : CW own index y bytes maxL ret nn) (ht : ∀ w ∈ mT, w.before args s = true) (hR : rm.frames + 1 ≤ R.frames ∧ 8 + (maxL + 11) + rm.locals ≤ R.locals) : CallB R s args own index y bytes maxL ret [Cond.code y bytes maxL ret] rm rm.cells rm.slots nn := by
  obtain ⟨h1, h2, h3, h4, h5⟩ := h
  refine callB_of nn ht (fun w hw => ?_) rfl rfl rfl (ht _ h3) (ht _ h1) ⟨h4.1, h4.2, h5⟩ hR
  rw [List.mem_singleton.mp hw]
  exact ⟨h2, good_of_word rfl⟩
theorem cPre {As : List Value} (o : Ok p l s m args meth c g cc nL own) {H : Heap} {locs : List Loc} (h1 : Hm g μ z H) (h2 : va_S (gA g) s.heap H locs) : FrameBlind (cPc g As μ z) ∧ ∀ U : State, U.heap = H → s.WarmedH U.vm → cPc g As μ z As.toArray U :=
  ⟨cPc.blind, fun U hU hW => ⟨rfl, by rw [hU]; exact h1, o.2.2.2.2.1.moved hW, by rw [hU]; exact Zs.go hW.alike h2 o.2.2.2.2.2.1⟩⟩
theorem v_callS {index nn maxL : Nat} {y : MethodName} {bytes : ByteArray} {ret : Option FieldType} {rm : Room} {post' : Option Value → mM → Nat → Prop} {ex' : String → mM → Nat → Prop} {st0 : List Value} (As : List Value) (st : List Value) (o : Ok p l s m args meth c g cc nL own) (d : decode cc pc = .ok (.invokestatic index, 3)) (cw : CW own index y bytes maxL ret nn) (hs : Cond.static y ∈ mT) (hc : Ct l g y [Cond.code y bytes maxL ret] rm As μ z post' ex') (hst : st0 = As.reverse ++ st) (hnn : As.length = nn) (hR : rm.frames + 1 ≤ R.frames ∧ 8 + (maxL + 11) + rm.locals ≤ R.locals) (hk : k + rm.cells ≤ R.cells ∧ n + rm.slots ≤ R.slots) (h8 : (st.map fun v => v.category).sum ≤ 8)
    (kk : ∀ r μ' z', z ≤ z' → post' r μ' z' → V p l e R s m args below meth c Q g μ' z' (k + rm.cells) (n + rm.slots) (pc + 3) lv (r.toList ++ st))
    (kx : ∀ E μ' z', z ≤ z' → ex' E μ' z' → VX p l e R s m args below meth c Q g μ' z' (k + rm.cells) (n + rm.slots) pc lv E) : V p l e R s m args below meth c Q g μ z k n pc lv st0 := by
  have hts := o.2.2.2.2.2.2.2.2
  exact v_core (fun H locs ls h1 h2 h3 => vx_runS (As := As) (rest := st) (Ts := mT) ⟨o.1, o.2.1, rfl, o.2.2.2.1, hts⟩ hc ⟨cw.B hts hR, hts _ hs⟩ (cPre o h1 h2) rfl hnn h3.1 hst (lv_room h8) d hk) kk kx
theorem v_callV {index nn maxL b ci N : Nat} {C : String} {T : u_T} {ty : Nat → FieldType} {fs : List Value} {y : MethodName} {bytes : ByteArray} {ret : Option FieldType} {rm : Room} {post' : Option Value → mM → Nat → Prop} {ex' : String → mM → Nat → Prop} {st0 : List Value} (As : List Value) (st : List Value) (o : Ok p l s m args meth c g cc nL own) (d : decode cc pc = .ok (.invokevirtual index, 3)) (cw : CW own index y bytes maxL ret nn) (hi : Cond.instanceMethod y ∈ mT) (hs : Cond.selects C y y ∈ mT) (cf : CF ci C T N ty) (he : μ b = some (.inr (ci, fs))) (hc : Ct l g y [Cond.code y bytes maxL ret] rm (.ref b :: As) μ z post' ex') (hst : st0 = As.reverse ++ .ref b :: st) (hnn : As.length = nn) (hR : rm.frames + 1 ≤ R.frames ∧ 8 + (maxL + 11) + rm.locals ≤ R.locals) (hk : k + rm.cells ≤ R.cells ∧ n + rm.slots ≤ R.slots) (h8 : (st.map fun v => v.category).sum ≤ 8)
    (kk : ∀ r μ' z', z ≤ z' → post' r μ' z' → V p l e R s m args below meth c Q g μ' z' (k + rm.cells) (n + rm.slots) (pc + 3) lv (r.toList ++ st))
    (kx : ∀ E μ' z', z ≤ z' → ex' E μ' z' → VX p l e R s m args below meth c Q g μ' z' (k + rm.cells) (n + rm.slots) pc lv E) : V p l e R s m args below meth c Q g μ z k n pc lv st0 := by
  have hts := o.2.2.2.2.2.2.2.2
  exact v_core (fun H locs ls h1 h2 h3 => vx_runV (C := C) (As := As) (rest := st) (Ts := mT) ⟨o.1, o.2.1, rfl, o.2.2.2.1, hts⟩ hc ⟨cw.B hts hR, hts _ hi, hts _ hs⟩ ⟨(cPre o h1 h2).1, va_recv o.2.2.2.2.1.1 (h1.one he) cf.1 (q0 := 0) rfl, (cPre o h1 h2).2⟩ rfl hnn h3.1 hst (lv_room h8) d hk) kk kx
theorem v_callI {index nn maxL b : Nat} {y : MethodName} {bytes : ByteArray} {rm : Room} {post' : Option Value → mM → Nat → Prop} {ex' : String → mM → Nat → Prop} {st0 : List Value} (As : List Value) (st : List Value) (o : Ok p l s m args meth c g cc nL own) (d : decode cc pc = .ok (.invokespecial index, 3)) (cw : CW own index y bytes maxL none nn) (hy : y.name = "<init>") (hi : Cond.instanceMethod y ∈ mT) (hc : Ct l g y [Cond.code y bytes maxL none] rm (.ref b :: As) μ z post' ex') (hst : st0 = As.reverse ++ .ref b :: st) (hnn : As.length = nn) (hR : rm.frames + 1 ≤ R.frames ∧ 8 + (maxL + 11) + rm.locals ≤ R.locals) (hk : k + rm.cells ≤ R.cells ∧ n + rm.slots ≤ R.slots) (h8 : (st.map fun v => v.category).sum ≤ 8)
    (kk : ∀ r μ' z', z ≤ z' → post' r μ' z' → V p l e R s m args below meth c Q g μ' z' (k + rm.cells) (n + rm.slots) (pc + 3) lv (r.toList ++ st))
    (kx : ∀ E μ' z', z ≤ z' → ex' E μ' z' → VX p l e R s m args below meth c Q g μ' z' (k + rm.cells) (n + rm.slots) pc lv E) : V p l e R s m args below meth c Q g μ z k n pc lv st0 := by
  have hts := o.2.2.2.2.2.2.2.2
  exact v_core (fun H locs ls h1 h2 h3 => vx_runI (As := As) (rest := st) (Ts := mT) ⟨o.1, o.2.1, rfl, o.2.2.2.1, hts⟩ hc ⟨cw.B hts hR, hy, hts _ hi⟩ (cPre o h1 h2) rfl hnn h3.1 hst (lv_room h8) d hk) kk kx
end MKB
end
section
set_option maxRecDepth 20000 in
theorem cf0 : CF 0 RX0 TX0 8 tyX0 := ⟨rfl, by decide +kernel, tyX0_ok, nmX0, by decide +kernel⟩
set_option maxRecDepth 20000 in
theorem cf1 : CF 1 RX1 TX1 2 tyX1 := ⟨rfl, by decide +kernel, tyX1_ok, nmX1, by decide +kernel⟩
set_option maxRecDepth 20000 in
theorem cf2 : CF 2 RX2 TX2 10 tyX2 := ⟨rfl, by decide +kernel, tyX2_ok, nmX2, by decide +kernel⟩
set_option maxRecDepth 20000 in
theorem cf3 : CF 3 RX3 TX3 1 tyX3 := ⟨rfl, by decide +kernel, tyX3_ok, nmX3, by decide +kernel⟩
set_option maxRecDepth 20000 in
theorem cf4 : CF 4 RX4 TX4 4 tyX4 := ⟨rfl, by decide +kernel, tyX4_ok, nmX4, by decide +kernel⟩
set_option maxRecDepth 20000 in
theorem cf5 : CF 5 RX5 TX5 9 tyX5 := ⟨rfl, by decide +kernel, tyX5_ok, nmX5, by decide +kernel⟩
set_option maxRecDepth 20000 in
theorem cf6 : CF 6 RX6 TX6 30 tyX6 := ⟨rfl, by decide +kernel, tyX6_ok, nmX6, by decide +kernel⟩
theorem ml_X0_3 : Cond.methodLink RX0 3 objectInit ∈ mT := mT_in 227 (by decide +kernel) rfl
theorem cl_X0_9 : Cond.classLink RX0 9 "ScanningHouse$Page" ∈ mT := mT_in 228 (by decide +kernel) rfl
theorem fl_X0_11 : Cond.fieldLink RX0 11 (TX0 0).1 (TX0 0).2.1 (TX0 0).2.2.1 ∈ mT := mT_in 283 (by decide +kernel) rfl
theorem ml_X0_17 : Cond.methodLink RX0 17 yX2_init ∈ mT := mT_in 231 (by decide +kernel) rfl
theorem co_X2_init : Cond.code yX2_init cX2_init 2 none ∈ mT := mT_in 233 (by decide +kernel) rfl
theorem ini_X2 : Cond.initialized RX2 ∈ mT := mT_in 13 (by decide +kernel) rfl
theorem cw_X0_17 : CW RX0 17 yX2_init cX2_init 2 none 0 := ⟨ml_X0_17, co_X2_init, ini_X2, by decide +kernel, by decide +kernel⟩
theorem im_X2_init : Cond.instanceMethod yX2_init ∈ mT := mT_in 232 (by decide +kernel) rfl
theorem fl_X0_18 : Cond.fieldLink RX0 18 (TX0 1).1 (TX0 1).2.1 (TX0 1).2.2.1 ∈ mT := mT_in 285 (by decide +kernel) rfl
theorem fl_X0_22 : Cond.fieldLink RX0 22 (TX0 3).1 (TX0 3).2.1 (TX0 3).2.2.1 ∈ mT := mT_in 288 (by decide +kernel) rfl
theorem fl_X0_25 : Cond.fieldLink RX0 25 (TX0 2).1 (TX0 2).2.1 (TX0 2).2.2.1 ∈ mT := mT_in 287 (by decide +kernel) rfl
theorem fl_X0_28 : Cond.fieldLink RX0 28 (TX0 4).1 (TX0 4).2.1 (TX0 4).2.2.1 ∈ mT := mT_in 290 (by decide +kernel) rfl
theorem ml_X0_31 : Cond.methodLink RX0 31 yX0_countShotPages ∈ mT := mT_in 111 (by decide +kernel) rfl
theorem co_X0_countShotPages : Cond.code yX0_countShotPages cX0_countShotPages 6 (some .int) ∈ mT := mT_in 114 (by decide +kernel) rfl
theorem ini_X0 : Cond.initialized RX0 ∈ mT := mT_in 12 (by decide +kernel) rfl
theorem cw_X0_31 : CW RX0 31 yX0_countShotPages cX0_countShotPages 6 (some .int) 0 := ⟨ml_X0_31, co_X0_countShotPages, ini_X0, by decide +kernel, by decide +kernel⟩
theorem im_X0_countShotPages : Cond.instanceMethod yX0_countShotPages ∈ mT := mT_in 112 (by decide +kernel) rfl
theorem se_X0_countShotPages : Cond.selects RX0 yX0_countShotPages yX0_countShotPages ∈ mT := mT_in 113 (by decide +kernel) rfl
theorem fl_X0_35 : Cond.fieldLink RX0 35 (TX2 0).1 (TX2 0).2.1 (TX2 0).2.2.1 ∈ mT := mT_in 239 (by decide +kernel) rfl
theorem fl_X0_39 : Cond.fieldLink RX0 39 (TX2 2).1 (TX2 2).2.1 (TX2 2).2.2.1 ∈ mT := mT_in 245 (by decide +kernel) rfl
theorem ml_X0_42 : Cond.methodLink RX0 42 yX2_hasNoCopyLeft ∈ mT := mT_in 690 (by decide +kernel) rfl
theorem co_X2_hasNoCopyLeft : Cond.code yX2_hasNoCopyLeft cX2_hasNoCopyLeft 1 (some .boolean) ∈ mT := mT_in 478 (by decide +kernel) rfl
theorem cw_X0_42 : CW RX0 42 yX2_hasNoCopyLeft cX2_hasNoCopyLeft 1 (some .boolean) 0 := ⟨ml_X0_42, co_X2_hasNoCopyLeft, ini_X2, by decide +kernel, by decide +kernel⟩
theorem im_X2_hasNoCopyLeft : Cond.instanceMethod yX2_hasNoCopyLeft ∈ mT := mT_in 476 (by decide +kernel) rfl
theorem se_X2_hasNoCopyLeft : Cond.selects RX2 yX2_hasNoCopyLeft yX2_hasNoCopyLeft ∈ mT := mT_in 477 (by decide +kernel) rfl
theorem fl_X0_46 : Cond.fieldLink RX0 46 (TX2 4).1 (TX2 4).2.1 (TX2 4).2.2.1 ∈ mT := mT_in 248 (by decide +kernel) rfl
theorem fl_X0_50 : Cond.fieldLink RX0 50 (TX2 9).1 (TX2 9).2.1 (TX2 9).2.2.1 ∈ mT := mT_in 260 (by decide +kernel) rfl
theorem fl_X0_54 : Cond.fieldLink RX0 54 (TX2 8).1 (TX2 8).2.1 (TX2 8).2.2.1 ∈ mT := mT_in 257 (by decide +kernel) rfl
theorem ml_X1_3 : Cond.methodLink RX1 3 objectInit ∈ mT := mT_in 64 (by decide +kernel) rfl
theorem fl_X1_9 : Cond.fieldLink RX1 9 (TX1 0).1 (TX1 0).2.1 (TX1 0).2.2.1 ∈ mT := mT_in 65 (by decide +kernel) rfl
theorem ml_X1_15 : Cond.methodLink RX1 15 yJ7_fill_53178 ∈ mT := mT_in 603 (by decide +kernel) rfl
theorem fl_X1_21 : Cond.fieldLink RX1 21 (TX1 1).1 (TX1 1).2.1 (TX1 1).2.2.1 ∈ mT := mT_in 66 (by decide +kernel) rfl
theorem ml_X1_25 : Cond.methodLink RX1 25 Lib.Math.max.name ∈ mT := mT_in 623 (by decide +kernel) rfl
theorem ml_X2_3 : Cond.methodLink RX2 3 objectInit ∈ mT := mT_in 234 (by decide +kernel) rfl
theorem fl_X2_9 : Cond.fieldLink RX2 9 (TX2 4).1 (TX2 4).2.1 (TX2 4).2.2.1 ∈ mT := mT_in 247 (by decide +kernel) rfl
theorem fl_X2_15 : Cond.fieldLink RX2 15 (TX2 5).1 (TX2 5).2.1 (TX2 5).2.2.1 ∈ mT := mT_in 250 (by decide +kernel) rfl
theorem fl_X2_19 : Cond.fieldLink RX2 19 (TX2 8).1 (TX2 8).2.1 (TX2 8).2.2.1 ∈ mT := mT_in 256 (by decide +kernel) rfl
theorem cl_X2_23 : Cond.classLink RX2 23 "[[I" ∈ mT := mT_in 235 (by decide +kernel) rfl
theorem fl_X2_25 : Cond.fieldLink RX2 25 (TX2 9).1 (TX2 9).2.1 (TX2 9).2.2.1 ∈ mT := mT_in 259 (by decide +kernel) rfl
theorem ml_X2_28 : Cond.methodLink RX2 28 yJ7_fill_53178 ∈ mT := mT_in 237 (by decide +kernel) rfl
theorem fl_X2_34 : Cond.fieldLink RX2 34 (TX2 0).1 (TX2 0).2.1 (TX2 0).2.2.1 ∈ mT := mT_in 238 (by decide +kernel) rfl
theorem fl_X2_38 : Cond.fieldLink RX2 38 (TX2 1).1 (TX2 1).2.1 (TX2 1).2.2.1 ∈ mT := mT_in 241 (by decide +kernel) rfl
theorem fl_X2_41 : Cond.fieldLink RX2 41 (TX2 2).1 (TX2 2).2.1 (TX2 2).2.2.1 ∈ mT := mT_in 243 (by decide +kernel) rfl
theorem fl_X2_44 : Cond.fieldLink RX2 44 (TX2 3).1 (TX2 3).2.1 (TX2 3).2.2.1 ∈ mT := mT_in 246 (by decide +kernel) rfl
theorem ml_X2_48 : Cond.methodLink RX2 48 yX2_proofOf ∈ mT := mT_in 390 (by decide +kernel) rfl
theorem co_X2_proofOf : Cond.code yX2_proofOf cX2_proofOf 2 (some .long) ∈ mT := mT_in 392 (by decide +kernel) rfl
theorem cw_X2_48 : CW RX2 48 yX2_proofOf cX2_proofOf 2 (some .long) 1 := ⟨ml_X2_48, co_X2_proofOf, ini_X2, by decide +kernel, by decide +kernel⟩
theorem st_X2_proofOf : Cond.static yX2_proofOf ∈ mT := mT_in 391 (by decide +kernel) rfl
theorem ml_X2_52 : Cond.methodLink RX2 52 yX2_copyProof ∈ mT := mT_in 386 (by decide +kernel) rfl
theorem co_X2_copyProof : Cond.code yX2_copyProof cX2_copyProof 2 (some .long) ∈ mT := mT_in 389 (by decide +kernel) rfl
theorem cw_X2_52 : CW RX2 52 yX2_copyProof cX2_copyProof 2 (some .long) 1 := ⟨ml_X2_52, co_X2_copyProof, ini_X2, by decide +kernel, by decide +kernel⟩
theorem im_X2_copyProof : Cond.instanceMethod yX2_copyProof ∈ mT := mT_in 387 (by decide +kernel) rfl
theorem se_X2_copyProof : Cond.selects RX2 yX2_copyProof yX2_copyProof ∈ mT := mT_in 388 (by decide +kernel) rfl
theorem ml_X2_56 : Cond.methodLink RX2 56 yX2_imageProof ∈ mT := mT_in 395 (by decide +kernel) rfl
theorem co_X2_imageProof : Cond.code yX2_imageProof cX2_imageProof 1 (some .long) ∈ mT := mT_in 398 (by decide +kernel) rfl
theorem cw_X2_56 : CW RX2 56 yX2_imageProof cX2_imageProof 1 (some .long) 0 := ⟨ml_X2_56, co_X2_imageProof, ini_X2, by decide +kernel, by decide +kernel⟩
theorem im_X2_imageProof : Cond.instanceMethod yX2_imageProof ∈ mT := mT_in 396 (by decide +kernel) rfl
theorem se_X2_imageProof : Cond.selects RX2 yX2_imageProof yX2_imageProof ∈ mT := mT_in 397 (by decide +kernel) rfl
theorem ml_X2_60 : Cond.methodLink RX2 60 yX2_lowestVaultThatHolds ∈ mT := mT_in 456 (by decide +kernel) rfl
theorem co_X2_lowestVaultThatHolds : Cond.code yX2_lowestVaultThatHolds cX2_lowestVaultThatHolds 2 (some .int) ∈ mT := mT_in 459 (by decide +kernel) rfl
theorem cw_X2_60 : CW RX2 60 yX2_lowestVaultThatHolds cX2_lowestVaultThatHolds 2 (some .int) 0 := ⟨ml_X2_60, co_X2_lowestVaultThatHolds, ini_X2, by decide +kernel, by decide +kernel⟩
theorem im_X2_lowestVaultThatHolds : Cond.instanceMethod yX2_lowestVaultThatHolds ∈ mT := mT_in 458 (by decide +kernel) rfl
theorem se_X2_lowestVaultThatHolds : Cond.selects RX2 yX2_lowestVaultThatHolds yX2_lowestVaultThatHolds ∈ mT := mT_sel (q := (yX2_lowestVaultThatHolds, 10)) (by decide +kernel) (by decide +kernel)
theorem ml_X2_64 : Cond.methodLink RX2 64 yX2_holdsIn ∈ mT := mT_in 455 (by decide +kernel) rfl
theorem co_X2_holdsIn : Cond.code yX2_holdsIn cX2_holdsIn 2 (some .boolean) ∈ mT := mT_in 385 (by decide +kernel) rfl
theorem cw_X2_64 : CW RX2 64 yX2_holdsIn cX2_holdsIn 2 (some .boolean) 1 := ⟨ml_X2_64, co_X2_holdsIn, ini_X2, by decide +kernel, by decide +kernel⟩
theorem im_X2_holdsIn : Cond.instanceMethod yX2_holdsIn ∈ mT := mT_in 383 (by decide +kernel) rfl
theorem se_X2_holdsIn : Cond.selects RX2 yX2_holdsIn yX2_holdsIn ∈ mT := mT_in 384 (by decide +kernel) rfl
theorem ml_X2_68 : Cond.methodLink RX2 68 yX2_putCopy ∈ mT := mT_in 460 (by decide +kernel) rfl
theorem co_X2_putCopy : Cond.code yX2_putCopy cX2_putCopy 4 none ∈ mT := mT_in 354 (by decide +kernel) rfl
theorem cw_X2_68 : CW RX2 68 yX2_putCopy cX2_putCopy 4 none 2 := ⟨ml_X2_68, co_X2_putCopy, ini_X2, by decide +kernel, by decide +kernel⟩
theorem im_X2_putCopy : Cond.instanceMethod yX2_putCopy ∈ mT := mT_in 352 (by decide +kernel) rfl
theorem se_X2_putCopy : Cond.selects RX2 yX2_putCopy yX2_putCopy ∈ mT := mT_in 353 (by decide +kernel) rfl
theorem ct_X2_72 : Cond.constantLong RX2 72 6364136223846793005 ∈ mT := mT_in 393 (by decide +kernel) rfl
theorem ct_X2_74 : Cond.constantLong RX2 74 1442695040888963407 ∈ mT := mT_in 394 (by decide +kernel) rfl
theorem ml_X3_3 : Cond.methodLink RX3 3 objectInit ∈ mT := mT_in 53 (by decide +kernel) rfl
theorem fl_X3_9 : Cond.fieldLink RX3 9 (TX3 0).1 (TX3 0).2.1 (TX3 0).2.2.1 ∈ mT := mT_in 54 (by decide +kernel) rfl
theorem ml_X3_15 : Cond.methodLink RX3 15 yX3_fillFrom ∈ mT := mT_in 503 (by decide +kernel) rfl
theorem co_X3_fillFrom : Cond.code yX3_fillFrom cX3_fillFrom 6 (some .boolean) ∈ mT := mT_in 505 (by decide +kernel) rfl
theorem ini_X3 : Cond.initialized RX3 ∈ mT := mT_in 3 (by decide +kernel) rfl
theorem cw_X3_15 : CW RX3 15 yX3_fillFrom cX3_fillFrom 6 (some .boolean) 4 := ⟨ml_X3_15, co_X3_fillFrom, ini_X3, by decide +kernel, by decide +kernel⟩
theorem st_X3_fillFrom : Cond.static yX3_fillFrom ∈ mT := mT_in 504 (by decide +kernel) rfl
theorem ml_X3_19 : Cond.methodLink RX3 19 yX3_leadsTo ∈ mT := mT_in 506 (by decide +kernel) rfl
theorem co_X3_leadsTo : Cond.code yX3_leadsTo cX3_leadsTo 3 (some .boolean) ∈ mT := mT_in 508 (by decide +kernel) rfl
theorem cw_X3_19 : CW RX3 19 yX3_leadsTo cX3_leadsTo 3 (some .boolean) 3 := ⟨ml_X3_19, co_X3_leadsTo, ini_X3, by decide +kernel, by decide +kernel⟩
theorem st_X3_leadsTo : Cond.static yX3_leadsTo ∈ mT := mT_in 507 (by decide +kernel) rfl
theorem ml_X3_23 : Cond.methodLink RX3 23 yX3_isOrderOf ∈ mT := mT_in 524 (by decide +kernel) rfl
theorem co_X3_isOrderOf : Cond.code yX3_isOrderOf cX3_isOrderOf 3 (some .boolean) ∈ mT := mT_in 527 (by decide +kernel) rfl
theorem cw_X3_23 : CW RX3 23 yX3_isOrderOf cX3_isOrderOf 3 (some .boolean) 1 := ⟨ml_X3_23, co_X3_isOrderOf, ini_X3, by decide +kernel, by decide +kernel⟩
theorem im_X3_isOrderOf : Cond.instanceMethod yX3_isOrderOf ∈ mT := mT_in 526 (by decide +kernel) rfl
theorem se_X3_isOrderOf : Cond.selects RX3 yX3_isOrderOf yX3_isOrderOf ∈ mT := mT_sel (q := (yX3_isOrderOf, 1)) (by decide +kernel) (by decide +kernel)
theorem ml_X3_27 : Cond.methodLink RX3 27 yX3_stepToNextRow ∈ mT := mT_in 528 (by decide +kernel) rfl
theorem co_X3_stepToNextRow : Cond.code yX3_stepToNextRow cX3_stepToNextRow 6 (some .boolean) ∈ mT := mT_in 531 (by decide +kernel) rfl
theorem cw_X3_27 : CW RX3 27 yX3_stepToNextRow cX3_stepToNextRow 6 (some .boolean) 1 := ⟨ml_X3_27, co_X3_stepToNextRow, ini_X3, by decide +kernel, by decide +kernel⟩
theorem im_X3_stepToNextRow : Cond.instanceMethod yX3_stepToNextRow ∈ mT := mT_in 530 (by decide +kernel) rfl
theorem se_X3_stepToNextRow : Cond.selects RX3 yX3_stepToNextRow yX3_stepToNextRow ∈ mT := mT_sel (q := (yX3_stepToNextRow, 1)) (by decide +kernel) (by decide +kernel)
theorem fl_X3_31 : Cond.fieldLink RX3 31 (TX2 7).1 (TX2 7).2.1 (TX2 7).2.2.1 ∈ mT := mT_in 254 (by decide +kernel) rfl
theorem fl_X3_37 : Cond.fieldLink RX3 37 (TX2 6).1 (TX2 6).2.1 (TX2 6).2.2.1 ∈ mT := mT_in 252 (by decide +kernel) rfl
theorem ml_X3_40 : Cond.methodLink RX3 40 yX3_swap ∈ mT := mT_in 532 (by decide +kernel) rfl
theorem co_X3_swap : Cond.code yX3_swap cX3_swap 4 none ∈ mT := mT_in 535 (by decide +kernel) rfl
theorem cw_X3_40 : CW RX3 40 yX3_swap cX3_swap 4 none 2 := ⟨ml_X3_40, co_X3_swap, ini_X3, by decide +kernel, by decide +kernel⟩
theorem im_X3_swap : Cond.instanceMethod yX3_swap ∈ mT := mT_in 534 (by decide +kernel) rfl
theorem se_X3_swap : Cond.selects RX3 yX3_swap yX3_swap ∈ mT := mT_sel (q := (yX3_swap, 1)) (by decide +kernel) (by decide +kernel)
theorem ml_X4_1 : Cond.methodLink RX4 1 objectInit ∈ mT := mT_in 31 (by decide +kernel) rfl
theorem fl_X4_9 : Cond.fieldLink RX4 9 (TX4 0).1 (TX4 0).2.1 (TX4 0).2.2.1 ∈ mT := mT_in 32 (by decide +kernel) rfl
theorem fl_X4_13 : Cond.fieldLink RX4 13 (TX4 1).1 (TX4 1).2.1 (TX4 1).2.2.1 ∈ mT := mT_in 33 (by decide +kernel) rfl
theorem fl_X4_16 : Cond.fieldLink RX4 16 (TX4 2).1 (TX4 2).2.1 (TX4 2).2.2.1 ∈ mT := mT_in 34 (by decide +kernel) rfl
theorem ml_X4_20 : Cond.methodLink RX4 20 yX2_imageProof ∈ mT := mT_in 434 (by decide +kernel) rfl
theorem cw_X4_20 : CW RX4 20 yX2_imageProof cX2_imageProof 1 (some .long) 0 := ⟨ml_X4_20, co_X2_imageProof, ini_X2, by decide +kernel, by decide +kernel⟩
theorem ml_X4_26 : Cond.methodLink RX4 26 yX2_copyProof ∈ mT := mT_in 435 (by decide +kernel) rfl
theorem cw_X4_26 : CW RX4 26 yX2_copyProof cX2_copyProof 2 (some .long) 1 := ⟨ml_X4_26, co_X2_copyProof, ini_X2, by decide +kernel, by decide +kernel⟩
theorem ml_X4_30 : Cond.methodLink RX4 30 yX4_joinUpwards ∈ mT := mT_in 436 (by decide +kernel) rfl
theorem co_X4_joinUpwards : Cond.code yX4_joinUpwards cX4_joinUpwards 2 none ∈ mT := mT_in 438 (by decide +kernel) rfl
theorem ini_X4 : Cond.initialized RX4 ∈ mT := mT_in 2 (by decide +kernel) rfl
theorem cw_X4_30 : CW RX4 30 yX4_joinUpwards cX4_joinUpwards 2 none 1 := ⟨ml_X4_30, co_X4_joinUpwards, ini_X4, by decide +kernel, by decide +kernel⟩
theorem st_X4_joinUpwards : Cond.static yX4_joinUpwards ∈ mT := mT_in 437 (by decide +kernel) rfl
theorem ct_X4_34 : Cond.constantLong RX4 34 31 ∈ mT := mT_in 439 (by decide +kernel) rfl
theorem fl_X4_36 : Cond.fieldLink RX4 36 (TX4 3).1 (TX4 3).2.1 (TX4 3).2.2.1 ∈ mT := mT_in 35 (by decide +kernel) rfl
theorem ml_X5_1 : Cond.methodLink RX5 1 objectInit ∈ mT := mT_in 21 (by decide +kernel) rfl
theorem cl_X5_9 : Cond.classLink RX5 9 "ScanningHouse$Book" ∈ mT := mT_in 24 (by decide +kernel) rfl
theorem fl_X5_11 : Cond.fieldLink RX5 11 (TX5 0).1 (TX5 0).2.1 (TX5 0).2.2.1 ∈ mT := mT_in 75 (by decide +kernel) rfl
theorem fl_X5_15 : Cond.fieldLink RX5 15 (TX5 3).1 (TX5 3).2.1 (TX5 3).2.2.1 ∈ mT := mT_in 78 (by decide +kernel) rfl
theorem cl_X5_19 : Cond.classLink RX5 19 "ScanningHouse$ProofTrees" ∈ mT := mT_in 26 (by decide +kernel) rfl
theorem ml_X5_21 : Cond.methodLink RX5 21 yX4_init ∈ mT := mT_in 28 (by decide +kernel) rfl
theorem co_X4_init : Cond.code yX4_init cX4_init 1 none ∈ mT := mT_in 30 (by decide +kernel) rfl
theorem cw_X5_21 : CW RX5 21 yX4_init cX4_init 1 none 0 := ⟨ml_X5_21, co_X4_init, ini_X4, by decide +kernel, by decide +kernel⟩
theorem im_X4_init : Cond.instanceMethod yX4_init ∈ mT := mT_in 29 (by decide +kernel) rfl
theorem fl_X5_22 : Cond.fieldLink RX5 22 (TX5 4).1 (TX5 4).2.1 (TX5 4).2.2.1 ∈ mT := mT_in 79 (by decide +kernel) rfl
theorem cl_X5_26 : Cond.classLink RX5 26 "ScanningHouse$PageRow" ∈ mT := mT_in 48 (by decide +kernel) rfl
theorem ml_X5_28 : Cond.methodLink RX5 28 yX3_init ∈ mT := mT_in 50 (by decide +kernel) rfl
theorem co_X3_init : Cond.code yX3_init cX3_init 1 none ∈ mT := mT_in 52 (by decide +kernel) rfl
theorem cw_X5_28 : CW RX5 28 yX3_init cX3_init 1 none 0 := ⟨ml_X5_28, co_X3_init, ini_X3, by decide +kernel, by decide +kernel⟩
theorem im_X3_init : Cond.instanceMethod yX3_init ∈ mT := mT_in 51 (by decide +kernel) rfl
theorem fl_X5_29 : Cond.fieldLink RX5 29 (TX5 5).1 (TX5 5).2.1 (TX5 5).2.2.1 ∈ mT := mT_in 80 (by decide +kernel) rfl
theorem cl_X5_33 : Cond.classLink RX5 33 "ScanningHouse$LetterScale" ∈ mT := mT_in 59 (by decide +kernel) rfl
theorem ml_X5_35 : Cond.methodLink RX5 35 yX1_init ∈ mT := mT_in 61 (by decide +kernel) rfl
theorem co_X1_init : Cond.code yX1_init cX1_init 1 none ∈ mT := mT_in 63 (by decide +kernel) rfl
theorem ini_X1 : Cond.initialized RX1 ∈ mT := mT_in 4 (by decide +kernel) rfl
theorem cw_X5_35 : CW RX5 35 yX1_init cX1_init 1 none 0 := ⟨ml_X5_35, co_X1_init, ini_X1, by decide +kernel, by decide +kernel⟩
theorem im_X1_init : Cond.instanceMethod yX1_init ∈ mT := mT_in 62 (by decide +kernel) rfl
theorem fl_X5_36 : Cond.fieldLink RX5 36 (TX5 6).1 (TX5 6).2.1 (TX5 6).2.2.1 ∈ mT := mT_in 81 (by decide +kernel) rfl
theorem fl_X5_40 : Cond.fieldLink RX5 40 (TX5 7).1 (TX5 7).2.1 (TX5 7).2.2.1 ∈ mT := mT_in 82 (by decide +kernel) rfl
theorem fl_X5_44 : Cond.fieldLink RX5 44 (TX5 8).1 (TX5 8).2.1 (TX5 8).2.2.1 ∈ mT := mT_in 83 (by decide +kernel) rfl
theorem ml_X5_48 : Cond.methodLink RX5 48 yJ7_fill_53178 ∈ mT := mT_in 72 (by decide +kernel) rfl
theorem ml_X5_54 : Cond.methodLink RX5 54 yX5_needArgument ∈ mT := mT_in 136 (by decide +kernel) rfl
theorem co_X5_needArgument : Cond.code yX5_needArgument cX5_needArgument 3 none ∈ mT := mT_in 138 (by decide +kernel) rfl
theorem ini_X5 : Cond.initialized RX5 ∈ mT := mT_in 1 (by decide +kernel) rfl
theorem cw_X5_54 : CW RX5 54 yX5_needArgument cX5_needArgument 3 none 3 := ⟨ml_X5_54, co_X5_needArgument, ini_X5, by decide +kernel, by decide +kernel⟩
theorem st_X5_needArgument : Cond.static yX5_needArgument ∈ mT := mT_in 137 (by decide +kernel) rfl
theorem fl_X5_58 : Cond.fieldLink RX5 58 (TX5 1).1 (TX5 1).2.1 (TX5 1).2.2.1 ∈ mT := mT_in 76 (by decide +kernel) rfl
theorem cl_X5_61 : Cond.classLink RX5 61 "java/lang/IllegalStateException" ∈ mT := mT_in 207 (by decide +kernel) rfl
theorem ml_X5_68 : Cond.methodLink RX5 68 yX0_init ∈ mT := mT_in 224 (by decide +kernel) rfl
theorem co_X0_init : Cond.code yX0_init cX0_init 7 none ∈ mT := mT_in 226 (by decide +kernel) rfl
theorem cw_X5_68 : CW RX5 68 yX0_init cX0_init 7 none 5 := ⟨ml_X5_68, co_X0_init, ini_X0, by decide +kernel, by decide +kernel⟩
theorem im_X0_init : Cond.instanceMethod yX0_init ∈ mT := mT_in 225 (by decide +kernel) rfl
theorem ml_X5_71 : Cond.methodLink RX5 71 yX0_waitsForWork ∈ mT := mT_in 107 (by decide +kernel) rfl
theorem co_X0_waitsForWork : Cond.code yX0_waitsForWork cX0_waitsForWork 1 (some .boolean) ∈ mT := mT_in 110 (by decide +kernel) rfl
theorem cw_X5_71 : CW RX5 71 yX0_waitsForWork cX0_waitsForWork 1 (some .boolean) 0 := ⟨ml_X5_71, co_X0_waitsForWork, ini_X0, by decide +kernel, by decide +kernel⟩
theorem im_X0_waitsForWork : Cond.instanceMethod yX0_waitsForWork ∈ mT := mT_in 108 (by decide +kernel) rfl
theorem se_X0_waitsForWork : Cond.selects RX0 yX0_waitsForWork yX0_waitsForWork ∈ mT := mT_in 109 (by decide +kernel) rfl
theorem ml_X5_75 : Cond.methodLink RX5 75 yX0_goesBefore ∈ mT := mT_in 115 (by decide +kernel) rfl
theorem co_X0_goesBefore : Cond.code yX0_goesBefore cX0_goesBefore 2 (some .boolean) ∈ mT := mT_in 118 (by decide +kernel) rfl
theorem cw_X5_75 : CW RX5 75 yX0_goesBefore cX0_goesBefore 2 (some .boolean) 1 := ⟨ml_X5_75, co_X0_goesBefore, ini_X0, by decide +kernel, by decide +kernel⟩
theorem im_X0_goesBefore : Cond.instanceMethod yX0_goesBefore ∈ mT := mT_in 116 (by decide +kernel) rfl
theorem se_X0_goesBefore : Cond.selects RX0 yX0_goesBefore yX0_goesBefore ∈ mT := mT_in 117 (by decide +kernel) rfl
theorem ml_X5_79 : Cond.methodLink RX5 79 yX5_bookAt ∈ mT := mT_in 320 (by decide +kernel) rfl
theorem co_X5_bookAt : Cond.code yX5_bookAt cX5_bookAt 3 (some (.object "ScanningHouse$Book")) ∈ mT := mT_in 323 (by decide +kernel) rfl
theorem cw_X5_79 : CW RX5 79 yX5_bookAt cX5_bookAt 3 (some (.object "ScanningHouse$Book")) 1 := ⟨ml_X5_79, co_X5_bookAt, ini_X5, by decide +kernel, by decide +kernel⟩
theorem im_X5_bookAt : Cond.instanceMethod yX5_bookAt ∈ mT := mT_in 322 (by decide +kernel) rfl
theorem se_X5_bookAt : Cond.selects RX5 yX5_bookAt yX5_bookAt ∈ mT := mT_sel (q := (yX5_bookAt, 9)) (by decide +kernel) (by decide +kernel)
theorem ml_X5_83 : Cond.methodLink RX5 83 yX5_pageAt ∈ mT := mT_in 340 (by decide +kernel) rfl
theorem co_X5_pageAt : Cond.code yX5_pageAt cX5_pageAt 2 (some (.object "ScanningHouse$Page")) ∈ mT := mT_in 342 (by decide +kernel) rfl
theorem cw_X5_83 : CW RX5 83 yX5_pageAt cX5_pageAt 2 (some (.object "ScanningHouse$Page")) 2 := ⟨ml_X5_83, co_X5_pageAt, ini_X5, by decide +kernel, by decide +kernel⟩
theorem st_X5_pageAt : Cond.static yX5_pageAt ∈ mT := mT_in 341 (by decide +kernel) rfl
theorem fl_X5_87 : Cond.fieldLink RX5 87 (TX0 1).1 (TX0 1).2.1 (TX0 1).2.2.1 ∈ mT := mT_in 286 (by decide +kernel) rfl
theorem fl_X5_92 : Cond.fieldLink RX5 92 (TX0 3).1 (TX0 3).2.1 (TX0 3).2.2.1 ∈ mT := mT_in 289 (by decide +kernel) rfl
theorem fl_X5_97 : Cond.fieldLink RX5 97 (TX2 0).1 (TX2 0).2.1 (TX2 0).2.2.1 ∈ mT := mT_in 240 (by decide +kernel) rfl
theorem fl_X5_103 : Cond.fieldLink RX5 103 (TX2 2).1 (TX2 2).2.1 (TX2 2).2.2.1 ∈ mT := mT_in 244 (by decide +kernel) rfl
theorem fl_X5_108 : Cond.fieldLink RX5 108 (TX0 5).1 (TX0 5).2.1 (TX0 5).2.2.1 ∈ mT := mT_in 292 (by decide +kernel) rfl
theorem fl_X5_111 : Cond.fieldLink RX5 111 (TX5 2).1 (TX5 2).2.1 (TX5 2).2.2.1 ∈ mT := mT_in 77 (by decide +kernel) rfl
theorem ml_X5_114 : Cond.methodLink RX5 114 yX2_takeShot ∈ mT := mT_in 347 (by decide +kernel) rfl
theorem co_X2_takeShot : Cond.code yX2_takeShot cX2_takeShot 4 none ∈ mT := mT_in 350 (by decide +kernel) rfl
theorem cw_X5_114 : CW RX5 114 yX2_takeShot cX2_takeShot 4 none 2 := ⟨ml_X5_114, co_X2_takeShot, ini_X2, by decide +kernel, by decide +kernel⟩
theorem im_X2_takeShot : Cond.instanceMethod yX2_takeShot ∈ mT := mT_in 348 (by decide +kernel) rfl
theorem se_X2_takeShot : Cond.selects RX2 yX2_takeShot yX2_takeShot ∈ mT := mT_in 349 (by decide +kernel) rfl
theorem ml_X5_118 : Cond.methodLink RX5 118 yX2_putCopy ∈ mT := mT_in 351 (by decide +kernel) rfl
theorem cw_X5_118 : CW RX5 118 yX2_putCopy cX2_putCopy 4 none 2 := ⟨ml_X5_118, co_X2_putCopy, ini_X2, by decide +kernel, by decide +kernel⟩
theorem fl_X5_124 : Cond.fieldLink RX5 124 (TX2 1).1 (TX2 1).2.1 (TX2 1).2.2.1 ∈ mT := mT_in 242 (by decide +kernel) rfl
theorem ml_X5_127 : Cond.methodLink RX5 127 yX5_needVault ∈ mT := mT_in 370 (by decide +kernel) rfl
theorem co_X5_needVault : Cond.code yX5_needVault cX5_needVault 1 none ∈ mT := mT_in 372 (by decide +kernel) rfl
theorem cw_X5_127 : CW RX5 127 yX5_needVault cX5_needVault 1 none 1 := ⟨ml_X5_127, co_X5_needVault, ini_X5, by decide +kernel, by decide +kernel⟩
theorem st_X5_needVault : Cond.static yX5_needVault ∈ mT := mT_in 371 (by decide +kernel) rfl
theorem ml_X5_131 : Cond.methodLink RX5 131 yX5_needCopy ∈ mT := mT_in 374 (by decide +kernel) rfl
theorem co_X5_needCopy : Cond.code yX5_needCopy cX5_needCopy 2 none ∈ mT := mT_in 376 (by decide +kernel) rfl
theorem cw_X5_131 : CW RX5 131 yX5_needCopy cX5_needCopy 2 none 2 := ⟨ml_X5_131, co_X5_needCopy, ini_X5, by decide +kernel, by decide +kernel⟩
theorem st_X5_needCopy : Cond.static yX5_needCopy ∈ mT := mT_in 375 (by decide +kernel) rfl
theorem ml_X5_135 : Cond.methodLink RX5 135 yX2_flipBit ∈ mT := mT_in 378 (by decide +kernel) rfl
theorem co_X2_flipBit : Cond.code yX2_flipBit cX2_flipBit 3 none ∈ mT := mT_in 381 (by decide +kernel) rfl
theorem cw_X5_135 : CW RX5 135 yX2_flipBit cX2_flipBit 3 none 2 := ⟨ml_X5_135, co_X2_flipBit, ini_X2, by decide +kernel, by decide +kernel⟩
theorem im_X2_flipBit : Cond.instanceMethod yX2_flipBit ∈ mT := mT_in 379 (by decide +kernel) rfl
theorem se_X2_flipBit : Cond.selects RX2 yX2_flipBit yX2_flipBit ∈ mT := mT_in 380 (by decide +kernel) rfl
theorem ml_X5_139 : Cond.methodLink RX5 139 yX2_holdsIn ∈ mT := mT_in 382 (by decide +kernel) rfl
theorem cw_X5_139 : CW RX5 139 yX2_holdsIn cX2_holdsIn 2 (some .boolean) 1 := ⟨ml_X5_139, co_X2_holdsIn, ini_X2, by decide +kernel, by decide +kernel⟩
theorem ml_X5_143 : Cond.methodLink RX5 143 yX5_needStandingVault ∈ mT := mT_in 406 (by decide +kernel) rfl
theorem co_X5_needStandingVault : Cond.code yX5_needStandingVault cX5_needStandingVault 2 none ∈ mT := mT_in 409 (by decide +kernel) rfl
theorem cw_X5_143 : CW RX5 143 yX5_needStandingVault cX5_needStandingVault 2 none 1 := ⟨ml_X5_143, co_X5_needStandingVault, ini_X5, by decide +kernel, by decide +kernel⟩
theorem im_X5_needStandingVault : Cond.instanceMethod yX5_needStandingVault ∈ mT := mT_in 408 (by decide +kernel) rfl
theorem se_X5_needStandingVault : Cond.selects RX5 yX5_needStandingVault yX5_needStandingVault ∈ mT := mT_sel (q := (yX5_needStandingVault, 9)) (by decide +kernel) (by decide +kernel)
theorem ml_X5_146 : Cond.methodLink RX5 146 yX0_dropCopies ∈ mT := mT_in 411 (by decide +kernel) rfl
theorem co_X0_dropCopies : Cond.code yX0_dropCopies cX0_dropCopies 7 (some .int) ∈ mT := mT_in 414 (by decide +kernel) rfl
theorem cw_X5_146 : CW RX5 146 yX0_dropCopies cX0_dropCopies 7 (some .int) 1 := ⟨ml_X5_146, co_X0_dropCopies, ini_X0, by decide +kernel, by decide +kernel⟩
theorem im_X0_dropCopies : Cond.instanceMethod yX0_dropCopies ∈ mT := mT_in 412 (by decide +kernel) rfl
theorem se_X0_dropCopies : Cond.selects RX0 yX0_dropCopies yX0_dropCopies ∈ mT := mT_in 413 (by decide +kernel) rfl
theorem fl_X5_152 : Cond.fieldLink RX5 152 (TX0 0).1 (TX0 0).2.1 (TX0 0).2.2.1 ∈ mT := mT_in 284 (by decide +kernel) rfl
theorem ml_X5_156 : Cond.methodLink RX5 156 yX4_plant ∈ mT := mT_in 430 (by decide +kernel) rfl
theorem co_X4_plant : Cond.code yX4_plant cX4_plant 5 none ∈ mT := mT_in 433 (by decide +kernel) rfl
theorem cw_X5_156 : CW RX5 156 yX4_plant cX4_plant 5 none 2 := ⟨ml_X5_156, co_X4_plant, ini_X4, by decide +kernel, by decide +kernel⟩
theorem im_X4_plant : Cond.instanceMethod yX4_plant ∈ mT := mT_in 431 (by decide +kernel) rfl
theorem se_X4_plant : Cond.selects RX4 yX4_plant yX4_plant ∈ mT := mT_in 432 (by decide +kernel) rfl
theorem ml_X5_160 : Cond.methodLink RX5 160 yX4_findUnlikeLeaves ∈ mT := mT_in 440 (by decide +kernel) rfl
theorem co_X4_findUnlikeLeaves : Cond.code yX4_findUnlikeLeaves cX4_findUnlikeLeaves 5 (some .int) ∈ mT := mT_in 443 (by decide +kernel) rfl
theorem cw_X5_160 : CW RX5 160 yX4_findUnlikeLeaves cX4_findUnlikeLeaves 5 (some .int) 0 := ⟨ml_X5_160, co_X4_findUnlikeLeaves, ini_X4, by decide +kernel, by decide +kernel⟩
theorem im_X4_findUnlikeLeaves : Cond.instanceMethod yX4_findUnlikeLeaves ∈ mT := mT_in 441 (by decide +kernel) rfl
theorem se_X4_findUnlikeLeaves : Cond.selects RX4 yX4_findUnlikeLeaves yX4_findUnlikeLeaves ∈ mT := mT_in 442 (by decide +kernel) rfl
theorem fl_X5_164 : Cond.fieldLink RX5 164 (TX4 3).1 (TX4 3).2.1 (TX4 3).2.2.1 ∈ mT := mT_in 36 (by decide +kernel) rfl
theorem ml_X5_167 : Cond.methodLink RX5 167 yX2_mendIn ∈ mT := mT_in 451 (by decide +kernel) rfl
theorem co_X2_mendIn : Cond.code yX2_mendIn cX2_mendIn 3 (some .boolean) ∈ mT := mT_in 454 (by decide +kernel) rfl
theorem cw_X5_167 : CW RX5 167 yX2_mendIn cX2_mendIn 3 (some .boolean) 1 := ⟨ml_X5_167, co_X2_mendIn, ini_X2, by decide +kernel, by decide +kernel⟩
theorem im_X2_mendIn : Cond.instanceMethod yX2_mendIn ∈ mT := mT_in 452 (by decide +kernel) rfl
theorem se_X2_mendIn : Cond.selects RX2 yX2_mendIn yX2_mendIn ∈ mT := mT_in 453 (by decide +kernel) rfl
theorem fl_X5_170 : Cond.fieldLink RX5 170 (TX2 5).1 (TX2 5).2.1 (TX2 5).2.2.1 ∈ mT := mT_in 251 (by decide +kernel) rfl
theorem ml_X5_174 : Cond.methodLink RX5 174 yX2_hasNoCopyLeft ∈ mT := mT_in 475 (by decide +kernel) rfl
theorem cw_X5_174 : CW RX5 174 yX2_hasNoCopyLeft cX2_hasNoCopyLeft 1 (some .boolean) 0 := ⟨ml_X5_174, co_X2_hasNoCopyLeft, ini_X2, by decide +kernel, by decide +kernel⟩
theorem fl_X5_177 : Cond.fieldLink RX5 177 (TX2 6).1 (TX2 6).2.1 (TX2 6).2.2.1 ∈ mT := mT_in 253 (by decide +kernel) rfl
theorem fl_X5_180 : Cond.fieldLink RX5 180 (TX2 7).1 (TX2 7).2.1 (TX2 7).2.2.1 ∈ mT := mT_in 255 (by decide +kernel) rfl
theorem ml_X5_183 : Cond.methodLink RX5 183 yX5_bookToOrder ∈ mT := mT_in 493 (by decide +kernel) rfl
theorem co_X5_bookToOrder : Cond.code yX5_bookToOrder cX5_bookToOrder 4 (some (.object "ScanningHouse$Book")) ∈ mT := mT_in 496 (by decide +kernel) rfl
theorem cw_X5_183 : CW RX5 183 yX5_bookToOrder cX5_bookToOrder 4 (some (.object "ScanningHouse$Book")) 2 := ⟨ml_X5_183, co_X5_bookToOrder, ini_X5, by decide +kernel, by decide +kernel⟩
theorem im_X5_bookToOrder : Cond.instanceMethod yX5_bookToOrder ∈ mT := mT_in 495 (by decide +kernel) rfl
theorem se_X5_bookToOrder : Cond.selects RX5 yX5_bookToOrder yX5_bookToOrder ∈ mT := mT_sel (q := (yX5_bookToOrder, 9)) (by decide +kernel) (by decide +kernel)
theorem ml_X5_187 : Cond.methodLink RX5 187 yX3_findStepByStep ∈ mT := mT_in 499 (by decide +kernel) rfl
theorem co_X3_findStepByStep : Cond.code yX3_findStepByStep cX3_findStepByStep 2 (some .boolean) ∈ mT := mT_in 502 (by decide +kernel) rfl
theorem cw_X5_187 : CW RX5 187 yX3_findStepByStep cX3_findStepByStep 2 (some .boolean) 1 := ⟨ml_X5_187, co_X3_findStepByStep, ini_X3, by decide +kernel, by decide +kernel⟩
theorem im_X3_findStepByStep : Cond.instanceMethod yX3_findStepByStep ∈ mT := mT_in 500 (by decide +kernel) rfl
theorem se_X3_findStepByStep : Cond.selects RX3 yX3_findStepByStep yX3_findStepByStep ∈ mT := mT_in 501 (by decide +kernel) rfl
theorem ml_X5_191 : Cond.methodLink RX5 191 yX3_pageAtPlace ∈ mT := mT_in 509 (by decide +kernel) rfl
theorem co_X3_pageAtPlace : Cond.code yX3_pageAtPlace cX3_pageAtPlace 2 (some .int) ∈ mT := mT_in 512 (by decide +kernel) rfl
theorem cw_X5_191 : CW RX5 191 yX3_pageAtPlace cX3_pageAtPlace 2 (some .int) 1 := ⟨ml_X5_191, co_X3_pageAtPlace, ini_X3, by decide +kernel, by decide +kernel⟩
theorem im_X3_pageAtPlace : Cond.instanceMethod yX3_pageAtPlace ∈ mT := mT_in 510 (by decide +kernel) rfl
theorem se_X3_pageAtPlace : Cond.selects RX3 yX3_pageAtPlace yX3_pageAtPlace ∈ mT := mT_in 511 (by decide +kernel) rfl
theorem ml_X5_194 : Cond.methodLink RX5 194 yX3_findByAllRows ∈ mT := mT_in 520 (by decide +kernel) rfl
theorem co_X3_findByAllRows : Cond.code yX3_findByAllRows cX3_findByAllRows 4 (some .boolean) ∈ mT := mT_in 523 (by decide +kernel) rfl
theorem cw_X5_194 : CW RX5 194 yX3_findByAllRows cX3_findByAllRows 4 (some .boolean) 1 := ⟨ml_X5_194, co_X3_findByAllRows, ini_X3, by decide +kernel, by decide +kernel⟩
theorem im_X3_findByAllRows : Cond.instanceMethod yX3_findByAllRows ∈ mT := mT_in 521 (by decide +kernel) rfl
theorem se_X3_findByAllRows : Cond.selects RX3 yX3_findByAllRows yX3_findByAllRows ∈ mT := mT_in 522 (by decide +kernel) rfl
theorem ml_X5_197 : Cond.methodLink RX5 197 yX5_needPlace ∈ mT := mT_in 543 (by decide +kernel) rfl
theorem co_X5_needPlace : Cond.code yX5_needPlace cX5_needPlace 1 none ∈ mT := mT_in 545 (by decide +kernel) rfl
theorem cw_X5_197 : CW RX5 197 yX5_needPlace cX5_needPlace 1 none 1 := ⟨ml_X5_197, co_X5_needPlace, ini_X5, by decide +kernel, by decide +kernel⟩
theorem st_X5_needPlace : Cond.static yX5_needPlace ∈ mT := mT_in 544 (by decide +kernel) rfl
theorem fl_X5_200 : Cond.fieldLink RX5 200 (TX2 8).1 (TX2 8).2.1 (TX2 8).2.2.1 ∈ mT := mT_in 258 (by decide +kernel) rfl
theorem ml_X5_203 : Cond.methodLink RX5 203 yX5_needKeyer ∈ mT := mT_in 554 (by decide +kernel) rfl
theorem co_X5_needKeyer : Cond.code yX5_needKeyer cX5_needKeyer 1 none ∈ mT := mT_in 556 (by decide +kernel) rfl
theorem cw_X5_203 : CW RX5 203 yX5_needKeyer cX5_needKeyer 1 none 1 := ⟨ml_X5_203, co_X5_needKeyer, ini_X5, by decide +kernel, by decide +kernel⟩
theorem st_X5_needKeyer : Cond.static yX5_needKeyer ∈ mT := mT_in 555 (by decide +kernel) rfl
theorem fl_X5_206 : Cond.fieldLink RX5 206 (TX2 9).1 (TX2 9).2.1 (TX2 9).2.2.1 ∈ mT := mT_in 261 (by decide +kernel) rfl
theorem ml_X5_210 : Cond.methodLink RX5 210 yX5_trustIn ∈ mT := mT_in 565 (by decide +kernel) rfl
theorem co_X5_trustIn : Cond.code yX5_trustIn cX5_trustIn 8 (some .int) ∈ mT := mT_in 568 (by decide +kernel) rfl
theorem cw_X5_210 : CW RX5 210 yX5_trustIn cX5_trustIn 8 (some .int) 1 := ⟨ml_X5_210, co_X5_trustIn, ini_X5, by decide +kernel, by decide +kernel⟩
theorem im_X5_trustIn : Cond.instanceMethod yX5_trustIn ∈ mT := mT_in 567 (by decide +kernel) rfl
theorem se_X5_trustIn : Cond.selects RX5 yX5_trustIn yX5_trustIn ∈ mT := mT_sel (q := (yX5_trustIn, 9)) (by decide +kernel) (by decide +kernel)
theorem ml_X5_213 : Cond.methodLink RX5 213 yX0_placesKeyedBy ∈ mT := mT_in 584 (by decide +kernel) rfl
theorem co_X0_placesKeyedBy : Cond.code yX0_placesKeyedBy cX0_placesKeyedBy 8 (some .int) ∈ mT := mT_in 587 (by decide +kernel) rfl
theorem cw_X5_213 : CW RX5 213 yX0_placesKeyedBy cX0_placesKeyedBy 8 (some .int) 1 := ⟨ml_X5_213, co_X0_placesKeyedBy, ini_X0, by decide +kernel, by decide +kernel⟩
theorem im_X0_placesKeyedBy : Cond.instanceMethod yX0_placesKeyedBy ∈ mT := mT_in 585 (by decide +kernel) rfl
theorem se_X0_placesKeyedBy : Cond.selects RX0 yX0_placesKeyedBy yX0_placesKeyedBy ∈ mT := mT_in 586 (by decide +kernel) rfl
theorem ml_X5_216 : Cond.methodLink RX5 216 yX5_weighLetters ∈ mT := mT_in 595 (by decide +kernel) rfl
theorem co_X5_weighLetters : Cond.code yX5_weighLetters cX5_weighLetters 5 none ∈ mT := mT_in 598 (by decide +kernel) rfl
theorem cw_X5_216 : CW RX5 216 yX5_weighLetters cX5_weighLetters 5 none 2 := ⟨ml_X5_216, co_X5_weighLetters, ini_X5, by decide +kernel, by decide +kernel⟩
theorem im_X5_weighLetters : Cond.instanceMethod yX5_weighLetters ∈ mT := mT_in 597 (by decide +kernel) rfl
theorem se_X5_weighLetters : Cond.selects RX5 yX5_weighLetters yX5_weighLetters ∈ mT := mT_sel (q := (yX5_weighLetters, 9)) (by decide +kernel) (by decide +kernel)
theorem ml_X5_219 : Cond.methodLink RX5 219 yX1_heaviestLetter ∈ mT := mT_in 608 (by decide +kernel) rfl
theorem co_X1_heaviestLetter : Cond.code yX1_heaviestLetter cX1_heaviestLetter 5 (some .int) ∈ mT := mT_in 611 (by decide +kernel) rfl
theorem cw_X5_219 : CW RX5 219 yX1_heaviestLetter cX1_heaviestLetter 5 (some .int) 0 := ⟨ml_X5_219, co_X1_heaviestLetter, ini_X1, by decide +kernel, by decide +kernel⟩
theorem im_X1_heaviestLetter : Cond.instanceMethod yX1_heaviestLetter ∈ mT := mT_in 609 (by decide +kernel) rfl
theorem se_X1_heaviestLetter : Cond.selects RX1 yX1_heaviestLetter yX1_heaviestLetter ∈ mT := mT_in 610 (by decide +kernel) rfl
theorem ml_X5_222 : Cond.methodLink RX5 222 yX1_doubtInHeaviest ∈ mT := mT_in 619 (by decide +kernel) rfl
theorem co_X1_doubtInHeaviest : Cond.code yX1_doubtInHeaviest cX1_doubtInHeaviest 7 (some .int) ∈ mT := mT_in 622 (by decide +kernel) rfl
theorem cw_X5_222 : CW RX5 222 yX1_doubtInHeaviest cX1_doubtInHeaviest 7 (some .int) 0 := ⟨ml_X5_222, co_X1_doubtInHeaviest, ini_X1, by decide +kernel, by decide +kernel⟩
theorem im_X1_doubtInHeaviest : Cond.instanceMethod yX1_doubtInHeaviest ∈ mT := mT_in 620 (by decide +kernel) rfl
theorem se_X1_doubtInHeaviest : Cond.selects RX1 yX1_doubtInHeaviest yX1_doubtInHeaviest ∈ mT := mT_in 621 (by decide +kernel) rfl
theorem ml_X5_227 : Cond.methodLink RX5 227 yX5_needLand ∈ mT := mT_in 641 (by decide +kernel) rfl
theorem co_X5_needLand : Cond.code yX5_needLand cX5_needLand 1 none ∈ mT := mT_in 643 (by decide +kernel) rfl
theorem cw_X5_227 : CW RX5 227 yX5_needLand cX5_needLand 1 none 1 := ⟨ml_X5_227, co_X5_needLand, ini_X5, by decide +kernel, by decide +kernel⟩
theorem st_X5_needLand : Cond.static yX5_needLand ∈ mT := mT_in 642 (by decide +kernel) rfl
theorem fl_X5_230 : Cond.fieldLink RX5 230 (TX0 4).1 (TX0 4).2.1 (TX0 4).2.2.1 ∈ mT := mT_in 291 (by decide +kernel) rfl
theorem fl_X5_235 : Cond.fieldLink RX5 235 (TX0 6).1 (TX0 6).2.1 (TX0 6).2.2.1 ∈ mT := mT_in 293 (by decide +kernel) rfl
theorem fl_X5_238 : Cond.fieldLink RX5 238 (TX0 7).1 (TX0 7).2.1 (TX0 7).2.2.1 ∈ mT := mT_in 294 (by decide +kernel) rfl
theorem ml_X5_241 : Cond.methodLink RX5 241 yX0_countShotPages ∈ mT := mT_in 681 (by decide +kernel) rfl
theorem cw_X5_241 : CW RX5 241 yX0_countShotPages cX0_countShotPages 6 (some .int) 0 := ⟨ml_X5_241, co_X0_countShotPages, ini_X0, by decide +kernel, by decide +kernel⟩
theorem ml_X5_244 : Cond.methodLink RX5 244 yX0_countFaultyShots ∈ mT := mT_in 682 (by decide +kernel) rfl
theorem co_X0_countFaultyShots : Cond.code yX0_countFaultyShots cX0_countFaultyShots 6 (some .int) ∈ mT := mT_in 685 (by decide +kernel) rfl
theorem cw_X5_244 : CW RX5 244 yX0_countFaultyShots cX0_countFaultyShots 6 (some .int) 0 := ⟨ml_X5_244, co_X0_countFaultyShots, ini_X0, by decide +kernel, by decide +kernel⟩
theorem im_X0_countFaultyShots : Cond.instanceMethod yX0_countFaultyShots ∈ mT := mT_in 683 (by decide +kernel) rfl
theorem se_X0_countFaultyShots : Cond.selects RX0 yX0_countFaultyShots yX0_countFaultyShots ∈ mT := mT_in 684 (by decide +kernel) rfl
theorem ml_X5_247 : Cond.methodLink RX5 247 yX0_countLostPages ∈ mT := mT_in 686 (by decide +kernel) rfl
theorem co_X0_countLostPages : Cond.code yX0_countLostPages cX0_countLostPages 6 (some .int) ∈ mT := mT_in 689 (by decide +kernel) rfl
theorem cw_X5_247 : CW RX5 247 yX0_countLostPages cX0_countLostPages 6 (some .int) 0 := ⟨ml_X5_247, co_X0_countLostPages, ini_X0, by decide +kernel, by decide +kernel⟩
theorem im_X0_countLostPages : Cond.instanceMethod yX0_countLostPages ∈ mT := mT_in 687 (by decide +kernel) rfl
theorem se_X0_countLostPages : Cond.selects RX0 yX0_countLostPages yX0_countLostPages ∈ mT := mT_in 688 (by decide +kernel) rfl
theorem cl_X5_250 : Cond.classLink RX5 250 "java/lang/IllegalArgumentException" ∈ mT := mT_in 139 (by decide +kernel) rfl
theorem cl_X5_255 : Cond.classLink RX5 255 "java/lang/IndexOutOfBoundsException" ∈ mT := mT_in 324 (by decide +kernel) rfl
theorem fl_X5_266 : Cond.fieldLink RX5 266 (TX2 4).1 (TX2 4).2.1 (TX2 4).2.2.1 ∈ mT := mT_in 249 (by decide +kernel) rfl
theorem ml_X5_281 : Cond.methodLink RX5 281 yX0_goldKeyedBy ∈ mT := mT_in 569 (by decide +kernel) rfl
theorem co_X0_goldKeyedBy : Cond.code yX0_goldKeyedBy cX0_goldKeyedBy 9 (some .int) ∈ mT := mT_in 572 (by decide +kernel) rfl
theorem cw_X5_281 : CW RX5 281 yX0_goldKeyedBy cX0_goldKeyedBy 9 (some .int) 1 := ⟨ml_X5_281, co_X0_goldKeyedBy, ini_X0, by decide +kernel, by decide +kernel⟩
theorem im_X0_goldKeyedBy : Cond.instanceMethod yX0_goldKeyedBy ∈ mT := mT_in 570 (by decide +kernel) rfl
theorem se_X0_goldKeyedBy : Cond.selects RX0 yX0_goldKeyedBy yX0_goldKeyedBy ∈ mT := mT_in 571 (by decide +kernel) rfl
theorem ml_X5_284 : Cond.methodLink RX5 284 yX0_goldKeyedRightBy ∈ mT := mT_in 573 (by decide +kernel) rfl
theorem co_X0_goldKeyedRightBy : Cond.code yX0_goldKeyedRightBy cX0_goldKeyedRightBy 9 (some .int) ∈ mT := mT_in 576 (by decide +kernel) rfl
theorem cw_X5_284 : CW RX5 284 yX0_goldKeyedRightBy cX0_goldKeyedRightBy 9 (some .int) 1 := ⟨ml_X5_284, co_X0_goldKeyedRightBy, ini_X0, by decide +kernel, by decide +kernel⟩
theorem im_X0_goldKeyedRightBy : Cond.instanceMethod yX0_goldKeyedRightBy ∈ mT := mT_in 574 (by decide +kernel) rfl
theorem se_X0_goldKeyedRightBy : Cond.selects RX0 yX0_goldKeyedRightBy yX0_goldKeyedRightBy ∈ mT := mT_in 575 (by decide +kernel) rfl
theorem ml_X5_287 : Cond.methodLink RX5 287 yX1_clear ∈ mT := mT_in 599 (by decide +kernel) rfl
theorem co_X1_clear : Cond.code yX1_clear cX1_clear 1 none ∈ mT := mT_in 602 (by decide +kernel) rfl
theorem cw_X5_287 : CW RX5 287 yX1_clear cX1_clear 1 none 0 := ⟨ml_X5_287, co_X1_clear, ini_X1, by decide +kernel, by decide +kernel⟩
theorem im_X1_clear : Cond.instanceMethod yX1_clear ∈ mT := mT_in 600 (by decide +kernel) rfl
theorem se_X1_clear : Cond.selects RX1 yX1_clear yX1_clear ∈ mT := mT_in 601 (by decide +kernel) rfl
theorem ml_X5_290 : Cond.methodLink RX5 290 yX1_put ∈ mT := mT_in 604 (by decide +kernel) rfl
theorem co_X1_put : Cond.code yX1_put cX1_put 3 none ∈ mT := mT_in 607 (by decide +kernel) rfl
theorem cw_X5_290 : CW RX5 290 yX1_put cX1_put 3 none 2 := ⟨ml_X5_290, co_X1_put, ini_X1, by decide +kernel, by decide +kernel⟩
theorem im_X1_put : Cond.instanceMethod yX1_put ∈ mT := mT_in 605 (by decide +kernel) rfl
theorem se_X1_put : Cond.selects RX1 yX1_put yX1_put ∈ mT := mT_in 606 (by decide +kernel) rfl
theorem ml_X6_1 : Cond.methodLink RX6 1 objectInit ∈ mT := mT_in 696 (by decide +kernel) rfl
theorem fl_X6_7 : Cond.fieldLink RX6 7 (TX6 2).1 (TX6 2).2.1 (TX6 2).2.2.1 ∈ mT := mT_in 699 (by decide +kernel) rfl
theorem fl_X6_13 : Cond.fieldLink RX6 13 (TX6 3).1 (TX6 3).2.1 (TX6 3).2.2.1 ∈ mT := mT_in 700 (by decide +kernel) rfl
theorem fl_X6_16 : Cond.fieldLink RX6 16 (TX6 4).1 (TX6 4).2.1 (TX6 4).2.2.1 ∈ mT := mT_in 701 (by decide +kernel) rfl
theorem fl_X6_19 : Cond.fieldLink RX6 19 (TX6 5).1 (TX6 5).2.1 (TX6 5).2.2.1 ∈ mT := mT_in 702 (by decide +kernel) rfl
theorem fl_X6_22 : Cond.fieldLink RX6 22 (TX6 6).1 (TX6 6).2.1 (TX6 6).2.2.1 ∈ mT := mT_in 703 (by decide +kernel) rfl
theorem fl_X6_25 : Cond.fieldLink RX6 25 (TX6 7).1 (TX6 7).2.1 (TX6 7).2.2.1 ∈ mT := mT_in 704 (by decide +kernel) rfl
theorem fl_X6_28 : Cond.fieldLink RX6 28 (TX6 8).1 (TX6 8).2.1 (TX6 8).2.2.1 ∈ mT := mT_in 705 (by decide +kernel) rfl
theorem fl_X6_32 : Cond.fieldLink RX6 32 (TX6 9).1 (TX6 9).2.1 (TX6 9).2.2.1 ∈ mT := mT_in 706 (by decide +kernel) rfl
theorem fl_X6_35 : Cond.fieldLink RX6 35 (TX6 11).1 (TX6 11).2.1 (TX6 11).2.2.1 ∈ mT := mT_in 708 (by decide +kernel) rfl
theorem fl_X6_38 : Cond.fieldLink RX6 38 (TX6 12).1 (TX6 12).2.1 (TX6 12).2.2.1 ∈ mT := mT_in 709 (by decide +kernel) rfl
theorem fl_X6_41 : Cond.fieldLink RX6 41 (TX6 13).1 (TX6 13).2.1 (TX6 13).2.2.1 ∈ mT := mT_in 710 (by decide +kernel) rfl
theorem fl_X6_44 : Cond.fieldLink RX6 44 (TX6 14).1 (TX6 14).2.1 (TX6 14).2.2.1 ∈ mT := mT_in 711 (by decide +kernel) rfl
theorem fl_X6_48 : Cond.fieldLink RX6 48 (TX6 15).1 (TX6 15).2.1 (TX6 15).2.2.1 ∈ mT := mT_in 712 (by decide +kernel) rfl
theorem fl_X6_51 : Cond.fieldLink RX6 51 (TX6 16).1 (TX6 16).2.1 (TX6 16).2.2.1 ∈ mT := mT_in 713 (by decide +kernel) rfl
theorem fl_X6_54 : Cond.fieldLink RX6 54 (TX6 17).1 (TX6 17).2.1 (TX6 17).2.2.1 ∈ mT := mT_in 714 (by decide +kernel) rfl
theorem fl_X6_57 : Cond.fieldLink RX6 57 (TX6 18).1 (TX6 18).2.1 (TX6 18).2.2.1 ∈ mT := mT_in 715 (by decide +kernel) rfl
theorem fl_X6_60 : Cond.fieldLink RX6 60 (TX6 19).1 (TX6 19).2.1 (TX6 19).2.2.1 ∈ mT := mT_in 716 (by decide +kernel) rfl
theorem fl_X6_63 : Cond.fieldLink RX6 63 (TX6 20).1 (TX6 20).2.1 (TX6 20).2.2.1 ∈ mT := mT_in 717 (by decide +kernel) rfl
theorem fl_X6_66 : Cond.fieldLink RX6 66 (TX6 21).1 (TX6 21).2.1 (TX6 21).2.2.1 ∈ mT := mT_in 718 (by decide +kernel) rfl
theorem fl_X6_69 : Cond.fieldLink RX6 69 (TX6 22).1 (TX6 22).2.1 (TX6 22).2.2.1 ∈ mT := mT_in 719 (by decide +kernel) rfl
theorem fl_X6_72 : Cond.fieldLink RX6 72 (TX6 24).1 (TX6 24).2.1 (TX6 24).2.2.1 ∈ mT := mT_in 721 (by decide +kernel) rfl
theorem fl_X6_75 : Cond.fieldLink RX6 75 (TX6 25).1 (TX6 25).2.1 (TX6 25).2.2.1 ∈ mT := mT_in 722 (by decide +kernel) rfl
theorem fl_X6_78 : Cond.fieldLink RX6 78 (TX6 26).1 (TX6 26).2.1 (TX6 26).2.2.1 ∈ mT := mT_in 723 (by decide +kernel) rfl
theorem fl_X6_81 : Cond.fieldLink RX6 81 (TX6 27).1 (TX6 27).2.1 (TX6 27).2.2.1 ∈ mT := mT_in 724 (by decide +kernel) rfl
theorem fl_X6_85 : Cond.fieldLink RX6 85 (TX6 28).1 (TX6 28).2.1 (TX6 28).2.2.1 ∈ mT := mT_in 725 (by decide +kernel) rfl
theorem fl_X6_88 : Cond.fieldLink RX6 88 (TX6 29).1 (TX6 29).2.1 (TX6 29).2.2.1 ∈ mT := mT_in 726 (by decide +kernel) rfl
theorem fl_X6_91 : Cond.fieldLink RX6 91 (TX6 0).1 (TX6 0).2.1 (TX6 0).2.2.1 ∈ mT := mT_in 697 (by decide +kernel) rfl
theorem fl_X6_94 : Cond.fieldLink RX6 94 (TX6 1).1 (TX6 1).2.1 (TX6 1).2.2.1 ∈ mT := mT_in 698 (by decide +kernel) rfl
theorem ml_X6_97 : Cond.methodLink RX6 97 yX6_in ∈ mT := mT_in 796 (by decide +kernel) rfl
theorem co_X6_in : Cond.code yX6_in cX6_in 3 (some .boolean) ∈ mT := mT_in 798 (by decide +kernel) rfl
theorem ini_X6 : Cond.initialized RX6 ∈ mT := mT_in 6 (by decide +kernel) rfl
theorem cw_X6_97 : CW RX6 97 yX6_in cX6_in 3 (some .boolean) 3 := ⟨ml_X6_97, co_X6_in, ini_X6, by decide +kernel, by decide +kernel⟩
theorem st_X6_in : Cond.static yX6_in ∈ mT := mT_in 797 (by decide +kernel) rfl
theorem ml_X6_101 : Cond.methodLink RX6 101 yX6_isBook ∈ mT := mT_in 819 (by decide +kernel) rfl
theorem co_X6_isBook : Cond.code yX6_isBook cX6_isBook 2 (some .boolean) ∈ mT := mT_in 822 (by decide +kernel) rfl
theorem cw_X6_101 : CW RX6 101 yX6_isBook cX6_isBook 2 (some .boolean) 1 := ⟨ml_X6_101, co_X6_isBook, ini_X6, by decide +kernel, by decide +kernel⟩
theorem im_X6_isBook : Cond.instanceMethod yX6_isBook ∈ mT := mT_in 821 (by decide +kernel) rfl
theorem se_X6_isBook : Cond.selects RX6 yX6_isBook yX6_isBook ∈ mT := mT_sel (q := (yX6_isBook, 30)) (by decide +kernel) (by decide +kernel)
theorem ml_X6_105 : Cond.methodLink RX6 105 yX6_isPage ∈ mT := mT_in 815 (by decide +kernel) rfl
theorem co_X6_isPage : Cond.code yX6_isPage cX6_isPage 3 (some .boolean) ∈ mT := mT_in 818 (by decide +kernel) rfl
theorem cw_X6_105 : CW RX6 105 yX6_isPage cX6_isPage 3 (some .boolean) 2 := ⟨ml_X6_105, co_X6_isPage, ini_X6, by decide +kernel, by decide +kernel⟩
theorem im_X6_isPage : Cond.instanceMethod yX6_isPage ∈ mT := mT_in 817 (by decide +kernel) rfl
theorem se_X6_isPage : Cond.selects RX6 yX6_isPage yX6_isPage ∈ mT := mT_sel (q := (yX6_isPage, 30)) (by decide +kernel) (by decide +kernel)
theorem ml_X6_109 : Cond.methodLink RX6 109 yX6_goesWell ∈ mT := mT_in 799 (by decide +kernel) rfl
theorem co_X6_goesWell : Cond.code yX6_goesWell cX6_goesWell 2 (some .boolean) ∈ mT := mT_in 802 (by decide +kernel) rfl
theorem cw_X6_109 : CW RX6 109 yX6_goesWell cX6_goesWell 2 (some .boolean) 1 := ⟨ml_X6_109, co_X6_goesWell, ini_X6, by decide +kernel, by decide +kernel⟩
theorem im_X6_goesWell : Cond.instanceMethod yX6_goesWell ∈ mT := mT_in 801 (by decide +kernel) rfl
theorem se_X6_goesWell : Cond.selects RX6 yX6_goesWell yX6_goesWell ∈ mT := mT_sel (q := (yX6_goesWell, 30)) (by decide +kernel) (by decide +kernel)
theorem ml_X6_112 : Cond.methodLink RX6 112 yX6_shots ∈ mT := mT_in 807 (by decide +kernel) rfl
theorem co_X6_shots : Cond.code yX6_shots cX6_shots 4 (some .int) ∈ mT := mT_in 810 (by decide +kernel) rfl
theorem cw_X6_112 : CW RX6 112 yX6_shots cX6_shots 4 (some .int) 1 := ⟨ml_X6_112, co_X6_shots, ini_X6, by decide +kernel, by decide +kernel⟩
theorem im_X6_shots : Cond.instanceMethod yX6_shots ∈ mT := mT_in 809 (by decide +kernel) rfl
theorem se_X6_shots : Cond.selects RX6 yX6_shots yX6_shots ∈ mT := mT_sel (q := (yX6_shots, 30)) (by decide +kernel) (by decide +kernel)
theorem fl_X6_116 : Cond.fieldLink RX6 116 (TX6 10).1 (TX6 10).2.1 (TX6 10).2.2.1 ∈ mT := mT_in 707 (by decide +kernel) rfl
theorem ct_X6_119 : Cond.constantLong RX6 119 6364136223846793005 ∈ mT := mT_in 845 (by decide +kernel) rfl
theorem ct_X6_121 : Cond.constantLong RX6 121 1442695040888963407 ∈ mT := mT_in 846 (by decide +kernel) rfl
theorem ml_X6_123 : Cond.methodLink RX6 123 yX6_proof ∈ mT := mT_in 842 (by decide +kernel) rfl
theorem co_X6_proof : Cond.code yX6_proof cX6_proof 2 (some .long) ∈ mT := mT_in 844 (by decide +kernel) rfl
theorem cw_X6_123 : CW RX6 123 yX6_proof cX6_proof 2 (some .long) 1 := ⟨ml_X6_123, co_X6_proof, ini_X6, by decide +kernel, by decide +kernel⟩
theorem st_X6_proof : Cond.static yX6_proof ∈ mT := mT_in 843 (by decide +kernel) rfl
theorem ml_X6_127 : Cond.methodLink RX6 127 yX6_holds ∈ mT := mT_in 838 (by decide +kernel) rfl
theorem co_X6_holds : Cond.code yX6_holds cX6_holds 3 (some .boolean) ∈ mT := mT_in 841 (by decide +kernel) rfl
theorem cw_X6_127 : CW RX6 127 yX6_holds cX6_holds 3 (some .boolean) 2 := ⟨ml_X6_127, co_X6_holds, ini_X6, by decide +kernel, by decide +kernel⟩
theorem im_X6_holds : Cond.instanceMethod yX6_holds ∈ mT := mT_in 840 (by decide +kernel) rfl
theorem se_X6_holds : Cond.selects RX6 yX6_holds yX6_holds ∈ mT := mT_sel (q := (yX6_holds, 30)) (by decide +kernel) (by decide +kernel)
theorem ml_X6_130 : Cond.methodLink RX6 130 yX6_isVault ∈ mT := mT_in 835 (by decide +kernel) rfl
theorem co_X6_isVault : Cond.code yX6_isVault cX6_isVault 1 (some .boolean) ∈ mT := mT_in 837 (by decide +kernel) rfl
theorem cw_X6_130 : CW RX6 130 yX6_isVault cX6_isVault 1 (some .boolean) 1 := ⟨ml_X6_130, co_X6_isVault, ini_X6, by decide +kernel, by decide +kernel⟩
theorem st_X6_isVault : Cond.static yX6_isVault ∈ mT := mT_in 836 (by decide +kernel) rfl
theorem ct_X6_133 : Cond.constantLong RX6 133 31 ∈ mT := mT_in 863 (by decide +kernel) rfl
theorem ml_X6_135 : Cond.methodLink RX6 135 yX6_layTrees ∈ mT := mT_in 859 (by decide +kernel) rfl
theorem co_X6_layTrees : Cond.code yX6_layTrees cX6_layTrees 6 none ∈ mT := mT_in 862 (by decide +kernel) rfl
theorem cw_X6_135 : CW RX6 135 yX6_layTrees cX6_layTrees 6 none 2 := ⟨ml_X6_135, co_X6_layTrees, ini_X6, by decide +kernel, by decide +kernel⟩
theorem im_X6_layTrees : Cond.instanceMethod yX6_layTrees ∈ mT := mT_in 861 (by decide +kernel) rfl
theorem se_X6_layTrees : Cond.selects RX6 yX6_layTrees yX6_layTrees ∈ mT := mT_sel (q := (yX6_layTrees, 30)) (by decide +kernel) (by decide +kernel)
theorem fl_X6_139 : Cond.fieldLink RX6 139 (TX6 23).1 (TX6 23).2.1 (TX6 23).2.2.1 ∈ mT := mT_in 720 (by decide +kernel) rfl
theorem ml_X6_142 : Cond.methodLink RX6 142 yX6_holder ∈ mT := mT_in 872 (by decide +kernel) rfl
theorem co_X6_holder : Cond.code yX6_holder cX6_holder 4 (some .int) ∈ mT := mT_in 875 (by decide +kernel) rfl
theorem cw_X6_142 : CW RX6 142 yX6_holder cX6_holder 4 (some .int) 1 := ⟨ml_X6_142, co_X6_holder, ini_X6, by decide +kernel, by decide +kernel⟩
theorem im_X6_holder : Cond.instanceMethod yX6_holder ∈ mT := mT_in 874 (by decide +kernel) rfl
theorem se_X6_holder : Cond.selects RX6 yX6_holder yX6_holder ∈ mT := mT_sel (q := (yX6_holder, 30)) (by decide +kernel) (by decide +kernel)
theorem ml_X6_145 : Cond.methodLink RX6 145 yX6_isLostAt ∈ mT := mT_in 884 (by decide +kernel) rfl
theorem co_X6_isLostAt : Cond.code yX6_isLostAt cX6_isLostAt 2 (some .boolean) ∈ mT := mT_in 887 (by decide +kernel) rfl
theorem cw_X6_145 : CW RX6 145 yX6_isLostAt cX6_isLostAt 2 (some .boolean) 1 := ⟨ml_X6_145, co_X6_isLostAt, ini_X6, by decide +kernel, by decide +kernel⟩
theorem im_X6_isLostAt : Cond.instanceMethod yX6_isLostAt ∈ mT := mT_in 886 (by decide +kernel) rfl
theorem se_X6_isLostAt : Cond.selects RX6 yX6_isLostAt yX6_isLostAt ∈ mT := mT_sel (q := (yX6_isLostAt, 30)) (by decide +kernel) (by decide +kernel)
theorem ml_X6_148 : Cond.methodLink RX6 148 yX6_fits ∈ mT := mT_in 904 (by decide +kernel) rfl
theorem co_X6_fits : Cond.code yX6_fits cX6_fits 5 (some .boolean) ∈ mT := mT_in 907 (by decide +kernel) rfl
theorem cw_X6_148 : CW RX6 148 yX6_fits cX6_fits 5 (some .boolean) 2 := ⟨ml_X6_148, co_X6_fits, ini_X6, by decide +kernel, by decide +kernel⟩
theorem im_X6_fits : Cond.instanceMethod yX6_fits ∈ mT := mT_in 906 (by decide +kernel) rfl
theorem se_X6_fits : Cond.selects RX6 yX6_fits yX6_fits ∈ mT := mT_sel (q := (yX6_fits, 30)) (by decide +kernel) (by decide +kernel)
theorem ml_X6_151 : Cond.methodLink RX6 151 yX6_layOrder ∈ mT := mT_in 900 (by decide +kernel) rfl
theorem co_X6_layOrder : Cond.code yX6_layOrder cX6_layOrder 3 (some .boolean) ∈ mT := mT_in 903 (by decide +kernel) rfl
theorem cw_X6_151 : CW RX6 151 yX6_layOrder cX6_layOrder 3 (some .boolean) 1 := ⟨ml_X6_151, co_X6_layOrder, ini_X6, by decide +kernel, by decide +kernel⟩
theorem im_X6_layOrder : Cond.instanceMethod yX6_layOrder ∈ mT := mT_in 902 (by decide +kernel) rfl
theorem se_X6_layOrder : Cond.selects RX6 yX6_layOrder yX6_layOrder ∈ mT := mT_sel (q := (yX6_layOrder, 30)) (by decide +kernel) (by decide +kernel)
theorem ml_X6_154 : Cond.methodLink RX6 154 yX6_orderOf ∈ mT := mT_in 896 (by decide +kernel) rfl
theorem co_X6_orderOf : Cond.code yX6_orderOf cX6_orderOf 4 (some .int) ∈ mT := mT_in 899 (by decide +kernel) rfl
theorem cw_X6_154 : CW RX6 154 yX6_orderOf cX6_orderOf 4 (some .int) 2 := ⟨ml_X6_154, co_X6_orderOf, ini_X6, by decide +kernel, by decide +kernel⟩
theorem im_X6_orderOf : Cond.instanceMethod yX6_orderOf ∈ mT := mT_in 898 (by decide +kernel) rfl
theorem se_X6_orderOf : Cond.selects RX6 yX6_orderOf yX6_orderOf ∈ mT := mT_sel (q := (yX6_orderOf, 30)) (by decide +kernel) (by decide +kernel)
theorem ml_X6_158 : Cond.methodLink RX6 158 yX6_isPlace ∈ mT := mT_in 916 (by decide +kernel) rfl
theorem co_X6_isPlace : Cond.code yX6_isPlace cX6_isPlace 4 (some .boolean) ∈ mT := mT_in 919 (by decide +kernel) rfl
theorem cw_X6_158 : CW RX6 158 yX6_isPlace cX6_isPlace 4 (some .boolean) 3 := ⟨ml_X6_158, co_X6_isPlace, ini_X6, by decide +kernel, by decide +kernel⟩
theorem im_X6_isPlace : Cond.instanceMethod yX6_isPlace ∈ mT := mT_in 918 (by decide +kernel) rfl
theorem se_X6_isPlace : Cond.selects RX6 yX6_isPlace yX6_isPlace ∈ mT := mT_sel (q := (yX6_isPlace, 30)) (by decide +kernel) (by decide +kernel)
theorem ml_X6_161 : Cond.methodLink RX6 161 yX6_spot ∈ mT := mT_in 920 (by decide +kernel) rfl
theorem co_X6_spot : Cond.code yX6_spot cX6_spot 3 (some .int) ∈ mT := mT_in 922 (by decide +kernel) rfl
theorem cw_X6_161 : CW RX6 161 yX6_spot cX6_spot 3 (some .int) 3 := ⟨ml_X6_161, co_X6_spot, ini_X6, by decide +kernel, by decide +kernel⟩
theorem st_X6_spot : Cond.static yX6_spot ∈ mT := mT_in 921 (by decide +kernel) rfl
theorem ml_X6_165 : Cond.methodLink RX6 165 yX6_trustOf ∈ mT := mT_in 931 (by decide +kernel) rfl
theorem co_X6_trustOf : Cond.code yX6_trustOf cX6_trustOf 6 (some .int) ∈ mT := mT_in 934 (by decide +kernel) rfl
theorem cw_X6_165 : CW RX6 165 yX6_trustOf cX6_trustOf 6 (some .int) 1 := ⟨ml_X6_165, co_X6_trustOf, ini_X6, by decide +kernel, by decide +kernel⟩
theorem im_X6_trustOf : Cond.instanceMethod yX6_trustOf ∈ mT := mT_in 933 (by decide +kernel) rfl
theorem se_X6_trustOf : Cond.selects RX6 yX6_trustOf yX6_trustOf ∈ mT := mT_sel (q := (yX6_trustOf, 30)) (by decide +kernel) (by decide +kernel)
theorem ml_X6_168 : Cond.methodLink RX6 168 yX6_weigh ∈ mT := mT_in 943 (by decide +kernel) rfl
theorem co_X6_weigh : Cond.code yX6_weigh cX6_weigh 2 none ∈ mT := mT_in 946 (by decide +kernel) rfl
theorem cw_X6_168 : CW RX6 168 yX6_weigh cX6_weigh 2 none 0 := ⟨ml_X6_168, co_X6_weigh, ini_X6, by decide +kernel, by decide +kernel⟩
theorem im_X6_weigh : Cond.instanceMethod yX6_weigh ∈ mT := mT_in 945 (by decide +kernel) rfl
theorem se_X6_weigh : Cond.selects RX6 yX6_weigh yX6_weigh ∈ mT := mT_sel (q := (yX6_weigh, 30)) (by decide +kernel) (by decide +kernel)
theorem ml_X6_171 : Cond.methodLink RX6 171 yX6_weight ∈ mT := mT_in 947 (by decide +kernel) rfl
theorem co_X6_weight : Cond.code yX6_weight cX6_weight 5 (some .int) ∈ mT := mT_in 950 (by decide +kernel) rfl
theorem cw_X6_171 : CW RX6 171 yX6_weight cX6_weight 5 (some .int) 2 := ⟨ml_X6_171, co_X6_weight, ini_X6, by decide +kernel, by decide +kernel⟩
theorem im_X6_weight : Cond.instanceMethod yX6_weight ∈ mT := mT_in 949 (by decide +kernel) rfl
theorem se_X6_weight : Cond.selects RX6 yX6_weight yX6_weight ∈ mT := mT_sel (q := (yX6_weight, 30)) (by decide +kernel) (by decide +kernel)
theorem ml_L_7 : Cond.methodLink RL 7 yX5_book ∈ mT := mT_in 132 (by decide +kernel) rfl
theorem co_X5_book : Cond.code yX5_book cX5_book 7 (some .int) ∈ mT := mT_in 135 (by decide +kernel) rfl
theorem cw_L_7 : CW RL 7 yX5_book cX5_book 7 (some .int) 5 := ⟨ml_L_7, co_X5_book, ini_X5, by decide +kernel, by decide +kernel⟩
theorem im_X5_book : Cond.instanceMethod yX5_book ∈ mT := mT_in 133 (by decide +kernel) rfl
theorem se_X5_book : Cond.selects RX5 yX5_book yX5_book ∈ mT := mT_in 134 (by decide +kernel) rfl
theorem ml_L_17 : Cond.methodLink RL 17 yX5_shot ∈ mT := mT_in 316 (by decide +kernel) rfl
theorem co_X5_shot : Cond.code yX5_shot cX5_shot 10 (some .int) ∈ mT := mT_in 319 (by decide +kernel) rfl
theorem cw_L_17 : CW RL 17 yX5_shot cX5_shot 10 (some .int) 4 := ⟨ml_L_17, co_X5_shot, ini_X5, by decide +kernel, by decide +kernel⟩
theorem im_X5_shot : Cond.instanceMethod yX5_shot ∈ mT := mT_in 317 (by decide +kernel) rfl
theorem se_X5_shot : Cond.selects RX5 yX5_shot yX5_shot ∈ mT := mT_in 318 (by decide +kernel) rfl
theorem ml_L_23 : Cond.methodLink RL 23 yX5_look ∈ mT := mT_in 358 (by decide +kernel) rfl
theorem co_X5_look : Cond.code yX5_look cX5_look 4 (some .boolean) ∈ mT := mT_in 361 (by decide +kernel) rfl
theorem cw_L_23 : CW RL 23 yX5_look cX5_look 4 (some .boolean) 2 := ⟨ml_L_23, co_X5_look, ini_X5, by decide +kernel, by decide +kernel⟩
theorem im_X5_look : Cond.instanceMethod yX5_look ∈ mT := mT_in 359 (by decide +kernel) rfl
theorem se_X5_look : Cond.selects RX5 yX5_look yX5_look ∈ mT := mT_in 360 (by decide +kernel) rfl
theorem ml_L_27 : Cond.methodLink RL 27 yX5_rot ∈ mT := mT_in 366 (by decide +kernel) rfl
theorem co_X5_rot : Cond.code yX5_rot cX5_rot 6 (some .boolean) ∈ mT := mT_in 369 (by decide +kernel) rfl
theorem cw_L_27 : CW RL 27 yX5_rot cX5_rot 6 (some .boolean) 4 := ⟨ml_L_27, co_X5_rot, ini_X5, by decide +kernel, by decide +kernel⟩
theorem im_X5_rot : Cond.instanceMethod yX5_rot ∈ mT := mT_in 367 (by decide +kernel) rfl
theorem se_X5_rot : Cond.selects RX5 yX5_rot yX5_rot ∈ mT := mT_in 368 (by decide +kernel) rfl
theorem ml_L_31 : Cond.methodLink RL 31 yX5_burn ∈ mT := mT_in 402 (by decide +kernel) rfl
theorem co_X5_burn : Cond.code yX5_burn cX5_burn 7 (some .int) ∈ mT := mT_in 405 (by decide +kernel) rfl
theorem cw_L_31 : CW RL 31 yX5_burn cX5_burn 7 (some .int) 1 := ⟨ml_L_31, co_X5_burn, ini_X5, by decide +kernel, by decide +kernel⟩
theorem im_X5_burn : Cond.instanceMethod yX5_burn ∈ mT := mT_in 403 (by decide +kernel) rfl
theorem se_X5_burn : Cond.selects RX5 yX5_burn yX5_burn ∈ mT := mT_in 404 (by decide +kernel) rfl
theorem ml_L_35 : Cond.methodLink RL 35 yX5_build ∈ mT := mT_in 418 (by decide +kernel) rfl
theorem co_X5_build : Cond.code yX5_build cX5_build 2 none ∈ mT := mT_in 421 (by decide +kernel) rfl
theorem cw_L_35 : CW RL 35 yX5_build cX5_build 2 none 1 := ⟨ml_L_35, co_X5_build, ini_X5, by decide +kernel, by decide +kernel⟩
theorem im_X5_build : Cond.instanceMethod yX5_build ∈ mT := mT_in 419 (by decide +kernel) rfl
theorem se_X5_build : Cond.selects RX5 yX5_build yX5_build ∈ mT := mT_in 420 (by decide +kernel) rfl
theorem ml_L_39 : Cond.methodLink RL 39 yX5_check ∈ mT := mT_in 426 (by decide +kernel) rfl
theorem co_X5_check : Cond.code yX5_check cX5_check 4 (some .int) ∈ mT := mT_in 429 (by decide +kernel) rfl
theorem cw_L_39 : CW RL 39 yX5_check cX5_check 4 (some .int) 2 := ⟨ml_L_39, co_X5_check, ini_X5, by decide +kernel, by decide +kernel⟩
theorem im_X5_check : Cond.instanceMethod yX5_check ∈ mT := mT_in 427 (by decide +kernel) rfl
theorem se_X5_check : Cond.selects RX5 yX5_check yX5_check ∈ mT := mT_in 428 (by decide +kernel) rfl
theorem ml_L_43 : Cond.methodLink RL 43 yX5_mend ∈ mT := mT_in 447 (by decide +kernel) rfl
theorem co_X5_mend : Cond.code yX5_mend cX5_mend 9 (some .int) ∈ mT := mT_in 450 (by decide +kernel) rfl
theorem cw_L_43 : CW RL 43 yX5_mend cX5_mend 9 (some .int) 2 := ⟨ml_L_43, co_X5_mend, ini_X5, by decide +kernel, by decide +kernel⟩
theorem im_X5_mend : Cond.instanceMethod yX5_mend ∈ mT := mT_in 448 (by decide +kernel) rfl
theorem se_X5_mend : Cond.selects RX5 yX5_mend yX5_mend ∈ mT := mT_in 449 (by decide +kernel) rfl
theorem ml_L_46 : Cond.methodLink RL 46 yX5_copy ∈ mT := mT_in 464 (by decide +kernel) rfl
theorem co_X5_copy : Cond.code yX5_copy cX5_copy 5 (some .long) ∈ mT := mT_in 467 (by decide +kernel) rfl
theorem cw_L_46 : CW RL 46 yX5_copy cX5_copy 5 (some .long) 3 := ⟨ml_L_46, co_X5_copy, ini_X5, by decide +kernel, by decide +kernel⟩
theorem im_X5_copy : Cond.instanceMethod yX5_copy ∈ mT := mT_in 465 (by decide +kernel) rfl
theorem se_X5_copy : Cond.selects RX5 yX5_copy yX5_copy ∈ mT := mT_in 466 (by decide +kernel) rfl
theorem ml_L_50 : Cond.methodLink RL 50 yX5_isLost ∈ mT := mT_in 471 (by decide +kernel) rfl
theorem co_X5_isLost : Cond.code yX5_isLost cX5_isLost 3 (some .boolean) ∈ mT := mT_in 474 (by decide +kernel) rfl
theorem cw_L_50 : CW RL 50 yX5_isLost cX5_isLost 3 (some .boolean) 2 := ⟨ml_L_50, co_X5_isLost, ini_X5, by decide +kernel, by decide +kernel⟩
theorem im_X5_isLost : Cond.instanceMethod yX5_isLost ∈ mT := mT_in 472 (by decide +kernel) rfl
theorem se_X5_isLost : Cond.selects RX5 yX5_isLost yX5_isLost ∈ mT := mT_in 473 (by decide +kernel) rfl
theorem ml_L_53 : Cond.methodLink RL 53 yX5_words ∈ mT := mT_in 482 (by decide +kernel) rfl
theorem co_X5_words : Cond.code yX5_words cX5_words 6 none ∈ mT := mT_in 485 (by decide +kernel) rfl
theorem cw_L_53 : CW RL 53 yX5_words cX5_words 6 none 4 := ⟨ml_L_53, co_X5_words, ini_X5, by decide +kernel, by decide +kernel⟩
theorem im_X5_words : Cond.instanceMethod yX5_words ∈ mT := mT_in 483 (by decide +kernel) rfl
theorem se_X5_words : Cond.selects RX5 yX5_words yX5_words ∈ mT := mT_in 484 (by decide +kernel) rfl
theorem ml_L_57 : Cond.methodLink RL 57 yX5_order ∈ mT := mT_in 489 (by decide +kernel) rfl
theorem co_X5_order : Cond.code yX5_order cX5_order 4 (some .int) ∈ mT := mT_in 492 (by decide +kernel) rfl
theorem cw_L_57 : CW RL 57 yX5_order cX5_order 4 (some .int) 2 := ⟨ml_L_57, co_X5_order, ini_X5, by decide +kernel, by decide +kernel⟩
theorem im_X5_order : Cond.instanceMethod yX5_order ∈ mT := mT_in 490 (by decide +kernel) rfl
theorem se_X5_order : Cond.selects RX5 yX5_order yX5_order ∈ mT := mT_in 491 (by decide +kernel) rfl
theorem ml_L_60 : Cond.methodLink RL 60 yX5_orderAnew ∈ mT := mT_in 516 (by decide +kernel) rfl
theorem co_X5_orderAnew : Cond.code yX5_orderAnew cX5_orderAnew 4 (some .int) ∈ mT := mT_in 519 (by decide +kernel) rfl
theorem cw_L_60 : CW RL 60 yX5_orderAnew cX5_orderAnew 4 (some .int) 2 := ⟨ml_L_60, co_X5_orderAnew, ini_X5, by decide +kernel, by decide +kernel⟩
theorem im_X5_orderAnew : Cond.instanceMethod yX5_orderAnew ∈ mT := mT_in 517 (by decide +kernel) rfl
theorem se_X5_orderAnew : Cond.selects RX5 yX5_orderAnew yX5_orderAnew ∈ mT := mT_in 518 (by decide +kernel) rfl
theorem ml_L_63 : Cond.methodLink RL 63 yX5_gold ∈ mT := mT_in 539 (by decide +kernel) rfl
theorem co_X5_gold : Cond.code yX5_gold cX5_gold 7 (some .int) ∈ mT := mT_in 542 (by decide +kernel) rfl
theorem cw_L_63 : CW RL 63 yX5_gold cX5_gold 7 (some .int) 4 := ⟨ml_L_63, co_X5_gold, ini_X5, by decide +kernel, by decide +kernel⟩
theorem im_X5_gold : Cond.instanceMethod yX5_gold ∈ mT := mT_in 540 (by decide +kernel) rfl
theorem se_X5_gold : Cond.selects RX5 yX5_gold yX5_gold ∈ mT := mT_in 541 (by decide +kernel) rfl
theorem ml_L_67 : Cond.methodLink RL 67 yX5_key ∈ mT := mT_in 550 (by decide +kernel) rfl
theorem co_X5_key : Cond.code yX5_key cX5_key 8 (some .int) ∈ mT := mT_in 553 (by decide +kernel) rfl
theorem cw_L_67 : CW RL 67 yX5_key cX5_key 8 (some .int) 5 := ⟨ml_L_67, co_X5_key, ini_X5, by decide +kernel, by decide +kernel⟩
theorem im_X5_key : Cond.instanceMethod yX5_key ∈ mT := mT_in 551 (by decide +kernel) rfl
theorem se_X5_key : Cond.selects RX5 yX5_key yX5_key ∈ mT := mT_in 552 (by decide +kernel) rfl
theorem ml_L_70 : Cond.methodLink RL 70 yX5_trust ∈ mT := mT_in 561 (by decide +kernel) rfl
theorem co_X5_trust : Cond.code yX5_trust cX5_trust 2 (some .int) ∈ mT := mT_in 564 (by decide +kernel) rfl
theorem cw_L_70 : CW RL 70 yX5_trust cX5_trust 2 (some .int) 1 := ⟨ml_L_70, co_X5_trust, ini_X5, by decide +kernel, by decide +kernel⟩
theorem im_X5_trust : Cond.instanceMethod yX5_trust ∈ mT := mT_in 562 (by decide +kernel) rfl
theorem se_X5_trust : Cond.selects RX5 yX5_trust yX5_trust ∈ mT := mT_in 563 (by decide +kernel) rfl
theorem ml_L_73 : Cond.methodLink RL 73 yX5_pay ∈ mT := mT_in 580 (by decide +kernel) rfl
theorem co_X5_pay : Cond.code yX5_pay cX5_pay 7 (some .int) ∈ mT := mT_in 583 (by decide +kernel) rfl
theorem cw_L_73 : CW RL 73 yX5_pay cX5_pay 7 (some .int) 1 := ⟨ml_L_73, co_X5_pay, ini_X5, by decide +kernel, by decide +kernel⟩
theorem im_X5_pay : Cond.instanceMethod yX5_pay ∈ mT := mT_in 581 (by decide +kernel) rfl
theorem se_X5_pay : Cond.selects RX5 yX5_pay yX5_pay ∈ mT := mT_in 582 (by decide +kernel) rfl
theorem ml_L_76 : Cond.methodLink RL 76 yX5_read ∈ mT := mT_in 591 (by decide +kernel) rfl
theorem co_X5_read : Cond.code yX5_read cX5_read 5 (some .int) ∈ mT := mT_in 594 (by decide +kernel) rfl
theorem cw_L_76 : CW RL 76 yX5_read cX5_read 5 (some .int) 3 := ⟨ml_L_76, co_X5_read, ini_X5, by decide +kernel, by decide +kernel⟩
theorem im_X5_read : Cond.instanceMethod yX5_read ∈ mT := mT_in 592 (by decide +kernel) rfl
theorem se_X5_read : Cond.selects RX5 yX5_read yX5_read ∈ mT := mT_in 593 (by decide +kernel) rfl
theorem ml_L_80 : Cond.methodLink RL 80 yX5_doubt ∈ mT := mT_in 615 (by decide +kernel) rfl
theorem co_X5_doubt : Cond.code yX5_doubt cX5_doubt 5 (some .int) ∈ mT := mT_in 618 (by decide +kernel) rfl
theorem cw_L_80 : CW RL 80 yX5_doubt cX5_doubt 5 (some .int) 3 := ⟨ml_L_80, co_X5_doubt, ini_X5, by decide +kernel, by decide +kernel⟩
theorem im_X5_doubt : Cond.instanceMethod yX5_doubt ∈ mT := mT_in 616 (by decide +kernel) rfl
theorem se_X5_doubt : Cond.selects RX5 yX5_doubt yX5_doubt ∈ mT := mT_in 617 (by decide +kernel) rfl
theorem ml_L_83 : Cond.methodLink RL 83 yX5_pass ∈ mT := mT_in 629 (by decide +kernel) rfl
theorem co_X5_pass : Cond.code yX5_pass cX5_pass 2 (some .int) ∈ mT := mT_in 632 (by decide +kernel) rfl
theorem cw_L_83 : CW RL 83 yX5_pass cX5_pass 2 (some .int) 1 := ⟨ml_L_83, co_X5_pass, ini_X5, by decide +kernel, by decide +kernel⟩
theorem im_X5_pass : Cond.instanceMethod yX5_pass ∈ mT := mT_in 630 (by decide +kernel) rfl
theorem se_X5_pass : Cond.selects RX5 yX5_pass yX5_pass ∈ mT := mT_in 631 (by decide +kernel) rfl
theorem ml_L_86 : Cond.methodLink RL 86 yX5_term ∈ mT := mT_in 637 (by decide +kernel) rfl
theorem co_X5_term : Cond.code yX5_term cX5_term 4 (some .int) ∈ mT := mT_in 640 (by decide +kernel) rfl
theorem cw_L_86 : CW RL 86 yX5_term cX5_term 4 (some .int) 2 := ⟨ml_L_86, co_X5_term, ini_X5, by decide +kernel, by decide +kernel⟩
theorem im_X5_term : Cond.instanceMethod yX5_term ∈ mT := mT_in 638 (by decide +kernel) rfl
theorem se_X5_term : Cond.selects RX5 yX5_term yX5_term ∈ mT := mT_in 639 (by decide +kernel) rfl
theorem ml_L_89 : Cond.methodLink RL 89 yX5_died ∈ mT := mT_in 648 (by decide +kernel) rfl
theorem co_X5_died : Cond.code yX5_died cX5_died 4 none ∈ mT := mT_in 651 (by decide +kernel) rfl
theorem cw_L_89 : CW RL 89 yX5_died cX5_died 4 none 2 := ⟨ml_L_89, co_X5_died, ini_X5, by decide +kernel, by decide +kernel⟩
theorem im_X5_died : Cond.instanceMethod yX5_died ∈ mT := mT_in 649 (by decide +kernel) rfl
theorem se_X5_died : Cond.selects RX5 yX5_died yX5_died ∈ mT := mT_in 650 (by decide +kernel) rfl
theorem ml_L_93 : Cond.methodLink RL 93 yX5_search ∈ mT := mT_in 656 (by decide +kernel) rfl
theorem co_X5_search : Cond.code yX5_search cX5_search 4 (some .boolean) ∈ mT := mT_in 659 (by decide +kernel) rfl
theorem cw_L_93 : CW RL 93 yX5_search cX5_search 4 (some .boolean) 1 := ⟨ml_L_93, co_X5_search, ini_X5, by decide +kernel, by decide +kernel⟩
theorem im_X5_search : Cond.instanceMethod yX5_search ∈ mT := mT_in 657 (by decide +kernel) rfl
theorem se_X5_search : Cond.selects RX5 yX5_search yX5_search ∈ mT := mT_in 658 (by decide +kernel) rfl
theorem ml_L_97 : Cond.methodLink RL 97 yX5_takeDown ∈ mT := mT_in 663 (by decide +kernel) rfl
theorem co_X5_takeDown : Cond.code yX5_takeDown cX5_takeDown 5 (some .boolean) ∈ mT := mT_in 666 (by decide +kernel) rfl
theorem cw_L_97 : CW RL 97 yX5_takeDown cX5_takeDown 5 (some .boolean) 2 := ⟨ml_L_97, co_X5_takeDown, ini_X5, by decide +kernel, by decide +kernel⟩
theorem im_X5_takeDown : Cond.instanceMethod yX5_takeDown ∈ mT := mT_in 664 (by decide +kernel) rfl
theorem se_X5_takeDown : Cond.selects RX5 yX5_takeDown yX5_takeDown ∈ mT := mT_in 665 (by decide +kernel) rfl
theorem ml_L_101 : Cond.methodLink RL 101 yX5_whyNot ∈ mT := mT_in 670 (by decide +kernel) rfl
theorem co_X5_whyNot : Cond.code yX5_whyNot cX5_whyNot 6 (some .int) ∈ mT := mT_in 673 (by decide +kernel) rfl
theorem cw_L_101 : CW RL 101 yX5_whyNot cX5_whyNot 6 (some .int) 3 := ⟨ml_L_101, co_X5_whyNot, ini_X5, by decide +kernel, by decide +kernel⟩
theorem im_X5_whyNot : Cond.instanceMethod yX5_whyNot ∈ mT := mT_in 671 (by decide +kernel) rfl
theorem se_X5_whyNot : Cond.selects RX5 yX5_whyNot yX5_whyNot ∈ mT := mT_in 672 (by decide +kernel) rfl
theorem ml_L_104 : Cond.methodLink RL 104 yX5_about ∈ mT := mT_in 677 (by decide +kernel) rfl
theorem co_X5_about : Cond.code yX5_about cX5_about 4 (some .int) ∈ mT := mT_in 680 (by decide +kernel) rfl
theorem cw_L_104 : CW RL 104 yX5_about cX5_about 4 (some .int) 2 := ⟨ml_L_104, co_X5_about, ini_X5, by decide +kernel, by decide +kernel⟩
theorem im_X5_about : Cond.instanceMethod yX5_about ∈ mT := mT_in 678 (by decide +kernel) rfl
theorem se_X5_about : Cond.selects RX5 yX5_about yX5_about ∈ mT := mT_in 679 (by decide +kernel) rfl
theorem cl_L_8 : Cond.classLink RL 8 "ScanningHouse" ∈ mT := mT_in 16 (by decide +kernel) rfl
theorem ml_L_107 : Cond.methodLink RL 107 yX5_init ∈ mT := mT_in 18 (by decide +kernel) rfl
theorem co_X5_init : Cond.code yX5_init cX5_init 1 none ∈ mT := mT_in 20 (by decide +kernel) rfl
theorem cw_L_107 : CW RL 107 yX5_init cX5_init 1 none 0 := ⟨ml_L_107, co_X5_init, ini_X5, by decide +kernel, by decide +kernel⟩
theorem im_X5_init : Cond.instanceMethod yX5_init ∈ mT := mT_in 19 (by decide +kernel) rfl
theorem cl_L_108 : Cond.classLink RL 108 "ScanningHouseModel" ∈ mT := mT_in 691 (by decide +kernel) rfl
theorem ml_L_110 : Cond.methodLink RL 110 yX6_init ∈ mT := mT_in 693 (by decide +kernel) rfl
theorem co_X6_init : Cond.code yX6_init cX6_init 1 none ∈ mT := mT_in 695 (by decide +kernel) rfl
theorem cw_L_110 : CW RL 110 yX6_init cX6_init 1 none 0 := ⟨ml_L_110, co_X6_init, ini_X6, by decide +kernel, by decide +kernel⟩
theorem im_X6_init : Cond.instanceMethod yX6_init ∈ mT := mT_in 694 (by decide +kernel) rfl
theorem ml_L_111 : Cond.methodLink RL 111 yL_book ∈ mT := mT_in 127 (by decide +kernel) rfl
theorem st_L_book : Cond.static yL_book ∈ mT := mT_in 128 (by decide +kernel) rfl
theorem ml_L_116 : Cond.methodLink RL 116 yX6_book ∈ mT := mT_in 792 (by decide +kernel) rfl
theorem co_X6_book : Cond.code yX6_book cX6_book 7 (some .int) ∈ mT := mT_in 795 (by decide +kernel) rfl
theorem cw_L_116 : CW RL 116 yX6_book cX6_book 7 (some .int) 5 := ⟨ml_L_116, co_X6_book, ini_X6, by decide +kernel, by decide +kernel⟩
theorem im_X6_book : Cond.instanceMethod yX6_book ∈ mT := mT_in 793 (by decide +kernel) rfl
theorem se_X6_book : Cond.selects RX6 yX6_book yX6_book ∈ mT := mT_in 794 (by decide +kernel) rfl
theorem ml_L_117 : Cond.methodLink RL 117 yX6_thrown ∈ mT := mT_in 788 (by decide +kernel) rfl
theorem co_X6_thrown : Cond.code yX6_thrown cX6_thrown 1 (some .int) ∈ mT := mT_in 791 (by decide +kernel) rfl
theorem cw_L_117 : CW RL 117 yX6_thrown cX6_thrown 1 (some .int) 0 := ⟨ml_L_117, co_X6_thrown, ini_X6, by decide +kernel, by decide +kernel⟩
theorem im_X6_thrown : Cond.instanceMethod yX6_thrown ∈ mT := mT_in 789 (by decide +kernel) rfl
theorem se_X6_thrown : Cond.selects RX6 yX6_thrown yX6_thrown ∈ mT := mT_in 790 (by decide +kernel) rfl
theorem ml_L_121 : Cond.methodLink RL 121 yX5_next ∈ mT := mT_in 103 (by decide +kernel) rfl
theorem co_X5_next : Cond.code yX5_next cX5_next 5 (some .int) ∈ mT := mT_in 106 (by decide +kernel) rfl
theorem cw_L_121 : CW RL 121 yX5_next cX5_next 5 (some .int) 0 := ⟨ml_L_121, co_X5_next, ini_X5, by decide +kernel, by decide +kernel⟩
theorem im_X5_next : Cond.instanceMethod yX5_next ∈ mT := mT_in 104 (by decide +kernel) rfl
theorem se_X5_next : Cond.selects RX5 yX5_next yX5_next ∈ mT := mT_in 105 (by decide +kernel) rfl
theorem ml_L_124 : Cond.methodLink RL 124 yX6_next ∈ mT := mT_in 803 (by decide +kernel) rfl
theorem co_X6_next : Cond.code yX6_next cX6_next 5 (some .int) ∈ mT := mT_in 806 (by decide +kernel) rfl
theorem cw_L_124 : CW RL 124 yX6_next cX6_next 5 (some .int) 0 := ⟨ml_L_124, co_X6_next, ini_X6, by decide +kernel, by decide +kernel⟩
theorem im_X6_next : Cond.instanceMethod yX6_next ∈ mT := mT_in 804 (by decide +kernel) rfl
theorem se_X6_next : Cond.selects RX6 yX6_next yX6_next ∈ mT := mT_in 805 (by decide +kernel) rfl
theorem ct_L_125 : Cond.constantLong RL 125 4294967295 ∈ mT := mT_in 983 (by decide +kernel) rfl
theorem ml_L_127 : Cond.methodLink RL 127 yL_shot ∈ mT := mT_in 312 (by decide +kernel) rfl
theorem st_L_shot : Cond.static yL_shot ∈ mT := mT_in 313 (by decide +kernel) rfl
theorem ml_L_130 : Cond.methodLink RL 130 yX6_shot ∈ mT := mT_in 811 (by decide +kernel) rfl
theorem co_X6_shot : Cond.code yX6_shot cX6_shot 12 (some .int) ∈ mT := mT_in 814 (by decide +kernel) rfl
theorem cw_L_130 : CW RL 130 yX6_shot cX6_shot 12 (some .int) 4 := ⟨ml_L_130, co_X6_shot, ini_X6, by decide +kernel, by decide +kernel⟩
theorem im_X6_shot : Cond.instanceMethod yX6_shot ∈ mT := mT_in 812 (by decide +kernel) rfl
theorem se_X6_shot : Cond.selects RX6 yX6_shot yX6_shot ∈ mT := mT_in 813 (by decide +kernel) rfl
theorem ml_L_131 : Cond.methodLink RL 131 yL_look ∈ mT := mT_in 355 (by decide +kernel) rfl
theorem st_L_look : Cond.static yL_look ∈ mT := mT_in 356 (by decide +kernel) rfl
theorem ml_L_134 : Cond.methodLink RL 134 yX6_look ∈ mT := mT_in 823 (by decide +kernel) rfl
theorem co_X6_look : Cond.code yX6_look cX6_look 5 (some .boolean) ∈ mT := mT_in 826 (by decide +kernel) rfl
theorem cw_L_134 : CW RL 134 yX6_look cX6_look 5 (some .boolean) 2 := ⟨ml_L_134, co_X6_look, ini_X6, by decide +kernel, by decide +kernel⟩
theorem im_X6_look : Cond.instanceMethod yX6_look ∈ mT := mT_in 824 (by decide +kernel) rfl
theorem se_X6_look : Cond.selects RX6 yX6_look yX6_look ∈ mT := mT_in 825 (by decide +kernel) rfl
theorem ml_L_135 : Cond.methodLink RL 135 yX5_calibrate ∈ mT := mT_in 119 (by decide +kernel) rfl
theorem co_X5_calibrate : Cond.code yX5_calibrate cX5_calibrate 2 (some .int) ∈ mT := mT_in 122 (by decide +kernel) rfl
theorem cw_L_135 : CW RL 135 yX5_calibrate cX5_calibrate 2 (some .int) 0 := ⟨ml_L_135, co_X5_calibrate, ini_X5, by decide +kernel, by decide +kernel⟩
theorem im_X5_calibrate : Cond.instanceMethod yX5_calibrate ∈ mT := mT_in 120 (by decide +kernel) rfl
theorem se_X5_calibrate : Cond.selects RX5 yX5_calibrate yX5_calibrate ∈ mT := mT_in 121 (by decide +kernel) rfl
theorem ml_L_138 : Cond.methodLink RL 138 yX6_calibrate ∈ mT := mT_in 827 (by decide +kernel) rfl
theorem co_X6_calibrate : Cond.code yX6_calibrate cX6_calibrate 2 (some .int) ∈ mT := mT_in 830 (by decide +kernel) rfl
theorem cw_L_138 : CW RL 138 yX6_calibrate cX6_calibrate 2 (some .int) 0 := ⟨ml_L_138, co_X6_calibrate, ini_X6, by decide +kernel, by decide +kernel⟩
theorem im_X6_calibrate : Cond.instanceMethod yX6_calibrate ∈ mT := mT_in 828 (by decide +kernel) rfl
theorem se_X6_calibrate : Cond.selects RX6 yX6_calibrate yX6_calibrate ∈ mT := mT_in 829 (by decide +kernel) rfl
theorem ml_L_139 : Cond.methodLink RL 139 yL_rot ∈ mT := mT_in 363 (by decide +kernel) rfl
theorem st_L_rot : Cond.static yL_rot ∈ mT := mT_in 364 (by decide +kernel) rfl
theorem ml_L_142 : Cond.methodLink RL 142 yX6_rot ∈ mT := mT_in 831 (by decide +kernel) rfl
theorem co_X6_rot : Cond.code yX6_rot cX6_rot 8 (some .boolean) ∈ mT := mT_in 834 (by decide +kernel) rfl
theorem cw_L_142 : CW RL 142 yX6_rot cX6_rot 8 (some .boolean) 4 := ⟨ml_L_142, co_X6_rot, ini_X6, by decide +kernel, by decide +kernel⟩
theorem im_X6_rot : Cond.instanceMethod yX6_rot ∈ mT := mT_in 832 (by decide +kernel) rfl
theorem se_X6_rot : Cond.selects RX6 yX6_rot yX6_rot ∈ mT := mT_in 833 (by decide +kernel) rfl
theorem ml_L_143 : Cond.methodLink RL 143 yL_burn ∈ mT := mT_in 399 (by decide +kernel) rfl
theorem st_L_burn : Cond.static yL_burn ∈ mT := mT_in 400 (by decide +kernel) rfl
theorem ml_L_146 : Cond.methodLink RL 146 yX6_burn ∈ mT := mT_in 847 (by decide +kernel) rfl
theorem co_X6_burn : Cond.code yX6_burn cX6_burn 5 (some .int) ∈ mT := mT_in 850 (by decide +kernel) rfl
theorem cw_L_146 : CW RL 146 yX6_burn cX6_burn 5 (some .int) 1 := ⟨ml_L_146, co_X6_burn, ini_X6, by decide +kernel, by decide +kernel⟩
theorem im_X6_burn : Cond.instanceMethod yX6_burn ∈ mT := mT_in 848 (by decide +kernel) rfl
theorem se_X6_burn : Cond.selects RX6 yX6_burn yX6_burn ∈ mT := mT_in 849 (by decide +kernel) rfl
theorem ml_L_147 : Cond.methodLink RL 147 yL_build ∈ mT := mT_in 415 (by decide +kernel) rfl
theorem st_L_build : Cond.static yL_build ∈ mT := mT_in 416 (by decide +kernel) rfl
theorem ml_L_150 : Cond.methodLink RL 150 yX6_build ∈ mT := mT_in 851 (by decide +kernel) rfl
theorem co_X6_build : Cond.code yX6_build cX6_build 3 none ∈ mT := mT_in 854 (by decide +kernel) rfl
theorem cw_L_150 : CW RL 150 yX6_build cX6_build 3 none 1 := ⟨ml_L_150, co_X6_build, ini_X6, by decide +kernel, by decide +kernel⟩
theorem im_X6_build : Cond.instanceMethod yX6_build ∈ mT := mT_in 852 (by decide +kernel) rfl
theorem se_X6_build : Cond.selects RX6 yX6_build yX6_build ∈ mT := mT_in 853 (by decide +kernel) rfl
theorem ml_L_151 : Cond.methodLink RL 151 yL_check ∈ mT := mT_in 423 (by decide +kernel) rfl
theorem st_L_check : Cond.static yL_check ∈ mT := mT_in 424 (by decide +kernel) rfl
theorem ml_L_153 : Cond.methodLink RL 153 yX6_check ∈ mT := mT_in 855 (by decide +kernel) rfl
theorem co_X6_check : Cond.code yX6_check cX6_check 6 (some .int) ∈ mT := mT_in 858 (by decide +kernel) rfl
theorem cw_L_153 : CW RL 153 yX6_check cX6_check 6 (some .int) 2 := ⟨ml_L_153, co_X6_check, ini_X6, by decide +kernel, by decide +kernel⟩
theorem im_X6_check : Cond.instanceMethod yX6_check ∈ mT := mT_in 856 (by decide +kernel) rfl
theorem se_X6_check : Cond.selects RX6 yX6_check yX6_check ∈ mT := mT_in 857 (by decide +kernel) rfl
theorem ml_L_154 : Cond.methodLink RL 154 yX5_looked ∈ mT := mT_in 123 (by decide +kernel) rfl
theorem co_X5_looked : Cond.code yX5_looked cX5_looked 1 (some .int) ∈ mT := mT_in 126 (by decide +kernel) rfl
theorem cw_L_154 : CW RL 154 yX5_looked cX5_looked 1 (some .int) 0 := ⟨ml_L_154, co_X5_looked, ini_X5, by decide +kernel, by decide +kernel⟩
theorem im_X5_looked : Cond.instanceMethod yX5_looked ∈ mT := mT_in 124 (by decide +kernel) rfl
theorem se_X5_looked : Cond.selects RX5 yX5_looked yX5_looked ∈ mT := mT_in 125 (by decide +kernel) rfl
theorem ml_L_157 : Cond.methodLink RL 157 yX6_looked ∈ mT := mT_in 864 (by decide +kernel) rfl
theorem co_X6_looked : Cond.code yX6_looked cX6_looked 1 (some .int) ∈ mT := mT_in 867 (by decide +kernel) rfl
theorem cw_L_157 : CW RL 157 yX6_looked cX6_looked 1 (some .int) 0 := ⟨ml_L_157, co_X6_looked, ini_X6, by decide +kernel, by decide +kernel⟩
theorem im_X6_looked : Cond.instanceMethod yX6_looked ∈ mT := mT_in 865 (by decide +kernel) rfl
theorem se_X6_looked : Cond.selects RX6 yX6_looked yX6_looked ∈ mT := mT_in 866 (by decide +kernel) rfl
theorem ml_L_158 : Cond.methodLink RL 158 yL_mend ∈ mT := mT_in 444 (by decide +kernel) rfl
theorem st_L_mend : Cond.static yL_mend ∈ mT := mT_in 445 (by decide +kernel) rfl
theorem ml_L_160 : Cond.methodLink RL 160 yX6_mend ∈ mT := mT_in 868 (by decide +kernel) rfl
theorem co_X6_mend : Cond.code yX6_mend cX6_mend 8 (some .int) ∈ mT := mT_in 871 (by decide +kernel) rfl
theorem cw_L_160 : CW RL 160 yX6_mend cX6_mend 8 (some .int) 2 := ⟨ml_L_160, co_X6_mend, ini_X6, by decide +kernel, by decide +kernel⟩
theorem im_X6_mend : Cond.instanceMethod yX6_mend ∈ mT := mT_in 869 (by decide +kernel) rfl
theorem se_X6_mend : Cond.selects RX6 yX6_mend yX6_mend ∈ mT := mT_in 870 (by decide +kernel) rfl
theorem ml_L_161 : Cond.methodLink RL 161 yL_copy ∈ mT := mT_in 461 (by decide +kernel) rfl
theorem st_L_copy : Cond.static yL_copy ∈ mT := mT_in 462 (by decide +kernel) rfl
theorem ml_L_164 : Cond.methodLink RL 164 yX6_copy ∈ mT := mT_in 876 (by decide +kernel) rfl
theorem co_X6_copy : Cond.code yX6_copy cX6_copy 6 (some .long) ∈ mT := mT_in 879 (by decide +kernel) rfl
theorem cw_L_164 : CW RL 164 yX6_copy cX6_copy 6 (some .long) 3 := ⟨ml_L_164, co_X6_copy, ini_X6, by decide +kernel, by decide +kernel⟩
theorem im_X6_copy : Cond.instanceMethod yX6_copy ∈ mT := mT_in 877 (by decide +kernel) rfl
theorem se_X6_copy : Cond.selects RX6 yX6_copy yX6_copy ∈ mT := mT_in 878 (by decide +kernel) rfl
theorem ml_L_165 : Cond.methodLink RL 165 yL_isLost ∈ mT := mT_in 468 (by decide +kernel) rfl
theorem st_L_isLost : Cond.static yL_isLost ∈ mT := mT_in 469 (by decide +kernel) rfl
theorem ml_L_167 : Cond.methodLink RL 167 yX6_isLost ∈ mT := mT_in 880 (by decide +kernel) rfl
theorem co_X6_isLost : Cond.code yX6_isLost cX6_isLost 3 (some .boolean) ∈ mT := mT_in 883 (by decide +kernel) rfl
theorem cw_L_167 : CW RL 167 yX6_isLost cX6_isLost 3 (some .boolean) 2 := ⟨ml_L_167, co_X6_isLost, ini_X6, by decide +kernel, by decide +kernel⟩
theorem im_X6_isLost : Cond.instanceMethod yX6_isLost ∈ mT := mT_in 881 (by decide +kernel) rfl
theorem se_X6_isLost : Cond.selects RX6 yX6_isLost yX6_isLost ∈ mT := mT_in 882 (by decide +kernel) rfl
theorem ml_L_168 : Cond.methodLink RL 168 yL_words ∈ mT := mT_in 479 (by decide +kernel) rfl
theorem st_L_words : Cond.static yL_words ∈ mT := mT_in 480 (by decide +kernel) rfl
theorem ml_L_171 : Cond.methodLink RL 171 yX6_words ∈ mT := mT_in 888 (by decide +kernel) rfl
theorem co_X6_words : Cond.code yX6_words cX6_words 6 none ∈ mT := mT_in 891 (by decide +kernel) rfl
theorem cw_L_171 : CW RL 171 yX6_words cX6_words 6 none 4 := ⟨ml_L_171, co_X6_words, ini_X6, by decide +kernel, by decide +kernel⟩
theorem im_X6_words : Cond.instanceMethod yX6_words ∈ mT := mT_in 889 (by decide +kernel) rfl
theorem se_X6_words : Cond.selects RX6 yX6_words yX6_words ∈ mT := mT_in 890 (by decide +kernel) rfl
theorem ml_L_172 : Cond.methodLink RL 172 yL_order ∈ mT := mT_in 486 (by decide +kernel) rfl
theorem st_L_order : Cond.static yL_order ∈ mT := mT_in 487 (by decide +kernel) rfl
theorem ml_L_174 : Cond.methodLink RL 174 yX6_order ∈ mT := mT_in 892 (by decide +kernel) rfl
theorem co_X6_order : Cond.code yX6_order cX6_order 3 (some .int) ∈ mT := mT_in 895 (by decide +kernel) rfl
theorem cw_L_174 : CW RL 174 yX6_order cX6_order 3 (some .int) 2 := ⟨ml_L_174, co_X6_order, ini_X6, by decide +kernel, by decide +kernel⟩
theorem im_X6_order : Cond.instanceMethod yX6_order ∈ mT := mT_in 893 (by decide +kernel) rfl
theorem se_X6_order : Cond.selects RX6 yX6_order yX6_order ∈ mT := mT_in 894 (by decide +kernel) rfl
theorem ml_L_175 : Cond.methodLink RL 175 yL_orderAnew ∈ mT := mT_in 513 (by decide +kernel) rfl
theorem st_L_orderAnew : Cond.static yL_orderAnew ∈ mT := mT_in 514 (by decide +kernel) rfl
theorem ml_L_177 : Cond.methodLink RL 177 yX6_orderAnew ∈ mT := mT_in 908 (by decide +kernel) rfl
theorem co_X6_orderAnew : Cond.code yX6_orderAnew cX6_orderAnew 3 (some .int) ∈ mT := mT_in 911 (by decide +kernel) rfl
theorem cw_L_177 : CW RL 177 yX6_orderAnew cX6_orderAnew 3 (some .int) 2 := ⟨ml_L_177, co_X6_orderAnew, ini_X6, by decide +kernel, by decide +kernel⟩
theorem im_X6_orderAnew : Cond.instanceMethod yX6_orderAnew ∈ mT := mT_in 909 (by decide +kernel) rfl
theorem se_X6_orderAnew : Cond.selects RX6 yX6_orderAnew yX6_orderAnew ∈ mT := mT_in 910 (by decide +kernel) rfl
theorem ml_L_178 : Cond.methodLink RL 178 yL_gold ∈ mT := mT_in 536 (by decide +kernel) rfl
theorem st_L_gold : Cond.static yL_gold ∈ mT := mT_in 537 (by decide +kernel) rfl
theorem ml_L_180 : Cond.methodLink RL 180 yX6_gold ∈ mT := mT_in 912 (by decide +kernel) rfl
theorem co_X6_gold : Cond.code yX6_gold cX6_gold 7 (some .int) ∈ mT := mT_in 915 (by decide +kernel) rfl
theorem cw_L_180 : CW RL 180 yX6_gold cX6_gold 7 (some .int) 4 := ⟨ml_L_180, co_X6_gold, ini_X6, by decide +kernel, by decide +kernel⟩
theorem im_X6_gold : Cond.instanceMethod yX6_gold ∈ mT := mT_in 913 (by decide +kernel) rfl
theorem se_X6_gold : Cond.selects RX6 yX6_gold yX6_gold ∈ mT := mT_in 914 (by decide +kernel) rfl
theorem ml_L_181 : Cond.methodLink RL 181 yL_key ∈ mT := mT_in 547 (by decide +kernel) rfl
theorem st_L_key : Cond.static yL_key ∈ mT := mT_in 548 (by decide +kernel) rfl
theorem ml_L_183 : Cond.methodLink RL 183 yX6_key ∈ mT := mT_in 923 (by decide +kernel) rfl
theorem co_X6_key : Cond.code yX6_key cX6_key 9 (some .int) ∈ mT := mT_in 926 (by decide +kernel) rfl
theorem cw_L_183 : CW RL 183 yX6_key cX6_key 9 (some .int) 5 := ⟨ml_L_183, co_X6_key, ini_X6, by decide +kernel, by decide +kernel⟩
theorem im_X6_key : Cond.instanceMethod yX6_key ∈ mT := mT_in 924 (by decide +kernel) rfl
theorem se_X6_key : Cond.selects RX6 yX6_key yX6_key ∈ mT := mT_in 925 (by decide +kernel) rfl
theorem ml_L_184 : Cond.methodLink RL 184 yL_trust ∈ mT := mT_in 558 (by decide +kernel) rfl
theorem st_L_trust : Cond.static yL_trust ∈ mT := mT_in 559 (by decide +kernel) rfl
theorem ml_L_186 : Cond.methodLink RL 186 yX6_trust ∈ mT := mT_in 927 (by decide +kernel) rfl
theorem co_X6_trust : Cond.code yX6_trust cX6_trust 2 (some .int) ∈ mT := mT_in 930 (by decide +kernel) rfl
theorem cw_L_186 : CW RL 186 yX6_trust cX6_trust 2 (some .int) 1 := ⟨ml_L_186, co_X6_trust, ini_X6, by decide +kernel, by decide +kernel⟩
theorem im_X6_trust : Cond.instanceMethod yX6_trust ∈ mT := mT_in 928 (by decide +kernel) rfl
theorem se_X6_trust : Cond.selects RX6 yX6_trust yX6_trust ∈ mT := mT_in 929 (by decide +kernel) rfl
theorem ml_L_187 : Cond.methodLink RL 187 yL_pay ∈ mT := mT_in 577 (by decide +kernel) rfl
theorem st_L_pay : Cond.static yL_pay ∈ mT := mT_in 578 (by decide +kernel) rfl
theorem ml_L_189 : Cond.methodLink RL 189 yX6_pay ∈ mT := mT_in 935 (by decide +kernel) rfl
theorem co_X6_pay : Cond.code yX6_pay cX6_pay 4 (some .int) ∈ mT := mT_in 938 (by decide +kernel) rfl
theorem cw_L_189 : CW RL 189 yX6_pay cX6_pay 4 (some .int) 1 := ⟨ml_L_189, co_X6_pay, ini_X6, by decide +kernel, by decide +kernel⟩
theorem im_X6_pay : Cond.instanceMethod yX6_pay ∈ mT := mT_in 936 (by decide +kernel) rfl
theorem se_X6_pay : Cond.selects RX6 yX6_pay yX6_pay ∈ mT := mT_in 937 (by decide +kernel) rfl
theorem ml_L_190 : Cond.methodLink RL 190 yL_read ∈ mT := mT_in 588 (by decide +kernel) rfl
theorem st_L_read : Cond.static yL_read ∈ mT := mT_in 589 (by decide +kernel) rfl
theorem ml_L_192 : Cond.methodLink RL 192 yX6_read ∈ mT := mT_in 939 (by decide +kernel) rfl
theorem co_X6_read : Cond.code yX6_read cX6_read 9 (some .int) ∈ mT := mT_in 942 (by decide +kernel) rfl
theorem cw_L_192 : CW RL 192 yX6_read cX6_read 9 (some .int) 3 := ⟨ml_L_192, co_X6_read, ini_X6, by decide +kernel, by decide +kernel⟩
theorem im_X6_read : Cond.instanceMethod yX6_read ∈ mT := mT_in 940 (by decide +kernel) rfl
theorem se_X6_read : Cond.selects RX6 yX6_read yX6_read ∈ mT := mT_in 941 (by decide +kernel) rfl
theorem ml_L_193 : Cond.methodLink RL 193 yL_doubt ∈ mT := mT_in 612 (by decide +kernel) rfl
theorem st_L_doubt : Cond.static yL_doubt ∈ mT := mT_in 613 (by decide +kernel) rfl
theorem ml_L_195 : Cond.methodLink RL 195 yX6_doubt ∈ mT := mT_in 951 (by decide +kernel) rfl
theorem co_X6_doubt : Cond.code yX6_doubt cX6_doubt 9 (some .int) ∈ mT := mT_in 954 (by decide +kernel) rfl
theorem cw_L_195 : CW RL 195 yX6_doubt cX6_doubt 9 (some .int) 3 := ⟨ml_L_195, co_X6_doubt, ini_X6, by decide +kernel, by decide +kernel⟩
theorem im_X6_doubt : Cond.instanceMethod yX6_doubt ∈ mT := mT_in 952 (by decide +kernel) rfl
theorem se_X6_doubt : Cond.selects RX6 yX6_doubt yX6_doubt ∈ mT := mT_in 953 (by decide +kernel) rfl
theorem ml_L_196 : Cond.methodLink RL 196 yL_pass ∈ mT := mT_in 626 (by decide +kernel) rfl
theorem st_L_pass : Cond.static yL_pass ∈ mT := mT_in 627 (by decide +kernel) rfl
theorem ml_L_198 : Cond.methodLink RL 198 yX6_pass ∈ mT := mT_in 955 (by decide +kernel) rfl
theorem co_X6_pass : Cond.code yX6_pass cX6_pass 3 (some .int) ∈ mT := mT_in 958 (by decide +kernel) rfl
theorem cw_L_198 : CW RL 198 yX6_pass cX6_pass 3 (some .int) 1 := ⟨ml_L_198, co_X6_pass, ini_X6, by decide +kernel, by decide +kernel⟩
theorem im_X6_pass : Cond.instanceMethod yX6_pass ∈ mT := mT_in 956 (by decide +kernel) rfl
theorem se_X6_pass : Cond.selects RX6 yX6_pass yX6_pass ∈ mT := mT_in 957 (by decide +kernel) rfl
theorem ml_L_199 : Cond.methodLink RL 199 yL_term ∈ mT := mT_in 634 (by decide +kernel) rfl
theorem st_L_term : Cond.static yL_term ∈ mT := mT_in 635 (by decide +kernel) rfl
theorem ml_L_201 : Cond.methodLink RL 201 yX6_term ∈ mT := mT_in 959 (by decide +kernel) rfl
theorem co_X6_term : Cond.code yX6_term cX6_term 5 (some .int) ∈ mT := mT_in 962 (by decide +kernel) rfl
theorem cw_L_201 : CW RL 201 yX6_term cX6_term 5 (some .int) 2 := ⟨ml_L_201, co_X6_term, ini_X6, by decide +kernel, by decide +kernel⟩
theorem im_X6_term : Cond.instanceMethod yX6_term ∈ mT := mT_in 960 (by decide +kernel) rfl
theorem se_X6_term : Cond.selects RX6 yX6_term yX6_term ∈ mT := mT_in 961 (by decide +kernel) rfl
theorem ml_L_202 : Cond.methodLink RL 202 yL_died ∈ mT := mT_in 645 (by decide +kernel) rfl
theorem st_L_died : Cond.static yL_died ∈ mT := mT_in 646 (by decide +kernel) rfl
theorem ml_L_205 : Cond.methodLink RL 205 yX6_died ∈ mT := mT_in 963 (by decide +kernel) rfl
theorem co_X6_died : Cond.code yX6_died cX6_died 4 none ∈ mT := mT_in 966 (by decide +kernel) rfl
theorem cw_L_205 : CW RL 205 yX6_died cX6_died 4 none 2 := ⟨ml_L_205, co_X6_died, ini_X6, by decide +kernel, by decide +kernel⟩
theorem im_X6_died : Cond.instanceMethod yX6_died ∈ mT := mT_in 964 (by decide +kernel) rfl
theorem se_X6_died : Cond.selects RX6 yX6_died yX6_died ∈ mT := mT_in 965 (by decide +kernel) rfl
theorem ml_L_206 : Cond.methodLink RL 206 yL_search ∈ mT := mT_in 653 (by decide +kernel) rfl
theorem st_L_search : Cond.static yL_search ∈ mT := mT_in 654 (by decide +kernel) rfl
theorem ml_L_208 : Cond.methodLink RL 208 yX6_search ∈ mT := mT_in 967 (by decide +kernel) rfl
theorem co_X6_search : Cond.code yX6_search cX6_search 3 (some .boolean) ∈ mT := mT_in 970 (by decide +kernel) rfl
theorem cw_L_208 : CW RL 208 yX6_search cX6_search 3 (some .boolean) 1 := ⟨ml_L_208, co_X6_search, ini_X6, by decide +kernel, by decide +kernel⟩
theorem im_X6_search : Cond.instanceMethod yX6_search ∈ mT := mT_in 968 (by decide +kernel) rfl
theorem se_X6_search : Cond.selects RX6 yX6_search yX6_search ∈ mT := mT_in 969 (by decide +kernel) rfl
theorem ml_L_209 : Cond.methodLink RL 209 yL_takeDown ∈ mT := mT_in 660 (by decide +kernel) rfl
theorem st_L_takeDown : Cond.static yL_takeDown ∈ mT := mT_in 661 (by decide +kernel) rfl
theorem ml_L_212 : Cond.methodLink RL 212 yX6_takeDown ∈ mT := mT_in 971 (by decide +kernel) rfl
theorem co_X6_takeDown : Cond.code yX6_takeDown cX6_takeDown 4 (some .boolean) ∈ mT := mT_in 974 (by decide +kernel) rfl
theorem cw_L_212 : CW RL 212 yX6_takeDown cX6_takeDown 4 (some .boolean) 2 := ⟨ml_L_212, co_X6_takeDown, ini_X6, by decide +kernel, by decide +kernel⟩
theorem im_X6_takeDown : Cond.instanceMethod yX6_takeDown ∈ mT := mT_in 972 (by decide +kernel) rfl
theorem se_X6_takeDown : Cond.selects RX6 yX6_takeDown yX6_takeDown ∈ mT := mT_in 973 (by decide +kernel) rfl
theorem ml_L_213 : Cond.methodLink RL 213 yL_whyNot ∈ mT := mT_in 667 (by decide +kernel) rfl
theorem st_L_whyNot : Cond.static yL_whyNot ∈ mT := mT_in 668 (by decide +kernel) rfl
theorem ml_L_215 : Cond.methodLink RL 215 yX6_whyNot ∈ mT := mT_in 975 (by decide +kernel) rfl
theorem co_X6_whyNot : Cond.code yX6_whyNot cX6_whyNot 6 (some .int) ∈ mT := mT_in 978 (by decide +kernel) rfl
theorem cw_L_215 : CW RL 215 yX6_whyNot cX6_whyNot 6 (some .int) 3 := ⟨ml_L_215, co_X6_whyNot, ini_X6, by decide +kernel, by decide +kernel⟩
theorem im_X6_whyNot : Cond.instanceMethod yX6_whyNot ∈ mT := mT_in 976 (by decide +kernel) rfl
theorem se_X6_whyNot : Cond.selects RX6 yX6_whyNot yX6_whyNot ∈ mT := mT_in 977 (by decide +kernel) rfl
theorem ml_L_216 : Cond.methodLink RL 216 yL_about ∈ mT := mT_in 674 (by decide +kernel) rfl
theorem st_L_about : Cond.static yL_about ∈ mT := mT_in 675 (by decide +kernel) rfl
theorem ml_L_218 : Cond.methodLink RL 218 yX6_about ∈ mT := mT_in 979 (by decide +kernel) rfl
theorem co_X6_about : Cond.code yX6_about cX6_about 7 (some .int) ∈ mT := mT_in 982 (by decide +kernel) rfl
theorem cw_L_218 : CW RL 218 yX6_about cX6_about 7 (some .int) 2 := ⟨ml_L_218, co_X6_about, ini_X6, by decide +kernel, by decide +kernel⟩
theorem im_X6_about : Cond.instanceMethod yX6_about ∈ mT := mT_in 980 (by decide +kernel) rfl
theorem se_X6_about : Cond.selects RX6 yX6_about yX6_about ∈ mT := mT_in 981 (by decide +kernel) rfl
theorem ins_X0 : Cond.instantiable RX0 8 ∈ mT := mT_in 223 (by decide +kernel) rfl
theorem ins_X1 : Cond.instantiable RX1 2 ∈ mT := mT_in 60 (by decide +kernel) rfl
theorem ins_X2 : Cond.instantiable RX2 10 ∈ mT := mT_in 230 (by decide +kernel) rfl
theorem ins_X3 : Cond.instantiable RX3 1 ∈ mT := mT_in 49 (by decide +kernel) rfl
theorem ins_X4 : Cond.instantiable RX4 4 ∈ mT := mT_in 27 (by decide +kernel) rfl
theorem ins_X5 : Cond.instantiable RX5 9 ∈ mT := mT_in 17 (by decide +kernel) rfl
theorem ins_X6 : Cond.instantiable RX6 30 ∈ mT := mT_in 692 (by decide +kernel) rfl
theorem ac_int : Cond.arrayClass .int ∈ mT := mT_in 58 (by decide +kernel) rfl
theorem ac_boolean : Cond.arrayClass .boolean ∈ mT := mT_in 46 (by decide +kernel) rfl
theorem ac_long : Cond.arrayClass .long ∈ mT := mT_in 47 (by decide +kernel) rfl
theorem im_obj : Cond.instanceMethod objectInit ∈ mT := mT_in 22 (by decide +kernel) rfl
theorem co_obj : Cond.code objectInit ⟨#[0xb1]⟩ 1 none ∈ mT := mT_in 23 (by decide +kernel) rfl
theorem st_fill : Cond.static yJ7_fill_53178 ∈ mT := mT_in 73 (by decide +kernel) rfl
theorem co_fill : Cond.code yJ7_fill_53178 cJ7_fill_53178 4 none ∈ mT := mT_in 74 (by decide +kernel) rfl
theorem ini_arrays : Cond.initialized "java/util/Arrays" ∈ mT := mT_in 5 (by decide +kernel) rfl
theorem st_max : Cond.static Lib.Math.max.name ∈ mT := mT_in 624 (by decide +kernel) rfl
theorem ini_math : Cond.initialized "java/lang/Math" ∈ mT := mT_in 15 (by decide +kernel) rfl
theorem co_max : Cond.code Lib.Math.max.name Lib.Math.max.code 2 (some .int) ∈ mT := mT_in 625 (by decide +kernel) rfl
theorem cwf_X1_15 : CW RX1 15 yJ7_fill_53178 cJ7_fill_53178 4 none 2 := ⟨ml_X1_15, co_fill, ini_arrays, by decide +kernel, by decide +kernel⟩
theorem cwf_X2_28 : CW RX2 28 yJ7_fill_53178 cJ7_fill_53178 4 none 2 := ⟨ml_X2_28, co_fill, ini_arrays, by decide +kernel, by decide +kernel⟩
theorem cwf_X5_48 : CW RX5 48 yJ7_fill_53178 cJ7_fill_53178 4 none 2 := ⟨ml_X5_48, co_fill, ini_arrays, by decide +kernel, by decide +kernel⟩
theorem tw_IAE : ∀ w ∈ Cond.classLink RX5 250 "java/lang/IllegalArgumentException" :: Cond.initialized "java/lang/IllegalArgumentException" :: vx_atS RX5 254 "java/lang/IllegalArgumentException" ["java/lang/RuntimeException", "java/lang/Exception"], w ∈ mT := by decide +kernel
theorem tw_ISE : ∀ w ∈ Cond.classLink RX5 61 "java/lang/IllegalStateException" :: Cond.initialized "java/lang/IllegalStateException" :: vx_atS RX5 65 "java/lang/IllegalStateException" ["java/lang/RuntimeException", "java/lang/Exception"], w ∈ mT := by decide +kernel
theorem tw_IOOBE : ∀ w ∈ Cond.classLink RX5 255 "java/lang/IndexOutOfBoundsException" :: Cond.initialized "java/lang/IndexOutOfBoundsException" :: vx_atS RX5 259 "java/lang/IndexOutOfBoundsException" ["java/lang/RuntimeException", "java/lang/Exception"], w ∈ mT := by decide +kernel
end
section
section MKN
variable {p : Program} {l : Launch} {e : Env} {R : Room} {s : State} {m : MethodId} {args : Array Value} {below : List Frame} {meth : Method} {c : Code} {Q : State → Prop} {g : mG} {μ : mM} {z k n pc : Nat} {lv : List (Nat × Value)} {st : List Value} {cc : ByteArray} {nL : Nat} {own : String}
theorem v_icmp_eq_n {a b : Nat} {off : Int} (tgt : Nat) (o : Ok p l s m args meth c g cc nL own) (d : decode cc pc = .ok (.if_icmp .eq off, 3)) (ht : (pc : Int) + off = (tgt : Int)) (ha : a < 2 ^ 31) (hb : b < 2 ^ 31) (kt : a = b → V p l e R s m args below meth c Q g μ z k n (tgt) lv (st)) (kf : ¬ a = b → V p l e R s m args below meth c Q g μ z k n (pc + 3) lv (st)) : V p l e R s m args below meth c Q g μ z k n (pc) lv (.int (nI b) :: .int (nI a) :: st) := v_icmp_eq tgt o d ht (fun q => kt ((nI_eq ha hb).mp q)) (fun q => kf (fun h => q ((nI_eq ha hb).mpr h)))
theorem v_icmp_ne_n {a b : Nat} {off : Int} (tgt : Nat) (o : Ok p l s m args meth c g cc nL own) (d : decode cc pc = .ok (.if_icmp .ne off, 3)) (ht : (pc : Int) + off = (tgt : Int)) (ha : a < 2 ^ 31) (hb : b < 2 ^ 31) (kt : ¬ a = b → V p l e R s m args below meth c Q g μ z k n (tgt) lv (st)) (kf : a = b → V p l e R s m args below meth c Q g μ z k n (pc + 3) lv (st)) : V p l e R s m args below meth c Q g μ z k n (pc) lv (.int (nI b) :: .int (nI a) :: st) := v_icmp_ne tgt o d ht (fun q => kt (fun h => q (by rw [h]))) (fun q => kf ((nI_eq ha hb).mp q))
theorem v_icmp_lt_n {a b : Nat} {off : Int} (tgt : Nat) (o : Ok p l s m args meth c g cc nL own) (d : decode cc pc = .ok (.if_icmp .lt off, 3)) (ht : (pc : Int) + off = (tgt : Int)) (ha : a < 2 ^ 31) (hb : b < 2 ^ 31) (kt : a < b → V p l e R s m args below meth c Q g μ z k n (tgt) lv (st)) (kf : ¬ a < b → V p l e R s m args below meth c Q g μ z k n (pc + 3) lv (st)) : V p l e R s m args below meth c Q g μ z k n (pc) lv (.int (nI b) :: .int (nI a) :: st) := v_icmp_lt tgt o d ht (fun q => kt ((nI_ltI ha hb).mp q)) (fun q => kf (fun h => q ((nI_ltI ha hb).mpr h)))
theorem v_icmp_ge_n {a b : Nat} {off : Int} (tgt : Nat) (o : Ok p l s m args meth c g cc nL own) (d : decode cc pc = .ok (.if_icmp .ge off, 3)) (ht : (pc : Int) + off = (tgt : Int)) (ha : a < 2 ^ 31) (hb : b < 2 ^ 31) (kt : b ≤ a → V p l e R s m args below meth c Q g μ z k n (tgt) lv (st)) (kf : ¬ b ≤ a → V p l e R s m args below meth c Q g μ z k n (pc + 3) lv (st)) : V p l e R s m args below meth c Q g μ z k n (pc) lv (.int (nI b) :: .int (nI a) :: st) := v_icmp_ge tgt o d ht (fun q => kt ((nI_leI hb ha).mp q)) (fun q => kf (fun h => q ((nI_leI hb ha).mpr h)))
theorem v_icmp_gt_n {a b : Nat} {off : Int} (tgt : Nat) (o : Ok p l s m args meth c g cc nL own) (d : decode cc pc = .ok (.if_icmp .gt off, 3)) (ht : (pc : Int) + off = (tgt : Int)) (ha : a < 2 ^ 31) (hb : b < 2 ^ 31) (kt : b < a → V p l e R s m args below meth c Q g μ z k n (tgt) lv (st)) (kf : ¬ b < a → V p l e R s m args below meth c Q g μ z k n (pc + 3) lv (st)) : V p l e R s m args below meth c Q g μ z k n (pc) lv (.int (nI b) :: .int (nI a) :: st) := v_icmp_gt tgt o d ht (fun q => kt ((nI_ltI hb ha).mp q)) (fun q => kf (fun h => q ((nI_ltI hb ha).mpr h)))
theorem v_icmp_le_n {a b : Nat} {off : Int} (tgt : Nat) (o : Ok p l s m args meth c g cc nL own) (d : decode cc pc = .ok (.if_icmp .le off, 3)) (ht : (pc : Int) + off = (tgt : Int)) (ha : a < 2 ^ 31) (hb : b < 2 ^ 31) (kt : a ≤ b → V p l e R s m args below meth c Q g μ z k n (tgt) lv (st)) (kf : ¬ a ≤ b → V p l e R s m args below meth c Q g μ z k n (pc + 3) lv (st)) : V p l e R s m args below meth c Q g μ z k n (pc) lv (.int (nI b) :: .int (nI a) :: st) := v_icmp_le tgt o d ht (fun q => kt ((nI_leI ha hb).mp q)) (fun q => kf (fun h => q ((nI_leI ha hb).mpr h)))
theorem v_if_eq_n {a : Nat} {off : Int} (tgt : Nat) (o : Ok p l s m args meth c g cc nL own) (d : decode cc pc = .ok (.ifCond .eq off, 3)) (ht : (pc : Int) + off = (tgt : Int)) (ha : a < 2 ^ 31) (kt : a = 0 → V p l e R s m args below meth c Q g μ z k n (tgt) lv (st)) (kf : ¬ a = 0 → V p l e R s m args below meth c Q g μ z k n (pc + 3) lv (st)) : V p l e R s m args below meth c Q g μ z k n (pc) lv (.int (nI a) :: st) := v_if_eq tgt o d ht (fun q => kt ((nI_eq ha (by decide : 0 < 2 ^ 31)).mp q)) (fun q => kf (fun h => q ((nI_eq ha (by decide : 0 < 2 ^ 31)).mpr h)))
theorem v_if_lt_n {a : Nat} {off : Int} (tgt : Nat) (o : Ok p l s m args meth c g cc nL own) (d : decode cc pc = .ok (.ifCond .lt off, 3)) (ht : (pc : Int) + off = (tgt : Int)) (ha : a < 2 ^ 31) (kt : a < 0 → V p l e R s m args below meth c Q g μ z k n (tgt) lv (st)) (kf : ¬ a < 0 → V p l e R s m args below meth c Q g μ z k n (pc + 3) lv (st)) : V p l e R s m args below meth c Q g μ z k n (pc) lv (.int (nI a) :: st) := v_if_lt tgt o d ht (fun q => kt ((nI_ltI ha (by decide : 0 < 2 ^ 31)).mp q)) (fun q => kf (fun h => q ((nI_ltI ha (by decide : 0 < 2 ^ 31)).mpr h)))
theorem v_if_ge_n {a : Nat} {off : Int} (tgt : Nat) (o : Ok p l s m args meth c g cc nL own) (d : decode cc pc = .ok (.ifCond .ge off, 3)) (ht : (pc : Int) + off = (tgt : Int)) (ha : a < 2 ^ 31) (kt : 0 ≤ a → V p l e R s m args below meth c Q g μ z k n (tgt) lv (st)) (kf : ¬ 0 ≤ a → V p l e R s m args below meth c Q g μ z k n (pc + 3) lv (st)) : V p l e R s m args below meth c Q g μ z k n (pc) lv (.int (nI a) :: st) := v_if_ge tgt o d ht (fun q => kt ((nI_leI (by decide : 0 < 2 ^ 31) ha).mp q)) (fun q => kf (fun h => q ((nI_leI (by decide : 0 < 2 ^ 31) ha).mpr h)))
theorem v_if_gt_n {a : Nat} {off : Int} (tgt : Nat) (o : Ok p l s m args meth c g cc nL own) (d : decode cc pc = .ok (.ifCond .gt off, 3)) (ht : (pc : Int) + off = (tgt : Int)) (ha : a < 2 ^ 31) (kt : 0 < a → V p l e R s m args below meth c Q g μ z k n (tgt) lv (st)) (kf : ¬ 0 < a → V p l e R s m args below meth c Q g μ z k n (pc + 3) lv (st)) : V p l e R s m args below meth c Q g μ z k n (pc) lv (.int (nI a) :: st) := v_if_gt tgt o d ht (fun q => kt ((nI_ltI (by decide : 0 < 2 ^ 31) ha).mp q)) (fun q => kf (fun h => q ((nI_ltI (by decide : 0 < 2 ^ 31) ha).mpr h)))
theorem v_if_le_n {a : Nat} {off : Int} (tgt : Nat) (o : Ok p l s m args meth c g cc nL own) (d : decode cc pc = .ok (.ifCond .le off, 3)) (ht : (pc : Int) + off = (tgt : Int)) (ha : a < 2 ^ 31) (kt : a ≤ 0 → V p l e R s m args below meth c Q g μ z k n (tgt) lv (st)) (kf : ¬ a ≤ 0 → V p l e R s m args below meth c Q g μ z k n (pc + 3) lv (st)) : V p l e R s m args below meth c Q g μ z k n (pc) lv (.int (nI a) :: st) := v_if_le tgt o d ht (fun q => kt ((nI_leI ha (by decide : 0 < 2 ^ 31)).mp q)) (fun q => kf (fun h => q ((nI_leI ha (by decide : 0 < 2 ^ 31)).mpr h)))
theorem v_if_ne_n {a : Nat} {off : Int} (tgt : Nat) (o : Ok p l s m args meth c g cc nL own) (d : decode cc pc = .ok (.ifCond .ne off, 3)) (ht : (pc : Int) + off = (tgt : Int)) (ha : a < 2 ^ 31) (kt : ¬ a = 0 → V p l e R s m args below meth c Q g μ z k n (tgt) lv (st)) (kf : a = 0 → V p l e R s m args below meth c Q g μ z k n (pc + 3) lv (st)) : V p l e R s m args below meth c Q g μ z k n (pc) lv (.int (nI a) :: st) := v_if_ne tgt o d ht (fun q => kt (fun h => q (by rw [h]; rfl))) (fun q => kf ((nI_eq ha (by decide : 0 < 2 ^ 31)).mp q))
theorem v_if_eq_b {a : Bool} {off : Int} (tgt : Nat) (o : Ok p l s m args meth c g cc nL own) (d : decode cc pc = .ok (.ifCond .eq off, 3)) (ht : (pc : Int) + off = (tgt : Int)) (kt : a = false → V p l e R s m args below meth c Q g μ z k n (tgt) lv (st)) (kf : a = true → V p l e R s m args below meth c Q g μ z k n (pc + 3) lv (st)) : V p l e R s m args below meth c Q g μ z k n (pc) lv (.int (bI a) :: st) := v_if_eq tgt o d ht (fun q => kt (bI_z.mp q)) (fun q => kf (bI_nz.mp q))
theorem v_if_ne_b {a : Bool} {off : Int} (tgt : Nat) (o : Ok p l s m args meth c g cc nL own) (d : decode cc pc = .ok (.ifCond .ne off, 3)) (ht : (pc : Int) + off = (tgt : Int)) (kt : a = true → V p l e R s m args below meth c Q g μ z k n (tgt) lv (st)) (kf : a = false → V p l e R s m args below meth c Q g μ z k n (pc + 3) lv (st)) : V p l e R s m args below meth c Q g μ z k n (pc) lv (.int (bI a) :: st) := v_if_ne tgt o d ht (fun q => kt (bI_nz.mp q)) (fun q => kf (bI_z.mp q))
theorem iinc_n (a b : Nat) : nI a + Int32.ofInt (b : Int) = nI (a + b) := by rw [← nI_add]; rfl
theorem v_st (st' : List Value) (h : st = st') (kk : V p l e R s m args below meth c Q g μ z k n (pc) lv (st')) : V p l e R s m args below meth c Q g μ z k n (pc) lv (st) := by rw [h]; exact kk
theorem v_top {x : Int32} (y : Int32) (h : x = y) (kk : V p l e R s m args below meth c Q g μ z k n (pc) lv (.int y :: st)) : V p l e R s m args below meth c Q g μ z k n (pc) lv (.int x :: st) := by rw [h]; exact kk
theorem v_topL {x : Int64} (y : Int64) (h : x = y) (kk : V p l e R s m args below meth c Q g μ z k n (pc) lv (.long y :: st)) : V p l e R s m args below meth c Q g μ z k n (pc) lv (.long x :: st) := by rw [h]; exact kk
theorem v_lv (lv' : List (Nat × Value)) (h : lv = lv') (kk : V p l e R s m args below meth c Q g μ z k n (pc) lv' (st)) : V p l e R s m args below meth c Q g μ z k n (pc) lv (st) := by rw [h]; exact kk
theorem v_callSr {index nn maxL : Nat} {y : MethodName} {bytes : ByteArray} {ret : Option FieldType} {rm : Room} {v : Value} {st0 : List Value} (As : List Value) (st : List Value) (o : Ok p l s m args meth c g cc nL own) (d : decode cc pc = .ok (.invokestatic index, 3)) (cw : CW own index y bytes maxL ret nn) (hs : Cond.static y ∈ mT) (hc : Ct l g y [Cond.code y bytes maxL ret] rm As μ z (rdP (some v) μ z) noX) (hst : st0 = As.reverse ++ st) (hnn : As.length = nn) (hR : rm.frames + 1 ≤ R.frames ∧ 8 + (maxL + 11) + rm.locals ≤ R.locals) (hz : rm.cells = 0 ∧ rm.slots = 0) (hk : k ≤ R.cells ∧ n ≤ R.slots) (h8 : (st.map fun v => v.category).sum ≤ 8) (kk : V p l e R s m args below meth c Q g μ z k n (pc + 3) lv (v :: st)) : V p l e R s m args below meth c Q g μ z k n (pc) lv (st0) := by
  refine v_callS As st o d cw hs hc hst hnn hR ⟨by rw [hz.1]; exact hk.1, by rw [hz.2]; exact hk.2⟩ h8 (fun r μ' z' _ h => ?_) (fun _ _ _ _ h => h.elim)
  obtain ⟨h1, h2, h3⟩ := h
  subst h1
  subst h2
  subst h3
  rw [hz.1, hz.2]
  exact kk
theorem v_callVr {index nn maxL b ci N : Nat} {C : String} {T : u_T} {ty : Nat → FieldType} {fs : List Value} {y : MethodName} {bytes : ByteArray} {ret : Option FieldType} {rm : Room} {v : Value} {st0 : List Value} (As : List Value) (st : List Value) (o : Ok p l s m args meth c g cc nL own) (d : decode cc pc = .ok (.invokevirtual index, 3)) (cw : CW own index y bytes maxL ret nn) (hi : Cond.instanceMethod y ∈ mT) (hs : Cond.selects C y y ∈ mT) (cf : CF ci C T N ty) (he : μ b = some (.inr (ci, fs))) (hc : Ct l g y [Cond.code y bytes maxL ret] rm (.ref b :: As) μ z (rdP (some v) μ z) noX) (hst : st0 = As.reverse ++ .ref b :: st) (hnn : As.length = nn) (hR : rm.frames + 1 ≤ R.frames ∧ 8 + (maxL + 11) + rm.locals ≤ R.locals) (hz : rm.cells = 0 ∧ rm.slots = 0) (hk : k ≤ R.cells ∧ n ≤ R.slots) (h8 : (st.map fun v => v.category).sum ≤ 8) (kk : V p l e R s m args below meth c Q g μ z k n (pc + 3) lv (v :: st)) : V p l e R s m args below meth c Q g μ z k n (pc) lv (st0) := by
  refine v_callV As st o d cw hi hs cf he hc hst hnn hR ⟨by rw [hz.1]; exact hk.1, by rw [hz.2]; exact hk.2⟩ h8 (fun r μ' z' _ h => ?_) (fun _ _ _ _ h => h.elim)
  obtain ⟨h1, h2, h3⟩ := h
  subst h1
  subst h2
  subst h3
  rw [hz.1, hz.2]
  exact kk
theorem v_throwW {post : Option Value → mM → Nat → Prop} {ex : String → mM → Nat → Prop} {mc ms : Nat} {E text : String} {ik is ic : Nat} (o : Ok p l s m args meth c g cc nL own) (hx : ∀ x ∈ c.exceptionTable.toList, False) (d0 : decode cc pc = .ok (.new ik, 3)) (d3 : decode cc (pc + 3) = .ok (.dup, 1)) (d4 : decode cc (pc + 4) = .ok (.ldc_w is, 3)) (d6 : decode cc (pc + 7) = .ok (.invokespecial ic, 3)) (d9 : decode cc (pc + 10) = .ok (.athrow, 1)) (hE : Bundle.fit E = true) (hstr : (own, is, text) ∈ mSt) (hw : ∀ w ∈ Cond.classLink own ik E :: Cond.initialized E :: vx_atS own ic E ["java/lang/RuntimeException", "java/lang/Exception"], w ∈ mT) (hf : 5 < R.frames) (hlo : (st.map fun v => v.category).sum + 82 ≤ R.locals) (hc1 : k + 1 ≤ R.cells) (hs1 : n + 6 ≤ R.slots) (hk : k + 1 ≤ mc) (hn : n + 6 ≤ ms) (hp : ∀ z', z ≤ z' → ex E μ z') : V p l e R s m args below meth c (vx_MQ below (cQc g post) (cXC g ex) args s mc ms (gA g)) g μ z k n pc lv st := fun H locs ls h1 h2 h3 => by
  have hts := o.2.2.2.2.2.2.2.2
  obtain ⟨sa, hsa⟩ := o.2.2.2.2.1.2.2.1 _ hstr
  refine vx_throwSW (text := text) (names := ["java/lang/RuntimeException", "java/lang/Exception"]) (sa := sa) (A := gA g) o.1 o.2.1 o.2.2.2.2.2.2.1 o.2.2.2.1 hE (by decide +kernel) (hts _ (hw _ List.mem_cons_self)) (hts _ (hw _ (List.mem_cons_of_mem _ List.mem_cons_self))) hsa (fun w h => hts w (hw w (List.mem_cons_of_mem _ (List.mem_cons_of_mem _ h)))) (fun w h => ?_) o.2.2.2.2.2.1.1 o.2.2.2.2.2.1.2 h2 h3.1 d0 d3 d4 d6 d9 (fun x h => (hx x h).elim) hf hlo hc1 hs1 o.2.2.2.2.2.2.2.1 (fun t hW h4 h5 => ?_) (fun q hq => h2.2.2 q hq) hk hn
  · unfold vx_ot
    rcases gw2_c w (List.mem_filter.mp (hw w h)).2 with h7 | ⟨x, rfl⟩ | ⟨C, T, rfl⟩
    · rw [h7, Bool.or_true]
    · rfl
    · rfl
  · refine ⟨⟨μ, t.heap.size, hp _ (by rw [← h1.2.1]; exact h4), h1.ext h4 h5⟩, Nat.le_trans h2.1 h4, fun q a1 a2 => ?_⟩
    rw [h5 q (Nat.lt_of_lt_of_le a1 h2.1)]
    exact h2.2.1 q a1 a2
end MKN
end
section
/-! THE STATE: numbers, truths, ints and longs, by what they are and their place -/
abbrev Sg : Type := (Nat → Nat → Nat) × (Nat → Nat → Bool) × (Nat → Nat → Int32) × (Nat → Nat → Int64)
def u2 {α : Type} (f : Nat → Nat → α) (k i : Nat) (v : α) : Nat → Nat → α := fun a b => if a = k ∧ b = i then v else f a b
def uN (σ : Sg) (k i v : Nat) : Sg := (u2 σ.1 k i v, σ.2)
def uB (σ : Sg) (k i : Nat) (v : Bool) : Sg := (σ.1, u2 σ.2.1 k i v, σ.2.2)
def uI (σ : Sg) (k i : Nat) (v : Int32) : Sg := (σ.1, σ.2.1, u2 σ.2.2.1 k i v, σ.2.2.2)
def uL (σ : Sg) (k i : Nat) (v : Int64) : Sg := (σ.1, σ.2.1, σ.2.2.1, u2 σ.2.2.2 k i v)
theorem u2_s {α : Type} {f : Nat → Nat → α} {k i : Nat} {v : α} : u2 f k i v k i = v := if_pos ⟨rfl, rfl⟩
theorem u2_k {α : Type} {f : Nat → Nat → α} {k i a b : Nat} {v : α} (h : a ≠ k) : u2 f k i v a b = f a b := if_neg fun q => h q.1
theorem u2_i {α : Type} {f : Nat → Nat → α} {k i a b : Nat} {v : α} (h : b ≠ i) : u2 f k i v a b = f a b := if_neg fun q => h q.2
theorem u2_fk {α β : Type} {f : Nat → Nat → α} {k i a : Nat} {v : α} (h : a ≠ k) (c : α → β) : (fun b => c (u2 f k i v a b)) = fun b => c (f a b) := funext fun b => by rw [u2_k h]
theorem u2_fs {α β : Type} {f : Nat → Nat → α} {k i : Nat} {v : α} (c : α → β) : (fun b => c (u2 f k i v k b)) = fun b => if b = i then c v else c (f k b) := funext fun b => by
  by_cases h : b = i
  · subst h
    rw [u2_s, if_pos rfl]
  · rw [u2_i h, if_neg h]
def mI (n : Nat) : Int32 := nI n - 1
theorem mI_s (n : Nat) : mI (n + 1) = nI n := nI_pred n
theorem mI_0 : mI 0 = -1 := by decide
theorem nI_m1 (n : Nat) : nI n - nI 1 = mI n := rfl

def oM (m : Nat) (σ : Sg) : List Value := [.int (nI (σ.1 3 1)), .int (nI (σ.1 3 0)), .ref (m + 1), .ref (m + 2), .ref (m + 3), .ref (m + 4), .ref (m + 5), .ref (m + 6), .ref (m + 7), .ref (m + 8), .int (σ.2.2.1 8 0), .ref (m + 9), .ref (m + 10), .ref (m + 11), .ref (m + 12), .ref (m + 13), .ref (m + 14), .ref (m + 15), .ref (m + 16), .ref (m + 17), .ref (m + 18), .ref (m + 19), .ref (m + 20), .int (nI (σ.1 3 2)), .ref (m + 21), .ref (m + 22), .ref (m + 23), .int (σ.2.2.1 8 1), .ref (m + 24), .ref (m + 25)]
def cM (g : mG) (m : Nat) (σ : Sg) (k : Nat) : va_E := match k with
  | 0 => .inr (6, oM m σ)
  | 1 => .inl (g.2.1 0, aI 6 (fun i => nI (σ.1 0 i)))
  | 2 => .inl (g.2.1 0, aI 6 (fun i => σ.2.2.1 0 i))
  | 3 => .inl (g.2.1 0, aI 6 (fun i => σ.2.2.1 1 i))
  | 4 => .inl (g.2.1 0, aI 6 (fun i => σ.2.2.1 2 i))
  | 5 => .inl (g.2.1 0, aI 6 (fun i => σ.2.2.1 3 i))
  | 6 => .inl (g.2.1 0, aI 6 (fun i => σ.2.2.1 4 i))
  | 7 => .inl (g.2.1 1, aI 6 (fun i => bI (σ.2.1 0 i)))
  | 8 => .inl (g.2.1 1, aI 6 (fun i => bI (σ.2.1 1 i)))
  | 9 => .inl (g.2.1 1, aI 72 (fun i => bI (σ.2.1 2 i)))
  | 10 => .inl (g.2.1 1, aI 72 (fun i => bI (σ.2.1 3 i)))
  | 11 => .inl (g.2.1 1, aI 72 (fun i => bI (σ.2.1 4 i)))
  | 12 => .inl (g.2.1 2, aL 72 (fun i => σ.2.2.2 0 i))
  | 13 => .inl (g.2.1 0, aI 72 (fun i => σ.2.2.1 5 i))
  | 14 => .inl (g.2.1 0, aI 72 (fun i => σ.2.2.1 6 i))
  | 15 => .inl (g.2.1 1, aI 288 (fun i => bI (σ.2.1 5 i)))
  | 16 => .inl (g.2.1 2, aL 288 (fun i => σ.2.2.2 1 i))
  | 17 => .inl (g.2.1 1, aI 4 (fun i => bI (σ.2.1 6 i)))
  | 18 => .inl (g.2.1 2, aL 31 (fun i => σ.2.2.2 2 i))
  | 19 => .inl (g.2.1 2, aL 31 (fun i => σ.2.2.2 3 i))
  | 20 => .inl (g.2.1 1, aI 31 (fun i => bI (σ.2.1 7 i)))
  | 21 => .inl (g.2.1 0, aI 288 (fun i => nI (σ.1 1 i)))
  | 22 => .inl (g.2.1 0, aI 1440 (fun i => nI (σ.1 2 i)))
  | 23 => .inl (g.2.1 0, aI 5 (fun i => nI (σ.1 4 i)))
  | 24 => .inl (g.2.1 0, aI 4 (fun i => σ.2.2.1 7 i))
  | _ => .inl (g.2.1 0, aI 12 (fun i => mI (σ.1 5 i)))
/-- the reference's object at m holds σ; all else is as in μ0 -/
def RM (g : mG) (m : Nat) (μ0 : mM) (σ : Sg) (μ : mM) : Prop := (∀ k, k < 26 → μ (m + k) = some (cM g m σ k)) ∧ ∀ a, ¬ (m ≤ a ∧ a < m + 26) → μ a = μ0 a
theorem RM.put {g : mG} {m : Nat} {μ0 μ : mM} {σ σ' : Sg} {e : va_E} (h : RM g m μ0 σ μ) (k : Nat) (hk : k < 26) (he : e = cM g m σ' k) (ho : ∀ j, j < 26 → j ≠ k → cM g m σ' j = cM g m σ j) : RM g m μ0 σ' (up μ (m + k) e) := by
  refine ⟨fun j hj => ?_, fun a ha => ?_⟩
  · by_cases q : j = k
    · subst q
      rw [up_s, he]
    · rw [up_n (by omega), ho j hj q]
      exact h.1 j hj
  · rw [up_n (by omega)]
    exact h.2 a ha
theorem lt26 {P : Nat → Prop} (h : ∀ i : Fin 26, P i.val) : ∀ j, j < 26 → P j := fun j hj => h ⟨j, hj⟩
theorem RM.o {g : mG} {m : Nat} {μ0 μ : mM} {σ : Sg} (h : RM g m μ0 σ μ) : μ m = some (.inr (6, oM m σ)) := h.1 0 (by decide)
theorem RM.a1 {g : mG} {m : Nat} {μ0 μ : mM} {σ : Sg} (h : RM g m μ0 σ μ) : μ (m + 1) = some (.inl (g.2.1 0, aI 6 (fun i => nI (σ.1 0 i)))) := h.1 1 (by decide)
theorem RM.a2 {g : mG} {m : Nat} {μ0 μ : mM} {σ : Sg} (h : RM g m μ0 σ μ) : μ (m + 2) = some (.inl (g.2.1 0, aI 6 (fun i => σ.2.2.1 0 i))) := h.1 2 (by decide)
theorem RM.a3 {g : mG} {m : Nat} {μ0 μ : mM} {σ : Sg} (h : RM g m μ0 σ μ) : μ (m + 3) = some (.inl (g.2.1 0, aI 6 (fun i => σ.2.2.1 1 i))) := h.1 3 (by decide)
theorem RM.a4 {g : mG} {m : Nat} {μ0 μ : mM} {σ : Sg} (h : RM g m μ0 σ μ) : μ (m + 4) = some (.inl (g.2.1 0, aI 6 (fun i => σ.2.2.1 2 i))) := h.1 4 (by decide)
theorem RM.a5 {g : mG} {m : Nat} {μ0 μ : mM} {σ : Sg} (h : RM g m μ0 σ μ) : μ (m + 5) = some (.inl (g.2.1 0, aI 6 (fun i => σ.2.2.1 3 i))) := h.1 5 (by decide)
theorem RM.a6 {g : mG} {m : Nat} {μ0 μ : mM} {σ : Sg} (h : RM g m μ0 σ μ) : μ (m + 6) = some (.inl (g.2.1 0, aI 6 (fun i => σ.2.2.1 4 i))) := h.1 6 (by decide)
theorem RM.a7 {g : mG} {m : Nat} {μ0 μ : mM} {σ : Sg} (h : RM g m μ0 σ μ) : μ (m + 7) = some (.inl (g.2.1 1, aI 6 (fun i => bI (σ.2.1 0 i)))) := h.1 7 (by decide)
theorem RM.a8 {g : mG} {m : Nat} {μ0 μ : mM} {σ : Sg} (h : RM g m μ0 σ μ) : μ (m + 8) = some (.inl (g.2.1 1, aI 6 (fun i => bI (σ.2.1 1 i)))) := h.1 8 (by decide)
theorem RM.a9 {g : mG} {m : Nat} {μ0 μ : mM} {σ : Sg} (h : RM g m μ0 σ μ) : μ (m + 9) = some (.inl (g.2.1 1, aI 72 (fun i => bI (σ.2.1 2 i)))) := h.1 9 (by decide)
theorem RM.a10 {g : mG} {m : Nat} {μ0 μ : mM} {σ : Sg} (h : RM g m μ0 σ μ) : μ (m + 10) = some (.inl (g.2.1 1, aI 72 (fun i => bI (σ.2.1 3 i)))) := h.1 10 (by decide)
theorem RM.a11 {g : mG} {m : Nat} {μ0 μ : mM} {σ : Sg} (h : RM g m μ0 σ μ) : μ (m + 11) = some (.inl (g.2.1 1, aI 72 (fun i => bI (σ.2.1 4 i)))) := h.1 11 (by decide)
theorem RM.a12 {g : mG} {m : Nat} {μ0 μ : mM} {σ : Sg} (h : RM g m μ0 σ μ) : μ (m + 12) = some (.inl (g.2.1 2, aL 72 (fun i => σ.2.2.2 0 i))) := h.1 12 (by decide)
theorem RM.a13 {g : mG} {m : Nat} {μ0 μ : mM} {σ : Sg} (h : RM g m μ0 σ μ) : μ (m + 13) = some (.inl (g.2.1 0, aI 72 (fun i => σ.2.2.1 5 i))) := h.1 13 (by decide)
theorem RM.a14 {g : mG} {m : Nat} {μ0 μ : mM} {σ : Sg} (h : RM g m μ0 σ μ) : μ (m + 14) = some (.inl (g.2.1 0, aI 72 (fun i => σ.2.2.1 6 i))) := h.1 14 (by decide)
theorem RM.a15 {g : mG} {m : Nat} {μ0 μ : mM} {σ : Sg} (h : RM g m μ0 σ μ) : μ (m + 15) = some (.inl (g.2.1 1, aI 288 (fun i => bI (σ.2.1 5 i)))) := h.1 15 (by decide)
theorem RM.a16 {g : mG} {m : Nat} {μ0 μ : mM} {σ : Sg} (h : RM g m μ0 σ μ) : μ (m + 16) = some (.inl (g.2.1 2, aL 288 (fun i => σ.2.2.2 1 i))) := h.1 16 (by decide)
theorem RM.a17 {g : mG} {m : Nat} {μ0 μ : mM} {σ : Sg} (h : RM g m μ0 σ μ) : μ (m + 17) = some (.inl (g.2.1 1, aI 4 (fun i => bI (σ.2.1 6 i)))) := h.1 17 (by decide)
theorem RM.a18 {g : mG} {m : Nat} {μ0 μ : mM} {σ : Sg} (h : RM g m μ0 σ μ) : μ (m + 18) = some (.inl (g.2.1 2, aL 31 (fun i => σ.2.2.2 2 i))) := h.1 18 (by decide)
theorem RM.a19 {g : mG} {m : Nat} {μ0 μ : mM} {σ : Sg} (h : RM g m μ0 σ μ) : μ (m + 19) = some (.inl (g.2.1 2, aL 31 (fun i => σ.2.2.2 3 i))) := h.1 19 (by decide)
theorem RM.a20 {g : mG} {m : Nat} {μ0 μ : mM} {σ : Sg} (h : RM g m μ0 σ μ) : μ (m + 20) = some (.inl (g.2.1 1, aI 31 (fun i => bI (σ.2.1 7 i)))) := h.1 20 (by decide)
theorem RM.a21 {g : mG} {m : Nat} {μ0 μ : mM} {σ : Sg} (h : RM g m μ0 σ μ) : μ (m + 21) = some (.inl (g.2.1 0, aI 288 (fun i => nI (σ.1 1 i)))) := h.1 21 (by decide)
theorem RM.a22 {g : mG} {m : Nat} {μ0 μ : mM} {σ : Sg} (h : RM g m μ0 σ μ) : μ (m + 22) = some (.inl (g.2.1 0, aI 1440 (fun i => nI (σ.1 2 i)))) := h.1 22 (by decide)
theorem RM.a23 {g : mG} {m : Nat} {μ0 μ : mM} {σ : Sg} (h : RM g m μ0 σ μ) : μ (m + 23) = some (.inl (g.2.1 0, aI 5 (fun i => nI (σ.1 4 i)))) := h.1 23 (by decide)
theorem RM.a24 {g : mG} {m : Nat} {μ0 μ : mM} {σ : Sg} (h : RM g m μ0 σ μ) : μ (m + 24) = some (.inl (g.2.1 0, aI 4 (fun i => σ.2.2.1 7 i))) := h.1 24 (by decide)
theorem RM.a25 {g : mG} {m : Nat} {μ0 μ : mM} {σ : Sg} (h : RM g m μ0 σ μ) : μ (m + 25) = some (.inl (g.2.1 0, aI 12 (fun i => mI (σ.1 5 i)))) := h.1 25 (by decide)
theorem cM_congr {g : mG} {m : Nat} {σ σ' : Sg} (j : Nat) (hj : j < 26) (h0 : j = 0 → oM m σ' = oM m σ) (h1 : j = 1 → (fun i => nI (σ'.1 0 i)) = (fun i => nI (σ.1 0 i))) (h2 : j = 2 → (fun i => σ'.2.2.1 0 i) = (fun i => σ.2.2.1 0 i)) (h3 : j = 3 → (fun i => σ'.2.2.1 1 i) = (fun i => σ.2.2.1 1 i)) (h4 : j = 4 → (fun i => σ'.2.2.1 2 i) = (fun i => σ.2.2.1 2 i)) (h5 : j = 5 → (fun i => σ'.2.2.1 3 i) = (fun i => σ.2.2.1 3 i)) (h6 : j = 6 → (fun i => σ'.2.2.1 4 i) = (fun i => σ.2.2.1 4 i)) (h7 : j = 7 → (fun i => bI (σ'.2.1 0 i)) = (fun i => bI (σ.2.1 0 i))) (h8 : j = 8 → (fun i => bI (σ'.2.1 1 i)) = (fun i => bI (σ.2.1 1 i))) (h9 : j = 9 → (fun i => bI (σ'.2.1 2 i)) = (fun i => bI (σ.2.1 2 i))) (h10 : j = 10 → (fun i => bI (σ'.2.1 3 i)) = (fun i => bI (σ.2.1 3 i))) (h11 : j = 11 → (fun i => bI (σ'.2.1 4 i)) = (fun i => bI (σ.2.1 4 i))) (h12 : j = 12 → (fun i => σ'.2.2.2 0 i) = (fun i => σ.2.2.2 0 i)) (h13 : j = 13 → (fun i => σ'.2.2.1 5 i) = (fun i => σ.2.2.1 5 i)) (h14 : j = 14 → (fun i => σ'.2.2.1 6 i) = (fun i => σ.2.2.1 6 i)) (h15 : j = 15 → (fun i => bI (σ'.2.1 5 i)) = (fun i => bI (σ.2.1 5 i))) (h16 : j = 16 → (fun i => σ'.2.2.2 1 i) = (fun i => σ.2.2.2 1 i)) (h17 : j = 17 → (fun i => bI (σ'.2.1 6 i)) = (fun i => bI (σ.2.1 6 i))) (h18 : j = 18 → (fun i => σ'.2.2.2 2 i) = (fun i => σ.2.2.2 2 i)) (h19 : j = 19 → (fun i => σ'.2.2.2 3 i) = (fun i => σ.2.2.2 3 i)) (h20 : j = 20 → (fun i => bI (σ'.2.1 7 i)) = (fun i => bI (σ.2.1 7 i))) (h21 : j = 21 → (fun i => nI (σ'.1 1 i)) = (fun i => nI (σ.1 1 i))) (h22 : j = 22 → (fun i => nI (σ'.1 2 i)) = (fun i => nI (σ.1 2 i))) (h23 : j = 23 → (fun i => nI (σ'.1 4 i)) = (fun i => nI (σ.1 4 i))) (h24 : j = 24 → (fun i => σ'.2.2.1 7 i) = (fun i => σ.2.2.1 7 i)) (h25 : j = 25 → (fun i => mI (σ'.1 5 i)) = (fun i => mI (σ.1 5 i))) : cM g m σ' j = cM g m σ j := by
  rcases (show j = 0 ∨ j = 1 ∨ j = 2 ∨ j = 3 ∨ j = 4 ∨ j = 5 ∨ j = 6 ∨ j = 7 ∨ j = 8 ∨ j = 9 ∨ j = 10 ∨ j = 11 ∨ j = 12 ∨ j = 13 ∨ j = 14 ∨ j = 15 ∨ j = 16 ∨ j = 17 ∨ j = 18 ∨ j = 19 ∨ j = 20 ∨ j = 21 ∨ j = 22 ∨ j = 23 ∨ j = 24 ∨ j = 25 by omega) with rfl | rfl | rfl | rfl | rfl | rfl | rfl | rfl | rfl | rfl | rfl | rfl | rfl | rfl | rfl | rfl | rfl | rfl | rfl | rfl | rfl | rfl | rfl | rfl | rfl | rfl
  · show (Sum.inr (6, oM m σ') : va_E) = Sum.inr (6, oM m σ)
    rw [h0 rfl]
  · show (Sum.inl (g.2.1 0, aI 6 (fun i => nI (σ'.1 0 i))) : va_E) = Sum.inl (g.2.1 0, aI 6 (fun i => nI (σ.1 0 i)))
    rw [h1 rfl]
  · show (Sum.inl (g.2.1 0, aI 6 (fun i => σ'.2.2.1 0 i)) : va_E) = Sum.inl (g.2.1 0, aI 6 (fun i => σ.2.2.1 0 i))
    rw [h2 rfl]
  · show (Sum.inl (g.2.1 0, aI 6 (fun i => σ'.2.2.1 1 i)) : va_E) = Sum.inl (g.2.1 0, aI 6 (fun i => σ.2.2.1 1 i))
    rw [h3 rfl]
  · show (Sum.inl (g.2.1 0, aI 6 (fun i => σ'.2.2.1 2 i)) : va_E) = Sum.inl (g.2.1 0, aI 6 (fun i => σ.2.2.1 2 i))
    rw [h4 rfl]
  · show (Sum.inl (g.2.1 0, aI 6 (fun i => σ'.2.2.1 3 i)) : va_E) = Sum.inl (g.2.1 0, aI 6 (fun i => σ.2.2.1 3 i))
    rw [h5 rfl]
  · show (Sum.inl (g.2.1 0, aI 6 (fun i => σ'.2.2.1 4 i)) : va_E) = Sum.inl (g.2.1 0, aI 6 (fun i => σ.2.2.1 4 i))
    rw [h6 rfl]
  · show (Sum.inl (g.2.1 1, aI 6 (fun i => bI (σ'.2.1 0 i))) : va_E) = Sum.inl (g.2.1 1, aI 6 (fun i => bI (σ.2.1 0 i)))
    rw [h7 rfl]
  · show (Sum.inl (g.2.1 1, aI 6 (fun i => bI (σ'.2.1 1 i))) : va_E) = Sum.inl (g.2.1 1, aI 6 (fun i => bI (σ.2.1 1 i)))
    rw [h8 rfl]
  · show (Sum.inl (g.2.1 1, aI 72 (fun i => bI (σ'.2.1 2 i))) : va_E) = Sum.inl (g.2.1 1, aI 72 (fun i => bI (σ.2.1 2 i)))
    rw [h9 rfl]
  · show (Sum.inl (g.2.1 1, aI 72 (fun i => bI (σ'.2.1 3 i))) : va_E) = Sum.inl (g.2.1 1, aI 72 (fun i => bI (σ.2.1 3 i)))
    rw [h10 rfl]
  · show (Sum.inl (g.2.1 1, aI 72 (fun i => bI (σ'.2.1 4 i))) : va_E) = Sum.inl (g.2.1 1, aI 72 (fun i => bI (σ.2.1 4 i)))
    rw [h11 rfl]
  · show (Sum.inl (g.2.1 2, aL 72 (fun i => σ'.2.2.2 0 i)) : va_E) = Sum.inl (g.2.1 2, aL 72 (fun i => σ.2.2.2 0 i))
    rw [h12 rfl]
  · show (Sum.inl (g.2.1 0, aI 72 (fun i => σ'.2.2.1 5 i)) : va_E) = Sum.inl (g.2.1 0, aI 72 (fun i => σ.2.2.1 5 i))
    rw [h13 rfl]
  · show (Sum.inl (g.2.1 0, aI 72 (fun i => σ'.2.2.1 6 i)) : va_E) = Sum.inl (g.2.1 0, aI 72 (fun i => σ.2.2.1 6 i))
    rw [h14 rfl]
  · show (Sum.inl (g.2.1 1, aI 288 (fun i => bI (σ'.2.1 5 i))) : va_E) = Sum.inl (g.2.1 1, aI 288 (fun i => bI (σ.2.1 5 i)))
    rw [h15 rfl]
  · show (Sum.inl (g.2.1 2, aL 288 (fun i => σ'.2.2.2 1 i)) : va_E) = Sum.inl (g.2.1 2, aL 288 (fun i => σ.2.2.2 1 i))
    rw [h16 rfl]
  · show (Sum.inl (g.2.1 1, aI 4 (fun i => bI (σ'.2.1 6 i))) : va_E) = Sum.inl (g.2.1 1, aI 4 (fun i => bI (σ.2.1 6 i)))
    rw [h17 rfl]
  · show (Sum.inl (g.2.1 2, aL 31 (fun i => σ'.2.2.2 2 i)) : va_E) = Sum.inl (g.2.1 2, aL 31 (fun i => σ.2.2.2 2 i))
    rw [h18 rfl]
  · show (Sum.inl (g.2.1 2, aL 31 (fun i => σ'.2.2.2 3 i)) : va_E) = Sum.inl (g.2.1 2, aL 31 (fun i => σ.2.2.2 3 i))
    rw [h19 rfl]
  · show (Sum.inl (g.2.1 1, aI 31 (fun i => bI (σ'.2.1 7 i))) : va_E) = Sum.inl (g.2.1 1, aI 31 (fun i => bI (σ.2.1 7 i)))
    rw [h20 rfl]
  · show (Sum.inl (g.2.1 0, aI 288 (fun i => nI (σ'.1 1 i))) : va_E) = Sum.inl (g.2.1 0, aI 288 (fun i => nI (σ.1 1 i)))
    rw [h21 rfl]
  · show (Sum.inl (g.2.1 0, aI 1440 (fun i => nI (σ'.1 2 i))) : va_E) = Sum.inl (g.2.1 0, aI 1440 (fun i => nI (σ.1 2 i)))
    rw [h22 rfl]
  · show (Sum.inl (g.2.1 0, aI 5 (fun i => nI (σ'.1 4 i))) : va_E) = Sum.inl (g.2.1 0, aI 5 (fun i => nI (σ.1 4 i)))
    rw [h23 rfl]
  · show (Sum.inl (g.2.1 0, aI 4 (fun i => σ'.2.2.1 7 i)) : va_E) = Sum.inl (g.2.1 0, aI 4 (fun i => σ.2.2.1 7 i))
    rw [h24 rfl]
  · show (Sum.inl (g.2.1 0, aI 12 (fun i => mI (σ'.1 5 i))) : va_E) = Sum.inl (g.2.1 0, aI 12 (fun i => mI (σ.1 5 i)))
    rw [h25 rfl]
theorem RM.p1 {g : mG} {m : Nat} {μ0 μ μ1 : mM} {σ : Sg} (h : RM g m μ0 σ μ) {i0 : Nat} {v : Nat} (e : μ1 = up μ (m + 1) (.inl (g.2.1 0, aI 6 (upd (fun i => nI (σ.1 0 i)) i0 (nI v))))) : RM g m μ0 (uN σ 0 i0 v) μ1 := by
  subst e
  refine h.put 1 (by decide) ?_ (fun j hj hne => cM_congr j hj (fun _ => rfl) (fun q => absurd q hne) (fun _ => rfl) (fun _ => rfl) (fun _ => rfl) (fun _ => rfl) (fun _ => rfl) (fun _ => rfl) (fun _ => rfl) (fun _ => rfl) (fun _ => rfl) (fun _ => rfl) (fun _ => rfl) (fun _ => rfl) (fun _ => rfl) (fun _ => rfl) (fun _ => rfl) (fun _ => rfl) (fun _ => rfl) (fun _ => rfl) (fun _ => rfl) (fun _ => funext fun b => congrArg nI (u2_k (f := σ.1) (k := 0) (i := i0) (a := 1) (b := b) (v := v) (by decide))) (fun _ => funext fun b => congrArg nI (u2_k (f := σ.1) (k := 0) (i := i0) (a := 2) (b := b) (v := v) (by decide))) (fun _ => funext fun b => congrArg nI (u2_k (f := σ.1) (k := 0) (i := i0) (a := 4) (b := b) (v := v) (by decide))) (fun _ => rfl) (fun _ => funext fun b => congrArg mI (u2_k (f := σ.1) (k := 0) (i := i0) (a := 5) (b := b) (v := v) (by decide))))
  show _ = (Sum.inl (g.2.1 0, aI 6 (fun i => nI ((uN σ 0 i0 v).1 0 i))) : va_E)
  have e9 : (fun i => nI ((uN σ 0 i0 v).1 0 i)) = upd (fun i => nI (σ.1 0 i)) i0 (nI v) := u2_fs (f := σ.1) (k := 0) (i := i0) (v := v) nI
  rw [e9]
theorem RM.p2 {g : mG} {m : Nat} {μ0 μ μ1 : mM} {σ : Sg} (h : RM g m μ0 σ μ) {i0 : Nat} {v : Int32} (e : μ1 = up μ (m + 2) (.inl (g.2.1 0, aI 6 (upd (fun i => σ.2.2.1 0 i) i0 (v))))) : RM g m μ0 (uI σ 0 i0 v) μ1 := by
  subst e
  refine h.put 2 (by decide) ?_ (fun j hj hne => cM_congr j hj (fun _ => rfl) (fun _ => rfl) (fun q => absurd q hne) (fun _ => funext fun b => congrArg (fun x => x) (u2_k (f := σ.2.2.1) (k := 0) (i := i0) (a := 1) (b := b) (v := v) (by decide))) (fun _ => funext fun b => congrArg (fun x => x) (u2_k (f := σ.2.2.1) (k := 0) (i := i0) (a := 2) (b := b) (v := v) (by decide))) (fun _ => funext fun b => congrArg (fun x => x) (u2_k (f := σ.2.2.1) (k := 0) (i := i0) (a := 3) (b := b) (v := v) (by decide))) (fun _ => funext fun b => congrArg (fun x => x) (u2_k (f := σ.2.2.1) (k := 0) (i := i0) (a := 4) (b := b) (v := v) (by decide))) (fun _ => rfl) (fun _ => rfl) (fun _ => rfl) (fun _ => rfl) (fun _ => rfl) (fun _ => rfl) (fun _ => funext fun b => congrArg (fun x => x) (u2_k (f := σ.2.2.1) (k := 0) (i := i0) (a := 5) (b := b) (v := v) (by decide))) (fun _ => funext fun b => congrArg (fun x => x) (u2_k (f := σ.2.2.1) (k := 0) (i := i0) (a := 6) (b := b) (v := v) (by decide))) (fun _ => rfl) (fun _ => rfl) (fun _ => rfl) (fun _ => rfl) (fun _ => rfl) (fun _ => rfl) (fun _ => rfl) (fun _ => rfl) (fun _ => rfl) (fun _ => funext fun b => congrArg (fun x => x) (u2_k (f := σ.2.2.1) (k := 0) (i := i0) (a := 7) (b := b) (v := v) (by decide))) (fun _ => rfl))
  show _ = (Sum.inl (g.2.1 0, aI 6 (fun i => (uI σ 0 i0 v).2.2.1 0 i)) : va_E)
  have e9 : (fun i => (uI σ 0 i0 v).2.2.1 0 i) = upd (fun i => σ.2.2.1 0 i) i0 (v) := u2_fs (f := σ.2.2.1) (k := 0) (i := i0) (v := v) (fun x => x)
  rw [e9]
theorem RM.p3 {g : mG} {m : Nat} {μ0 μ μ1 : mM} {σ : Sg} (h : RM g m μ0 σ μ) {i0 : Nat} {v : Int32} (e : μ1 = up μ (m + 3) (.inl (g.2.1 0, aI 6 (upd (fun i => σ.2.2.1 1 i) i0 (v))))) : RM g m μ0 (uI σ 1 i0 v) μ1 := by
  subst e
  refine h.put 3 (by decide) ?_ (fun j hj hne => cM_congr j hj (fun _ => rfl) (fun _ => rfl) (fun _ => funext fun b => congrArg (fun x => x) (u2_k (f := σ.2.2.1) (k := 1) (i := i0) (a := 0) (b := b) (v := v) (by decide))) (fun q => absurd q hne) (fun _ => funext fun b => congrArg (fun x => x) (u2_k (f := σ.2.2.1) (k := 1) (i := i0) (a := 2) (b := b) (v := v) (by decide))) (fun _ => funext fun b => congrArg (fun x => x) (u2_k (f := σ.2.2.1) (k := 1) (i := i0) (a := 3) (b := b) (v := v) (by decide))) (fun _ => funext fun b => congrArg (fun x => x) (u2_k (f := σ.2.2.1) (k := 1) (i := i0) (a := 4) (b := b) (v := v) (by decide))) (fun _ => rfl) (fun _ => rfl) (fun _ => rfl) (fun _ => rfl) (fun _ => rfl) (fun _ => rfl) (fun _ => funext fun b => congrArg (fun x => x) (u2_k (f := σ.2.2.1) (k := 1) (i := i0) (a := 5) (b := b) (v := v) (by decide))) (fun _ => funext fun b => congrArg (fun x => x) (u2_k (f := σ.2.2.1) (k := 1) (i := i0) (a := 6) (b := b) (v := v) (by decide))) (fun _ => rfl) (fun _ => rfl) (fun _ => rfl) (fun _ => rfl) (fun _ => rfl) (fun _ => rfl) (fun _ => rfl) (fun _ => rfl) (fun _ => rfl) (fun _ => funext fun b => congrArg (fun x => x) (u2_k (f := σ.2.2.1) (k := 1) (i := i0) (a := 7) (b := b) (v := v) (by decide))) (fun _ => rfl))
  show _ = (Sum.inl (g.2.1 0, aI 6 (fun i => (uI σ 1 i0 v).2.2.1 1 i)) : va_E)
  have e9 : (fun i => (uI σ 1 i0 v).2.2.1 1 i) = upd (fun i => σ.2.2.1 1 i) i0 (v) := u2_fs (f := σ.2.2.1) (k := 1) (i := i0) (v := v) (fun x => x)
  rw [e9]
theorem RM.p4 {g : mG} {m : Nat} {μ0 μ μ1 : mM} {σ : Sg} (h : RM g m μ0 σ μ) {i0 : Nat} {v : Int32} (e : μ1 = up μ (m + 4) (.inl (g.2.1 0, aI 6 (upd (fun i => σ.2.2.1 2 i) i0 (v))))) : RM g m μ0 (uI σ 2 i0 v) μ1 := by
  subst e
  refine h.put 4 (by decide) ?_ (fun j hj hne => cM_congr j hj (fun _ => rfl) (fun _ => rfl) (fun _ => funext fun b => congrArg (fun x => x) (u2_k (f := σ.2.2.1) (k := 2) (i := i0) (a := 0) (b := b) (v := v) (by decide))) (fun _ => funext fun b => congrArg (fun x => x) (u2_k (f := σ.2.2.1) (k := 2) (i := i0) (a := 1) (b := b) (v := v) (by decide))) (fun q => absurd q hne) (fun _ => funext fun b => congrArg (fun x => x) (u2_k (f := σ.2.2.1) (k := 2) (i := i0) (a := 3) (b := b) (v := v) (by decide))) (fun _ => funext fun b => congrArg (fun x => x) (u2_k (f := σ.2.2.1) (k := 2) (i := i0) (a := 4) (b := b) (v := v) (by decide))) (fun _ => rfl) (fun _ => rfl) (fun _ => rfl) (fun _ => rfl) (fun _ => rfl) (fun _ => rfl) (fun _ => funext fun b => congrArg (fun x => x) (u2_k (f := σ.2.2.1) (k := 2) (i := i0) (a := 5) (b := b) (v := v) (by decide))) (fun _ => funext fun b => congrArg (fun x => x) (u2_k (f := σ.2.2.1) (k := 2) (i := i0) (a := 6) (b := b) (v := v) (by decide))) (fun _ => rfl) (fun _ => rfl) (fun _ => rfl) (fun _ => rfl) (fun _ => rfl) (fun _ => rfl) (fun _ => rfl) (fun _ => rfl) (fun _ => rfl) (fun _ => funext fun b => congrArg (fun x => x) (u2_k (f := σ.2.2.1) (k := 2) (i := i0) (a := 7) (b := b) (v := v) (by decide))) (fun _ => rfl))
  show _ = (Sum.inl (g.2.1 0, aI 6 (fun i => (uI σ 2 i0 v).2.2.1 2 i)) : va_E)
  have e9 : (fun i => (uI σ 2 i0 v).2.2.1 2 i) = upd (fun i => σ.2.2.1 2 i) i0 (v) := u2_fs (f := σ.2.2.1) (k := 2) (i := i0) (v := v) (fun x => x)
  rw [e9]
theorem RM.p5 {g : mG} {m : Nat} {μ0 μ μ1 : mM} {σ : Sg} (h : RM g m μ0 σ μ) {i0 : Nat} {v : Int32} (e : μ1 = up μ (m + 5) (.inl (g.2.1 0, aI 6 (upd (fun i => σ.2.2.1 3 i) i0 (v))))) : RM g m μ0 (uI σ 3 i0 v) μ1 := by
  subst e
  refine h.put 5 (by decide) ?_ (fun j hj hne => cM_congr j hj (fun _ => rfl) (fun _ => rfl) (fun _ => funext fun b => congrArg (fun x => x) (u2_k (f := σ.2.2.1) (k := 3) (i := i0) (a := 0) (b := b) (v := v) (by decide))) (fun _ => funext fun b => congrArg (fun x => x) (u2_k (f := σ.2.2.1) (k := 3) (i := i0) (a := 1) (b := b) (v := v) (by decide))) (fun _ => funext fun b => congrArg (fun x => x) (u2_k (f := σ.2.2.1) (k := 3) (i := i0) (a := 2) (b := b) (v := v) (by decide))) (fun q => absurd q hne) (fun _ => funext fun b => congrArg (fun x => x) (u2_k (f := σ.2.2.1) (k := 3) (i := i0) (a := 4) (b := b) (v := v) (by decide))) (fun _ => rfl) (fun _ => rfl) (fun _ => rfl) (fun _ => rfl) (fun _ => rfl) (fun _ => rfl) (fun _ => funext fun b => congrArg (fun x => x) (u2_k (f := σ.2.2.1) (k := 3) (i := i0) (a := 5) (b := b) (v := v) (by decide))) (fun _ => funext fun b => congrArg (fun x => x) (u2_k (f := σ.2.2.1) (k := 3) (i := i0) (a := 6) (b := b) (v := v) (by decide))) (fun _ => rfl) (fun _ => rfl) (fun _ => rfl) (fun _ => rfl) (fun _ => rfl) (fun _ => rfl) (fun _ => rfl) (fun _ => rfl) (fun _ => rfl) (fun _ => funext fun b => congrArg (fun x => x) (u2_k (f := σ.2.2.1) (k := 3) (i := i0) (a := 7) (b := b) (v := v) (by decide))) (fun _ => rfl))
  show _ = (Sum.inl (g.2.1 0, aI 6 (fun i => (uI σ 3 i0 v).2.2.1 3 i)) : va_E)
  have e9 : (fun i => (uI σ 3 i0 v).2.2.1 3 i) = upd (fun i => σ.2.2.1 3 i) i0 (v) := u2_fs (f := σ.2.2.1) (k := 3) (i := i0) (v := v) (fun x => x)
  rw [e9]
theorem RM.p6 {g : mG} {m : Nat} {μ0 μ μ1 : mM} {σ : Sg} (h : RM g m μ0 σ μ) {i0 : Nat} {v : Int32} (e : μ1 = up μ (m + 6) (.inl (g.2.1 0, aI 6 (upd (fun i => σ.2.2.1 4 i) i0 (v))))) : RM g m μ0 (uI σ 4 i0 v) μ1 := by
  subst e
  refine h.put 6 (by decide) ?_ (fun j hj hne => cM_congr j hj (fun _ => rfl) (fun _ => rfl) (fun _ => funext fun b => congrArg (fun x => x) (u2_k (f := σ.2.2.1) (k := 4) (i := i0) (a := 0) (b := b) (v := v) (by decide))) (fun _ => funext fun b => congrArg (fun x => x) (u2_k (f := σ.2.2.1) (k := 4) (i := i0) (a := 1) (b := b) (v := v) (by decide))) (fun _ => funext fun b => congrArg (fun x => x) (u2_k (f := σ.2.2.1) (k := 4) (i := i0) (a := 2) (b := b) (v := v) (by decide))) (fun _ => funext fun b => congrArg (fun x => x) (u2_k (f := σ.2.2.1) (k := 4) (i := i0) (a := 3) (b := b) (v := v) (by decide))) (fun q => absurd q hne) (fun _ => rfl) (fun _ => rfl) (fun _ => rfl) (fun _ => rfl) (fun _ => rfl) (fun _ => rfl) (fun _ => funext fun b => congrArg (fun x => x) (u2_k (f := σ.2.2.1) (k := 4) (i := i0) (a := 5) (b := b) (v := v) (by decide))) (fun _ => funext fun b => congrArg (fun x => x) (u2_k (f := σ.2.2.1) (k := 4) (i := i0) (a := 6) (b := b) (v := v) (by decide))) (fun _ => rfl) (fun _ => rfl) (fun _ => rfl) (fun _ => rfl) (fun _ => rfl) (fun _ => rfl) (fun _ => rfl) (fun _ => rfl) (fun _ => rfl) (fun _ => funext fun b => congrArg (fun x => x) (u2_k (f := σ.2.2.1) (k := 4) (i := i0) (a := 7) (b := b) (v := v) (by decide))) (fun _ => rfl))
  show _ = (Sum.inl (g.2.1 0, aI 6 (fun i => (uI σ 4 i0 v).2.2.1 4 i)) : va_E)
  have e9 : (fun i => (uI σ 4 i0 v).2.2.1 4 i) = upd (fun i => σ.2.2.1 4 i) i0 (v) := u2_fs (f := σ.2.2.1) (k := 4) (i := i0) (v := v) (fun x => x)
  rw [e9]
theorem RM.p7 {g : mG} {m : Nat} {μ0 μ μ1 : mM} {σ : Sg} (h : RM g m μ0 σ μ) {i0 : Nat} {v : Bool} (e : μ1 = up μ (m + 7) (.inl (g.2.1 1, aI 6 (upd (fun i => bI (σ.2.1 0 i)) i0 (bI v))))) : RM g m μ0 (uB σ 0 i0 v) μ1 := by
  subst e
  refine h.put 7 (by decide) ?_ (fun j hj hne => cM_congr j hj (fun _ => rfl) (fun _ => rfl) (fun _ => rfl) (fun _ => rfl) (fun _ => rfl) (fun _ => rfl) (fun _ => rfl) (fun q => absurd q hne) (fun _ => funext fun b => congrArg bI (u2_k (f := σ.2.1) (k := 0) (i := i0) (a := 1) (b := b) (v := v) (by decide))) (fun _ => funext fun b => congrArg bI (u2_k (f := σ.2.1) (k := 0) (i := i0) (a := 2) (b := b) (v := v) (by decide))) (fun _ => funext fun b => congrArg bI (u2_k (f := σ.2.1) (k := 0) (i := i0) (a := 3) (b := b) (v := v) (by decide))) (fun _ => funext fun b => congrArg bI (u2_k (f := σ.2.1) (k := 0) (i := i0) (a := 4) (b := b) (v := v) (by decide))) (fun _ => rfl) (fun _ => rfl) (fun _ => rfl) (fun _ => funext fun b => congrArg bI (u2_k (f := σ.2.1) (k := 0) (i := i0) (a := 5) (b := b) (v := v) (by decide))) (fun _ => rfl) (fun _ => funext fun b => congrArg bI (u2_k (f := σ.2.1) (k := 0) (i := i0) (a := 6) (b := b) (v := v) (by decide))) (fun _ => rfl) (fun _ => rfl) (fun _ => funext fun b => congrArg bI (u2_k (f := σ.2.1) (k := 0) (i := i0) (a := 7) (b := b) (v := v) (by decide))) (fun _ => rfl) (fun _ => rfl) (fun _ => rfl) (fun _ => rfl) (fun _ => rfl))
  show _ = (Sum.inl (g.2.1 1, aI 6 (fun i => bI ((uB σ 0 i0 v).2.1 0 i))) : va_E)
  have e9 : (fun i => bI ((uB σ 0 i0 v).2.1 0 i)) = upd (fun i => bI (σ.2.1 0 i)) i0 (bI v) := u2_fs (f := σ.2.1) (k := 0) (i := i0) (v := v) bI
  rw [e9]
theorem RM.p8 {g : mG} {m : Nat} {μ0 μ μ1 : mM} {σ : Sg} (h : RM g m μ0 σ μ) {i0 : Nat} {v : Bool} (e : μ1 = up μ (m + 8) (.inl (g.2.1 1, aI 6 (upd (fun i => bI (σ.2.1 1 i)) i0 (bI v))))) : RM g m μ0 (uB σ 1 i0 v) μ1 := by
  subst e
  refine h.put 8 (by decide) ?_ (fun j hj hne => cM_congr j hj (fun _ => rfl) (fun _ => rfl) (fun _ => rfl) (fun _ => rfl) (fun _ => rfl) (fun _ => rfl) (fun _ => rfl) (fun _ => funext fun b => congrArg bI (u2_k (f := σ.2.1) (k := 1) (i := i0) (a := 0) (b := b) (v := v) (by decide))) (fun q => absurd q hne) (fun _ => funext fun b => congrArg bI (u2_k (f := σ.2.1) (k := 1) (i := i0) (a := 2) (b := b) (v := v) (by decide))) (fun _ => funext fun b => congrArg bI (u2_k (f := σ.2.1) (k := 1) (i := i0) (a := 3) (b := b) (v := v) (by decide))) (fun _ => funext fun b => congrArg bI (u2_k (f := σ.2.1) (k := 1) (i := i0) (a := 4) (b := b) (v := v) (by decide))) (fun _ => rfl) (fun _ => rfl) (fun _ => rfl) (fun _ => funext fun b => congrArg bI (u2_k (f := σ.2.1) (k := 1) (i := i0) (a := 5) (b := b) (v := v) (by decide))) (fun _ => rfl) (fun _ => funext fun b => congrArg bI (u2_k (f := σ.2.1) (k := 1) (i := i0) (a := 6) (b := b) (v := v) (by decide))) (fun _ => rfl) (fun _ => rfl) (fun _ => funext fun b => congrArg bI (u2_k (f := σ.2.1) (k := 1) (i := i0) (a := 7) (b := b) (v := v) (by decide))) (fun _ => rfl) (fun _ => rfl) (fun _ => rfl) (fun _ => rfl) (fun _ => rfl))
  show _ = (Sum.inl (g.2.1 1, aI 6 (fun i => bI ((uB σ 1 i0 v).2.1 1 i))) : va_E)
  have e9 : (fun i => bI ((uB σ 1 i0 v).2.1 1 i)) = upd (fun i => bI (σ.2.1 1 i)) i0 (bI v) := u2_fs (f := σ.2.1) (k := 1) (i := i0) (v := v) bI
  rw [e9]
theorem RM.p9 {g : mG} {m : Nat} {μ0 μ μ1 : mM} {σ : Sg} (h : RM g m μ0 σ μ) {i0 : Nat} {v : Bool} (e : μ1 = up μ (m + 9) (.inl (g.2.1 1, aI 72 (upd (fun i => bI (σ.2.1 2 i)) i0 (bI v))))) : RM g m μ0 (uB σ 2 i0 v) μ1 := by
  subst e
  refine h.put 9 (by decide) ?_ (fun j hj hne => cM_congr j hj (fun _ => rfl) (fun _ => rfl) (fun _ => rfl) (fun _ => rfl) (fun _ => rfl) (fun _ => rfl) (fun _ => rfl) (fun _ => funext fun b => congrArg bI (u2_k (f := σ.2.1) (k := 2) (i := i0) (a := 0) (b := b) (v := v) (by decide))) (fun _ => funext fun b => congrArg bI (u2_k (f := σ.2.1) (k := 2) (i := i0) (a := 1) (b := b) (v := v) (by decide))) (fun q => absurd q hne) (fun _ => funext fun b => congrArg bI (u2_k (f := σ.2.1) (k := 2) (i := i0) (a := 3) (b := b) (v := v) (by decide))) (fun _ => funext fun b => congrArg bI (u2_k (f := σ.2.1) (k := 2) (i := i0) (a := 4) (b := b) (v := v) (by decide))) (fun _ => rfl) (fun _ => rfl) (fun _ => rfl) (fun _ => funext fun b => congrArg bI (u2_k (f := σ.2.1) (k := 2) (i := i0) (a := 5) (b := b) (v := v) (by decide))) (fun _ => rfl) (fun _ => funext fun b => congrArg bI (u2_k (f := σ.2.1) (k := 2) (i := i0) (a := 6) (b := b) (v := v) (by decide))) (fun _ => rfl) (fun _ => rfl) (fun _ => funext fun b => congrArg bI (u2_k (f := σ.2.1) (k := 2) (i := i0) (a := 7) (b := b) (v := v) (by decide))) (fun _ => rfl) (fun _ => rfl) (fun _ => rfl) (fun _ => rfl) (fun _ => rfl))
  show _ = (Sum.inl (g.2.1 1, aI 72 (fun i => bI ((uB σ 2 i0 v).2.1 2 i))) : va_E)
  have e9 : (fun i => bI ((uB σ 2 i0 v).2.1 2 i)) = upd (fun i => bI (σ.2.1 2 i)) i0 (bI v) := u2_fs (f := σ.2.1) (k := 2) (i := i0) (v := v) bI
  rw [e9]
theorem RM.p10 {g : mG} {m : Nat} {μ0 μ μ1 : mM} {σ : Sg} (h : RM g m μ0 σ μ) {i0 : Nat} {v : Bool} (e : μ1 = up μ (m + 10) (.inl (g.2.1 1, aI 72 (upd (fun i => bI (σ.2.1 3 i)) i0 (bI v))))) : RM g m μ0 (uB σ 3 i0 v) μ1 := by
  subst e
  refine h.put 10 (by decide) ?_ (fun j hj hne => cM_congr j hj (fun _ => rfl) (fun _ => rfl) (fun _ => rfl) (fun _ => rfl) (fun _ => rfl) (fun _ => rfl) (fun _ => rfl) (fun _ => funext fun b => congrArg bI (u2_k (f := σ.2.1) (k := 3) (i := i0) (a := 0) (b := b) (v := v) (by decide))) (fun _ => funext fun b => congrArg bI (u2_k (f := σ.2.1) (k := 3) (i := i0) (a := 1) (b := b) (v := v) (by decide))) (fun _ => funext fun b => congrArg bI (u2_k (f := σ.2.1) (k := 3) (i := i0) (a := 2) (b := b) (v := v) (by decide))) (fun q => absurd q hne) (fun _ => funext fun b => congrArg bI (u2_k (f := σ.2.1) (k := 3) (i := i0) (a := 4) (b := b) (v := v) (by decide))) (fun _ => rfl) (fun _ => rfl) (fun _ => rfl) (fun _ => funext fun b => congrArg bI (u2_k (f := σ.2.1) (k := 3) (i := i0) (a := 5) (b := b) (v := v) (by decide))) (fun _ => rfl) (fun _ => funext fun b => congrArg bI (u2_k (f := σ.2.1) (k := 3) (i := i0) (a := 6) (b := b) (v := v) (by decide))) (fun _ => rfl) (fun _ => rfl) (fun _ => funext fun b => congrArg bI (u2_k (f := σ.2.1) (k := 3) (i := i0) (a := 7) (b := b) (v := v) (by decide))) (fun _ => rfl) (fun _ => rfl) (fun _ => rfl) (fun _ => rfl) (fun _ => rfl))
  show _ = (Sum.inl (g.2.1 1, aI 72 (fun i => bI ((uB σ 3 i0 v).2.1 3 i))) : va_E)
  have e9 : (fun i => bI ((uB σ 3 i0 v).2.1 3 i)) = upd (fun i => bI (σ.2.1 3 i)) i0 (bI v) := u2_fs (f := σ.2.1) (k := 3) (i := i0) (v := v) bI
  rw [e9]
theorem RM.p11 {g : mG} {m : Nat} {μ0 μ μ1 : mM} {σ : Sg} (h : RM g m μ0 σ μ) {i0 : Nat} {v : Bool} (e : μ1 = up μ (m + 11) (.inl (g.2.1 1, aI 72 (upd (fun i => bI (σ.2.1 4 i)) i0 (bI v))))) : RM g m μ0 (uB σ 4 i0 v) μ1 := by
  subst e
  refine h.put 11 (by decide) ?_ (fun j hj hne => cM_congr j hj (fun _ => rfl) (fun _ => rfl) (fun _ => rfl) (fun _ => rfl) (fun _ => rfl) (fun _ => rfl) (fun _ => rfl) (fun _ => funext fun b => congrArg bI (u2_k (f := σ.2.1) (k := 4) (i := i0) (a := 0) (b := b) (v := v) (by decide))) (fun _ => funext fun b => congrArg bI (u2_k (f := σ.2.1) (k := 4) (i := i0) (a := 1) (b := b) (v := v) (by decide))) (fun _ => funext fun b => congrArg bI (u2_k (f := σ.2.1) (k := 4) (i := i0) (a := 2) (b := b) (v := v) (by decide))) (fun _ => funext fun b => congrArg bI (u2_k (f := σ.2.1) (k := 4) (i := i0) (a := 3) (b := b) (v := v) (by decide))) (fun q => absurd q hne) (fun _ => rfl) (fun _ => rfl) (fun _ => rfl) (fun _ => funext fun b => congrArg bI (u2_k (f := σ.2.1) (k := 4) (i := i0) (a := 5) (b := b) (v := v) (by decide))) (fun _ => rfl) (fun _ => funext fun b => congrArg bI (u2_k (f := σ.2.1) (k := 4) (i := i0) (a := 6) (b := b) (v := v) (by decide))) (fun _ => rfl) (fun _ => rfl) (fun _ => funext fun b => congrArg bI (u2_k (f := σ.2.1) (k := 4) (i := i0) (a := 7) (b := b) (v := v) (by decide))) (fun _ => rfl) (fun _ => rfl) (fun _ => rfl) (fun _ => rfl) (fun _ => rfl))
  show _ = (Sum.inl (g.2.1 1, aI 72 (fun i => bI ((uB σ 4 i0 v).2.1 4 i))) : va_E)
  have e9 : (fun i => bI ((uB σ 4 i0 v).2.1 4 i)) = upd (fun i => bI (σ.2.1 4 i)) i0 (bI v) := u2_fs (f := σ.2.1) (k := 4) (i := i0) (v := v) bI
  rw [e9]
theorem RM.p12 {g : mG} {m : Nat} {μ0 μ μ1 : mM} {σ : Sg} (h : RM g m μ0 σ μ) {i0 : Nat} {v : Int64} (e : μ1 = up μ (m + 12) (.inl (g.2.1 2, aL 72 (vp_updL (fun i => σ.2.2.2 0 i) i0 (v))))) : RM g m μ0 (uL σ 0 i0 v) μ1 := by
  subst e
  refine h.put 12 (by decide) ?_ (fun j hj hne => cM_congr j hj (fun _ => rfl) (fun _ => rfl) (fun _ => rfl) (fun _ => rfl) (fun _ => rfl) (fun _ => rfl) (fun _ => rfl) (fun _ => rfl) (fun _ => rfl) (fun _ => rfl) (fun _ => rfl) (fun _ => rfl) (fun q => absurd q hne) (fun _ => rfl) (fun _ => rfl) (fun _ => rfl) (fun _ => funext fun b => congrArg (fun x => x) (u2_k (f := σ.2.2.2) (k := 0) (i := i0) (a := 1) (b := b) (v := v) (by decide))) (fun _ => rfl) (fun _ => funext fun b => congrArg (fun x => x) (u2_k (f := σ.2.2.2) (k := 0) (i := i0) (a := 2) (b := b) (v := v) (by decide))) (fun _ => funext fun b => congrArg (fun x => x) (u2_k (f := σ.2.2.2) (k := 0) (i := i0) (a := 3) (b := b) (v := v) (by decide))) (fun _ => rfl) (fun _ => rfl) (fun _ => rfl) (fun _ => rfl) (fun _ => rfl) (fun _ => rfl))
  show _ = (Sum.inl (g.2.1 2, aL 72 (fun i => (uL σ 0 i0 v).2.2.2 0 i)) : va_E)
  have e9 : (fun i => (uL σ 0 i0 v).2.2.2 0 i) = vp_updL (fun i => σ.2.2.2 0 i) i0 (v) := u2_fs (f := σ.2.2.2) (k := 0) (i := i0) (v := v) (fun x => x)
  rw [e9]
theorem RM.p13 {g : mG} {m : Nat} {μ0 μ μ1 : mM} {σ : Sg} (h : RM g m μ0 σ μ) {i0 : Nat} {v : Int32} (e : μ1 = up μ (m + 13) (.inl (g.2.1 0, aI 72 (upd (fun i => σ.2.2.1 5 i) i0 (v))))) : RM g m μ0 (uI σ 5 i0 v) μ1 := by
  subst e
  refine h.put 13 (by decide) ?_ (fun j hj hne => cM_congr j hj (fun _ => rfl) (fun _ => rfl) (fun _ => funext fun b => congrArg (fun x => x) (u2_k (f := σ.2.2.1) (k := 5) (i := i0) (a := 0) (b := b) (v := v) (by decide))) (fun _ => funext fun b => congrArg (fun x => x) (u2_k (f := σ.2.2.1) (k := 5) (i := i0) (a := 1) (b := b) (v := v) (by decide))) (fun _ => funext fun b => congrArg (fun x => x) (u2_k (f := σ.2.2.1) (k := 5) (i := i0) (a := 2) (b := b) (v := v) (by decide))) (fun _ => funext fun b => congrArg (fun x => x) (u2_k (f := σ.2.2.1) (k := 5) (i := i0) (a := 3) (b := b) (v := v) (by decide))) (fun _ => funext fun b => congrArg (fun x => x) (u2_k (f := σ.2.2.1) (k := 5) (i := i0) (a := 4) (b := b) (v := v) (by decide))) (fun _ => rfl) (fun _ => rfl) (fun _ => rfl) (fun _ => rfl) (fun _ => rfl) (fun _ => rfl) (fun q => absurd q hne) (fun _ => funext fun b => congrArg (fun x => x) (u2_k (f := σ.2.2.1) (k := 5) (i := i0) (a := 6) (b := b) (v := v) (by decide))) (fun _ => rfl) (fun _ => rfl) (fun _ => rfl) (fun _ => rfl) (fun _ => rfl) (fun _ => rfl) (fun _ => rfl) (fun _ => rfl) (fun _ => rfl) (fun _ => funext fun b => congrArg (fun x => x) (u2_k (f := σ.2.2.1) (k := 5) (i := i0) (a := 7) (b := b) (v := v) (by decide))) (fun _ => rfl))
  show _ = (Sum.inl (g.2.1 0, aI 72 (fun i => (uI σ 5 i0 v).2.2.1 5 i)) : va_E)
  have e9 : (fun i => (uI σ 5 i0 v).2.2.1 5 i) = upd (fun i => σ.2.2.1 5 i) i0 (v) := u2_fs (f := σ.2.2.1) (k := 5) (i := i0) (v := v) (fun x => x)
  rw [e9]
theorem RM.p14 {g : mG} {m : Nat} {μ0 μ μ1 : mM} {σ : Sg} (h : RM g m μ0 σ μ) {i0 : Nat} {v : Int32} (e : μ1 = up μ (m + 14) (.inl (g.2.1 0, aI 72 (upd (fun i => σ.2.2.1 6 i) i0 (v))))) : RM g m μ0 (uI σ 6 i0 v) μ1 := by
  subst e
  refine h.put 14 (by decide) ?_ (fun j hj hne => cM_congr j hj (fun _ => rfl) (fun _ => rfl) (fun _ => funext fun b => congrArg (fun x => x) (u2_k (f := σ.2.2.1) (k := 6) (i := i0) (a := 0) (b := b) (v := v) (by decide))) (fun _ => funext fun b => congrArg (fun x => x) (u2_k (f := σ.2.2.1) (k := 6) (i := i0) (a := 1) (b := b) (v := v) (by decide))) (fun _ => funext fun b => congrArg (fun x => x) (u2_k (f := σ.2.2.1) (k := 6) (i := i0) (a := 2) (b := b) (v := v) (by decide))) (fun _ => funext fun b => congrArg (fun x => x) (u2_k (f := σ.2.2.1) (k := 6) (i := i0) (a := 3) (b := b) (v := v) (by decide))) (fun _ => funext fun b => congrArg (fun x => x) (u2_k (f := σ.2.2.1) (k := 6) (i := i0) (a := 4) (b := b) (v := v) (by decide))) (fun _ => rfl) (fun _ => rfl) (fun _ => rfl) (fun _ => rfl) (fun _ => rfl) (fun _ => rfl) (fun _ => funext fun b => congrArg (fun x => x) (u2_k (f := σ.2.2.1) (k := 6) (i := i0) (a := 5) (b := b) (v := v) (by decide))) (fun q => absurd q hne) (fun _ => rfl) (fun _ => rfl) (fun _ => rfl) (fun _ => rfl) (fun _ => rfl) (fun _ => rfl) (fun _ => rfl) (fun _ => rfl) (fun _ => rfl) (fun _ => funext fun b => congrArg (fun x => x) (u2_k (f := σ.2.2.1) (k := 6) (i := i0) (a := 7) (b := b) (v := v) (by decide))) (fun _ => rfl))
  show _ = (Sum.inl (g.2.1 0, aI 72 (fun i => (uI σ 6 i0 v).2.2.1 6 i)) : va_E)
  have e9 : (fun i => (uI σ 6 i0 v).2.2.1 6 i) = upd (fun i => σ.2.2.1 6 i) i0 (v) := u2_fs (f := σ.2.2.1) (k := 6) (i := i0) (v := v) (fun x => x)
  rw [e9]
theorem RM.p15 {g : mG} {m : Nat} {μ0 μ μ1 : mM} {σ : Sg} (h : RM g m μ0 σ μ) {i0 : Nat} {v : Bool} (e : μ1 = up μ (m + 15) (.inl (g.2.1 1, aI 288 (upd (fun i => bI (σ.2.1 5 i)) i0 (bI v))))) : RM g m μ0 (uB σ 5 i0 v) μ1 := by
  subst e
  refine h.put 15 (by decide) ?_ (fun j hj hne => cM_congr j hj (fun _ => rfl) (fun _ => rfl) (fun _ => rfl) (fun _ => rfl) (fun _ => rfl) (fun _ => rfl) (fun _ => rfl) (fun _ => funext fun b => congrArg bI (u2_k (f := σ.2.1) (k := 5) (i := i0) (a := 0) (b := b) (v := v) (by decide))) (fun _ => funext fun b => congrArg bI (u2_k (f := σ.2.1) (k := 5) (i := i0) (a := 1) (b := b) (v := v) (by decide))) (fun _ => funext fun b => congrArg bI (u2_k (f := σ.2.1) (k := 5) (i := i0) (a := 2) (b := b) (v := v) (by decide))) (fun _ => funext fun b => congrArg bI (u2_k (f := σ.2.1) (k := 5) (i := i0) (a := 3) (b := b) (v := v) (by decide))) (fun _ => funext fun b => congrArg bI (u2_k (f := σ.2.1) (k := 5) (i := i0) (a := 4) (b := b) (v := v) (by decide))) (fun _ => rfl) (fun _ => rfl) (fun _ => rfl) (fun q => absurd q hne) (fun _ => rfl) (fun _ => funext fun b => congrArg bI (u2_k (f := σ.2.1) (k := 5) (i := i0) (a := 6) (b := b) (v := v) (by decide))) (fun _ => rfl) (fun _ => rfl) (fun _ => funext fun b => congrArg bI (u2_k (f := σ.2.1) (k := 5) (i := i0) (a := 7) (b := b) (v := v) (by decide))) (fun _ => rfl) (fun _ => rfl) (fun _ => rfl) (fun _ => rfl) (fun _ => rfl))
  show _ = (Sum.inl (g.2.1 1, aI 288 (fun i => bI ((uB σ 5 i0 v).2.1 5 i))) : va_E)
  have e9 : (fun i => bI ((uB σ 5 i0 v).2.1 5 i)) = upd (fun i => bI (σ.2.1 5 i)) i0 (bI v) := u2_fs (f := σ.2.1) (k := 5) (i := i0) (v := v) bI
  rw [e9]
theorem RM.p16 {g : mG} {m : Nat} {μ0 μ μ1 : mM} {σ : Sg} (h : RM g m μ0 σ μ) {i0 : Nat} {v : Int64} (e : μ1 = up μ (m + 16) (.inl (g.2.1 2, aL 288 (vp_updL (fun i => σ.2.2.2 1 i) i0 (v))))) : RM g m μ0 (uL σ 1 i0 v) μ1 := by
  subst e
  refine h.put 16 (by decide) ?_ (fun j hj hne => cM_congr j hj (fun _ => rfl) (fun _ => rfl) (fun _ => rfl) (fun _ => rfl) (fun _ => rfl) (fun _ => rfl) (fun _ => rfl) (fun _ => rfl) (fun _ => rfl) (fun _ => rfl) (fun _ => rfl) (fun _ => rfl) (fun _ => funext fun b => congrArg (fun x => x) (u2_k (f := σ.2.2.2) (k := 1) (i := i0) (a := 0) (b := b) (v := v) (by decide))) (fun _ => rfl) (fun _ => rfl) (fun _ => rfl) (fun q => absurd q hne) (fun _ => rfl) (fun _ => funext fun b => congrArg (fun x => x) (u2_k (f := σ.2.2.2) (k := 1) (i := i0) (a := 2) (b := b) (v := v) (by decide))) (fun _ => funext fun b => congrArg (fun x => x) (u2_k (f := σ.2.2.2) (k := 1) (i := i0) (a := 3) (b := b) (v := v) (by decide))) (fun _ => rfl) (fun _ => rfl) (fun _ => rfl) (fun _ => rfl) (fun _ => rfl) (fun _ => rfl))
  show _ = (Sum.inl (g.2.1 2, aL 288 (fun i => (uL σ 1 i0 v).2.2.2 1 i)) : va_E)
  have e9 : (fun i => (uL σ 1 i0 v).2.2.2 1 i) = vp_updL (fun i => σ.2.2.2 1 i) i0 (v) := u2_fs (f := σ.2.2.2) (k := 1) (i := i0) (v := v) (fun x => x)
  rw [e9]
theorem RM.p17 {g : mG} {m : Nat} {μ0 μ μ1 : mM} {σ : Sg} (h : RM g m μ0 σ μ) {i0 : Nat} {v : Bool} (e : μ1 = up μ (m + 17) (.inl (g.2.1 1, aI 4 (upd (fun i => bI (σ.2.1 6 i)) i0 (bI v))))) : RM g m μ0 (uB σ 6 i0 v) μ1 := by
  subst e
  refine h.put 17 (by decide) ?_ (fun j hj hne => cM_congr j hj (fun _ => rfl) (fun _ => rfl) (fun _ => rfl) (fun _ => rfl) (fun _ => rfl) (fun _ => rfl) (fun _ => rfl) (fun _ => funext fun b => congrArg bI (u2_k (f := σ.2.1) (k := 6) (i := i0) (a := 0) (b := b) (v := v) (by decide))) (fun _ => funext fun b => congrArg bI (u2_k (f := σ.2.1) (k := 6) (i := i0) (a := 1) (b := b) (v := v) (by decide))) (fun _ => funext fun b => congrArg bI (u2_k (f := σ.2.1) (k := 6) (i := i0) (a := 2) (b := b) (v := v) (by decide))) (fun _ => funext fun b => congrArg bI (u2_k (f := σ.2.1) (k := 6) (i := i0) (a := 3) (b := b) (v := v) (by decide))) (fun _ => funext fun b => congrArg bI (u2_k (f := σ.2.1) (k := 6) (i := i0) (a := 4) (b := b) (v := v) (by decide))) (fun _ => rfl) (fun _ => rfl) (fun _ => rfl) (fun _ => funext fun b => congrArg bI (u2_k (f := σ.2.1) (k := 6) (i := i0) (a := 5) (b := b) (v := v) (by decide))) (fun _ => rfl) (fun q => absurd q hne) (fun _ => rfl) (fun _ => rfl) (fun _ => funext fun b => congrArg bI (u2_k (f := σ.2.1) (k := 6) (i := i0) (a := 7) (b := b) (v := v) (by decide))) (fun _ => rfl) (fun _ => rfl) (fun _ => rfl) (fun _ => rfl) (fun _ => rfl))
  show _ = (Sum.inl (g.2.1 1, aI 4 (fun i => bI ((uB σ 6 i0 v).2.1 6 i))) : va_E)
  have e9 : (fun i => bI ((uB σ 6 i0 v).2.1 6 i)) = upd (fun i => bI (σ.2.1 6 i)) i0 (bI v) := u2_fs (f := σ.2.1) (k := 6) (i := i0) (v := v) bI
  rw [e9]
theorem RM.p18 {g : mG} {m : Nat} {μ0 μ μ1 : mM} {σ : Sg} (h : RM g m μ0 σ μ) {i0 : Nat} {v : Int64} (e : μ1 = up μ (m + 18) (.inl (g.2.1 2, aL 31 (vp_updL (fun i => σ.2.2.2 2 i) i0 (v))))) : RM g m μ0 (uL σ 2 i0 v) μ1 := by
  subst e
  refine h.put 18 (by decide) ?_ (fun j hj hne => cM_congr j hj (fun _ => rfl) (fun _ => rfl) (fun _ => rfl) (fun _ => rfl) (fun _ => rfl) (fun _ => rfl) (fun _ => rfl) (fun _ => rfl) (fun _ => rfl) (fun _ => rfl) (fun _ => rfl) (fun _ => rfl) (fun _ => funext fun b => congrArg (fun x => x) (u2_k (f := σ.2.2.2) (k := 2) (i := i0) (a := 0) (b := b) (v := v) (by decide))) (fun _ => rfl) (fun _ => rfl) (fun _ => rfl) (fun _ => funext fun b => congrArg (fun x => x) (u2_k (f := σ.2.2.2) (k := 2) (i := i0) (a := 1) (b := b) (v := v) (by decide))) (fun _ => rfl) (fun q => absurd q hne) (fun _ => funext fun b => congrArg (fun x => x) (u2_k (f := σ.2.2.2) (k := 2) (i := i0) (a := 3) (b := b) (v := v) (by decide))) (fun _ => rfl) (fun _ => rfl) (fun _ => rfl) (fun _ => rfl) (fun _ => rfl) (fun _ => rfl))
  show _ = (Sum.inl (g.2.1 2, aL 31 (fun i => (uL σ 2 i0 v).2.2.2 2 i)) : va_E)
  have e9 : (fun i => (uL σ 2 i0 v).2.2.2 2 i) = vp_updL (fun i => σ.2.2.2 2 i) i0 (v) := u2_fs (f := σ.2.2.2) (k := 2) (i := i0) (v := v) (fun x => x)
  rw [e9]
theorem RM.p19 {g : mG} {m : Nat} {μ0 μ μ1 : mM} {σ : Sg} (h : RM g m μ0 σ μ) {i0 : Nat} {v : Int64} (e : μ1 = up μ (m + 19) (.inl (g.2.1 2, aL 31 (vp_updL (fun i => σ.2.2.2 3 i) i0 (v))))) : RM g m μ0 (uL σ 3 i0 v) μ1 := by
  subst e
  refine h.put 19 (by decide) ?_ (fun j hj hne => cM_congr j hj (fun _ => rfl) (fun _ => rfl) (fun _ => rfl) (fun _ => rfl) (fun _ => rfl) (fun _ => rfl) (fun _ => rfl) (fun _ => rfl) (fun _ => rfl) (fun _ => rfl) (fun _ => rfl) (fun _ => rfl) (fun _ => funext fun b => congrArg (fun x => x) (u2_k (f := σ.2.2.2) (k := 3) (i := i0) (a := 0) (b := b) (v := v) (by decide))) (fun _ => rfl) (fun _ => rfl) (fun _ => rfl) (fun _ => funext fun b => congrArg (fun x => x) (u2_k (f := σ.2.2.2) (k := 3) (i := i0) (a := 1) (b := b) (v := v) (by decide))) (fun _ => rfl) (fun _ => funext fun b => congrArg (fun x => x) (u2_k (f := σ.2.2.2) (k := 3) (i := i0) (a := 2) (b := b) (v := v) (by decide))) (fun q => absurd q hne) (fun _ => rfl) (fun _ => rfl) (fun _ => rfl) (fun _ => rfl) (fun _ => rfl) (fun _ => rfl))
  show _ = (Sum.inl (g.2.1 2, aL 31 (fun i => (uL σ 3 i0 v).2.2.2 3 i)) : va_E)
  have e9 : (fun i => (uL σ 3 i0 v).2.2.2 3 i) = vp_updL (fun i => σ.2.2.2 3 i) i0 (v) := u2_fs (f := σ.2.2.2) (k := 3) (i := i0) (v := v) (fun x => x)
  rw [e9]
theorem RM.p20 {g : mG} {m : Nat} {μ0 μ μ1 : mM} {σ : Sg} (h : RM g m μ0 σ μ) {i0 : Nat} {v : Bool} (e : μ1 = up μ (m + 20) (.inl (g.2.1 1, aI 31 (upd (fun i => bI (σ.2.1 7 i)) i0 (bI v))))) : RM g m μ0 (uB σ 7 i0 v) μ1 := by
  subst e
  refine h.put 20 (by decide) ?_ (fun j hj hne => cM_congr j hj (fun _ => rfl) (fun _ => rfl) (fun _ => rfl) (fun _ => rfl) (fun _ => rfl) (fun _ => rfl) (fun _ => rfl) (fun _ => funext fun b => congrArg bI (u2_k (f := σ.2.1) (k := 7) (i := i0) (a := 0) (b := b) (v := v) (by decide))) (fun _ => funext fun b => congrArg bI (u2_k (f := σ.2.1) (k := 7) (i := i0) (a := 1) (b := b) (v := v) (by decide))) (fun _ => funext fun b => congrArg bI (u2_k (f := σ.2.1) (k := 7) (i := i0) (a := 2) (b := b) (v := v) (by decide))) (fun _ => funext fun b => congrArg bI (u2_k (f := σ.2.1) (k := 7) (i := i0) (a := 3) (b := b) (v := v) (by decide))) (fun _ => funext fun b => congrArg bI (u2_k (f := σ.2.1) (k := 7) (i := i0) (a := 4) (b := b) (v := v) (by decide))) (fun _ => rfl) (fun _ => rfl) (fun _ => rfl) (fun _ => funext fun b => congrArg bI (u2_k (f := σ.2.1) (k := 7) (i := i0) (a := 5) (b := b) (v := v) (by decide))) (fun _ => rfl) (fun _ => funext fun b => congrArg bI (u2_k (f := σ.2.1) (k := 7) (i := i0) (a := 6) (b := b) (v := v) (by decide))) (fun _ => rfl) (fun _ => rfl) (fun q => absurd q hne) (fun _ => rfl) (fun _ => rfl) (fun _ => rfl) (fun _ => rfl) (fun _ => rfl))
  show _ = (Sum.inl (g.2.1 1, aI 31 (fun i => bI ((uB σ 7 i0 v).2.1 7 i))) : va_E)
  have e9 : (fun i => bI ((uB σ 7 i0 v).2.1 7 i)) = upd (fun i => bI (σ.2.1 7 i)) i0 (bI v) := u2_fs (f := σ.2.1) (k := 7) (i := i0) (v := v) bI
  rw [e9]
theorem RM.p21 {g : mG} {m : Nat} {μ0 μ μ1 : mM} {σ : Sg} (h : RM g m μ0 σ μ) {i0 : Nat} {v : Nat} (e : μ1 = up μ (m + 21) (.inl (g.2.1 0, aI 288 (upd (fun i => nI (σ.1 1 i)) i0 (nI v))))) : RM g m μ0 (uN σ 1 i0 v) μ1 := by
  subst e
  refine h.put 21 (by decide) ?_ (fun j hj hne => cM_congr j hj (fun _ => rfl) (fun _ => funext fun b => congrArg nI (u2_k (f := σ.1) (k := 1) (i := i0) (a := 0) (b := b) (v := v) (by decide))) (fun _ => rfl) (fun _ => rfl) (fun _ => rfl) (fun _ => rfl) (fun _ => rfl) (fun _ => rfl) (fun _ => rfl) (fun _ => rfl) (fun _ => rfl) (fun _ => rfl) (fun _ => rfl) (fun _ => rfl) (fun _ => rfl) (fun _ => rfl) (fun _ => rfl) (fun _ => rfl) (fun _ => rfl) (fun _ => rfl) (fun _ => rfl) (fun q => absurd q hne) (fun _ => funext fun b => congrArg nI (u2_k (f := σ.1) (k := 1) (i := i0) (a := 2) (b := b) (v := v) (by decide))) (fun _ => funext fun b => congrArg nI (u2_k (f := σ.1) (k := 1) (i := i0) (a := 4) (b := b) (v := v) (by decide))) (fun _ => rfl) (fun _ => funext fun b => congrArg mI (u2_k (f := σ.1) (k := 1) (i := i0) (a := 5) (b := b) (v := v) (by decide))))
  show _ = (Sum.inl (g.2.1 0, aI 288 (fun i => nI ((uN σ 1 i0 v).1 1 i))) : va_E)
  have e9 : (fun i => nI ((uN σ 1 i0 v).1 1 i)) = upd (fun i => nI (σ.1 1 i)) i0 (nI v) := u2_fs (f := σ.1) (k := 1) (i := i0) (v := v) nI
  rw [e9]
theorem RM.p22 {g : mG} {m : Nat} {μ0 μ μ1 : mM} {σ : Sg} (h : RM g m μ0 σ μ) {i0 : Nat} {v : Nat} (e : μ1 = up μ (m + 22) (.inl (g.2.1 0, aI 1440 (upd (fun i => nI (σ.1 2 i)) i0 (nI v))))) : RM g m μ0 (uN σ 2 i0 v) μ1 := by
  subst e
  refine h.put 22 (by decide) ?_ (fun j hj hne => cM_congr j hj (fun _ => rfl) (fun _ => funext fun b => congrArg nI (u2_k (f := σ.1) (k := 2) (i := i0) (a := 0) (b := b) (v := v) (by decide))) (fun _ => rfl) (fun _ => rfl) (fun _ => rfl) (fun _ => rfl) (fun _ => rfl) (fun _ => rfl) (fun _ => rfl) (fun _ => rfl) (fun _ => rfl) (fun _ => rfl) (fun _ => rfl) (fun _ => rfl) (fun _ => rfl) (fun _ => rfl) (fun _ => rfl) (fun _ => rfl) (fun _ => rfl) (fun _ => rfl) (fun _ => rfl) (fun _ => funext fun b => congrArg nI (u2_k (f := σ.1) (k := 2) (i := i0) (a := 1) (b := b) (v := v) (by decide))) (fun q => absurd q hne) (fun _ => funext fun b => congrArg nI (u2_k (f := σ.1) (k := 2) (i := i0) (a := 4) (b := b) (v := v) (by decide))) (fun _ => rfl) (fun _ => funext fun b => congrArg mI (u2_k (f := σ.1) (k := 2) (i := i0) (a := 5) (b := b) (v := v) (by decide))))
  show _ = (Sum.inl (g.2.1 0, aI 1440 (fun i => nI ((uN σ 2 i0 v).1 2 i))) : va_E)
  have e9 : (fun i => nI ((uN σ 2 i0 v).1 2 i)) = upd (fun i => nI (σ.1 2 i)) i0 (nI v) := u2_fs (f := σ.1) (k := 2) (i := i0) (v := v) nI
  rw [e9]
theorem RM.p23 {g : mG} {m : Nat} {μ0 μ μ1 : mM} {σ : Sg} (h : RM g m μ0 σ μ) {i0 : Nat} {v : Nat} (e : μ1 = up μ (m + 23) (.inl (g.2.1 0, aI 5 (upd (fun i => nI (σ.1 4 i)) i0 (nI v))))) : RM g m μ0 (uN σ 4 i0 v) μ1 := by
  subst e
  refine h.put 23 (by decide) ?_ (fun j hj hne => cM_congr j hj (fun _ => rfl) (fun _ => funext fun b => congrArg nI (u2_k (f := σ.1) (k := 4) (i := i0) (a := 0) (b := b) (v := v) (by decide))) (fun _ => rfl) (fun _ => rfl) (fun _ => rfl) (fun _ => rfl) (fun _ => rfl) (fun _ => rfl) (fun _ => rfl) (fun _ => rfl) (fun _ => rfl) (fun _ => rfl) (fun _ => rfl) (fun _ => rfl) (fun _ => rfl) (fun _ => rfl) (fun _ => rfl) (fun _ => rfl) (fun _ => rfl) (fun _ => rfl) (fun _ => rfl) (fun _ => funext fun b => congrArg nI (u2_k (f := σ.1) (k := 4) (i := i0) (a := 1) (b := b) (v := v) (by decide))) (fun _ => funext fun b => congrArg nI (u2_k (f := σ.1) (k := 4) (i := i0) (a := 2) (b := b) (v := v) (by decide))) (fun q => absurd q hne) (fun _ => rfl) (fun _ => funext fun b => congrArg mI (u2_k (f := σ.1) (k := 4) (i := i0) (a := 5) (b := b) (v := v) (by decide))))
  show _ = (Sum.inl (g.2.1 0, aI 5 (fun i => nI ((uN σ 4 i0 v).1 4 i))) : va_E)
  have e9 : (fun i => nI ((uN σ 4 i0 v).1 4 i)) = upd (fun i => nI (σ.1 4 i)) i0 (nI v) := u2_fs (f := σ.1) (k := 4) (i := i0) (v := v) nI
  rw [e9]
theorem RM.p24 {g : mG} {m : Nat} {μ0 μ μ1 : mM} {σ : Sg} (h : RM g m μ0 σ μ) {i0 : Nat} {v : Int32} (e : μ1 = up μ (m + 24) (.inl (g.2.1 0, aI 4 (upd (fun i => σ.2.2.1 7 i) i0 (v))))) : RM g m μ0 (uI σ 7 i0 v) μ1 := by
  subst e
  refine h.put 24 (by decide) ?_ (fun j hj hne => cM_congr j hj (fun _ => rfl) (fun _ => rfl) (fun _ => funext fun b => congrArg (fun x => x) (u2_k (f := σ.2.2.1) (k := 7) (i := i0) (a := 0) (b := b) (v := v) (by decide))) (fun _ => funext fun b => congrArg (fun x => x) (u2_k (f := σ.2.2.1) (k := 7) (i := i0) (a := 1) (b := b) (v := v) (by decide))) (fun _ => funext fun b => congrArg (fun x => x) (u2_k (f := σ.2.2.1) (k := 7) (i := i0) (a := 2) (b := b) (v := v) (by decide))) (fun _ => funext fun b => congrArg (fun x => x) (u2_k (f := σ.2.2.1) (k := 7) (i := i0) (a := 3) (b := b) (v := v) (by decide))) (fun _ => funext fun b => congrArg (fun x => x) (u2_k (f := σ.2.2.1) (k := 7) (i := i0) (a := 4) (b := b) (v := v) (by decide))) (fun _ => rfl) (fun _ => rfl) (fun _ => rfl) (fun _ => rfl) (fun _ => rfl) (fun _ => rfl) (fun _ => funext fun b => congrArg (fun x => x) (u2_k (f := σ.2.2.1) (k := 7) (i := i0) (a := 5) (b := b) (v := v) (by decide))) (fun _ => funext fun b => congrArg (fun x => x) (u2_k (f := σ.2.2.1) (k := 7) (i := i0) (a := 6) (b := b) (v := v) (by decide))) (fun _ => rfl) (fun _ => rfl) (fun _ => rfl) (fun _ => rfl) (fun _ => rfl) (fun _ => rfl) (fun _ => rfl) (fun _ => rfl) (fun _ => rfl) (fun q => absurd q hne) (fun _ => rfl))
  show _ = (Sum.inl (g.2.1 0, aI 4 (fun i => (uI σ 7 i0 v).2.2.1 7 i)) : va_E)
  have e9 : (fun i => (uI σ 7 i0 v).2.2.1 7 i) = upd (fun i => σ.2.2.1 7 i) i0 (v) := u2_fs (f := σ.2.2.1) (k := 7) (i := i0) (v := v) (fun x => x)
  rw [e9]
theorem RM.p25 {g : mG} {m : Nat} {μ0 μ μ1 : mM} {σ : Sg} (h : RM g m μ0 σ μ) {i0 : Nat} {v : Nat} (e : μ1 = up μ (m + 25) (.inl (g.2.1 0, aI 12 (upd (fun i => mI (σ.1 5 i)) i0 (mI v))))) : RM g m μ0 (uN σ 5 i0 v) μ1 := by
  subst e
  refine h.put 25 (by decide) ?_ (fun j hj hne => cM_congr j hj (fun _ => rfl) (fun _ => funext fun b => congrArg nI (u2_k (f := σ.1) (k := 5) (i := i0) (a := 0) (b := b) (v := v) (by decide))) (fun _ => rfl) (fun _ => rfl) (fun _ => rfl) (fun _ => rfl) (fun _ => rfl) (fun _ => rfl) (fun _ => rfl) (fun _ => rfl) (fun _ => rfl) (fun _ => rfl) (fun _ => rfl) (fun _ => rfl) (fun _ => rfl) (fun _ => rfl) (fun _ => rfl) (fun _ => rfl) (fun _ => rfl) (fun _ => rfl) (fun _ => rfl) (fun _ => funext fun b => congrArg nI (u2_k (f := σ.1) (k := 5) (i := i0) (a := 1) (b := b) (v := v) (by decide))) (fun _ => funext fun b => congrArg nI (u2_k (f := σ.1) (k := 5) (i := i0) (a := 2) (b := b) (v := v) (by decide))) (fun _ => funext fun b => congrArg nI (u2_k (f := σ.1) (k := 5) (i := i0) (a := 4) (b := b) (v := v) (by decide))) (fun _ => rfl) (fun q => absurd q hne))
  show _ = (Sum.inl (g.2.1 0, aI 12 (fun i => mI ((uN σ 5 i0 v).1 5 i))) : va_E)
  have e9 : (fun i => mI ((uN σ 5 i0 v).1 5 i)) = upd (fun i => mI (σ.1 5 i)) i0 (mI v) := u2_fs (f := σ.1) (k := 5) (i := i0) (v := v) mI
  rw [e9]
theorem RM.s_thrown {g : mG} {m : Nat} {μ0 μ μ1 : mM} {σ : Sg} (h : RM g m μ0 σ μ) {v : Nat} (e : μ1 = up μ m (.inr (6, (oM m σ).set 0 (.int (nI v))))) : RM g m μ0 (uN σ 3 1 v) μ1 := by
  subst e
  refine h.put 0 (by decide) ?_ (fun j hj hne => cM_congr j hj (fun q => absurd q hne) (fun _ => funext fun b => congrArg nI (u2_k (f := σ.1) (k := 3) (i := 1) (a := 0) (b := b) (v := v) (by decide))) (fun _ => rfl) (fun _ => rfl) (fun _ => rfl) (fun _ => rfl) (fun _ => rfl) (fun _ => rfl) (fun _ => rfl) (fun _ => rfl) (fun _ => rfl) (fun _ => rfl) (fun _ => rfl) (fun _ => rfl) (fun _ => rfl) (fun _ => rfl) (fun _ => rfl) (fun _ => rfl) (fun _ => rfl) (fun _ => rfl) (fun _ => rfl) (fun _ => funext fun b => congrArg nI (u2_k (f := σ.1) (k := 3) (i := 1) (a := 1) (b := b) (v := v) (by decide))) (fun _ => funext fun b => congrArg nI (u2_k (f := σ.1) (k := 3) (i := 1) (a := 2) (b := b) (v := v) (by decide))) (fun _ => funext fun b => congrArg nI (u2_k (f := σ.1) (k := 3) (i := 1) (a := 4) (b := b) (v := v) (by decide))) (fun _ => rfl) (fun _ => funext fun b => congrArg mI (u2_k (f := σ.1) (k := 3) (i := 1) (a := 5) (b := b) (v := v) (by decide))))
  rfl
theorem RM.s_books {g : mG} {m : Nat} {μ0 μ μ1 : mM} {σ : Sg} (h : RM g m μ0 σ μ) {v : Nat} (e : μ1 = up μ m (.inr (6, (oM m σ).set 1 (.int (nI v))))) : RM g m μ0 (uN σ 3 0 v) μ1 := by
  subst e
  refine h.put 0 (by decide) ?_ (fun j hj hne => cM_congr j hj (fun q => absurd q hne) (fun _ => funext fun b => congrArg nI (u2_k (f := σ.1) (k := 3) (i := 0) (a := 0) (b := b) (v := v) (by decide))) (fun _ => rfl) (fun _ => rfl) (fun _ => rfl) (fun _ => rfl) (fun _ => rfl) (fun _ => rfl) (fun _ => rfl) (fun _ => rfl) (fun _ => rfl) (fun _ => rfl) (fun _ => rfl) (fun _ => rfl) (fun _ => rfl) (fun _ => rfl) (fun _ => rfl) (fun _ => rfl) (fun _ => rfl) (fun _ => rfl) (fun _ => rfl) (fun _ => funext fun b => congrArg nI (u2_k (f := σ.1) (k := 3) (i := 0) (a := 1) (b := b) (v := v) (by decide))) (fun _ => funext fun b => congrArg nI (u2_k (f := σ.1) (k := 3) (i := 0) (a := 2) (b := b) (v := v) (by decide))) (fun _ => funext fun b => congrArg nI (u2_k (f := σ.1) (k := 3) (i := 0) (a := 4) (b := b) (v := v) (by decide))) (fun _ => rfl) (fun _ => funext fun b => congrArg mI (u2_k (f := σ.1) (k := 3) (i := 0) (a := 5) (b := b) (v := v) (by decide))))
  rfl
theorem RM.s_drift {g : mG} {m : Nat} {μ0 μ μ1 : mM} {σ : Sg} (h : RM g m μ0 σ μ) {v : Int32} (e : μ1 = up μ m (.inr (6, (oM m σ).set 10 (.int v)))) : RM g m μ0 (uI σ 8 0 v) μ1 := by
  subst e
  refine h.put 0 (by decide) ?_ (fun j hj hne => cM_congr j hj (fun q => absurd q hne) (fun _ => rfl) (fun _ => funext fun b => congrArg (fun x => x) (u2_k (f := σ.2.2.1) (k := 8) (i := 0) (a := 0) (b := b) (v := v) (by decide))) (fun _ => funext fun b => congrArg (fun x => x) (u2_k (f := σ.2.2.1) (k := 8) (i := 0) (a := 1) (b := b) (v := v) (by decide))) (fun _ => funext fun b => congrArg (fun x => x) (u2_k (f := σ.2.2.1) (k := 8) (i := 0) (a := 2) (b := b) (v := v) (by decide))) (fun _ => funext fun b => congrArg (fun x => x) (u2_k (f := σ.2.2.1) (k := 8) (i := 0) (a := 3) (b := b) (v := v) (by decide))) (fun _ => funext fun b => congrArg (fun x => x) (u2_k (f := σ.2.2.1) (k := 8) (i := 0) (a := 4) (b := b) (v := v) (by decide))) (fun _ => rfl) (fun _ => rfl) (fun _ => rfl) (fun _ => rfl) (fun _ => rfl) (fun _ => rfl) (fun _ => funext fun b => congrArg (fun x => x) (u2_k (f := σ.2.2.1) (k := 8) (i := 0) (a := 5) (b := b) (v := v) (by decide))) (fun _ => funext fun b => congrArg (fun x => x) (u2_k (f := σ.2.2.1) (k := 8) (i := 0) (a := 6) (b := b) (v := v) (by decide))) (fun _ => rfl) (fun _ => rfl) (fun _ => rfl) (fun _ => rfl) (fun _ => rfl) (fun _ => rfl) (fun _ => rfl) (fun _ => rfl) (fun _ => rfl) (fun _ => funext fun b => congrArg (fun x => x) (u2_k (f := σ.2.2.1) (k := 8) (i := 0) (a := 7) (b := b) (v := v) (by decide))) (fun _ => rfl))
  rfl
theorem RM.s_looked {g : mG} {m : Nat} {μ0 μ μ1 : mM} {σ : Sg} (h : RM g m μ0 σ μ) {v : Nat} (e : μ1 = up μ m (.inr (6, (oM m σ).set 23 (.int (nI v))))) : RM g m μ0 (uN σ 3 2 v) μ1 := by
  subst e
  refine h.put 0 (by decide) ?_ (fun j hj hne => cM_congr j hj (fun q => absurd q hne) (fun _ => funext fun b => congrArg nI (u2_k (f := σ.1) (k := 3) (i := 2) (a := 0) (b := b) (v := v) (by decide))) (fun _ => rfl) (fun _ => rfl) (fun _ => rfl) (fun _ => rfl) (fun _ => rfl) (fun _ => rfl) (fun _ => rfl) (fun _ => rfl) (fun _ => rfl) (fun _ => rfl) (fun _ => rfl) (fun _ => rfl) (fun _ => rfl) (fun _ => rfl) (fun _ => rfl) (fun _ => rfl) (fun _ => rfl) (fun _ => rfl) (fun _ => rfl) (fun _ => funext fun b => congrArg nI (u2_k (f := σ.1) (k := 3) (i := 2) (a := 1) (b := b) (v := v) (by decide))) (fun _ => funext fun b => congrArg nI (u2_k (f := σ.1) (k := 3) (i := 2) (a := 2) (b := b) (v := v) (by decide))) (fun _ => funext fun b => congrArg nI (u2_k (f := σ.1) (k := 3) (i := 2) (a := 4) (b := b) (v := v) (by decide))) (fun _ => rfl) (fun _ => funext fun b => congrArg mI (u2_k (f := σ.1) (k := 3) (i := 2) (a := 5) (b := b) (v := v) (by decide))))
  rfl
theorem RM.s_year {g : mG} {m : Nat} {μ0 μ μ1 : mM} {σ : Sg} (h : RM g m μ0 σ μ) {v : Int32} (e : μ1 = up μ m (.inr (6, (oM m σ).set 27 (.int v)))) : RM g m μ0 (uI σ 8 1 v) μ1 := by
  subst e
  refine h.put 0 (by decide) ?_ (fun j hj hne => cM_congr j hj (fun q => absurd q hne) (fun _ => rfl) (fun _ => funext fun b => congrArg (fun x => x) (u2_k (f := σ.2.2.1) (k := 8) (i := 1) (a := 0) (b := b) (v := v) (by decide))) (fun _ => funext fun b => congrArg (fun x => x) (u2_k (f := σ.2.2.1) (k := 8) (i := 1) (a := 1) (b := b) (v := v) (by decide))) (fun _ => funext fun b => congrArg (fun x => x) (u2_k (f := σ.2.2.1) (k := 8) (i := 1) (a := 2) (b := b) (v := v) (by decide))) (fun _ => funext fun b => congrArg (fun x => x) (u2_k (f := σ.2.2.1) (k := 8) (i := 1) (a := 3) (b := b) (v := v) (by decide))) (fun _ => funext fun b => congrArg (fun x => x) (u2_k (f := σ.2.2.1) (k := 8) (i := 1) (a := 4) (b := b) (v := v) (by decide))) (fun _ => rfl) (fun _ => rfl) (fun _ => rfl) (fun _ => rfl) (fun _ => rfl) (fun _ => rfl) (fun _ => funext fun b => congrArg (fun x => x) (u2_k (f := σ.2.2.1) (k := 8) (i := 1) (a := 5) (b := b) (v := v) (by decide))) (fun _ => funext fun b => congrArg (fun x => x) (u2_k (f := σ.2.2.1) (k := 8) (i := 1) (a := 6) (b := b) (v := v) (by decide))) (fun _ => rfl) (fun _ => rfl) (fun _ => rfl) (fun _ => rfl) (fun _ => rfl) (fun _ => rfl) (fun _ => rfl) (fun _ => rfl) (fun _ => rfl) (fun _ => funext fun b => congrArg (fun x => x) (u2_k (f := σ.2.2.1) (k := 8) (i := 1) (a := 7) (b := b) (v := v) (by decide))) (fun _ => rfl))
  rfl
end
section
/-! numbers in their ranges -/
def inR (x a b : Int32) : Bool := decide (a ≤ x) && decide (x ≤ b)
def okI (x : Int32) (n : Nat) : Bool := inR x (nI 0) (mI n)
theorem mI_toInt {n : Nat} (h : n < 2 ^ 30) : (mI n).toInt = (n : Int) - 1 := by
  have h1 := pk_sub_toInt (a := n) (b := 1) (by omega) (by decide)
  exact h1
theorem okI_nI {i n : Nat} (h : i < n) (hn : n < 2 ^ 30) : okI (nI i) n = true := by
  unfold okI inR
  rw [decide_eq_true, decide_eq_true]
  · rfl
  · rw [Int32.le_iff_toInt_le, mI_toInt hn, nI_toInt (by omega)]
    omega
  · exact nI_le (Nat.zero_le _) (by omega)
theorem inR_iff {x a b : Int32} : inR x a b = true ↔ a.toInt ≤ x.toInt ∧ x.toInt ≤ b.toInt := by
  unfold inR
  rw [Bool.and_eq_true, decide_eq_true_eq, decide_eq_true_eq, Int32.le_iff_toInt_le, Int32.le_iff_toInt_le]
theorem inR_f {x a b : Int32} (h : ¬ (a.toInt ≤ x.toInt ∧ x.toInt ≤ b.toInt)) : inR x a b = false := by
  cases q : inR x a b with
  | false => rfl
  | true => exact absurd (inR_iff.mp q) h
theorem okI_t {x : Int32} {n : Nat} (h : okI x n = true) (hn : n < 2 ^ 30) : ∃ i, i < n ∧ x = nI i := by
  have h1 := inR_iff.mp h
  rw [mI_toInt hn, show (nI 0).toInt = 0 from rfl] at h1
  exact vp_in_of (vp_in_iff.mpr ⟨h1.1, by omega⟩) (by omega)
theorem okI_f {x : Int32} {n : Nat} (h : okI x n = false) (hn : n < 2 ^ 30) : x < 0 ∨ nI n ≤ x := by
  by_cases h0 : x < 0
  · exact Or.inl h0
  · refine Or.inr ?_
    have h1 : ¬ (0 ≤ x.toInt ∧ x.toInt ≤ (n : Int) - 1) := fun q => by
      have h2 : okI x n = true := inR_iff.mpr (by rw [mI_toInt hn, show (nI 0).toInt = 0 from rfl]; exact q)
      rw [h] at h2
      cases h2
    rw [Int32.lt_iff_toInt_lt, show (0 : Int32).toInt = 0 from rfl] at h0
    rw [Int32.le_iff_toInt_le, nI_toInt (by omega)]
    omega
theorem okI_ne {x : Int32} {i n : Nat} (h : okI x n = false) (hi : i < n) (hn : n < 2 ^ 30) : x ≠ nI i := fun q => by
  rw [q, okI_nI hi hn] at h
  cases h
abbrev tn (x : Int32) : Nat := x.toNatClampNeg
theorem tn_nI {n : Nat} (h : n < 2 ^ 31) : tn (nI n) = n := nI_clamp h
def isB (σ : Sg) (b : Int32) : Bool := okI b (σ.1 3 0)
def isP (σ : Sg) (b p : Int32) : Bool := isB σ b && okI p (σ.1 0 (tn b))
def isV (v : Int32) : Bool := inR v (nI 0) (nI 3)
def isL (σ : Sg) (b p a : Int32) : Bool := isP σ b p && inR a (nI 0) (nI 3)
/-- how many of the first n are so -/
def cnt (f : Nat → Bool) : Nat → Nat
  | 0 => 0
  | n + 1 => cnt f n + (if f n then 1 else 0)
theorem cnt_le (f : Nat → Bool) : ∀ n, cnt f n ≤ n
  | 0 => Nat.le_refl 0
  | n + 1 => by
    have := cnt_le f n
    unfold cnt
    split <;> omega
/-- what always holds of the state -/
def Inv (σ : Sg) : Prop := σ.1 3 0 ≤ 6 ∧ (∀ b, σ.1 0 b ≤ 12) ∧ (∀ i, σ.1 1 i ≤ 26) ∧ (∀ i, σ.1 2 i ≤ 26) ∧ (∀ b, b < σ.1 3 0 → 1 ≤ σ.1 0 b) ∧
  (∀ b p, b < 6 → p < 12 → ¬ (b < σ.1 3 0 ∧ p < σ.1 0 b) → σ.2.1 2 (12 * b + p) = false ∧ σ.2.1 4 (12 * b + p) = false ∧ (∀ v, v < 4 → σ.2.1 5 (72 * v + (12 * b + p)) = false) ∧ ∀ a, a < 4 → σ.1 1 (4 * (12 * b + p) + a) = 0 ∧ ∀ w, w < 5 → σ.1 2 (5 * (4 * (12 * b + p) + a) + w) = 0)
theorem isB_t {σ : Sg} {b : Int32} (hI : Inv σ) (h : isB σ b = true) : ∃ i, i < σ.1 3 0 ∧ b = nI i := okI_t h (by have := hI.1; omega)
theorem isB_nI {σ : Sg} {i : Nat} (hI : Inv σ) (h : i < σ.1 3 0) : isB σ (nI i) = true := okI_nI h (by have := hI.1; omega)
theorem isP_t {σ : Sg} {b p : Int32} (hI : Inv σ) (h : isP σ b p = true) : ∃ i j, i < σ.1 3 0 ∧ j < σ.1 0 i ∧ b = nI i ∧ p = nI j := by
  unfold isP at h
  rw [Bool.and_eq_true] at h
  obtain ⟨i, hi, rfl⟩ := isB_t hI h.1
  have h6 := hI.1
  have h2 := h.2
  rw [tn_nI (by omega)] at h2
  obtain ⟨j, hj, rfl⟩ := okI_t h2 (by have := hI.2.1 i; omega)
  exact ⟨i, j, hi, hj, rfl, rfl⟩
theorem isP_nI {σ : Sg} {i j : Nat} (hI : Inv σ) (h : i < σ.1 3 0) (hj : j < σ.1 0 i) : isP σ (nI i) (nI j) = true := by
  unfold isP
  have h6 := hI.1
  have h12 := hI.2.1 i
  rw [isB_nI hI h, tn_nI (by omega), okI_nI hj (by omega)]
  rfl
theorem isV_ok (v : Int32) : isV v = okI v 4 := by
  unfold isV okI
  rw [mI_s]
theorem isV_t {v : Int32} (h : isV v = true) : ∃ i, i < 4 ∧ v = nI i := okI_t (by rw [← isV_ok]; exact h) (by decide)
theorem isV_nI {i : Nat} (h : i < 4) : isV (nI i) = true := by rw [isV_ok]; exact okI_nI h (by decide)
theorem isL_t {σ : Sg} {b p a : Int32} (hI : Inv σ) (h : isL σ b p a = true) : ∃ i j k, i < σ.1 3 0 ∧ j < σ.1 0 i ∧ k < 4 ∧ b = nI i ∧ p = nI j ∧ a = nI k := by
  unfold isL at h
  rw [Bool.and_eq_true] at h
  obtain ⟨i, j, hi, hj, hb, hp⟩ := isP_t hI h.1
  obtain ⟨k, hk, ha⟩ := isV_t h.2
  exact ⟨i, j, k, hi, hj, hk, hb, hp, ha⟩
theorem inR_lo {x a b : Int32} (h : x < a) : inR x a b = false := inR_f fun q => by
  rw [Int32.lt_iff_toInt_lt] at h
  omega
theorem inR_hi {x a b : Int32} (h : b < x) : inR x a b = false := inR_f fun q => by
  rw [Int32.lt_iff_toInt_lt] at h
  omega
theorem inR_ok {x a b : Int32} (h1 : ¬ x < a) (h2 : ¬ b < x) : inR x a b = true := inR_iff.mpr (by
  rw [Int32.lt_iff_toInt_lt] at h1 h2
  omega)
theorem isP_f {σ : Sg} {b p : Int32} (h : isB σ b = false) : isP σ b p = false := by unfold isP; rw [h]; rfl
/-- an answer, and the reference's object with a new state -/
def wrM (g : mG) (m : Nat) (μ0 : mM) (v : Option Value) (σ' : Sg) (z : Nat) : Option Value → mM → Nat → Prop := fun r μ' z' => r = v ∧ RM g m μ0 σ' μ' ∧ z' = z
end
section
set_option maxRecDepth 100000 in
set_option maxHeartbeats 4000000 in
theorem m_thrown {l : Launch} (hl : l.stackTraces = false) {g : mG} {m z : Nat} {μ0 μ : mM} {σ : Sg} (hR : RM g m μ0 σ μ)  : Ct l g yX6_thrown [Cond.code yX6_thrown cX6_thrown 1 (some .int)] { frames := 0, cells := 0, slots := 0, locals := 0 } [.ref m] μ z (rdP (some (.int (nI (σ.1 3 1)))) μ z) noX := by
  refine Ct.of hl (by decide +kernel) (Nat.le_of_ble_eq_true rfl) ?_
  intro p e s mi args below meth c o hnm hr hx
  have o : Ok p l s mi args meth c g cX6_thrown 1 RX6 := o
  refine v_lv [(0, .ref m)] rfl ?_
  refine v_aload_n 0 o dX6_thrown_0 rfl rfl ?_
  refine v_get o dX6_thrown_1 cf6 0 (by decide) fl_X6_91 hR.o rfl ?_
  exact v_iret o dX6_thrown_4 hr (Nat.le_of_ble_eq_true rfl) (Nat.le_of_ble_eq_true rfl) ⟨rfl, rfl, rfl⟩

set_option maxRecDepth 100000 in
set_option maxHeartbeats 4000000 in
theorem m_goesWell {l : Launch} (hl : l.stackTraces = false) {g : mG} {m z : Nat} {μ0 μ : mM} {σ : Sg} (hR : RM g m μ0 σ μ) (a : Nat) (ha : a < 2 ^ 31) : Ct l g yX6_goesWell [Cond.code yX6_goesWell cX6_goesWell 2 (some .boolean)] { frames := 0, cells := 0, slots := 0, locals := 0 } [.ref m, .int (nI a)] μ z (wrM g m μ0 (some (.int (bI (decide (a = 0))))) (uN σ 3 1 a) z) noX := by
  refine Ct.of hl (by decide +kernel) (Nat.le_of_ble_eq_true rfl) ?_
  intro p e s mi args below meth c o hnm hr hx
  have o : Ok p l s mi args meth c g cX6_goesWell 2 RX6 := o
  refine v_lv [(0, .ref m), (1, .int (nI a))] rfl ?_
  refine v_aload_n 0 o dX6_goesWell_0 rfl rfl ?_
  refine v_iload_n 1 o dX6_goesWell_1 rfl rfl ?_
  refine v_put _ o dX6_goesWell_2 cf6 0 (by decide) (by decide) fl_X6_91 hR.o rfl rfl (Nat.le_of_ble_eq_true rfl) rfl (fun μ1 e1 => ?_)
  have hR1 := hR.s_thrown (v := a) e1
  refine v_iload_n 1 o dX6_goesWell_5 rfl rfl ?_
  refine v_if_ne_n 13 o dX6_goesWell_6 (by decide) (by omega) (fun c6 => ?_) (fun c6 => ?_)
  · refine v_iconst 0 o dX6_goesWell_13 rfl ?_
    exact v_zret o dX6_goesWell_14 hr (by decide) (Nat.le_of_ble_eq_true rfl) (Nat.le_of_ble_eq_true rfl) ⟨by rw [decide_eq_false c6]; rfl, hR1, rfl⟩
  · refine v_iconst 1 o dX6_goesWell_9 rfl ?_
    refine v_goto 14 o dX6_goesWell_10 (by decide) ?_
    exact v_zret o dX6_goesWell_14 hr (by decide) (Nat.le_of_ble_eq_true rfl) (Nat.le_of_ble_eq_true rfl) ⟨by rw [decide_eq_true c6]; rfl, hR1, rfl⟩

set_option maxRecDepth 100000 in
set_option maxHeartbeats 4000000 in
theorem m_in {l : Launch} (hl : l.stackTraces = false) {g : mG} {m z : Nat} {μ0 μ : mM} {σ : Sg} (hR : RM g m μ0 σ μ) (x a b : Int32) : Ct l g yX6_in [Cond.code yX6_in cX6_in 3 (some .boolean)] { frames := 0, cells := 0, slots := 0, locals := 0 } [.int x, .int a, .int b] μ z (rdP (some (.int (bI (inR x a b)))) μ z) noX := by
  refine Ct.of hl (by decide +kernel) (Nat.le_of_ble_eq_true rfl) ?_
  intro p e s mi args below meth c o hnm hr hx
  have o : Ok p l s mi args meth c g cX6_in 3 RX6 := o
  refine v_lv [(0, .int x), (1, .int a), (2, .int b)] rfl ?_
  refine v_iload_n 0 o dX6_in_0 rfl rfl ?_
  refine v_iload_n 1 o dX6_in_1 rfl rfl ?_
  refine v_icmp_lt 14 o dX6_in_2 (by decide) (fun c2 => ?_) (fun c2 => ?_)
  · refine v_iconst 0 o dX6_in_14 rfl ?_
    exact v_zret o dX6_in_15 hr (by decide) (Nat.le_of_ble_eq_true rfl) (Nat.le_of_ble_eq_true rfl) ⟨by rw [inR_lo c2]; rfl, rfl, rfl⟩
  · refine v_iload_n 0 o dX6_in_5 rfl rfl ?_
    refine v_iload_n 2 o dX6_in_6 rfl rfl ?_
    refine v_icmp_gt 14 o dX6_in_7 (by decide) (fun c7 => ?_) (fun c7 => ?_)
    · refine v_iconst 0 o dX6_in_14 rfl ?_
      exact v_zret o dX6_in_15 hr (by decide) (Nat.le_of_ble_eq_true rfl) (Nat.le_of_ble_eq_true rfl) ⟨by rw [inR_hi c7]; rfl, rfl, rfl⟩
    · refine v_iconst 1 o dX6_in_10 rfl ?_
      refine v_goto 15 o dX6_in_11 (by decide) ?_
      exact v_zret o dX6_in_15 hr (by decide) (Nat.le_of_ble_eq_true rfl) (Nat.le_of_ble_eq_true rfl) ⟨by rw [inR_ok c2 c7]; rfl, rfl, rfl⟩

set_option maxRecDepth 100000 in
set_option maxHeartbeats 4000000 in
theorem m_isBook {l : Launch} (hl : l.stackTraces = false) {g : mG} {m z : Nat} {μ0 μ : mM} {σ : Sg} (hR : RM g m μ0 σ μ) (b : Int32) : Ct l g yX6_isBook [Cond.code yX6_isBook cX6_isBook 2 (some .boolean)] { frames := 1, cells := 0, slots := 0, locals := 22 } [.ref m, .int b] μ z (rdP (some (.int (bI (isB σ b)))) μ z) noX := by
  refine Ct.of hl (by decide +kernel) (Nat.le_of_ble_eq_true rfl) ?_
  intro p e s mi args below meth c o hnm hr hx
  have o : Ok p l s mi args meth c g cX6_isBook 2 RX6 := o
  refine v_lv [(0, .ref m), (1, .int b)] rfl ?_
  refine v_iload_n 1 o dX6_isBook_0 rfl rfl ?_
  refine v_iconst 0 o dX6_isBook_1 rfl ?_
  refine v_aload_n 0 o dX6_isBook_2 rfl rfl ?_
  refine v_get o dX6_isBook_3 cf6 1 (by decide) fl_X6_94 hR.o rfl ?_
  refine v_iconst 1 o dX6_isBook_6 rfl ?_
  refine v_isub (mI (σ.1 3 0)) o dX6_isBook_7 rfl ?_
  refine v_callSr [.int b, .int (nI 0), .int (mI (σ.1 3 0))] [] o dX6_isBook_8 cw_X6_97 st_X6_in (m_in hl hR b (nI 0) (mI (σ.1 3 0))) rfl rfl (by decide) ⟨rfl, rfl⟩ (by decide) (Nat.le_of_ble_eq_true rfl) ?_
  exact v_zret o dX6_isBook_11 hr (narrow_bI _) (Nat.le_of_ble_eq_true rfl) (Nat.le_of_ble_eq_true rfl) ⟨rfl, rfl, rfl⟩

set_option maxRecDepth 100000 in
set_option maxHeartbeats 4000000 in
theorem m_isPage {l : Launch} (hl : l.stackTraces = false) {g : mG} {m z : Nat} {μ0 μ : mM} {σ : Sg} (hR : RM g m μ0 σ μ) (hI : Inv σ) (b q : Int32) : Ct l g yX6_isPage [Cond.code yX6_isPage cX6_isPage 3 (some .boolean)] { frames := 2, cells := 0, slots := 0, locals := 43 } [.ref m, .int b, .int q] μ z (rdP (some (.int (bI (isP σ b q)))) μ z) noX := by
  refine Ct.of hl (by decide +kernel) (Nat.le_of_ble_eq_true rfl) ?_
  intro p e s mi args below meth c o hnm hr hx
  have o : Ok p l s mi args meth c g cX6_isPage 3 RX6 := o
  refine v_lv [(0, .ref m), (1, .int b), (2, .int q)] rfl ?_
  refine v_aload_n 0 o dX6_isPage_0 rfl rfl ?_
  refine v_iload_n 1 o dX6_isPage_1 rfl rfl ?_
  refine v_callVr [.int b] [] o dX6_isPage_2 cw_X6_101 im_X6_isBook se_X6_isBook cf6 hR.o (m_isBook hl hR b) rfl rfl (by decide) ⟨rfl, rfl⟩ (by decide) (Nat.le_of_ble_eq_true rfl) ?_
  refine v_if_eq_b 28 o dX6_isPage_5 (by decide) (fun c5 => ?_) (fun c5 => ?_)
  · refine v_iconst 0 o dX6_isPage_28 rfl ?_
    exact v_zret o dX6_isPage_29 hr (by decide) (Nat.le_of_ble_eq_true rfl) (Nat.le_of_ble_eq_true rfl) ⟨by rw [isP_f c5]; rfl, rfl, rfl⟩
  · obtain ⟨i, hi, rfl⟩ := isB_t hI c5
    have h6 := hI.1
    have e9 : isP σ (nI i) q = inR q (nI 0) (mI (σ.1 0 i)) := by unfold isP; rw [c5, tn_nI (by omega)]; rfl
    refine v_iload_n 2 o dX6_isPage_8 rfl rfl ?_
    refine v_iconst 0 o dX6_isPage_9 rfl ?_
    refine v_aload_n 0 o dX6_isPage_10 rfl rfl ?_
    refine v_get o dX6_isPage_11 cf6 2 (by decide) fl_X6_7 hR.o rfl ?_
    refine v_iload_n 1 o dX6_isPage_14 rfl rfl ?_
    refine v_iald (nI (σ.1 0 i)) o dX6_isPage_15 (by omega) (by decide) hR.a1 rfl ?_
    refine v_iconst 1 o dX6_isPage_16 rfl ?_
    refine v_isub (mI (σ.1 0 i)) o dX6_isPage_17 rfl ?_
    refine v_callSr [.int q, .int (nI 0), .int (mI (σ.1 0 i))] [] o dX6_isPage_18 cw_X6_97 st_X6_in (m_in hl hR q (nI 0) (mI (σ.1 0 i))) rfl rfl (by decide) ⟨rfl, rfl⟩ (by decide) (Nat.le_of_ble_eq_true rfl) ?_
    refine v_if_eq_b 28 o dX6_isPage_21 (by decide) (fun c21 => ?_) (fun c21 => ?_)
    · refine v_iconst 0 o dX6_isPage_28 rfl ?_
      exact v_zret o dX6_isPage_29 hr (by decide) (Nat.le_of_ble_eq_true rfl) (Nat.le_of_ble_eq_true rfl) ⟨by rw [e9, c21]; rfl, rfl, rfl⟩
    · refine v_iconst 1 o dX6_isPage_24 rfl ?_
      refine v_goto 29 o dX6_isPage_25 (by decide) ?_
      exact v_zret o dX6_isPage_29 hr (by decide) (Nat.le_of_ble_eq_true rfl) (Nat.le_of_ble_eq_true rfl) ⟨by rw [e9, c21]; rfl, rfl, rfl⟩

set_option maxRecDepth 100000 in
set_option maxHeartbeats 4000000 in
theorem m_isVault {l : Launch} (hl : l.stackTraces = false) {g : mG} {m z : Nat} {μ0 μ : mM} {σ : Sg} (hR : RM g m μ0 σ μ) (v : Int32) : Ct l g yX6_isVault [Cond.code yX6_isVault cX6_isVault 1 (some .boolean)] { frames := 1, cells := 0, slots := 0, locals := 22 } [.int v] μ z (rdP (some (.int (bI (isV v)))) μ z) noX := by
  refine Ct.of hl (by decide +kernel) (Nat.le_of_ble_eq_true rfl) ?_
  intro p e s mi args below meth c o hnm hr hx
  have o : Ok p l s mi args meth c g cX6_isVault 1 RX6 := o
  refine v_lv [(0, .int v)] rfl ?_
  refine v_iload_n 0 o dX6_isVault_0 rfl rfl ?_
  refine v_iconst 0 o dX6_isVault_1 rfl ?_
  refine v_iconst 3 o dX6_isVault_2 rfl ?_
  refine v_callSr [.int v, .int (nI 0), .int (nI 3)] [] o dX6_isVault_3 cw_X6_97 st_X6_in (m_in hl hR v (nI 0) (nI 3)) rfl rfl (by decide) ⟨rfl, rfl⟩ (by decide) (Nat.le_of_ble_eq_true rfl) ?_
  exact v_zret o dX6_isVault_6 hr (narrow_bI _) (Nat.le_of_ble_eq_true rfl) (Nat.le_of_ble_eq_true rfl) ⟨rfl, rfl, rfl⟩

set_option maxRecDepth 100000 in
set_option maxHeartbeats 4000000 in
theorem m_isPlace {l : Launch} (hl : l.stackTraces = false) {g : mG} {m z : Nat} {μ0 μ : mM} {σ : Sg} (hR : RM g m μ0 σ μ) (hI : Inv σ) (b q a : Int32) : Ct l g yX6_isPlace [Cond.code yX6_isPlace cX6_isPlace 4 (some .boolean)] { frames := 3, cells := 0, slots := 0, locals := 65 } [.ref m, .int b, .int q, .int a] μ z (rdP (some (.int (bI (isL σ b q a)))) μ z) noX := by
  refine Ct.of hl (by decide +kernel) (Nat.le_of_ble_eq_true rfl) ?_
  intro p e s mi args below meth c o hnm hr hx
  have o : Ok p l s mi args meth c g cX6_isPlace 4 RX6 := o
  refine v_lv [(0, .ref m), (1, .int b), (2, .int q), (3, .int a)] rfl ?_
  refine v_aload_n 0 o dX6_isPlace_0 rfl rfl ?_
  refine v_iload_n 1 o dX6_isPlace_1 rfl rfl ?_
  refine v_iload_n 2 o dX6_isPlace_2 rfl rfl ?_
  refine v_callVr [.int b, .int q] [] o dX6_isPlace_3 cw_X6_105 im_X6_isPage se_X6_isPage cf6 hR.o (m_isPage hl hR hI b q) rfl rfl (by decide) ⟨rfl, rfl⟩ (by decide) (Nat.le_of_ble_eq_true rfl) ?_
  refine v_if_eq_b 22 o dX6_isPlace_6 (by decide) (fun c6 => ?_) (fun c6 => ?_)
  · refine v_iconst 0 o dX6_isPlace_22 rfl ?_
    exact v_zret o dX6_isPlace_23 hr (by decide) (Nat.le_of_ble_eq_true rfl) (Nat.le_of_ble_eq_true rfl) ⟨by rw [(show isL σ b q a = false by unfold isL; rw [c6]; rfl)]; rfl, rfl, rfl⟩
  · refine v_iload_n 3 o dX6_isPlace_9 rfl rfl ?_
    refine v_iconst 0 o dX6_isPlace_10 rfl ?_
    refine v_iconst 3 o dX6_isPlace_11 rfl ?_
    refine v_callSr [.int a, .int (nI 0), .int (nI 3)] [] o dX6_isPlace_12 cw_X6_97 st_X6_in (m_in hl hR a (nI 0) (nI 3)) rfl rfl (by decide) ⟨rfl, rfl⟩ (by decide) (Nat.le_of_ble_eq_true rfl) ?_
    refine v_if_eq_b 22 o dX6_isPlace_15 (by decide) (fun c15 => ?_) (fun c15 => ?_)
    · refine v_iconst 0 o dX6_isPlace_22 rfl ?_
      exact v_zret o dX6_isPlace_23 hr (by decide) (Nat.le_of_ble_eq_true rfl) (Nat.le_of_ble_eq_true rfl) ⟨by rw [(show isL σ b q a = false by unfold isL; rw [c6, c15]; rfl)]; rfl, rfl, rfl⟩
    · refine v_iconst 1 o dX6_isPlace_18 rfl ?_
      refine v_goto 23 o dX6_isPlace_19 (by decide) ?_
      exact v_zret o dX6_isPlace_23 hr (by decide) (Nat.le_of_ble_eq_true rfl) (Nat.le_of_ble_eq_true rfl) ⟨by rw [(show isL σ b q a = true by unfold isL; rw [c6, c15]; rfl)]; rfl, rfl, rfl⟩

def prf (x : Int64) : Int64 := x * 6364136223846793005 + 1442695040888963407
set_option maxRecDepth 100000 in
set_option maxHeartbeats 4000000 in
theorem m_proof {l : Launch} (hl : l.stackTraces = false) {g : mG} {m z : Nat} {μ0 μ : mM} {σ : Sg} (hR : RM g m μ0 σ μ) (x : Int64) : Ct l g yX6_proof [Cond.code yX6_proof cX6_proof 2 (some .long)] { frames := 0, cells := 0, slots := 0, locals := 0 } [.long x] μ z (rdP (some (.long (prf x))) μ z) noX := by
  refine Ct.of hl (by decide +kernel) (Nat.le_of_ble_eq_true rfl) ?_
  intro p e s mi args below meth c o hnm hr hx
  have o : Ok p l s mi args meth c g cX6_proof 2 RX6 := o
  refine v_lv [(0, .long x)] rfl ?_
  refine v_lload_n 0 o dX6_proof_0 rfl rfl ?_
  refine v_ldc2 (6364136223846793005) o dX6_proof_1 ct_X6_119 ?_
  refine v_lmul (x * 6364136223846793005) o dX6_proof_4 rfl ?_
  refine v_ldc2 (1442695040888963407) o dX6_proof_5 ct_X6_121 ?_
  refine v_ladd ((x * 6364136223846793005) + 1442695040888963407) o dX6_proof_8 rfl ?_
  exact v_lret o dX6_proof_9 hr (Nat.le_of_ble_eq_true rfl) (Nat.le_of_ble_eq_true rfl) ⟨rfl, rfl, rfl⟩

set_option maxRecDepth 100000 in
set_option maxHeartbeats 4000000 in
theorem m_spot {l : Launch} (hl : l.stackTraces = false) {g : mG} {m z : Nat} {μ0 μ : mM} {σ : Sg} (hR : RM g m μ0 σ μ) (b q a : Nat) : Ct l g yX6_spot [Cond.code yX6_spot cX6_spot 3 (some .int)] { frames := 0, cells := 0, slots := 0, locals := 0 } [.int (nI b), .int (nI q), .int (nI a)] μ z (rdP (some (.int (nI (4 * (12 * b + q) + a)))) μ z) noX := by
  refine Ct.of hl (by decide +kernel) (Nat.le_of_ble_eq_true rfl) ?_
  intro p e s mi args below meth c o hnm hr hx
  have o : Ok p l s mi args meth c g cX6_spot 3 RX6 := o
  refine v_lv [(0, .int (nI b)), (1, .int (nI q)), (2, .int (nI a))] rfl ?_
  refine v_iconst 4 o dX6_spot_0 rfl ?_
  refine v_bipush 12 o dX6_spot_1 (by decide) ?_
  refine v_iload_n 0 o dX6_spot_3 rfl rfl ?_
  refine v_imul (nI (12 * b)) o dX6_spot_4 (pk_mul 12 b) ?_
  refine v_iload_n 1 o dX6_spot_5 rfl rfl ?_
  refine v_iadd (nI (12 * b + q)) o dX6_spot_6 (nI_add (12 * b) q) ?_
  refine v_imul (nI (4 * (12 * b + q))) o dX6_spot_7 (pk_mul 4 (12 * b + q)) ?_
  refine v_iload_n 2 o dX6_spot_8 rfl rfl ?_
  refine v_iadd (nI (4 * (12 * b + q) + a)) o dX6_spot_9 (nI_add (4 * (12 * b + q)) a) ?_
  exact v_iret o dX6_spot_10 hr (Nat.le_of_ble_eq_true rfl) (Nat.le_of_ble_eq_true rfl) ⟨rfl, rfl, rfl⟩
end
section
theorem lg_cmp_0 {x y : Int64} : lg_cmp x y = 0 ↔ x = y := by
  unfold lg_cmp
  constructor
  · intro h
    split at h
    · cases h
    · split at h
      · assumption
      · cases h
  · rintro rfl
    simp
section MKC
variable {p : Program} {l : Launch} {e : Env} {R : Room} {s : State} {m : MethodId} {args : Array Value} {below : List Frame} {meth : Method} {c : Code} {Q : State → Prop} {g : mG} {μ : mM} {z k n pc : Nat} {lv : List (Nat × Value)} {st : List Value} {cc : ByteArray} {nL : Nat} {own : String}
theorem v_if_ne_c {x y : Int64} {off : Int} (tgt : Nat) (o : Ok p l s m args meth c g cc nL own) (d : decode cc pc = .ok (.ifCond .ne off, 3)) (ht : (pc : Int) + off = (tgt : Int)) (kt : ¬ x = y → V p l e R s m args below meth c Q g μ z k n tgt lv st) (kf : x = y → V p l e R s m args below meth c Q g μ z k n (pc + 3) lv st) : V p l e R s m args below meth c Q g μ z k n pc lv (.int (lg_cmp x y) :: st) := v_if_ne tgt o d ht (fun q => kt (fun h => q (lg_cmp_0.mpr h))) (fun q => kf (lg_cmp_0.mp q))
theorem v_if_eq_c {x y : Int64} {off : Int} (tgt : Nat) (o : Ok p l s m args meth c g cc nL own) (d : decode cc pc = .ok (.ifCond .eq off, 3)) (ht : (pc : Int) + off = (tgt : Int)) (kt : x = y → V p l e R s m args below meth c Q g μ z k n tgt lv st) (kf : ¬ x = y → V p l e R s m args below meth c Q g μ z k n (pc + 3) lv st) : V p l e R s m args below meth c Q g μ z k n pc lv (.int (lg_cmp x y) :: st) := v_if_eq tgt o d ht (fun q => kt (lg_cmp_0.mp q)) (fun q => kf (fun h => q (lg_cmp_0.mpr h)))
end MKC
theorem cnt_t {f : Nat → Bool} {n : Nat} (h : f n = true) : cnt f (n + 1) = cnt f n + 1 := by
  show cnt f n + (if f n then 1 else 0) = _
  rw [if_pos h]
theorem cnt_f {f : Nat → Bool} {n : Nat} (h : f n = false) : cnt f (n + 1) = cnt f n := by
  show cnt f n + (if f n then 1 else 0) = _
  rw [h]
  rfl
/-- the lowest of r from d on that is so, and 1; 0 if none is -/
def low (f : Nat → Bool) : Nat → Nat → Nat
  | 0, _ => 0
  | r + 1, d => if f d then d + 1 else low f r (d + 1)
theorem low_t {f : Nat → Bool} {r d : Nat} (h : f d = true) : mI (low f (r + 1) d) = nI d := by
  show mI (if f d then d + 1 else _) = _
  rw [if_pos h, mI_s]
theorem low_f {f : Nat → Bool} {r d : Nat} (h : f d = false) : low f (r + 1) d = low f r (d + 1) := by
  show (if f d then d + 1 else _) = _
  rw [h]
  rfl
theorem low_le {f : Nat → Bool} : ∀ r d, low f r d ≤ d + r
  | 0, d => Nat.zero_le _
  | r + 1, d => by
    unfold low
    split
    · omega
    · have := low_le (f := f) r (d + 1)
      omega
def hb (σ : Sg) (v a : Nat) : Bool := σ.2.1 5 (72 * v + a) && σ.2.1 2 a && decide (prf (σ.2.2.2 1 (72 * v + a)) = prf (σ.2.2.2 0 a))
def lowest (σ : Sg) (a : Nat) : Nat := low (fun v => hb σ v a) 4 0
def lostB (σ : Sg) (a : Nat) : Bool := σ.2.1 2 a && decide (lowest σ a = 0)
set_option maxRecDepth 100000 in
set_option maxHeartbeats 4000000 in
theorem m_shots {l : Launch} (hl : l.stackTraces = false) {g : mG} {m z : Nat} {μ0 μ : mM} {σ : Sg} (hR : RM g m μ0 σ μ) (hI : Inv σ) (i : Nat) (hi : i < 6) : Ct l g yX6_shots [Cond.code yX6_shots cX6_shots 4 (some .int)] { frames := 0, cells := 0, slots := 0, locals := 0 } [.ref m, .int (nI i)] μ z (rdP (some (.int (nI (cnt (fun q => σ.2.1 2 (12 * i + q)) (σ.1 0 i))))) μ z) noX := by
  refine Ct.of hl (by decide +kernel) (Nat.le_of_ble_eq_true rfl) ?_
  intro p e s mi args below meth c o hnm hr hx
  have o : Ok p l s mi args meth c g cX6_shots 4 RX6 := o
  refine v_lv [(0, .ref m), (1, .int (nI i))] rfl ?_
  have h12 := hI.2.1 i
  have L : ∀ d j, j + d = σ.1 0 i → V p l e { frames := 0, cells := 0, slots := 0, locals := 0 } s mi args below meth c (vx_MQ below (cQc g (rdP (some (.int (nI (cnt (fun q => σ.2.1 2 (12 * i + q)) (σ.1 0 i))))) μ z)) (cXC g noX) args s ({ frames := 0, cells := 0, slots := 0, locals := 0 } : Room).cells ({ frames := 0, cells := 0, slots := 0, locals := 0 } : Room).slots (gA g)) g μ z 0 0 4 [(0, .ref m), (1, .int (nI i)), (2, .int (nI (cnt (fun q => σ.2.1 2 (12 * i + q)) j))), (3, .int (nI j))] [] := by
    intro d
    induction d with
    | zero =>
      intro j hj
      refine v_iload_n 3 o dX6_shots_4 rfl rfl ?_
      refine v_aload_n 0 o dX6_shots_5 rfl rfl ?_
      refine v_get o dX6_shots_6 cf6 2 (by decide) fl_X6_7 hR.o rfl ?_
      refine v_iload_n 1 o dX6_shots_9 rfl rfl ?_
      refine v_iald (nI (σ.1 0 i)) o dX6_shots_10 (by omega) (by decide) hR.a1 rfl ?_
      refine v_icmp_ge_n 42 o dX6_shots_11 (by decide) (by omega) (by omega) (fun c11 => ?_) (fun c11 => absurd c11 (by omega))
      refine v_iload_n 2 o dX6_shots_42 rfl rfl ?_
      exact v_iret o dX6_shots_43 hr (Nat.le_of_ble_eq_true rfl) (Nat.le_of_ble_eq_true rfl) ⟨by rw [show σ.1 0 i = j by omega], rfl, rfl⟩
    | succ d ih =>
      intro j hj
      refine v_iload_n 3 o dX6_shots_4 rfl rfl ?_
      refine v_aload_n 0 o dX6_shots_5 rfl rfl ?_
      refine v_get o dX6_shots_6 cf6 2 (by decide) fl_X6_7 hR.o rfl ?_
      refine v_iload_n 1 o dX6_shots_9 rfl rfl ?_
      refine v_iald (nI (σ.1 0 i)) o dX6_shots_10 (by omega) (by decide) hR.a1 rfl ?_
      refine v_icmp_ge_n 42 o dX6_shots_11 (by decide) (by omega) (by omega) (fun c11 => absurd c11 (by omega)) (fun c11 => ?_)
      refine v_iload_n 2 o dX6_shots_14 rfl rfl ?_
      refine v_aload_n 0 o dX6_shots_15 rfl rfl ?_
      refine v_get o dX6_shots_16 cf6 11 (by decide) fl_X6_35 hR.o rfl ?_
      refine v_bipush 12 o dX6_shots_19 (by decide) ?_
      refine v_iload_n 1 o dX6_shots_21 rfl rfl ?_
      refine v_imul (nI (12 * i)) o dX6_shots_22 (pk_mul 12 i) ?_
      refine v_iload_n 3 o dX6_shots_23 rfl rfl ?_
      refine v_iadd (nI (12 * i + j)) o dX6_shots_24 (nI_add (12 * i) j) ?_
      refine v_zald (bI (σ.2.1 2 (12 * i + j))) o dX6_shots_25 (by omega) (by decide) hR.a9 rfl ?_
      refine v_if_eq_b 33 o dX6_shots_26 (by decide) (fun c26 => ?_) (fun c26 => ?_)
      · refine v_iconst 0 o dX6_shots_33 rfl ?_
        refine v_iadd (nI (cnt (fun q => σ.2.1 2 (12 * i + q)) j)) o dX6_shots_34 (nI_add (cnt (fun q => σ.2.1 2 (12 * i + q)) j) 0) ?_
        refine v_istore_n [(2, .int (nI (cnt (fun q => σ.2.1 2 (12 * i + q)) j))), (0, .ref m), (1, .int (nI i)), (3, .int (nI j))] o dX6_shots_35 rfl (by decide) rfl ?_
        refine v_iinc (nI (j + 1)) [(3, .int (nI (j + 1))), (2, .int (nI (cnt (fun q => σ.2.1 2 (12 * i + q)) j))), (0, .ref m), (1, .int (nI i))] o dX6_shots_36 3 rfl (iinc_n j 1) (by decide) rfl ?_
        refine v_goto 4 o dX6_shots_39 (by decide) ?_
        refine v_sub [(0, .ref m), (1, .int (nI i)), (2, .int (nI (cnt (fun q => σ.2.1 2 (12 * i + q)) j))), (3, .int (nI (j + 1)))] [2, 3, 1, 0] rfl ?_
        refine v_lv [(0, .ref m), (1, .int (nI i)), (2, .int (nI (cnt (fun q => σ.2.1 2 (12 * i + q)) (j + 1)))), (3, .int (nI (j + 1)))] (by rw [cnt_f (f := (fun q => σ.2.1 2 (12 * i + q))) c26]) ?_
        exact ih (j + 1) (by omega)
      · refine v_iconst 1 o dX6_shots_29 rfl ?_
        refine v_goto 34 o dX6_shots_30 (by decide) ?_
        refine v_iadd (nI ((cnt (fun q => σ.2.1 2 (12 * i + q)) j) + 1)) o dX6_shots_34 (nI_add (cnt (fun q => σ.2.1 2 (12 * i + q)) j) 1) ?_
        refine v_istore_n [(2, .int (nI ((cnt (fun q => σ.2.1 2 (12 * i + q)) j) + 1))), (0, .ref m), (1, .int (nI i)), (3, .int (nI j))] o dX6_shots_35 rfl (by decide) rfl ?_
        refine v_iinc (nI (j + 1)) [(3, .int (nI (j + 1))), (2, .int (nI ((cnt (fun q => σ.2.1 2 (12 * i + q)) j) + 1))), (0, .ref m), (1, .int (nI i))] o dX6_shots_36 3 rfl (iinc_n j 1) (by decide) rfl ?_
        refine v_goto 4 o dX6_shots_39 (by decide) ?_
        refine v_sub [(0, .ref m), (1, .int (nI i)), (2, .int (nI ((cnt (fun q => σ.2.1 2 (12 * i + q)) j) + 1))), (3, .int (nI (j + 1)))] [2, 3, 1, 0] rfl ?_
        refine v_lv [(0, .ref m), (1, .int (nI i)), (2, .int (nI (cnt (fun q => σ.2.1 2 (12 * i + q)) (j + 1)))), (3, .int (nI (j + 1)))] (by rw [cnt_t (f := (fun q => σ.2.1 2 (12 * i + q))) c26]) ?_
        exact ih (j + 1) (by omega)
  refine v_iconst 0 o dX6_shots_0 rfl ?_
  refine v_istore_n [(2, .int (nI 0)), (0, .ref m), (1, .int (nI i))] o dX6_shots_1 rfl (by decide) rfl ?_
  refine v_iconst 0 o dX6_shots_2 rfl ?_
  refine v_istore_n [(3, .int (nI 0)), (2, .int (nI 0)), (0, .ref m), (1, .int (nI i))] o dX6_shots_3 rfl (by decide) rfl ?_
  refine v_sub [(0, .ref m), (1, .int (nI i)), (2, .int (nI 0)), (3, .int (nI 0))] [2, 3, 1, 0] rfl ?_
  refine v_lv [(0, .ref m), (1, .int (nI i)), (2, .int (nI (cnt (fun q => σ.2.1 2 (12 * i + q)) 0))), (3, .int (nI 0))] rfl ?_
  exact L (σ.1 0 i) 0 (by omega)

set_option maxRecDepth 100000 in
set_option maxHeartbeats 4000000 in
theorem m_holds {l : Launch} (hl : l.stackTraces = false) {g : mG} {m z : Nat} {μ0 μ : mM} {σ : Sg} (hR : RM g m μ0 σ μ) (v a : Nat) (hv : v < 4) (ha : a < 72) : Ct l g yX6_holds [Cond.code yX6_holds cX6_holds 3 (some .boolean)] { frames := 1, cells := 0, slots := 0, locals := 21 } [.ref m, .int (nI v), .int (nI a)] μ z (rdP (some (.int (bI (hb σ v a)))) μ z) noX := by
  refine Ct.of hl (by decide +kernel) (Nat.le_of_ble_eq_true rfl) ?_
  intro p e s mi args below meth c o hnm hr hx
  have o : Ok p l s mi args meth c g cX6_holds 3 RX6 := o
  refine v_lv [(0, .ref m), (1, .int (nI v)), (2, .int (nI a))] rfl ?_
  refine v_aload_n 0 o dX6_holds_0 rfl rfl ?_
  refine v_get o dX6_holds_1 cf6 17 (by decide) fl_X6_54 hR.o rfl ?_
  refine v_bipush 72 o dX6_holds_4 (by decide) ?_
  refine v_iload_n 1 o dX6_holds_6 rfl rfl ?_
  refine v_imul (nI (72 * v)) o dX6_holds_7 (pk_mul 72 v) ?_
  refine v_iload_n 2 o dX6_holds_8 rfl rfl ?_
  refine v_iadd (nI (72 * v + a)) o dX6_holds_9 (nI_add (72 * v) a) ?_
  refine v_zald (bI (σ.2.1 5 (72 * v + a))) o dX6_holds_10 (by omega) (by decide) hR.a15 rfl ?_
  refine v_if_eq_b 54 o dX6_holds_11 (by decide) (fun c11 => ?_) (fun c11 => ?_)
  · refine v_iconst 0 o dX6_holds_54 rfl ?_
    exact v_zret o dX6_holds_55 hr (by decide) (Nat.le_of_ble_eq_true rfl) (Nat.le_of_ble_eq_true rfl) ⟨by rw [show hb σ v a = false by simp [hb, c11]]; rfl, rfl, rfl⟩
  · refine v_aload_n 0 o dX6_holds_14 rfl rfl ?_
    refine v_get o dX6_holds_15 cf6 11 (by decide) fl_X6_35 hR.o rfl ?_
    refine v_iload_n 2 o dX6_holds_18 rfl rfl ?_
    refine v_zald (bI (σ.2.1 2 a)) o dX6_holds_19 (by omega) (by decide) hR.a9 rfl ?_
    refine v_if_eq_b 54 o dX6_holds_20 (by decide) (fun c20 => ?_) (fun c20 => ?_)
    · refine v_iconst 0 o dX6_holds_54 rfl ?_
      exact v_zret o dX6_holds_55 hr (by decide) (Nat.le_of_ble_eq_true rfl) (Nat.le_of_ble_eq_true rfl) ⟨by rw [show hb σ v a = false by simp [hb, c11, c20]]; rfl, rfl, rfl⟩
    · refine v_aload_n 0 o dX6_holds_23 rfl rfl ?_
      refine v_get o dX6_holds_24 cf6 18 (by decide) fl_X6_57 hR.o rfl ?_
      refine v_bipush 72 o dX6_holds_27 (by decide) ?_
      refine v_iload_n 1 o dX6_holds_29 rfl rfl ?_
      refine v_imul (nI (72 * v)) o dX6_holds_30 (pk_mul 72 v) ?_
      refine v_iload_n 2 o dX6_holds_31 rfl rfl ?_
      refine v_iadd (nI (72 * v + a)) o dX6_holds_32 (nI_add (72 * v) a) ?_
      refine v_lald (σ.2.2.2 1 (72 * v + a)) o dX6_holds_33 (by omega) (by decide) hR.a16 rfl ?_
      refine v_callSr [.long (σ.2.2.2 1 (72 * v + a))] [] o dX6_holds_34 cw_X6_123 st_X6_proof (m_proof hl hR (σ.2.2.2 1 (72 * v + a))) rfl rfl (by decide) ⟨rfl, rfl⟩ (by decide) (Nat.le_of_ble_eq_true rfl) ?_
      refine v_aload_n 0 o dX6_holds_37 rfl rfl ?_
      refine v_get o dX6_holds_38 cf6 14 (by decide) fl_X6_44 hR.o rfl ?_
      refine v_iload_n 2 o dX6_holds_41 rfl rfl ?_
      refine v_lald (σ.2.2.2 0 a) o dX6_holds_42 (by omega) (by decide) hR.a12 rfl ?_
      refine v_callSr [.long (σ.2.2.2 0 a)] [.long (prf (σ.2.2.2 1 (72 * v + a)))] o dX6_holds_43 cw_X6_123 st_X6_proof (m_proof hl hR (σ.2.2.2 0 a)) rfl rfl (by decide) ⟨rfl, rfl⟩ (by decide) (Nat.le_of_ble_eq_true rfl) ?_
      refine v_lcmp o dX6_holds_46 ?_
      refine v_if_ne_c 54 o dX6_holds_47 (by decide) (fun c47 => ?_) (fun c47 => ?_)
      · refine v_iconst 0 o dX6_holds_54 rfl ?_
        exact v_zret o dX6_holds_55 hr (by decide) (Nat.le_of_ble_eq_true rfl) (Nat.le_of_ble_eq_true rfl) ⟨by rw [show hb σ v a = false by simp [hb, c11, c20, c47]]; rfl, rfl, rfl⟩
      · refine v_iconst 1 o dX6_holds_50 rfl ?_
        refine v_goto 55 o dX6_holds_51 (by decide) ?_
        exact v_zret o dX6_holds_55 hr (by decide) (Nat.le_of_ble_eq_true rfl) (Nat.le_of_ble_eq_true rfl) ⟨by rw [show hb σ v a = true by simp [hb, c11, c20, c47]]; rfl, rfl, rfl⟩

set_option maxRecDepth 100000 in
set_option maxHeartbeats 4000000 in
theorem m_holder {l : Launch} (hl : l.stackTraces = false) {g : mG} {m z : Nat} {μ0 μ : mM} {σ : Sg} (hR : RM g m μ0 σ μ) (a : Nat) (ha : a < 72) : Ct l g yX6_holder [Cond.code yX6_holder cX6_holder 4 (some .int)] { frames := 2, cells := 0, slots := 0, locals := 43 } [.ref m, .int (nI a)] μ z (rdP (some (.int (mI (lowest σ a)))) μ z) noX := by
  refine Ct.of hl (by decide +kernel) (Nat.le_of_ble_eq_true rfl) ?_
  intro p e s mi args below meth c o hnm hr hx
  have o : Ok p l s mi args meth c g cX6_holder 4 RX6 := o
  refine v_lv [(0, .ref m), (1, .int (nI a))] rfl ?_
  have L0 : V p l e { frames := 2, cells := 0, slots := 0, locals := 43 } s mi args below meth c (vx_MQ below (cQc g (rdP (some (.int (mI (lowest σ a)))) μ z)) (cXC g noX) args s ({ frames := 2, cells := 0, slots := 0, locals := 43 } : Room).cells ({ frames := 2, cells := 0, slots := 0, locals := 43 } : Room).slots (gA g)) g μ z 0 0 4 [(0, .ref m), (1, .int (nI a)), (2, .int (mI (low (fun v => hb σ v a) 4 0))), (3, .int (-1))] [] := by
    refine v_iload_n 3 o dX6_holder_4 rfl rfl ?_
    refine v_if_lt 29 o dX6_holder_5 (by decide) (fun c5 => ?_) (fun c5 => absurd c5 (by decide))
    refine v_iload_n 2 o dX6_holder_29 rfl rfl ?_
    exact v_iret o dX6_holder_30 hr (Nat.le_of_ble_eq_true rfl) (Nat.le_of_ble_eq_true rfl) ⟨rfl, rfl, rfl⟩
  have L1 : V p l e { frames := 2, cells := 0, slots := 0, locals := 43 } s mi args below meth c (vx_MQ below (cQc g (rdP (some (.int (mI (lowest σ a)))) μ z)) (cXC g noX) args s ({ frames := 2, cells := 0, slots := 0, locals := 43 } : Room).cells ({ frames := 2, cells := 0, slots := 0, locals := 43 } : Room).slots (gA g)) g μ z 0 0 4 [(0, .ref m), (1, .int (nI a)), (2, .int (mI (low (fun v => hb σ v a) 3 1))), (3, .int (nI 0))] [] := by
    refine v_iload_n 3 o dX6_holder_4 rfl rfl ?_
    refine v_if_lt_n 29 o dX6_holder_5 (by decide) (by decide) (fun c5 => absurd c5 (by omega)) (fun c5 => ?_)
    refine v_aload_n 0 o dX6_holder_8 rfl rfl ?_
    refine v_iload_n 3 o dX6_holder_9 rfl rfl ?_
    refine v_iload_n 1 o dX6_holder_10 rfl rfl ?_
    refine v_callVr [.int (nI 0), .int (nI a)] [] o dX6_holder_11 cw_X6_127 im_X6_holds se_X6_holds cf6 hR.o (m_holds hl hR 0 a (by omega) (by omega)) rfl rfl (by decide) ⟨rfl, rfl⟩ (by decide) (Nat.le_of_ble_eq_true rfl) ?_
    refine v_if_eq_b 21 o dX6_holder_14 (by decide) (fun c14 => ?_) (fun c14 => ?_)
    · refine v_iload_n 2 o dX6_holder_21 rfl rfl ?_
      refine v_istore_n [(2, .int (mI (low (fun v => hb σ v a) 3 1))), (0, .ref m), (1, .int (nI a)), (3, .int (nI 0))] o dX6_holder_22 rfl (by decide) rfl ?_
      refine v_iinc ((-1)) [(3, .int (-1)), (2, .int (mI (low (fun v => hb σ v a) 3 1))), (0, .ref m), (1, .int (nI a))] o dX6_holder_23 3 rfl (by decide) (by decide) rfl ?_
      refine v_goto 4 o dX6_holder_26 (by decide) ?_
      refine v_sub [(0, .ref m), (1, .int (nI a)), (2, .int (mI (low (fun v => hb σ v a) 3 1))), (3, .int (-1))] [2, 3, 1, 0] rfl ?_
      refine v_lv [(0, .ref m), (1, .int (nI a)), (2, .int (mI (low (fun v => hb σ v a) 4 0))), (3, .int (-1))] (by rw [low_f (f := (fun v => hb σ v a)) (r := 3) (d := 0) c14]) ?_
      exact L0
    · refine v_iload_n 3 o dX6_holder_17 rfl rfl ?_
      refine v_goto 22 o dX6_holder_18 (by decide) ?_
      refine v_istore_n [(2, .int (nI 0)), (0, .ref m), (1, .int (nI a)), (3, .int (nI 0))] o dX6_holder_22 rfl (by decide) rfl ?_
      refine v_iinc ((-1)) [(3, .int (-1)), (2, .int (nI 0)), (0, .ref m), (1, .int (nI a))] o dX6_holder_23 3 rfl (by decide) (by decide) rfl ?_
      refine v_goto 4 o dX6_holder_26 (by decide) ?_
      refine v_sub [(0, .ref m), (1, .int (nI a)), (2, .int (nI 0)), (3, .int (-1))] [2, 3, 1, 0] rfl ?_
      refine v_lv [(0, .ref m), (1, .int (nI a)), (2, .int (mI (low (fun v => hb σ v a) 4 0))), (3, .int (-1))] (by rw [low_t (f := (fun v => hb σ v a)) (r := 3) (d := 0) c14]) ?_
      exact L0
  have L2 : V p l e { frames := 2, cells := 0, slots := 0, locals := 43 } s mi args below meth c (vx_MQ below (cQc g (rdP (some (.int (mI (lowest σ a)))) μ z)) (cXC g noX) args s ({ frames := 2, cells := 0, slots := 0, locals := 43 } : Room).cells ({ frames := 2, cells := 0, slots := 0, locals := 43 } : Room).slots (gA g)) g μ z 0 0 4 [(0, .ref m), (1, .int (nI a)), (2, .int (mI (low (fun v => hb σ v a) 2 2))), (3, .int (nI 1))] [] := by
    refine v_iload_n 3 o dX6_holder_4 rfl rfl ?_
    refine v_if_lt_n 29 o dX6_holder_5 (by decide) (by decide) (fun c5 => absurd c5 (by omega)) (fun c5 => ?_)
    refine v_aload_n 0 o dX6_holder_8 rfl rfl ?_
    refine v_iload_n 3 o dX6_holder_9 rfl rfl ?_
    refine v_iload_n 1 o dX6_holder_10 rfl rfl ?_
    refine v_callVr [.int (nI 1), .int (nI a)] [] o dX6_holder_11 cw_X6_127 im_X6_holds se_X6_holds cf6 hR.o (m_holds hl hR 1 a (by omega) (by omega)) rfl rfl (by decide) ⟨rfl, rfl⟩ (by decide) (Nat.le_of_ble_eq_true rfl) ?_
    refine v_if_eq_b 21 o dX6_holder_14 (by decide) (fun c14 => ?_) (fun c14 => ?_)
    · refine v_iload_n 2 o dX6_holder_21 rfl rfl ?_
      refine v_istore_n [(2, .int (mI (low (fun v => hb σ v a) 2 2))), (0, .ref m), (1, .int (nI a)), (3, .int (nI 1))] o dX6_holder_22 rfl (by decide) rfl ?_
      refine v_iinc (nI 0) [(3, .int (nI 0)), (2, .int (mI (low (fun v => hb σ v a) 2 2))), (0, .ref m), (1, .int (nI a))] o dX6_holder_23 3 rfl (by decide) (by decide) rfl ?_
      refine v_goto 4 o dX6_holder_26 (by decide) ?_
      refine v_sub [(0, .ref m), (1, .int (nI a)), (2, .int (mI (low (fun v => hb σ v a) 2 2))), (3, .int (nI 0))] [2, 3, 1, 0] rfl ?_
      refine v_lv [(0, .ref m), (1, .int (nI a)), (2, .int (mI (low (fun v => hb σ v a) 3 1))), (3, .int (nI 0))] (by rw [low_f (f := (fun v => hb σ v a)) (r := 2) (d := 1) c14]) ?_
      exact L1
    · refine v_iload_n 3 o dX6_holder_17 rfl rfl ?_
      refine v_goto 22 o dX6_holder_18 (by decide) ?_
      refine v_istore_n [(2, .int (nI 1)), (0, .ref m), (1, .int (nI a)), (3, .int (nI 1))] o dX6_holder_22 rfl (by decide) rfl ?_
      refine v_iinc (nI 0) [(3, .int (nI 0)), (2, .int (nI 1)), (0, .ref m), (1, .int (nI a))] o dX6_holder_23 3 rfl (by decide) (by decide) rfl ?_
      refine v_goto 4 o dX6_holder_26 (by decide) ?_
      refine v_sub [(0, .ref m), (1, .int (nI a)), (2, .int (nI 1)), (3, .int (nI 0))] [2, 3, 1, 0] rfl ?_
      refine v_lv [(0, .ref m), (1, .int (nI a)), (2, .int (mI (low (fun v => hb σ v a) 3 1))), (3, .int (nI 0))] (by rw [low_t (f := (fun v => hb σ v a)) (r := 2) (d := 1) c14]) ?_
      exact L1
  have L3 : V p l e { frames := 2, cells := 0, slots := 0, locals := 43 } s mi args below meth c (vx_MQ below (cQc g (rdP (some (.int (mI (lowest σ a)))) μ z)) (cXC g noX) args s ({ frames := 2, cells := 0, slots := 0, locals := 43 } : Room).cells ({ frames := 2, cells := 0, slots := 0, locals := 43 } : Room).slots (gA g)) g μ z 0 0 4 [(0, .ref m), (1, .int (nI a)), (2, .int (mI (low (fun v => hb σ v a) 1 3))), (3, .int (nI 2))] [] := by
    refine v_iload_n 3 o dX6_holder_4 rfl rfl ?_
    refine v_if_lt_n 29 o dX6_holder_5 (by decide) (by decide) (fun c5 => absurd c5 (by omega)) (fun c5 => ?_)
    refine v_aload_n 0 o dX6_holder_8 rfl rfl ?_
    refine v_iload_n 3 o dX6_holder_9 rfl rfl ?_
    refine v_iload_n 1 o dX6_holder_10 rfl rfl ?_
    refine v_callVr [.int (nI 2), .int (nI a)] [] o dX6_holder_11 cw_X6_127 im_X6_holds se_X6_holds cf6 hR.o (m_holds hl hR 2 a (by omega) (by omega)) rfl rfl (by decide) ⟨rfl, rfl⟩ (by decide) (Nat.le_of_ble_eq_true rfl) ?_
    refine v_if_eq_b 21 o dX6_holder_14 (by decide) (fun c14 => ?_) (fun c14 => ?_)
    · refine v_iload_n 2 o dX6_holder_21 rfl rfl ?_
      refine v_istore_n [(2, .int (mI (low (fun v => hb σ v a) 1 3))), (0, .ref m), (1, .int (nI a)), (3, .int (nI 2))] o dX6_holder_22 rfl (by decide) rfl ?_
      refine v_iinc (nI 1) [(3, .int (nI 1)), (2, .int (mI (low (fun v => hb σ v a) 1 3))), (0, .ref m), (1, .int (nI a))] o dX6_holder_23 3 rfl (by decide) (by decide) rfl ?_
      refine v_goto 4 o dX6_holder_26 (by decide) ?_
      refine v_sub [(0, .ref m), (1, .int (nI a)), (2, .int (mI (low (fun v => hb σ v a) 1 3))), (3, .int (nI 1))] [2, 3, 1, 0] rfl ?_
      refine v_lv [(0, .ref m), (1, .int (nI a)), (2, .int (mI (low (fun v => hb σ v a) 2 2))), (3, .int (nI 1))] (by rw [low_f (f := (fun v => hb σ v a)) (r := 1) (d := 2) c14]) ?_
      exact L2
    · refine v_iload_n 3 o dX6_holder_17 rfl rfl ?_
      refine v_goto 22 o dX6_holder_18 (by decide) ?_
      refine v_istore_n [(2, .int (nI 2)), (0, .ref m), (1, .int (nI a)), (3, .int (nI 2))] o dX6_holder_22 rfl (by decide) rfl ?_
      refine v_iinc (nI 1) [(3, .int (nI 1)), (2, .int (nI 2)), (0, .ref m), (1, .int (nI a))] o dX6_holder_23 3 rfl (by decide) (by decide) rfl ?_
      refine v_goto 4 o dX6_holder_26 (by decide) ?_
      refine v_sub [(0, .ref m), (1, .int (nI a)), (2, .int (nI 2)), (3, .int (nI 1))] [2, 3, 1, 0] rfl ?_
      refine v_lv [(0, .ref m), (1, .int (nI a)), (2, .int (mI (low (fun v => hb σ v a) 2 2))), (3, .int (nI 1))] (by rw [low_t (f := (fun v => hb σ v a)) (r := 1) (d := 2) c14]) ?_
      exact L2
  have L4 : V p l e { frames := 2, cells := 0, slots := 0, locals := 43 } s mi args below meth c (vx_MQ below (cQc g (rdP (some (.int (mI (lowest σ a)))) μ z)) (cXC g noX) args s ({ frames := 2, cells := 0, slots := 0, locals := 43 } : Room).cells ({ frames := 2, cells := 0, slots := 0, locals := 43 } : Room).slots (gA g)) g μ z 0 0 4 [(0, .ref m), (1, .int (nI a)), (2, .int (mI (low (fun v => hb σ v a) 0 4))), (3, .int (nI 3))] [] := by
    refine v_iload_n 3 o dX6_holder_4 rfl rfl ?_
    refine v_if_lt_n 29 o dX6_holder_5 (by decide) (by decide) (fun c5 => absurd c5 (by omega)) (fun c5 => ?_)
    refine v_aload_n 0 o dX6_holder_8 rfl rfl ?_
    refine v_iload_n 3 o dX6_holder_9 rfl rfl ?_
    refine v_iload_n 1 o dX6_holder_10 rfl rfl ?_
    refine v_callVr [.int (nI 3), .int (nI a)] [] o dX6_holder_11 cw_X6_127 im_X6_holds se_X6_holds cf6 hR.o (m_holds hl hR 3 a (by omega) (by omega)) rfl rfl (by decide) ⟨rfl, rfl⟩ (by decide) (Nat.le_of_ble_eq_true rfl) ?_
    refine v_if_eq_b 21 o dX6_holder_14 (by decide) (fun c14 => ?_) (fun c14 => ?_)
    · refine v_iload_n 2 o dX6_holder_21 rfl rfl ?_
      refine v_istore_n [(2, .int (mI (low (fun v => hb σ v a) 0 4))), (0, .ref m), (1, .int (nI a)), (3, .int (nI 3))] o dX6_holder_22 rfl (by decide) rfl ?_
      refine v_iinc (nI 2) [(3, .int (nI 2)), (2, .int (mI (low (fun v => hb σ v a) 0 4))), (0, .ref m), (1, .int (nI a))] o dX6_holder_23 3 rfl (by decide) (by decide) rfl ?_
      refine v_goto 4 o dX6_holder_26 (by decide) ?_
      refine v_sub [(0, .ref m), (1, .int (nI a)), (2, .int (mI (low (fun v => hb σ v a) 0 4))), (3, .int (nI 2))] [2, 3, 1, 0] rfl ?_
      refine v_lv [(0, .ref m), (1, .int (nI a)), (2, .int (mI (low (fun v => hb σ v a) 1 3))), (3, .int (nI 2))] (by rw [low_f (f := (fun v => hb σ v a)) (r := 0) (d := 3) c14]) ?_
      exact L3
    · refine v_iload_n 3 o dX6_holder_17 rfl rfl ?_
      refine v_goto 22 o dX6_holder_18 (by decide) ?_
      refine v_istore_n [(2, .int (nI 3)), (0, .ref m), (1, .int (nI a)), (3, .int (nI 3))] o dX6_holder_22 rfl (by decide) rfl ?_
      refine v_iinc (nI 2) [(3, .int (nI 2)), (2, .int (nI 3)), (0, .ref m), (1, .int (nI a))] o dX6_holder_23 3 rfl (by decide) (by decide) rfl ?_
      refine v_goto 4 o dX6_holder_26 (by decide) ?_
      refine v_sub [(0, .ref m), (1, .int (nI a)), (2, .int (nI 3)), (3, .int (nI 2))] [2, 3, 1, 0] rfl ?_
      refine v_lv [(0, .ref m), (1, .int (nI a)), (2, .int (mI (low (fun v => hb σ v a) 1 3))), (3, .int (nI 2))] (by rw [low_t (f := (fun v => hb σ v a)) (r := 0) (d := 3) c14]) ?_
      exact L3
  refine v_iconst_i (-1) o dX6_holder_0 (by decide) ?_
  refine v_istore_n [(2, .int (-1)), (0, .ref m), (1, .int (nI a))] o dX6_holder_1 rfl (by decide) rfl ?_
  refine v_iconst 3 o dX6_holder_2 rfl ?_
  refine v_istore_n [(3, .int (nI 3)), (2, .int (-1)), (0, .ref m), (1, .int (nI a))] o dX6_holder_3 rfl (by decide) rfl ?_
  refine v_sub [(0, .ref m), (1, .int (nI a)), (2, .int (-1)), (3, .int (nI 3))] [2, 3, 1, 0] rfl ?_
  refine v_lv [(0, .ref m), (1, .int (nI a)), (2, .int (mI (low (fun v => hb σ v a) 0 4))), (3, .int (nI 3))] rfl ?_
  exact L4

theorem mI_ne {n : Nat} (h : n < 2 ^ 30) : mI n = -1 ↔ n = 0 := by
  constructor
  · intro q
    have h1 := congrArg Int32.toInt q
    rw [mI_toInt h, show (-1 : Int32).toInt = -1 from rfl] at h1
    omega
  · rintro rfl
    exact mI_0
theorem lowest_le (σ : Sg) (a : Nat) : lowest σ a ≤ 4 := low_le 4 0
set_option maxRecDepth 100000 in
set_option maxHeartbeats 4000000 in
theorem m_isLostAt {l : Launch} (hl : l.stackTraces = false) {g : mG} {m z : Nat} {μ0 μ : mM} {σ : Sg} (hR : RM g m μ0 σ μ) (a : Nat) (ha : a < 72) : Ct l g yX6_isLostAt [Cond.code yX6_isLostAt cX6_isLostAt 2 (some .boolean)] { frames := 3, cells := 0, slots := 0, locals := 66 } [.ref m, .int (nI a)] μ z (rdP (some (.int (bI (lostB σ a)))) μ z) noX := by
  refine Ct.of hl (by decide +kernel) (Nat.le_of_ble_eq_true rfl) ?_
  intro p e s mi args below meth c o hnm hr hx
  have o : Ok p l s mi args meth c g cX6_isLostAt 2 RX6 := o
  refine v_lv [(0, .ref m), (1, .int (nI a))] rfl ?_
  refine v_aload_n 0 o dX6_isLostAt_0 rfl rfl ?_
  refine v_get o dX6_isLostAt_1 cf6 11 (by decide) fl_X6_35 hR.o rfl ?_
  refine v_iload_n 1 o dX6_isLostAt_4 rfl rfl ?_
  refine v_zald (bI (σ.2.1 2 a)) o dX6_isLostAt_5 (by omega) (by decide) hR.a9 rfl ?_
  refine v_if_eq_b 22 o dX6_isLostAt_6 (by decide) (fun c6 => ?_) (fun c6 => ?_)
  · refine v_iconst 0 o dX6_isLostAt_22 rfl ?_
    exact v_zret o dX6_isLostAt_23 hr (by decide) (Nat.le_of_ble_eq_true rfl) (Nat.le_of_ble_eq_true rfl) ⟨by rw [show lostB σ a = false by simp [lostB, c6]]; rfl, rfl, rfl⟩
  · refine v_aload_n 0 o dX6_isLostAt_9 rfl rfl ?_
    refine v_iload_n 1 o dX6_isLostAt_10 rfl rfl ?_
    refine v_callVr [.int (nI a)] [] o dX6_isLostAt_11 cw_X6_142 im_X6_holder se_X6_holder cf6 hR.o (m_holder hl hR a (by omega)) rfl rfl (by decide) ⟨rfl, rfl⟩ (by decide) (Nat.le_of_ble_eq_true rfl) ?_
    refine v_iconst_i (-1) o dX6_isLostAt_14 (by decide) ?_
    refine v_icmp_ne 22 o dX6_isLostAt_15 (by decide) (fun c15 => ?_) (fun c15 => ?_)
    · refine v_iconst 0 o dX6_isLostAt_22 rfl ?_
      exact v_zret o dX6_isLostAt_23 hr (by decide) (Nat.le_of_ble_eq_true rfl) (Nat.le_of_ble_eq_true rfl) ⟨by rw [show lostB σ a = false by unfold lostB; rw [c6, decide_eq_false (fun q => c15 ((mI_ne (Nat.lt_of_le_of_lt (lowest_le σ a) (by decide))).mpr q))]; rfl]; rfl, rfl, rfl⟩
    · refine v_iconst 1 o dX6_isLostAt_18 rfl ?_
      refine v_goto 23 o dX6_isLostAt_19 (by decide) ?_
      exact v_zret o dX6_isLostAt_23 hr (by decide) (Nat.le_of_ble_eq_true rfl) (Nat.le_of_ble_eq_true rfl) ⟨by rw [show lostB σ a = true by unfold lostB; rw [c6, decide_eq_true ((mI_ne (Nat.lt_of_le_of_lt (lowest_le σ a) (by decide))).mp c15)]; rfl]; rfl, rfl, rfl⟩
end
section
theorem zz_t : ∀ w ∈ Cond.classLink RX5 250 "java/lang/IllegalArgumentException" :: Cond.initialized "java/lang/IllegalArgumentException" :: vx_atS RX5 254 "java/lang/IllegalArgumentException" ["java/lang/RuntimeException", "java/lang/Exception"], w ∈ mT := by decide +kernel
end
