set_option maxRecDepth 100000 in
set_option maxHeartbeats 4000000 in
theorem k_book {l : Launch} (hl : l.stackTraces = false) {g : mG} {x z z0 : Nat} {B : Nat → Nat} {μ0 μ : mM} {σ τ : Sg} (hR : RC g x B z0 μ0 σ τ μ) (hI : Inv σ) (hz0 : z0 ≤ z) (many wide strong wished died : Int32) : Ct l g yX5_book [Cond.code yX5_book cX5_book 7 (some .int)] { frames := 7, cells := 122, slots := 584, locals := 104 } [.ref x, .int many, .int wide, .int strong, .int wished, .int died] μ z (clP g x z0 μ0 (some (.int (sp_book σ many wide strong wished died).1)) (sp_book σ many wide strong wished died).2) (clX ["java/lang/IllegalArgumentException", "java/lang/IllegalStateException"] σ (sp_book σ many wide strong wished died).2 μ) := by
  cases h1 : inR many (nI 1) (nI 12) with
  | false =>
    refine Ct.of hl (by decide +kernel) (Nat.le_of_ble_eq_true rfl) ?_
    intro p e s mi args below meth c o hnm hr hx
    have o : Ok p l s mi args meth c g cX5_book 7 RX5 := o
    refine v_lv [(0, .ref x), (1, .int many), (2, .int wide), (3, .int strong), (4, .int wished), (5, .int died)] rfl ?_
    refine v_iload_n 1 o dX5_book_0 rfl rfl ?_
    refine v_iconst 1 o dX5_book_1 rfl ?_
    refine v_bipush 12 o dX5_book_2 (by decide) ?_
    refine v_callS [.int many, .int (nI 1), .int (nI 12)] [] o dX5_book_4 cw_X5_54 st_X5_needArgument (c_needArg_f hl many (nI 1) (nI 12) h1) rfl rfl (by decide) (by decide) (Nat.le_of_ble_eq_true rfl) (fun _ _ _ _ h => h.elim) ?_
    rintro _ _ z9 hz ⟨rfl, rfl, -⟩
    exact v_out o hx (by decide) (by decide) ⟨⟨0, (by simp [sp_book, h1] : (sp_book σ many wide strong wished died).2 = th σ 1), rfl⟩, rfl⟩
  | true =>
    have h6 := hI.1
    obtain ⟨nn, hn1, hn12, rfl⟩ := inR_nat h1 (by decide) (by decide)
    have tm : tn (nI nn) = nn := tn_nI (by omega)
    cases h2 : inR wide (nI 60) (nI 180) with
    | false =>
      refine Ct.of hl (by decide +kernel) (Nat.le_of_ble_eq_true rfl) ?_
      intro p e s mi args below meth c o hnm hr hx
      have o : Ok p l s mi args meth c g cX5_book 7 RX5 := o
      refine v_lv [(0, .ref x), (1, .int (nI nn)), (2, .int wide), (3, .int strong), (4, .int wished), (5, .int died)] rfl ?_
      refine v_iload_n 1 o dX5_book_0 rfl rfl ?_
      refine v_iconst 1 o dX5_book_1 rfl ?_
      refine v_bipush 12 o dX5_book_2 (by decide) ?_
      refine v_callS [.int (nI nn), .int (nI 1), .int (nI 12)] [] o dX5_book_4 cw_X5_54 st_X5_needArgument (c_needArg_t hl (nI nn) (nI 1) (nI 12) h1) rfl rfl (by decide) (by decide) (Nat.le_of_ble_eq_true rfl) ?_ (fun _ _ _ _ h => h.elim)
      rintro _ μ6 z6 _ ⟨rfl, hm6, hz6⟩
      subst μ6
      subst z6
      refine v_st [] rfl ?_
      refine v_iload_n 2 o dX5_book_7 rfl rfl ?_
      refine v_bipush 60 o dX5_book_8 (by decide) ?_
      refine v_sipush 180 o dX5_book_10 (by decide) ?_
      refine v_callS [.int wide, .int (nI 60), .int (nI 180)] [] o dX5_book_13 cw_X5_54 st_X5_needArgument (c_needArg_f hl wide (nI 60) (nI 180) h2) rfl rfl (by decide) (by decide) (Nat.le_of_ble_eq_true rfl) (fun _ _ _ _ h => h.elim) ?_
      rintro _ _ z9 hz ⟨rfl, rfl, -⟩
      exact v_out o hx (by decide) (by decide) ⟨⟨0, (by simp [sp_book, h1, tm, h2] : (sp_book σ (nI nn) wide strong wished died).2 = th σ 1), rfl⟩, rfl⟩
    | true =>
      cases h3 : inR strong (nI 1) (nI 60) with
      | false =>
        refine Ct.of hl (by decide +kernel) (Nat.le_of_ble_eq_true rfl) ?_
        intro p e s mi args below meth c o hnm hr hx
        have o : Ok p l s mi args meth c g cX5_book 7 RX5 := o
        refine v_lv [(0, .ref x), (1, .int (nI nn)), (2, .int wide), (3, .int strong), (4, .int wished), (5, .int died)] rfl ?_
        refine v_iload_n 1 o dX5_book_0 rfl rfl ?_
        refine v_iconst 1 o dX5_book_1 rfl ?_
        refine v_bipush 12 o dX5_book_2 (by decide) ?_
        refine v_callS [.int (nI nn), .int (nI 1), .int (nI 12)] [] o dX5_book_4 cw_X5_54 st_X5_needArgument (c_needArg_t hl (nI nn) (nI 1) (nI 12) h1) rfl rfl (by decide) (by decide) (Nat.le_of_ble_eq_true rfl) ?_ (fun _ _ _ _ h => h.elim)
        rintro _ μ6 z6 _ ⟨rfl, hm6, hz6⟩
        subst μ6
        subst z6
        refine v_st [] rfl ?_
        refine v_iload_n 2 o dX5_book_7 rfl rfl ?_
        refine v_bipush 60 o dX5_book_8 (by decide) ?_
        refine v_sipush 180 o dX5_book_10 (by decide) ?_
        refine v_callS [.int wide, .int (nI 60), .int (nI 180)] [] o dX5_book_13 cw_X5_54 st_X5_needArgument (c_needArg_t hl wide (nI 60) (nI 180) h2) rfl rfl (by decide) (by decide) (Nat.le_of_ble_eq_true rfl) ?_ (fun _ _ _ _ h => h.elim)
        rintro _ μ6 z6 _ ⟨rfl, hm6, hz6⟩
        subst μ6
        subst z6
        refine v_st [] rfl ?_
        refine v_iload_n 3 o dX5_book_16 rfl rfl ?_
        refine v_iconst 1 o dX5_book_17 rfl ?_
        refine v_bipush 60 o dX5_book_18 (by decide) ?_
        refine v_callS [.int strong, .int (nI 1), .int (nI 60)] [] o dX5_book_20 cw_X5_54 st_X5_needArgument (c_needArg_f hl strong (nI 1) (nI 60) h3) rfl rfl (by decide) (by decide) (Nat.le_of_ble_eq_true rfl) (fun _ _ _ _ h => h.elim) ?_
        rintro _ _ z9 hz ⟨rfl, rfl, -⟩
        exact v_out o hx (by decide) (by decide) ⟨⟨0, (by simp [sp_book, h1, h2, tm, h3] : (sp_book σ (nI nn) wide strong wished died).2 = th σ 1), rfl⟩, rfl⟩
      | true =>
        cases h4 : inR wished (nI 0) (nI 9) with
        | false =>
          refine Ct.of hl (by decide +kernel) (Nat.le_of_ble_eq_true rfl) ?_
          intro p e s mi args below meth c o hnm hr hx
          have o : Ok p l s mi args meth c g cX5_book 7 RX5 := o
          refine v_lv [(0, .ref x), (1, .int (nI nn)), (2, .int wide), (3, .int strong), (4, .int wished), (5, .int died)] rfl ?_
          refine v_iload_n 1 o dX5_book_0 rfl rfl ?_
          refine v_iconst 1 o dX5_book_1 rfl ?_
          refine v_bipush 12 o dX5_book_2 (by decide) ?_
          refine v_callS [.int (nI nn), .int (nI 1), .int (nI 12)] [] o dX5_book_4 cw_X5_54 st_X5_needArgument (c_needArg_t hl (nI nn) (nI 1) (nI 12) h1) rfl rfl (by decide) (by decide) (Nat.le_of_ble_eq_true rfl) ?_ (fun _ _ _ _ h => h.elim)
          rintro _ μ6 z6 _ ⟨rfl, hm6, hz6⟩
          subst μ6
          subst z6
          refine v_st [] rfl ?_
          refine v_iload_n 2 o dX5_book_7 rfl rfl ?_
          refine v_bipush 60 o dX5_book_8 (by decide) ?_
          refine v_sipush 180 o dX5_book_10 (by decide) ?_
          refine v_callS [.int wide, .int (nI 60), .int (nI 180)] [] o dX5_book_13 cw_X5_54 st_X5_needArgument (c_needArg_t hl wide (nI 60) (nI 180) h2) rfl rfl (by decide) (by decide) (Nat.le_of_ble_eq_true rfl) ?_ (fun _ _ _ _ h => h.elim)
          rintro _ μ6 z6 _ ⟨rfl, hm6, hz6⟩
          subst μ6
          subst z6
          refine v_st [] rfl ?_
          refine v_iload_n 3 o dX5_book_16 rfl rfl ?_
          refine v_iconst 1 o dX5_book_17 rfl ?_
          refine v_bipush 60 o dX5_book_18 (by decide) ?_
          refine v_callS [.int strong, .int (nI 1), .int (nI 60)] [] o dX5_book_20 cw_X5_54 st_X5_needArgument (c_needArg_t hl strong (nI 1) (nI 60) h3) rfl rfl (by decide) (by decide) (Nat.le_of_ble_eq_true rfl) ?_ (fun _ _ _ _ h => h.elim)
          rintro _ μ6 z6 _ ⟨rfl, hm6, hz6⟩
          subst μ6
          subst z6
          refine v_st [] rfl ?_
          refine v_iload 4 o dX5_book_23 rfl ?_
          refine v_iconst 0 o dX5_book_25 rfl ?_
          refine v_bipush 9 o dX5_book_26 (by decide) ?_
          refine v_callS [.int wished, .int (nI 0), .int (nI 9)] [] o dX5_book_28 cw_X5_54 st_X5_needArgument (c_needArg_f hl wished (nI 0) (nI 9) h4) rfl rfl (by decide) (by decide) (Nat.le_of_ble_eq_true rfl) (fun _ _ _ _ h => h.elim) ?_
          rintro _ _ z9 hz ⟨rfl, rfl, -⟩
          exact v_out o hx (by decide) (by decide) ⟨⟨0, (by simp [sp_book, h1, h2, h3, tm, h4] : (sp_book σ (nI nn) wide strong wished died).2 = th σ 1), rfl⟩, rfl⟩
        | true =>
          by_cases h0 : died = -1
          · by_cases h6n : σ.1 3 0 = 6
            · refine Ct.of hl (by decide +kernel) (Nat.le_of_ble_eq_true rfl) ?_
              intro p e s mi args below meth c o hnm hr hx
              have o : Ok p l s mi args meth c g cX5_book 7 RX5 := o
              refine v_lv [(0, .ref x), (1, .int (nI nn)), (2, .int wide), (3, .int strong), (4, .int wished), (5, .int died)] rfl ?_
              refine v_iload_n 1 o dX5_book_0 rfl rfl ?_
              refine v_iconst 1 o dX5_book_1 rfl ?_
              refine v_bipush 12 o dX5_book_2 (by decide) ?_
              refine v_callS [.int (nI nn), .int (nI 1), .int (nI 12)] [] o dX5_book_4 cw_X5_54 st_X5_needArgument (c_needArg_t hl (nI nn) (nI 1) (nI 12) h1) rfl rfl (by decide) (by decide) (Nat.le_of_ble_eq_true rfl) ?_ (fun _ _ _ _ h => h.elim)
              rintro _ μ6 z6 _ ⟨rfl, hm6, hz6⟩
              subst μ6
              subst z6
              refine v_st [] rfl ?_
              refine v_iload_n 2 o dX5_book_7 rfl rfl ?_
              refine v_bipush 60 o dX5_book_8 (by decide) ?_
              refine v_sipush 180 o dX5_book_10 (by decide) ?_
              refine v_callS [.int wide, .int (nI 60), .int (nI 180)] [] o dX5_book_13 cw_X5_54 st_X5_needArgument (c_needArg_t hl wide (nI 60) (nI 180) h2) rfl rfl (by decide) (by decide) (Nat.le_of_ble_eq_true rfl) ?_ (fun _ _ _ _ h => h.elim)
              rintro _ μ6 z6 _ ⟨rfl, hm6, hz6⟩
              subst μ6
              subst z6
              refine v_st [] rfl ?_
              refine v_iload_n 3 o dX5_book_16 rfl rfl ?_
              refine v_iconst 1 o dX5_book_17 rfl ?_
              refine v_bipush 60 o dX5_book_18 (by decide) ?_
              refine v_callS [.int strong, .int (nI 1), .int (nI 60)] [] o dX5_book_20 cw_X5_54 st_X5_needArgument (c_needArg_t hl strong (nI 1) (nI 60) h3) rfl rfl (by decide) (by decide) (Nat.le_of_ble_eq_true rfl) ?_ (fun _ _ _ _ h => h.elim)
              rintro _ μ6 z6 _ ⟨rfl, hm6, hz6⟩
              subst μ6
              subst z6
              refine v_st [] rfl ?_
              refine v_iload 4 o dX5_book_23 rfl ?_
              refine v_iconst 0 o dX5_book_25 rfl ?_
              refine v_bipush 9 o dX5_book_26 (by decide) ?_
              refine v_callS [.int wished, .int (nI 0), .int (nI 9)] [] o dX5_book_28 cw_X5_54 st_X5_needArgument (c_needArg_t hl wished (nI 0) (nI 9) h4) rfl rfl (by decide) (by decide) (Nat.le_of_ble_eq_true rfl) ?_ (fun _ _ _ _ h => h.elim)
              rintro _ μ6 z6 _ ⟨rfl, hm6, hz6⟩
              subst μ6
              subst z6
              refine v_st [] rfl ?_
              refine v_iload 5 o dX5_book_31 rfl ?_
              refine v_iconst_i (-1) o dX5_book_33 (by decide) ?_
              refine v_icmp_eq 48 o dX5_book_34 (by decide) (fun c34 => ?_) (fun c34 => absurd c34 (not_not_intro h0))
              refine v_aload_n 0 o dX5_book_48 rfl rfl ?_
              refine v_get (v := .int (nI (σ.1 3 0))) o dX5_book_49 cf5 1 (by decide) fl_X5_58 hR.h0 rfl ?_
              refine v_istore [(6, .int (nI (σ.1 3 0))), (0, .ref x), (1, .int (nI nn)), (2, .int wide), (3, .int strong), (4, .int wished), (5, .int died)] o dX5_book_52 (by decide) rfl ?_
              refine v_iload 0 o dX5_book_54 rfl ?_
              refine v_if_lt_n 66 o dX5_book_56 (by decide) (by omega) (fun c56 => absurd c56 (by omega)) (fun c56 => ?_)
              refine v_iload 0 o dX5_book_59 rfl ?_
              refine v_bipush 6 o dX5_book_61 (by decide) ?_
              refine v_icmp_lt_n 76 o dX5_book_63 (by decide) (by omega) (by decide) (fun c63 => absurd c63 (by omega)) (fun c63 => ?_)
              exact v_throw (E := "java/lang/IllegalStateException") (text := "there are as many books as there may be") o hx dX5_book_66 dX5_book_69 dX5_book_70 dX5_book_72 dX5_book_75 (by decide +kernel) (by decide +kernel) tw_ISE (by decide) (Nat.le_of_ble_eq_true rfl) (by decide) (by decide) (by decide) (by decide) (fun z' hz => ⟨⟨1, (by simp [sp_book, h1, h2, h3, h4, tm, h0, h6n] : (sp_book σ (nI nn) wide strong wished died).2 = th σ 2), rfl⟩, rfl⟩)
            · refine Ct.of hl (by decide +kernel) (Nat.le_of_ble_eq_true rfl) ?_
              intro p e s mi args below meth c o hnm hr hx
              have o : Ok p l s mi args meth c g cX5_book 7 RX5 := o
              refine v_lv [(0, .ref x), (1, .int (nI nn)), (2, .int wide), (3, .int strong), (4, .int wished), (5, .int died)] rfl ?_
              refine v_iload_n 1 o dX5_book_0 rfl rfl ?_
              refine v_iconst 1 o dX5_book_1 rfl ?_
              refine v_bipush 12 o dX5_book_2 (by decide) ?_
              refine v_callS [.int (nI nn), .int (nI 1), .int (nI 12)] [] o dX5_book_4 cw_X5_54 st_X5_needArgument (c_needArg_t hl (nI nn) (nI 1) (nI 12) h1) rfl rfl (by decide) (by decide) (Nat.le_of_ble_eq_true rfl) ?_ (fun _ _ _ _ h => h.elim)
              rintro _ μ6 z6 _ ⟨rfl, hm6, hz6⟩
              subst μ6
              subst z6
              refine v_st [] rfl ?_
              refine v_iload_n 2 o dX5_book_7 rfl rfl ?_
              refine v_bipush 60 o dX5_book_8 (by decide) ?_
              refine v_sipush 180 o dX5_book_10 (by decide) ?_
              refine v_callS [.int wide, .int (nI 60), .int (nI 180)] [] o dX5_book_13 cw_X5_54 st_X5_needArgument (c_needArg_t hl wide (nI 60) (nI 180) h2) rfl rfl (by decide) (by decide) (Nat.le_of_ble_eq_true rfl) ?_ (fun _ _ _ _ h => h.elim)
              rintro _ μ6 z6 _ ⟨rfl, hm6, hz6⟩
              subst μ6
              subst z6
              refine v_st [] rfl ?_
              refine v_iload_n 3 o dX5_book_16 rfl rfl ?_
              refine v_iconst 1 o dX5_book_17 rfl ?_
              refine v_bipush 60 o dX5_book_18 (by decide) ?_
              refine v_callS [.int strong, .int (nI 1), .int (nI 60)] [] o dX5_book_20 cw_X5_54 st_X5_needArgument (c_needArg_t hl strong (nI 1) (nI 60) h3) rfl rfl (by decide) (by decide) (Nat.le_of_ble_eq_true rfl) ?_ (fun _ _ _ _ h => h.elim)
              rintro _ μ6 z6 _ ⟨rfl, hm6, hz6⟩
              subst μ6
              subst z6
              refine v_st [] rfl ?_
              refine v_iload 4 o dX5_book_23 rfl ?_
              refine v_iconst 0 o dX5_book_25 rfl ?_
              refine v_bipush 9 o dX5_book_26 (by decide) ?_
              refine v_callS [.int wished, .int (nI 0), .int (nI 9)] [] o dX5_book_28 cw_X5_54 st_X5_needArgument (c_needArg_t hl wished (nI 0) (nI 9) h4) rfl rfl (by decide) (by decide) (Nat.le_of_ble_eq_true rfl) ?_ (fun _ _ _ _ h => h.elim)
              rintro _ μ6 z6 _ ⟨rfl, hm6, hz6⟩
              subst μ6
              subst z6
              refine v_st [] rfl ?_
              refine v_iload 5 o dX5_book_31 rfl ?_
              refine v_iconst_i (-1) o dX5_book_33 (by decide) ?_
              refine v_icmp_eq 48 o dX5_book_34 (by decide) (fun c34 => ?_) (fun c34 => absurd c34 (not_not_intro h0))
              refine v_aload_n 0 o dX5_book_48 rfl rfl ?_
              refine v_get (v := .int (nI (σ.1 3 0))) o dX5_book_49 cf5 1 (by decide) fl_X5_58 hR.h0 rfl ?_
              refine v_istore [(6, .int (nI (σ.1 3 0))), (0, .ref x), (1, .int (nI nn)), (2, .int wide), (3, .int strong), (4, .int wished), (5, .int died)] o dX5_book_52 (by decide) rfl ?_
              refine v_iload 0 o dX5_book_54 rfl ?_
              refine v_if_lt_n 66 o dX5_book_56 (by decide) (by omega) (fun c56 => absurd c56 (by omega)) (fun c56 => ?_)
              refine v_iload 0 o dX5_book_59 rfl ?_
              refine v_bipush 6 o dX5_book_61 (by decide) ?_
              refine v_icmp_lt_n 76 o dX5_book_63 (by decide) (by omega) (by decide) (fun c63 => ?_) (fun c63 => absurd c63 (by omega))
              refine v_aload_n 1 o dX5_book_76 rfl rfl ?_
              refine v_get (v := .ref (x + 1)) o dX5_book_77 cf5 0 (by decide) fl_X5_11 hR.h0 rfl ?_
              refine v_iload 0 o dX5_book_80 rfl ?_
              refine v_lt (fun hlt => ?_)
              refine v_new [.null, .int 0, .int 0, .int 0, .int 0, .int 0, .int 0, .int 0] o dX5_book_82 cf0 cl_X5_9 ins_X0 ini_X0 (fun j hj => by rcases (show j = 0 ∨ j = 1 ∨ j = 2 ∨ j = 3 ∨ j = 4 ∨ j = 5 ∨ j = 6 ∨ j = 7 by omega) with rfl | rfl | rfl | rfl | rfl | rfl | rfl | rfl <;> rfl) (Nat.le_of_ble_eq_true rfl) (Nat.le_of_ble_eq_true rfl) ?_
              refine v_dup o dX5_book_85 rfl ?_
              refine v_iload_n 2 o dX5_book_86 rfl rfl ?_
              refine v_iload_n 3 o dX5_book_87 rfl rfl ?_
              refine v_iload_n 4 o dX5_book_88 rfl rfl ?_
              refine v_iload 5 o dX5_book_89 rfl ?_
              refine v_iload 6 o dX5_book_91 rfl ?_
              refine v_callI (b := z) [.int (nI nn), .int wide, .int strong, .int wished, .int died] [.ref z, .int (nI (σ.1 3 0)), .ref (x + 1)] o dX5_book_93 cw_X5_68 rfl im_X0_init (c_Book hl (μ0 := μ) nn hn12 wide strong wished died) rfl rfl ⟨Nat.le_of_ble_eq_true rfl, Nat.le_of_ble_eq_true rfl⟩ ⟨Nat.le_of_ble_eq_true rfl, Nat.le_of_ble_eq_true rfl⟩ (Nat.le_of_ble_eq_true rfl) ?_ (fun _ _ _ _ h => h.elim)
              rintro _ μ9 _ _ ⟨rfl, hB9, rfl⟩
              refine v_st [.ref z, .int (nI (σ.1 3 0)), .ref (x + 1)] rfl ?_
              have hx12 := hR.2.2.1.1
              refine v_aast (t0 := 4) o dX5_book_96 rfl cf0 (show σ.1 3 0 < 6 by omega) (by decide) ((hB9.2.2.2 (x + 1) (by omega)).trans hR.h1) hB9.1 (fun μ8 e8 => ?_)
              refine v_aload_n 1 o dX5_book_97 rfl rfl ?_
              refine v_iload 0 o dX5_book_98 rfl ?_
              refine v_iconst 1 o dX5_book_100 rfl ?_
              refine v_iadd (nI (σ.1 3 0 + 1)) o dX5_book_101 (nI_add (σ.1 3 0) 1) ?_
              refine v_put _ o dX5_book_102 cf5 1 (by decide) (by decide) fl_X5_58 ((by rw [e8, up_n (by omega), hB9.2.2.2 x (by omega)]; exact hR.h0) : μ8 x = some (.inr (5, [.ref (x + 1), .int (nI (σ.1 3 0)), .int (σ.2.2.1 8 0), .ref (x + 2), .ref (x + 3), .ref (x + 7), .ref (x + 9), .int (σ.2.2.1 8 1), .ref (x + 11)]))) rfl rfl (Nat.le_of_ble_eq_true rfl) rfl (fun μ7 e7 => ?_)
              refine v_iload 0 o dX5_book_105 rfl ?_
              have e9 : sp_book σ (nI nn) wide strong wished died = (nI (σ.1 3 0), uN (uI (uI (uI (uI (uN (th σ 0) 0 (σ.1 3 0) nn) 0 (σ.1 3 0) wide) 1 (σ.1 3 0) strong) 2 (σ.1 3 0) wished) 3 (σ.1 3 0) died) 3 0 (σ.1 3 0 + 1)) := by simp [sp_book, th, h1, h2, h3, h4, tm, h0, h6n]
              have hAdd : RC g x (fun i => if i = σ.1 3 0 then z else B i) z0 μ0 (uN (uI (uI (uI (uI (uN (th σ 0) 0 (σ.1 3 0) nn) 0 (σ.1 3 0) wide) 1 (σ.1 3 0) strong) 2 (σ.1 3 0) wished) 3 (σ.1 3 0) died) 3 0 (σ.1 3 0 + 1)) τ μ7 := hR.add hI (by omega) hn12 hz0 hlt (by simp [uN, uI, u2, th]) (by simp [uN, uI, u2, th]) (by simp [uN, uI, u2, th]) (fun i hi => by simp [uN, uI, u2, th, hi]) rfl rfl rfl rfl (fun k hk => by
                funext i
                show u2 (u2 (u2 (u2 σ.2.2.1 0 _ _) 1 _ _) 2 _ _) 3 _ _ k i = _
                rw [u2_k (by omega), u2_k (by omega), u2_k (by omega), u2_k (by omega)]) (fun k i hi => Or.inl (by
                show u2 (u2 (u2 (u2 σ.2.2.1 0 _ _) 1 _ _) 2 _ _) 3 _ _ k i = _
                rw [u2_i hi, u2_i hi, u2_i hi, u2_i hi])) (by simp [uN, uI, u2, th]) hB9 e8 e7
              exact v_iret o dX5_book_107 hr (Nat.le_of_ble_eq_true rfl) (Nat.le_of_ble_eq_true rfl) (by rw [e9]; exact ⟨rfl, by simp [uN, uI, u2, th], _, _, hAdd⟩)
          · cases h5 : inR died (nI 1500) (nI 3000) with
            | false =>
              refine Ct.of hl (by decide +kernel) (Nat.le_of_ble_eq_true rfl) ?_
              intro p e s mi args below meth c o hnm hr hx
              have o : Ok p l s mi args meth c g cX5_book 7 RX5 := o
              refine v_lv [(0, .ref x), (1, .int (nI nn)), (2, .int wide), (3, .int strong), (4, .int wished), (5, .int died)] rfl ?_
              refine v_iload_n 1 o dX5_book_0 rfl rfl ?_
              refine v_iconst 1 o dX5_book_1 rfl ?_
              refine v_bipush 12 o dX5_book_2 (by decide) ?_
              refine v_callS [.int (nI nn), .int (nI 1), .int (nI 12)] [] o dX5_book_4 cw_X5_54 st_X5_needArgument (c_needArg_t hl (nI nn) (nI 1) (nI 12) h1) rfl rfl (by decide) (by decide) (Nat.le_of_ble_eq_true rfl) ?_ (fun _ _ _ _ h => h.elim)
              rintro _ μ6 z6 _ ⟨rfl, hm6, hz6⟩
              subst μ6
              subst z6
              refine v_st [] rfl ?_
              refine v_iload_n 2 o dX5_book_7 rfl rfl ?_
              refine v_bipush 60 o dX5_book_8 (by decide) ?_
              refine v_sipush 180 o dX5_book_10 (by decide) ?_
              refine v_callS [.int wide, .int (nI 60), .int (nI 180)] [] o dX5_book_13 cw_X5_54 st_X5_needArgument (c_needArg_t hl wide (nI 60) (nI 180) h2) rfl rfl (by decide) (by decide) (Nat.le_of_ble_eq_true rfl) ?_ (fun _ _ _ _ h => h.elim)
              rintro _ μ6 z6 _ ⟨rfl, hm6, hz6⟩
              subst μ6
              subst z6
              refine v_st [] rfl ?_
              refine v_iload_n 3 o dX5_book_16 rfl rfl ?_
              refine v_iconst 1 o dX5_book_17 rfl ?_
              refine v_bipush 60 o dX5_book_18 (by decide) ?_
              refine v_callS [.int strong, .int (nI 1), .int (nI 60)] [] o dX5_book_20 cw_X5_54 st_X5_needArgument (c_needArg_t hl strong (nI 1) (nI 60) h3) rfl rfl (by decide) (by decide) (Nat.le_of_ble_eq_true rfl) ?_ (fun _ _ _ _ h => h.elim)
              rintro _ μ6 z6 _ ⟨rfl, hm6, hz6⟩
              subst μ6
              subst z6
              refine v_st [] rfl ?_
              refine v_iload 4 o dX5_book_23 rfl ?_
              refine v_iconst 0 o dX5_book_25 rfl ?_
              refine v_bipush 9 o dX5_book_26 (by decide) ?_
              refine v_callS [.int wished, .int (nI 0), .int (nI 9)] [] o dX5_book_28 cw_X5_54 st_X5_needArgument (c_needArg_t hl wished (nI 0) (nI 9) h4) rfl rfl (by decide) (by decide) (Nat.le_of_ble_eq_true rfl) ?_ (fun _ _ _ _ h => h.elim)
              rintro _ μ6 z6 _ ⟨rfl, hm6, hz6⟩
              subst μ6
              subst z6
              refine v_st [] rfl ?_
              refine v_iload 5 o dX5_book_31 rfl ?_
              refine v_iconst_i (-1) o dX5_book_33 (by decide) ?_
              refine v_icmp_eq 48 o dX5_book_34 (by decide) (fun c34 => absurd c34 h0) (fun c34 => ?_)
              refine v_iload 5 o dX5_book_37 rfl ?_
              refine v_sipush 1500 o dX5_book_39 (by decide) ?_
              refine v_sipush 3000 o dX5_book_42 (by decide) ?_
              refine v_callS [.int died, .int (nI 1500), .int (nI 3000)] [] o dX5_book_45 cw_X5_54 st_X5_needArgument (c_needArg_f hl died (nI 1500) (nI 3000) h5) rfl rfl (by decide) (by decide) (Nat.le_of_ble_eq_true rfl) (fun _ _ _ _ h => h.elim) ?_
              rintro _ _ z9 hz ⟨rfl, rfl, -⟩
              exact v_out o hx (by decide) (by decide) ⟨⟨0, (by simp [sp_book, h1, h2, h3, h4, tm, h0, h5] : (sp_book σ (nI nn) wide strong wished died).2 = th σ 1), rfl⟩, rfl⟩
            | true =>
              by_cases h6n : σ.1 3 0 = 6
              · refine Ct.of hl (by decide +kernel) (Nat.le_of_ble_eq_true rfl) ?_
                intro p e s mi args below meth c o hnm hr hx
                have o : Ok p l s mi args meth c g cX5_book 7 RX5 := o
                refine v_lv [(0, .ref x), (1, .int (nI nn)), (2, .int wide), (3, .int strong), (4, .int wished), (5, .int died)] rfl ?_
                refine v_iload_n 1 o dX5_book_0 rfl rfl ?_
                refine v_iconst 1 o dX5_book_1 rfl ?_
                refine v_bipush 12 o dX5_book_2 (by decide) ?_
                refine v_callS [.int (nI nn), .int (nI 1), .int (nI 12)] [] o dX5_book_4 cw_X5_54 st_X5_needArgument (c_needArg_t hl (nI nn) (nI 1) (nI 12) h1) rfl rfl (by decide) (by decide) (Nat.le_of_ble_eq_true rfl) ?_ (fun _ _ _ _ h => h.elim)
                rintro _ μ6 z6 _ ⟨rfl, hm6, hz6⟩
                subst μ6
                subst z6
                refine v_st [] rfl ?_
                refine v_iload_n 2 o dX5_book_7 rfl rfl ?_
                refine v_bipush 60 o dX5_book_8 (by decide) ?_
                refine v_sipush 180 o dX5_book_10 (by decide) ?_
                refine v_callS [.int wide, .int (nI 60), .int (nI 180)] [] o dX5_book_13 cw_X5_54 st_X5_needArgument (c_needArg_t hl wide (nI 60) (nI 180) h2) rfl rfl (by decide) (by decide) (Nat.le_of_ble_eq_true rfl) ?_ (fun _ _ _ _ h => h.elim)
                rintro _ μ6 z6 _ ⟨rfl, hm6, hz6⟩
                subst μ6
                subst z6
                refine v_st [] rfl ?_
                refine v_iload_n 3 o dX5_book_16 rfl rfl ?_
                refine v_iconst 1 o dX5_book_17 rfl ?_
                refine v_bipush 60 o dX5_book_18 (by decide) ?_
                refine v_callS [.int strong, .int (nI 1), .int (nI 60)] [] o dX5_book_20 cw_X5_54 st_X5_needArgument (c_needArg_t hl strong (nI 1) (nI 60) h3) rfl rfl (by decide) (by decide) (Nat.le_of_ble_eq_true rfl) ?_ (fun _ _ _ _ h => h.elim)
                rintro _ μ6 z6 _ ⟨rfl, hm6, hz6⟩
                subst μ6
                subst z6
                refine v_st [] rfl ?_
                refine v_iload 4 o dX5_book_23 rfl ?_
                refine v_iconst 0 o dX5_book_25 rfl ?_
                refine v_bipush 9 o dX5_book_26 (by decide) ?_
                refine v_callS [.int wished, .int (nI 0), .int (nI 9)] [] o dX5_book_28 cw_X5_54 st_X5_needArgument (c_needArg_t hl wished (nI 0) (nI 9) h4) rfl rfl (by decide) (by decide) (Nat.le_of_ble_eq_true rfl) ?_ (fun _ _ _ _ h => h.elim)
                rintro _ μ6 z6 _ ⟨rfl, hm6, hz6⟩
                subst μ6
                subst z6
                refine v_st [] rfl ?_
                refine v_iload 5 o dX5_book_31 rfl ?_
                refine v_iconst_i (-1) o dX5_book_33 (by decide) ?_
                refine v_icmp_eq 48 o dX5_book_34 (by decide) (fun c34 => absurd c34 h0) (fun c34 => ?_)
                refine v_iload 5 o dX5_book_37 rfl ?_
                refine v_sipush 1500 o dX5_book_39 (by decide) ?_
                refine v_sipush 3000 o dX5_book_42 (by decide) ?_
                refine v_callS [.int died, .int (nI 1500), .int (nI 3000)] [] o dX5_book_45 cw_X5_54 st_X5_needArgument (c_needArg_t hl died (nI 1500) (nI 3000) h5) rfl rfl (by decide) (by decide) (Nat.le_of_ble_eq_true rfl) ?_ (fun _ _ _ _ h => h.elim)
                rintro _ μ6 z6 _ ⟨rfl, hm6, hz6⟩
                subst μ6
                subst z6
                refine v_st [] rfl ?_
                refine v_aload_n 0 o dX5_book_48 rfl rfl ?_
                refine v_get (v := .int (nI (σ.1 3 0))) o dX5_book_49 cf5 1 (by decide) fl_X5_58 hR.h0 rfl ?_
                refine v_istore [(6, .int (nI (σ.1 3 0))), (0, .ref x), (1, .int (nI nn)), (2, .int wide), (3, .int strong), (4, .int wished), (5, .int died)] o dX5_book_52 (by decide) rfl ?_
                refine v_iload 0 o dX5_book_54 rfl ?_
                refine v_if_lt_n 66 o dX5_book_56 (by decide) (by omega) (fun c56 => absurd c56 (by omega)) (fun c56 => ?_)
                refine v_iload 0 o dX5_book_59 rfl ?_
                refine v_bipush 6 o dX5_book_61 (by decide) ?_
                refine v_icmp_lt_n 76 o dX5_book_63 (by decide) (by omega) (by decide) (fun c63 => absurd c63 (by omega)) (fun c63 => ?_)
                exact v_throw (E := "java/lang/IllegalStateException") (text := "there are as many books as there may be") o hx dX5_book_66 dX5_book_69 dX5_book_70 dX5_book_72 dX5_book_75 (by decide +kernel) (by decide +kernel) tw_ISE (by decide) (Nat.le_of_ble_eq_true rfl) (by decide) (by decide) (by decide) (by decide) (fun z' hz => ⟨⟨1, (by simp [sp_book, h1, h2, h3, h4, tm, h0, h5, h6n] : (sp_book σ (nI nn) wide strong wished died).2 = th σ 2), rfl⟩, rfl⟩)
              · refine Ct.of hl (by decide +kernel) (Nat.le_of_ble_eq_true rfl) ?_
                intro p e s mi args below meth c o hnm hr hx
                have o : Ok p l s mi args meth c g cX5_book 7 RX5 := o
                refine v_lv [(0, .ref x), (1, .int (nI nn)), (2, .int wide), (3, .int strong), (4, .int wished), (5, .int died)] rfl ?_
                refine v_iload_n 1 o dX5_book_0 rfl rfl ?_
                refine v_iconst 1 o dX5_book_1 rfl ?_
                refine v_bipush 12 o dX5_book_2 (by decide) ?_
                refine v_callS [.int (nI nn), .int (nI 1), .int (nI 12)] [] o dX5_book_4 cw_X5_54 st_X5_needArgument (c_needArg_t hl (nI nn) (nI 1) (nI 12) h1) rfl rfl (by decide) (by decide) (Nat.le_of_ble_eq_true rfl) ?_ (fun _ _ _ _ h => h.elim)
                rintro _ μ6 z6 _ ⟨rfl, hm6, hz6⟩
                subst μ6
                subst z6
                refine v_st [] rfl ?_
                refine v_iload_n 2 o dX5_book_7 rfl rfl ?_
                refine v_bipush 60 o dX5_book_8 (by decide) ?_
                refine v_sipush 180 o dX5_book_10 (by decide) ?_
                refine v_callS [.int wide, .int (nI 60), .int (nI 180)] [] o dX5_book_13 cw_X5_54 st_X5_needArgument (c_needArg_t hl wide (nI 60) (nI 180) h2) rfl rfl (by decide) (by decide) (Nat.le_of_ble_eq_true rfl) ?_ (fun _ _ _ _ h => h.elim)
                rintro _ μ6 z6 _ ⟨rfl, hm6, hz6⟩
                subst μ6
                subst z6
                refine v_st [] rfl ?_
                refine v_iload_n 3 o dX5_book_16 rfl rfl ?_
                refine v_iconst 1 o dX5_book_17 rfl ?_
                refine v_bipush 60 o dX5_book_18 (by decide) ?_
                refine v_callS [.int strong, .int (nI 1), .int (nI 60)] [] o dX5_book_20 cw_X5_54 st_X5_needArgument (c_needArg_t hl strong (nI 1) (nI 60) h3) rfl rfl (by decide) (by decide) (Nat.le_of_ble_eq_true rfl) ?_ (fun _ _ _ _ h => h.elim)
                rintro _ μ6 z6 _ ⟨rfl, hm6, hz6⟩
                subst μ6
                subst z6
                refine v_st [] rfl ?_
                refine v_iload 4 o dX5_book_23 rfl ?_
                refine v_iconst 0 o dX5_book_25 rfl ?_
                refine v_bipush 9 o dX5_book_26 (by decide) ?_
                refine v_callS [.int wished, .int (nI 0), .int (nI 9)] [] o dX5_book_28 cw_X5_54 st_X5_needArgument (c_needArg_t hl wished (nI 0) (nI 9) h4) rfl rfl (by decide) (by decide) (Nat.le_of_ble_eq_true rfl) ?_ (fun _ _ _ _ h => h.elim)
                rintro _ μ6 z6 _ ⟨rfl, hm6, hz6⟩
                subst μ6
                subst z6
                refine v_st [] rfl ?_
                refine v_iload 5 o dX5_book_31 rfl ?_
                refine v_iconst_i (-1) o dX5_book_33 (by decide) ?_
                refine v_icmp_eq 48 o dX5_book_34 (by decide) (fun c34 => absurd c34 h0) (fun c34 => ?_)
                refine v_iload 5 o dX5_book_37 rfl ?_
                refine v_sipush 1500 o dX5_book_39 (by decide) ?_
                refine v_sipush 3000 o dX5_book_42 (by decide) ?_
                refine v_callS [.int died, .int (nI 1500), .int (nI 3000)] [] o dX5_book_45 cw_X5_54 st_X5_needArgument (c_needArg_t hl died (nI 1500) (nI 3000) h5) rfl rfl (by decide) (by decide) (Nat.le_of_ble_eq_true rfl) ?_ (fun _ _ _ _ h => h.elim)
                rintro _ μ6 z6 _ ⟨rfl, hm6, hz6⟩
                subst μ6
                subst z6
                refine v_st [] rfl ?_
                refine v_aload_n 0 o dX5_book_48 rfl rfl ?_
                refine v_get (v := .int (nI (σ.1 3 0))) o dX5_book_49 cf5 1 (by decide) fl_X5_58 hR.h0 rfl ?_
                refine v_istore [(6, .int (nI (σ.1 3 0))), (0, .ref x), (1, .int (nI nn)), (2, .int wide), (3, .int strong), (4, .int wished), (5, .int died)] o dX5_book_52 (by decide) rfl ?_
                refine v_iload 0 o dX5_book_54 rfl ?_
                refine v_if_lt_n 66 o dX5_book_56 (by decide) (by omega) (fun c56 => absurd c56 (by omega)) (fun c56 => ?_)
                refine v_iload 0 o dX5_book_59 rfl ?_
                refine v_bipush 6 o dX5_book_61 (by decide) ?_
                refine v_icmp_lt_n 76 o dX5_book_63 (by decide) (by omega) (by decide) (fun c63 => ?_) (fun c63 => absurd c63 (by omega))
                refine v_aload_n 1 o dX5_book_76 rfl rfl ?_
                refine v_get (v := .ref (x + 1)) o dX5_book_77 cf5 0 (by decide) fl_X5_11 hR.h0 rfl ?_
                refine v_iload 0 o dX5_book_80 rfl ?_
                refine v_lt (fun hlt => ?_)
                refine v_new [.null, .int 0, .int 0, .int 0, .int 0, .int 0, .int 0, .int 0] o dX5_book_82 cf0 cl_X5_9 ins_X0 ini_X0 (fun j hj => by rcases (show j = 0 ∨ j = 1 ∨ j = 2 ∨ j = 3 ∨ j = 4 ∨ j = 5 ∨ j = 6 ∨ j = 7 by omega) with rfl | rfl | rfl | rfl | rfl | rfl | rfl | rfl <;> rfl) (Nat.le_of_ble_eq_true rfl) (Nat.le_of_ble_eq_true rfl) ?_
                refine v_dup o dX5_book_85 rfl ?_
                refine v_iload_n 2 o dX5_book_86 rfl rfl ?_
                refine v_iload_n 3 o dX5_book_87 rfl rfl ?_
                refine v_iload_n 4 o dX5_book_88 rfl rfl ?_
                refine v_iload 5 o dX5_book_89 rfl ?_
                refine v_iload 6 o dX5_book_91 rfl ?_
                refine v_callI (b := z) [.int (nI nn), .int wide, .int strong, .int wished, .int died] [.ref z, .int (nI (σ.1 3 0)), .ref (x + 1)] o dX5_book_93 cw_X5_68 rfl im_X0_init (c_Book hl (μ0 := μ) nn hn12 wide strong wished died) rfl rfl ⟨Nat.le_of_ble_eq_true rfl, Nat.le_of_ble_eq_true rfl⟩ ⟨Nat.le_of_ble_eq_true rfl, Nat.le_of_ble_eq_true rfl⟩ (Nat.le_of_ble_eq_true rfl) ?_ (fun _ _ _ _ h => h.elim)
                rintro _ μ9 _ _ ⟨rfl, hB9, rfl⟩
                refine v_st [.ref z, .int (nI (σ.1 3 0)), .ref (x + 1)] rfl ?_
                have hx12 := hR.2.2.1.1
                refine v_aast (t0 := 4) o dX5_book_96 rfl cf0 (show σ.1 3 0 < 6 by omega) (by decide) ((hB9.2.2.2 (x + 1) (by omega)).trans hR.h1) hB9.1 (fun μ8 e8 => ?_)
                refine v_aload_n 1 o dX5_book_97 rfl rfl ?_
                refine v_iload 0 o dX5_book_98 rfl ?_
                refine v_iconst 1 o dX5_book_100 rfl ?_
                refine v_iadd (nI (σ.1 3 0 + 1)) o dX5_book_101 (nI_add (σ.1 3 0) 1) ?_
                refine v_put _ o dX5_book_102 cf5 1 (by decide) (by decide) fl_X5_58 ((by rw [e8, up_n (by omega), hB9.2.2.2 x (by omega)]; exact hR.h0) : μ8 x = some (.inr (5, [.ref (x + 1), .int (nI (σ.1 3 0)), .int (σ.2.2.1 8 0), .ref (x + 2), .ref (x + 3), .ref (x + 7), .ref (x + 9), .int (σ.2.2.1 8 1), .ref (x + 11)]))) rfl rfl (Nat.le_of_ble_eq_true rfl) rfl (fun μ7 e7 => ?_)
                refine v_iload 0 o dX5_book_105 rfl ?_
                have e9 : sp_book σ (nI nn) wide strong wished died = (nI (σ.1 3 0), uN (uI (uI (uI (uI (uN (th σ 0) 0 (σ.1 3 0) nn) 0 (σ.1 3 0) wide) 1 (σ.1 3 0) strong) 2 (σ.1 3 0) wished) 3 (σ.1 3 0) died) 3 0 (σ.1 3 0 + 1)) := by simp [sp_book, th, h1, h2, h3, h4, tm, h0, h5, h6n]
                have hAdd : RC g x (fun i => if i = σ.1 3 0 then z else B i) z0 μ0 (uN (uI (uI (uI (uI (uN (th σ 0) 0 (σ.1 3 0) nn) 0 (σ.1 3 0) wide) 1 (σ.1 3 0) strong) 2 (σ.1 3 0) wished) 3 (σ.1 3 0) died) 3 0 (σ.1 3 0 + 1)) τ μ7 := hR.add hI (by omega) hn12 hz0 hlt (by simp [uN, uI, u2, th]) (by simp [uN, uI, u2, th]) (by simp [uN, uI, u2, th]) (fun i hi => by simp [uN, uI, u2, th, hi]) rfl rfl rfl rfl (fun k hk => by
                  funext i
                  show u2 (u2 (u2 (u2 σ.2.2.1 0 _ _) 1 _ _) 2 _ _) 3 _ _ k i = _
                  rw [u2_k (by omega), u2_k (by omega), u2_k (by omega), u2_k (by omega)]) (fun k i hi => Or.inl (by
                  show u2 (u2 (u2 (u2 σ.2.2.1 0 _ _) 1 _ _) 2 _ _) 3 _ _ k i = _
                  rw [u2_i hi, u2_i hi, u2_i hi, u2_i hi])) (by simp [uN, uI, u2, th]) hB9 e8 e7
                exact v_iret o dX5_book_107 hr (Nat.le_of_ble_eq_true rfl) (Nat.le_of_ble_eq_true rfl) (by rw [e9]; exact ⟨rfl, by simp [uN, uI, u2, th], _, _, hAdd⟩)

