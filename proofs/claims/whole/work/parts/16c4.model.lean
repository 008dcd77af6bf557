noncomputable def f_X9_doMatch (fu : Nat) (n_filter : Nat) (n_stack : Nat) (filterSize : Int32) (filter : Nat → Int32) (v1 : Int32) (v2 : Int32) (stack : Nat → Int32) : Option (Int32 × (Nat → Int32)) := (k_let ((v1 / 199) / 6) fun x_1 => if x_1 = (v2 / 19) then (k_let ((v1 / 199) - (v1 / 199) / 6 * 6) fun x_4 => k_let (v1 - v1 / 199 * 199) fun x_5 => k_let (v2 - v2 / 19 * 19) fun x_6 => k_b2 (f_X9_holds fu n_filter n_stack filterSize filter x_1 x_4 (x_5 - 99) (x_6 - 9) stack) fun r_8 stack__9 => (if r_8 = 0 then (if vp_nar .boolean (0 : Int32) = (0 : Int32) then some (0, stack__9) else none) else (if vp_nar .boolean (1 : Int32) = (1 : Int32) then some (1, stack__9) else none))) else (if vp_nar .boolean (0 : Int32) = (0 : Int32) then some (0, stack) else none))
abbrev rm_X9_doMatch : Room := { frames := 2, cells := 0, slots := 0, locals := 54 }
theorem pd_X9_doMatch : k_D1 yX9_doMatch 2 := by decide +kernel
set_option maxHeartbeats 4000000 in
set_option maxRecDepth 100000 in
theorem m_X9_doMatch (l : Launch) (D : va_G) (cA : Nat → ClassId) (sz : Nat) (a_this a_filter a_stack : Nat) (w_rows : Nat) (w_size : Nat) (w_made : Nat) (w_pending : Nat) (w_savedFilter : Nat) (w_counts : Nat) (w_totals : Nat) (w_ranked : Nat) (w_watchGroup : Nat) (w_watchBound : Nat) (w_savedGroup : Nat) (w_savedBound : Nat) (w_text : Nat) (fu : Nat) (n_filter : Nat) (n_stack : Nat) (thrown : Int32) (changes : Int32) (undoable : Int32) (filterSize : Int32) (madeSize : Int32) (pendings : Int32) (savedFilterSize : Int32) (foundKey : Int32) (foundGroup : Int32) (foundProduct : Int32) (foundMany : Int32) (isClean : Int32) (groupRows : Int32) (groupTotal : Int32) (watches : Int32) (savedWatches : Int32) (length : Int32) (at_ : Int32) (parens : Int32) (faultAt : Int32) (isSaved : Int32) (filter : Nat → Int32) (stack : Nat → Int32) (v1 : Int32) (v2 : Int32) (ret_ : Int32) (stack' : Nat → Int32) (h : f_X9_doMatch fu n_filter n_stack filterSize filter v1 v2 stack = some (ret_, stack')) : k_M l yX9_doMatch prog_11_method_32_code 4 (some .boolean) rm_X9_doMatch D cA [.ref a_this, .int v1, .int v2] [(a_this, .inr (9, [.int thrown, .ref w_rows, .ref w_size, .int changes, .int undoable, .ref a_filter, .ref w_made, .ref w_pending, .ref w_savedFilter, .ref a_stack, .int filterSize, .int madeSize, .int pendings, .int savedFilterSize, .ref w_counts, .int foundKey, .int foundGroup, .int foundProduct, .int foundMany, .int isClean, .int groupRows, .int groupTotal, .ref w_totals, .ref w_ranked, .ref w_watchGroup, .ref w_watchBound, .ref w_savedGroup, .ref w_savedBound, .int watches, .int savedWatches, .ref w_text, .int length, .int at_, .int parens, .int faultAt, .int isSaved])), (a_filter, .inl (cA 0, n_filter, .inl filter)), (a_stack, .inl (cA 2, n_stack, .inl stack))] sz (some (.int ret_)) [(a_this, .inr (9, [.int thrown, .ref w_rows, .ref w_size, .int changes, .int undoable, .ref a_filter, .ref w_made, .ref w_pending, .ref w_savedFilter, .ref a_stack, .int filterSize, .int madeSize, .int pendings, .int savedFilterSize, .ref w_counts, .int foundKey, .int foundGroup, .int foundProduct, .int foundMany, .int isClean, .int groupRows, .int groupTotal, .ref w_totals, .ref w_ranked, .ref w_watchGroup, .ref w_watchBound, .ref w_savedGroup, .ref w_savedBound, .int watches, .int savedWatches, .ref w_text, .int length, .int at_, .int parens, .int faultAt, .int isSaved])), (a_filter, .inl (cA 0, n_filter, .inl filter)), (a_stack, .inl (cA 2, n_stack, .inl (stack')))] := by
  refine k_ofW (by decide) (Nat.le_of_ble_eq_true rfl) ?_
  intro p e s m below meth c A ls hx hb hr hml hts hown hlocks hB hA hW hl
  have hl : lv_has ls 4 [(0, .ref a_this), (1, .int v1), (2, .int v2)] := hl
  obtain ⟨H, eH⟩ : ∃ H, H = s.heap := ⟨_, rfl⟩
  obtain ⟨locs, eL⟩ : ∃ L : List Loc, L = [] := ⟨_, rfl⟩
  have hW : k_Wd D A s.heap [(a_this, .inr (9, [.int thrown, .ref w_rows, .ref w_size, .int changes, .int undoable, .ref a_filter, .ref w_made, .ref w_pending, .ref w_savedFilter, .ref a_stack, .int filterSize, .int madeSize, .int pendings, .int savedFilterSize, .ref w_counts, .int foundKey, .int foundGroup, .int foundProduct, .int foundMany, .int isClean, .int groupRows, .int groupTotal, .ref w_totals, .ref w_ranked, .ref w_watchGroup, .ref w_watchBound, .ref w_savedGroup, .ref w_savedBound, .int watches, .int savedWatches, .ref w_text, .int length, .int at_, .int parens, .int faultAt, .int isSaved])), (a_filter, .inl (cA 0, n_filter, .inl filter)), (a_stack, .inl (cA 2, n_stack, .inl stack))] H locs := by rw [eH, eL]; exact hW
  suffices K : W p l e rm_X9_doMatch s m [.ref a_this, .int v1, .int v2].toArray below meth c H locs 0 0 (MQ below (k_Q (some (.int ret_)) D [(a_this, .inr (9, [.int thrown, .ref w_rows, .ref w_size, .int changes, .int undoable, .ref a_filter, .ref w_made, .ref w_pending, .ref w_savedFilter, .ref a_stack, .int filterSize, .int madeSize, .int pendings, .int savedFilterSize, .ref w_counts, .int foundKey, .int foundGroup, .int foundProduct, .int foundMany, .int isClean, .int groupRows, .int groupTotal, .ref w_totals, .ref w_ranked, .ref w_watchGroup, .ref w_watchBound, .ref w_savedGroup, .ref w_savedBound, .int watches, .int savedWatches, .ref w_text, .int length, .int at_, .int parens, .int faultAt, .int isSaved])), (a_filter, .inl (cA 0, n_filter, .inl filter)), (a_stack, .inl (cA 2, n_stack, .inl (stack')))] A) [.ref a_this, .int v1, .int v2].toArray s 0 0 A) (F0 m 0 ls []) by rw [eH, eL] at K; exact K
  clear eH eL
  refine lv_iload_n hx hb dX9_doMatch_0 rfl (lv_at hl 1 rfl) ?_
  refine lv_sipush (v := 199) hx hb dX9_doMatch_1 (by decide) ?_
  refine lv_idiv hx hb dX9_doMatch_4 (by decide) ?_
  refine lv_bipush (v := 6) hx hb dX9_doMatch_5 (by decide) ?_
  refine lv_idiv hx hb dX9_doMatch_7 (by decide) ?_
  refine lv_topi (fun x_1 ex_1 => ?_)
  have h := k_letE ex_1 h
  refine lv_istore_n (lv' := [(3, .int x_1), (0, .ref a_this), (1, .int v1), (2, .int v2)]) hx hb dX9_doMatch_8 rfl hl (by decide) rfl (fun ls hl => ?_)
  refine lv_iload_n hx hb dX9_doMatch_9 rfl (lv_at hl 0 rfl) ?_
  refine lv_iload_n hx hb dX9_doMatch_10 rfl (lv_at hl 3 rfl) ?_
  refine lv_bipush (v := 19) hx hb dX9_doMatch_11 (by decide) ?_
  refine lv_idiv hx hb dX9_doMatch_13 (by decide) ?_
  refine lv_icmp_ne (tgt := 52) hx hb dX9_doMatch_14 (by decide) (fun c_2 => ?_) (fun c_2 => ?_)
  · have h := k_f c_2 h
    refine lv_iconst (v := 0) hx hb dX9_doMatch_52 (by decide) ?_
    obtain ⟨c_3, h⟩ := k_g h
    obtain ⟨z0, z1⟩ := k_inj2 h
    rw [← z0, ← z1]
    exact W.zret hx hb hr (k_narZ c_3) (fun t ht hWm => ⟨rfl, by rw [ht]; exact hW.1, hW.2.2.F ht⟩) hW.2.2.2.2 dX9_doMatch_53
  · have h := k_t c_2 h
    refine lv_aload_n hx hb dX9_doMatch_17 rfl (lv_at hl 1 rfl) ?_
    refine lv_iload_n hx hb dX9_doMatch_18 rfl (lv_at hl 0 rfl) ?_
    refine lv_iload_n hx hb dX9_doMatch_19 rfl (lv_at hl 2 rfl) ?_
    refine lv_sipush (v := 199) hx hb dX9_doMatch_20 (by decide) ?_
    refine lv_idiv hx hb dX9_doMatch_23 (by decide) ?_
    refine lv_bipush (v := 6) hx hb dX9_doMatch_24 (by decide) ?_
    refine lv_irem hx hb dX9_doMatch_26 (by decide) ?_
    refine lv_topi (fun x_4 ex_4 => ?_)
    have h := k_letE ex_4 h
    refine lv_iload_n hx hb dX9_doMatch_27 rfl (lv_at hl 2 rfl) ?_
    refine lv_sipush (v := 199) hx hb dX9_doMatch_28 (by decide) ?_
    refine lv_irem hx hb dX9_doMatch_31 (by decide) ?_
    refine lv_topi (fun x_5 ex_5 => ?_)
    have h := k_letE ex_5 h
    refine lv_bipush (v := 99) hx hb dX9_doMatch_32 (by decide) ?_
    refine lv_isub hx hb dX9_doMatch_34 ?_
    refine lv_iload_n hx hb dX9_doMatch_35 rfl (lv_at hl 3 rfl) ?_
    refine lv_bipush (v := 19) hx hb dX9_doMatch_36 (by decide) ?_
    refine lv_irem hx hb dX9_doMatch_38 (by decide) ?_
    refine lv_topi (fun x_6 ex_6 => ?_)
    have h := k_letE ex_6 h
    refine lv_bipush (v := 9) hx hb dX9_doMatch_39 (by decide) ?_
    refine lv_isub hx hb dX9_doMatch_41 ?_
    obtain ⟨r_8, stack__9, h_7, h⟩ := k_bE2 h
    refine k_callV (C := RX9) (ws' := [(a_this, .inr (9, [.int thrown, .ref w_rows, .ref w_size, .int changes, .int undoable, .ref a_filter, .ref w_made, .ref w_pending, .ref w_savedFilter, .ref a_stack, .int filterSize, .int madeSize, .int pendings, .int savedFilterSize, .ref w_counts, .int foundKey, .int foundGroup, .int foundProduct, .int foundMany, .int isClean, .int groupRows, .int groupTotal, .ref w_totals, .ref w_ranked, .ref w_watchGroup, .ref w_watchBound, .ref w_savedGroup, .ref w_savedBound, .int watches, .int savedWatches, .ref w_text, .int length, .int at_, .int parens, .int faultAt, .int isSaved])), (a_filter, .inl (cA 0, n_filter, .inl filter)), (a_stack, .inl (cA 2, n_stack, .inl stack__9))]) (As := [.int x_1, .int x_4, .int (x_5 - 99), .int (x_6 - 9)]) (rest := []) (b := a_this) (m_X9_holds l D cA H.size a_this a_filter a_stack w_rows w_size w_made w_pending w_savedFilter w_counts w_totals w_ranked w_watchGroup w_watchBound w_savedGroup w_savedBound w_text fu n_filter n_stack thrown changes undoable filterSize madeSize pendings savedFilterSize foundKey foundGroup foundProduct foundMany isClean groupRows groupTotal watches savedWatches length at_ parens faultAt isSaved filter stack x_1 x_4 (x_5 - 99) (x_6 - 9) r_8 stack__9 h_7) hx hb hml hown hts hB hA hW hl.1 q6_98 q1_10 q6_97 qs_yX9_holds q6_95 pd_X9_holds ⟨rfl, rfl, Nat.le_of_ble_eq_true rfl, Nat.le_of_ble_eq_true rfl⟩ rfl 0 rfl rfl [0, 1, 2] [] ⟨rfl, rfl, rfl, trivial⟩ rfl ⟨⟨rfl, rfl, rfl, trivial⟩, trivial, rfl⟩ rfl rfl (Nat.le_of_ble_eq_true rfl) ⟨Nat.zero_le _, Nat.zero_le _⟩ dX9_doMatch_42 (st1 := [.int r_8]) rfl (fun H locs hW => ?_)
    refine lv_if_eq (tgt := 52) hx hb dX9_doMatch_45 (by decide) (fun c_11 => ?_) (fun c_11 => ?_)
    · have h := k_t c_11 h
      refine lv_iconst (v := 0) hx hb dX9_doMatch_52 (by decide) ?_
      obtain ⟨c_12, h⟩ := k_g h
      obtain ⟨z0, z1⟩ := k_inj2 h
      rw [← z0, ← z1]
      exact W.zret hx hb hr (k_narZ c_12) (fun t ht hWm => ⟨rfl, by rw [ht]; exact hW.1, hW.2.2.F ht⟩) hW.2.2.2.2 dX9_doMatch_53
    · have h := k_f c_11 h
      refine lv_iconst (v := 1) hx hb dX9_doMatch_48 (by decide) ?_
      refine lv_goto (tgt := 53) hx hb dX9_doMatch_49 (by decide) ?_
      obtain ⟨c_13, h⟩ := k_g h
      obtain ⟨z0, z1⟩ := k_inj2 h
      rw [← z0, ← z1]
      exact W.zret hx hb hr (k_narZ c_13) (fun t ht hWm => ⟨rfl, by rw [ht]; exact hW.1, hW.2.2.F ht⟩) hW.2.2.2.2 dX9_doMatch_53
