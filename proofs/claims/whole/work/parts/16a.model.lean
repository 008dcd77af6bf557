noncomputable def f_X9_thrown (thrown : Int32) : Option (Int32) := (some (thrown))
abbrev rm_X9_thrown : Room := { frames := 0, cells := 0, slots := 0, locals := 0 }
theorem pd_X9_thrown : k_D1 yX9_thrown 0 := by decide +kernel
set_option maxHeartbeats 4000000 in
set_option maxRecDepth 100000 in
theorem m_X9_thrown (l : Launch) (D : va_G) (cA : Nat → ClassId) (sz : Nat) (a_this : Nat) (w_rows : Nat) (w_size : Nat) (w_filter : Nat) (w_made : Nat) (w_pending : Nat) (w_savedFilter : Nat) (w_stack : Nat) (w_counts : Nat) (w_totals : Nat) (w_ranked : Nat) (w_watchGroup : Nat) (w_watchBound : Nat) (w_savedGroup : Nat) (w_savedBound : Nat) (w_text : Nat) (thrown : Int32) (changes : Int32) (undoable : Int32) (filterSize : Int32) (madeSize : Int32) (pendings : Int32) (savedFilterSize : Int32) (foundKey : Int32) (foundGroup : Int32) (foundProduct : Int32) (foundMany : Int32) (isClean : Int32) (groupRows : Int32) (groupTotal : Int32) (watches : Int32) (savedWatches : Int32) (length : Int32) (at_ : Int32) (parens : Int32) (faultAt : Int32) (isSaved : Int32) (ret_ : Int32) (h : f_X9_thrown thrown = some (ret_)) : k_M l yX9_thrown prog_11_method_2_code 1 (some .int) rm_X9_thrown D cA [.ref a_this] [(a_this, .inr (9, [.int thrown, .ref w_rows, .ref w_size, .int changes, .int undoable, .ref w_filter, .ref w_made, .ref w_pending, .ref w_savedFilter, .ref w_stack, .int filterSize, .int madeSize, .int pendings, .int savedFilterSize, .ref w_counts, .int foundKey, .int foundGroup, .int foundProduct, .int foundMany, .int isClean, .int groupRows, .int groupTotal, .ref w_totals, .ref w_ranked, .ref w_watchGroup, .ref w_watchBound, .ref w_savedGroup, .ref w_savedBound, .int watches, .int savedWatches, .ref w_text, .int length, .int at_, .int parens, .int faultAt, .int isSaved]))] sz (some (.int ret_)) [(a_this, .inr (9, [.int thrown, .ref w_rows, .ref w_size, .int changes, .int undoable, .ref w_filter, .ref w_made, .ref w_pending, .ref w_savedFilter, .ref w_stack, .int filterSize, .int madeSize, .int pendings, .int savedFilterSize, .ref w_counts, .int foundKey, .int foundGroup, .int foundProduct, .int foundMany, .int isClean, .int groupRows, .int groupTotal, .ref w_totals, .ref w_ranked, .ref w_watchGroup, .ref w_watchBound, .ref w_savedGroup, .ref w_savedBound, .int watches, .int savedWatches, .ref w_text, .int length, .int at_, .int parens, .int faultAt, .int isSaved]))] := by
  refine k_ofW (by decide) (Nat.le_of_ble_eq_true rfl) ?_
  intro p e s m below meth c A ls hx hb hr hml hts hown hlocks hB hA hW hl
  have hl : lv_has ls 1 [(0, .ref a_this)] := hl
  obtain ⟨H, eH⟩ : ∃ H, H = s.heap := ⟨_, rfl⟩
  obtain ⟨locs, eL⟩ : ∃ L : List Loc, L = [] := ⟨_, rfl⟩
  have hW : k_Wd D A s.heap [(a_this, .inr (9, [.int thrown, .ref w_rows, .ref w_size, .int changes, .int undoable, .ref w_filter, .ref w_made, .ref w_pending, .ref w_savedFilter, .ref w_stack, .int filterSize, .int madeSize, .int pendings, .int savedFilterSize, .ref w_counts, .int foundKey, .int foundGroup, .int foundProduct, .int foundMany, .int isClean, .int groupRows, .int groupTotal, .ref w_totals, .ref w_ranked, .ref w_watchGroup, .ref w_watchBound, .ref w_savedGroup, .ref w_savedBound, .int watches, .int savedWatches, .ref w_text, .int length, .int at_, .int parens, .int faultAt, .int isSaved]))] H locs := by rw [eH, eL]; exact hW
  suffices K : W p l e rm_X9_thrown s m [.ref a_this].toArray below meth c H locs 0 0 (MQ below (k_Q (some (.int ret_)) D [(a_this, .inr (9, [.int thrown, .ref w_rows, .ref w_size, .int changes, .int undoable, .ref w_filter, .ref w_made, .ref w_pending, .ref w_savedFilter, .ref w_stack, .int filterSize, .int madeSize, .int pendings, .int savedFilterSize, .ref w_counts, .int foundKey, .int foundGroup, .int foundProduct, .int foundMany, .int isClean, .int groupRows, .int groupTotal, .ref w_totals, .ref w_ranked, .ref w_watchGroup, .ref w_watchBound, .ref w_savedGroup, .ref w_savedBound, .int watches, .int savedWatches, .ref w_text, .int length, .int at_, .int parens, .int faultAt, .int isSaved]))] A) [.ref a_this].toArray s 0 0 A) (F0 m 0 ls []) by rw [eH, eL] at K; exact K
  clear eH eL
  refine lv_aload_n hx hb dX9_thrown_0 rfl (lv_at hl 0 rfl) ?_
  refine va_get (D := D) (ci := 9) (v := .int thrown) (C := RX9) (T := TX9) (N := 36) hx hb hts iX9 hown hB.1 hW.1 0 rfl rfl 0 (by decide) (hts _ q5_126) (fun _ h9 => h9) rfl dX9_thrown_1 ?_
  have z0 := k_inj1 h
  rw [← z0]
  exact W.iret hx hb hr (fun t ht hWm => ⟨rfl, by rw [ht]; exact hW.1, hW.2.2.F ht⟩) hW.2.2.2.2 dX9_thrown_4
noncomputable def f_X9_fails (v1 : Int32) (thrown : Int32) : Option (Int32 × Int32) := (some (0, v1))
abbrev rm_X9_fails : Room := { frames := 0, cells := 0, slots := 0, locals := 0 }
theorem pd_X9_fails : k_D1 yX9_fails 1 := by decide +kernel
set_option maxHeartbeats 4000000 in
set_option maxRecDepth 100000 in
theorem m_X9_fails (l : Launch) (D : va_G) (cA : Nat → ClassId) (sz : Nat) (a_this : Nat) (w_rows : Nat) (w_size : Nat) (w_filter : Nat) (w_made : Nat) (w_pending : Nat) (w_savedFilter : Nat) (w_stack : Nat) (w_counts : Nat) (w_totals : Nat) (w_ranked : Nat) (w_watchGroup : Nat) (w_watchBound : Nat) (w_savedGroup : Nat) (w_savedBound : Nat) (w_text : Nat) (thrown : Int32) (changes : Int32) (undoable : Int32) (filterSize : Int32) (madeSize : Int32) (pendings : Int32) (savedFilterSize : Int32) (foundKey : Int32) (foundGroup : Int32) (foundProduct : Int32) (foundMany : Int32) (isClean : Int32) (groupRows : Int32) (groupTotal : Int32) (watches : Int32) (savedWatches : Int32) (length : Int32) (at_ : Int32) (parens : Int32) (faultAt : Int32) (isSaved : Int32) (v1 : Int32) (ret_ : Int32) (thrown' : Int32) (h : f_X9_fails v1 thrown = some (ret_, thrown')) : k_M l yX9_fails prog_11_method_3_code 2 (some .int) rm_X9_fails D cA [.ref a_this, .int v1] [(a_this, .inr (9, [.int thrown, .ref w_rows, .ref w_size, .int changes, .int undoable, .ref w_filter, .ref w_made, .ref w_pending, .ref w_savedFilter, .ref w_stack, .int filterSize, .int madeSize, .int pendings, .int savedFilterSize, .ref w_counts, .int foundKey, .int foundGroup, .int foundProduct, .int foundMany, .int isClean, .int groupRows, .int groupTotal, .ref w_totals, .ref w_ranked, .ref w_watchGroup, .ref w_watchBound, .ref w_savedGroup, .ref w_savedBound, .int watches, .int savedWatches, .ref w_text, .int length, .int at_, .int parens, .int faultAt, .int isSaved]))] sz (some (.int ret_)) [(a_this, .inr (9, [.int (thrown'), .ref w_rows, .ref w_size, .int changes, .int undoable, .ref w_filter, .ref w_made, .ref w_pending, .ref w_savedFilter, .ref w_stack, .int filterSize, .int madeSize, .int pendings, .int savedFilterSize, .ref w_counts, .int foundKey, .int foundGroup, .int foundProduct, .int foundMany, .int isClean, .int groupRows, .int groupTotal, .ref w_totals, .ref w_ranked, .ref w_watchGroup, .ref w_watchBound, .ref w_savedGroup, .ref w_savedBound, .int watches, .int savedWatches, .ref w_text, .int length, .int at_, .int parens, .int faultAt, .int isSaved]))] := by
  refine k_ofW (by decide) (Nat.le_of_ble_eq_true rfl) ?_
  intro p e s m below meth c A ls hx hb hr hml hts hown hlocks hB hA hW hl
  have hl : lv_has ls 2 [(0, .ref a_this), (1, .int v1)] := hl
  obtain ⟨H, eH⟩ : ∃ H, H = s.heap := ⟨_, rfl⟩
  obtain ⟨locs, eL⟩ : ∃ L : List Loc, L = [] := ⟨_, rfl⟩
  have hW : k_Wd D A s.heap [(a_this, .inr (9, [.int thrown, .ref w_rows, .ref w_size, .int changes, .int undoable, .ref w_filter, .ref w_made, .ref w_pending, .ref w_savedFilter, .ref w_stack, .int filterSize, .int madeSize, .int pendings, .int savedFilterSize, .ref w_counts, .int foundKey, .int foundGroup, .int foundProduct, .int foundMany, .int isClean, .int groupRows, .int groupTotal, .ref w_totals, .ref w_ranked, .ref w_watchGroup, .ref w_watchBound, .ref w_savedGroup, .ref w_savedBound, .int watches, .int savedWatches, .ref w_text, .int length, .int at_, .int parens, .int faultAt, .int isSaved]))] H locs := by rw [eH, eL]; exact hW
  suffices K : W p l e rm_X9_fails s m [.ref a_this, .int v1].toArray below meth c H locs 0 0 (MQ below (k_Q (some (.int ret_)) D [(a_this, .inr (9, [.int (thrown'), .ref w_rows, .ref w_size, .int changes, .int undoable, .ref w_filter, .ref w_made, .ref w_pending, .ref w_savedFilter, .ref w_stack, .int filterSize, .int madeSize, .int pendings, .int savedFilterSize, .ref w_counts, .int foundKey, .int foundGroup, .int foundProduct, .int foundMany, .int isClean, .int groupRows, .int groupTotal, .ref w_totals, .ref w_ranked, .ref w_watchGroup, .ref w_watchBound, .ref w_savedGroup, .ref w_savedBound, .int watches, .int savedWatches, .ref w_text, .int length, .int at_, .int parens, .int faultAt, .int isSaved]))] A) [.ref a_this, .int v1].toArray s 0 0 A) (F0 m 0 ls []) by rw [eH, eL] at K; exact K
  clear eH eL
  refine lv_aload_n hx hb dX9_fails_0 rfl (lv_at hl 0 rfl) ?_
  refine lv_iload_n hx hb dX9_fails_1 rfl (lv_at hl 1 rfl) ?_
  refine va_put (D := D) (ci := 9) (v := .int v1) (ty := .int) (C := RX9) (T := TX9) (N := 36) hx hb hts iX9 tyX9 tyX9_ok nmX9 hown hB.1 hW.1 hW.2.1 hW.2.2 0 rfl rfl 0 (by decide) (hts _ q5_126) (fun _ h9 => h9) rfl (tyX9_ok 0 (by decide)) rfl rfl (Nat.le_of_ble_eq_true rfl) dX9_fails_2 (fun H locs hP hD hS => ?_)
  have hW : k_Wd D A s.heap [(a_this, .inr (9, [.int v1, .ref w_rows, .ref w_size, .int changes, .int undoable, .ref w_filter, .ref w_made, .ref w_pending, .ref w_savedFilter, .ref w_stack, .int filterSize, .int madeSize, .int pendings, .int savedFilterSize, .ref w_counts, .int foundKey, .int foundGroup, .int foundProduct, .int foundMany, .int isClean, .int groupRows, .int groupTotal, .ref w_totals, .ref w_ranked, .ref w_watchGroup, .ref w_watchBound, .ref w_savedGroup, .ref w_savedBound, .int watches, .int savedWatches, .ref w_text, .int length, .int at_, .int parens, .int faultAt, .int isSaved]))] H locs := ⟨hP, hD, hS⟩
  refine lv_iconst (v := 0) hx hb dX9_fails_5 (by decide) ?_
  obtain ⟨z0, z1⟩ := k_inj2 h
  rw [← z0, ← z1]
  exact W.iret hx hb hr (fun t ht hWm => ⟨rfl, by rw [ht]; exact hW.1, hW.2.2.F ht⟩) hW.2.2.2.2 dX9_fails_6
noncomputable def f_X9_refuses (v1 : Int32) (thrown : Int32) : Option (Int32 × Int32) := (if vp_nar .boolean (0 : Int32) = (0 : Int32) then some (0, v1) else none)
abbrev rm_X9_refuses : Room := { frames := 0, cells := 0, slots := 0, locals := 0 }
theorem pd_X9_refuses : k_D1 yX9_refuses 1 := by decide +kernel
set_option maxHeartbeats 4000000 in
set_option maxRecDepth 100000 in
theorem m_X9_refuses (l : Launch) (D : va_G) (cA : Nat → ClassId) (sz : Nat) (a_this : Nat) (w_rows : Nat) (w_size : Nat) (w_filter : Nat) (w_made : Nat) (w_pending : Nat) (w_savedFilter : Nat) (w_stack : Nat) (w_counts : Nat) (w_totals : Nat) (w_ranked : Nat) (w_watchGroup : Nat) (w_watchBound : Nat) (w_savedGroup : Nat) (w_savedBound : Nat) (w_text : Nat) (thrown : Int32) (changes : Int32) (undoable : Int32) (filterSize : Int32) (madeSize : Int32) (pendings : Int32) (savedFilterSize : Int32) (foundKey : Int32) (foundGroup : Int32) (foundProduct : Int32) (foundMany : Int32) (isClean : Int32) (groupRows : Int32) (groupTotal : Int32) (watches : Int32) (savedWatches : Int32) (length : Int32) (at_ : Int32) (parens : Int32) (faultAt : Int32) (isSaved : Int32) (v1 : Int32) (ret_ : Int32) (thrown' : Int32) (h : f_X9_refuses v1 thrown = some (ret_, thrown')) : k_M l yX9_refuses prog_11_method_4_code 2 (some .boolean) rm_X9_refuses D cA [.ref a_this, .int v1] [(a_this, .inr (9, [.int thrown, .ref w_rows, .ref w_size, .int changes, .int undoable, .ref w_filter, .ref w_made, .ref w_pending, .ref w_savedFilter, .ref w_stack, .int filterSize, .int madeSize, .int pendings, .int savedFilterSize, .ref w_counts, .int foundKey, .int foundGroup, .int foundProduct, .int foundMany, .int isClean, .int groupRows, .int groupTotal, .ref w_totals, .ref w_ranked, .ref w_watchGroup, .ref w_watchBound, .ref w_savedGroup, .ref w_savedBound, .int watches, .int savedWatches, .ref w_text, .int length, .int at_, .int parens, .int faultAt, .int isSaved]))] sz (some (.int ret_)) [(a_this, .inr (9, [.int (thrown'), .ref w_rows, .ref w_size, .int changes, .int undoable, .ref w_filter, .ref w_made, .ref w_pending, .ref w_savedFilter, .ref w_stack, .int filterSize, .int madeSize, .int pendings, .int savedFilterSize, .ref w_counts, .int foundKey, .int foundGroup, .int foundProduct, .int foundMany, .int isClean, .int groupRows, .int groupTotal, .ref w_totals, .ref w_ranked, .ref w_watchGroup, .ref w_watchBound, .ref w_savedGroup, .ref w_savedBound, .int watches, .int savedWatches, .ref w_text, .int length, .int at_, .int parens, .int faultAt, .int isSaved]))] := by
  refine k_ofW (by decide) (Nat.le_of_ble_eq_true rfl) ?_
  intro p e s m below meth c A ls hx hb hr hml hts hown hlocks hB hA hW hl
  have hl : lv_has ls 2 [(0, .ref a_this), (1, .int v1)] := hl
  obtain ⟨H, eH⟩ : ∃ H, H = s.heap := ⟨_, rfl⟩
  obtain ⟨locs, eL⟩ : ∃ L : List Loc, L = [] := ⟨_, rfl⟩
  have hW : k_Wd D A s.heap [(a_this, .inr (9, [.int thrown, .ref w_rows, .ref w_size, .int changes, .int undoable, .ref w_filter, .ref w_made, .ref w_pending, .ref w_savedFilter, .ref w_stack, .int filterSize, .int madeSize, .int pendings, .int savedFilterSize, .ref w_counts, .int foundKey, .int foundGroup, .int foundProduct, .int foundMany, .int isClean, .int groupRows, .int groupTotal, .ref w_totals, .ref w_ranked, .ref w_watchGroup, .ref w_watchBound, .ref w_savedGroup, .ref w_savedBound, .int watches, .int savedWatches, .ref w_text, .int length, .int at_, .int parens, .int faultAt, .int isSaved]))] H locs := by rw [eH, eL]; exact hW
  suffices K : W p l e rm_X9_refuses s m [.ref a_this, .int v1].toArray below meth c H locs 0 0 (MQ below (k_Q (some (.int ret_)) D [(a_this, .inr (9, [.int (thrown'), .ref w_rows, .ref w_size, .int changes, .int undoable, .ref w_filter, .ref w_made, .ref w_pending, .ref w_savedFilter, .ref w_stack, .int filterSize, .int madeSize, .int pendings, .int savedFilterSize, .ref w_counts, .int foundKey, .int foundGroup, .int foundProduct, .int foundMany, .int isClean, .int groupRows, .int groupTotal, .ref w_totals, .ref w_ranked, .ref w_watchGroup, .ref w_watchBound, .ref w_savedGroup, .ref w_savedBound, .int watches, .int savedWatches, .ref w_text, .int length, .int at_, .int parens, .int faultAt, .int isSaved]))] A) [.ref a_this, .int v1].toArray s 0 0 A) (F0 m 0 ls []) by rw [eH, eL] at K; exact K
  clear eH eL
  refine lv_aload_n hx hb dX9_refuses_0 rfl (lv_at hl 0 rfl) ?_
  refine lv_iload_n hx hb dX9_refuses_1 rfl (lv_at hl 1 rfl) ?_
  refine va_put (D := D) (ci := 9) (v := .int v1) (ty := .int) (C := RX9) (T := TX9) (N := 36) hx hb hts iX9 tyX9 tyX9_ok nmX9 hown hB.1 hW.1 hW.2.1 hW.2.2 0 rfl rfl 0 (by decide) (hts _ q5_126) (fun _ h9 => h9) rfl (tyX9_ok 0 (by decide)) rfl rfl (Nat.le_of_ble_eq_true rfl) dX9_refuses_2 (fun H locs hP hD hS => ?_)
  have hW : k_Wd D A s.heap [(a_this, .inr (9, [.int v1, .ref w_rows, .ref w_size, .int changes, .int undoable, .ref w_filter, .ref w_made, .ref w_pending, .ref w_savedFilter, .ref w_stack, .int filterSize, .int madeSize, .int pendings, .int savedFilterSize, .ref w_counts, .int foundKey, .int foundGroup, .int foundProduct, .int foundMany, .int isClean, .int groupRows, .int groupTotal, .ref w_totals, .ref w_ranked, .ref w_watchGroup, .ref w_watchBound, .ref w_savedGroup, .ref w_savedBound, .int watches, .int savedWatches, .ref w_text, .int length, .int at_, .int parens, .int faultAt, .int isSaved]))] H locs := ⟨hP, hD, hS⟩
  refine lv_iconst (v := 0) hx hb dX9_refuses_5 (by decide) ?_
  obtain ⟨c_1, h⟩ := k_g h
  obtain ⟨z0, z1⟩ := k_inj2 h
  rw [← z0, ← z1]
  exact W.zret hx hb hr (k_narZ c_1) (fun t ht hWm => ⟨rfl, by rw [ht]; exact hW.1, hW.2.2.F ht⟩) hW.2.2.2.2 dX9_refuses_6
noncomputable def f_X9_isBetween (v1 : Int32) (v2 : Int32) (v3 : Int32) : Option (Int32) := (if v1 < v2 then (if vp_nar .boolean (0 : Int32) = (0 : Int32) then some (0) else none) else (if v3 < v1 then (if vp_nar .boolean (0 : Int32) = (0 : Int32) then some (0) else none) else (if vp_nar .boolean (1 : Int32) = (1 : Int32) then some (1) else none)))
abbrev rm_X9_isBetween : Room := { frames := 0, cells := 0, slots := 0, locals := 0 }
theorem pd_X9_isBetween : k_D1 yX9_isBetween 3 := by decide +kernel
set_option maxHeartbeats 4000000 in
set_option maxRecDepth 100000 in
theorem m_X9_isBetween (l : Launch) (D : va_G) (cA : Nat → ClassId) (sz : Nat) (v1 : Int32) (v2 : Int32) (v3 : Int32) (ret_ : Int32) (h : f_X9_isBetween v1 v2 v3 = some (ret_)) : k_M l yX9_isBetween prog_11_method_5_code 3 (some .boolean) rm_X9_isBetween D cA [.int v1, .int v2, .int v3] [] sz (some (.int ret_)) [] := by
  refine k_ofW (by decide) (Nat.le_of_ble_eq_true rfl) ?_
  intro p e s m below meth c A ls hx hb hr hml hts hown hlocks hB hA hW hl
  have hl : lv_has ls 3 [(0, .int v1), (1, .int v2), (2, .int v3)] := hl
  obtain ⟨H, eH⟩ : ∃ H, H = s.heap := ⟨_, rfl⟩
  obtain ⟨locs, eL⟩ : ∃ L : List Loc, L = [] := ⟨_, rfl⟩
  have hW : k_Wd D A s.heap [] H locs := by rw [eH, eL]; exact hW
  suffices K : W p l e rm_X9_isBetween s m [.int v1, .int v2, .int v3].toArray below meth c H locs 0 0 (MQ below (k_Q (some (.int ret_)) D [] A) [.int v1, .int v2, .int v3].toArray s 0 0 A) (F0 m 0 ls []) by rw [eH, eL] at K; exact K
  clear eH eL
  refine lv_iload_n hx hb dX9_isBetween_0 rfl (lv_at hl 0 rfl) ?_
  refine lv_iload_n hx hb dX9_isBetween_1 rfl (lv_at hl 1 rfl) ?_
  refine lv_icmp_lt (tgt := 14) hx hb dX9_isBetween_2 (by decide) (fun c_1 => ?_) (fun c_1 => ?_)
  · have h := k_t c_1 h
    refine lv_iconst (v := 0) hx hb dX9_isBetween_14 (by decide) ?_
    obtain ⟨c_2, h⟩ := k_g h
    have z0 := k_inj1 h
    rw [← z0]
    exact W.zret hx hb hr (k_narZ c_2) (fun t ht hWm => ⟨rfl, by rw [ht]; exact hW.1, hW.2.2.F ht⟩) hW.2.2.2.2 dX9_isBetween_15
  · have h := k_f c_1 h
    refine lv_iload_n hx hb dX9_isBetween_5 rfl (lv_at hl 0 rfl) ?_
    refine lv_iload_n hx hb dX9_isBetween_6 rfl (lv_at hl 2 rfl) ?_
    refine lv_icmp_gt (tgt := 14) hx hb dX9_isBetween_7 (by decide) (fun c_3 => ?_) (fun c_3 => ?_)
    · have h := k_t c_3 h
      refine lv_iconst (v := 0) hx hb dX9_isBetween_14 (by decide) ?_
      obtain ⟨c_4, h⟩ := k_g h
      have z0 := k_inj1 h
      rw [← z0]
      exact W.zret hx hb hr (k_narZ c_4) (fun t ht hWm => ⟨rfl, by rw [ht]; exact hW.1, hW.2.2.F ht⟩) hW.2.2.2.2 dX9_isBetween_15
    · have h := k_f c_3 h
      refine lv_iconst (v := 1) hx hb dX9_isBetween_10 (by decide) ?_
      refine lv_goto (tgt := 15) hx hb dX9_isBetween_11 (by decide) ?_
      obtain ⟨c_5, h⟩ := k_g h
      have z0 := k_inj1 h
      rw [← z0]
      exact W.zret hx hb hr (k_narZ c_5) (fun t ht hWm => ⟨rfl, by rw [ht]; exact hW.1, hW.2.2.F ht⟩) hW.2.2.2.2 dX9_isBetween_15
noncomputable def f_X9_isLeft (v1 : Int32) (v2 : Int32) (v3 : Int32) : Option (Int32) := (k_b1 (f_X9_isBetween v1 0 9) fun r_2 => (if r_2 = 0 then (if vp_nar .boolean (0 : Int32) = (0 : Int32) then some (0) else none) else (k_b1 (f_X9_isBetween v2 0 5) fun r_7 => (if r_7 = 0 then (if vp_nar .boolean (0 : Int32) = (0 : Int32) then some (0) else none) else (k_b1 (f_X9_isBetween v3 (-99) 99) fun r_12 => (if r_12 = 0 then (if vp_nar .boolean (0 : Int32) = (0 : Int32) then some (0) else none) else (if vp_nar .boolean (1 : Int32) = (1 : Int32) then some (1) else none)))))))
abbrev rm_X9_isLeft : Room := { frames := 1, cells := 0, slots := 0, locals := 22 }
theorem pd_X9_isLeft : k_D1 yX9_isLeft 3 := by decide +kernel
set_option maxHeartbeats 4000000 in
set_option maxRecDepth 100000 in
theorem m_X9_isLeft (l : Launch) (D : va_G) (cA : Nat → ClassId) (sz : Nat) (v1 : Int32) (v2 : Int32) (v3 : Int32) (ret_ : Int32) (h : f_X9_isLeft v1 v2 v3 = some (ret_)) : k_M l yX9_isLeft prog_11_method_6_code 3 (some .boolean) rm_X9_isLeft D cA [.int v1, .int v2, .int v3] [] sz (some (.int ret_)) [] := by
  refine k_ofW (by decide) (Nat.le_of_ble_eq_true rfl) ?_
  intro p e s m below meth c A ls hx hb hr hml hts hown hlocks hB hA hW hl
  have hl : lv_has ls 3 [(0, .int v1), (1, .int v2), (2, .int v3)] := hl
  obtain ⟨H, eH⟩ : ∃ H, H = s.heap := ⟨_, rfl⟩
  obtain ⟨locs, eL⟩ : ∃ L : List Loc, L = [] := ⟨_, rfl⟩
  have hW : k_Wd D A s.heap [] H locs := by rw [eH, eL]; exact hW
  suffices K : W p l e rm_X9_isLeft s m [.int v1, .int v2, .int v3].toArray below meth c H locs 0 0 (MQ below (k_Q (some (.int ret_)) D [] A) [.int v1, .int v2, .int v3].toArray s 0 0 A) (F0 m 0 ls []) by rw [eH, eL] at K; exact K
  clear eH eL
  refine lv_iload_n hx hb dX9_isLeft_0 rfl (lv_at hl 0 rfl) ?_
  refine lv_iconst (v := 0) hx hb dX9_isLeft_1 (by decide) ?_
  refine lv_bipush (v := 9) hx hb dX9_isLeft_2 (by decide) ?_
  obtain ⟨r_2, h_1, h⟩ := k_bE1 h
  refine k_callS (ws' := []) (As := [.int v1, .int 0, .int 9]) (rest := []) (m_X9_isBetween l D cA H.size v1 0 9 r_2 h_1) hx hb hml hown hts hB hA hW hl.1 q6_9 q1_10 q6_8 q6_7 pd_X9_isBetween ⟨rfl, rfl, Nat.le_of_ble_eq_true rfl, Nat.le_of_ble_eq_true rfl⟩ rfl [] [] trivial rfl ⟨trivial, trivial, rfl⟩ rfl rfl (Nat.le_of_ble_eq_true rfl) ⟨Nat.zero_le _, Nat.zero_le _⟩ dX9_isLeft_4 (st1 := [.int r_2]) rfl (fun H locs hW => ?_)
  refine lv_if_eq (tgt := 34) hx hb dX9_isLeft_7 (by decide) (fun c_4 => ?_) (fun c_4 => ?_)
  · have h := k_t c_4 h
    refine lv_iconst (v := 0) hx hb dX9_isLeft_34 (by decide) ?_
    obtain ⟨c_5, h⟩ := k_g h
    have z0 := k_inj1 h
    rw [← z0]
    exact W.zret hx hb hr (k_narZ c_5) (fun t ht hWm => ⟨rfl, by rw [ht]; exact hW.1, hW.2.2.F ht⟩) hW.2.2.2.2 dX9_isLeft_35
  · have h := k_f c_4 h
    refine lv_iload_n hx hb dX9_isLeft_10 rfl (lv_at hl 1 rfl) ?_
    refine lv_iconst (v := 0) hx hb dX9_isLeft_11 (by decide) ?_
    refine lv_iconst (v := 5) hx hb dX9_isLeft_12 (by decide) ?_
    obtain ⟨r_7, h_6, h⟩ := k_bE1 h
    refine k_callS (ws' := []) (As := [.int v2, .int 0, .int 5]) (rest := []) (m_X9_isBetween l D cA H.size v2 0 5 r_7 h_6) hx hb hml hown hts hB hA hW hl.1 q6_9 q1_10 q6_8 q6_7 pd_X9_isBetween ⟨rfl, rfl, Nat.le_of_ble_eq_true rfl, Nat.le_of_ble_eq_true rfl⟩ rfl [] [] trivial rfl ⟨trivial, trivial, rfl⟩ rfl rfl (Nat.le_of_ble_eq_true rfl) ⟨Nat.zero_le _, Nat.zero_le _⟩ dX9_isLeft_13 (st1 := [.int r_7]) rfl (fun H locs hW => ?_)
    refine lv_if_eq (tgt := 34) hx hb dX9_isLeft_16 (by decide) (fun c_9 => ?_) (fun c_9 => ?_)
    · have h := k_t c_9 h
      refine lv_iconst (v := 0) hx hb dX9_isLeft_34 (by decide) ?_
      obtain ⟨c_10, h⟩ := k_g h
      have z0 := k_inj1 h
      rw [← z0]
      exact W.zret hx hb hr (k_narZ c_10) (fun t ht hWm => ⟨rfl, by rw [ht]; exact hW.1, hW.2.2.F ht⟩) hW.2.2.2.2 dX9_isLeft_35
    · have h := k_f c_9 h
      refine lv_iload_n hx hb dX9_isLeft_19 rfl (lv_at hl 2 rfl) ?_
      refine lv_bipush (v := (-99)) hx hb dX9_isLeft_20 (by decide) ?_
      refine lv_bipush (v := 99) hx hb dX9_isLeft_22 (by decide) ?_
      obtain ⟨r_12, h_11, h⟩ := k_bE1 h
      refine k_callS (ws' := []) (As := [.int v3, .int (-99), .int 99]) (rest := []) (m_X9_isBetween l D cA H.size v3 (-99) 99 r_12 h_11) hx hb hml hown hts hB hA hW hl.1 q6_9 q1_10 q6_8 q6_7 pd_X9_isBetween ⟨rfl, rfl, Nat.le_of_ble_eq_true rfl, Nat.le_of_ble_eq_true rfl⟩ rfl [] [] trivial rfl ⟨trivial, trivial, rfl⟩ rfl rfl (Nat.le_of_ble_eq_true rfl) ⟨Nat.zero_le _, Nat.zero_le _⟩ dX9_isLeft_24 (st1 := [.int r_12]) rfl (fun H locs hW => ?_)
      refine lv_if_eq (tgt := 34) hx hb dX9_isLeft_27 (by decide) (fun c_14 => ?_) (fun c_14 => ?_)
      · have h := k_t c_14 h
        refine lv_iconst (v := 0) hx hb dX9_isLeft_34 (by decide) ?_
        obtain ⟨c_15, h⟩ := k_g h
        have z0 := k_inj1 h
        rw [← z0]
        exact W.zret hx hb hr (k_narZ c_15) (fun t ht hWm => ⟨rfl, by rw [ht]; exact hW.1, hW.2.2.F ht⟩) hW.2.2.2.2 dX9_isLeft_35
      · have h := k_f c_14 h
        refine lv_iconst (v := 1) hx hb dX9_isLeft_30 (by decide) ?_
        refine lv_goto (tgt := 35) hx hb dX9_isLeft_31 (by decide) ?_
        obtain ⟨c_16, h⟩ := k_g h
        have z0 := k_inj1 h
        rw [← z0]
        exact W.zret hx hb hr (k_narZ c_16) (fun t ht hWm => ⟨rfl, by rw [ht]; exact hW.1, hW.2.2.F ht⟩) hW.2.2.2.2 dX9_isLeft_35
noncomputable def f_X9_isRight (v1 : Int32) (v2 : Int32) : Option (Int32) := (k_b1 (f_X9_isBetween v1 0 9) fun r_2 => (if r_2 = 0 then (if vp_nar .boolean (0 : Int32) = (0 : Int32) then some (0) else none) else (k_b1 (f_X9_isBetween v2 (-9) 9) fun r_7 => (if r_7 = 0 then (if vp_nar .boolean (0 : Int32) = (0 : Int32) then some (0) else none) else (if vp_nar .boolean (1 : Int32) = (1 : Int32) then some (1) else none)))))
abbrev rm_X9_isRight : Room := { frames := 1, cells := 0, slots := 0, locals := 22 }
theorem pd_X9_isRight : k_D1 yX9_isRight 2 := by decide +kernel
set_option maxHeartbeats 4000000 in
set_option maxRecDepth 100000 in
theorem m_X9_isRight (l : Launch) (D : va_G) (cA : Nat → ClassId) (sz : Nat) (v1 : Int32) (v2 : Int32) (ret_ : Int32) (h : f_X9_isRight v1 v2 = some (ret_)) : k_M l yX9_isRight prog_11_method_7_code 2 (some .boolean) rm_X9_isRight D cA [.int v1, .int v2] [] sz (some (.int ret_)) [] := by
  refine k_ofW (by decide) (Nat.le_of_ble_eq_true rfl) ?_
  intro p e s m below meth c A ls hx hb hr hml hts hown hlocks hB hA hW hl
  have hl : lv_has ls 2 [(0, .int v1), (1, .int v2)] := hl
  obtain ⟨H, eH⟩ : ∃ H, H = s.heap := ⟨_, rfl⟩
  obtain ⟨locs, eL⟩ : ∃ L : List Loc, L = [] := ⟨_, rfl⟩
  have hW : k_Wd D A s.heap [] H locs := by rw [eH, eL]; exact hW
  suffices K : W p l e rm_X9_isRight s m [.int v1, .int v2].toArray below meth c H locs 0 0 (MQ below (k_Q (some (.int ret_)) D [] A) [.int v1, .int v2].toArray s 0 0 A) (F0 m 0 ls []) by rw [eH, eL] at K; exact K
  clear eH eL
  refine lv_iload_n hx hb dX9_isRight_0 rfl (lv_at hl 0 rfl) ?_
  refine lv_iconst (v := 0) hx hb dX9_isRight_1 (by decide) ?_
  refine lv_bipush (v := 9) hx hb dX9_isRight_2 (by decide) ?_
  obtain ⟨r_2, h_1, h⟩ := k_bE1 h
  refine k_callS (ws' := []) (As := [.int v1, .int 0, .int 9]) (rest := []) (m_X9_isBetween l D cA H.size v1 0 9 r_2 h_1) hx hb hml hown hts hB hA hW hl.1 q6_9 q1_10 q6_8 q6_7 pd_X9_isBetween ⟨rfl, rfl, Nat.le_of_ble_eq_true rfl, Nat.le_of_ble_eq_true rfl⟩ rfl [] [] trivial rfl ⟨trivial, trivial, rfl⟩ rfl rfl (Nat.le_of_ble_eq_true rfl) ⟨Nat.zero_le _, Nat.zero_le _⟩ dX9_isRight_4 (st1 := [.int r_2]) rfl (fun H locs hW => ?_)
  refine lv_if_eq (tgt := 25) hx hb dX9_isRight_7 (by decide) (fun c_4 => ?_) (fun c_4 => ?_)
  · have h := k_t c_4 h
    refine lv_iconst (v := 0) hx hb dX9_isRight_25 (by decide) ?_
    obtain ⟨c_5, h⟩ := k_g h
    have z0 := k_inj1 h
    rw [← z0]
    exact W.zret hx hb hr (k_narZ c_5) (fun t ht hWm => ⟨rfl, by rw [ht]; exact hW.1, hW.2.2.F ht⟩) hW.2.2.2.2 dX9_isRight_26
  · have h := k_f c_4 h
    refine lv_iload_n hx hb dX9_isRight_10 rfl (lv_at hl 1 rfl) ?_
    refine lv_bipush (v := (-9)) hx hb dX9_isRight_11 (by decide) ?_
    refine lv_bipush (v := 9) hx hb dX9_isRight_13 (by decide) ?_
    obtain ⟨r_7, h_6, h⟩ := k_bE1 h
    refine k_callS (ws' := []) (As := [.int v2, .int (-9), .int 9]) (rest := []) (m_X9_isBetween l D cA H.size v2 (-9) 9 r_7 h_6) hx hb hml hown hts hB hA hW hl.1 q6_9 q1_10 q6_8 q6_7 pd_X9_isBetween ⟨rfl, rfl, Nat.le_of_ble_eq_true rfl, Nat.le_of_ble_eq_true rfl⟩ rfl [] [] trivial rfl ⟨trivial, trivial, rfl⟩ rfl rfl (Nat.le_of_ble_eq_true rfl) ⟨Nat.zero_le _, Nat.zero_le _⟩ dX9_isRight_15 (st1 := [.int r_7]) rfl (fun H locs hW => ?_)
    refine lv_if_eq (tgt := 25) hx hb dX9_isRight_18 (by decide) (fun c_9 => ?_) (fun c_9 => ?_)
    · have h := k_t c_9 h
      refine lv_iconst (v := 0) hx hb dX9_isRight_25 (by decide) ?_
      obtain ⟨c_10, h⟩ := k_g h
      have z0 := k_inj1 h
      rw [← z0]
      exact W.zret hx hb hr (k_narZ c_10) (fun t ht hWm => ⟨rfl, by rw [ht]; exact hW.1, hW.2.2.F ht⟩) hW.2.2.2.2 dX9_isRight_26
    · have h := k_f c_9 h
      refine lv_iconst (v := 1) hx hb dX9_isRight_21 (by decide) ?_
      refine lv_goto (tgt := 26) hx hb dX9_isRight_22 (by decide) ?_
      obtain ⟨c_11, h⟩ := k_g h
      have z0 := k_inj1 h
      rw [← z0]
      exact W.zret hx hb hr (k_narZ c_11) (fun t ht hWm => ⟨rfl, by rw [ht]; exact hW.1, hW.2.2.F ht⟩) hW.2.2.2.2 dX9_isRight_26
noncomputable def f_X9_leftOf (v1 : Int32) (v2 : Int32) (v3 : Int32) : Option (Int32) := (some ((((((v1 * 6) + v2) * 199) + v3) + 99)))
abbrev rm_X9_leftOf : Room := { frames := 0, cells := 0, slots := 0, locals := 0 }
theorem pd_X9_leftOf : k_D1 yX9_leftOf 3 := by decide +kernel
set_option maxHeartbeats 4000000 in
set_option maxRecDepth 100000 in
theorem m_X9_leftOf (l : Launch) (D : va_G) (cA : Nat → ClassId) (sz : Nat) (v1 : Int32) (v2 : Int32) (v3 : Int32) (ret_ : Int32) (h : f_X9_leftOf v1 v2 v3 = some (ret_)) : k_M l yX9_leftOf prog_11_method_8_code 3 (some .int) rm_X9_leftOf D cA [.int v1, .int v2, .int v3] [] sz (some (.int ret_)) [] := by
  refine k_ofW (by decide) (Nat.le_of_ble_eq_true rfl) ?_
  intro p e s m below meth c A ls hx hb hr hml hts hown hlocks hB hA hW hl
  have hl : lv_has ls 3 [(0, .int v1), (1, .int v2), (2, .int v3)] := hl
  obtain ⟨H, eH⟩ : ∃ H, H = s.heap := ⟨_, rfl⟩
  obtain ⟨locs, eL⟩ : ∃ L : List Loc, L = [] := ⟨_, rfl⟩
  have hW : k_Wd D A s.heap [] H locs := by rw [eH, eL]; exact hW
  suffices K : W p l e rm_X9_leftOf s m [.int v1, .int v2, .int v3].toArray below meth c H locs 0 0 (MQ below (k_Q (some (.int ret_)) D [] A) [.int v1, .int v2, .int v3].toArray s 0 0 A) (F0 m 0 ls []) by rw [eH, eL] at K; exact K
  clear eH eL
  refine lv_iload_n hx hb dX9_leftOf_0 rfl (lv_at hl 0 rfl) ?_
  refine lv_bipush (v := 6) hx hb dX9_leftOf_1 (by decide) ?_
  refine lv_imul hx hb dX9_leftOf_3 ?_
  refine lv_iload_n hx hb dX9_leftOf_4 rfl (lv_at hl 1 rfl) ?_
  refine lv_iadd hx hb dX9_leftOf_5 ?_
  refine lv_sipush (v := 199) hx hb dX9_leftOf_6 (by decide) ?_
  refine lv_imul hx hb dX9_leftOf_9 ?_
  refine lv_iload_n hx hb dX9_leftOf_10 rfl (lv_at hl 2 rfl) ?_
  refine lv_iadd hx hb dX9_leftOf_11 ?_
  refine lv_bipush (v := 99) hx hb dX9_leftOf_12 (by decide) ?_
  refine lv_iadd hx hb dX9_leftOf_14 ?_
  have z0 := k_inj1 h
  rw [← z0]
  exact W.iret hx hb hr (fun t ht hWm => ⟨rfl, by rw [ht]; exact hW.1, hW.2.2.F ht⟩) hW.2.2.2.2 dX9_leftOf_15
noncomputable def f_X9_rightOf (v1 : Int32) (v2 : Int32) : Option (Int32) := (some ((((v1 * 19) + v2) + 9)))
abbrev rm_X9_rightOf : Room := { frames := 0, cells := 0, slots := 0, locals := 0 }
theorem pd_X9_rightOf : k_D1 yX9_rightOf 2 := by decide +kernel
set_option maxHeartbeats 4000000 in
set_option maxRecDepth 100000 in
theorem m_X9_rightOf (l : Launch) (D : va_G) (cA : Nat → ClassId) (sz : Nat) (v1 : Int32) (v2 : Int32) (ret_ : Int32) (h : f_X9_rightOf v1 v2 = some (ret_)) : k_M l yX9_rightOf prog_11_method_9_code 2 (some .int) rm_X9_rightOf D cA [.int v1, .int v2] [] sz (some (.int ret_)) [] := by
  refine k_ofW (by decide) (Nat.le_of_ble_eq_true rfl) ?_
  intro p e s m below meth c A ls hx hb hr hml hts hown hlocks hB hA hW hl
  have hl : lv_has ls 2 [(0, .int v1), (1, .int v2)] := hl
  obtain ⟨H, eH⟩ : ∃ H, H = s.heap := ⟨_, rfl⟩
  obtain ⟨locs, eL⟩ : ∃ L : List Loc, L = [] := ⟨_, rfl⟩
  have hW : k_Wd D A s.heap [] H locs := by rw [eH, eL]; exact hW
  suffices K : W p l e rm_X9_rightOf s m [.int v1, .int v2].toArray below meth c H locs 0 0 (MQ below (k_Q (some (.int ret_)) D [] A) [.int v1, .int v2].toArray s 0 0 A) (F0 m 0 ls []) by rw [eH, eL] at K; exact K
  clear eH eL
  refine lv_iload_n hx hb dX9_rightOf_0 rfl (lv_at hl 0 rfl) ?_
  refine lv_bipush (v := 19) hx hb dX9_rightOf_1 (by decide) ?_
  refine lv_imul hx hb dX9_rightOf_3 ?_
  refine lv_iload_n hx hb dX9_rightOf_4 rfl (lv_at hl 1 rfl) ?_
  refine lv_iadd hx hb dX9_rightOf_5 ?_
  refine lv_bipush (v := 9) hx hb dX9_rightOf_6 (by decide) ?_
  refine lv_iadd hx hb dX9_rightOf_8 ?_
  have z0 := k_inj1 h
  rw [← z0]
  exact W.iret hx hb hr (fun t ht hWm => ⟨rfl, by rw [ht]; exact hW.1, hW.2.2.F ht⟩) hW.2.2.2.2 dX9_rightOf_9
noncomputable def f_X9_countOf_38 (fu : Nat) (n_rows : Nat) (n_size : Nat) (rows : Nat → Int32) (size : Nat → Int32) (v1 : Int32) (v2 : Int32) (k5 : Int32 → Int32 → Option (Int32)) (x4 : Int32) (s0 : Int32) (s1 : Int32) : Option (Int32) := (k_let (s0 + s1) fun x_1 => k_let (x4 + 1) fun x_2 => (k5 x_1 x_2))
noncomputable def f_X9_countOf_5 (fu : Nat) (n_rows : Nat) (n_size : Nat) (rows : Nat → Int32) (size : Nat → Int32) (v1 : Int32) (v2 : Int32) : Nat → Int32 → Int32 → Option (Int32)
  | 0 => fun _ _ => none
  | n + 1 => fun x3 x4 => (if ¬ (v1 < 0 ∨ n_size ≤ v1.toNatClampNeg) then k_let (size v1.toNatClampNeg) fun x_4 => (if x_4 ≤ x4 then (some (x3)) else (k_let ((60 * v1) + x4) fun x_6 => if ¬ (x_6 < 0 ∨ n_rows ≤ x_6.toNatClampNeg) then k_let (rows x_6.toNatClampNeg) fun x_8 => (if x_8 = v2 then ((f_X9_countOf_38 fu n_rows n_size rows size v1 v2 (f_X9_countOf_5 fu n_rows n_size rows size v1 v2 n) x4 x3 1)) else ((f_X9_countOf_38 fu n_rows n_size rows size v1 v2 (f_X9_countOf_5 fu n_rows n_size rows size v1 v2 n) x4 x3 0))) else none)) else none)
theorem fs_X9_countOf_5 (fu : Nat) (n_rows : Nat) (n_size : Nat) (rows : Nat → Int32) (size : Nat → Int32) (v1 : Int32) (v2 : Int32) (n : Nat) (x3 : Int32) (x4 : Int32) : f_X9_countOf_5 fu n_rows n_size rows size v1 v2 (n + 1) x3 x4 = (if ¬ (v1 < 0 ∨ n_size ≤ v1.toNatClampNeg) then k_let (size v1.toNatClampNeg) fun x_4 => (if x_4 ≤ x4 then (some (x3)) else (k_let ((60 * v1) + x4) fun x_6 => if ¬ (x_6 < 0 ∨ n_rows ≤ x_6.toNatClampNeg) then k_let (rows x_6.toNatClampNeg) fun x_8 => (if x_8 = v2 then ((f_X9_countOf_38 fu n_rows n_size rows size v1 v2 (f_X9_countOf_5 fu n_rows n_size rows size v1 v2 n) x4 x3 1)) else ((f_X9_countOf_38 fu n_rows n_size rows size v1 v2 (f_X9_countOf_5 fu n_rows n_size rows size v1 v2 n) x4 x3 0))) else none)) else none) := rfl
noncomputable def f_X9_countOf (fu : Nat) (n_rows : Nat) (n_size : Nat) (rows : Nat → Int32) (size : Nat → Int32) (v1 : Int32) (v2 : Int32) : Option (Int32) := ((f_X9_countOf_5 fu n_rows n_size rows size v1 v2 fu 0 0))
abbrev rm_X9_countOf : Room := { frames := 0, cells := 0, slots := 0, locals := 0 }
theorem pd_X9_countOf : k_D1 yX9_countOf 2 := by decide +kernel
set_option maxHeartbeats 4000000 in
set_option maxRecDepth 100000 in
theorem m_X9_countOf (l : Launch) (D : va_G) (cA : Nat → ClassId) (sz : Nat) (a_this a_rows a_size : Nat) (w_filter : Nat) (w_made : Nat) (w_pending : Nat) (w_savedFilter : Nat) (w_stack : Nat) (w_counts : Nat) (w_totals : Nat) (w_ranked : Nat) (w_watchGroup : Nat) (w_watchBound : Nat) (w_savedGroup : Nat) (w_savedBound : Nat) (w_text : Nat) (fu : Nat) (n_rows : Nat) (n_size : Nat) (thrown : Int32) (changes : Int32) (undoable : Int32) (filterSize : Int32) (madeSize : Int32) (pendings : Int32) (savedFilterSize : Int32) (foundKey : Int32) (foundGroup : Int32) (foundProduct : Int32) (foundMany : Int32) (isClean : Int32) (groupRows : Int32) (groupTotal : Int32) (watches : Int32) (savedWatches : Int32) (length : Int32) (at_ : Int32) (parens : Int32) (faultAt : Int32) (isSaved : Int32) (rows : Nat → Int32) (size : Nat → Int32) (v1 : Int32) (v2 : Int32) (ret_ : Int32) (h : f_X9_countOf fu n_rows n_size rows size v1 v2 = some (ret_)) : k_M l yX9_countOf prog_11_method_10_code 5 (some .int) rm_X9_countOf D cA [.ref a_this, .int v1, .int v2] [(a_this, .inr (9, [.int thrown, .ref a_rows, .ref a_size, .int changes, .int undoable, .ref w_filter, .ref w_made, .ref w_pending, .ref w_savedFilter, .ref w_stack, .int filterSize, .int madeSize, .int pendings, .int savedFilterSize, .ref w_counts, .int foundKey, .int foundGroup, .int foundProduct, .int foundMany, .int isClean, .int groupRows, .int groupTotal, .ref w_totals, .ref w_ranked, .ref w_watchGroup, .ref w_watchBound, .ref w_savedGroup, .ref w_savedBound, .int watches, .int savedWatches, .ref w_text, .int length, .int at_, .int parens, .int faultAt, .int isSaved])), (a_rows, .inl (cA 0, n_rows, .inl rows)), (a_size, .inl (cA 0, n_size, .inl size))] sz (some (.int ret_)) [(a_this, .inr (9, [.int thrown, .ref a_rows, .ref a_size, .int changes, .int undoable, .ref w_filter, .ref w_made, .ref w_pending, .ref w_savedFilter, .ref w_stack, .int filterSize, .int madeSize, .int pendings, .int savedFilterSize, .ref w_counts, .int foundKey, .int foundGroup, .int foundProduct, .int foundMany, .int isClean, .int groupRows, .int groupTotal, .ref w_totals, .ref w_ranked, .ref w_watchGroup, .ref w_watchBound, .ref w_savedGroup, .ref w_savedBound, .int watches, .int savedWatches, .ref w_text, .int length, .int at_, .int parens, .int faultAt, .int isSaved])), (a_rows, .inl (cA 0, n_rows, .inl rows)), (a_size, .inl (cA 0, n_size, .inl size))] := by
  refine k_ofW (by decide) (Nat.le_of_ble_eq_true rfl) ?_
  intro p e s m below meth c A ls hx hb hr hml hts hown hlocks hB hA hW hl
  have hl : lv_has ls 5 [(0, .ref a_this), (1, .int v1), (2, .int v2)] := hl
  obtain ⟨H, eH⟩ : ∃ H, H = s.heap := ⟨_, rfl⟩
  obtain ⟨locs, eL⟩ : ∃ L : List Loc, L = [] := ⟨_, rfl⟩
  have hW : k_Wd D A s.heap [(a_this, .inr (9, [.int thrown, .ref a_rows, .ref a_size, .int changes, .int undoable, .ref w_filter, .ref w_made, .ref w_pending, .ref w_savedFilter, .ref w_stack, .int filterSize, .int madeSize, .int pendings, .int savedFilterSize, .ref w_counts, .int foundKey, .int foundGroup, .int foundProduct, .int foundMany, .int isClean, .int groupRows, .int groupTotal, .ref w_totals, .ref w_ranked, .ref w_watchGroup, .ref w_watchBound, .ref w_savedGroup, .ref w_savedBound, .int watches, .int savedWatches, .ref w_text, .int length, .int at_, .int parens, .int faultAt, .int isSaved])), (a_rows, .inl (cA 0, n_rows, .inl rows)), (a_size, .inl (cA 0, n_size, .inl size))] H locs := by rw [eH, eL]; exact hW
  suffices K : W p l e rm_X9_countOf s m [.ref a_this, .int v1, .int v2].toArray below meth c H locs 0 0 (MQ below (k_Q (some (.int ret_)) D [(a_this, .inr (9, [.int thrown, .ref a_rows, .ref a_size, .int changes, .int undoable, .ref w_filter, .ref w_made, .ref w_pending, .ref w_savedFilter, .ref w_stack, .int filterSize, .int madeSize, .int pendings, .int savedFilterSize, .ref w_counts, .int foundKey, .int foundGroup, .int foundProduct, .int foundMany, .int isClean, .int groupRows, .int groupTotal, .ref w_totals, .ref w_ranked, .ref w_watchGroup, .ref w_watchBound, .ref w_savedGroup, .ref w_savedBound, .int watches, .int savedWatches, .ref w_text, .int length, .int at_, .int parens, .int faultAt, .int isSaved])), (a_rows, .inl (cA 0, n_rows, .inl rows)), (a_size, .inl (cA 0, n_size, .inl size))] A) [.ref a_this, .int v1, .int v2].toArray s 0 0 A) (F0 m 0 ls []) by rw [eH, eL] at K; exact K
  clear eH eL
  have J5 : ∀ (n5 : Nat) (x3 : Int32) (x4 : Int32) (H : Heap) (locs : List Loc) (ls : Array Slot), k_Wd D A s.heap [(a_this, .inr (9, [.int thrown, .ref a_rows, .ref a_size, .int changes, .int undoable, .ref w_filter, .ref w_made, .ref w_pending, .ref w_savedFilter, .ref w_stack, .int filterSize, .int madeSize, .int pendings, .int savedFilterSize, .ref w_counts, .int foundKey, .int foundGroup, .int foundProduct, .int foundMany, .int isClean, .int groupRows, .int groupTotal, .ref w_totals, .ref w_ranked, .ref w_watchGroup, .ref w_watchBound, .ref w_savedGroup, .ref w_savedBound, .int watches, .int savedWatches, .ref w_text, .int length, .int at_, .int parens, .int faultAt, .int isSaved])), (a_rows, .inl (cA 0, n_rows, .inl rows)), (a_size, .inl (cA 0, n_size, .inl size))] H locs → lv_has ls 5 [(0, .ref a_this), (1, .int v1), (2, .int v2), (3, .int x3), (4, .int x4)] → f_X9_countOf_5 fu n_rows n_size rows size v1 v2 n5 x3 x4 = some (ret_) → W p l e rm_X9_countOf s m [.ref a_this, .int v1, .int v2].toArray below meth c H locs 0 0 (MQ below (k_Q (some (.int ret_)) D [(a_this, .inr (9, [.int thrown, .ref a_rows, .ref a_size, .int changes, .int undoable, .ref w_filter, .ref w_made, .ref w_pending, .ref w_savedFilter, .ref w_stack, .int filterSize, .int madeSize, .int pendings, .int savedFilterSize, .ref w_counts, .int foundKey, .int foundGroup, .int foundProduct, .int foundMany, .int isClean, .int groupRows, .int groupTotal, .ref w_totals, .ref w_ranked, .ref w_watchGroup, .ref w_watchBound, .ref w_savedGroup, .ref w_savedBound, .int watches, .int savedWatches, .ref w_text, .int length, .int at_, .int parens, .int faultAt, .int isSaved])), (a_rows, .inl (cA 0, n_rows, .inl rows)), (a_size, .inl (cA 0, n_size, .inl size))] A) [.ref a_this, .int v1, .int v2].toArray s 0 0 A) (F0 m 5 ls []) := by
    intro n5
    induction n5 with
    | zero => intro x3 x4 H locs ls hW hl h; exact k_no h
    | succ n5 ih5 =>
      have J38 : ∀ (x4 : Int32) (s0 : Int32) (s1 : Int32) (H : Heap) (locs : List Loc) (ls : Array Slot), k_Wd D A s.heap [(a_this, .inr (9, [.int thrown, .ref a_rows, .ref a_size, .int changes, .int undoable, .ref w_filter, .ref w_made, .ref w_pending, .ref w_savedFilter, .ref w_stack, .int filterSize, .int madeSize, .int pendings, .int savedFilterSize, .ref w_counts, .int foundKey, .int foundGroup, .int foundProduct, .int foundMany, .int isClean, .int groupRows, .int groupTotal, .ref w_totals, .ref w_ranked, .ref w_watchGroup, .ref w_watchBound, .ref w_savedGroup, .ref w_savedBound, .int watches, .int savedWatches, .ref w_text, .int length, .int at_, .int parens, .int faultAt, .int isSaved])), (a_rows, .inl (cA 0, n_rows, .inl rows)), (a_size, .inl (cA 0, n_size, .inl size))] H locs → lv_has ls 5 [(0, .ref a_this), (1, .int v1), (2, .int v2), (4, .int x4)] → f_X9_countOf_38 fu n_rows n_size rows size v1 v2 (f_X9_countOf_5 fu n_rows n_size rows size v1 v2 n5) x4 s0 s1 = some (ret_) → W p l e rm_X9_countOf s m [.ref a_this, .int v1, .int v2].toArray below meth c H locs 0 0 (MQ below (k_Q (some (.int ret_)) D [(a_this, .inr (9, [.int thrown, .ref a_rows, .ref a_size, .int changes, .int undoable, .ref w_filter, .ref w_made, .ref w_pending, .ref w_savedFilter, .ref w_stack, .int filterSize, .int madeSize, .int pendings, .int savedFilterSize, .ref w_counts, .int foundKey, .int foundGroup, .int foundProduct, .int foundMany, .int isClean, .int groupRows, .int groupTotal, .ref w_totals, .ref w_ranked, .ref w_watchGroup, .ref w_watchBound, .ref w_savedGroup, .ref w_savedBound, .int watches, .int savedWatches, .ref w_text, .int length, .int at_, .int parens, .int faultAt, .int isSaved])), (a_rows, .inl (cA 0, n_rows, .inl rows)), (a_size, .inl (cA 0, n_size, .inl size))] A) [.ref a_this, .int v1, .int v2].toArray s 0 0 A) (F0 m 38 ls [.int s1, .int s0]) := by
        intro x4 s0 s1 H locs ls hW hl h
        refine lv_iadd hx hb dX9_countOf_38 ?_
        refine lv_topi (fun x_1 ex_1 => ?_)
        have h := k_letE ex_1 h
        refine lv_istore_n (lv' := [(3, .int x_1), (0, .ref a_this), (1, .int v1), (2, .int v2), (4, .int x4)]) hx hb dX9_countOf_39 rfl hl (by decide) rfl (fun ls hl => ?_)
        obtain ⟨x_2, ex_2⟩ : ∃ y : Int32, y = x4 + 1 := ⟨_, rfl⟩
        have h := k_letE ex_2 h
        refine lv_iinc (v := x_2) (lv' := [(4, .int x_2), (3, .int x_1), (0, .ref a_this), (1, .int v1), (2, .int v2)]) hx hb dX9_countOf_40 hl (k := 4) rfl (by rw [ex_2]; rfl) (by decide) rfl (fun ls hl => ?_)
        refine lv_goto (tgt := 5) hx hb dX9_countOf_43 (by decide) ?_
        exact ih5 x_1 x_2 H locs ls hW (lv_sub hl [2, 3, 4, 1, 0] rfl) h
      intro x3 x4 H locs ls hW hl h
      have h := (fs_X9_countOf_5 _ _ _ _ _ _ _ _ _ _).symm.trans h
      refine lv_iload hx hb dX9_countOf_5 (lv_at hl 4 rfl) ?_
      refine lv_aload_n hx hb dX9_countOf_7 rfl (lv_at hl 0 rfl) ?_
      refine va_get (D := D) (ci := 9) (v := .ref a_size) (C := RX9) (T := TX9) (N := 36) hx hb hts iX9 hown hB.1 hW.1 0 rfl rfl 2 (by decide) (hts _ q5_128) (fun _ h9 => h9) rfl dX9_countOf_8 ?_
      refine lv_iload_n hx hb dX9_countOf_11 rfl (lv_at hl 1 rfl) ?_
      obtain ⟨c_3, h⟩ := k_g h
      refine va_iald hx hb hB.1 hW.1 2 0 rfl rfl c_3 dX9_countOf_12 ?_
      refine lv_topi (fun x_4 ex_4 => ?_)
      have h := k_letE ex_4 h
      refine lv_icmp_ge (tgt := 46) hx hb dX9_countOf_13 (by decide) (fun c_5 => ?_) (fun c_5 => ?_)
      · have h := k_t c_5 h
        refine lv_iload_n hx hb dX9_countOf_46 rfl (lv_at hl 3 rfl) ?_
        have z0 := k_inj1 h
        rw [← z0]
        exact W.iret hx hb hr (fun t ht hWm => ⟨rfl, by rw [ht]; exact hW.1, hW.2.2.F ht⟩) hW.2.2.2.2 dX9_countOf_47
      · have h := k_f c_5 h
        refine lv_iload_n hx hb dX9_countOf_16 rfl (lv_at hl 3 rfl) ?_
        refine lv_aload_n hx hb dX9_countOf_17 rfl (lv_at hl 0 rfl) ?_
        refine va_get (D := D) (ci := 9) (v := .ref a_rows) (C := RX9) (T := TX9) (N := 36) hx hb hts iX9 hown hB.1 hW.1 0 rfl rfl 1 (by decide) (hts _ q5_127) (fun _ h9 => h9) rfl dX9_countOf_18 ?_
        refine lv_bipush (v := 60) hx hb dX9_countOf_21 (by decide) ?_
        refine lv_iload_n hx hb dX9_countOf_23 rfl (lv_at hl 1 rfl) ?_
        refine lv_imul hx hb dX9_countOf_24 ?_
        refine lv_iload hx hb dX9_countOf_25 (lv_at hl 4 rfl) ?_
        refine lv_iadd hx hb dX9_countOf_27 ?_
        refine lv_topi (fun x_6 ex_6 => ?_)
        have h := k_letE ex_6 h
        obtain ⟨c_7, h⟩ := k_g h
        refine va_iald hx hb hB.1 hW.1 1 0 rfl rfl c_7 dX9_countOf_28 ?_
        refine lv_topi (fun x_8 ex_8 => ?_)
        have h := k_letE ex_8 h
        refine lv_iload_n hx hb dX9_countOf_29 rfl (lv_at hl 2 rfl) ?_
        refine lv_icmp_ne (tgt := 37) hx hb dX9_countOf_30 (by decide) (fun c_9 => ?_) (fun c_9 => ?_)
        · have h := k_f c_9 h
          refine lv_iconst (v := 0) hx hb dX9_countOf_37 (by decide) ?_
          exact J38 x4 x3 0 H locs ls hW (lv_sub hl [0, 1, 2, 4] rfl) h
        · have h := k_t c_9 h
          refine lv_iconst (v := 1) hx hb dX9_countOf_33 (by decide) ?_
          refine lv_goto (tgt := 38) hx hb dX9_countOf_34 (by decide) ?_
          exact J38 x4 x3 1 H locs ls hW (lv_sub hl [0, 1, 2, 4] rfl) h
  refine lv_iconst (v := 0) hx hb dX9_countOf_0 (by decide) ?_
  refine lv_istore_n (lv' := [(3, .int 0), (0, .ref a_this), (1, .int v1), (2, .int v2)]) hx hb dX9_countOf_1 rfl hl (by decide) rfl (fun ls hl => ?_)
  refine lv_iconst (v := 0) hx hb dX9_countOf_2 (by decide) ?_
  refine lv_istore (lv' := [(4, .int 0), (3, .int 0), (0, .ref a_this), (1, .int v1), (2, .int v2)]) hx hb dX9_countOf_3 hl (by decide) rfl (fun ls hl => ?_)
  exact J5 fu 0 0 H locs ls hW (lv_sub hl [2, 3, 4, 1, 0] rfl) h
noncomputable def f_X9_puts_58 (fu : Nat) (n_rows : Nat) (n_size : Nat) (v1 : Int32) (v2 : Int32) (x3 : Int32) (rows : Nat → Int32) (size : Nat → Int32) : Option ((Nat → Int32) × (Nat → Int32)) := (if ¬ (((60 * v1) + x3) < 0 ∨ n_rows ≤ ((60 * v1) + x3).toNatClampNeg) then (if ¬ (v1 < 0 ∨ n_size ≤ v1.toNatClampNeg) then k_let (size v1.toNatClampNeg) fun x_3 => (if ¬ (v1 < 0 ∨ n_size ≤ v1.toNatClampNeg) then (some ((upd rows ((60 * v1) + x3).toNatClampNeg v2), (upd size v1.toNatClampNeg (x_3 + 1)))) else none) else none) else none)
noncomputable def f_X9_puts_7 (fu : Nat) (n_rows : Nat) (n_size : Nat) (v1 : Int32) (v2 : Int32) : Nat → Int32 → (Nat → Int32) → (Nat → Int32) → Option ((Nat → Int32) × (Nat → Int32))
  | 0 => fun _ _ _ => none
  | n + 1 => fun x3 rows size => (if x3 ≤ 0 then ((f_X9_puts_58 fu n_rows n_size v1 v2 x3 rows size)) else (k_let (((60 * v1) + x3) - 1) fun x_6 => if ¬ (x_6 < 0 ∨ n_rows ≤ x_6.toNatClampNeg) then k_let (rows x_6.toNatClampNeg) fun x_8 => (if x_8 ≤ v2 then ((f_X9_puts_58 fu n_rows n_size v1 v2 x3 rows size)) else (k_let (((60 * v1) + x3) - 1) fun x_10 => if ¬ (x_10 < 0 ∨ n_rows ≤ x_10.toNatClampNeg) then k_let (rows x_10.toNatClampNeg) fun x_12 => (if ¬ (((60 * v1) + x3) < 0 ∨ n_rows ≤ ((60 * v1) + x3).toNatClampNeg) then (k_let (x3 + (-1)) fun x_14 => (f_X9_puts_7 fu n_rows n_size v1 v2 n x_14 (upd rows ((60 * v1) + x3).toNatClampNeg x_12) size)) else none) else none)) else none))
theorem fs_X9_puts_7 (fu : Nat) (n_rows : Nat) (n_size : Nat) (v1 : Int32) (v2 : Int32) (n : Nat) (x3 : Int32) (rows : Nat → Int32) (size : Nat → Int32) : f_X9_puts_7 fu n_rows n_size v1 v2 (n + 1) x3 rows size = (if x3 ≤ 0 then ((f_X9_puts_58 fu n_rows n_size v1 v2 x3 rows size)) else (k_let (((60 * v1) + x3) - 1) fun x_6 => if ¬ (x_6 < 0 ∨ n_rows ≤ x_6.toNatClampNeg) then k_let (rows x_6.toNatClampNeg) fun x_8 => (if x_8 ≤ v2 then ((f_X9_puts_58 fu n_rows n_size v1 v2 x3 rows size)) else (k_let (((60 * v1) + x3) - 1) fun x_10 => if ¬ (x_10 < 0 ∨ n_rows ≤ x_10.toNatClampNeg) then k_let (rows x_10.toNatClampNeg) fun x_12 => (if ¬ (((60 * v1) + x3) < 0 ∨ n_rows ≤ ((60 * v1) + x3).toNatClampNeg) then (k_let (x3 + (-1)) fun x_14 => (f_X9_puts_7 fu n_rows n_size v1 v2 n x_14 (upd rows ((60 * v1) + x3).toNatClampNeg x_12) size)) else none) else none)) else none)) := rfl
noncomputable def f_X9_puts (fu : Nat) (n_rows : Nat) (n_size : Nat) (v1 : Int32) (v2 : Int32) (rows : Nat → Int32) (size : Nat → Int32) : Option ((Nat → Int32) × (Nat → Int32)) := (if ¬ (v1 < 0 ∨ n_size ≤ v1.toNatClampNeg) then k_let (size v1.toNatClampNeg) fun x_16 => ((f_X9_puts_7 fu n_rows n_size v1 v2 fu x_16 rows size)) else none)
abbrev rm_X9_puts : Room := { frames := 0, cells := 0, slots := 0, locals := 0 }
theorem pd_X9_puts : k_D1 yX9_puts 2 := by decide +kernel
set_option maxHeartbeats 4000000 in
set_option maxRecDepth 100000 in
theorem m_X9_puts (l : Launch) (D : va_G) (cA : Nat → ClassId) (sz : Nat) (a_this a_rows a_size : Nat) (w_filter : Nat) (w_made : Nat) (w_pending : Nat) (w_savedFilter : Nat) (w_stack : Nat) (w_counts : Nat) (w_totals : Nat) (w_ranked : Nat) (w_watchGroup : Nat) (w_watchBound : Nat) (w_savedGroup : Nat) (w_savedBound : Nat) (w_text : Nat) (fu : Nat) (n_rows : Nat) (n_size : Nat) (thrown : Int32) (changes : Int32) (undoable : Int32) (filterSize : Int32) (madeSize : Int32) (pendings : Int32) (savedFilterSize : Int32) (foundKey : Int32) (foundGroup : Int32) (foundProduct : Int32) (foundMany : Int32) (isClean : Int32) (groupRows : Int32) (groupTotal : Int32) (watches : Int32) (savedWatches : Int32) (length : Int32) (at_ : Int32) (parens : Int32) (faultAt : Int32) (isSaved : Int32) (rows : Nat → Int32) (size : Nat → Int32) (v1 : Int32) (v2 : Int32) (rows' : Nat → Int32) (size' : Nat → Int32) (h : f_X9_puts fu n_rows n_size v1 v2 rows size = some (rows', size')) : k_M l yX9_puts prog_11_method_11_code 4 (none : Option Jvm.ClassFile.FieldType) rm_X9_puts D cA [.ref a_this, .int v1, .int v2] [(a_this, .inr (9, [.int thrown, .ref a_rows, .ref a_size, .int changes, .int undoable, .ref w_filter, .ref w_made, .ref w_pending, .ref w_savedFilter, .ref w_stack, .int filterSize, .int madeSize, .int pendings, .int savedFilterSize, .ref w_counts, .int foundKey, .int foundGroup, .int foundProduct, .int foundMany, .int isClean, .int groupRows, .int groupTotal, .ref w_totals, .ref w_ranked, .ref w_watchGroup, .ref w_watchBound, .ref w_savedGroup, .ref w_savedBound, .int watches, .int savedWatches, .ref w_text, .int length, .int at_, .int parens, .int faultAt, .int isSaved])), (a_rows, .inl (cA 0, n_rows, .inl rows)), (a_size, .inl (cA 0, n_size, .inl size))] sz (none) [(a_this, .inr (9, [.int thrown, .ref a_rows, .ref a_size, .int changes, .int undoable, .ref w_filter, .ref w_made, .ref w_pending, .ref w_savedFilter, .ref w_stack, .int filterSize, .int madeSize, .int pendings, .int savedFilterSize, .ref w_counts, .int foundKey, .int foundGroup, .int foundProduct, .int foundMany, .int isClean, .int groupRows, .int groupTotal, .ref w_totals, .ref w_ranked, .ref w_watchGroup, .ref w_watchBound, .ref w_savedGroup, .ref w_savedBound, .int watches, .int savedWatches, .ref w_text, .int length, .int at_, .int parens, .int faultAt, .int isSaved])), (a_rows, .inl (cA 0, n_rows, .inl (rows'))), (a_size, .inl (cA 0, n_size, .inl (size')))] := by
  refine k_ofW (by decide) (Nat.le_of_ble_eq_true rfl) ?_
  intro p e s m below meth c A ls hx hb hr hml hts hown hlocks hB hA hW hl
  have hl : lv_has ls 4 [(0, .ref a_this), (1, .int v1), (2, .int v2)] := hl
  obtain ⟨H, eH⟩ : ∃ H, H = s.heap := ⟨_, rfl⟩
  obtain ⟨locs, eL⟩ : ∃ L : List Loc, L = [] := ⟨_, rfl⟩
  have hW : k_Wd D A s.heap [(a_this, .inr (9, [.int thrown, .ref a_rows, .ref a_size, .int changes, .int undoable, .ref w_filter, .ref w_made, .ref w_pending, .ref w_savedFilter, .ref w_stack, .int filterSize, .int madeSize, .int pendings, .int savedFilterSize, .ref w_counts, .int foundKey, .int foundGroup, .int foundProduct, .int foundMany, .int isClean, .int groupRows, .int groupTotal, .ref w_totals, .ref w_ranked, .ref w_watchGroup, .ref w_watchBound, .ref w_savedGroup, .ref w_savedBound, .int watches, .int savedWatches, .ref w_text, .int length, .int at_, .int parens, .int faultAt, .int isSaved])), (a_rows, .inl (cA 0, n_rows, .inl rows)), (a_size, .inl (cA 0, n_size, .inl size))] H locs := by rw [eH, eL]; exact hW
  suffices K : W p l e rm_X9_puts s m [.ref a_this, .int v1, .int v2].toArray below meth c H locs 0 0 (MQ below (k_Q (none) D [(a_this, .inr (9, [.int thrown, .ref a_rows, .ref a_size, .int changes, .int undoable, .ref w_filter, .ref w_made, .ref w_pending, .ref w_savedFilter, .ref w_stack, .int filterSize, .int madeSize, .int pendings, .int savedFilterSize, .ref w_counts, .int foundKey, .int foundGroup, .int foundProduct, .int foundMany, .int isClean, .int groupRows, .int groupTotal, .ref w_totals, .ref w_ranked, .ref w_watchGroup, .ref w_watchBound, .ref w_savedGroup, .ref w_savedBound, .int watches, .int savedWatches, .ref w_text, .int length, .int at_, .int parens, .int faultAt, .int isSaved])), (a_rows, .inl (cA 0, n_rows, .inl (rows'))), (a_size, .inl (cA 0, n_size, .inl (size')))] A) [.ref a_this, .int v1, .int v2].toArray s 0 0 A) (F0 m 0 ls []) by rw [eH, eL] at K; exact K
  clear eH eL
  have J58 : ∀ (x3 : Int32) (rows : Nat → Int32) (size : Nat → Int32) (H : Heap) (locs : List Loc) (ls : Array Slot), k_Wd D A s.heap [(a_this, .inr (9, [.int thrown, .ref a_rows, .ref a_size, .int changes, .int undoable, .ref w_filter, .ref w_made, .ref w_pending, .ref w_savedFilter, .ref w_stack, .int filterSize, .int madeSize, .int pendings, .int savedFilterSize, .ref w_counts, .int foundKey, .int foundGroup, .int foundProduct, .int foundMany, .int isClean, .int groupRows, .int groupTotal, .ref w_totals, .ref w_ranked, .ref w_watchGroup, .ref w_watchBound, .ref w_savedGroup, .ref w_savedBound, .int watches, .int savedWatches, .ref w_text, .int length, .int at_, .int parens, .int faultAt, .int isSaved])), (a_rows, .inl (cA 0, n_rows, .inl rows)), (a_size, .inl (cA 0, n_size, .inl size))] H locs → lv_has ls 4 [(0, .ref a_this), (1, .int v1), (2, .int v2), (3, .int x3)] → f_X9_puts_58 fu n_rows n_size v1 v2 x3 rows size = some (rows', size') → W p l e rm_X9_puts s m [.ref a_this, .int v1, .int v2].toArray below meth c H locs 0 0 (MQ below (k_Q (none) D [(a_this, .inr (9, [.int thrown, .ref a_rows, .ref a_size, .int changes, .int undoable, .ref w_filter, .ref w_made, .ref w_pending, .ref w_savedFilter, .ref w_stack, .int filterSize, .int madeSize, .int pendings, .int savedFilterSize, .ref w_counts, .int foundKey, .int foundGroup, .int foundProduct, .int foundMany, .int isClean, .int groupRows, .int groupTotal, .ref w_totals, .ref w_ranked, .ref w_watchGroup, .ref w_watchBound, .ref w_savedGroup, .ref w_savedBound, .int watches, .int savedWatches, .ref w_text, .int length, .int at_, .int parens, .int faultAt, .int isSaved])), (a_rows, .inl (cA 0, n_rows, .inl (rows'))), (a_size, .inl (cA 0, n_size, .inl (size')))] A) [.ref a_this, .int v1, .int v2].toArray s 0 0 A) (F0 m 58 ls []) := by
    intro x3 rows size H locs ls hW hl h
    refine lv_aload_n hx hb dX9_puts_58 rfl (lv_at hl 0 rfl) ?_
    refine va_get (D := D) (ci := 9) (v := .ref a_rows) (C := RX9) (T := TX9) (N := 36) hx hb hts iX9 hown hB.1 hW.1 0 rfl rfl 1 (by decide) (hts _ q5_127) (fun _ h9 => h9) rfl dX9_puts_59 ?_
    refine lv_bipush (v := 60) hx hb dX9_puts_62 (by decide) ?_
    refine lv_iload_n hx hb dX9_puts_64 rfl (lv_at hl 1 rfl) ?_
    refine lv_imul hx hb dX9_puts_65 ?_
    refine lv_iload_n hx hb dX9_puts_66 rfl (lv_at hl 3 rfl) ?_
    refine lv_iadd hx hb dX9_puts_67 ?_
    refine lv_iload_n hx hb dX9_puts_68 rfl (lv_at hl 2 rfl) ?_
    obtain ⟨c_1, h⟩ := k_g h
    refine va_iast hx hb hB.1 hW.1 hW.2.1 hW.2.2 1 0 rfl rfl c_1 dX9_puts_69 (fun H locs hP hD hS => ?_)
    have hW : k_Wd D A s.heap [(a_this, .inr (9, [.int thrown, .ref a_rows, .ref a_size, .int changes, .int undoable, .ref w_filter, .ref w_made, .ref w_pending, .ref w_savedFilter, .ref w_stack, .int filterSize, .int madeSize, .int pendings, .int savedFilterSize, .ref w_counts, .int foundKey, .int foundGroup, .int foundProduct, .int foundMany, .int isClean, .int groupRows, .int groupTotal, .ref w_totals, .ref w_ranked, .ref w_watchGroup, .ref w_watchBound, .ref w_savedGroup, .ref w_savedBound, .int watches, .int savedWatches, .ref w_text, .int length, .int at_, .int parens, .int faultAt, .int isSaved])), (a_rows, .inl (cA 0, n_rows, .inl (upd rows ((60 * v1) + x3).toNatClampNeg v2))), (a_size, .inl (cA 0, n_size, .inl size))] H locs := ⟨hP, hD, hS⟩
    refine lv_aload_n hx hb dX9_puts_70 rfl (lv_at hl 0 rfl) ?_
    refine va_get (D := D) (ci := 9) (v := .ref a_size) (C := RX9) (T := TX9) (N := 36) hx hb hts iX9 hown hB.1 hW.1 0 rfl rfl 2 (by decide) (hts _ q5_128) (fun _ h9 => h9) rfl dX9_puts_71 ?_
    refine lv_iload_n hx hb dX9_puts_74 rfl (lv_at hl 1 rfl) ?_
    refine lv_dup2_11 hx hb dX9_puts_75 rfl rfl ?_
    obtain ⟨c_2, h⟩ := k_g h
    refine va_iald hx hb hB.1 hW.1 2 0 rfl rfl c_2 dX9_puts_76 ?_
    refine lv_topi (fun x_3 ex_3 => ?_)
    have h := k_letE ex_3 h
    refine lv_iconst (v := 1) hx hb dX9_puts_77 (by decide) ?_
    refine lv_iadd hx hb dX9_puts_78 ?_
    obtain ⟨c_4, h⟩ := k_g h
    refine va_iast hx hb hB.1 hW.1 hW.2.1 hW.2.2 2 0 rfl rfl c_4 dX9_puts_79 (fun H locs hP hD hS => ?_)
    have hW : k_Wd D A s.heap [(a_this, .inr (9, [.int thrown, .ref a_rows, .ref a_size, .int changes, .int undoable, .ref w_filter, .ref w_made, .ref w_pending, .ref w_savedFilter, .ref w_stack, .int filterSize, .int madeSize, .int pendings, .int savedFilterSize, .ref w_counts, .int foundKey, .int foundGroup, .int foundProduct, .int foundMany, .int isClean, .int groupRows, .int groupTotal, .ref w_totals, .ref w_ranked, .ref w_watchGroup, .ref w_watchBound, .ref w_savedGroup, .ref w_savedBound, .int watches, .int savedWatches, .ref w_text, .int length, .int at_, .int parens, .int faultAt, .int isSaved])), (a_rows, .inl (cA 0, n_rows, .inl (upd rows ((60 * v1) + x3).toNatClampNeg v2))), (a_size, .inl (cA 0, n_size, .inl (upd size v1.toNatClampNeg (x_3 + 1))))] H locs := ⟨hP, hD, hS⟩
    obtain ⟨z0, z1⟩ := k_inj2 h
    rw [← z0, ← z1]
    exact W.vret hx hb hr (fun t ht hWm => ⟨rfl, by rw [ht]; exact hW.1, hW.2.2.F ht⟩) hW.2.2.2.2 dX9_puts_80
  have J7 : ∀ (n7 : Nat) (x3 : Int32) (rows : Nat → Int32) (size : Nat → Int32) (H : Heap) (locs : List Loc) (ls : Array Slot), k_Wd D A s.heap [(a_this, .inr (9, [.int thrown, .ref a_rows, .ref a_size, .int changes, .int undoable, .ref w_filter, .ref w_made, .ref w_pending, .ref w_savedFilter, .ref w_stack, .int filterSize, .int madeSize, .int pendings, .int savedFilterSize, .ref w_counts, .int foundKey, .int foundGroup, .int foundProduct, .int foundMany, .int isClean, .int groupRows, .int groupTotal, .ref w_totals, .ref w_ranked, .ref w_watchGroup, .ref w_watchBound, .ref w_savedGroup, .ref w_savedBound, .int watches, .int savedWatches, .ref w_text, .int length, .int at_, .int parens, .int faultAt, .int isSaved])), (a_rows, .inl (cA 0, n_rows, .inl rows)), (a_size, .inl (cA 0, n_size, .inl size))] H locs → lv_has ls 4 [(0, .ref a_this), (1, .int v1), (2, .int v2), (3, .int x3)] → f_X9_puts_7 fu n_rows n_size v1 v2 n7 x3 rows size = some (rows', size') → W p l e rm_X9_puts s m [.ref a_this, .int v1, .int v2].toArray below meth c H locs 0 0 (MQ below (k_Q (none) D [(a_this, .inr (9, [.int thrown, .ref a_rows, .ref a_size, .int changes, .int undoable, .ref w_filter, .ref w_made, .ref w_pending, .ref w_savedFilter, .ref w_stack, .int filterSize, .int madeSize, .int pendings, .int savedFilterSize, .ref w_counts, .int foundKey, .int foundGroup, .int foundProduct, .int foundMany, .int isClean, .int groupRows, .int groupTotal, .ref w_totals, .ref w_ranked, .ref w_watchGroup, .ref w_watchBound, .ref w_savedGroup, .ref w_savedBound, .int watches, .int savedWatches, .ref w_text, .int length, .int at_, .int parens, .int faultAt, .int isSaved])), (a_rows, .inl (cA 0, n_rows, .inl (rows'))), (a_size, .inl (cA 0, n_size, .inl (size')))] A) [.ref a_this, .int v1, .int v2].toArray s 0 0 A) (F0 m 7 ls []) := by
    intro n7
    induction n7 with
    | zero => intro x3 rows size H locs ls hW hl h; exact k_no h
    | succ n7 ih7 =>
      intro x3 rows size H locs ls hW hl h
      have h := (fs_X9_puts_7 _ _ _ _ _ _ _ _ _).symm.trans h
      refine lv_iload_n hx hb dX9_puts_7 rfl (lv_at hl 3 rfl) ?_
      refine lv_if_le (tgt := 58) hx hb dX9_puts_8 (by decide) (fun c_5 => ?_) (fun c_5 => ?_)
      · have h := k_t c_5 h
        exact J58 x3 rows size H locs ls hW (lv_sub hl [0, 1, 2, 3] rfl) h
      · have h := k_f c_5 h
        refine lv_aload_n hx hb dX9_puts_11 rfl (lv_at hl 0 rfl) ?_
        refine va_get (D := D) (ci := 9) (v := .ref a_rows) (C := RX9) (T := TX9) (N := 36) hx hb hts iX9 hown hB.1 hW.1 0 rfl rfl 1 (by decide) (hts _ q5_127) (fun _ h9 => h9) rfl dX9_puts_12 ?_
        refine lv_bipush (v := 60) hx hb dX9_puts_15 (by decide) ?_
        refine lv_iload_n hx hb dX9_puts_17 rfl (lv_at hl 1 rfl) ?_
        refine lv_imul hx hb dX9_puts_18 ?_
        refine lv_iload_n hx hb dX9_puts_19 rfl (lv_at hl 3 rfl) ?_
        refine lv_iadd hx hb dX9_puts_20 ?_
        refine lv_iconst (v := 1) hx hb dX9_puts_21 (by decide) ?_
        refine lv_isub hx hb dX9_puts_22 ?_
        refine lv_topi (fun x_6 ex_6 => ?_)
        have h := k_letE ex_6 h
        obtain ⟨c_7, h⟩ := k_g h
        refine va_iald hx hb hB.1 hW.1 1 0 rfl rfl c_7 dX9_puts_23 ?_
        refine lv_topi (fun x_8 ex_8 => ?_)
        have h := k_letE ex_8 h
        refine lv_iload_n hx hb dX9_puts_24 rfl (lv_at hl 2 rfl) ?_
        refine lv_icmp_le (tgt := 58) hx hb dX9_puts_25 (by decide) (fun c_9 => ?_) (fun c_9 => ?_)
        · have h := k_t c_9 h
          exact J58 x3 rows size H locs ls hW (lv_sub hl [0, 1, 2, 3] rfl) h
        · have h := k_f c_9 h
          refine lv_aload_n hx hb dX9_puts_28 rfl (lv_at hl 0 rfl) ?_
          refine va_get (D := D) (ci := 9) (v := .ref a_rows) (C := RX9) (T := TX9) (N := 36) hx hb hts iX9 hown hB.1 hW.1 0 rfl rfl 1 (by decide) (hts _ q5_127) (fun _ h9 => h9) rfl dX9_puts_29 ?_
          refine lv_bipush (v := 60) hx hb dX9_puts_32 (by decide) ?_
          refine lv_iload_n hx hb dX9_puts_34 rfl (lv_at hl 1 rfl) ?_
          refine lv_imul hx hb dX9_puts_35 ?_
          refine lv_iload_n hx hb dX9_puts_36 rfl (lv_at hl 3 rfl) ?_
          refine lv_iadd hx hb dX9_puts_37 ?_
          refine lv_aload_n hx hb dX9_puts_38 rfl (lv_at hl 0 rfl) ?_
          refine va_get (D := D) (ci := 9) (v := .ref a_rows) (C := RX9) (T := TX9) (N := 36) hx hb hts iX9 hown hB.1 hW.1 0 rfl rfl 1 (by decide) (hts _ q5_127) (fun _ h9 => h9) rfl dX9_puts_39 ?_
          refine lv_bipush (v := 60) hx hb dX9_puts_42 (by decide) ?_
          refine lv_iload_n hx hb dX9_puts_44 rfl (lv_at hl 1 rfl) ?_
          refine lv_imul hx hb dX9_puts_45 ?_
          refine lv_iload_n hx hb dX9_puts_46 rfl (lv_at hl 3 rfl) ?_
          refine lv_iadd hx hb dX9_puts_47 ?_
          refine lv_iconst (v := 1) hx hb dX9_puts_48 (by decide) ?_
          refine lv_isub hx hb dX9_puts_49 ?_
          refine lv_topi (fun x_10 ex_10 => ?_)
          have h := k_letE ex_10 h
          obtain ⟨c_11, h⟩ := k_g h
          refine va_iald hx hb hB.1 hW.1 1 0 rfl rfl c_11 dX9_puts_50 ?_
          refine lv_topi (fun x_12 ex_12 => ?_)
          have h := k_letE ex_12 h
          obtain ⟨c_13, h⟩ := k_g h
          refine va_iast hx hb hB.1 hW.1 hW.2.1 hW.2.2 1 0 rfl rfl c_13 dX9_puts_51 (fun H locs hP hD hS => ?_)
          have hW : k_Wd D A s.heap [(a_this, .inr (9, [.int thrown, .ref a_rows, .ref a_size, .int changes, .int undoable, .ref w_filter, .ref w_made, .ref w_pending, .ref w_savedFilter, .ref w_stack, .int filterSize, .int madeSize, .int pendings, .int savedFilterSize, .ref w_counts, .int foundKey, .int foundGroup, .int foundProduct, .int foundMany, .int isClean, .int groupRows, .int groupTotal, .ref w_totals, .ref w_ranked, .ref w_watchGroup, .ref w_watchBound, .ref w_savedGroup, .ref w_savedBound, .int watches, .int savedWatches, .ref w_text, .int length, .int at_, .int parens, .int faultAt, .int isSaved])), (a_rows, .inl (cA 0, n_rows, .inl (upd rows ((60 * v1) + x3).toNatClampNeg x_12))), (a_size, .inl (cA 0, n_size, .inl size))] H locs := ⟨hP, hD, hS⟩
          obtain ⟨x_14, ex_14⟩ : ∃ y : Int32, y = x3 + (-1) := ⟨_, rfl⟩
          have h := k_letE ex_14 h
          refine lv_iinc (v := x_14) (lv' := [(3, .int x_14), (0, .ref a_this), (1, .int v1), (2, .int v2)]) hx hb dX9_puts_52 hl (k := 3) rfl (by rw [ex_14]; rfl) (by decide) rfl (fun ls hl => ?_)
          refine lv_goto (tgt := 7) hx hb dX9_puts_55 (by decide) ?_
          exact ih7 x_14 (upd rows ((60 * v1) + x3).toNatClampNeg x_12) size H locs ls hW (lv_sub hl [1, 2, 3, 0] rfl) h
  refine lv_aload_n hx hb dX9_puts_0 rfl (lv_at hl 0 rfl) ?_
  refine va_get (D := D) (ci := 9) (v := .ref a_size) (C := RX9) (T := TX9) (N := 36) hx hb hts iX9 hown hB.1 hW.1 0 rfl rfl 2 (by decide) (hts _ q5_128) (fun _ h9 => h9) rfl dX9_puts_1 ?_
  refine lv_iload_n hx hb dX9_puts_4 rfl (lv_at hl 1 rfl) ?_
  obtain ⟨c_15, h⟩ := k_g h
  refine va_iald hx hb hB.1 hW.1 2 0 rfl rfl c_15 dX9_puts_5 ?_
  refine lv_topi (fun x_16 ex_16 => ?_)
  have h := k_letE ex_16 h
  refine lv_istore_n (lv' := [(3, .int x_16), (0, .ref a_this), (1, .int v1), (2, .int v2)]) hx hb dX9_puts_6 rfl hl (by decide) rfl (fun ls hl => ?_)
  exact J7 fu x_16 rows size H locs ls hW (lv_sub hl [1, 2, 3, 0] rfl) h
