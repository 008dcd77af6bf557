noncomputable def f_X9_holds_195 (fu : Nat) (n_filter : Nat) (n_stack : Nat) (filterSize : Int32) (filter : Nat → Int32) (v1 : Int32) (v2 : Int32) (v3 : Int32) (v4 : Int32) (stack : Nat → Int32) : Option (Int32 × (Nat → Int32)) := (if filterSize = 0 then (if vp_nar .boolean (1 : Int32) = (1 : Int32) then some (1, stack) else none) else (if ¬ ((0 : Int32) < 0 ∨ n_stack ≤ (0 : Int32).toNatClampNeg) then k_let (stack (0 : Int32).toNatClampNeg) fun x_4 => (if x_4 = 0 then (if vp_nar .boolean (0 : Int32) = (0 : Int32) then some (0, stack) else none) else (if vp_nar .boolean (1 : Int32) = (1 : Int32) then some (1, stack) else none)) else none))
noncomputable def f_X9_holds_189 (fu : Nat) (n_filter : Nat) (n_stack : Nat) (filterSize : Int32) (filter : Nat → Int32) (v1 : Int32) (v2 : Int32) (v3 : Int32) (v4 : Int32) (k6 : Int32 → Int32 → (Nat → Int32) → Option (Int32 × (Nat → Int32))) (x5 : Int32) (x6 : Int32) (stack : Nat → Int32) : Option (Int32 × (Nat → Int32)) := (k_let (x6 + 1) fun x_8 => (k6 x5 x_8 stack))
noncomputable def f_X9_holds_157 (fu : Nat) (n_filter : Nat) (n_stack : Nat) (filterSize : Int32) (filter : Nat → Int32) (v1 : Int32) (v2 : Int32) (v3 : Int32) (v4 : Int32) (k6 : Int32 → Int32 → (Nat → Int32) → Option (Int32 × (Nat → Int32))) (x5 : Int32) (x6 : Int32) (s1 : Int32) (s2 : Int32) (stack : Nat → Int32) : Option (Int32 × (Nat → Int32)) := (if ¬ (s1 < 0 ∨ n_stack ≤ s1.toNatClampNeg) then ((f_X9_holds_189 fu n_filter n_stack filterSize filter v1 v2 v3 v4 k6 x5 x6 (upd stack s1.toNatClampNeg (vp_nar .boolean s2)))) else none)
noncomputable def f_X9_holds_152 (fu : Nat) (n_filter : Nat) (n_stack : Nat) (filterSize : Int32) (filter : Nat → Int32) (v1 : Int32) (v2 : Int32) (v3 : Int32) (v4 : Int32) (k6 : Int32 → Int32 → (Nat → Int32) → Option (Int32 × (Nat → Int32))) (x5 : Int32) (x6 : Int32) (s1 : Int32) (stack : Nat → Int32) : Option (Int32 × (Nat → Int32)) := ((f_X9_holds_157 fu n_filter n_stack filterSize filter v1 v2 v3 v4 k6 x5 x6 s1 1 stack))
noncomputable def f_X9_holds_115 (fu : Nat) (n_filter : Nat) (n_stack : Nat) (filterSize : Int32) (filter : Nat → Int32) (v1 : Int32) (v2 : Int32) (v3 : Int32) (v4 : Int32) (k6 : Int32 → Int32 → (Nat → Int32) → Option (Int32 × (Nat → Int32))) (x5 : Int32) (x6 : Int32) (s1 : Int32) (s2 : Int32) (stack : Nat → Int32) : Option (Int32 × (Nat → Int32)) := (if ¬ (s1 < 0 ∨ n_stack ≤ s1.toNatClampNeg) then ((f_X9_holds_189 fu n_filter n_stack filterSize filter v1 v2 v3 v4 k6 x5 x6 (upd stack s1.toNatClampNeg (vp_nar .boolean s2)))) else none)
noncomputable def f_X9_holds_114 (fu : Nat) (n_filter : Nat) (n_stack : Nat) (filterSize : Int32) (filter : Nat → Int32) (v1 : Int32) (v2 : Int32) (v3 : Int32) (v4 : Int32) (k6 : Int32 → Int32 → (Nat → Int32) → Option (Int32 × (Nat → Int32))) (x5 : Int32) (x6 : Int32) (s1 : Int32) (stack : Nat → Int32) : Option (Int32 × (Nat → Int32)) := ((f_X9_holds_115 fu n_filter n_stack filterSize filter v1 v2 v3 v4 k6 x5 x6 s1 0 stack))
noncomputable def f_X9_holds_73 (fu : Nat) (n_filter : Nat) (n_stack : Nat) (filterSize : Int32) (filter : Nat → Int32) (v1 : Int32) (v2 : Int32) (v3 : Int32) (v4 : Int32) (k6 : Int32 → Int32 → (Nat → Int32) → Option (Int32 × (Nat → Int32))) (x5 : Int32) (x6 : Int32) (s1 : Int32) (s2 : Int32) (stack : Nat → Int32) : Option (Int32 × (Nat → Int32)) := (if ¬ (s1 < 0 ∨ n_stack ≤ s1.toNatClampNeg) then ((f_X9_holds_189 fu n_filter n_stack filterSize filter v1 v2 v3 v4 k6 x5 x6 (upd stack s1.toNatClampNeg (vp_nar .boolean s2)))) else none)
noncomputable def f_X9_holds_6 (fu : Nat) (n_filter : Nat) (n_stack : Nat) (filterSize : Int32) (filter : Nat → Int32) (v1 : Int32) (v2 : Int32) (v3 : Int32) (v4 : Int32) : Nat → Int32 → Int32 → (Nat → Int32) → Option (Int32 × (Nat → Int32))
  | 0 => fun _ _ _ => none
  | n + 1 => fun x5 x6 stack => (if filterSize ≤ x6 then ((f_X9_holds_195 fu n_filter n_stack filterSize filter v1 v2 v3 v4 stack)) else (if ¬ (x6 < 0 ∨ n_filter ≤ x6.toNatClampNeg) then k_let (filter x6.toNatClampNeg) fun x_14 => (if x_14 = 1 then (k_let (x5 - 1) fun x_16 => if ¬ (x_16 < 0 ∨ n_stack ≤ x_16.toNatClampNeg) then k_let (stack x_16.toNatClampNeg) fun x_18 => (if x_18 = 0 then ((f_X9_holds_73 fu n_filter n_stack filterSize filter v1 v2 v3 v4 (f_X9_holds_6 fu n_filter n_stack filterSize filter v1 v2 v3 v4 n) x5 x6 (x5 - 1) 1 stack)) else ((f_X9_holds_73 fu n_filter n_stack filterSize filter v1 v2 v3 v4 (f_X9_holds_6 fu n_filter n_stack filterSize filter v1 v2 v3 v4 n) x5 x6 (x5 - 1) 0 stack))) else none) else if x_14 = 2 then (k_let (x5 + (-1)) fun x_21 => k_let (x_21 - 1) fun x_22 => if ¬ (x_22 < 0 ∨ n_stack ≤ x_22.toNatClampNeg) then k_let (stack x_22.toNatClampNeg) fun x_24 => (if x_24 = 0 then ((f_X9_holds_114 fu n_filter n_stack filterSize filter v1 v2 v3 v4 (f_X9_holds_6 fu n_filter n_stack filterSize filter v1 v2 v3 v4 n) x_21 x6 (x_21 - 1) stack)) else (if ¬ (x_21 < 0 ∨ n_stack ≤ x_21.toNatClampNeg) then k_let (stack x_21.toNatClampNeg) fun x_27 => (if x_27 = 0 then ((f_X9_holds_114 fu n_filter n_stack filterSize filter v1 v2 v3 v4 (f_X9_holds_6 fu n_filter n_stack filterSize filter v1 v2 v3 v4 n) x_21 x6 (x_21 - 1) stack)) else ((f_X9_holds_115 fu n_filter n_stack filterSize filter v1 v2 v3 v4 (f_X9_holds_6 fu n_filter n_stack filterSize filter v1 v2 v3 v4 n) x_21 x6 (x_21 - 1) 1 stack))) else none)) else none) else if x_14 = 3 then (k_let (x5 + (-1)) fun x_30 => k_let (x_30 - 1) fun x_31 => if ¬ (x_31 < 0 ∨ n_stack ≤ x_31.toNatClampNeg) then k_let (stack x_31.toNatClampNeg) fun x_33 => (if x_33 = 0 then (if ¬ (x_30 < 0 ∨ n_stack ≤ x_30.toNatClampNeg) then k_let (stack x_30.toNatClampNeg) fun x_36 => (if x_36 = 0 then ((f_X9_holds_157 fu n_filter n_stack filterSize filter v1 v2 v3 v4 (f_X9_holds_6 fu n_filter n_stack filterSize filter v1 v2 v3 v4 n) x_30 x6 (x_30 - 1) 0 stack)) else ((f_X9_holds_152 fu n_filter n_stack filterSize filter v1 v2 v3 v4 (f_X9_holds_6 fu n_filter n_stack filterSize filter v1 v2 v3 v4 n) x_30 x6 (x_30 - 1) stack))) else none) else ((f_X9_holds_152 fu n_filter n_stack filterSize filter v1 v2 v3 v4 (f_X9_holds_6 fu n_filter n_stack filterSize filter v1 v2 v3 v4 n) x_30 x6 (x_30 - 1) stack))) else none) else (if ¬ (x6 < 0 ∨ n_filter ≤ x6.toNatClampNeg) then k_let (filter x6.toNatClampNeg) fun x_39 => (k_b1 (f_X9_compares (x_39 - 10) v1 v2 v3 v4) fun r_41 => (if ¬ (x5 < 0 ∨ n_stack ≤ x5.toNatClampNeg) then (k_let (x5 + 1) fun x_44 => (f_X9_holds_189 fu n_filter n_stack filterSize filter v1 v2 v3 v4 (f_X9_holds_6 fu n_filter n_stack filterSize filter v1 v2 v3 v4 n) x_44 x6 (upd stack x5.toNatClampNeg (vp_nar .boolean r_41)))) else none)) else none)) else none))
theorem fs_X9_holds_6 (fu : Nat) (n_filter : Nat) (n_stack : Nat) (filterSize : Int32) (filter : Nat → Int32) (v1 : Int32) (v2 : Int32) (v3 : Int32) (v4 : Int32) (n : Nat) (x5 : Int32) (x6 : Int32) (stack : Nat → Int32) : f_X9_holds_6 fu n_filter n_stack filterSize filter v1 v2 v3 v4 (n + 1) x5 x6 stack = (if filterSize ≤ x6 then ((f_X9_holds_195 fu n_filter n_stack filterSize filter v1 v2 v3 v4 stack)) else (if ¬ (x6 < 0 ∨ n_filter ≤ x6.toNatClampNeg) then k_let (filter x6.toNatClampNeg) fun x_14 => (if x_14 = 1 then (k_let (x5 - 1) fun x_16 => if ¬ (x_16 < 0 ∨ n_stack ≤ x_16.toNatClampNeg) then k_let (stack x_16.toNatClampNeg) fun x_18 => (if x_18 = 0 then ((f_X9_holds_73 fu n_filter n_stack filterSize filter v1 v2 v3 v4 (f_X9_holds_6 fu n_filter n_stack filterSize filter v1 v2 v3 v4 n) x5 x6 (x5 - 1) 1 stack)) else ((f_X9_holds_73 fu n_filter n_stack filterSize filter v1 v2 v3 v4 (f_X9_holds_6 fu n_filter n_stack filterSize filter v1 v2 v3 v4 n) x5 x6 (x5 - 1) 0 stack))) else none) else if x_14 = 2 then (k_let (x5 + (-1)) fun x_21 => k_let (x_21 - 1) fun x_22 => if ¬ (x_22 < 0 ∨ n_stack ≤ x_22.toNatClampNeg) then k_let (stack x_22.toNatClampNeg) fun x_24 => (if x_24 = 0 then ((f_X9_holds_114 fu n_filter n_stack filterSize filter v1 v2 v3 v4 (f_X9_holds_6 fu n_filter n_stack filterSize filter v1 v2 v3 v4 n) x_21 x6 (x_21 - 1) stack)) else (if ¬ (x_21 < 0 ∨ n_stack ≤ x_21.toNatClampNeg) then k_let (stack x_21.toNatClampNeg) fun x_27 => (if x_27 = 0 then ((f_X9_holds_114 fu n_filter n_stack filterSize filter v1 v2 v3 v4 (f_X9_holds_6 fu n_filter n_stack filterSize filter v1 v2 v3 v4 n) x_21 x6 (x_21 - 1) stack)) else ((f_X9_holds_115 fu n_filter n_stack filterSize filter v1 v2 v3 v4 (f_X9_holds_6 fu n_filter n_stack filterSize filter v1 v2 v3 v4 n) x_21 x6 (x_21 - 1) 1 stack))) else none)) else none) else if x_14 = 3 then (k_let (x5 + (-1)) fun x_30 => k_let (x_30 - 1) fun x_31 => if ¬ (x_31 < 0 ∨ n_stack ≤ x_31.toNatClampNeg) then k_let (stack x_31.toNatClampNeg) fun x_33 => (if x_33 = 0 then (if ¬ (x_30 < 0 ∨ n_stack ≤ x_30.toNatClampNeg) then k_let (stack x_30.toNatClampNeg) fun x_36 => (if x_36 = 0 then ((f_X9_holds_157 fu n_filter n_stack filterSize filter v1 v2 v3 v4 (f_X9_holds_6 fu n_filter n_stack filterSize filter v1 v2 v3 v4 n) x_30 x6 (x_30 - 1) 0 stack)) else ((f_X9_holds_152 fu n_filter n_stack filterSize filter v1 v2 v3 v4 (f_X9_holds_6 fu n_filter n_stack filterSize filter v1 v2 v3 v4 n) x_30 x6 (x_30 - 1) stack))) else none) else ((f_X9_holds_152 fu n_filter n_stack filterSize filter v1 v2 v3 v4 (f_X9_holds_6 fu n_filter n_stack filterSize filter v1 v2 v3 v4 n) x_30 x6 (x_30 - 1) stack))) else none) else (if ¬ (x6 < 0 ∨ n_filter ≤ x6.toNatClampNeg) then k_let (filter x6.toNatClampNeg) fun x_39 => (k_b1 (f_X9_compares (x_39 - 10) v1 v2 v3 v4) fun r_41 => (if ¬ (x5 < 0 ∨ n_stack ≤ x5.toNatClampNeg) then (k_let (x5 + 1) fun x_44 => (f_X9_holds_189 fu n_filter n_stack filterSize filter v1 v2 v3 v4 (f_X9_holds_6 fu n_filter n_stack filterSize filter v1 v2 v3 v4 n) x_44 x6 (upd stack x5.toNatClampNeg (vp_nar .boolean r_41)))) else none)) else none)) else none)) := rfl
noncomputable def f_X9_holds (fu : Nat) (n_filter : Nat) (n_stack : Nat) (filterSize : Int32) (filter : Nat → Int32) (v1 : Int32) (v2 : Int32) (v3 : Int32) (v4 : Int32) (stack : Nat → Int32) : Option (Int32 × (Nat → Int32)) := ((f_X9_holds_6 fu n_filter n_stack filterSize filter v1 v2 v3 v4 fu 0 0 stack))
abbrev rm_X9_holds : Room := { frames := 1, cells := 0, slots := 0, locals := 28 }
theorem pd_X9_holds : k_D1 yX9_holds 4 := by decide +kernel
set_option maxHeartbeats 4000000 in
set_option maxRecDepth 100000 in
theorem m_X9_holds (l : Launch) (D : va_G) (cA : Nat → ClassId) (sz : Nat) (a_this a_filter a_stack : Nat) (w_rows : Nat) (w_size : Nat) (w_made : Nat) (w_pending : Nat) (w_savedFilter : Nat) (w_counts : Nat) (w_totals : Nat) (w_ranked : Nat) (w_watchGroup : Nat) (w_watchBound : Nat) (w_savedGroup : Nat) (w_savedBound : Nat) (w_text : Nat) (fu : Nat) (n_filter : Nat) (n_stack : Nat) (thrown : Int32) (changes : Int32) (undoable : Int32) (filterSize : Int32) (madeSize : Int32) (pendings : Int32) (savedFilterSize : Int32) (foundKey : Int32) (foundGroup : Int32) (foundProduct : Int32) (foundMany : Int32) (isClean : Int32) (groupRows : Int32) (groupTotal : Int32) (watches : Int32) (savedWatches : Int32) (length : Int32) (at_ : Int32) (parens : Int32) (faultAt : Int32) (isSaved : Int32) (filter : Nat → Int32) (stack : Nat → Int32) (v1 : Int32) (v2 : Int32) (v3 : Int32) (v4 : Int32) (ret_ : Int32) (stack' : Nat → Int32) (h : f_X9_holds fu n_filter n_stack filterSize filter v1 v2 v3 v4 stack = some (ret_, stack')) : k_M l yX9_holds prog_11_method_31_code 7 (some .boolean) rm_X9_holds D cA [.ref a_this, .int v1, .int v2, .int v3, .int v4] [(a_this, .inr (9, [.int thrown, .ref w_rows, .ref w_size, .int changes, .int undoable, .ref a_filter, .ref w_made, .ref w_pending, .ref w_savedFilter, .ref a_stack, .int filterSize, .int madeSize, .int pendings, .int savedFilterSize, .ref w_counts, .int foundKey, .int foundGroup, .int foundProduct, .int foundMany, .int isClean, .int groupRows, .int groupTotal, .ref w_totals, .ref w_ranked, .ref w_watchGroup, .ref w_watchBound, .ref w_savedGroup, .ref w_savedBound, .int watches, .int savedWatches, .ref w_text, .int length, .int at_, .int parens, .int faultAt, .int isSaved])), (a_filter, .inl (cA 0, n_filter, .inl filter)), (a_stack, .inl (cA 2, n_stack, .inl stack))] sz (some (.int ret_)) [(a_this, .inr (9, [.int thrown, .ref w_rows, .ref w_size, .int changes, .int undoable, .ref a_filter, .ref w_made, .ref w_pending, .ref w_savedFilter, .ref a_stack, .int filterSize, .int madeSize, .int pendings, .int savedFilterSize, .ref w_counts, .int foundKey, .int foundGroup, .int foundProduct, .int foundMany, .int isClean, .int groupRows, .int groupTotal, .ref w_totals, .ref w_ranked, .ref w_watchGroup, .ref w_watchBound, .ref w_savedGroup, .ref w_savedBound, .int watches, .int savedWatches, .ref w_text, .int length, .int at_, .int parens, .int faultAt, .int isSaved])), (a_filter, .inl (cA 0, n_filter, .inl filter)), (a_stack, .inl (cA 2, n_stack, .inl (stack')))] := by
  refine k_ofW (by decide) (Nat.le_of_ble_eq_true rfl) ?_
  intro p e s m below meth c A ls hx hb hr hml hts hown hlocks hB hA hW hl
  have hl : lv_has ls 7 [(0, .ref a_this), (1, .int v1), (2, .int v2), (3, .int v3), (4, .int v4)] := hl
  obtain ⟨H, eH⟩ : ∃ H, H = s.heap := ⟨_, rfl⟩
  obtain ⟨locs, eL⟩ : ∃ L : List Loc, L = [] := ⟨_, rfl⟩
  have hW : k_Wd D A s.heap [(a_this, .inr (9, [.int thrown, .ref w_rows, .ref w_size, .int changes, .int undoable, .ref a_filter, .ref w_made, .ref w_pending, .ref w_savedFilter, .ref a_stack, .int filterSize, .int madeSize, .int pendings, .int savedFilterSize, .ref w_counts, .int foundKey, .int foundGroup, .int foundProduct, .int foundMany, .int isClean, .int groupRows, .int groupTotal, .ref w_totals, .ref w_ranked, .ref w_watchGroup, .ref w_watchBound, .ref w_savedGroup, .ref w_savedBound, .int watches, .int savedWatches, .ref w_text, .int length, .int at_, .int parens, .int faultAt, .int isSaved])), (a_filter, .inl (cA 0, n_filter, .inl filter)), (a_stack, .inl (cA 2, n_stack, .inl stack))] H locs := by rw [eH, eL]; exact hW
  suffices K : W p l e rm_X9_holds s m [.ref a_this, .int v1, .int v2, .int v3, .int v4].toArray below meth c H locs 0 0 (MQ below (k_Q (some (.int ret_)) D [(a_this, .inr (9, [.int thrown, .ref w_rows, .ref w_size, .int changes, .int undoable, .ref a_filter, .ref w_made, .ref w_pending, .ref w_savedFilter, .ref a_stack, .int filterSize, .int madeSize, .int pendings, .int savedFilterSize, .ref w_counts, .int foundKey, .int foundGroup, .int foundProduct, .int foundMany, .int isClean, .int groupRows, .int groupTotal, .ref w_totals, .ref w_ranked, .ref w_watchGroup, .ref w_watchBound, .ref w_savedGroup, .ref w_savedBound, .int watches, .int savedWatches, .ref w_text, .int length, .int at_, .int parens, .int faultAt, .int isSaved])), (a_filter, .inl (cA 0, n_filter, .inl filter)), (a_stack, .inl (cA 2, n_stack, .inl (stack')))] A) [.ref a_this, .int v1, .int v2, .int v3, .int v4].toArray s 0 0 A) (F0 m 0 ls []) by rw [eH, eL] at K; exact K
  clear eH eL
  have J195 : ∀ (stack : Nat → Int32) (H : Heap) (locs : List Loc) (ls : Array Slot), k_Wd D A s.heap [(a_this, .inr (9, [.int thrown, .ref w_rows, .ref w_size, .int changes, .int undoable, .ref a_filter, .ref w_made, .ref w_pending, .ref w_savedFilter, .ref a_stack, .int filterSize, .int madeSize, .int pendings, .int savedFilterSize, .ref w_counts, .int foundKey, .int foundGroup, .int foundProduct, .int foundMany, .int isClean, .int groupRows, .int groupTotal, .ref w_totals, .ref w_ranked, .ref w_watchGroup, .ref w_watchBound, .ref w_savedGroup, .ref w_savedBound, .int watches, .int savedWatches, .ref w_text, .int length, .int at_, .int parens, .int faultAt, .int isSaved])), (a_filter, .inl (cA 0, n_filter, .inl filter)), (a_stack, .inl (cA 2, n_stack, .inl stack))] H locs → lv_has ls 7 [(0, .ref a_this)] → f_X9_holds_195 fu n_filter n_stack filterSize filter v1 v2 v3 v4 stack = some (ret_, stack') → W p l e rm_X9_holds s m [.ref a_this, .int v1, .int v2, .int v3, .int v4].toArray below meth c H locs 0 0 (MQ below (k_Q (some (.int ret_)) D [(a_this, .inr (9, [.int thrown, .ref w_rows, .ref w_size, .int changes, .int undoable, .ref a_filter, .ref w_made, .ref w_pending, .ref w_savedFilter, .ref a_stack, .int filterSize, .int madeSize, .int pendings, .int savedFilterSize, .ref w_counts, .int foundKey, .int foundGroup, .int foundProduct, .int foundMany, .int isClean, .int groupRows, .int groupTotal, .ref w_totals, .ref w_ranked, .ref w_watchGroup, .ref w_watchBound, .ref w_savedGroup, .ref w_savedBound, .int watches, .int savedWatches, .ref w_text, .int length, .int at_, .int parens, .int faultAt, .int isSaved])), (a_filter, .inl (cA 0, n_filter, .inl filter)), (a_stack, .inl (cA 2, n_stack, .inl (stack')))] A) [.ref a_this, .int v1, .int v2, .int v3, .int v4].toArray s 0 0 A) (F0 m 195 ls []) := by
    intro stack H locs ls hW hl h
    refine lv_aload_n hx hb dX9_holds_195 rfl (lv_at hl 0 rfl) ?_
    refine va_get (D := D) (ci := 9) (v := .int filterSize) (C := RX9) (T := TX9) (N := 36) hx hb hts iX9 hown hB.1 hW.1 0 rfl rfl 10 (by decide) (hts _ q5_136) (fun _ h9 => h9) rfl dX9_holds_196 ?_
    refine lv_if_eq (tgt := 211) hx hb dX9_holds_199 (by decide) (fun c_1 => ?_) (fun c_1 => ?_)
    · have h := k_t c_1 h
      refine lv_iconst (v := 1) hx hb dX9_holds_211 (by decide) ?_
      refine lv_goto (tgt := 216) hx hb dX9_holds_212 (by decide) ?_
      obtain ⟨c_2, h⟩ := k_g h
      obtain ⟨z0, z1⟩ := k_inj2 h
      rw [← z0, ← z1]
      exact W.zret hx hb hr (k_narZ c_2) (fun t ht hWm => ⟨rfl, by rw [ht]; exact hW.1, hW.2.2.F ht⟩) hW.2.2.2.2 dX9_holds_216
    · have h := k_f c_1 h
      refine lv_aload_n hx hb dX9_holds_202 rfl (lv_at hl 0 rfl) ?_
      refine va_get (D := D) (ci := 9) (v := .ref a_stack) (C := RX9) (T := TX9) (N := 36) hx hb hts iX9 hown hB.1 hW.1 0 rfl rfl 9 (by decide) (hts _ q5_135) (fun _ h9 => h9) rfl dX9_holds_203 ?_
      refine lv_iconst (v := 0) hx hb dX9_holds_206 (by decide) ?_
      obtain ⟨c_3, h⟩ := k_g h
      refine va_zald hx hb hB.1 hW.1 2 2 rfl rfl c_3 dX9_holds_207 ?_
      refine lv_topi (fun x_4 ex_4 => ?_)
      have h := k_letE ex_4 h
      refine lv_if_eq (tgt := 215) hx hb dX9_holds_208 (by decide) (fun c_5 => ?_) (fun c_5 => ?_)
      · have h := k_t c_5 h
        refine lv_iconst (v := 0) hx hb dX9_holds_215 (by decide) ?_
        obtain ⟨c_6, h⟩ := k_g h
        obtain ⟨z0, z1⟩ := k_inj2 h
        rw [← z0, ← z1]
        exact W.zret hx hb hr (k_narZ c_6) (fun t ht hWm => ⟨rfl, by rw [ht]; exact hW.1, hW.2.2.F ht⟩) hW.2.2.2.2 dX9_holds_216
      · have h := k_f c_5 h
        refine lv_iconst (v := 1) hx hb dX9_holds_211 (by decide) ?_
        refine lv_goto (tgt := 216) hx hb dX9_holds_212 (by decide) ?_
        obtain ⟨c_7, h⟩ := k_g h
        obtain ⟨z0, z1⟩ := k_inj2 h
        rw [← z0, ← z1]
        exact W.zret hx hb hr (k_narZ c_7) (fun t ht hWm => ⟨rfl, by rw [ht]; exact hW.1, hW.2.2.F ht⟩) hW.2.2.2.2 dX9_holds_216
  have J6 : ∀ (n6 : Nat) (x5 : Int32) (x6 : Int32) (stack : Nat → Int32) (H : Heap) (locs : List Loc) (ls : Array Slot), k_Wd D A s.heap [(a_this, .inr (9, [.int thrown, .ref w_rows, .ref w_size, .int changes, .int undoable, .ref a_filter, .ref w_made, .ref w_pending, .ref w_savedFilter, .ref a_stack, .int filterSize, .int madeSize, .int pendings, .int savedFilterSize, .ref w_counts, .int foundKey, .int foundGroup, .int foundProduct, .int foundMany, .int isClean, .int groupRows, .int groupTotal, .ref w_totals, .ref w_ranked, .ref w_watchGroup, .ref w_watchBound, .ref w_savedGroup, .ref w_savedBound, .int watches, .int savedWatches, .ref w_text, .int length, .int at_, .int parens, .int faultAt, .int isSaved])), (a_filter, .inl (cA 0, n_filter, .inl filter)), (a_stack, .inl (cA 2, n_stack, .inl stack))] H locs → lv_has ls 7 [(0, .ref a_this), (1, .int v1), (2, .int v2), (3, .int v3), (4, .int v4), (5, .int x5), (6, .int x6)] → f_X9_holds_6 fu n_filter n_stack filterSize filter v1 v2 v3 v4 n6 x5 x6 stack = some (ret_, stack') → W p l e rm_X9_holds s m [.ref a_this, .int v1, .int v2, .int v3, .int v4].toArray below meth c H locs 0 0 (MQ below (k_Q (some (.int ret_)) D [(a_this, .inr (9, [.int thrown, .ref w_rows, .ref w_size, .int changes, .int undoable, .ref a_filter, .ref w_made, .ref w_pending, .ref w_savedFilter, .ref a_stack, .int filterSize, .int madeSize, .int pendings, .int savedFilterSize, .ref w_counts, .int foundKey, .int foundGroup, .int foundProduct, .int foundMany, .int isClean, .int groupRows, .int groupTotal, .ref w_totals, .ref w_ranked, .ref w_watchGroup, .ref w_watchBound, .ref w_savedGroup, .ref w_savedBound, .int watches, .int savedWatches, .ref w_text, .int length, .int at_, .int parens, .int faultAt, .int isSaved])), (a_filter, .inl (cA 0, n_filter, .inl filter)), (a_stack, .inl (cA 2, n_stack, .inl (stack')))] A) [.ref a_this, .int v1, .int v2, .int v3, .int v4].toArray s 0 0 A) (F0 m 6 ls []) := by
    intro n6
    induction n6 with
    | zero => intro x5 x6 stack H locs ls hW hl h; exact k_no h
    | succ n6 ih6 =>
      have J189 : ∀ (x5 : Int32) (x6 : Int32) (stack : Nat → Int32) (H : Heap) (locs : List Loc) (ls : Array Slot), k_Wd D A s.heap [(a_this, .inr (9, [.int thrown, .ref w_rows, .ref w_size, .int changes, .int undoable, .ref a_filter, .ref w_made, .ref w_pending, .ref w_savedFilter, .ref a_stack, .int filterSize, .int madeSize, .int pendings, .int savedFilterSize, .ref w_counts, .int foundKey, .int foundGroup, .int foundProduct, .int foundMany, .int isClean, .int groupRows, .int groupTotal, .ref w_totals, .ref w_ranked, .ref w_watchGroup, .ref w_watchBound, .ref w_savedGroup, .ref w_savedBound, .int watches, .int savedWatches, .ref w_text, .int length, .int at_, .int parens, .int faultAt, .int isSaved])), (a_filter, .inl (cA 0, n_filter, .inl filter)), (a_stack, .inl (cA 2, n_stack, .inl stack))] H locs → lv_has ls 7 [(0, .ref a_this), (1, .int v1), (2, .int v2), (3, .int v3), (4, .int v4), (5, .int x5), (6, .int x6)] → f_X9_holds_189 fu n_filter n_stack filterSize filter v1 v2 v3 v4 (f_X9_holds_6 fu n_filter n_stack filterSize filter v1 v2 v3 v4 n6) x5 x6 stack = some (ret_, stack') → W p l e rm_X9_holds s m [.ref a_this, .int v1, .int v2, .int v3, .int v4].toArray below meth c H locs 0 0 (MQ below (k_Q (some (.int ret_)) D [(a_this, .inr (9, [.int thrown, .ref w_rows, .ref w_size, .int changes, .int undoable, .ref a_filter, .ref w_made, .ref w_pending, .ref w_savedFilter, .ref a_stack, .int filterSize, .int madeSize, .int pendings, .int savedFilterSize, .ref w_counts, .int foundKey, .int foundGroup, .int foundProduct, .int foundMany, .int isClean, .int groupRows, .int groupTotal, .ref w_totals, .ref w_ranked, .ref w_watchGroup, .ref w_watchBound, .ref w_savedGroup, .ref w_savedBound, .int watches, .int savedWatches, .ref w_text, .int length, .int at_, .int parens, .int faultAt, .int isSaved])), (a_filter, .inl (cA 0, n_filter, .inl filter)), (a_stack, .inl (cA 2, n_stack, .inl (stack')))] A) [.ref a_this, .int v1, .int v2, .int v3, .int v4].toArray s 0 0 A) (F0 m 189 ls []) := by
        intro x5 x6 stack H locs ls hW hl h
        obtain ⟨x_8, ex_8⟩ : ∃ y : Int32, y = x6 + 1 := ⟨_, rfl⟩
        have h := k_letE ex_8 h
        refine lv_iinc (v := x_8) (lv' := [(6, .int x_8), (0, .ref a_this), (1, .int v1), (2, .int v2), (3, .int v3), (4, .int v4), (5, .int x5)]) hx hb dX9_holds_189 hl (k := 6) rfl (by rw [ex_8]; rfl) (by decide) rfl (fun ls hl => ?_)
        refine lv_goto (tgt := 6) hx hb dX9_holds_192 (by decide) ?_
        exact ih6 x5 x_8 stack H locs ls hW (lv_sub hl [1, 2, 3, 4, 5, 6, 0] rfl) h
      have J157 : ∀ (x5 : Int32) (x6 : Int32) (s1 : Int32) (s2 : Int32) (stack : Nat → Int32) (H : Heap) (locs : List Loc) (ls : Array Slot), k_Wd D A s.heap [(a_this, .inr (9, [.int thrown, .ref w_rows, .ref w_size, .int changes, .int undoable, .ref a_filter, .ref w_made, .ref w_pending, .ref w_savedFilter, .ref a_stack, .int filterSize, .int madeSize, .int pendings, .int savedFilterSize, .ref w_counts, .int foundKey, .int foundGroup, .int foundProduct, .int foundMany, .int isClean, .int groupRows, .int groupTotal, .ref w_totals, .ref w_ranked, .ref w_watchGroup, .ref w_watchBound, .ref w_savedGroup, .ref w_savedBound, .int watches, .int savedWatches, .ref w_text, .int length, .int at_, .int parens, .int faultAt, .int isSaved])), (a_filter, .inl (cA 0, n_filter, .inl filter)), (a_stack, .inl (cA 2, n_stack, .inl stack))] H locs → lv_has ls 7 [(0, .ref a_this), (1, .int v1), (2, .int v2), (3, .int v3), (4, .int v4), (5, .int x5), (6, .int x6)] → f_X9_holds_157 fu n_filter n_stack filterSize filter v1 v2 v3 v4 (f_X9_holds_6 fu n_filter n_stack filterSize filter v1 v2 v3 v4 n6) x5 x6 s1 s2 stack = some (ret_, stack') → W p l e rm_X9_holds s m [.ref a_this, .int v1, .int v2, .int v3, .int v4].toArray below meth c H locs 0 0 (MQ below (k_Q (some (.int ret_)) D [(a_this, .inr (9, [.int thrown, .ref w_rows, .ref w_size, .int changes, .int undoable, .ref a_filter, .ref w_made, .ref w_pending, .ref w_savedFilter, .ref a_stack, .int filterSize, .int madeSize, .int pendings, .int savedFilterSize, .ref w_counts, .int foundKey, .int foundGroup, .int foundProduct, .int foundMany, .int isClean, .int groupRows, .int groupTotal, .ref w_totals, .ref w_ranked, .ref w_watchGroup, .ref w_watchBound, .ref w_savedGroup, .ref w_savedBound, .int watches, .int savedWatches, .ref w_text, .int length, .int at_, .int parens, .int faultAt, .int isSaved])), (a_filter, .inl (cA 0, n_filter, .inl filter)), (a_stack, .inl (cA 2, n_stack, .inl (stack')))] A) [.ref a_this, .int v1, .int v2, .int v3, .int v4].toArray s 0 0 A) (F0 m 157 ls [.int s2, .int s1, .ref a_stack]) := by
        intro x5 x6 s1 s2 stack H locs ls hW hl h
        obtain ⟨c_9, h⟩ := k_g h
        refine va_zast hx hb hB.1 hW.1 hW.2.1 hW.2.2 2 2 rfl rfl c_9 dX9_holds_157 (fun H locs hP hD hS => ?_)
        have hW : k_Wd D A s.heap [(a_this, .inr (9, [.int thrown, .ref w_rows, .ref w_size, .int changes, .int undoable, .ref a_filter, .ref w_made, .ref w_pending, .ref w_savedFilter, .ref a_stack, .int filterSize, .int madeSize, .int pendings, .int savedFilterSize, .ref w_counts, .int foundKey, .int foundGroup, .int foundProduct, .int foundMany, .int isClean, .int groupRows, .int groupTotal, .ref w_totals, .ref w_ranked, .ref w_watchGroup, .ref w_watchBound, .ref w_savedGroup, .ref w_savedBound, .int watches, .int savedWatches, .ref w_text, .int length, .int at_, .int parens, .int faultAt, .int isSaved])), (a_filter, .inl (cA 0, n_filter, .inl filter)), (a_stack, .inl (cA 2, n_stack, .inl (upd stack s1.toNatClampNeg (vp_nar .boolean s2))))] H locs := ⟨hP, hD, hS⟩
        refine lv_goto (tgt := 189) hx hb dX9_holds_158 (by decide) ?_
        exact J189 x5 x6 (upd stack s1.toNatClampNeg (vp_nar .boolean s2)) H locs ls hW (lv_sub hl [0, 1, 2, 3, 4, 5, 6] rfl) h
      have J152 : ∀ (x5 : Int32) (x6 : Int32) (s1 : Int32) (stack : Nat → Int32) (H : Heap) (locs : List Loc) (ls : Array Slot), k_Wd D A s.heap [(a_this, .inr (9, [.int thrown, .ref w_rows, .ref w_size, .int changes, .int undoable, .ref a_filter, .ref w_made, .ref w_pending, .ref w_savedFilter, .ref a_stack, .int filterSize, .int madeSize, .int pendings, .int savedFilterSize, .ref w_counts, .int foundKey, .int foundGroup, .int foundProduct, .int foundMany, .int isClean, .int groupRows, .int groupTotal, .ref w_totals, .ref w_ranked, .ref w_watchGroup, .ref w_watchBound, .ref w_savedGroup, .ref w_savedBound, .int watches, .int savedWatches, .ref w_text, .int length, .int at_, .int parens, .int faultAt, .int isSaved])), (a_filter, .inl (cA 0, n_filter, .inl filter)), (a_stack, .inl (cA 2, n_stack, .inl stack))] H locs → lv_has ls 7 [(0, .ref a_this), (1, .int v1), (2, .int v2), (3, .int v3), (4, .int v4), (5, .int x5), (6, .int x6)] → f_X9_holds_152 fu n_filter n_stack filterSize filter v1 v2 v3 v4 (f_X9_holds_6 fu n_filter n_stack filterSize filter v1 v2 v3 v4 n6) x5 x6 s1 stack = some (ret_, stack') → W p l e rm_X9_holds s m [.ref a_this, .int v1, .int v2, .int v3, .int v4].toArray below meth c H locs 0 0 (MQ below (k_Q (some (.int ret_)) D [(a_this, .inr (9, [.int thrown, .ref w_rows, .ref w_size, .int changes, .int undoable, .ref a_filter, .ref w_made, .ref w_pending, .ref w_savedFilter, .ref a_stack, .int filterSize, .int madeSize, .int pendings, .int savedFilterSize, .ref w_counts, .int foundKey, .int foundGroup, .int foundProduct, .int foundMany, .int isClean, .int groupRows, .int groupTotal, .ref w_totals, .ref w_ranked, .ref w_watchGroup, .ref w_watchBound, .ref w_savedGroup, .ref w_savedBound, .int watches, .int savedWatches, .ref w_text, .int length, .int at_, .int parens, .int faultAt, .int isSaved])), (a_filter, .inl (cA 0, n_filter, .inl filter)), (a_stack, .inl (cA 2, n_stack, .inl (stack')))] A) [.ref a_this, .int v1, .int v2, .int v3, .int v4].toArray s 0 0 A) (F0 m 152 ls [.int s1, .ref a_stack]) := by
        intro x5 x6 s1 stack H locs ls hW hl h
        refine lv_iconst (v := 1) hx hb dX9_holds_152 (by decide) ?_
        refine lv_goto (tgt := 157) hx hb dX9_holds_153 (by decide) ?_
        exact J157 x5 x6 s1 1 stack H locs ls hW (lv_sub hl [0, 1, 2, 3, 4, 5, 6] rfl) h
      have J115 : ∀ (x5 : Int32) (x6 : Int32) (s1 : Int32) (s2 : Int32) (stack : Nat → Int32) (H : Heap) (locs : List Loc) (ls : Array Slot), k_Wd D A s.heap [(a_this, .inr (9, [.int thrown, .ref w_rows, .ref w_size, .int changes, .int undoable, .ref a_filter, .ref w_made, .ref w_pending, .ref w_savedFilter, .ref a_stack, .int filterSize, .int madeSize, .int pendings, .int savedFilterSize, .ref w_counts, .int foundKey, .int foundGroup, .int foundProduct, .int foundMany, .int isClean, .int groupRows, .int groupTotal, .ref w_totals, .ref w_ranked, .ref w_watchGroup, .ref w_watchBound, .ref w_savedGroup, .ref w_savedBound, .int watches, .int savedWatches, .ref w_text, .int length, .int at_, .int parens, .int faultAt, .int isSaved])), (a_filter, .inl (cA 0, n_filter, .inl filter)), (a_stack, .inl (cA 2, n_stack, .inl stack))] H locs → lv_has ls 7 [(0, .ref a_this), (1, .int v1), (2, .int v2), (3, .int v3), (4, .int v4), (5, .int x5), (6, .int x6)] → f_X9_holds_115 fu n_filter n_stack filterSize filter v1 v2 v3 v4 (f_X9_holds_6 fu n_filter n_stack filterSize filter v1 v2 v3 v4 n6) x5 x6 s1 s2 stack = some (ret_, stack') → W p l e rm_X9_holds s m [.ref a_this, .int v1, .int v2, .int v3, .int v4].toArray below meth c H locs 0 0 (MQ below (k_Q (some (.int ret_)) D [(a_this, .inr (9, [.int thrown, .ref w_rows, .ref w_size, .int changes, .int undoable, .ref a_filter, .ref w_made, .ref w_pending, .ref w_savedFilter, .ref a_stack, .int filterSize, .int madeSize, .int pendings, .int savedFilterSize, .ref w_counts, .int foundKey, .int foundGroup, .int foundProduct, .int foundMany, .int isClean, .int groupRows, .int groupTotal, .ref w_totals, .ref w_ranked, .ref w_watchGroup, .ref w_watchBound, .ref w_savedGroup, .ref w_savedBound, .int watches, .int savedWatches, .ref w_text, .int length, .int at_, .int parens, .int faultAt, .int isSaved])), (a_filter, .inl (cA 0, n_filter, .inl filter)), (a_stack, .inl (cA 2, n_stack, .inl (stack')))] A) [.ref a_this, .int v1, .int v2, .int v3, .int v4].toArray s 0 0 A) (F0 m 115 ls [.int s2, .int s1, .ref a_stack]) := by
        intro x5 x6 s1 s2 stack H locs ls hW hl h
        obtain ⟨c_10, h⟩ := k_g h
        refine va_zast hx hb hB.1 hW.1 hW.2.1 hW.2.2 2 2 rfl rfl c_10 dX9_holds_115 (fun H locs hP hD hS => ?_)
        have hW : k_Wd D A s.heap [(a_this, .inr (9, [.int thrown, .ref w_rows, .ref w_size, .int changes, .int undoable, .ref a_filter, .ref w_made, .ref w_pending, .ref w_savedFilter, .ref a_stack, .int filterSize, .int madeSize, .int pendings, .int savedFilterSize, .ref w_counts, .int foundKey, .int foundGroup, .int foundProduct, .int foundMany, .int isClean, .int groupRows, .int groupTotal, .ref w_totals, .ref w_ranked, .ref w_watchGroup, .ref w_watchBound, .ref w_savedGroup, .ref w_savedBound, .int watches, .int savedWatches, .ref w_text, .int length, .int at_, .int parens, .int faultAt, .int isSaved])), (a_filter, .inl (cA 0, n_filter, .inl filter)), (a_stack, .inl (cA 2, n_stack, .inl (upd stack s1.toNatClampNeg (vp_nar .boolean s2))))] H locs := ⟨hP, hD, hS⟩
        refine lv_goto (tgt := 189) hx hb dX9_holds_116 (by decide) ?_
        exact J189 x5 x6 (upd stack s1.toNatClampNeg (vp_nar .boolean s2)) H locs ls hW (lv_sub hl [0, 1, 2, 3, 4, 5, 6] rfl) h
      have J114 : ∀ (x5 : Int32) (x6 : Int32) (s1 : Int32) (stack : Nat → Int32) (H : Heap) (locs : List Loc) (ls : Array Slot), k_Wd D A s.heap [(a_this, .inr (9, [.int thrown, .ref w_rows, .ref w_size, .int changes, .int undoable, .ref a_filter, .ref w_made, .ref w_pending, .ref w_savedFilter, .ref a_stack, .int filterSize, .int madeSize, .int pendings, .int savedFilterSize, .ref w_counts, .int foundKey, .int foundGroup, .int foundProduct, .int foundMany, .int isClean, .int groupRows, .int groupTotal, .ref w_totals, .ref w_ranked, .ref w_watchGroup, .ref w_watchBound, .ref w_savedGroup, .ref w_savedBound, .int watches, .int savedWatches, .ref w_text, .int length, .int at_, .int parens, .int faultAt, .int isSaved])), (a_filter, .inl (cA 0, n_filter, .inl filter)), (a_stack, .inl (cA 2, n_stack, .inl stack))] H locs → lv_has ls 7 [(0, .ref a_this), (1, .int v1), (2, .int v2), (3, .int v3), (4, .int v4), (5, .int x5), (6, .int x6)] → f_X9_holds_114 fu n_filter n_stack filterSize filter v1 v2 v3 v4 (f_X9_holds_6 fu n_filter n_stack filterSize filter v1 v2 v3 v4 n6) x5 x6 s1 stack = some (ret_, stack') → W p l e rm_X9_holds s m [.ref a_this, .int v1, .int v2, .int v3, .int v4].toArray below meth c H locs 0 0 (MQ below (k_Q (some (.int ret_)) D [(a_this, .inr (9, [.int thrown, .ref w_rows, .ref w_size, .int changes, .int undoable, .ref a_filter, .ref w_made, .ref w_pending, .ref w_savedFilter, .ref a_stack, .int filterSize, .int madeSize, .int pendings, .int savedFilterSize, .ref w_counts, .int foundKey, .int foundGroup, .int foundProduct, .int foundMany, .int isClean, .int groupRows, .int groupTotal, .ref w_totals, .ref w_ranked, .ref w_watchGroup, .ref w_watchBound, .ref w_savedGroup, .ref w_savedBound, .int watches, .int savedWatches, .ref w_text, .int length, .int at_, .int parens, .int faultAt, .int isSaved])), (a_filter, .inl (cA 0, n_filter, .inl filter)), (a_stack, .inl (cA 2, n_stack, .inl (stack')))] A) [.ref a_this, .int v1, .int v2, .int v3, .int v4].toArray s 0 0 A) (F0 m 114 ls [.int s1, .ref a_stack]) := by
        intro x5 x6 s1 stack H locs ls hW hl h
        refine lv_iconst (v := 0) hx hb dX9_holds_114 (by decide) ?_
        exact J115 x5 x6 s1 0 stack H locs ls hW (lv_sub hl [0, 1, 2, 3, 4, 5, 6] rfl) h
      have J73 : ∀ (x5 : Int32) (x6 : Int32) (s1 : Int32) (s2 : Int32) (stack : Nat → Int32) (H : Heap) (locs : List Loc) (ls : Array Slot), k_Wd D A s.heap [(a_this, .inr (9, [.int thrown, .ref w_rows, .ref w_size, .int changes, .int undoable, .ref a_filter, .ref w_made, .ref w_pending, .ref w_savedFilter, .ref a_stack, .int filterSize, .int madeSize, .int pendings, .int savedFilterSize, .ref w_counts, .int foundKey, .int foundGroup, .int foundProduct, .int foundMany, .int isClean, .int groupRows, .int groupTotal, .ref w_totals, .ref w_ranked, .ref w_watchGroup, .ref w_watchBound, .ref w_savedGroup, .ref w_savedBound, .int watches, .int savedWatches, .ref w_text, .int length, .int at_, .int parens, .int faultAt, .int isSaved])), (a_filter, .inl (cA 0, n_filter, .inl filter)), (a_stack, .inl (cA 2, n_stack, .inl stack))] H locs → lv_has ls 7 [(0, .ref a_this), (1, .int v1), (2, .int v2), (3, .int v3), (4, .int v4), (5, .int x5), (6, .int x6)] → f_X9_holds_73 fu n_filter n_stack filterSize filter v1 v2 v3 v4 (f_X9_holds_6 fu n_filter n_stack filterSize filter v1 v2 v3 v4 n6) x5 x6 s1 s2 stack = some (ret_, stack') → W p l e rm_X9_holds s m [.ref a_this, .int v1, .int v2, .int v3, .int v4].toArray below meth c H locs 0 0 (MQ below (k_Q (some (.int ret_)) D [(a_this, .inr (9, [.int thrown, .ref w_rows, .ref w_size, .int changes, .int undoable, .ref a_filter, .ref w_made, .ref w_pending, .ref w_savedFilter, .ref a_stack, .int filterSize, .int madeSize, .int pendings, .int savedFilterSize, .ref w_counts, .int foundKey, .int foundGroup, .int foundProduct, .int foundMany, .int isClean, .int groupRows, .int groupTotal, .ref w_totals, .ref w_ranked, .ref w_watchGroup, .ref w_watchBound, .ref w_savedGroup, .ref w_savedBound, .int watches, .int savedWatches, .ref w_text, .int length, .int at_, .int parens, .int faultAt, .int isSaved])), (a_filter, .inl (cA 0, n_filter, .inl filter)), (a_stack, .inl (cA 2, n_stack, .inl (stack')))] A) [.ref a_this, .int v1, .int v2, .int v3, .int v4].toArray s 0 0 A) (F0 m 73 ls [.int s2, .int s1, .ref a_stack]) := by
        intro x5 x6 s1 s2 stack H locs ls hW hl h
        obtain ⟨c_11, h⟩ := k_g h
        refine va_zast hx hb hB.1 hW.1 hW.2.1 hW.2.2 2 2 rfl rfl c_11 dX9_holds_73 (fun H locs hP hD hS => ?_)
        have hW : k_Wd D A s.heap [(a_this, .inr (9, [.int thrown, .ref w_rows, .ref w_size, .int changes, .int undoable, .ref a_filter, .ref w_made, .ref w_pending, .ref w_savedFilter, .ref a_stack, .int filterSize, .int madeSize, .int pendings, .int savedFilterSize, .ref w_counts, .int foundKey, .int foundGroup, .int foundProduct, .int foundMany, .int isClean, .int groupRows, .int groupTotal, .ref w_totals, .ref w_ranked, .ref w_watchGroup, .ref w_watchBound, .ref w_savedGroup, .ref w_savedBound, .int watches, .int savedWatches, .ref w_text, .int length, .int at_, .int parens, .int faultAt, .int isSaved])), (a_filter, .inl (cA 0, n_filter, .inl filter)), (a_stack, .inl (cA 2, n_stack, .inl (upd stack s1.toNatClampNeg (vp_nar .boolean s2))))] H locs := ⟨hP, hD, hS⟩
        refine lv_goto (tgt := 189) hx hb dX9_holds_74 (by decide) ?_
        exact J189 x5 x6 (upd stack s1.toNatClampNeg (vp_nar .boolean s2)) H locs ls hW (lv_sub hl [0, 1, 2, 3, 4, 5, 6] rfl) h
      intro x5 x6 stack H locs ls hW hl h
      have h := (fs_X9_holds_6 _ _ _ _ _ _ _ _ _ _ _ _ _).symm.trans h
      refine lv_iload hx hb dX9_holds_6 (lv_at hl 6 rfl) ?_
      refine lv_aload_n hx hb dX9_holds_8 rfl (lv_at hl 0 rfl) ?_
      refine va_get (D := D) (ci := 9) (v := .int filterSize) (C := RX9) (T := TX9) (N := 36) hx hb hts iX9 hown hB.1 hW.1 0 rfl rfl 10 (by decide) (hts _ q5_136) (fun _ h9 => h9) rfl dX9_holds_9 ?_
      refine lv_icmp_ge (tgt := 195) hx hb dX9_holds_12 (by decide) (fun c_12 => ?_) (fun c_12 => ?_)
      · have h := k_t c_12 h
        exact J195 stack H locs ls hW (lv_sub hl [0] rfl) h
      · have h := k_f c_12 h
        refine lv_aload_n hx hb dX9_holds_15 rfl (lv_at hl 0 rfl) ?_
        refine va_get (D := D) (ci := 9) (v := .ref a_filter) (C := RX9) (T := TX9) (N := 36) hx hb hts iX9 hown hB.1 hW.1 0 rfl rfl 5 (by decide) (hts _ q5_131) (fun _ h9 => h9) rfl dX9_holds_16 ?_
        refine lv_iload hx hb dX9_holds_19 (lv_at hl 6 rfl) ?_
        obtain ⟨c_13, h⟩ := k_g h
        refine va_iald hx hb hB.1 hW.1 1 0 rfl rfl c_13 dX9_holds_21 ?_
        refine lv_topi (fun x_14 ex_14 => ?_)
        have h := k_letE ex_14 h
        by_cases c_15 : x_14 = 1
        · have h := k_t c_15 h
          refine lv_tableIn (tgt := 48) hx hb dX9_holds_22 (by rw [c_15]; decide) (by rw [c_15]; decide) (by rw [c_15]; rfl) (by decide) ?_
          refine lv_aload_n hx hb dX9_holds_48 rfl (lv_at hl 0 rfl) ?_
          refine va_get (D := D) (ci := 9) (v := .ref a_stack) (C := RX9) (T := TX9) (N := 36) hx hb hts iX9 hown hB.1 hW.1 0 rfl rfl 9 (by decide) (hts _ q5_135) (fun _ h9 => h9) rfl dX9_holds_49 ?_
          refine lv_iload hx hb dX9_holds_52 (lv_at hl 5 rfl) ?_
          refine lv_iconst (v := 1) hx hb dX9_holds_54 (by decide) ?_
          refine lv_isub hx hb dX9_holds_55 ?_
          refine lv_aload_n hx hb dX9_holds_56 rfl (lv_at hl 0 rfl) ?_
          refine va_get (D := D) (ci := 9) (v := .ref a_stack) (C := RX9) (T := TX9) (N := 36) hx hb hts iX9 hown hB.1 hW.1 0 rfl rfl 9 (by decide) (hts _ q5_135) (fun _ h9 => h9) rfl dX9_holds_57 ?_
          refine lv_iload hx hb dX9_holds_60 (lv_at hl 5 rfl) ?_
          refine lv_iconst (v := 1) hx hb dX9_holds_62 (by decide) ?_
          refine lv_isub hx hb dX9_holds_63 ?_
          refine lv_topi (fun x_16 ex_16 => ?_)
          have h := k_letE ex_16 h
          obtain ⟨c_17, h⟩ := k_g h
          refine va_zald hx hb hB.1 hW.1 2 2 rfl rfl c_17 dX9_holds_64 ?_
          refine lv_topi (fun x_18 ex_18 => ?_)
          have h := k_letE ex_18 h
          refine lv_if_ne (tgt := 72) hx hb dX9_holds_65 (by decide) (fun c_19 => ?_) (fun c_19 => ?_)
          · have h := k_f c_19 h
            refine lv_iconst (v := 0) hx hb dX9_holds_72 (by decide) ?_
            exact J73 x5 x6 (x5 - 1) 0 stack H locs ls hW (lv_sub hl [0, 1, 2, 3, 4, 5, 6] rfl) h
          · have h := k_t c_19 h
            refine lv_iconst (v := 1) hx hb dX9_holds_68 (by decide) ?_
            refine lv_goto (tgt := 73) hx hb dX9_holds_69 (by decide) ?_
            exact J73 x5 x6 (x5 - 1) 1 stack H locs ls hW (lv_sub hl [0, 1, 2, 3, 4, 5, 6] rfl) h
        have h := k_f c_15 h
        by_cases c_20 : x_14 = 2
        · have h := k_t c_20 h
          refine lv_tableIn (tgt := 77) hx hb dX9_holds_22 (by rw [c_20]; decide) (by rw [c_20]; decide) (by rw [c_20]; rfl) (by decide) ?_
          obtain ⟨x_21, ex_21⟩ : ∃ y : Int32, y = x5 + (-1) := ⟨_, rfl⟩
          have h := k_letE ex_21 h
          refine lv_iinc (v := x_21) (lv' := [(5, .int x_21), (0, .ref a_this), (1, .int v1), (2, .int v2), (3, .int v3), (4, .int v4), (6, .int x6)]) hx hb dX9_holds_77 hl (k := 5) rfl (by rw [ex_21]; rfl) (by decide) rfl (fun ls hl => ?_)
          refine lv_aload_n hx hb dX9_holds_80 rfl (lv_at hl 1 rfl) ?_
          refine va_get (D := D) (ci := 9) (v := .ref a_stack) (C := RX9) (T := TX9) (N := 36) hx hb hts iX9 hown hB.1 hW.1 0 rfl rfl 9 (by decide) (hts _ q5_135) (fun _ h9 => h9) rfl dX9_holds_81 ?_
          refine lv_iload hx hb dX9_holds_84 (lv_at hl 0 rfl) ?_
          refine lv_iconst (v := 1) hx hb dX9_holds_86 (by decide) ?_
          refine lv_isub hx hb dX9_holds_87 ?_
          refine lv_aload_n hx hb dX9_holds_88 rfl (lv_at hl 1 rfl) ?_
          refine va_get (D := D) (ci := 9) (v := .ref a_stack) (C := RX9) (T := TX9) (N := 36) hx hb hts iX9 hown hB.1 hW.1 0 rfl rfl 9 (by decide) (hts _ q5_135) (fun _ h9 => h9) rfl dX9_holds_89 ?_
          refine lv_iload hx hb dX9_holds_92 (lv_at hl 0 rfl) ?_
          refine lv_iconst (v := 1) hx hb dX9_holds_94 (by decide) ?_
          refine lv_isub hx hb dX9_holds_95 ?_
          refine lv_topi (fun x_22 ex_22 => ?_)
          have h := k_letE ex_22 h
          obtain ⟨c_23, h⟩ := k_g h
          refine va_zald hx hb hB.1 hW.1 2 2 rfl rfl c_23 dX9_holds_96 ?_
          refine lv_topi (fun x_24 ex_24 => ?_)
          have h := k_letE ex_24 h
          refine lv_if_eq (tgt := 114) hx hb dX9_holds_97 (by decide) (fun c_25 => ?_) (fun c_25 => ?_)
          · have h := k_t c_25 h
            exact J114 x_21 x6 (x_21 - 1) stack H locs ls hW (lv_sub hl [1, 2, 3, 4, 5, 0, 6] rfl) h
          · have h := k_f c_25 h
            refine lv_aload_n hx hb dX9_holds_100 rfl (lv_at hl 1 rfl) ?_
            refine va_get (D := D) (ci := 9) (v := .ref a_stack) (C := RX9) (T := TX9) (N := 36) hx hb hts iX9 hown hB.1 hW.1 0 rfl rfl 9 (by decide) (hts _ q5_135) (fun _ h9 => h9) rfl dX9_holds_101 ?_
            refine lv_iload hx hb dX9_holds_104 (lv_at hl 0 rfl) ?_
            obtain ⟨c_26, h⟩ := k_g h
            refine va_zald hx hb hB.1 hW.1 2 2 rfl rfl c_26 dX9_holds_106 ?_
            refine lv_topi (fun x_27 ex_27 => ?_)
            have h := k_letE ex_27 h
            refine lv_if_eq (tgt := 114) hx hb dX9_holds_107 (by decide) (fun c_28 => ?_) (fun c_28 => ?_)
            · have h := k_t c_28 h
              exact J114 x_21 x6 (x_21 - 1) stack H locs ls hW (lv_sub hl [1, 2, 3, 4, 5, 0, 6] rfl) h
            · have h := k_f c_28 h
              refine lv_iconst (v := 1) hx hb dX9_holds_110 (by decide) ?_
              refine lv_goto (tgt := 115) hx hb dX9_holds_111 (by decide) ?_
              exact J115 x_21 x6 (x_21 - 1) 1 stack H locs ls hW (lv_sub hl [1, 2, 3, 4, 5, 0, 6] rfl) h
        have h := k_f c_20 h
        by_cases c_29 : x_14 = 3
        · have h := k_t c_29 h
          refine lv_tableIn (tgt := 119) hx hb dX9_holds_22 (by rw [c_29]; decide) (by rw [c_29]; decide) (by rw [c_29]; rfl) (by decide) ?_
          obtain ⟨x_30, ex_30⟩ : ∃ y : Int32, y = x5 + (-1) := ⟨_, rfl⟩
          have h := k_letE ex_30 h
          refine lv_iinc (v := x_30) (lv' := [(5, .int x_30), (0, .ref a_this), (1, .int v1), (2, .int v2), (3, .int v3), (4, .int v4), (6, .int x6)]) hx hb dX9_holds_119 hl (k := 5) rfl (by rw [ex_30]; rfl) (by decide) rfl (fun ls hl => ?_)
          refine lv_aload_n hx hb dX9_holds_122 rfl (lv_at hl 1 rfl) ?_
          refine va_get (D := D) (ci := 9) (v := .ref a_stack) (C := RX9) (T := TX9) (N := 36) hx hb hts iX9 hown hB.1 hW.1 0 rfl rfl 9 (by decide) (hts _ q5_135) (fun _ h9 => h9) rfl dX9_holds_123 ?_
          refine lv_iload hx hb dX9_holds_126 (lv_at hl 0 rfl) ?_
          refine lv_iconst (v := 1) hx hb dX9_holds_128 (by decide) ?_
          refine lv_isub hx hb dX9_holds_129 ?_
          refine lv_aload_n hx hb dX9_holds_130 rfl (lv_at hl 1 rfl) ?_
          refine va_get (D := D) (ci := 9) (v := .ref a_stack) (C := RX9) (T := TX9) (N := 36) hx hb hts iX9 hown hB.1 hW.1 0 rfl rfl 9 (by decide) (hts _ q5_135) (fun _ h9 => h9) rfl dX9_holds_131 ?_
          refine lv_iload hx hb dX9_holds_134 (lv_at hl 0 rfl) ?_
          refine lv_iconst (v := 1) hx hb dX9_holds_136 (by decide) ?_
          refine lv_isub hx hb dX9_holds_137 ?_
          refine lv_topi (fun x_31 ex_31 => ?_)
          have h := k_letE ex_31 h
          obtain ⟨c_32, h⟩ := k_g h
          refine va_zald hx hb hB.1 hW.1 2 2 rfl rfl c_32 dX9_holds_138 ?_
          refine lv_topi (fun x_33 ex_33 => ?_)
          have h := k_letE ex_33 h
          refine lv_if_ne (tgt := 152) hx hb dX9_holds_139 (by decide) (fun c_34 => ?_) (fun c_34 => ?_)
          · have h := k_f c_34 h
            exact J152 x_30 x6 (x_30 - 1) stack H locs ls hW (lv_sub hl [1, 2, 3, 4, 5, 0, 6] rfl) h
          · have h := k_t c_34 h
            refine lv_aload_n hx hb dX9_holds_142 rfl (lv_at hl 1 rfl) ?_
            refine va_get (D := D) (ci := 9) (v := .ref a_stack) (C := RX9) (T := TX9) (N := 36) hx hb hts iX9 hown hB.1 hW.1 0 rfl rfl 9 (by decide) (hts _ q5_135) (fun _ h9 => h9) rfl dX9_holds_143 ?_
            refine lv_iload hx hb dX9_holds_146 (lv_at hl 0 rfl) ?_
            obtain ⟨c_35, h⟩ := k_g h
            refine va_zald hx hb hB.1 hW.1 2 2 rfl rfl c_35 dX9_holds_148 ?_
            refine lv_topi (fun x_36 ex_36 => ?_)
            have h := k_letE ex_36 h
            refine lv_if_eq (tgt := 156) hx hb dX9_holds_149 (by decide) (fun c_37 => ?_) (fun c_37 => ?_)
            · have h := k_t c_37 h
              refine lv_iconst (v := 0) hx hb dX9_holds_156 (by decide) ?_
              exact J157 x_30 x6 (x_30 - 1) 0 stack H locs ls hW (lv_sub hl [1, 2, 3, 4, 5, 0, 6] rfl) h
            · have h := k_f c_37 h
              exact J152 x_30 x6 (x_30 - 1) stack H locs ls hW (lv_sub hl [1, 2, 3, 4, 5, 0, 6] rfl) h
        have h := k_f c_29 h
        have tc_15 := lv_neT (a := 1) c_15 (by decide)
        have tc_20 := lv_neT (a := 2) c_20 (by decide)
        have tc_29 := lv_neT (a := 3) c_29 (by decide)
        refine lv_tableOut (tgt := 161) hx hb dX9_holds_22 (by omega) (by decide) ?_
        refine lv_aload_n hx hb dX9_holds_161 rfl (lv_at hl 0 rfl) ?_
        refine va_get (D := D) (ci := 9) (v := .ref a_stack) (C := RX9) (T := TX9) (N := 36) hx hb hts iX9 hown hB.1 hW.1 0 rfl rfl 9 (by decide) (hts _ q5_135) (fun _ h9 => h9) rfl dX9_holds_162 ?_
        refine lv_iload hx hb dX9_holds_165 (lv_at hl 5 rfl) ?_
        refine lv_aload_n hx hb dX9_holds_167 rfl (lv_at hl 0 rfl) ?_
        refine va_get (D := D) (ci := 9) (v := .ref a_filter) (C := RX9) (T := TX9) (N := 36) hx hb hts iX9 hown hB.1 hW.1 0 rfl rfl 5 (by decide) (hts _ q5_131) (fun _ h9 => h9) rfl dX9_holds_168 ?_
        refine lv_iload hx hb dX9_holds_171 (lv_at hl 6 rfl) ?_
        obtain ⟨c_38, h⟩ := k_g h
        refine va_iald hx hb hB.1 hW.1 1 0 rfl rfl c_38 dX9_holds_173 ?_
        refine lv_topi (fun x_39 ex_39 => ?_)
        have h := k_letE ex_39 h
        refine lv_bipush (v := 10) hx hb dX9_holds_174 (by decide) ?_
        refine lv_isub hx hb dX9_holds_176 ?_
        refine lv_iload_n hx hb dX9_holds_177 rfl (lv_at hl 1 rfl) ?_
        refine lv_iload_n hx hb dX9_holds_178 rfl (lv_at hl 2 rfl) ?_
        refine lv_iload_n hx hb dX9_holds_179 rfl (lv_at hl 3 rfl) ?_
        refine lv_iload hx hb dX9_holds_180 (lv_at hl 4 rfl) ?_
        obtain ⟨r_41, h_40, h⟩ := k_bE1 h
        refine k_callS (ws' := [(a_this, .inr (9, [.int thrown, .ref w_rows, .ref w_size, .int changes, .int undoable, .ref a_filter, .ref w_made, .ref w_pending, .ref w_savedFilter, .ref a_stack, .int filterSize, .int madeSize, .int pendings, .int savedFilterSize, .ref w_counts, .int foundKey, .int foundGroup, .int foundProduct, .int foundMany, .int isClean, .int groupRows, .int groupTotal, .ref w_totals, .ref w_ranked, .ref w_watchGroup, .ref w_watchBound, .ref w_savedGroup, .ref w_savedBound, .int watches, .int savedWatches, .ref w_text, .int length, .int at_, .int parens, .int faultAt, .int isSaved])), (a_filter, .inl (cA 0, n_filter, .inl filter)), (a_stack, .inl (cA 2, n_stack, .inl stack))]) (As := [.int (x_39 - 10), .int v1, .int v2, .int v3, .int v4]) (rest := [.int x5, .ref a_stack]) (m_X9_compares l D cA H.size (x_39 - 10) v1 v2 v3 v4 r_41 h_40) hx hb hml hown hts hB hA hW hl.1 q6_101 q1_10 q6_100 q6_99 pd_X9_compares ⟨rfl, rfl, Nat.le_of_ble_eq_true rfl, Nat.le_of_ble_eq_true rfl⟩ rfl [] [0, 1, 2] trivial rfl ⟨trivial, ⟨rfl, rfl, rfl, trivial⟩, rfl⟩ rfl rfl (Nat.le_of_ble_eq_true rfl) ⟨Nat.zero_le _, Nat.zero_le _⟩ dX9_holds_182 (st1 := [.int r_41, .int x5, .ref a_stack]) rfl (fun H locs hW => ?_)
        obtain ⟨c_43, h⟩ := k_g h
        refine va_zast hx hb hB.1 hW.1 hW.2.1 hW.2.2 2 2 rfl rfl c_43 dX9_holds_185 (fun H locs hP hD hS => ?_)
        have hW : k_Wd D A s.heap [(a_this, .inr (9, [.int thrown, .ref w_rows, .ref w_size, .int changes, .int undoable, .ref a_filter, .ref w_made, .ref w_pending, .ref w_savedFilter, .ref a_stack, .int filterSize, .int madeSize, .int pendings, .int savedFilterSize, .ref w_counts, .int foundKey, .int foundGroup, .int foundProduct, .int foundMany, .int isClean, .int groupRows, .int groupTotal, .ref w_totals, .ref w_ranked, .ref w_watchGroup, .ref w_watchBound, .ref w_savedGroup, .ref w_savedBound, .int watches, .int savedWatches, .ref w_text, .int length, .int at_, .int parens, .int faultAt, .int isSaved])), (a_filter, .inl (cA 0, n_filter, .inl filter)), (a_stack, .inl (cA 2, n_stack, .inl (upd stack x5.toNatClampNeg (vp_nar .boolean r_41))))] H locs := ⟨hP, hD, hS⟩
        obtain ⟨x_44, ex_44⟩ : ∃ y : Int32, y = x5 + 1 := ⟨_, rfl⟩
        have h := k_letE ex_44 h
        refine lv_iinc (v := x_44) (lv' := [(5, .int x_44), (0, .ref a_this), (1, .int v1), (2, .int v2), (3, .int v3), (4, .int v4), (6, .int x6)]) hx hb dX9_holds_186 hl (k := 5) rfl (by rw [ex_44]; rfl) (by decide) rfl (fun ls hl => ?_)
        exact J189 x_44 x6 (upd stack x5.toNatClampNeg (vp_nar .boolean r_41)) H locs ls hW (lv_sub hl [1, 2, 3, 4, 5, 0, 6] rfl) h
  refine lv_iconst (v := 0) hx hb dX9_holds_0 (by decide) ?_
  refine lv_istore (lv' := [(5, .int 0), (0, .ref a_this), (1, .int v1), (2, .int v2), (3, .int v3), (4, .int v4)]) hx hb dX9_holds_1 hl (by decide) rfl (fun ls hl => ?_)
  refine lv_iconst (v := 0) hx hb dX9_holds_3 (by decide) ?_
  refine lv_istore (lv' := [(6, .int 0), (5, .int 0), (0, .ref a_this), (1, .int v1), (2, .int v2), (3, .int v3), (4, .int v4)]) hx hb dX9_holds_4 hl (by decide) rfl (fun ls hl => ?_)
  exact J6 fu 0 0 stack H locs ls hW (lv_sub hl [2, 3, 4, 5, 6, 1, 0] rfl) h
