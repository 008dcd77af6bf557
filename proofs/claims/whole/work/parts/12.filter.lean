noncomputable def f_X1_append (n_steps : Nat) (n_numbers : Nat) (v1 : Int32) (v2 : Int32) (size : Int32) (steps : Nat → Int32) (numbers : Nat → Int32) : Option (Int32 × (Nat → Int32) × (Nat → Int32)) := (if size < 0 then (some (size, steps, numbers)) else (if (nI n_steps) ≤ size then (some (size, steps, numbers)) else (if (nI n_numbers) ≤ size then (some (size, steps, numbers)) else (if ¬ (size < 0 ∨ n_steps ≤ size.toNatClampNeg) then (if ¬ (size < 0 ∨ n_numbers ≤ size.toNatClampNeg) then (some ((size + 1), (upd steps size.toNatClampNeg v1), (upd numbers size.toNatClampNeg v2))) else none) else none))))
abbrev rm_X1_append : Room := { frames := 0, cells := 0, slots := 0, locals := 0 }
theorem pd_X1_append : k_D1 yX1_append 2 := by decide +kernel
set_option maxHeartbeats 4000000 in
set_option maxRecDepth 100000 in
theorem m_X1_append (l : Launch) (D : va_G) (cA : Nat → ClassId) (sz : Nat) (a_this a_steps a_numbers : Nat) (n_steps : Nat) (n_numbers : Nat) (size : Int32) (steps : Nat → Int32) (numbers : Nat → Int32) (v1 : Int32) (v2 : Int32) (size' : Int32) (steps' : Nat → Int32) (numbers' : Nat → Int32) (h : f_X1_append n_steps n_numbers v1 v2 size steps numbers = some (size', steps', numbers')) : k_M l yX1_append prog_3_method_2_code 3 (none : Option Jvm.ClassFile.FieldType) rm_X1_append D cA [.ref a_this, .int v1, .int v2] [(a_this, .inr (1, [.ref a_steps, .ref a_numbers, .int size])), (a_steps, .inl (cA 0, n_steps, .inl steps)), (a_numbers, .inl (cA 0, n_numbers, .inl numbers))] sz (none) [(a_this, .inr (1, [.ref a_steps, .ref a_numbers, .int (size')])), (a_steps, .inl (cA 0, n_steps, .inl (steps'))), (a_numbers, .inl (cA 0, n_numbers, .inl (numbers')))] := by
  refine k_ofW (by decide) (Nat.le_of_ble_eq_true rfl) ?_
  intro p e s m below meth c A ls hx hb hr hml hts hown hlocks hB hA hW hl
  have hl : lv_has ls 3 [(0, .ref a_this), (1, .int v1), (2, .int v2)] := hl
  obtain ⟨H, eH⟩ : ∃ H, H = s.heap := ⟨_, rfl⟩
  obtain ⟨locs, eL⟩ : ∃ L : List Loc, L = [] := ⟨_, rfl⟩
  have hW : k_Wd D A s.heap [(a_this, .inr (1, [.ref a_steps, .ref a_numbers, .int size])), (a_steps, .inl (cA 0, n_steps, .inl steps)), (a_numbers, .inl (cA 0, n_numbers, .inl numbers))] H locs := by rw [eH, eL]; exact hW
  suffices K : W p l e rm_X1_append s m [.ref a_this, .int v1, .int v2].toArray below meth c H locs 0 0 (MQ below (k_Q (none) D [(a_this, .inr (1, [.ref a_steps, .ref a_numbers, .int (size')])), (a_steps, .inl (cA 0, n_steps, .inl (steps'))), (a_numbers, .inl (cA 0, n_numbers, .inl (numbers')))] A) [.ref a_this, .int v1, .int v2].toArray s 0 0 A) (F0 m 0 ls []) by rw [eH, eL] at K; exact K
  clear eH eL
  refine lv_aload_n hx hb dX1_append_0 rfl (lv_at hl 0 rfl) ?_
  refine va_get (D := D) (ci := 1) (v := .int size) (C := RX1) (T := TX1) (N := 3) hx hb hts iX1 hown hB.1 hW.1 0 rfl rfl 2 (by decide) (hts _ q1_98) (fun _ h9 => h9) rfl dX1_append_1 ?_
  refine lv_if_lt (tgt := 61) hx hb dX1_append_4 (by decide) (fun c_1 => ?_) (fun c_1 => ?_)
  · have h := k_t c_1 h
    obtain ⟨z0, z1, z2⟩ := k_inj3 h
    rw [← z0, ← z1, ← z2]
    exact W.vret hx hb hr (fun t ht hWm => ⟨rfl, by rw [ht]; exact hW.1, hW.2.2.F ht⟩) hW.2.2.2.2 dX1_append_61
  · have h := k_f c_1 h
    refine lv_aload_n hx hb dX1_append_7 rfl (lv_at hl 0 rfl) ?_
    refine va_get (D := D) (ci := 1) (v := .int size) (C := RX1) (T := TX1) (N := 3) hx hb hts iX1 hown hB.1 hW.1 0 rfl rfl 2 (by decide) (hts _ q1_98) (fun _ h9 => h9) rfl dX1_append_8 ?_
    refine lv_aload_n hx hb dX1_append_11 rfl (lv_at hl 0 rfl) ?_
    refine va_get (D := D) (ci := 1) (v := .ref a_steps) (C := RX1) (T := TX1) (N := 3) hx hb hts iX1 hown hB.1 hW.1 0 rfl rfl 0 (by decide) (hts _ q1_96) (fun _ h9 => h9) rfl dX1_append_12 ?_
    refine va_alen hx hb hB.1 hW.1 1 0 rfl (v := nI n_steps) rfl rfl dX1_append_15 ?_
    refine lv_icmp_ge (tgt := 61) hx hb dX1_append_16 (by decide) (fun c_2 => ?_) (fun c_2 => ?_)
    · have h := k_t c_2 h
      obtain ⟨z0, z1, z2⟩ := k_inj3 h
      rw [← z0, ← z1, ← z2]
      exact W.vret hx hb hr (fun t ht hWm => ⟨rfl, by rw [ht]; exact hW.1, hW.2.2.F ht⟩) hW.2.2.2.2 dX1_append_61
    · have h := k_f c_2 h
      refine lv_aload_n hx hb dX1_append_19 rfl (lv_at hl 0 rfl) ?_
      refine va_get (D := D) (ci := 1) (v := .int size) (C := RX1) (T := TX1) (N := 3) hx hb hts iX1 hown hB.1 hW.1 0 rfl rfl 2 (by decide) (hts _ q1_98) (fun _ h9 => h9) rfl dX1_append_20 ?_
      refine lv_aload_n hx hb dX1_append_23 rfl (lv_at hl 0 rfl) ?_
      refine va_get (D := D) (ci := 1) (v := .ref a_numbers) (C := RX1) (T := TX1) (N := 3) hx hb hts iX1 hown hB.1 hW.1 0 rfl rfl 1 (by decide) (hts _ q1_97) (fun _ h9 => h9) rfl dX1_append_24 ?_
      refine va_alen hx hb hB.1 hW.1 2 0 rfl (v := nI n_numbers) rfl rfl dX1_append_27 ?_
      refine lv_icmp_ge (tgt := 61) hx hb dX1_append_28 (by decide) (fun c_3 => ?_) (fun c_3 => ?_)
      · have h := k_t c_3 h
        obtain ⟨z0, z1, z2⟩ := k_inj3 h
        rw [← z0, ← z1, ← z2]
        exact W.vret hx hb hr (fun t ht hWm => ⟨rfl, by rw [ht]; exact hW.1, hW.2.2.F ht⟩) hW.2.2.2.2 dX1_append_61
      · have h := k_f c_3 h
        refine lv_aload_n hx hb dX1_append_31 rfl (lv_at hl 0 rfl) ?_
        refine va_get (D := D) (ci := 1) (v := .ref a_steps) (C := RX1) (T := TX1) (N := 3) hx hb hts iX1 hown hB.1 hW.1 0 rfl rfl 0 (by decide) (hts _ q1_96) (fun _ h9 => h9) rfl dX1_append_32 ?_
        refine lv_aload_n hx hb dX1_append_35 rfl (lv_at hl 0 rfl) ?_
        refine va_get (D := D) (ci := 1) (v := .int size) (C := RX1) (T := TX1) (N := 3) hx hb hts iX1 hown hB.1 hW.1 0 rfl rfl 2 (by decide) (hts _ q1_98) (fun _ h9 => h9) rfl dX1_append_36 ?_
        refine lv_iload_n hx hb dX1_append_39 rfl (lv_at hl 1 rfl) ?_
        obtain ⟨c_4, h⟩ := k_g h
        refine va_iast hx hb hB.1 hW.1 hW.2.1 hW.2.2 1 0 rfl rfl c_4 dX1_append_40 (fun H locs hP hD hS => ?_)
        have hW : k_Wd D A s.heap [(a_this, .inr (1, [.ref a_steps, .ref a_numbers, .int size])), (a_steps, .inl (cA 0, n_steps, .inl (upd steps size.toNatClampNeg v1))), (a_numbers, .inl (cA 0, n_numbers, .inl numbers))] H locs := ⟨hP, hD, hS⟩
        refine lv_aload_n hx hb dX1_append_41 rfl (lv_at hl 0 rfl) ?_
        refine va_get (D := D) (ci := 1) (v := .ref a_numbers) (C := RX1) (T := TX1) (N := 3) hx hb hts iX1 hown hB.1 hW.1 0 rfl rfl 1 (by decide) (hts _ q1_97) (fun _ h9 => h9) rfl dX1_append_42 ?_
        refine lv_aload_n hx hb dX1_append_45 rfl (lv_at hl 0 rfl) ?_
        refine va_get (D := D) (ci := 1) (v := .int size) (C := RX1) (T := TX1) (N := 3) hx hb hts iX1 hown hB.1 hW.1 0 rfl rfl 2 (by decide) (hts _ q1_98) (fun _ h9 => h9) rfl dX1_append_46 ?_
        refine lv_iload_n hx hb dX1_append_49 rfl (lv_at hl 2 rfl) ?_
        obtain ⟨c_5, h⟩ := k_g h
        refine va_iast hx hb hB.1 hW.1 hW.2.1 hW.2.2 2 0 rfl rfl c_5 dX1_append_50 (fun H locs hP hD hS => ?_)
        have hW : k_Wd D A s.heap [(a_this, .inr (1, [.ref a_steps, .ref a_numbers, .int size])), (a_steps, .inl (cA 0, n_steps, .inl (upd steps size.toNatClampNeg v1))), (a_numbers, .inl (cA 0, n_numbers, .inl (upd numbers size.toNatClampNeg v2)))] H locs := ⟨hP, hD, hS⟩
        refine lv_aload_n hx hb dX1_append_51 rfl (lv_at hl 0 rfl) ?_
        refine lv_dup hx hb dX1_append_52 rfl ?_
        refine va_get (D := D) (ci := 1) (v := .int size) (C := RX1) (T := TX1) (N := 3) hx hb hts iX1 hown hB.1 hW.1 0 rfl rfl 2 (by decide) (hts _ q1_98) (fun _ h9 => h9) rfl dX1_append_53 ?_
        refine lv_iconst (v := 1) hx hb dX1_append_56 (by decide) ?_
        refine lv_iadd hx hb dX1_append_57 ?_
        refine va_put (D := D) (ci := 1) (v := .int (size + 1)) (ty := .int) (C := RX1) (T := TX1) (N := 3) hx hb hts iX1 tyX1 tyX1_ok nmX1 hown hB.1 hW.1 hW.2.1 hW.2.2 0 rfl rfl 2 (by decide) (hts _ q1_98) (fun _ h9 => h9) rfl (tyX1_ok 2 (by decide)) rfl rfl (Nat.le_of_ble_eq_true rfl) dX1_append_58 (fun H locs hP hD hS => ?_)
        have hW : k_Wd D A s.heap [(a_this, .inr (1, [.ref a_steps, .ref a_numbers, .int (size + 1)])), (a_steps, .inl (cA 0, n_steps, .inl (upd steps size.toNatClampNeg v1))), (a_numbers, .inl (cA 0, n_numbers, .inl (upd numbers size.toNatClampNeg v2)))] H locs := ⟨hP, hD, hS⟩
        obtain ⟨z0, z1, z2⟩ := k_inj3 h
        rw [← z0, ← z1, ← z2]
        exact W.vret hx hb hr (fun t ht hWm => ⟨rfl, by rw [ht]; exact hW.1, hW.2.2.F ht⟩) hW.2.2.2.2 dX1_append_61
noncomputable def f_X1_clear (size : Int32) : Option (Int32) := (some (0))
abbrev rm_X1_clear : Room := { frames := 0, cells := 0, slots := 0, locals := 0 }
theorem pd_X1_clear : k_D1 yX1_clear 0 := by decide +kernel
set_option maxHeartbeats 4000000 in
set_option maxRecDepth 100000 in
theorem m_X1_clear (l : Launch) (D : va_G) (cA : Nat → ClassId) (sz : Nat) (a_this : Nat) (w_steps : Nat) (w_numbers : Nat) (size : Int32) (size' : Int32) (h : f_X1_clear size = some (size')) : k_M l yX1_clear prog_3_method_3_code 1 (none : Option Jvm.ClassFile.FieldType) rm_X1_clear D cA [.ref a_this] [(a_this, .inr (1, [.ref w_steps, .ref w_numbers, .int size]))] sz (none) [(a_this, .inr (1, [.ref w_steps, .ref w_numbers, .int (size')]))] := by
  refine k_ofW (by decide) (Nat.le_of_ble_eq_true rfl) ?_
  intro p e s m below meth c A ls hx hb hr hml hts hown hlocks hB hA hW hl
  have hl : lv_has ls 1 [(0, .ref a_this)] := hl
  obtain ⟨H, eH⟩ : ∃ H, H = s.heap := ⟨_, rfl⟩
  obtain ⟨locs, eL⟩ : ∃ L : List Loc, L = [] := ⟨_, rfl⟩
  have hW : k_Wd D A s.heap [(a_this, .inr (1, [.ref w_steps, .ref w_numbers, .int size]))] H locs := by rw [eH, eL]; exact hW
  suffices K : W p l e rm_X1_clear s m [.ref a_this].toArray below meth c H locs 0 0 (MQ below (k_Q (none) D [(a_this, .inr (1, [.ref w_steps, .ref w_numbers, .int (size')]))] A) [.ref a_this].toArray s 0 0 A) (F0 m 0 ls []) by rw [eH, eL] at K; exact K
  clear eH eL
  refine lv_aload_n hx hb dX1_clear_0 rfl (lv_at hl 0 rfl) ?_
  refine lv_iconst (v := 0) hx hb dX1_clear_1 (by decide) ?_
  refine va_put (D := D) (ci := 1) (v := .int 0) (ty := .int) (C := RX1) (T := TX1) (N := 3) hx hb hts iX1 tyX1 tyX1_ok nmX1 hown hB.1 hW.1 hW.2.1 hW.2.2 0 rfl rfl 2 (by decide) (hts _ q1_98) (fun _ h9 => h9) rfl (tyX1_ok 2 (by decide)) rfl rfl (Nat.le_of_ble_eq_true rfl) dX1_clear_2 (fun H locs hP hD hS => ?_)
  have hW : k_Wd D A s.heap [(a_this, .inr (1, [.ref w_steps, .ref w_numbers, .int 0]))] H locs := ⟨hP, hD, hS⟩
  have z0 := k_inj1 h
  rw [← z0]
  exact W.vret hx hb hr (fun t ht hWm => ⟨rfl, by rw [ht]; exact hW.1, hW.2.2.F ht⟩) hW.2.2.2.2 dX1_clear_5
noncomputable def f_X1_isFilled (n_steps : Nat) (n_numbers : Nat) (size : Int32) (v1 : Int32) : Option (Int32) := (if v1 < 0 then (if vp_nar .boolean (0 : Int32) = (0 : Int32) then some (0) else none) else (if size ≤ v1 then (if vp_nar .boolean (0 : Int32) = (0 : Int32) then some (0) else none) else (if (nI n_steps) ≤ v1 then (if vp_nar .boolean (0 : Int32) = (0 : Int32) then some (0) else none) else (if (nI n_numbers) ≤ v1 then (if vp_nar .boolean (0 : Int32) = (0 : Int32) then some (0) else none) else (if vp_nar .boolean (1 : Int32) = (1 : Int32) then some (1) else none)))))
abbrev rm_X1_isFilled : Room := { frames := 0, cells := 0, slots := 0, locals := 0 }
theorem pd_X1_isFilled : k_D1 yX1_isFilled 1 := by decide +kernel
set_option maxHeartbeats 4000000 in
set_option maxRecDepth 100000 in
theorem m_X1_isFilled (l : Launch) (D : va_G) (cA : Nat → ClassId) (sz : Nat) (a_this a_steps a_numbers : Nat) (n_steps : Nat) (n_numbers : Nat) (size : Int32) (steps : Nat → Int32) (numbers : Nat → Int32) (v1 : Int32) (ret_ : Int32) (h : f_X1_isFilled n_steps n_numbers size v1 = some (ret_)) : k_M l yX1_isFilled prog_3_method_6_code 2 (some .boolean) rm_X1_isFilled D cA [.ref a_this, .int v1] [(a_this, .inr (1, [.ref a_steps, .ref a_numbers, .int size])), (a_steps, .inl (cA 0, n_steps, .inl steps)), (a_numbers, .inl (cA 0, n_numbers, .inl numbers))] sz (some (.int ret_)) [(a_this, .inr (1, [.ref a_steps, .ref a_numbers, .int size])), (a_steps, .inl (cA 0, n_steps, .inl steps)), (a_numbers, .inl (cA 0, n_numbers, .inl numbers))] := by
  refine k_ofW (by decide) (Nat.le_of_ble_eq_true rfl) ?_
  intro p e s m below meth c A ls hx hb hr hml hts hown hlocks hB hA hW hl
  have hl : lv_has ls 2 [(0, .ref a_this), (1, .int v1)] := hl
  obtain ⟨H, eH⟩ : ∃ H, H = s.heap := ⟨_, rfl⟩
  obtain ⟨locs, eL⟩ : ∃ L : List Loc, L = [] := ⟨_, rfl⟩
  have hW : k_Wd D A s.heap [(a_this, .inr (1, [.ref a_steps, .ref a_numbers, .int size])), (a_steps, .inl (cA 0, n_steps, .inl steps)), (a_numbers, .inl (cA 0, n_numbers, .inl numbers))] H locs := by rw [eH, eL]; exact hW
  suffices K : W p l e rm_X1_isFilled s m [.ref a_this, .int v1].toArray below meth c H locs 0 0 (MQ below (k_Q (some (.int ret_)) D [(a_this, .inr (1, [.ref a_steps, .ref a_numbers, .int size])), (a_steps, .inl (cA 0, n_steps, .inl steps)), (a_numbers, .inl (cA 0, n_numbers, .inl numbers))] A) [.ref a_this, .int v1].toArray s 0 0 A) (F0 m 0 ls []) by rw [eH, eL] at K; exact K
  clear eH eL
  refine lv_iload_n hx hb dX1_isFilled_0 rfl (lv_at hl 1 rfl) ?_
  refine lv_if_lt (tgt := 34) hx hb dX1_isFilled_1 (by decide) (fun c_1 => ?_) (fun c_1 => ?_)
  · have h := k_t c_1 h
    refine lv_iconst (v := 0) hx hb dX1_isFilled_34 (by decide) ?_
    obtain ⟨c_2, h⟩ := k_g h
    have z0 := k_inj1 h
    rw [← z0]
    exact W.zret hx hb hr (k_narZ c_2) (fun t ht hWm => ⟨rfl, by rw [ht]; exact hW.1, hW.2.2.F ht⟩) hW.2.2.2.2 dX1_isFilled_35
  · have h := k_f c_1 h
    refine lv_iload_n hx hb dX1_isFilled_4 rfl (lv_at hl 1 rfl) ?_
    refine lv_aload_n hx hb dX1_isFilled_5 rfl (lv_at hl 0 rfl) ?_
    refine va_get (D := D) (ci := 1) (v := .int size) (C := RX1) (T := TX1) (N := 3) hx hb hts iX1 hown hB.1 hW.1 0 rfl rfl 2 (by decide) (hts _ q1_98) (fun _ h9 => h9) rfl dX1_isFilled_6 ?_
    refine lv_icmp_ge (tgt := 34) hx hb dX1_isFilled_9 (by decide) (fun c_3 => ?_) (fun c_3 => ?_)
    · have h := k_t c_3 h
      refine lv_iconst (v := 0) hx hb dX1_isFilled_34 (by decide) ?_
      obtain ⟨c_4, h⟩ := k_g h
      have z0 := k_inj1 h
      rw [← z0]
      exact W.zret hx hb hr (k_narZ c_4) (fun t ht hWm => ⟨rfl, by rw [ht]; exact hW.1, hW.2.2.F ht⟩) hW.2.2.2.2 dX1_isFilled_35
    · have h := k_f c_3 h
      refine lv_iload_n hx hb dX1_isFilled_12 rfl (lv_at hl 1 rfl) ?_
      refine lv_aload_n hx hb dX1_isFilled_13 rfl (lv_at hl 0 rfl) ?_
      refine va_get (D := D) (ci := 1) (v := .ref a_steps) (C := RX1) (T := TX1) (N := 3) hx hb hts iX1 hown hB.1 hW.1 0 rfl rfl 0 (by decide) (hts _ q1_96) (fun _ h9 => h9) rfl dX1_isFilled_14 ?_
      refine va_alen hx hb hB.1 hW.1 1 0 rfl (v := nI n_steps) rfl rfl dX1_isFilled_17 ?_
      refine lv_icmp_ge (tgt := 34) hx hb dX1_isFilled_18 (by decide) (fun c_5 => ?_) (fun c_5 => ?_)
      · have h := k_t c_5 h
        refine lv_iconst (v := 0) hx hb dX1_isFilled_34 (by decide) ?_
        obtain ⟨c_6, h⟩ := k_g h
        have z0 := k_inj1 h
        rw [← z0]
        exact W.zret hx hb hr (k_narZ c_6) (fun t ht hWm => ⟨rfl, by rw [ht]; exact hW.1, hW.2.2.F ht⟩) hW.2.2.2.2 dX1_isFilled_35
      · have h := k_f c_5 h
        refine lv_iload_n hx hb dX1_isFilled_21 rfl (lv_at hl 1 rfl) ?_
        refine lv_aload_n hx hb dX1_isFilled_22 rfl (lv_at hl 0 rfl) ?_
        refine va_get (D := D) (ci := 1) (v := .ref a_numbers) (C := RX1) (T := TX1) (N := 3) hx hb hts iX1 hown hB.1 hW.1 0 rfl rfl 1 (by decide) (hts _ q1_97) (fun _ h9 => h9) rfl dX1_isFilled_23 ?_
        refine va_alen hx hb hB.1 hW.1 2 0 rfl (v := nI n_numbers) rfl rfl dX1_isFilled_26 ?_
        refine lv_icmp_ge (tgt := 34) hx hb dX1_isFilled_27 (by decide) (fun c_7 => ?_) (fun c_7 => ?_)
        · have h := k_t c_7 h
          refine lv_iconst (v := 0) hx hb dX1_isFilled_34 (by decide) ?_
          obtain ⟨c_8, h⟩ := k_g h
          have z0 := k_inj1 h
          rw [← z0]
          exact W.zret hx hb hr (k_narZ c_8) (fun t ht hWm => ⟨rfl, by rw [ht]; exact hW.1, hW.2.2.F ht⟩) hW.2.2.2.2 dX1_isFilled_35
        · have h := k_f c_7 h
          refine lv_iconst (v := 1) hx hb dX1_isFilled_30 (by decide) ?_
          refine lv_goto (tgt := 35) hx hb dX1_isFilled_31 (by decide) ?_
          obtain ⟨c_9, h⟩ := k_g h
          have z0 := k_inj1 h
          rw [← z0]
          exact W.zret hx hb hr (k_narZ c_9) (fun t ht hWm => ⟨rfl, by rw [ht]; exact hW.1, hW.2.2.F ht⟩) hW.2.2.2.2 dX1_isFilled_35
noncomputable def f_X1_comparisonStep (v1 : Int32) (v2 : Int32) : Option (Int32) := (some (((4 + (v1 * 3)) + v2)))
abbrev rm_X1_comparisonStep : Room := { frames := 0, cells := 0, slots := 0, locals := 0 }
theorem pd_X1_comparisonStep : k_D1 yX1_comparisonStep 2 := by decide +kernel
set_option maxHeartbeats 4000000 in
set_option maxRecDepth 100000 in
theorem m_X1_comparisonStep (l : Launch) (D : va_G) (cA : Nat → ClassId) (sz : Nat) (v1 : Int32) (v2 : Int32) (ret_ : Int32) (h : f_X1_comparisonStep v1 v2 = some (ret_)) : k_M l yX1_comparisonStep prog_3_method_7_code 2 (some .int) rm_X1_comparisonStep D cA [.int v1, .int v2] [] sz (some (.int ret_)) [] := by
  refine k_ofW (by decide) (Nat.le_of_ble_eq_true rfl) ?_
  intro p e s m below meth c A ls hx hb hr hml hts hown hlocks hB hA hW hl
  have hl : lv_has ls 2 [(0, .int v1), (1, .int v2)] := hl
  obtain ⟨H, eH⟩ : ∃ H, H = s.heap := ⟨_, rfl⟩
  obtain ⟨locs, eL⟩ : ∃ L : List Loc, L = [] := ⟨_, rfl⟩
  have hW : k_Wd D A s.heap [] H locs := by rw [eH, eL]; exact hW
  suffices K : W p l e rm_X1_comparisonStep s m [.int v1, .int v2].toArray below meth c H locs 0 0 (MQ below (k_Q (some (.int ret_)) D [] A) [.int v1, .int v2].toArray s 0 0 A) (F0 m 0 ls []) by rw [eH, eL] at K; exact K
  clear eH eL
  refine lv_iconst (v := 4) hx hb dX1_comparisonStep_0 (by decide) ?_
  refine lv_iload_n hx hb dX1_comparisonStep_1 rfl (lv_at hl 0 rfl) ?_
  refine lv_iconst (v := 3) hx hb dX1_comparisonStep_2 (by decide) ?_
  refine lv_imul hx hb dX1_comparisonStep_3 ?_
  refine lv_iadd hx hb dX1_comparisonStep_4 ?_
  refine lv_iload_n hx hb dX1_comparisonStep_5 rfl (lv_at hl 1 rfl) ?_
  refine lv_iadd hx hb dX1_comparisonStep_6 ?_
  have z0 := k_inj1 h
  rw [← z0]
  exact W.iret hx hb hr (fun t ht hWm => ⟨rfl, by rw [ht]; exact hW.1, hW.2.2.F ht⟩) hW.2.2.2.2 dX1_comparisonStep_7
noncomputable def f_X1_nameOf (v1 : Int32) : Option (Int32) := (some (((v1 - 4) / 3)))
abbrev rm_X1_nameOf : Room := { frames := 0, cells := 0, slots := 0, locals := 0 }
theorem pd_X1_nameOf : k_D1 yX1_nameOf 1 := by decide +kernel
set_option maxHeartbeats 4000000 in
set_option maxRecDepth 100000 in
theorem m_X1_nameOf (l : Launch) (D : va_G) (cA : Nat → ClassId) (sz : Nat) (v1 : Int32) (ret_ : Int32) (h : f_X1_nameOf v1 = some (ret_)) : k_M l yX1_nameOf prog_3_method_8_code 1 (some .int) rm_X1_nameOf D cA [.int v1] [] sz (some (.int ret_)) [] := by
  refine k_ofW (by decide) (Nat.le_of_ble_eq_true rfl) ?_
  intro p e s m below meth c A ls hx hb hr hml hts hown hlocks hB hA hW hl
  have hl : lv_has ls 1 [(0, .int v1)] := hl
  obtain ⟨H, eH⟩ : ∃ H, H = s.heap := ⟨_, rfl⟩
  obtain ⟨locs, eL⟩ : ∃ L : List Loc, L = [] := ⟨_, rfl⟩
  have hW : k_Wd D A s.heap [] H locs := by rw [eH, eL]; exact hW
  suffices K : W p l e rm_X1_nameOf s m [.int v1].toArray below meth c H locs 0 0 (MQ below (k_Q (some (.int ret_)) D [] A) [.int v1].toArray s 0 0 A) (F0 m 0 ls []) by rw [eH, eL] at K; exact K
  clear eH eL
  refine lv_iload_n hx hb dX1_nameOf_0 rfl (lv_at hl 0 rfl) ?_
  refine lv_iconst (v := 4) hx hb dX1_nameOf_1 (by decide) ?_
  refine lv_isub hx hb dX1_nameOf_2 ?_
  refine lv_iconst (v := 3) hx hb dX1_nameOf_3 (by decide) ?_
  refine lv_idiv hx hb dX1_nameOf_4 (by decide) ?_
  have z0 := k_inj1 h
  rw [← z0]
  exact W.iret hx hb hr (fun t ht hWm => ⟨rfl, by rw [ht]; exact hW.1, hW.2.2.F ht⟩) hW.2.2.2.2 dX1_nameOf_5
noncomputable def f_X1_relationOf (v1 : Int32) : Option (Int32) := (k_let ((v1 - 4) - (v1 - 4) / 3 * 3) fun x_1 => some (x_1))
abbrev rm_X1_relationOf : Room := { frames := 0, cells := 0, slots := 0, locals := 0 }
theorem pd_X1_relationOf : k_D1 yX1_relationOf 1 := by decide +kernel
set_option maxHeartbeats 4000000 in
set_option maxRecDepth 100000 in
theorem m_X1_relationOf (l : Launch) (D : va_G) (cA : Nat → ClassId) (sz : Nat) (v1 : Int32) (ret_ : Int32) (h : f_X1_relationOf v1 = some (ret_)) : k_M l yX1_relationOf prog_3_method_9_code 1 (some .int) rm_X1_relationOf D cA [.int v1] [] sz (some (.int ret_)) [] := by
  refine k_ofW (by decide) (Nat.le_of_ble_eq_true rfl) ?_
  intro p e s m below meth c A ls hx hb hr hml hts hown hlocks hB hA hW hl
  have hl : lv_has ls 1 [(0, .int v1)] := hl
  obtain ⟨H, eH⟩ : ∃ H, H = s.heap := ⟨_, rfl⟩
  obtain ⟨locs, eL⟩ : ∃ L : List Loc, L = [] := ⟨_, rfl⟩
  have hW : k_Wd D A s.heap [] H locs := by rw [eH, eL]; exact hW
  suffices K : W p l e rm_X1_relationOf s m [.int v1].toArray below meth c H locs 0 0 (MQ below (k_Q (some (.int ret_)) D [] A) [.int v1].toArray s 0 0 A) (F0 m 0 ls []) by rw [eH, eL] at K; exact K
  clear eH eL
  refine lv_iload_n hx hb dX1_relationOf_0 rfl (lv_at hl 0 rfl) ?_
  refine lv_iconst (v := 4) hx hb dX1_relationOf_1 (by decide) ?_
  refine lv_isub hx hb dX1_relationOf_2 ?_
  refine lv_iconst (v := 3) hx hb dX1_relationOf_3 (by decide) ?_
  refine lv_irem hx hb dX1_relationOf_4 (by decide) ?_
  refine lv_topi (fun x_1 ex_1 => ?_)
  have h := k_letE ex_1 h
  have z0 := k_inj1 h
  rw [← z0]
  exact W.iret hx hb hr (fun t ht hWm => ⟨rfl, by rw [ht]; exact hW.1, hW.2.2.F ht⟩) hW.2.2.2.2 dX1_relationOf_5
noncomputable def f_X1_operandOf (v1 : Int32) (v2 : Int32) (v3 : Int32) (v4 : Int32) (v5 : Int32) : Option (Int32) := (if v1 = 0 then (some (v2)) else if v1 = 1 then (some (v3)) else if v1 = 2 then (some (v4)) else if v1 = 3 then (some (v5)) else (some ((v4 * v5))))
abbrev rm_X1_operandOf : Room := { frames := 0, cells := 0, slots := 0, locals := 0 }
theorem pd_X1_operandOf : k_D1 yX1_operandOf 5 := by decide +kernel
set_option maxHeartbeats 4000000 in
set_option maxRecDepth 100000 in
theorem m_X1_operandOf (l : Launch) (D : va_G) (cA : Nat → ClassId) (sz : Nat) (v1 : Int32) (v2 : Int32) (v3 : Int32) (v4 : Int32) (v5 : Int32) (ret_ : Int32) (h : f_X1_operandOf v1 v2 v3 v4 v5 = some (ret_)) : k_M l yX1_operandOf prog_3_method_10_code 5 (some .int) rm_X1_operandOf D cA [.int v1, .int v2, .int v3, .int v4, .int v5] [] sz (some (.int ret_)) [] := by
  refine k_ofW (by decide) (Nat.le_of_ble_eq_true rfl) ?_
  intro p e s m below meth c A ls hx hb hr hml hts hown hlocks hB hA hW hl
  have hl : lv_has ls 5 [(0, .int v1), (1, .int v2), (2, .int v3), (3, .int v4), (4, .int v5)] := hl
  obtain ⟨H, eH⟩ : ∃ H, H = s.heap := ⟨_, rfl⟩
  obtain ⟨locs, eL⟩ : ∃ L : List Loc, L = [] := ⟨_, rfl⟩
  have hW : k_Wd D A s.heap [] H locs := by rw [eH, eL]; exact hW
  suffices K : W p l e rm_X1_operandOf s m [.int v1, .int v2, .int v3, .int v4, .int v5].toArray below meth c H locs 0 0 (MQ below (k_Q (some (.int ret_)) D [] A) [.int v1, .int v2, .int v3, .int v4, .int v5].toArray s 0 0 A) (F0 m 0 ls []) by rw [eH, eL] at K; exact K
  clear eH eL
  refine lv_iload_n hx hb dX1_operandOf_0 rfl (lv_at hl 0 rfl) ?_
  by_cases c_1 : v1 = 0
  · have h := k_t c_1 h
    refine lv_tableIn (tgt := 32) hx hb dX1_operandOf_1 (by rw [c_1]; decide) (by rw [c_1]; decide) (by rw [c_1]; rfl) (by decide) ?_
    refine lv_iload_n hx hb dX1_operandOf_32 rfl (lv_at hl 1 rfl) ?_
    have z0 := k_inj1 h
    rw [← z0]
    exact W.iret hx hb hr (fun t ht hWm => ⟨rfl, by rw [ht]; exact hW.1, hW.2.2.F ht⟩) hW.2.2.2.2 dX1_operandOf_33
  have h := k_f c_1 h
  by_cases c_2 : v1 = 1
  · have h := k_t c_2 h
    refine lv_tableIn (tgt := 34) hx hb dX1_operandOf_1 (by rw [c_2]; decide) (by rw [c_2]; decide) (by rw [c_2]; rfl) (by decide) ?_
    refine lv_iload_n hx hb dX1_operandOf_34 rfl (lv_at hl 2 rfl) ?_
    have z0 := k_inj1 h
    rw [← z0]
    exact W.iret hx hb hr (fun t ht hWm => ⟨rfl, by rw [ht]; exact hW.1, hW.2.2.F ht⟩) hW.2.2.2.2 dX1_operandOf_35
  have h := k_f c_2 h
  by_cases c_3 : v1 = 2
  · have h := k_t c_3 h
    refine lv_tableIn (tgt := 36) hx hb dX1_operandOf_1 (by rw [c_3]; decide) (by rw [c_3]; decide) (by rw [c_3]; rfl) (by decide) ?_
    refine lv_iload_n hx hb dX1_operandOf_36 rfl (lv_at hl 3 rfl) ?_
    have z0 := k_inj1 h
    rw [← z0]
    exact W.iret hx hb hr (fun t ht hWm => ⟨rfl, by rw [ht]; exact hW.1, hW.2.2.F ht⟩) hW.2.2.2.2 dX1_operandOf_37
  have h := k_f c_3 h
  by_cases c_4 : v1 = 3
  · have h := k_t c_4 h
    refine lv_tableIn (tgt := 38) hx hb dX1_operandOf_1 (by rw [c_4]; decide) (by rw [c_4]; decide) (by rw [c_4]; rfl) (by decide) ?_
    refine lv_iload hx hb dX1_operandOf_38 (lv_at hl 4 rfl) ?_
    have z0 := k_inj1 h
    rw [← z0]
    exact W.iret hx hb hr (fun t ht hWm => ⟨rfl, by rw [ht]; exact hW.1, hW.2.2.F ht⟩) hW.2.2.2.2 dX1_operandOf_40
  have h := k_f c_4 h
  have tc_1 := lv_neT (a := 0) c_1 (by decide)
  have tc_2 := lv_neT (a := 1) c_2 (by decide)
  have tc_3 := lv_neT (a := 2) c_3 (by decide)
  have tc_4 := lv_neT (a := 3) c_4 (by decide)
  refine lv_tableOut (tgt := 41) hx hb dX1_operandOf_1 (by omega) (by decide) ?_
  refine lv_iload_n hx hb dX1_operandOf_41 rfl (lv_at hl 3 rfl) ?_
  refine lv_iload hx hb dX1_operandOf_42 (lv_at hl 4 rfl) ?_
  refine lv_imul hx hb dX1_operandOf_44 ?_
  have z0 := k_inj1 h
  rw [← z0]
  exact W.iret hx hb hr (fun t ht hWm => ⟨rfl, by rw [ht]; exact hW.1, hW.2.2.F ht⟩) hW.2.2.2.2 dX1_operandOf_45
noncomputable def f_X1_compare (v1 : Int32) (v2 : Int32) (v3 : Int32) : Option (Int32) := (if v2 = 0 then (if v3 ≤ v1 then (some (0)) else (some (1))) else if v2 = 1 then (if v1 = v3 then (some (1)) else (some (0))) else (if v1 ≤ v3 then (some (0)) else (some (1))))
abbrev rm_X1_compare : Room := { frames := 0, cells := 0, slots := 0, locals := 0 }
theorem pd_X1_compare : k_D1 yX1_compare 3 := by decide +kernel
set_option maxHeartbeats 4000000 in
set_option maxRecDepth 100000 in
theorem m_X1_compare (l : Launch) (D : va_G) (cA : Nat → ClassId) (sz : Nat) (v1 : Int32) (v2 : Int32) (v3 : Int32) (ret_ : Int32) (h : f_X1_compare v1 v2 v3 = some (ret_)) : k_M l yX1_compare prog_3_method_11_code 3 (some .int) rm_X1_compare D cA [.int v1, .int v2, .int v3] [] sz (some (.int ret_)) [] := by
  refine k_ofW (by decide) (Nat.le_of_ble_eq_true rfl) ?_
  intro p e s m below meth c A ls hx hb hr hml hts hown hlocks hB hA hW hl
  have hl : lv_has ls 3 [(0, .int v1), (1, .int v2), (2, .int v3)] := hl
  obtain ⟨H, eH⟩ : ∃ H, H = s.heap := ⟨_, rfl⟩
  obtain ⟨locs, eL⟩ : ∃ L : List Loc, L = [] := ⟨_, rfl⟩
  have hW : k_Wd D A s.heap [] H locs := by rw [eH, eL]; exact hW
  suffices K : W p l e rm_X1_compare s m [.int v1, .int v2, .int v3].toArray below meth c H locs 0 0 (MQ below (k_Q (some (.int ret_)) D [] A) [.int v1, .int v2, .int v3].toArray s 0 0 A) (F0 m 0 ls []) by rw [eH, eL] at K; exact K
  clear eH eL
  refine lv_iload_n hx hb dX1_compare_0 rfl (lv_at hl 1 rfl) ?_
  by_cases c_1 : v2 = 0
  · have h := k_t c_1 h
    refine lv_lookup (tgt := 28) (off := 27) hx hb dX1_compare_1 rfl (by rw [c_1]; rfl) (by decide) ?_
    refine lv_iload_n hx hb dX1_compare_28 rfl (lv_at hl 0 rfl) ?_
    refine lv_iload_n hx hb dX1_compare_29 rfl (lv_at hl 2 rfl) ?_
    refine lv_icmp_ge (tgt := 37) hx hb dX1_compare_30 (by decide) (fun c_2 => ?_) (fun c_2 => ?_)
    · have h := k_t c_2 h
      refine lv_iconst (v := 0) hx hb dX1_compare_37 (by decide) ?_
      have z0 := k_inj1 h
      rw [← z0]
      exact W.iret hx hb hr (fun t ht hWm => ⟨rfl, by rw [ht]; exact hW.1, hW.2.2.F ht⟩) hW.2.2.2.2 dX1_compare_38
    · have h := k_f c_2 h
      refine lv_iconst (v := 1) hx hb dX1_compare_33 (by decide) ?_
      refine lv_goto (tgt := 38) hx hb dX1_compare_34 (by decide) ?_
      have z0 := k_inj1 h
      rw [← z0]
      exact W.iret hx hb hr (fun t ht hWm => ⟨rfl, by rw [ht]; exact hW.1, hW.2.2.F ht⟩) hW.2.2.2.2 dX1_compare_38
  have h := k_f c_1 h
  by_cases c_3 : v2 = 1
  · have h := k_t c_3 h
    refine lv_lookup (tgt := 39) (off := 38) hx hb dX1_compare_1 rfl (by rw [c_3]; rfl) (by decide) ?_
    refine lv_iload_n hx hb dX1_compare_39 rfl (lv_at hl 0 rfl) ?_
    refine lv_iload_n hx hb dX1_compare_40 rfl (lv_at hl 2 rfl) ?_
    refine lv_icmp_ne (tgt := 48) hx hb dX1_compare_41 (by decide) (fun c_4 => ?_) (fun c_4 => ?_)
    · have h := k_f c_4 h
      refine lv_iconst (v := 0) hx hb dX1_compare_48 (by decide) ?_
      have z0 := k_inj1 h
      rw [← z0]
      exact W.iret hx hb hr (fun t ht hWm => ⟨rfl, by rw [ht]; exact hW.1, hW.2.2.F ht⟩) hW.2.2.2.2 dX1_compare_49
    · have h := k_t c_4 h
      refine lv_iconst (v := 1) hx hb dX1_compare_44 (by decide) ?_
      refine lv_goto (tgt := 49) hx hb dX1_compare_45 (by decide) ?_
      have z0 := k_inj1 h
      rw [← z0]
      exact W.iret hx hb hr (fun t ht hWm => ⟨rfl, by rw [ht]; exact hW.1, hW.2.2.F ht⟩) hW.2.2.2.2 dX1_compare_49
  have h := k_f c_3 h
  refine lv_lookup (tgt := 50) (off := 49) hx hb dX1_compare_1 rfl (by show Op.lookupswitch.offset [(0, 27), (1, 38)] _ _ = _; rw [lv_osw c_1 (by decide), lv_osw c_3 (by decide)]; rfl) (by decide) ?_
  refine lv_iload_n hx hb dX1_compare_50 rfl (lv_at hl 0 rfl) ?_
  refine lv_iload_n hx hb dX1_compare_51 rfl (lv_at hl 2 rfl) ?_
  refine lv_icmp_le (tgt := 59) hx hb dX1_compare_52 (by decide) (fun c_5 => ?_) (fun c_5 => ?_)
  · have h := k_t c_5 h
    refine lv_iconst (v := 0) hx hb dX1_compare_59 (by decide) ?_
    have z0 := k_inj1 h
    rw [← z0]
    exact W.iret hx hb hr (fun t ht hWm => ⟨rfl, by rw [ht]; exact hW.1, hW.2.2.F ht⟩) hW.2.2.2.2 dX1_compare_60
  · have h := k_f c_5 h
    refine lv_iconst (v := 1) hx hb dX1_compare_55 (by decide) ?_
    refine lv_goto (tgt := 60) hx hb dX1_compare_56 (by decide) ?_
    have z0 := k_inj1 h
    rw [← z0]
    exact W.iret hx hb hr (fun t ht hWm => ⟨rfl, by rw [ht]; exact hW.1, hW.2.2.F ht⟩) hW.2.2.2.2 dX1_compare_60
noncomputable def f_X1_holds_151 (fu : Nat) (n_steps : Nat) (n_numbers : Nat) (size : Int32) (steps : Nat → Int32) (numbers : Nat → Int32) (v1 : Int32) (v2 : Int32) (v3 : Int32) (v4 : Int32) (x5 : Int32) : Option (Int32) := (if (x5 &&& 1) = 1 then (if vp_nar .boolean (1 : Int32) = (1 : Int32) then some (1) else none) else (if vp_nar .boolean (0 : Int32) = (0 : Int32) then some (0) else none))
noncomputable def f_X1_holds_145 (fu : Nat) (n_steps : Nat) (n_numbers : Nat) (size : Int32) (steps : Nat → Int32) (numbers : Nat → Int32) (v1 : Int32) (v2 : Int32) (v3 : Int32) (v4 : Int32) (k17 : Int32 → Int32 → Option (Int32)) (x5 : Int32) (x6 : Int32) : Option (Int32) := (k_let (x6 + 1) fun x_4 => (k17 x5 x_4))
noncomputable def f_X1_holds_143 (fu : Nat) (n_steps : Nat) (n_numbers : Nat) (size : Int32) (steps : Nat → Int32) (numbers : Nat → Int32) (v1 : Int32) (v2 : Int32) (v3 : Int32) (v4 : Int32) (k17 : Int32 → Int32 → Option (Int32)) (x6 : Int32) (s0 : Int32) : Option (Int32) := ((f_X1_holds_145 fu n_steps n_numbers size steps numbers v1 v2 v3 v4 k17 s0 x6))
noncomputable def f_X1_holds_17 (fu : Nat) (n_steps : Nat) (n_numbers : Nat) (size : Int32) (steps : Nat → Int32) (numbers : Nat → Int32) (v1 : Int32) (v2 : Int32) (v3 : Int32) (v4 : Int32) : Nat → Int32 → Int32 → Option (Int32)
  | 0 => fun _ _ => none
  | n + 1 => fun x5 x6 => (if size ≤ x6 then ((f_X1_holds_151 fu n_steps n_numbers size steps numbers v1 v2 v3 v4 x5)) else (k_b1 (f_X1_isFilled n_steps n_numbers size x6) fun r_7 => (if r_7 = 0 then (if vp_nar .boolean (0 : Int32) = (0 : Int32) then some (0) else none) else (if ¬ (x6 < 0 ∨ n_steps ≤ x6.toNatClampNeg) then k_let (steps x6.toNatClampNeg) fun x_11 => (if x_11 < 4 then (if x_11 = 3 then (k_let (x5 ^^^ 1) fun x_17 => (f_X1_holds_145 fu n_steps n_numbers size steps numbers v1 v2 v3 v4 (f_X1_holds_17 fu n_steps n_numbers size steps numbers v1 v2 v3 v4 n) x_17 x6)) else (k_let (x5 &&& 1) fun x_14 => k_let ((x5.toUInt32 >>> ((1 : Int32).toUInt32 &&& Int32.toUInt32 31)).toInt32) fun x_15 => if x_11 = 2 then ((f_X1_holds_143 fu n_steps n_numbers size steps numbers v1 v2 v3 v4 (f_X1_holds_17 fu n_steps n_numbers size steps numbers v1 v2 v3 v4 n) x6 (x_15 &&& (x_14 ||| (-2))))) else ((f_X1_holds_143 fu n_steps n_numbers size steps numbers v1 v2 v3 v4 (f_X1_holds_17 fu n_steps n_numbers size steps numbers v1 v2 v3 v4 n) x6 (x_15 ||| x_14))))) else (k_b1 (f_X1_nameOf x_11) fun r_19 => (k_b1 (f_X1_operandOf r_19 v1 v2 v3 v4) fun r_22 => (k_b1 (f_X1_relationOf x_11) fun r_25 => (if ¬ (x6 < 0 ∨ n_numbers ≤ x6.toNatClampNeg) then k_let (numbers x6.toNatClampNeg) fun x_28 => (k_b1 (f_X1_compare r_22 r_25 x_28) fun r_30 => (k_let ((x5 <<< (1 &&& 31)) ||| r_30) fun x_32 => (f_X1_holds_145 fu n_steps n_numbers size steps numbers v1 v2 v3 v4 (f_X1_holds_17 fu n_steps n_numbers size steps numbers v1 v2 v3 v4 n) x_32 x6))) else none))))) else none))))
theorem fs_X1_holds_17 (fu : Nat) (n_steps : Nat) (n_numbers : Nat) (size : Int32) (steps : Nat → Int32) (numbers : Nat → Int32) (v1 : Int32) (v2 : Int32) (v3 : Int32) (v4 : Int32) (n : Nat) (x5 : Int32) (x6 : Int32) : f_X1_holds_17 fu n_steps n_numbers size steps numbers v1 v2 v3 v4 (n + 1) x5 x6 = (if size ≤ x6 then ((f_X1_holds_151 fu n_steps n_numbers size steps numbers v1 v2 v3 v4 x5)) else (k_b1 (f_X1_isFilled n_steps n_numbers size x6) fun r_7 => (if r_7 = 0 then (if vp_nar .boolean (0 : Int32) = (0 : Int32) then some (0) else none) else (if ¬ (x6 < 0 ∨ n_steps ≤ x6.toNatClampNeg) then k_let (steps x6.toNatClampNeg) fun x_11 => (if x_11 < 4 then (if x_11 = 3 then (k_let (x5 ^^^ 1) fun x_17 => (f_X1_holds_145 fu n_steps n_numbers size steps numbers v1 v2 v3 v4 (f_X1_holds_17 fu n_steps n_numbers size steps numbers v1 v2 v3 v4 n) x_17 x6)) else (k_let (x5 &&& 1) fun x_14 => k_let ((x5.toUInt32 >>> ((1 : Int32).toUInt32 &&& Int32.toUInt32 31)).toInt32) fun x_15 => if x_11 = 2 then ((f_X1_holds_143 fu n_steps n_numbers size steps numbers v1 v2 v3 v4 (f_X1_holds_17 fu n_steps n_numbers size steps numbers v1 v2 v3 v4 n) x6 (x_15 &&& (x_14 ||| (-2))))) else ((f_X1_holds_143 fu n_steps n_numbers size steps numbers v1 v2 v3 v4 (f_X1_holds_17 fu n_steps n_numbers size steps numbers v1 v2 v3 v4 n) x6 (x_15 ||| x_14))))) else (k_b1 (f_X1_nameOf x_11) fun r_19 => (k_b1 (f_X1_operandOf r_19 v1 v2 v3 v4) fun r_22 => (k_b1 (f_X1_relationOf x_11) fun r_25 => (if ¬ (x6 < 0 ∨ n_numbers ≤ x6.toNatClampNeg) then k_let (numbers x6.toNatClampNeg) fun x_28 => (k_b1 (f_X1_compare r_22 r_25 x_28) fun r_30 => (k_let ((x5 <<< (1 &&& 31)) ||| r_30) fun x_32 => (f_X1_holds_145 fu n_steps n_numbers size steps numbers v1 v2 v3 v4 (f_X1_holds_17 fu n_steps n_numbers size steps numbers v1 v2 v3 v4 n) x_32 x6))) else none))))) else none)))) := rfl
noncomputable def f_X1_holds_12 (fu : Nat) (n_steps : Nat) (n_numbers : Nat) (size : Int32) (steps : Nat → Int32) (numbers : Nat → Int32) (v1 : Int32) (v2 : Int32) (v3 : Int32) (v4 : Int32) (s0 : Int32) : Option (Int32) := ((f_X1_holds_17 fu n_steps n_numbers size steps numbers v1 v2 v3 v4 fu s0 0))
noncomputable def f_X1_holds (fu : Nat) (n_steps : Nat) (n_numbers : Nat) (size : Int32) (steps : Nat → Int32) (numbers : Nat → Int32) (v1 : Int32) (v2 : Int32) (v3 : Int32) (v4 : Int32) : Option (Int32) := (if size = 0 then ((f_X1_holds_12 fu n_steps n_numbers size steps numbers v1 v2 v3 v4 1)) else ((f_X1_holds_12 fu n_steps n_numbers size steps numbers v1 v2 v3 v4 0)))
abbrev rm_X1_holds : Room := { frames := 1, cells := 0, slots := 0, locals := 24 }
theorem pd_X1_holds : k_D1 yX1_holds 4 := by decide +kernel
set_option maxHeartbeats 4000000 in
set_option maxRecDepth 100000 in
theorem m_X1_holds (l : Launch) (D : va_G) (cA : Nat → ClassId) (sz : Nat) (a_this a_steps a_numbers : Nat) (fu : Nat) (n_steps : Nat) (n_numbers : Nat) (size : Int32) (steps : Nat → Int32) (numbers : Nat → Int32) (v1 : Int32) (v2 : Int32) (v3 : Int32) (v4 : Int32) (ret_ : Int32) (h : f_X1_holds fu n_steps n_numbers size steps numbers v1 v2 v3 v4 = some (ret_)) : k_M l yX1_holds prog_3_method_5_code 9 (some .boolean) rm_X1_holds D cA [.ref a_this, .int v1, .int v2, .int v3, .int v4] [(a_this, .inr (1, [.ref a_steps, .ref a_numbers, .int size])), (a_steps, .inl (cA 0, n_steps, .inl steps)), (a_numbers, .inl (cA 0, n_numbers, .inl numbers))] sz (some (.int ret_)) [(a_this, .inr (1, [.ref a_steps, .ref a_numbers, .int size])), (a_steps, .inl (cA 0, n_steps, .inl steps)), (a_numbers, .inl (cA 0, n_numbers, .inl numbers))] := by
  refine k_ofW (by decide) (Nat.le_of_ble_eq_true rfl) ?_
  intro p e s m below meth c A ls hx hb hr hml hts hown hlocks hB hA hW hl
  have hl : lv_has ls 9 [(0, .ref a_this), (1, .int v1), (2, .int v2), (3, .int v3), (4, .int v4)] := hl
  obtain ⟨H, eH⟩ : ∃ H, H = s.heap := ⟨_, rfl⟩
  obtain ⟨locs, eL⟩ : ∃ L : List Loc, L = [] := ⟨_, rfl⟩
  have hW : k_Wd D A s.heap [(a_this, .inr (1, [.ref a_steps, .ref a_numbers, .int size])), (a_steps, .inl (cA 0, n_steps, .inl steps)), (a_numbers, .inl (cA 0, n_numbers, .inl numbers))] H locs := by rw [eH, eL]; exact hW
  suffices K : W p l e rm_X1_holds s m [.ref a_this, .int v1, .int v2, .int v3, .int v4].toArray below meth c H locs 0 0 (MQ below (k_Q (some (.int ret_)) D [(a_this, .inr (1, [.ref a_steps, .ref a_numbers, .int size])), (a_steps, .inl (cA 0, n_steps, .inl steps)), (a_numbers, .inl (cA 0, n_numbers, .inl numbers))] A) [.ref a_this, .int v1, .int v2, .int v3, .int v4].toArray s 0 0 A) (F0 m 0 ls []) by rw [eH, eL] at K; exact K
  clear eH eL
  have J151 : ∀ (x5 : Int32) (H : Heap) (locs : List Loc) (ls : Array Slot), k_Wd D A s.heap [(a_this, .inr (1, [.ref a_steps, .ref a_numbers, .int size])), (a_steps, .inl (cA 0, n_steps, .inl steps)), (a_numbers, .inl (cA 0, n_numbers, .inl numbers))] H locs → lv_has ls 9 [(5, .int x5)] → f_X1_holds_151 fu n_steps n_numbers size steps numbers v1 v2 v3 v4 x5 = some (ret_) → W p l e rm_X1_holds s m [.ref a_this, .int v1, .int v2, .int v3, .int v4].toArray below meth c H locs 0 0 (MQ below (k_Q (some (.int ret_)) D [(a_this, .inr (1, [.ref a_steps, .ref a_numbers, .int size])), (a_steps, .inl (cA 0, n_steps, .inl steps)), (a_numbers, .inl (cA 0, n_numbers, .inl numbers))] A) [.ref a_this, .int v1, .int v2, .int v3, .int v4].toArray s 0 0 A) (F0 m 151 ls []) := by
    intro x5 H locs ls hW hl h
    refine lv_iload hx hb dX1_holds_151 (lv_at hl 0 rfl) ?_
    refine lv_iconst (v := 1) hx hb dX1_holds_153 (by decide) ?_
    refine lv_iand hx hb dX1_holds_154 ?_
    refine lv_iconst (v := 1) hx hb dX1_holds_155 (by decide) ?_
    refine lv_icmp_ne (tgt := 163) hx hb dX1_holds_156 (by decide) (fun c_1 => ?_) (fun c_1 => ?_)
    · have h := k_f c_1 h
      refine lv_iconst (v := 0) hx hb dX1_holds_163 (by decide) ?_
      obtain ⟨c_2, h⟩ := k_g h
      have z0 := k_inj1 h
      rw [← z0]
      exact W.zret hx hb hr (k_narZ c_2) (fun t ht hWm => ⟨rfl, by rw [ht]; exact hW.1, hW.2.2.F ht⟩) hW.2.2.2.2 dX1_holds_164
    · have h := k_t c_1 h
      refine lv_iconst (v := 1) hx hb dX1_holds_159 (by decide) ?_
      refine lv_goto (tgt := 164) hx hb dX1_holds_160 (by decide) ?_
      obtain ⟨c_3, h⟩ := k_g h
      have z0 := k_inj1 h
      rw [← z0]
      exact W.zret hx hb hr (k_narZ c_3) (fun t ht hWm => ⟨rfl, by rw [ht]; exact hW.1, hW.2.2.F ht⟩) hW.2.2.2.2 dX1_holds_164
  have J17 : ∀ (n17 : Nat) (x5 : Int32) (x6 : Int32) (H : Heap) (locs : List Loc) (ls : Array Slot), k_Wd D A s.heap [(a_this, .inr (1, [.ref a_steps, .ref a_numbers, .int size])), (a_steps, .inl (cA 0, n_steps, .inl steps)), (a_numbers, .inl (cA 0, n_numbers, .inl numbers))] H locs → lv_has ls 9 [(0, .ref a_this), (1, .int v1), (2, .int v2), (3, .int v3), (4, .int v4), (5, .int x5), (6, .int x6)] → f_X1_holds_17 fu n_steps n_numbers size steps numbers v1 v2 v3 v4 n17 x5 x6 = some (ret_) → W p l e rm_X1_holds s m [.ref a_this, .int v1, .int v2, .int v3, .int v4].toArray below meth c H locs 0 0 (MQ below (k_Q (some (.int ret_)) D [(a_this, .inr (1, [.ref a_steps, .ref a_numbers, .int size])), (a_steps, .inl (cA 0, n_steps, .inl steps)), (a_numbers, .inl (cA 0, n_numbers, .inl numbers))] A) [.ref a_this, .int v1, .int v2, .int v3, .int v4].toArray s 0 0 A) (F0 m 17 ls []) := by
    intro n17
    induction n17 with
    | zero => intro x5 x6 H locs ls hW hl h; exact k_no h
    | succ n17 ih17 =>
      have J145 : ∀ (x5 : Int32) (x6 : Int32) (H : Heap) (locs : List Loc) (ls : Array Slot), k_Wd D A s.heap [(a_this, .inr (1, [.ref a_steps, .ref a_numbers, .int size])), (a_steps, .inl (cA 0, n_steps, .inl steps)), (a_numbers, .inl (cA 0, n_numbers, .inl numbers))] H locs → lv_has ls 9 [(0, .ref a_this), (1, .int v1), (2, .int v2), (3, .int v3), (4, .int v4), (5, .int x5), (6, .int x6)] → f_X1_holds_145 fu n_steps n_numbers size steps numbers v1 v2 v3 v4 (f_X1_holds_17 fu n_steps n_numbers size steps numbers v1 v2 v3 v4 n17) x5 x6 = some (ret_) → W p l e rm_X1_holds s m [.ref a_this, .int v1, .int v2, .int v3, .int v4].toArray below meth c H locs 0 0 (MQ below (k_Q (some (.int ret_)) D [(a_this, .inr (1, [.ref a_steps, .ref a_numbers, .int size])), (a_steps, .inl (cA 0, n_steps, .inl steps)), (a_numbers, .inl (cA 0, n_numbers, .inl numbers))] A) [.ref a_this, .int v1, .int v2, .int v3, .int v4].toArray s 0 0 A) (F0 m 145 ls []) := by
        intro x5 x6 H locs ls hW hl h
        obtain ⟨x_4, ex_4⟩ : ∃ y : Int32, y = x6 + 1 := ⟨_, rfl⟩
        have h := k_letE ex_4 h
        refine lv_iinc (v := x_4) (lv' := [(6, .int x_4), (0, .ref a_this), (1, .int v1), (2, .int v2), (3, .int v3), (4, .int v4), (5, .int x5)]) hx hb dX1_holds_145 hl (k := 6) rfl (by rw [ex_4]; rfl) (by decide) rfl (fun ls hl => ?_)
        refine lv_goto (tgt := 17) hx hb dX1_holds_148 (by decide) ?_
        exact ih17 x5 x_4 H locs ls hW (lv_sub hl [1, 2, 3, 4, 5, 6, 0] rfl) h
      have J143 : ∀ (x6 : Int32) (s0 : Int32) (H : Heap) (locs : List Loc) (ls : Array Slot), k_Wd D A s.heap [(a_this, .inr (1, [.ref a_steps, .ref a_numbers, .int size])), (a_steps, .inl (cA 0, n_steps, .inl steps)), (a_numbers, .inl (cA 0, n_numbers, .inl numbers))] H locs → lv_has ls 9 [(0, .ref a_this), (1, .int v1), (2, .int v2), (3, .int v3), (4, .int v4), (6, .int x6)] → f_X1_holds_143 fu n_steps n_numbers size steps numbers v1 v2 v3 v4 (f_X1_holds_17 fu n_steps n_numbers size steps numbers v1 v2 v3 v4 n17) x6 s0 = some (ret_) → W p l e rm_X1_holds s m [.ref a_this, .int v1, .int v2, .int v3, .int v4].toArray below meth c H locs 0 0 (MQ below (k_Q (some (.int ret_)) D [(a_this, .inr (1, [.ref a_steps, .ref a_numbers, .int size])), (a_steps, .inl (cA 0, n_steps, .inl steps)), (a_numbers, .inl (cA 0, n_numbers, .inl numbers))] A) [.ref a_this, .int v1, .int v2, .int v3, .int v4].toArray s 0 0 A) (F0 m 143 ls [.int s0]) := by
        intro x6 s0 H locs ls hW hl h
        refine lv_istore (lv' := [(5, .int s0), (0, .ref a_this), (1, .int v1), (2, .int v2), (3, .int v3), (4, .int v4), (6, .int x6)]) hx hb dX1_holds_143 hl (by decide) rfl (fun ls hl => ?_)
        exact J145 s0 x6 H locs ls hW (lv_sub hl [1, 2, 3, 4, 5, 0, 6] rfl) h
      intro x5 x6 H locs ls hW hl h
      have h := (fs_X1_holds_17 _ _ _ _ _ _ _ _ _ _ _ _ _).symm.trans h
      refine lv_iload hx hb dX1_holds_17 (lv_at hl 6 rfl) ?_
      refine lv_aload_n hx hb dX1_holds_19 rfl (lv_at hl 0 rfl) ?_
      refine va_get (D := D) (ci := 1) (v := .int size) (C := RX1) (T := TX1) (N := 3) hx hb hts iX1 hown hB.1 hW.1 0 rfl rfl 2 (by decide) (hts _ q1_98) (fun _ h9 => h9) rfl dX1_holds_20 ?_
      refine lv_icmp_ge (tgt := 151) hx hb dX1_holds_23 (by decide) (fun c_5 => ?_) (fun c_5 => ?_)
      · have h := k_t c_5 h
        exact J151 x5 H locs ls hW (lv_sub hl [5] rfl) h
      · have h := k_f c_5 h
        refine lv_aload_n hx hb dX1_holds_26 rfl (lv_at hl 0 rfl) ?_
        refine lv_iload hx hb dX1_holds_27 (lv_at hl 6 rfl) ?_
        obtain ⟨r_7, h_6, h⟩ := k_bE1 h
        refine k_callV (C := RX1) (ws' := [(a_this, .inr (1, [.ref a_steps, .ref a_numbers, .int size])), (a_steps, .inl (cA 0, n_steps, .inl steps)), (a_numbers, .inl (cA 0, n_numbers, .inl numbers))]) (As := [.int x6]) (rest := []) (b := a_this) (m_X1_isFilled l D cA H.size a_this a_steps a_numbers n_steps n_numbers size steps numbers x6 r_7 h_6) hx hb hml hown hts hB hA hW hl.1 q2_98 q1_5 q2_97 qs_yX1_isFilled q2_95 pd_X1_isFilled ⟨rfl, rfl, Nat.le_of_ble_eq_true rfl, Nat.le_of_ble_eq_true rfl⟩ rfl 0 rfl rfl [0, 1, 2] [] ⟨rfl, rfl, rfl, trivial⟩ rfl ⟨⟨rfl, rfl, rfl, trivial⟩, trivial, rfl⟩ rfl rfl (Nat.le_of_ble_eq_true rfl) ⟨Nat.zero_le _, Nat.zero_le _⟩ dX1_holds_29 (st1 := [.int r_7]) rfl (fun H locs hW => ?_)
        refine lv_if_ne (tgt := 37) hx hb dX1_holds_32 (by decide) (fun c_9 => ?_) (fun c_9 => ?_)
        · have h := k_f c_9 h
          refine lv_aload_n hx hb dX1_holds_37 rfl (lv_at hl 0 rfl) ?_
          refine va_get (D := D) (ci := 1) (v := .ref a_steps) (C := RX1) (T := TX1) (N := 3) hx hb hts iX1 hown hB.1 hW.1 0 rfl rfl 0 (by decide) (hts _ q1_96) (fun _ h9 => h9) rfl dX1_holds_38 ?_
          refine lv_iload hx hb dX1_holds_41 (lv_at hl 6 rfl) ?_
          obtain ⟨c_10, h⟩ := k_g h
          refine va_iald hx hb hB.1 hW.1 1 0 rfl rfl c_10 dX1_holds_43 ?_
          refine lv_topi (fun x_11 ex_11 => ?_)
          have h := k_letE ex_11 h
          refine lv_istore (lv' := [(7, .int x_11), (0, .ref a_this), (1, .int v1), (2, .int v2), (3, .int v3), (4, .int v4), (5, .int x5), (6, .int x6)]) hx hb dX1_holds_44 hl (by decide) rfl (fun ls hl => ?_)
          refine lv_iload hx hb dX1_holds_46 (lv_at hl 0 rfl) ?_
          refine lv_iconst (v := 4) hx hb dX1_holds_48 (by decide) ?_
          refine lv_icmp_lt (tgt := 94) hx hb dX1_holds_49 (by decide) (fun c_12 => ?_) (fun c_12 => ?_)
          · have h := k_t c_12 h
            refine lv_iload hx hb dX1_holds_94 (lv_at hl 0 rfl) ?_
            refine lv_iconst (v := 3) hx hb dX1_holds_96 (by decide) ?_
            refine lv_icmp_ne (tgt := 109) hx hb dX1_holds_97 (by decide) (fun c_13 => ?_) (fun c_13 => ?_)
            · have h := k_f c_13 h
              refine lv_iload hx hb dX1_holds_109 (lv_at hl 6 rfl) ?_
              refine lv_iconst (v := 1) hx hb dX1_holds_111 (by decide) ?_
              refine lv_iand hx hb dX1_holds_112 ?_
              refine lv_topi (fun x_14 ex_14 => ?_)
              have h := k_letE ex_14 h
              refine lv_istore (lv' := [(8, .int x_14), (7, .int x_11), (0, .ref a_this), (1, .int v1), (2, .int v2), (3, .int v3), (4, .int v4), (5, .int x5), (6, .int x6)]) hx hb dX1_holds_113 hl (by decide) rfl (fun ls hl => ?_)
              refine lv_iload hx hb dX1_holds_115 (lv_at hl 7 rfl) ?_
              refine lv_iconst (v := 1) hx hb dX1_holds_117 (by decide) ?_
              refine lv_iushr hx hb dX1_holds_118 rfl ?_
              refine lv_topi (fun x_15 ex_15 => ?_)
              have h := k_letE ex_15 h
              refine lv_istore (lv' := [(5, .int x_15), (8, .int x_14), (7, .int x_11), (0, .ref a_this), (1, .int v1), (2, .int v2), (3, .int v3), (4, .int v4), (6, .int x6)]) hx hb dX1_holds_119 hl (by decide) rfl (fun ls hl => ?_)
              refine lv_iload hx hb dX1_holds_121 (lv_at hl 2 rfl) ?_
              refine lv_iconst (v := 2) hx hb dX1_holds_123 (by decide) ?_
              refine lv_icmp_ne (tgt := 138) hx hb dX1_holds_124 (by decide) (fun c_16 => ?_) (fun c_16 => ?_)
              · have h := k_f c_16 h
                refine lv_iload hx hb dX1_holds_138 (lv_at hl 0 rfl) ?_
                refine lv_iload hx hb dX1_holds_140 (lv_at hl 1 rfl) ?_
                refine lv_ior hx hb dX1_holds_142 ?_
                exact J143 x6 (x_15 ||| x_14) H locs ls hW (lv_sub hl [3, 4, 5, 6, 7, 8] rfl) h
              · have h := k_t c_16 h
                refine lv_iload hx hb dX1_holds_127 (lv_at hl 0 rfl) ?_
                refine lv_iload hx hb dX1_holds_129 (lv_at hl 1 rfl) ?_
                refine lv_bipush (v := (-2)) hx hb dX1_holds_131 (by decide) ?_
                refine lv_ior hx hb dX1_holds_133 ?_
                refine lv_iand hx hb dX1_holds_134 ?_
                refine lv_goto (tgt := 143) hx hb dX1_holds_135 (by decide) ?_
                exact J143 x6 (x_15 &&& (x_14 ||| (-2))) H locs ls hW (lv_sub hl [3, 4, 5, 6, 7, 8] rfl) h
            · have h := k_t c_13 h
              refine lv_iload hx hb dX1_holds_100 (lv_at hl 6 rfl) ?_
              refine lv_iconst (v := 1) hx hb dX1_holds_102 (by decide) ?_
              refine lv_ixor hx hb dX1_holds_103 ?_
              refine lv_topi (fun x_17 ex_17 => ?_)
              have h := k_letE ex_17 h
              refine lv_istore (lv' := [(5, .int x_17), (7, .int x_11), (0, .ref a_this), (1, .int v1), (2, .int v2), (3, .int v3), (4, .int v4), (6, .int x6)]) hx hb dX1_holds_104 hl (by decide) rfl (fun ls hl => ?_)
              refine lv_goto (tgt := 145) hx hb dX1_holds_106 (by decide) ?_
              exact J145 x_17 x6 H locs ls hW (lv_sub hl [2, 3, 4, 5, 6, 0, 7] rfl) h
          · have h := k_f c_12 h
            refine lv_iload hx hb dX1_holds_52 (lv_at hl 0 rfl) ?_
            obtain ⟨r_19, h_18, h⟩ := k_bE1 h
            refine k_callS (ws' := [(a_this, .inr (1, [.ref a_steps, .ref a_numbers, .int size])), (a_steps, .inl (cA 0, n_steps, .inl steps)), (a_numbers, .inl (cA 0, n_numbers, .inl numbers))]) (As := [.int x_11]) (rest := []) (m_X1_nameOf l D cA H.size x_11 r_19 h_18) hx hb hml hown hts hB hA hW hl.1 q2_101 q1_5 q2_100 q2_99 pd_X1_nameOf ⟨rfl, rfl, Nat.le_of_ble_eq_true rfl, Nat.le_of_ble_eq_true rfl⟩ rfl [] [0, 1, 2] trivial rfl ⟨trivial, ⟨rfl, rfl, rfl, trivial⟩, rfl⟩ rfl rfl (Nat.le_of_ble_eq_true rfl) ⟨Nat.zero_le _, Nat.zero_le _⟩ dX1_holds_54 (st1 := [.int r_19]) rfl (fun H locs hW => ?_)
            refine lv_iload_n hx hb dX1_holds_57 rfl (lv_at hl 2 rfl) ?_
            refine lv_iload_n hx hb dX1_holds_58 rfl (lv_at hl 3 rfl) ?_
            refine lv_iload_n hx hb dX1_holds_59 rfl (lv_at hl 4 rfl) ?_
            refine lv_iload hx hb dX1_holds_60 (lv_at hl 5 rfl) ?_
            obtain ⟨r_22, h_21, h⟩ := k_bE1 h
            refine k_callS (ws' := [(a_this, .inr (1, [.ref a_steps, .ref a_numbers, .int size])), (a_steps, .inl (cA 0, n_steps, .inl steps)), (a_numbers, .inl (cA 0, n_numbers, .inl numbers))]) (As := [.int r_19, .int v1, .int v2, .int v3, .int v4]) (rest := []) (m_X1_operandOf l D cA H.size r_19 v1 v2 v3 v4 r_22 h_21) hx hb hml hown hts hB hA hW hl.1 q2_104 q1_5 q2_103 q2_102 pd_X1_operandOf ⟨rfl, rfl, Nat.le_of_ble_eq_true rfl, Nat.le_of_ble_eq_true rfl⟩ rfl [] [0, 1, 2] trivial rfl ⟨trivial, ⟨rfl, rfl, rfl, trivial⟩, rfl⟩ rfl rfl (Nat.le_of_ble_eq_true rfl) ⟨Nat.zero_le _, Nat.zero_le _⟩ dX1_holds_62 (st1 := [.int r_22]) rfl (fun H locs hW => ?_)
            refine lv_istore (lv' := [(8, .int r_22), (7, .int x_11), (0, .ref a_this), (1, .int v1), (2, .int v2), (3, .int v3), (4, .int v4), (5, .int x5), (6, .int x6)]) hx hb dX1_holds_65 hl (by decide) rfl (fun ls hl => ?_)
            refine lv_iload hx hb dX1_holds_67 (lv_at hl 7 rfl) ?_
            refine lv_iconst (v := 1) hx hb dX1_holds_69 (by decide) ?_
            refine lv_ishl hx hb dX1_holds_70 ?_
            refine lv_iload hx hb dX1_holds_71 (lv_at hl 0 rfl) ?_
            refine lv_iload hx hb dX1_holds_73 (lv_at hl 1 rfl) ?_
            obtain ⟨r_25, h_24, h⟩ := k_bE1 h
            refine k_callS (ws' := [(a_this, .inr (1, [.ref a_steps, .ref a_numbers, .int size])), (a_steps, .inl (cA 0, n_steps, .inl steps)), (a_numbers, .inl (cA 0, n_numbers, .inl numbers))]) (As := [.int x_11]) (rest := [.int r_22, .int (x5 <<< (1 &&& 31))]) (m_X1_relationOf l D cA H.size x_11 r_25 h_24) hx hb hml hown hts hB hA hW hl.1 q2_107 q1_5 q2_106 q2_105 pd_X1_relationOf ⟨rfl, rfl, Nat.le_of_ble_eq_true rfl, Nat.le_of_ble_eq_true rfl⟩ rfl [] [0, 1, 2] trivial rfl ⟨trivial, ⟨rfl, rfl, rfl, trivial⟩, rfl⟩ rfl rfl (Nat.le_of_ble_eq_true rfl) ⟨Nat.zero_le _, Nat.zero_le _⟩ dX1_holds_75 (st1 := [.int r_25, .int r_22, .int (x5 <<< (1 &&& 31))]) rfl (fun H locs hW => ?_)
            refine lv_aload_n hx hb dX1_holds_78 rfl (lv_at hl 2 rfl) ?_
            refine va_get (D := D) (ci := 1) (v := .ref a_numbers) (C := RX1) (T := TX1) (N := 3) hx hb hts iX1 hown hB.1 hW.1 0 rfl rfl 1 (by decide) (hts _ q1_97) (fun _ h9 => h9) rfl dX1_holds_79 ?_
            refine lv_iload hx hb dX1_holds_82 (lv_at hl 8 rfl) ?_
            obtain ⟨c_27, h⟩ := k_g h
            refine va_iald hx hb hB.1 hW.1 2 0 rfl rfl c_27 dX1_holds_84 ?_
            refine lv_topi (fun x_28 ex_28 => ?_)
            have h := k_letE ex_28 h
            obtain ⟨r_30, h_29, h⟩ := k_bE1 h
            refine k_callS (ws' := [(a_this, .inr (1, [.ref a_steps, .ref a_numbers, .int size])), (a_steps, .inl (cA 0, n_steps, .inl steps)), (a_numbers, .inl (cA 0, n_numbers, .inl numbers))]) (As := [.int r_22, .int r_25, .int x_28]) (rest := [.int (x5 <<< (1 &&& 31))]) (m_X1_compare l D cA H.size r_22 r_25 x_28 r_30 h_29) hx hb hml hown hts hB hA hW hl.1 q2_110 q1_5 q2_109 q2_108 pd_X1_compare ⟨rfl, rfl, Nat.le_of_ble_eq_true rfl, Nat.le_of_ble_eq_true rfl⟩ rfl [] [0, 1, 2] trivial rfl ⟨trivial, ⟨rfl, rfl, rfl, trivial⟩, rfl⟩ rfl rfl (Nat.le_of_ble_eq_true rfl) ⟨Nat.zero_le _, Nat.zero_le _⟩ dX1_holds_85 (st1 := [.int r_30, .int (x5 <<< (1 &&& 31))]) rfl (fun H locs hW => ?_)
            refine lv_ior hx hb dX1_holds_88 ?_
            refine lv_topi (fun x_32 ex_32 => ?_)
            have h := k_letE ex_32 h
            refine lv_istore (lv' := [(5, .int x_32), (8, .int r_22), (7, .int x_11), (0, .ref a_this), (1, .int v1), (2, .int v2), (3, .int v3), (4, .int v4), (6, .int x6)]) hx hb dX1_holds_89 hl (by decide) rfl (fun ls hl => ?_)
            refine lv_goto (tgt := 145) hx hb dX1_holds_91 (by decide) ?_
            exact J145 x_32 x6 H locs ls hW (lv_sub hl [3, 4, 5, 6, 7, 0, 8] rfl) h
        · have h := k_t c_9 h
          refine lv_iconst (v := 0) hx hb dX1_holds_35 (by decide) ?_
          obtain ⟨c_33, h⟩ := k_g h
          have z0 := k_inj1 h
          rw [← z0]
          exact W.zret hx hb hr (k_narZ c_33) (fun t ht hWm => ⟨rfl, by rw [ht]; exact hW.1, hW.2.2.F ht⟩) hW.2.2.2.2 dX1_holds_36
  have J12 : ∀ (s0 : Int32) (H : Heap) (locs : List Loc) (ls : Array Slot), k_Wd D A s.heap [(a_this, .inr (1, [.ref a_steps, .ref a_numbers, .int size])), (a_steps, .inl (cA 0, n_steps, .inl steps)), (a_numbers, .inl (cA 0, n_numbers, .inl numbers))] H locs → lv_has ls 9 [(0, .ref a_this), (1, .int v1), (2, .int v2), (3, .int v3), (4, .int v4)] → f_X1_holds_12 fu n_steps n_numbers size steps numbers v1 v2 v3 v4 s0 = some (ret_) → W p l e rm_X1_holds s m [.ref a_this, .int v1, .int v2, .int v3, .int v4].toArray below meth c H locs 0 0 (MQ below (k_Q (some (.int ret_)) D [(a_this, .inr (1, [.ref a_steps, .ref a_numbers, .int size])), (a_steps, .inl (cA 0, n_steps, .inl steps)), (a_numbers, .inl (cA 0, n_numbers, .inl numbers))] A) [.ref a_this, .int v1, .int v2, .int v3, .int v4].toArray s 0 0 A) (F0 m 12 ls [.int s0]) := by
    intro s0 H locs ls hW hl h
    refine lv_istore (lv' := [(5, .int s0), (0, .ref a_this), (1, .int v1), (2, .int v2), (3, .int v3), (4, .int v4)]) hx hb dX1_holds_12 hl (by decide) rfl (fun ls hl => ?_)
    refine lv_iconst (v := 0) hx hb dX1_holds_14 (by decide) ?_
    refine lv_istore (lv' := [(6, .int 0), (5, .int s0), (0, .ref a_this), (1, .int v1), (2, .int v2), (3, .int v3), (4, .int v4)]) hx hb dX1_holds_15 hl (by decide) rfl (fun ls hl => ?_)
    exact J17 fu s0 0 H locs ls hW (lv_sub hl [2, 3, 4, 5, 6, 1, 0] rfl) h
  refine lv_aload_n hx hb dX1_holds_0 rfl (lv_at hl 0 rfl) ?_
  refine va_get (D := D) (ci := 1) (v := .int size) (C := RX1) (T := TX1) (N := 3) hx hb hts iX1 hown hB.1 hW.1 0 rfl rfl 2 (by decide) (hts _ q1_98) (fun _ h9 => h9) rfl dX1_holds_1 ?_
  refine lv_if_ne (tgt := 11) hx hb dX1_holds_4 (by decide) (fun c_34 => ?_) (fun c_34 => ?_)
  · have h := k_f c_34 h
    refine lv_iconst (v := 0) hx hb dX1_holds_11 (by decide) ?_
    exact J12 0 H locs ls hW (lv_sub hl [0, 1, 2, 3, 4] rfl) h
  · have h := k_t c_34 h
    refine lv_iconst (v := 1) hx hb dX1_holds_7 (by decide) ?_
    refine lv_goto (tgt := 12) hx hb dX1_holds_8 (by decide) ?_
    exact J12 1 H locs ls hW (lv_sub hl [0, 1, 2, 3, 4] rfl) h
noncomputable def f_X1_copyFrom_38 (fu : Nat) (n_steps : Nat) (n_numbers : Nat) (n_p1_steps : Nat) (n_p1_numbers : Nat) (p1_size : Int32) (p1_steps : Nat → Int32) (p1_numbers : Nat → Int32) (k6 : Int32 → Int32 → (Nat → Int32) → (Nat → Int32) → Option (Int32 × (Nat → Int32) × (Nat → Int32))) (x2 : Int32) (size : Int32) (steps : Nat → Int32) (numbers : Nat → Int32) : Option (Int32 × (Nat → Int32) × (Nat → Int32)) := (k_let (x2 + 1) fun x_1 => (k6 x_1 size steps numbers))
noncomputable def f_X1_copyFrom_6 (fu : Nat) (n_steps : Nat) (n_numbers : Nat) (n_p1_steps : Nat) (n_p1_numbers : Nat) (p1_size : Int32) (p1_steps : Nat → Int32) (p1_numbers : Nat → Int32) : Nat → Int32 → Int32 → (Nat → Int32) → (Nat → Int32) → Option (Int32 × (Nat → Int32) × (Nat → Int32))
  | 0 => fun _ _ _ _ => none
  | n + 1 => fun x2 size steps numbers => (if p1_size ≤ x2 then (some (size, steps, numbers)) else (k_b1 (f_X1_isFilled n_p1_steps n_p1_numbers p1_size x2) fun r_4 => (if r_4 = 0 then ((f_X1_copyFrom_38 fu n_steps n_numbers n_p1_steps n_p1_numbers p1_size p1_steps p1_numbers (f_X1_copyFrom_6 fu n_steps n_numbers n_p1_steps n_p1_numbers p1_size p1_steps p1_numbers n) x2 size steps numbers)) else (if ¬ (x2 < 0 ∨ n_p1_steps ≤ x2.toNatClampNeg) then k_let (p1_steps x2.toNatClampNeg) fun x_8 => (if ¬ (x2 < 0 ∨ n_p1_numbers ≤ x2.toNatClampNeg) then k_let (p1_numbers x2.toNatClampNeg) fun x_10 => (k_b3 (f_X1_append n_steps n_numbers x_8 x_10 size steps numbers) fun size__12 steps__13 numbers__14 => ((f_X1_copyFrom_38 fu n_steps n_numbers n_p1_steps n_p1_numbers p1_size p1_steps p1_numbers (f_X1_copyFrom_6 fu n_steps n_numbers n_p1_steps n_p1_numbers p1_size p1_steps p1_numbers n) x2 size__12 steps__13 numbers__14))) else none) else none))))
theorem fs_X1_copyFrom_6 (fu : Nat) (n_steps : Nat) (n_numbers : Nat) (n_p1_steps : Nat) (n_p1_numbers : Nat) (p1_size : Int32) (p1_steps : Nat → Int32) (p1_numbers : Nat → Int32) (n : Nat) (x2 : Int32) (size : Int32) (steps : Nat → Int32) (numbers : Nat → Int32) : f_X1_copyFrom_6 fu n_steps n_numbers n_p1_steps n_p1_numbers p1_size p1_steps p1_numbers (n + 1) x2 size steps numbers = (if p1_size ≤ x2 then (some (size, steps, numbers)) else (k_b1 (f_X1_isFilled n_p1_steps n_p1_numbers p1_size x2) fun r_4 => (if r_4 = 0 then ((f_X1_copyFrom_38 fu n_steps n_numbers n_p1_steps n_p1_numbers p1_size p1_steps p1_numbers (f_X1_copyFrom_6 fu n_steps n_numbers n_p1_steps n_p1_numbers p1_size p1_steps p1_numbers n) x2 size steps numbers)) else (if ¬ (x2 < 0 ∨ n_p1_steps ≤ x2.toNatClampNeg) then k_let (p1_steps x2.toNatClampNeg) fun x_8 => (if ¬ (x2 < 0 ∨ n_p1_numbers ≤ x2.toNatClampNeg) then k_let (p1_numbers x2.toNatClampNeg) fun x_10 => (k_b3 (f_X1_append n_steps n_numbers x_8 x_10 size steps numbers) fun size__12 steps__13 numbers__14 => ((f_X1_copyFrom_38 fu n_steps n_numbers n_p1_steps n_p1_numbers p1_size p1_steps p1_numbers (f_X1_copyFrom_6 fu n_steps n_numbers n_p1_steps n_p1_numbers p1_size p1_steps p1_numbers n) x2 size__12 steps__13 numbers__14))) else none) else none)))) := rfl
noncomputable def f_X1_copyFrom (fu : Nat) (n_steps : Nat) (n_numbers : Nat) (n_p1_steps : Nat) (n_p1_numbers : Nat) (p1_size : Int32) (p1_steps : Nat → Int32) (p1_numbers : Nat → Int32) (size : Int32) (steps : Nat → Int32) (numbers : Nat → Int32) : Option (Int32 × (Nat → Int32) × (Nat → Int32)) := (k_b1 (f_X1_clear size) fun size__17 => ((f_X1_copyFrom_6 fu n_steps n_numbers n_p1_steps n_p1_numbers p1_size p1_steps p1_numbers fu 0 size__17 steps numbers)))
abbrev rm_X1_copyFrom : Room := { frames := 1, cells := 0, slots := 0, locals := 22 }
theorem pd_X1_copyFrom : k_D1 yX1_copyFrom 1 := by decide +kernel
set_option maxHeartbeats 4000000 in
set_option maxRecDepth 100000 in
theorem m_X1_copyFrom (l : Launch) (D : va_G) (cA : Nat → ClassId) (sz : Nat) (a_this a_steps a_numbers a_p1 a_p1_steps a_p1_numbers : Nat) (fu : Nat) (n_steps : Nat) (n_numbers : Nat) (n_p1_steps : Nat) (n_p1_numbers : Nat) (size : Int32) (steps : Nat → Int32) (numbers : Nat → Int32) (p1_size : Int32) (p1_steps : Nat → Int32) (p1_numbers : Nat → Int32) (size' : Int32) (steps' : Nat → Int32) (numbers' : Nat → Int32) (h : f_X1_copyFrom fu n_steps n_numbers n_p1_steps n_p1_numbers p1_size p1_steps p1_numbers size steps numbers = some (size', steps', numbers')) : k_M l yX1_copyFrom prog_3_method_4_code 3 (none : Option Jvm.ClassFile.FieldType) rm_X1_copyFrom D cA [.ref a_this, .ref a_p1] [(a_this, .inr (1, [.ref a_steps, .ref a_numbers, .int size])), (a_steps, .inl (cA 0, n_steps, .inl steps)), (a_numbers, .inl (cA 0, n_numbers, .inl numbers)), (a_p1, .inr (1, [.ref a_p1_steps, .ref a_p1_numbers, .int p1_size])), (a_p1_steps, .inl (cA 0, n_p1_steps, .inl p1_steps)), (a_p1_numbers, .inl (cA 0, n_p1_numbers, .inl p1_numbers))] sz (none) [(a_this, .inr (1, [.ref a_steps, .ref a_numbers, .int (size')])), (a_steps, .inl (cA 0, n_steps, .inl (steps'))), (a_numbers, .inl (cA 0, n_numbers, .inl (numbers'))), (a_p1, .inr (1, [.ref a_p1_steps, .ref a_p1_numbers, .int p1_size])), (a_p1_steps, .inl (cA 0, n_p1_steps, .inl p1_steps)), (a_p1_numbers, .inl (cA 0, n_p1_numbers, .inl p1_numbers))] := by
  refine k_ofW (by decide) (Nat.le_of_ble_eq_true rfl) ?_
  intro p e s m below meth c A ls hx hb hr hml hts hown hlocks hB hA hW hl
  have hl : lv_has ls 3 [(0, .ref a_this), (1, .ref a_p1)] := hl
  obtain ⟨H, eH⟩ : ∃ H, H = s.heap := ⟨_, rfl⟩
  obtain ⟨locs, eL⟩ : ∃ L : List Loc, L = [] := ⟨_, rfl⟩
  have hW : k_Wd D A s.heap [(a_this, .inr (1, [.ref a_steps, .ref a_numbers, .int size])), (a_steps, .inl (cA 0, n_steps, .inl steps)), (a_numbers, .inl (cA 0, n_numbers, .inl numbers)), (a_p1, .inr (1, [.ref a_p1_steps, .ref a_p1_numbers, .int p1_size])), (a_p1_steps, .inl (cA 0, n_p1_steps, .inl p1_steps)), (a_p1_numbers, .inl (cA 0, n_p1_numbers, .inl p1_numbers))] H locs := by rw [eH, eL]; exact hW
  suffices K : W p l e rm_X1_copyFrom s m [.ref a_this, .ref a_p1].toArray below meth c H locs 0 0 (MQ below (k_Q (none) D [(a_this, .inr (1, [.ref a_steps, .ref a_numbers, .int (size')])), (a_steps, .inl (cA 0, n_steps, .inl (steps'))), (a_numbers, .inl (cA 0, n_numbers, .inl (numbers'))), (a_p1, .inr (1, [.ref a_p1_steps, .ref a_p1_numbers, .int p1_size])), (a_p1_steps, .inl (cA 0, n_p1_steps, .inl p1_steps)), (a_p1_numbers, .inl (cA 0, n_p1_numbers, .inl p1_numbers))] A) [.ref a_this, .ref a_p1].toArray s 0 0 A) (F0 m 0 ls []) by rw [eH, eL] at K; exact K
  clear eH eL
  have J6 : ∀ (n6 : Nat) (x2 : Int32) (size : Int32) (steps : Nat → Int32) (numbers : Nat → Int32) (H : Heap) (locs : List Loc) (ls : Array Slot), k_Wd D A s.heap [(a_this, .inr (1, [.ref a_steps, .ref a_numbers, .int size])), (a_steps, .inl (cA 0, n_steps, .inl steps)), (a_numbers, .inl (cA 0, n_numbers, .inl numbers)), (a_p1, .inr (1, [.ref a_p1_steps, .ref a_p1_numbers, .int p1_size])), (a_p1_steps, .inl (cA 0, n_p1_steps, .inl p1_steps)), (a_p1_numbers, .inl (cA 0, n_p1_numbers, .inl p1_numbers))] H locs → lv_has ls 3 [(0, .ref a_this), (1, .ref a_p1), (2, .int x2)] → f_X1_copyFrom_6 fu n_steps n_numbers n_p1_steps n_p1_numbers p1_size p1_steps p1_numbers n6 x2 size steps numbers = some (size', steps', numbers') → W p l e rm_X1_copyFrom s m [.ref a_this, .ref a_p1].toArray below meth c H locs 0 0 (MQ below (k_Q (none) D [(a_this, .inr (1, [.ref a_steps, .ref a_numbers, .int (size')])), (a_steps, .inl (cA 0, n_steps, .inl (steps'))), (a_numbers, .inl (cA 0, n_numbers, .inl (numbers'))), (a_p1, .inr (1, [.ref a_p1_steps, .ref a_p1_numbers, .int p1_size])), (a_p1_steps, .inl (cA 0, n_p1_steps, .inl p1_steps)), (a_p1_numbers, .inl (cA 0, n_p1_numbers, .inl p1_numbers))] A) [.ref a_this, .ref a_p1].toArray s 0 0 A) (F0 m 6 ls []) := by
    intro n6
    induction n6 with
    | zero => intro x2 size steps numbers H locs ls hW hl h; exact k_no h
    | succ n6 ih6 =>
      have J38 : ∀ (x2 : Int32) (size : Int32) (steps : Nat → Int32) (numbers : Nat → Int32) (H : Heap) (locs : List Loc) (ls : Array Slot), k_Wd D A s.heap [(a_this, .inr (1, [.ref a_steps, .ref a_numbers, .int size])), (a_steps, .inl (cA 0, n_steps, .inl steps)), (a_numbers, .inl (cA 0, n_numbers, .inl numbers)), (a_p1, .inr (1, [.ref a_p1_steps, .ref a_p1_numbers, .int p1_size])), (a_p1_steps, .inl (cA 0, n_p1_steps, .inl p1_steps)), (a_p1_numbers, .inl (cA 0, n_p1_numbers, .inl p1_numbers))] H locs → lv_has ls 3 [(0, .ref a_this), (1, .ref a_p1), (2, .int x2)] → f_X1_copyFrom_38 fu n_steps n_numbers n_p1_steps n_p1_numbers p1_size p1_steps p1_numbers (f_X1_copyFrom_6 fu n_steps n_numbers n_p1_steps n_p1_numbers p1_size p1_steps p1_numbers n6) x2 size steps numbers = some (size', steps', numbers') → W p l e rm_X1_copyFrom s m [.ref a_this, .ref a_p1].toArray below meth c H locs 0 0 (MQ below (k_Q (none) D [(a_this, .inr (1, [.ref a_steps, .ref a_numbers, .int (size')])), (a_steps, .inl (cA 0, n_steps, .inl (steps'))), (a_numbers, .inl (cA 0, n_numbers, .inl (numbers'))), (a_p1, .inr (1, [.ref a_p1_steps, .ref a_p1_numbers, .int p1_size])), (a_p1_steps, .inl (cA 0, n_p1_steps, .inl p1_steps)), (a_p1_numbers, .inl (cA 0, n_p1_numbers, .inl p1_numbers))] A) [.ref a_this, .ref a_p1].toArray s 0 0 A) (F0 m 38 ls []) := by
        intro x2 size steps numbers H locs ls hW hl h
        obtain ⟨x_1, ex_1⟩ : ∃ y : Int32, y = x2 + 1 := ⟨_, rfl⟩
        have h := k_letE ex_1 h
        refine lv_iinc (v := x_1) (lv' := [(2, .int x_1), (0, .ref a_this), (1, .ref a_p1)]) hx hb dX1_copyFrom_38 hl (k := 2) rfl (by rw [ex_1]; rfl) (by decide) rfl (fun ls hl => ?_)
        refine lv_goto (tgt := 6) hx hb dX1_copyFrom_41 (by decide) ?_
        exact ih6 x_1 size steps numbers H locs ls hW (lv_sub hl [1, 2, 0] rfl) h
      intro x2 size steps numbers H locs ls hW hl h
      have h := (fs_X1_copyFrom_6 _ _ _ _ _ _ _ _ _ _ _ _ _).symm.trans h
      refine lv_iload_n hx hb dX1_copyFrom_6 rfl (lv_at hl 2 rfl) ?_
      refine lv_aload_n hx hb dX1_copyFrom_7 rfl (lv_at hl 1 rfl) ?_
      refine va_get (D := D) (ci := 1) (v := .int p1_size) (C := RX1) (T := TX1) (N := 3) hx hb hts iX1 hown hB.1 hW.1 3 rfl rfl 2 (by decide) (hts _ q1_98) (fun _ h9 => h9) rfl dX1_copyFrom_8 ?_
      refine lv_icmp_ge (tgt := 44) hx hb dX1_copyFrom_11 (by decide) (fun c_2 => ?_) (fun c_2 => ?_)
      · have h := k_t c_2 h
        obtain ⟨z0, z1, z2⟩ := k_inj3 h
        rw [← z0, ← z1, ← z2]
        exact W.vret hx hb hr (fun t ht hWm => ⟨rfl, by rw [ht]; exact hW.1, hW.2.2.F ht⟩) hW.2.2.2.2 dX1_copyFrom_44
      · have h := k_f c_2 h
        refine lv_aload_n hx hb dX1_copyFrom_14 rfl (lv_at hl 1 rfl) ?_
        refine lv_iload_n hx hb dX1_copyFrom_15 rfl (lv_at hl 2 rfl) ?_
        obtain ⟨r_4, h_3, h⟩ := k_bE1 h
        refine k_callV (C := RX1) (ws' := [(a_this, .inr (1, [.ref a_steps, .ref a_numbers, .int size])), (a_steps, .inl (cA 0, n_steps, .inl steps)), (a_numbers, .inl (cA 0, n_numbers, .inl numbers)), (a_p1, .inr (1, [.ref a_p1_steps, .ref a_p1_numbers, .int p1_size])), (a_p1_steps, .inl (cA 0, n_p1_steps, .inl p1_steps)), (a_p1_numbers, .inl (cA 0, n_p1_numbers, .inl p1_numbers))]) (As := [.int x2]) (rest := []) (b := a_p1) (m_X1_isFilled l D cA H.size a_p1 a_p1_steps a_p1_numbers n_p1_steps n_p1_numbers p1_size p1_steps p1_numbers x2 r_4 h_3) hx hb hml hown hts hB hA hW hl.1 q2_98 q1_5 q2_97 qs_yX1_isFilled q2_95 pd_X1_isFilled ⟨rfl, rfl, Nat.le_of_ble_eq_true rfl, Nat.le_of_ble_eq_true rfl⟩ rfl 3 rfl rfl [3, 4, 5] [0, 1, 2] ⟨rfl, rfl, rfl, trivial⟩ rfl ⟨⟨rfl, rfl, rfl, trivial⟩, ⟨rfl, rfl, rfl, trivial⟩, rfl⟩ rfl rfl (Nat.le_of_ble_eq_true rfl) ⟨Nat.zero_le _, Nat.zero_le _⟩ dX1_copyFrom_16 (st1 := [.int r_4]) rfl (fun H locs hW => ?_)
        refine lv_if_eq (tgt := 38) hx hb dX1_copyFrom_19 (by decide) (fun c_6 => ?_) (fun c_6 => ?_)
        · have h := k_t c_6 h
          exact J38 x2 size steps numbers H locs ls hW (lv_sub hl [0, 1, 2] rfl) h
        · have h := k_f c_6 h
          refine lv_aload_n hx hb dX1_copyFrom_22 rfl (lv_at hl 0 rfl) ?_
          refine lv_aload_n hx hb dX1_copyFrom_23 rfl (lv_at hl 1 rfl) ?_
          refine va_get (D := D) (ci := 1) (v := .ref a_p1_steps) (C := RX1) (T := TX1) (N := 3) hx hb hts iX1 hown hB.1 hW.1 3 rfl rfl 0 (by decide) (hts _ q1_96) (fun _ h9 => h9) rfl dX1_copyFrom_24 ?_
          refine lv_iload_n hx hb dX1_copyFrom_27 rfl (lv_at hl 2 rfl) ?_
          obtain ⟨c_7, h⟩ := k_g h
          refine va_iald hx hb hB.1 hW.1 4 0 rfl rfl c_7 dX1_copyFrom_28 ?_
          refine lv_topi (fun x_8 ex_8 => ?_)
          have h := k_letE ex_8 h
          refine lv_aload_n hx hb dX1_copyFrom_29 rfl (lv_at hl 1 rfl) ?_
          refine va_get (D := D) (ci := 1) (v := .ref a_p1_numbers) (C := RX1) (T := TX1) (N := 3) hx hb hts iX1 hown hB.1 hW.1 3 rfl rfl 1 (by decide) (hts _ q1_97) (fun _ h9 => h9) rfl dX1_copyFrom_30 ?_
          refine lv_iload_n hx hb dX1_copyFrom_33 rfl (lv_at hl 2 rfl) ?_
          obtain ⟨c_9, h⟩ := k_g h
          refine va_iald hx hb hB.1 hW.1 5 0 rfl rfl c_9 dX1_copyFrom_34 ?_
          refine lv_topi (fun x_10 ex_10 => ?_)
          have h := k_letE ex_10 h
          obtain ⟨size__12, steps__13, numbers__14, h_11, h⟩ := k_bE3 h
          refine k_callV (C := RX1) (ws' := [(a_this, .inr (1, [.ref a_steps, .ref a_numbers, .int size__12])), (a_steps, .inl (cA 0, n_steps, .inl steps__13)), (a_numbers, .inl (cA 0, n_numbers, .inl numbers__14)), (a_p1, .inr (1, [.ref a_p1_steps, .ref a_p1_numbers, .int p1_size])), (a_p1_steps, .inl (cA 0, n_p1_steps, .inl p1_steps)), (a_p1_numbers, .inl (cA 0, n_p1_numbers, .inl p1_numbers))]) (As := [.int x_8, .int x_10]) (rest := []) (b := a_this) (m_X1_append l D cA H.size a_this a_steps a_numbers n_steps n_numbers size steps numbers x_8 x_10 size__12 steps__13 numbers__14 h_11) hx hb hml hown hts hB hA hW hl.1 q3_52 q1_5 q3_50 q3_51 q3_49 pd_X1_append ⟨rfl, rfl, Nat.le_of_ble_eq_true rfl, Nat.le_of_ble_eq_true rfl⟩ rfl 0 rfl rfl [0, 1, 2] [3, 4, 5] ⟨rfl, rfl, rfl, trivial⟩ rfl ⟨⟨rfl, rfl, rfl, trivial⟩, ⟨rfl, rfl, rfl, trivial⟩, rfl⟩ rfl rfl (Nat.le_of_ble_eq_true rfl) ⟨Nat.zero_le _, Nat.zero_le _⟩ dX1_copyFrom_35 (st1 := []) rfl (fun H locs hW => ?_)
          exact J38 x2 size__12 steps__13 numbers__14 H locs ls hW (lv_sub hl [0, 1, 2] rfl) h
  refine lv_aload_n hx hb dX1_copyFrom_0 rfl (lv_at hl 0 rfl) ?_
  obtain ⟨size__17, h_16, h⟩ := k_bE1 h
  refine k_callV (C := RX1) (ws' := [(a_this, .inr (1, [.ref a_steps, .ref a_numbers, .int size__17])), (a_steps, .inl (cA 0, n_steps, .inl steps)), (a_numbers, .inl (cA 0, n_numbers, .inl numbers)), (a_p1, .inr (1, [.ref a_p1_steps, .ref a_p1_numbers, .int p1_size])), (a_p1_steps, .inl (cA 0, n_p1_steps, .inl p1_steps)), (a_p1_numbers, .inl (cA 0, n_p1_numbers, .inl p1_numbers))]) (As := []) (rest := []) (b := a_this) (m_X1_clear l D cA H.size a_this a_steps a_numbers size size__17 h_16) hx hb hml hown hts hB hA hW hl.1 q3_31 q1_5 q3_29 q3_30 q3_48 pd_X1_clear ⟨rfl, rfl, Nat.le_of_ble_eq_true rfl, Nat.le_of_ble_eq_true rfl⟩ rfl 0 rfl rfl [0] [1, 2, 3, 4, 5] ⟨rfl, trivial⟩ rfl ⟨⟨rfl, trivial⟩, ⟨rfl, rfl, rfl, rfl, rfl, trivial⟩, rfl⟩ rfl rfl (Nat.le_of_ble_eq_true rfl) ⟨Nat.zero_le _, Nat.zero_le _⟩ dX1_copyFrom_1 (st1 := []) rfl (fun H locs hW => ?_)
  refine lv_iconst (v := 0) hx hb dX1_copyFrom_4 (by decide) ?_
  refine lv_istore_n (lv' := [(2, .int 0), (0, .ref a_this), (1, .ref a_p1)]) hx hb dX1_copyFrom_5 rfl hl (by decide) rfl (fun ls hl => ?_)
  exact J6 fu 0 size__17 steps numbers H locs ls hW (lv_sub hl [1, 2, 0] rfl) h
