noncomputable def f_X2_length (length : Int32) : Option (Int32) := (some (length))
abbrev rm_X2_length : Room := { frames := 0, cells := 0, slots := 0, locals := 0 }
theorem pd_X2_length : k_D1 yX2_length 0 := by decide +kernel
set_option maxHeartbeats 4000000 in
set_option maxRecDepth 100000 in
theorem m_X2_length (l : Launch) (D : va_G) (cA : Nat → ClassId) (sz : Nat) (a_this : Nat) (w_text : Nat) (w_waiting : Nat) (w_draft : Nat) (length : Int32) (position : Int32) (waitingSize : Int32) (openParentheses : Int32) (ret_ : Int32) (h : f_X2_length length = some (ret_)) : k_M l yX2_length prog_4_method_2_code 1 (some .int) rm_X2_length D cA [.ref a_this] [(a_this, .inr (2, [.ref w_text, .int length, .int position, .ref w_waiting, .int waitingSize, .int openParentheses, .ref w_draft]))] sz (some (.int ret_)) [(a_this, .inr (2, [.ref w_text, .int length, .int position, .ref w_waiting, .int waitingSize, .int openParentheses, .ref w_draft]))] := by
  refine k_ofW (by decide) (Nat.le_of_ble_eq_true rfl) ?_
  intro p e s m below meth c A ls hx hb hr hml hts hown hlocks hB hA hW hl
  have hl : lv_has ls 1 [(0, .ref a_this)] := hl
  obtain ⟨H, eH⟩ : ∃ H, H = s.heap := ⟨_, rfl⟩
  obtain ⟨locs, eL⟩ : ∃ L : List Loc, L = [] := ⟨_, rfl⟩
  have hW : k_Wd D A s.heap [(a_this, .inr (2, [.ref w_text, .int length, .int position, .ref w_waiting, .int waitingSize, .int openParentheses, .ref w_draft]))] H locs := by rw [eH, eL]; exact hW
  suffices K : W p l e rm_X2_length s m [.ref a_this].toArray below meth c H locs 0 0 (MQ below (k_Q (some (.int ret_)) D [(a_this, .inr (2, [.ref w_text, .int length, .int position, .ref w_waiting, .int waitingSize, .int openParentheses, .ref w_draft]))] A) [.ref a_this].toArray s 0 0 A) (F0 m 0 ls []) by rw [eH, eL] at K; exact K
  clear eH eL
  refine lv_aload_n hx hb dX2_length_0 rfl (lv_at hl 0 rfl) ?_
  refine va_get (D := D) (ci := 2) (v := .int length) (C := RX2) (T := TX2) (N := 7) hx hb hts iX2 hown hB.1 hW.1 0 rfl rfl 1 (by decide) (hts _ q1_115) (fun _ h9 => h9) rfl dX2_length_1 ?_
  have z0 := k_inj1 h
  rw [← z0]
  exact W.iret hx hb hr (fun t ht hWm => ⟨rfl, by rw [ht]; exact hW.1, hW.2.2.F ht⟩) hW.2.2.2.2 dX2_length_4
noncomputable def f_X2_draft : Option (Unit) := (some ())
abbrev rm_X2_draft : Room := { frames := 0, cells := 0, slots := 0, locals := 0 }
theorem pd_X2_draft : k_D1 yX2_draft 0 := by decide +kernel
set_option maxHeartbeats 4000000 in
set_option maxRecDepth 100000 in
theorem m_X2_draft (l : Launch) (D : va_G) (cA : Nat → ClassId) (sz : Nat) (a_this : Nat) (w_text : Nat) (w_waiting : Nat) (w_draft : Nat) (length : Int32) (position : Int32) (waitingSize : Int32) (openParentheses : Int32) (h : f_X2_draft = some ()) : k_M l yX2_draft prog_4_method_3_code 1 (some (.object "ViewMaintainer$Filter")) rm_X2_draft D cA [.ref a_this] [(a_this, .inr (2, [.ref w_text, .int length, .int position, .ref w_waiting, .int waitingSize, .int openParentheses, .ref w_draft]))] sz (some (.ref w_draft)) [(a_this, .inr (2, [.ref w_text, .int length, .int position, .ref w_waiting, .int waitingSize, .int openParentheses, .ref w_draft]))] := by
  refine k_ofW (by decide) (Nat.le_of_ble_eq_true rfl) ?_
  intro p e s m below meth c A ls hx hb hr hml hts hown hlocks hB hA hW hl
  have hl : lv_has ls 1 [(0, .ref a_this)] := hl
  obtain ⟨H, eH⟩ : ∃ H, H = s.heap := ⟨_, rfl⟩
  obtain ⟨locs, eL⟩ : ∃ L : List Loc, L = [] := ⟨_, rfl⟩
  have hW : k_Wd D A s.heap [(a_this, .inr (2, [.ref w_text, .int length, .int position, .ref w_waiting, .int waitingSize, .int openParentheses, .ref w_draft]))] H locs := by rw [eH, eL]; exact hW
  suffices K : W p l e rm_X2_draft s m [.ref a_this].toArray below meth c H locs 0 0 (MQ below (k_Q (some (.ref w_draft)) D [(a_this, .inr (2, [.ref w_text, .int length, .int position, .ref w_waiting, .int waitingSize, .int openParentheses, .ref w_draft]))] A) [.ref a_this].toArray s 0 0 A) (F0 m 0 ls []) by rw [eH, eL] at K; exact K
  clear eH eL
  refine lv_aload_n hx hb dX2_draft_0 rfl (lv_at hl 0 rfl) ?_
  refine va_get (D := D) (ci := 2) (v := .ref w_draft) (C := RX2) (T := TX2) (N := 7) hx hb hts iX2 hown hB.1 hW.1 0 rfl rfl 6 (by decide) (hts _ q1_120) (fun _ h9 => h9) rfl dX2_draft_1 ?_
  exact W.aret hx hb hr (Or.inl ⟨_, rfl⟩) (Or.inr ⟨_, rfl⟩) (fun t ht hWm => ⟨rfl, by rw [ht]; exact hW.1, hW.2.2.F ht⟩) hW.2.2.2.2 dX2_draft_4
noncomputable def f_X2_append (n_text : Nat) (v1 : Int32) (length : Int32) (text : Nat → Int32) : Option (Int32 × (Nat → Int32)) := (if length < 0 then (some (length, text)) else (if (nI n_text) ≤ length then (some (length, text)) else (if ¬ (length < 0 ∨ n_text ≤ length.toNatClampNeg) then (some ((length + 1), (upd text length.toNatClampNeg (vp_nar .char v1)))) else none)))
abbrev rm_X2_append : Room := { frames := 0, cells := 0, slots := 0, locals := 0 }
theorem pd_X2_append : k_D1 yX2_append 1 := by decide +kernel
set_option maxHeartbeats 4000000 in
set_option maxRecDepth 100000 in
theorem m_X2_append (l : Launch) (D : va_G) (cA : Nat → ClassId) (sz : Nat) (a_this a_text : Nat) (w_waiting : Nat) (w_draft : Nat) (n_text : Nat) (length : Int32) (position : Int32) (waitingSize : Int32) (openParentheses : Int32) (text : Nat → Int32) (v1 : Int32) (length' : Int32) (text' : Nat → Int32) (h : f_X2_append n_text v1 length text = some (length', text')) : k_M l yX2_append prog_4_method_4_code 2 (none : Option Jvm.ClassFile.FieldType) rm_X2_append D cA [.ref a_this, .int v1] [(a_this, .inr (2, [.ref a_text, .int length, .int position, .ref w_waiting, .int waitingSize, .int openParentheses, .ref w_draft])), (a_text, .inl (cA 1, n_text, .inl text))] sz (none) [(a_this, .inr (2, [.ref a_text, .int (length'), .int position, .ref w_waiting, .int waitingSize, .int openParentheses, .ref w_draft])), (a_text, .inl (cA 1, n_text, .inl (text')))] := by
  refine k_ofW (by decide) (Nat.le_of_ble_eq_true rfl) ?_
  intro p e s m below meth c A ls hx hb hr hml hts hown hlocks hB hA hW hl
  have hl : lv_has ls 2 [(0, .ref a_this), (1, .int v1)] := hl
  obtain ⟨H, eH⟩ : ∃ H, H = s.heap := ⟨_, rfl⟩
  obtain ⟨locs, eL⟩ : ∃ L : List Loc, L = [] := ⟨_, rfl⟩
  have hW : k_Wd D A s.heap [(a_this, .inr (2, [.ref a_text, .int length, .int position, .ref w_waiting, .int waitingSize, .int openParentheses, .ref w_draft])), (a_text, .inl (cA 1, n_text, .inl text))] H locs := by rw [eH, eL]; exact hW
  suffices K : W p l e rm_X2_append s m [.ref a_this, .int v1].toArray below meth c H locs 0 0 (MQ below (k_Q (none) D [(a_this, .inr (2, [.ref a_text, .int (length'), .int position, .ref w_waiting, .int waitingSize, .int openParentheses, .ref w_draft])), (a_text, .inl (cA 1, n_text, .inl (text')))] A) [.ref a_this, .int v1].toArray s 0 0 A) (F0 m 0 ls []) by rw [eH, eL] at K; exact K
  clear eH eL
  refine lv_aload_n hx hb dX2_append_0 rfl (lv_at hl 0 rfl) ?_
  refine va_get (D := D) (ci := 2) (v := .int length) (C := RX2) (T := TX2) (N := 7) hx hb hts iX2 hown hB.1 hW.1 0 rfl rfl 1 (by decide) (hts _ q1_115) (fun _ h9 => h9) rfl dX2_append_1 ?_
  refine lv_if_lt (tgt := 39) hx hb dX2_append_4 (by decide) (fun c_1 => ?_) (fun c_1 => ?_)
  · have h := k_t c_1 h
    obtain ⟨z0, z1⟩ := k_inj2 h
    rw [← z0, ← z1]
    exact W.vret hx hb hr (fun t ht hWm => ⟨rfl, by rw [ht]; exact hW.1, hW.2.2.F ht⟩) hW.2.2.2.2 dX2_append_39
  · have h := k_f c_1 h
    refine lv_aload_n hx hb dX2_append_7 rfl (lv_at hl 0 rfl) ?_
    refine va_get (D := D) (ci := 2) (v := .int length) (C := RX2) (T := TX2) (N := 7) hx hb hts iX2 hown hB.1 hW.1 0 rfl rfl 1 (by decide) (hts _ q1_115) (fun _ h9 => h9) rfl dX2_append_8 ?_
    refine lv_aload_n hx hb dX2_append_11 rfl (lv_at hl 0 rfl) ?_
    refine va_get (D := D) (ci := 2) (v := .ref a_text) (C := RX2) (T := TX2) (N := 7) hx hb hts iX2 hown hB.1 hW.1 0 rfl rfl 0 (by decide) (hts _ q1_114) (fun _ h9 => h9) rfl dX2_append_12 ?_
    refine va_alen hx hb hB.1 hW.1 1 1 rfl (v := nI n_text) rfl rfl dX2_append_15 ?_
    refine lv_icmp_ge (tgt := 39) hx hb dX2_append_16 (by decide) (fun c_2 => ?_) (fun c_2 => ?_)
    · have h := k_t c_2 h
      obtain ⟨z0, z1⟩ := k_inj2 h
      rw [← z0, ← z1]
      exact W.vret hx hb hr (fun t ht hWm => ⟨rfl, by rw [ht]; exact hW.1, hW.2.2.F ht⟩) hW.2.2.2.2 dX2_append_39
    · have h := k_f c_2 h
      refine lv_aload_n hx hb dX2_append_19 rfl (lv_at hl 0 rfl) ?_
      refine va_get (D := D) (ci := 2) (v := .ref a_text) (C := RX2) (T := TX2) (N := 7) hx hb hts iX2 hown hB.1 hW.1 0 rfl rfl 0 (by decide) (hts _ q1_114) (fun _ h9 => h9) rfl dX2_append_20 ?_
      refine lv_aload_n hx hb dX2_append_23 rfl (lv_at hl 0 rfl) ?_
      refine va_get (D := D) (ci := 2) (v := .int length) (C := RX2) (T := TX2) (N := 7) hx hb hts iX2 hown hB.1 hW.1 0 rfl rfl 1 (by decide) (hts _ q1_115) (fun _ h9 => h9) rfl dX2_append_24 ?_
      refine lv_iload_n hx hb dX2_append_27 rfl (lv_at hl 1 rfl) ?_
      obtain ⟨c_3, h⟩ := k_g h
      refine va_cast hx hb hB.1 hW.1 hW.2.1 hW.2.2 1 1 rfl rfl c_3 dX2_append_28 (fun H locs hP hD hS => ?_)
      have hW : k_Wd D A s.heap [(a_this, .inr (2, [.ref a_text, .int length, .int position, .ref w_waiting, .int waitingSize, .int openParentheses, .ref w_draft])), (a_text, .inl (cA 1, n_text, .inl (upd text length.toNatClampNeg (vp_nar .char v1))))] H locs := ⟨hP, hD, hS⟩
      refine lv_aload_n hx hb dX2_append_29 rfl (lv_at hl 0 rfl) ?_
      refine lv_dup hx hb dX2_append_30 rfl ?_
      refine va_get (D := D) (ci := 2) (v := .int length) (C := RX2) (T := TX2) (N := 7) hx hb hts iX2 hown hB.1 hW.1 0 rfl rfl 1 (by decide) (hts _ q1_115) (fun _ h9 => h9) rfl dX2_append_31 ?_
      refine lv_iconst (v := 1) hx hb dX2_append_34 (by decide) ?_
      refine lv_iadd hx hb dX2_append_35 ?_
      refine va_put (D := D) (ci := 2) (v := .int (length + 1)) (ty := .int) (C := RX2) (T := TX2) (N := 7) hx hb hts iX2 tyX2 tyX2_ok nmX2 hown hB.1 hW.1 hW.2.1 hW.2.2 0 rfl rfl 1 (by decide) (hts _ q1_115) (fun _ h9 => h9) rfl (tyX2_ok 1 (by decide)) rfl rfl (Nat.le_of_ble_eq_true rfl) dX2_append_36 (fun H locs hP hD hS => ?_)
      have hW : k_Wd D A s.heap [(a_this, .inr (2, [.ref a_text, .int (length + 1), .int position, .ref w_waiting, .int waitingSize, .int openParentheses, .ref w_draft])), (a_text, .inl (cA 1, n_text, .inl (upd text length.toNatClampNeg (vp_nar .char v1))))] H locs := ⟨hP, hD, hS⟩
      obtain ⟨z0, z1⟩ := k_inj2 h
      rw [← z0, ← z1]
      exact W.vret hx hb hr (fun t ht hWm => ⟨rfl, by rw [ht]; exact hW.1, hW.2.2.F ht⟩) hW.2.2.2.2 dX2_append_39
noncomputable def f_X2_clear (length : Int32) : Option (Int32) := (some (0))
abbrev rm_X2_clear : Room := { frames := 0, cells := 0, slots := 0, locals := 0 }
theorem pd_X2_clear : k_D1 yX2_clear 0 := by decide +kernel
set_option maxHeartbeats 4000000 in
set_option maxRecDepth 100000 in
theorem m_X2_clear (l : Launch) (D : va_G) (cA : Nat → ClassId) (sz : Nat) (a_this : Nat) (w_text : Nat) (w_waiting : Nat) (w_draft : Nat) (length : Int32) (position : Int32) (waitingSize : Int32) (openParentheses : Int32) (length' : Int32) (h : f_X2_clear length = some (length')) : k_M l yX2_clear prog_4_method_5_code 1 (none : Option Jvm.ClassFile.FieldType) rm_X2_clear D cA [.ref a_this] [(a_this, .inr (2, [.ref w_text, .int length, .int position, .ref w_waiting, .int waitingSize, .int openParentheses, .ref w_draft]))] sz (none) [(a_this, .inr (2, [.ref w_text, .int (length'), .int position, .ref w_waiting, .int waitingSize, .int openParentheses, .ref w_draft]))] := by
  refine k_ofW (by decide) (Nat.le_of_ble_eq_true rfl) ?_
  intro p e s m below meth c A ls hx hb hr hml hts hown hlocks hB hA hW hl
  have hl : lv_has ls 1 [(0, .ref a_this)] := hl
  obtain ⟨H, eH⟩ : ∃ H, H = s.heap := ⟨_, rfl⟩
  obtain ⟨locs, eL⟩ : ∃ L : List Loc, L = [] := ⟨_, rfl⟩
  have hW : k_Wd D A s.heap [(a_this, .inr (2, [.ref w_text, .int length, .int position, .ref w_waiting, .int waitingSize, .int openParentheses, .ref w_draft]))] H locs := by rw [eH, eL]; exact hW
  suffices K : W p l e rm_X2_clear s m [.ref a_this].toArray below meth c H locs 0 0 (MQ below (k_Q (none) D [(a_this, .inr (2, [.ref w_text, .int (length'), .int position, .ref w_waiting, .int waitingSize, .int openParentheses, .ref w_draft]))] A) [.ref a_this].toArray s 0 0 A) (F0 m 0 ls []) by rw [eH, eL] at K; exact K
  clear eH eL
  refine lv_aload_n hx hb dX2_clear_0 rfl (lv_at hl 0 rfl) ?_
  refine lv_iconst (v := 0) hx hb dX2_clear_1 (by decide) ?_
  refine va_put (D := D) (ci := 2) (v := .int 0) (ty := .int) (C := RX2) (T := TX2) (N := 7) hx hb hts iX2 tyX2 tyX2_ok nmX2 hown hB.1 hW.1 hW.2.1 hW.2.2 0 rfl rfl 1 (by decide) (hts _ q1_115) (fun _ h9 => h9) rfl (tyX2_ok 1 (by decide)) rfl rfl (Nat.le_of_ble_eq_true rfl) dX2_clear_2 (fun H locs hP hD hS => ?_)
  have hW : k_Wd D A s.heap [(a_this, .inr (2, [.ref w_text, .int 0, .int position, .ref w_waiting, .int waitingSize, .int openParentheses, .ref w_draft]))] H locs := ⟨hP, hD, hS⟩
  have z0 := k_inj1 h
  rw [← z0]
  exact W.vret hx hb hr (fun t ht hWm => ⟨rfl, by rw [ht]; exact hW.1, hW.2.2.F ht⟩) hW.2.2.2.2 dX2_clear_5
noncomputable def f_X2_characterAt (n_text : Nat) (length : Int32) (text : Nat → Int32) (v1 : Int32) : Option (Int32) := (if v1 < 0 then (if vp_nar .char (0 : Int32) = (0 : Int32) then some (0) else none) else (if length ≤ v1 then (if vp_nar .char (0 : Int32) = (0 : Int32) then some (0) else none) else (if (nI n_text) ≤ v1 then (if vp_nar .char (0 : Int32) = (0 : Int32) then some (0) else none) else (if ¬ (v1 < 0 ∨ n_text ≤ v1.toNatClampNeg) then k_let (text v1.toNatClampNeg) fun x_8 => (if vp_nar .char x_8 = x_8 then some (x_8) else none) else none))))
abbrev rm_X2_characterAt : Room := { frames := 0, cells := 0, slots := 0, locals := 0 }
theorem pd_X2_characterAt : k_D1 yX2_characterAt 1 := by decide +kernel
set_option maxHeartbeats 4000000 in
set_option maxRecDepth 100000 in
theorem m_X2_characterAt (l : Launch) (D : va_G) (cA : Nat → ClassId) (sz : Nat) (a_this a_text : Nat) (w_waiting : Nat) (w_draft : Nat) (n_text : Nat) (length : Int32) (position : Int32) (waitingSize : Int32) (openParentheses : Int32) (text : Nat → Int32) (v1 : Int32) (ret_ : Int32) (h : f_X2_characterAt n_text length text v1 = some (ret_)) : k_M l yX2_characterAt prog_4_method_14_code 2 (some .char) rm_X2_characterAt D cA [.ref a_this, .int v1] [(a_this, .inr (2, [.ref a_text, .int length, .int position, .ref w_waiting, .int waitingSize, .int openParentheses, .ref w_draft])), (a_text, .inl (cA 1, n_text, .inl text))] sz (some (.int ret_)) [(a_this, .inr (2, [.ref a_text, .int length, .int position, .ref w_waiting, .int waitingSize, .int openParentheses, .ref w_draft])), (a_text, .inl (cA 1, n_text, .inl text))] := by
  refine k_ofW (by decide) (Nat.le_of_ble_eq_true rfl) ?_
  intro p e s m below meth c A ls hx hb hr hml hts hown hlocks hB hA hW hl
  have hl : lv_has ls 2 [(0, .ref a_this), (1, .int v1)] := hl
  obtain ⟨H, eH⟩ : ∃ H, H = s.heap := ⟨_, rfl⟩
  obtain ⟨locs, eL⟩ : ∃ L : List Loc, L = [] := ⟨_, rfl⟩
  have hW : k_Wd D A s.heap [(a_this, .inr (2, [.ref a_text, .int length, .int position, .ref w_waiting, .int waitingSize, .int openParentheses, .ref w_draft])), (a_text, .inl (cA 1, n_text, .inl text))] H locs := by rw [eH, eL]; exact hW
  suffices K : W p l e rm_X2_characterAt s m [.ref a_this, .int v1].toArray below meth c H locs 0 0 (MQ below (k_Q (some (.int ret_)) D [(a_this, .inr (2, [.ref a_text, .int length, .int position, .ref w_waiting, .int waitingSize, .int openParentheses, .ref w_draft])), (a_text, .inl (cA 1, n_text, .inl text))] A) [.ref a_this, .int v1].toArray s 0 0 A) (F0 m 0 ls []) by rw [eH, eL] at K; exact K
  clear eH eL
  refine lv_iload_n hx hb dX2_characterAt_0 rfl (lv_at hl 1 rfl) ?_
  refine lv_if_lt (tgt := 30) hx hb dX2_characterAt_1 (by decide) (fun c_1 => ?_) (fun c_1 => ?_)
  · have h := k_t c_1 h
    refine lv_iconst (v := 0) hx hb dX2_characterAt_30 (by decide) ?_
    obtain ⟨c_2, h⟩ := k_g h
    have z0 := k_inj1 h
    rw [← z0]
    exact W.zret hx hb hr (k_narC c_2) (fun t ht hWm => ⟨rfl, by rw [ht]; exact hW.1, hW.2.2.F ht⟩) hW.2.2.2.2 dX2_characterAt_31
  · have h := k_f c_1 h
    refine lv_iload_n hx hb dX2_characterAt_4 rfl (lv_at hl 1 rfl) ?_
    refine lv_aload_n hx hb dX2_characterAt_5 rfl (lv_at hl 0 rfl) ?_
    refine va_get (D := D) (ci := 2) (v := .int length) (C := RX2) (T := TX2) (N := 7) hx hb hts iX2 hown hB.1 hW.1 0 rfl rfl 1 (by decide) (hts _ q1_115) (fun _ h9 => h9) rfl dX2_characterAt_6 ?_
    refine lv_icmp_ge (tgt := 30) hx hb dX2_characterAt_9 (by decide) (fun c_3 => ?_) (fun c_3 => ?_)
    · have h := k_t c_3 h
      refine lv_iconst (v := 0) hx hb dX2_characterAt_30 (by decide) ?_
      obtain ⟨c_4, h⟩ := k_g h
      have z0 := k_inj1 h
      rw [← z0]
      exact W.zret hx hb hr (k_narC c_4) (fun t ht hWm => ⟨rfl, by rw [ht]; exact hW.1, hW.2.2.F ht⟩) hW.2.2.2.2 dX2_characterAt_31
    · have h := k_f c_3 h
      refine lv_iload_n hx hb dX2_characterAt_12 rfl (lv_at hl 1 rfl) ?_
      refine lv_aload_n hx hb dX2_characterAt_13 rfl (lv_at hl 0 rfl) ?_
      refine va_get (D := D) (ci := 2) (v := .ref a_text) (C := RX2) (T := TX2) (N := 7) hx hb hts iX2 hown hB.1 hW.1 0 rfl rfl 0 (by decide) (hts _ q1_114) (fun _ h9 => h9) rfl dX2_characterAt_14 ?_
      refine va_alen hx hb hB.1 hW.1 1 1 rfl (v := nI n_text) rfl rfl dX2_characterAt_17 ?_
      refine lv_icmp_ge (tgt := 30) hx hb dX2_characterAt_18 (by decide) (fun c_5 => ?_) (fun c_5 => ?_)
      · have h := k_t c_5 h
        refine lv_iconst (v := 0) hx hb dX2_characterAt_30 (by decide) ?_
        obtain ⟨c_6, h⟩ := k_g h
        have z0 := k_inj1 h
        rw [← z0]
        exact W.zret hx hb hr (k_narC c_6) (fun t ht hWm => ⟨rfl, by rw [ht]; exact hW.1, hW.2.2.F ht⟩) hW.2.2.2.2 dX2_characterAt_31
      · have h := k_f c_5 h
        refine lv_aload_n hx hb dX2_characterAt_21 rfl (lv_at hl 0 rfl) ?_
        refine va_get (D := D) (ci := 2) (v := .ref a_text) (C := RX2) (T := TX2) (N := 7) hx hb hts iX2 hown hB.1 hW.1 0 rfl rfl 0 (by decide) (hts _ q1_114) (fun _ h9 => h9) rfl dX2_characterAt_22 ?_
        refine lv_iload_n hx hb dX2_characterAt_25 rfl (lv_at hl 1 rfl) ?_
        obtain ⟨c_7, h⟩ := k_g h
        refine va_cald hx hb hB.1 hW.1 1 1 rfl rfl c_7 dX2_characterAt_26 ?_
        refine lv_topi (fun x_8 ex_8 => ?_)
        have h := k_letE ex_8 h
        refine lv_goto (tgt := 31) hx hb dX2_characterAt_27 (by decide) ?_
        obtain ⟨c_9, h⟩ := k_g h
        have z0 := k_inj1 h
        rw [← z0]
        exact W.zret hx hb hr (k_narC c_9) (fun t ht hWm => ⟨rfl, by rw [ht]; exact hW.1, hW.2.2.F ht⟩) hW.2.2.2.2 dX2_characterAt_31
noncomputable def f_X2_isDigit (v1 : Int32) : Option (Int32) := (if v1 < 48 then (if vp_nar .boolean (0 : Int32) = (0 : Int32) then some (0) else none) else (if (57 : Int32) < v1 then (if vp_nar .boolean (0 : Int32) = (0 : Int32) then some (0) else none) else (if vp_nar .boolean (1 : Int32) = (1 : Int32) then some (1) else none)))
abbrev rm_X2_isDigit : Room := { frames := 0, cells := 0, slots := 0, locals := 0 }
theorem pd_X2_isDigit : k_D1 yX2_isDigit 1 := by decide +kernel
set_option maxHeartbeats 4000000 in
set_option maxRecDepth 100000 in
theorem m_X2_isDigit (l : Launch) (D : va_G) (cA : Nat → ClassId) (sz : Nat) (v1 : Int32) (ret_ : Int32) (h : f_X2_isDigit v1 = some (ret_)) : k_M l yX2_isDigit prog_4_method_15_code 1 (some .boolean) rm_X2_isDigit D cA [.int v1] [] sz (some (.int ret_)) [] := by
  refine k_ofW (by decide) (Nat.le_of_ble_eq_true rfl) ?_
  intro p e s m below meth c A ls hx hb hr hml hts hown hlocks hB hA hW hl
  have hl : lv_has ls 1 [(0, .int v1)] := hl
  obtain ⟨H, eH⟩ : ∃ H, H = s.heap := ⟨_, rfl⟩
  obtain ⟨locs, eL⟩ : ∃ L : List Loc, L = [] := ⟨_, rfl⟩
  have hW : k_Wd D A s.heap [] H locs := by rw [eH, eL]; exact hW
  suffices K : W p l e rm_X2_isDigit s m [.int v1].toArray below meth c H locs 0 0 (MQ below (k_Q (some (.int ret_)) D [] A) [.int v1].toArray s 0 0 A) (F0 m 0 ls []) by rw [eH, eL] at K; exact K
  clear eH eL
  refine lv_iload_n hx hb dX2_isDigit_0 rfl (lv_at hl 0 rfl) ?_
  refine lv_bipush (v := 48) hx hb dX2_isDigit_1 (by decide) ?_
  refine lv_icmp_lt (tgt := 16) hx hb dX2_isDigit_3 (by decide) (fun c_1 => ?_) (fun c_1 => ?_)
  · have h := k_t c_1 h
    refine lv_iconst (v := 0) hx hb dX2_isDigit_16 (by decide) ?_
    obtain ⟨c_2, h⟩ := k_g h
    have z0 := k_inj1 h
    rw [← z0]
    exact W.zret hx hb hr (k_narZ c_2) (fun t ht hWm => ⟨rfl, by rw [ht]; exact hW.1, hW.2.2.F ht⟩) hW.2.2.2.2 dX2_isDigit_17
  · have h := k_f c_1 h
    refine lv_iload_n hx hb dX2_isDigit_6 rfl (lv_at hl 0 rfl) ?_
    refine lv_bipush (v := 57) hx hb dX2_isDigit_7 (by decide) ?_
    refine lv_icmp_gt (tgt := 16) hx hb dX2_isDigit_9 (by decide) (fun c_3 => ?_) (fun c_3 => ?_)
    · have h := k_t c_3 h
      refine lv_iconst (v := 0) hx hb dX2_isDigit_16 (by decide) ?_
      obtain ⟨c_4, h⟩ := k_g h
      have z0 := k_inj1 h
      rw [← z0]
      exact W.zret hx hb hr (k_narZ c_4) (fun t ht hWm => ⟨rfl, by rw [ht]; exact hW.1, hW.2.2.F ht⟩) hW.2.2.2.2 dX2_isDigit_17
    · have h := k_f c_3 h
      refine lv_iconst (v := 1) hx hb dX2_isDigit_12 (by decide) ?_
      refine lv_goto (tgt := 17) hx hb dX2_isDigit_13 (by decide) ?_
      obtain ⟨c_5, h⟩ := k_g h
      have z0 := k_inj1 h
      rw [← z0]
      exact W.zret hx hb hr (k_narZ c_5) (fun t ht hWm => ⟨rfl, by rw [ht]; exact hW.1, hW.2.2.F ht⟩) hW.2.2.2.2 dX2_isDigit_17
noncomputable def f_X2_holdBack_39 (n_waiting : Nat) (v1 : Int32) (position : Int32) (waitingSize : Int32) (waiting : Nat → Int32) : Option (Int32 × Int32 × (Nat → Int32)) := (some ((position + 1), waitingSize, waiting))
noncomputable def f_X2_holdBack (n_waiting : Nat) (v1 : Int32) (position : Int32) (waitingSize : Int32) (waiting : Nat → Int32) : Option (Int32 × Int32 × (Nat → Int32)) := (if waitingSize < 0 then ((f_X2_holdBack_39 n_waiting v1 position waitingSize waiting)) else (if (nI n_waiting) ≤ waitingSize then ((f_X2_holdBack_39 n_waiting v1 position waitingSize waiting)) else (if ¬ (waitingSize < 0 ∨ n_waiting ≤ waitingSize.toNatClampNeg) then ((f_X2_holdBack_39 n_waiting v1 position (waitingSize + 1) (upd waiting waitingSize.toNatClampNeg v1))) else none)))
abbrev rm_X2_holdBack : Room := { frames := 0, cells := 0, slots := 0, locals := 0 }
theorem pd_X2_holdBack : k_D1 yX2_holdBack 1 := by decide +kernel
set_option maxHeartbeats 4000000 in
set_option maxRecDepth 100000 in
theorem m_X2_holdBack (l : Launch) (D : va_G) (cA : Nat → ClassId) (sz : Nat) (a_this a_waiting : Nat) (w_text : Nat) (w_draft : Nat) (n_waiting : Nat) (length : Int32) (position : Int32) (waitingSize : Int32) (openParentheses : Int32) (waiting : Nat → Int32) (v1 : Int32) (position' : Int32) (waitingSize' : Int32) (waiting' : Nat → Int32) (h : f_X2_holdBack n_waiting v1 position waitingSize waiting = some (position', waitingSize', waiting')) : k_M l yX2_holdBack prog_4_method_12_code 2 (none : Option Jvm.ClassFile.FieldType) rm_X2_holdBack D cA [.ref a_this, .int v1] [(a_this, .inr (2, [.ref w_text, .int length, .int position, .ref a_waiting, .int waitingSize, .int openParentheses, .ref w_draft])), (a_waiting, .inl (cA 0, n_waiting, .inl waiting))] sz (none) [(a_this, .inr (2, [.ref w_text, .int length, .int (position'), .ref a_waiting, .int (waitingSize'), .int openParentheses, .ref w_draft])), (a_waiting, .inl (cA 0, n_waiting, .inl (waiting')))] := by
  refine k_ofW (by decide) (Nat.le_of_ble_eq_true rfl) ?_
  intro p e s m below meth c A ls hx hb hr hml hts hown hlocks hB hA hW hl
  have hl : lv_has ls 2 [(0, .ref a_this), (1, .int v1)] := hl
  obtain ⟨H, eH⟩ : ∃ H, H = s.heap := ⟨_, rfl⟩
  obtain ⟨locs, eL⟩ : ∃ L : List Loc, L = [] := ⟨_, rfl⟩
  have hW : k_Wd D A s.heap [(a_this, .inr (2, [.ref w_text, .int length, .int position, .ref a_waiting, .int waitingSize, .int openParentheses, .ref w_draft])), (a_waiting, .inl (cA 0, n_waiting, .inl waiting))] H locs := by rw [eH, eL]; exact hW
  suffices K : W p l e rm_X2_holdBack s m [.ref a_this, .int v1].toArray below meth c H locs 0 0 (MQ below (k_Q (none) D [(a_this, .inr (2, [.ref w_text, .int length, .int (position'), .ref a_waiting, .int (waitingSize'), .int openParentheses, .ref w_draft])), (a_waiting, .inl (cA 0, n_waiting, .inl (waiting')))] A) [.ref a_this, .int v1].toArray s 0 0 A) (F0 m 0 ls []) by rw [eH, eL] at K; exact K
  clear eH eL
  have J39 : ∀ (position : Int32) (waitingSize : Int32) (waiting : Nat → Int32) (H : Heap) (locs : List Loc) (ls : Array Slot), k_Wd D A s.heap [(a_this, .inr (2, [.ref w_text, .int length, .int position, .ref a_waiting, .int waitingSize, .int openParentheses, .ref w_draft])), (a_waiting, .inl (cA 0, n_waiting, .inl waiting))] H locs → lv_has ls 2 [(0, .ref a_this)] → f_X2_holdBack_39 n_waiting v1 position waitingSize waiting = some (position', waitingSize', waiting') → W p l e rm_X2_holdBack s m [.ref a_this, .int v1].toArray below meth c H locs 0 0 (MQ below (k_Q (none) D [(a_this, .inr (2, [.ref w_text, .int length, .int (position'), .ref a_waiting, .int (waitingSize'), .int openParentheses, .ref w_draft])), (a_waiting, .inl (cA 0, n_waiting, .inl (waiting')))] A) [.ref a_this, .int v1].toArray s 0 0 A) (F0 m 39 ls []) := by
    intro position waitingSize waiting H locs ls hW hl h
    refine lv_aload_n hx hb dX2_holdBack_39 rfl (lv_at hl 0 rfl) ?_
    refine lv_dup hx hb dX2_holdBack_40 rfl ?_
    refine va_get (D := D) (ci := 2) (v := .int position) (C := RX2) (T := TX2) (N := 7) hx hb hts iX2 hown hB.1 hW.1 0 rfl rfl 2 (by decide) (hts _ q1_116) (fun _ h9 => h9) rfl dX2_holdBack_41 ?_
    refine lv_iconst (v := 1) hx hb dX2_holdBack_44 (by decide) ?_
    refine lv_iadd hx hb dX2_holdBack_45 ?_
    refine va_put (D := D) (ci := 2) (v := .int (position + 1)) (ty := .int) (C := RX2) (T := TX2) (N := 7) hx hb hts iX2 tyX2 tyX2_ok nmX2 hown hB.1 hW.1 hW.2.1 hW.2.2 0 rfl rfl 2 (by decide) (hts _ q1_116) (fun _ h9 => h9) rfl (tyX2_ok 2 (by decide)) rfl rfl (Nat.le_of_ble_eq_true rfl) dX2_holdBack_46 (fun H locs hP hD hS => ?_)
    have hW : k_Wd D A s.heap [(a_this, .inr (2, [.ref w_text, .int length, .int (position + 1), .ref a_waiting, .int waitingSize, .int openParentheses, .ref w_draft])), (a_waiting, .inl (cA 0, n_waiting, .inl waiting))] H locs := ⟨hP, hD, hS⟩
    obtain ⟨z0, z1, z2⟩ := k_inj3 h
    rw [← z0, ← z1, ← z2]
    exact W.vret hx hb hr (fun t ht hWm => ⟨rfl, by rw [ht]; exact hW.1, hW.2.2.F ht⟩) hW.2.2.2.2 dX2_holdBack_49
  refine lv_aload_n hx hb dX2_holdBack_0 rfl (lv_at hl 0 rfl) ?_
  refine va_get (D := D) (ci := 2) (v := .int waitingSize) (C := RX2) (T := TX2) (N := 7) hx hb hts iX2 hown hB.1 hW.1 0 rfl rfl 4 (by decide) (hts _ q1_118) (fun _ h9 => h9) rfl dX2_holdBack_1 ?_
  refine lv_if_lt (tgt := 39) hx hb dX2_holdBack_4 (by decide) (fun c_1 => ?_) (fun c_1 => ?_)
  · have h := k_t c_1 h
    exact J39 position waitingSize waiting H locs ls hW (lv_sub hl [0] rfl) h
  · have h := k_f c_1 h
    refine lv_aload_n hx hb dX2_holdBack_7 rfl (lv_at hl 0 rfl) ?_
    refine va_get (D := D) (ci := 2) (v := .int waitingSize) (C := RX2) (T := TX2) (N := 7) hx hb hts iX2 hown hB.1 hW.1 0 rfl rfl 4 (by decide) (hts _ q1_118) (fun _ h9 => h9) rfl dX2_holdBack_8 ?_
    refine lv_aload_n hx hb dX2_holdBack_11 rfl (lv_at hl 0 rfl) ?_
    refine va_get (D := D) (ci := 2) (v := .ref a_waiting) (C := RX2) (T := TX2) (N := 7) hx hb hts iX2 hown hB.1 hW.1 0 rfl rfl 3 (by decide) (hts _ q1_117) (fun _ h9 => h9) rfl dX2_holdBack_12 ?_
    refine va_alen hx hb hB.1 hW.1 1 0 rfl (v := nI n_waiting) rfl rfl dX2_holdBack_15 ?_
    refine lv_icmp_ge (tgt := 39) hx hb dX2_holdBack_16 (by decide) (fun c_2 => ?_) (fun c_2 => ?_)
    · have h := k_t c_2 h
      exact J39 position waitingSize waiting H locs ls hW (lv_sub hl [0] rfl) h
    · have h := k_f c_2 h
      refine lv_aload_n hx hb dX2_holdBack_19 rfl (lv_at hl 0 rfl) ?_
      refine va_get (D := D) (ci := 2) (v := .ref a_waiting) (C := RX2) (T := TX2) (N := 7) hx hb hts iX2 hown hB.1 hW.1 0 rfl rfl 3 (by decide) (hts _ q1_117) (fun _ h9 => h9) rfl dX2_holdBack_20 ?_
      refine lv_aload_n hx hb dX2_holdBack_23 rfl (lv_at hl 0 rfl) ?_
      refine va_get (D := D) (ci := 2) (v := .int waitingSize) (C := RX2) (T := TX2) (N := 7) hx hb hts iX2 hown hB.1 hW.1 0 rfl rfl 4 (by decide) (hts _ q1_118) (fun _ h9 => h9) rfl dX2_holdBack_24 ?_
      refine lv_iload_n hx hb dX2_holdBack_27 rfl (lv_at hl 1 rfl) ?_
      obtain ⟨c_3, h⟩ := k_g h
      refine va_iast hx hb hB.1 hW.1 hW.2.1 hW.2.2 1 0 rfl rfl c_3 dX2_holdBack_28 (fun H locs hP hD hS => ?_)
      have hW : k_Wd D A s.heap [(a_this, .inr (2, [.ref w_text, .int length, .int position, .ref a_waiting, .int waitingSize, .int openParentheses, .ref w_draft])), (a_waiting, .inl (cA 0, n_waiting, .inl (upd waiting waitingSize.toNatClampNeg v1)))] H locs := ⟨hP, hD, hS⟩
      refine lv_aload_n hx hb dX2_holdBack_29 rfl (lv_at hl 0 rfl) ?_
      refine lv_dup hx hb dX2_holdBack_30 rfl ?_
      refine va_get (D := D) (ci := 2) (v := .int waitingSize) (C := RX2) (T := TX2) (N := 7) hx hb hts iX2 hown hB.1 hW.1 0 rfl rfl 4 (by decide) (hts _ q1_118) (fun _ h9 => h9) rfl dX2_holdBack_31 ?_
      refine lv_iconst (v := 1) hx hb dX2_holdBack_34 (by decide) ?_
      refine lv_iadd hx hb dX2_holdBack_35 ?_
      refine va_put (D := D) (ci := 2) (v := .int (waitingSize + 1)) (ty := .int) (C := RX2) (T := TX2) (N := 7) hx hb hts iX2 tyX2 tyX2_ok nmX2 hown hB.1 hW.1 hW.2.1 hW.2.2 0 rfl rfl 4 (by decide) (hts _ q1_118) (fun _ h9 => h9) rfl (tyX2_ok 4 (by decide)) rfl rfl (Nat.le_of_ble_eq_true rfl) dX2_holdBack_36 (fun H locs hP hD hS => ?_)
      have hW : k_Wd D A s.heap [(a_this, .inr (2, [.ref w_text, .int length, .int position, .ref a_waiting, .int (waitingSize + 1), .int openParentheses, .ref w_draft])), (a_waiting, .inl (cA 0, n_waiting, .inl (upd waiting waitingSize.toNatClampNeg v1)))] H locs := ⟨hP, hD, hS⟩
      exact J39 position (waitingSize + 1) (upd waiting waitingSize.toNatClampNeg v1) H locs ls hW (lv_sub hl [0] rfl) h
noncomputable def f_X2_moveWaiting_7 (fu : Nat) (n_waiting : Nat) (n_draft_steps : Nat) (n_draft_numbers : Nat) (waiting : Nat → Int32) (v1 : Int32) : Nat → Int32 → Int32 → Int32 → (Nat → Int32) → (Nat → Int32) → Option (Int32 × Int32 × (Nat → Int32) × (Nat → Int32))
  | 0 => fun _ _ _ _ _ => none
  | n + 1 => fun x2 waitingSize draft_size draft_steps draft_numbers => (if x2 < 0 then (some (waitingSize, draft_size, draft_steps, draft_numbers)) else (if (nI n_waiting) ≤ x2 then (some (waitingSize, draft_size, draft_steps, draft_numbers)) else (if ¬ (x2 < 0 ∨ n_waiting ≤ x2.toNatClampNeg) then k_let (waiting x2.toNatClampNeg) fun x_4 => (if v1 ≤ x_4 then (if ¬ (x2 < 0 ∨ n_waiting ≤ x2.toNatClampNeg) then k_let (waiting x2.toNatClampNeg) fun x_7 => (k_b3 (f_X1_append n_draft_steps n_draft_numbers x_7 0 draft_size draft_steps draft_numbers) fun draft_size__9 draft_steps__10 draft_numbers__11 => (k_let (x2 + (-1)) fun x_13 => (f_X2_moveWaiting_7 fu n_waiting n_draft_steps n_draft_numbers waiting v1 n x_13 x2 draft_size__9 draft_steps__10 draft_numbers__11))) else none) else (some (waitingSize, draft_size, draft_steps, draft_numbers))) else none)))
theorem fs_X2_moveWaiting_7 (fu : Nat) (n_waiting : Nat) (n_draft_steps : Nat) (n_draft_numbers : Nat) (waiting : Nat → Int32) (v1 : Int32) (n : Nat) (x2 : Int32) (waitingSize : Int32) (draft_size : Int32) (draft_steps : Nat → Int32) (draft_numbers : Nat → Int32) : f_X2_moveWaiting_7 fu n_waiting n_draft_steps n_draft_numbers waiting v1 (n + 1) x2 waitingSize draft_size draft_steps draft_numbers = (if x2 < 0 then (some (waitingSize, draft_size, draft_steps, draft_numbers)) else (if (nI n_waiting) ≤ x2 then (some (waitingSize, draft_size, draft_steps, draft_numbers)) else (if ¬ (x2 < 0 ∨ n_waiting ≤ x2.toNatClampNeg) then k_let (waiting x2.toNatClampNeg) fun x_4 => (if v1 ≤ x_4 then (if ¬ (x2 < 0 ∨ n_waiting ≤ x2.toNatClampNeg) then k_let (waiting x2.toNatClampNeg) fun x_7 => (k_b3 (f_X1_append n_draft_steps n_draft_numbers x_7 0 draft_size draft_steps draft_numbers) fun draft_size__9 draft_steps__10 draft_numbers__11 => (k_let (x2 + (-1)) fun x_13 => (f_X2_moveWaiting_7 fu n_waiting n_draft_steps n_draft_numbers waiting v1 n x_13 x2 draft_size__9 draft_steps__10 draft_numbers__11))) else none) else (some (waitingSize, draft_size, draft_steps, draft_numbers))) else none))) := rfl
noncomputable def f_X2_moveWaiting (fu : Nat) (n_waiting : Nat) (n_draft_steps : Nat) (n_draft_numbers : Nat) (waiting : Nat → Int32) (v1 : Int32) (waitingSize : Int32) (draft_size : Int32) (draft_steps : Nat → Int32) (draft_numbers : Nat → Int32) : Option (Int32 × Int32 × (Nat → Int32) × (Nat → Int32)) := (k_let (waitingSize - 1) fun x_14 => (f_X2_moveWaiting_7 fu n_waiting n_draft_steps n_draft_numbers waiting v1 fu x_14 waitingSize draft_size draft_steps draft_numbers))
abbrev rm_X2_moveWaiting : Room := { frames := 1, cells := 0, slots := 0, locals := 22 }
theorem pd_X2_moveWaiting : k_D1 yX2_moveWaiting 1 := by decide +kernel
set_option maxHeartbeats 4000000 in
set_option maxRecDepth 100000 in
theorem m_X2_moveWaiting (l : Launch) (D : va_G) (cA : Nat → ClassId) (sz : Nat) (a_this a_waiting a_draft a_draft_steps a_draft_numbers : Nat) (w_text : Nat) (fu : Nat) (n_waiting : Nat) (n_draft_steps : Nat) (n_draft_numbers : Nat) (length : Int32) (position : Int32) (waitingSize : Int32) (openParentheses : Int32) (waiting : Nat → Int32) (draft_size : Int32) (draft_steps : Nat → Int32) (draft_numbers : Nat → Int32) (v1 : Int32) (waitingSize' : Int32) (draft_size' : Int32) (draft_steps' : Nat → Int32) (draft_numbers' : Nat → Int32) (h : f_X2_moveWaiting fu n_waiting n_draft_steps n_draft_numbers waiting v1 waitingSize draft_size draft_steps draft_numbers = some (waitingSize', draft_size', draft_steps', draft_numbers')) : k_M l yX2_moveWaiting prog_4_method_13_code 3 (none : Option Jvm.ClassFile.FieldType) rm_X2_moveWaiting D cA [.ref a_this, .int v1] [(a_this, .inr (2, [.ref w_text, .int length, .int position, .ref a_waiting, .int waitingSize, .int openParentheses, .ref a_draft])), (a_waiting, .inl (cA 0, n_waiting, .inl waiting)), (a_draft, .inr (1, [.ref a_draft_steps, .ref a_draft_numbers, .int draft_size])), (a_draft_steps, .inl (cA 0, n_draft_steps, .inl draft_steps)), (a_draft_numbers, .inl (cA 0, n_draft_numbers, .inl draft_numbers))] sz (none) [(a_this, .inr (2, [.ref w_text, .int length, .int position, .ref a_waiting, .int (waitingSize'), .int openParentheses, .ref a_draft])), (a_waiting, .inl (cA 0, n_waiting, .inl waiting)), (a_draft, .inr (1, [.ref a_draft_steps, .ref a_draft_numbers, .int (draft_size')])), (a_draft_steps, .inl (cA 0, n_draft_steps, .inl (draft_steps'))), (a_draft_numbers, .inl (cA 0, n_draft_numbers, .inl (draft_numbers')))] := by
  refine k_ofW (by decide) (Nat.le_of_ble_eq_true rfl) ?_
  intro p e s m below meth c A ls hx hb hr hml hts hown hlocks hB hA hW hl
  have hl : lv_has ls 3 [(0, .ref a_this), (1, .int v1)] := hl
  obtain ⟨H, eH⟩ : ∃ H, H = s.heap := ⟨_, rfl⟩
  obtain ⟨locs, eL⟩ : ∃ L : List Loc, L = [] := ⟨_, rfl⟩
  have hW : k_Wd D A s.heap [(a_this, .inr (2, [.ref w_text, .int length, .int position, .ref a_waiting, .int waitingSize, .int openParentheses, .ref a_draft])), (a_waiting, .inl (cA 0, n_waiting, .inl waiting)), (a_draft, .inr (1, [.ref a_draft_steps, .ref a_draft_numbers, .int draft_size])), (a_draft_steps, .inl (cA 0, n_draft_steps, .inl draft_steps)), (a_draft_numbers, .inl (cA 0, n_draft_numbers, .inl draft_numbers))] H locs := by rw [eH, eL]; exact hW
  suffices K : W p l e rm_X2_moveWaiting s m [.ref a_this, .int v1].toArray below meth c H locs 0 0 (MQ below (k_Q (none) D [(a_this, .inr (2, [.ref w_text, .int length, .int position, .ref a_waiting, .int (waitingSize'), .int openParentheses, .ref a_draft])), (a_waiting, .inl (cA 0, n_waiting, .inl waiting)), (a_draft, .inr (1, [.ref a_draft_steps, .ref a_draft_numbers, .int (draft_size')])), (a_draft_steps, .inl (cA 0, n_draft_steps, .inl (draft_steps'))), (a_draft_numbers, .inl (cA 0, n_draft_numbers, .inl (draft_numbers')))] A) [.ref a_this, .int v1].toArray s 0 0 A) (F0 m 0 ls []) by rw [eH, eL] at K; exact K
  clear eH eL
  have J7 : ∀ (n7 : Nat) (x2 : Int32) (waitingSize : Int32) (draft_size : Int32) (draft_steps : Nat → Int32) (draft_numbers : Nat → Int32) (H : Heap) (locs : List Loc) (ls : Array Slot), k_Wd D A s.heap [(a_this, .inr (2, [.ref w_text, .int length, .int position, .ref a_waiting, .int waitingSize, .int openParentheses, .ref a_draft])), (a_waiting, .inl (cA 0, n_waiting, .inl waiting)), (a_draft, .inr (1, [.ref a_draft_steps, .ref a_draft_numbers, .int draft_size])), (a_draft_steps, .inl (cA 0, n_draft_steps, .inl draft_steps)), (a_draft_numbers, .inl (cA 0, n_draft_numbers, .inl draft_numbers))] H locs → lv_has ls 3 [(0, .ref a_this), (1, .int v1), (2, .int x2)] → f_X2_moveWaiting_7 fu n_waiting n_draft_steps n_draft_numbers waiting v1 n7 x2 waitingSize draft_size draft_steps draft_numbers = some (waitingSize', draft_size', draft_steps', draft_numbers') → W p l e rm_X2_moveWaiting s m [.ref a_this, .int v1].toArray below meth c H locs 0 0 (MQ below (k_Q (none) D [(a_this, .inr (2, [.ref w_text, .int length, .int position, .ref a_waiting, .int (waitingSize'), .int openParentheses, .ref a_draft])), (a_waiting, .inl (cA 0, n_waiting, .inl waiting)), (a_draft, .inr (1, [.ref a_draft_steps, .ref a_draft_numbers, .int (draft_size')])), (a_draft_steps, .inl (cA 0, n_draft_steps, .inl (draft_steps'))), (a_draft_numbers, .inl (cA 0, n_draft_numbers, .inl (draft_numbers')))] A) [.ref a_this, .int v1].toArray s 0 0 A) (F0 m 7 ls []) := by
    intro n7
    induction n7 with
    | zero => intro x2 waitingSize draft_size draft_steps draft_numbers H locs ls hW hl h; exact k_no h
    | succ n7 ih7 =>
      intro x2 waitingSize draft_size draft_steps draft_numbers H locs ls hW hl h
      have h := (fs_X2_moveWaiting_7 _ _ _ _ _ _ _ _ _ _ _ _).symm.trans h
      refine lv_iload_n hx hb dX2_moveWaiting_7 rfl (lv_at hl 2 rfl) ?_
      refine lv_if_lt (tgt := 56) hx hb dX2_moveWaiting_8 (by decide) (fun c_1 => ?_) (fun c_1 => ?_)
      · have h := k_t c_1 h
        obtain ⟨z0, z1, z2, z3⟩ := k_inj4 h
        rw [← z0, ← z1, ← z2, ← z3]
        exact W.vret hx hb hr (fun t ht hWm => ⟨rfl, by rw [ht]; exact hW.1, hW.2.2.F ht⟩) hW.2.2.2.2 dX2_moveWaiting_56
      · have h := k_f c_1 h
        refine lv_iload_n hx hb dX2_moveWaiting_11 rfl (lv_at hl 2 rfl) ?_
        refine lv_aload_n hx hb dX2_moveWaiting_12 rfl (lv_at hl 0 rfl) ?_
        refine va_get (D := D) (ci := 2) (v := .ref a_waiting) (C := RX2) (T := TX2) (N := 7) hx hb hts iX2 hown hB.1 hW.1 0 rfl rfl 3 (by decide) (hts _ q1_117) (fun _ h9 => h9) rfl dX2_moveWaiting_13 ?_
        refine va_alen hx hb hB.1 hW.1 1 0 rfl (v := nI n_waiting) rfl rfl dX2_moveWaiting_16 ?_
        refine lv_icmp_ge (tgt := 56) hx hb dX2_moveWaiting_17 (by decide) (fun c_2 => ?_) (fun c_2 => ?_)
        · have h := k_t c_2 h
          obtain ⟨z0, z1, z2, z3⟩ := k_inj4 h
          rw [← z0, ← z1, ← z2, ← z3]
          exact W.vret hx hb hr (fun t ht hWm => ⟨rfl, by rw [ht]; exact hW.1, hW.2.2.F ht⟩) hW.2.2.2.2 dX2_moveWaiting_56
        · have h := k_f c_2 h
          refine lv_aload_n hx hb dX2_moveWaiting_20 rfl (lv_at hl 0 rfl) ?_
          refine va_get (D := D) (ci := 2) (v := .ref a_waiting) (C := RX2) (T := TX2) (N := 7) hx hb hts iX2 hown hB.1 hW.1 0 rfl rfl 3 (by decide) (hts _ q1_117) (fun _ h9 => h9) rfl dX2_moveWaiting_21 ?_
          refine lv_iload_n hx hb dX2_moveWaiting_24 rfl (lv_at hl 2 rfl) ?_
          obtain ⟨c_3, h⟩ := k_g h
          refine va_iald hx hb hB.1 hW.1 1 0 rfl rfl c_3 dX2_moveWaiting_25 ?_
          refine lv_topi (fun x_4 ex_4 => ?_)
          have h := k_letE ex_4 h
          refine lv_iload_n hx hb dX2_moveWaiting_26 rfl (lv_at hl 1 rfl) ?_
          refine lv_icmp_ge (tgt := 31) hx hb dX2_moveWaiting_27 (by decide) (fun c_5 => ?_) (fun c_5 => ?_)
          · have h := k_t c_5 h
            refine lv_aload_n hx hb dX2_moveWaiting_31 rfl (lv_at hl 0 rfl) ?_
            refine va_get (D := D) (ci := 2) (v := .ref a_draft) (C := RX2) (T := TX2) (N := 7) hx hb hts iX2 hown hB.1 hW.1 0 rfl rfl 6 (by decide) (hts _ q1_120) (fun _ h9 => h9) rfl dX2_moveWaiting_32 ?_
            refine lv_aload_n hx hb dX2_moveWaiting_35 rfl (lv_at hl 0 rfl) ?_
            refine va_get (D := D) (ci := 2) (v := .ref a_waiting) (C := RX2) (T := TX2) (N := 7) hx hb hts iX2 hown hB.1 hW.1 0 rfl rfl 3 (by decide) (hts _ q1_117) (fun _ h9 => h9) rfl dX2_moveWaiting_36 ?_
            refine lv_iload_n hx hb dX2_moveWaiting_39 rfl (lv_at hl 2 rfl) ?_
            obtain ⟨c_6, h⟩ := k_g h
            refine va_iald hx hb hB.1 hW.1 1 0 rfl rfl c_6 dX2_moveWaiting_40 ?_
            refine lv_topi (fun x_7 ex_7 => ?_)
            have h := k_letE ex_7 h
            refine lv_iconst (v := 0) hx hb dX2_moveWaiting_41 (by decide) ?_
            obtain ⟨draft_size__9, draft_steps__10, draft_numbers__11, h_8, h⟩ := k_bE3 h
            refine k_callV (C := RX1) (ws' := [(a_this, .inr (2, [.ref w_text, .int length, .int position, .ref a_waiting, .int waitingSize, .int openParentheses, .ref a_draft])), (a_waiting, .inl (cA 0, n_waiting, .inl waiting)), (a_draft, .inr (1, [.ref a_draft_steps, .ref a_draft_numbers, .int draft_size__9])), (a_draft_steps, .inl (cA 0, n_draft_steps, .inl draft_steps__10)), (a_draft_numbers, .inl (cA 0, n_draft_numbers, .inl draft_numbers__11))]) (As := [.int x_7, .int 0]) (rest := []) (b := a_draft) (m_X1_append l D cA H.size a_draft a_draft_steps a_draft_numbers n_draft_steps n_draft_numbers draft_size draft_steps draft_numbers x_7 0 draft_size__9 draft_steps__10 draft_numbers__11 h_8) hx hb hml hown hts hB hA hW hl.1 q3_52 q1_5 q3_50 q3_51 q5_78 pd_X1_append ⟨rfl, rfl, Nat.le_of_ble_eq_true rfl, Nat.le_of_ble_eq_true rfl⟩ rfl 2 rfl rfl [2, 3, 4] [0, 1] ⟨rfl, rfl, rfl, trivial⟩ rfl ⟨⟨rfl, rfl, rfl, trivial⟩, ⟨rfl, rfl, trivial⟩, rfl⟩ rfl rfl (Nat.le_of_ble_eq_true rfl) ⟨Nat.zero_le _, Nat.zero_le _⟩ dX2_moveWaiting_42 (st1 := []) rfl (fun H locs hW => ?_)
            refine lv_aload_n hx hb dX2_moveWaiting_45 rfl (lv_at hl 0 rfl) ?_
            refine lv_iload_n hx hb dX2_moveWaiting_46 rfl (lv_at hl 2 rfl) ?_
            refine va_put (D := D) (ci := 2) (v := .int x2) (ty := .int) (C := RX2) (T := TX2) (N := 7) hx hb hts iX2 tyX2 tyX2_ok nmX2 hown hB.1 hW.1 hW.2.1 hW.2.2 0 rfl rfl 4 (by decide) (hts _ q1_118) (fun _ h9 => h9) rfl (tyX2_ok 4 (by decide)) rfl rfl (Nat.le_of_ble_eq_true rfl) dX2_moveWaiting_47 (fun H locs hP hD hS => ?_)
            have hW : k_Wd D A s.heap [(a_this, .inr (2, [.ref w_text, .int length, .int position, .ref a_waiting, .int x2, .int openParentheses, .ref a_draft])), (a_waiting, .inl (cA 0, n_waiting, .inl waiting)), (a_draft, .inr (1, [.ref a_draft_steps, .ref a_draft_numbers, .int draft_size__9])), (a_draft_steps, .inl (cA 0, n_draft_steps, .inl draft_steps__10)), (a_draft_numbers, .inl (cA 0, n_draft_numbers, .inl draft_numbers__11))] H locs := ⟨hP, hD, hS⟩
            obtain ⟨x_13, ex_13⟩ : ∃ y : Int32, y = x2 + (-1) := ⟨_, rfl⟩
            have h := k_letE ex_13 h
            refine lv_iinc (v := x_13) (lv' := [(2, .int x_13), (0, .ref a_this), (1, .int v1)]) hx hb dX2_moveWaiting_50 hl (k := 2) rfl (by rw [ex_13]; rfl) (by decide) rfl (fun ls hl => ?_)
            refine lv_goto (tgt := 7) hx hb dX2_moveWaiting_53 (by decide) ?_
            exact ih7 x_13 x2 draft_size__9 draft_steps__10 draft_numbers__11 H locs ls hW (lv_sub hl [1, 2, 0] rfl) h
          · have h := k_f c_5 h
            obtain ⟨z0, z1, z2, z3⟩ := k_inj4 h
            rw [← z0, ← z1, ← z2, ← z3]
            exact W.vret hx hb hr (fun t ht hWm => ⟨rfl, by rw [ht]; exact hW.1, hW.2.2.F ht⟩) hW.2.2.2.2 dX2_moveWaiting_30
  refine lv_aload_n hx hb dX2_moveWaiting_0 rfl (lv_at hl 0 rfl) ?_
  refine va_get (D := D) (ci := 2) (v := .int waitingSize) (C := RX2) (T := TX2) (N := 7) hx hb hts iX2 hown hB.1 hW.1 0 rfl rfl 4 (by decide) (hts _ q1_118) (fun _ h9 => h9) rfl dX2_moveWaiting_1 ?_
  refine lv_iconst (v := 1) hx hb dX2_moveWaiting_4 (by decide) ?_
  refine lv_isub hx hb dX2_moveWaiting_5 ?_
  refine lv_topi (fun x_14 ex_14 => ?_)
  have h := k_letE ex_14 h
  refine lv_istore_n (lv' := [(2, .int x_14), (0, .ref a_this), (1, .int v1)]) hx hb dX2_moveWaiting_6 rfl hl (by decide) rfl (fun ls hl => ?_)
  exact J7 fu x_14 waitingSize draft_size draft_steps draft_numbers H locs ls hW (lv_sub hl [1, 2, 0] rfl) h
noncomputable def f_X2_readDigits_4 (fu : Nat) (n_text : Nat) (length : Int32) (text : Nat → Int32) : Nat → Int32 → Int32 → Int32 → Option (Int32 × Int32)
  | 0 => fun _ _ _ => none
  | n + 1 => fun x1 x2 position => (if (3 : Int32) ≤ x2 then (some (x1, position)) else (k_b1 (f_X2_characterAt n_text length text position) fun r_3 => (k_b1 (f_X2_isDigit r_3) fun r_6 => (if r_6 = 0 then (some (x1, position)) else (k_b1 (f_X2_characterAt n_text length text position) fun r_10 => (k_let ((x1 * 10) + (r_10 - 48)) fun x_12 => k_let (x2 + 1) fun x_13 => (f_X2_readDigits_4 fu n_text length text n x_12 x_13 (position + 1))))))))
theorem fs_X2_readDigits_4 (fu : Nat) (n_text : Nat) (length : Int32) (text : Nat → Int32) (n : Nat) (x1 : Int32) (x2 : Int32) (position : Int32) : f_X2_readDigits_4 fu n_text length text (n + 1) x1 x2 position = (if (3 : Int32) ≤ x2 then (some (x1, position)) else (k_b1 (f_X2_characterAt n_text length text position) fun r_3 => (k_b1 (f_X2_isDigit r_3) fun r_6 => (if r_6 = 0 then (some (x1, position)) else (k_b1 (f_X2_characterAt n_text length text position) fun r_10 => (k_let ((x1 * 10) + (r_10 - 48)) fun x_12 => k_let (x2 + 1) fun x_13 => (f_X2_readDigits_4 fu n_text length text n x_12 x_13 (position + 1)))))))) := rfl
noncomputable def f_X2_readDigits (fu : Nat) (n_text : Nat) (length : Int32) (text : Nat → Int32) (position : Int32) : Option (Int32 × Int32) := ((f_X2_readDigits_4 fu n_text length text fu 0 0 position))
abbrev rm_X2_readDigits : Room := { frames := 1, cells := 0, slots := 0, locals := 21 }
theorem pd_X2_readDigits : k_D1 yX2_readDigits 0 := by decide +kernel
set_option maxHeartbeats 4000000 in
set_option maxRecDepth 100000 in
theorem m_X2_readDigits (l : Launch) (D : va_G) (cA : Nat → ClassId) (sz : Nat) (a_this a_text : Nat) (w_waiting : Nat) (w_draft : Nat) (fu : Nat) (n_text : Nat) (length : Int32) (position : Int32) (waitingSize : Int32) (openParentheses : Int32) (text : Nat → Int32) (ret_ : Int32) (position' : Int32) (h : f_X2_readDigits fu n_text length text position = some (ret_, position')) : k_M l yX2_readDigits prog_4_method_11_code 3 (some .int) rm_X2_readDigits D cA [.ref a_this] [(a_this, .inr (2, [.ref a_text, .int length, .int position, .ref w_waiting, .int waitingSize, .int openParentheses, .ref w_draft])), (a_text, .inl (cA 1, n_text, .inl text))] sz (some (.int ret_)) [(a_this, .inr (2, [.ref a_text, .int length, .int (position'), .ref w_waiting, .int waitingSize, .int openParentheses, .ref w_draft])), (a_text, .inl (cA 1, n_text, .inl text))] := by
  refine k_ofW (by decide) (Nat.le_of_ble_eq_true rfl) ?_
  intro p e s m below meth c A ls hx hb hr hml hts hown hlocks hB hA hW hl
  have hl : lv_has ls 3 [(0, .ref a_this)] := hl
  obtain ⟨H, eH⟩ : ∃ H, H = s.heap := ⟨_, rfl⟩
  obtain ⟨locs, eL⟩ : ∃ L : List Loc, L = [] := ⟨_, rfl⟩
  have hW : k_Wd D A s.heap [(a_this, .inr (2, [.ref a_text, .int length, .int position, .ref w_waiting, .int waitingSize, .int openParentheses, .ref w_draft])), (a_text, .inl (cA 1, n_text, .inl text))] H locs := by rw [eH, eL]; exact hW
  suffices K : W p l e rm_X2_readDigits s m [.ref a_this].toArray below meth c H locs 0 0 (MQ below (k_Q (some (.int ret_)) D [(a_this, .inr (2, [.ref a_text, .int length, .int (position'), .ref w_waiting, .int waitingSize, .int openParentheses, .ref w_draft])), (a_text, .inl (cA 1, n_text, .inl text))] A) [.ref a_this].toArray s 0 0 A) (F0 m 0 ls []) by rw [eH, eL] at K; exact K
  clear eH eL
  have J4 : ∀ (n4 : Nat) (x1 : Int32) (x2 : Int32) (position : Int32) (H : Heap) (locs : List Loc) (ls : Array Slot), k_Wd D A s.heap [(a_this, .inr (2, [.ref a_text, .int length, .int position, .ref w_waiting, .int waitingSize, .int openParentheses, .ref w_draft])), (a_text, .inl (cA 1, n_text, .inl text))] H locs → lv_has ls 3 [(0, .ref a_this), (1, .int x1), (2, .int x2)] → f_X2_readDigits_4 fu n_text length text n4 x1 x2 position = some (ret_, position') → W p l e rm_X2_readDigits s m [.ref a_this].toArray below meth c H locs 0 0 (MQ below (k_Q (some (.int ret_)) D [(a_this, .inr (2, [.ref a_text, .int length, .int (position'), .ref w_waiting, .int waitingSize, .int openParentheses, .ref w_draft])), (a_text, .inl (cA 1, n_text, .inl text))] A) [.ref a_this].toArray s 0 0 A) (F0 m 4 ls []) := by
    intro n4
    induction n4 with
    | zero => intro x1 x2 position H locs ls hW hl h; exact k_no h
    | succ n4 ih4 =>
      intro x1 x2 position H locs ls hW hl h
      have h := (fs_X2_readDigits_4 _ _ _ _ _ _ _ _).symm.trans h
      refine lv_iload_n hx hb dX2_readDigits_4 rfl (lv_at hl 2 rfl) ?_
      refine lv_iconst (v := 3) hx hb dX2_readDigits_5 (by decide) ?_
      refine lv_icmp_ge (tgt := 56) hx hb dX2_readDigits_6 (by decide) (fun c_1 => ?_) (fun c_1 => ?_)
      · have h := k_t c_1 h
        refine lv_iload_n hx hb dX2_readDigits_56 rfl (lv_at hl 1 rfl) ?_
        obtain ⟨z0, z1⟩ := k_inj2 h
        rw [← z0, ← z1]
        exact W.iret hx hb hr (fun t ht hWm => ⟨rfl, by rw [ht]; exact hW.1, hW.2.2.F ht⟩) hW.2.2.2.2 dX2_readDigits_57
      · have h := k_f c_1 h
        refine lv_aload_n hx hb dX2_readDigits_9 rfl (lv_at hl 0 rfl) ?_
        refine lv_aload_n hx hb dX2_readDigits_10 rfl (lv_at hl 0 rfl) ?_
        refine va_get (D := D) (ci := 2) (v := .int position) (C := RX2) (T := TX2) (N := 7) hx hb hts iX2 hown hB.1 hW.1 0 rfl rfl 2 (by decide) (hts _ q1_116) (fun _ h9 => h9) rfl dX2_readDigits_11 ?_
        obtain ⟨r_3, h_2, h⟩ := k_bE1 h
        refine k_callV (C := RX2) (ws' := [(a_this, .inr (2, [.ref a_text, .int length, .int position, .ref w_waiting, .int waitingSize, .int openParentheses, .ref w_draft])), (a_text, .inl (cA 1, n_text, .inl text))]) (As := [.int position]) (rest := []) (b := a_this) (m_X2_characterAt l D cA H.size a_this a_text w_waiting w_draft n_text length position waitingSize openParentheses text position r_3 h_2) hx hb hml hown hts hB hA hW hl.1 q4_213 q1_6 q4_212 qs_yX2_characterAt q4_210 pd_X2_characterAt ⟨rfl, rfl, Nat.le_of_ble_eq_true rfl, Nat.le_of_ble_eq_true rfl⟩ rfl 0 rfl rfl [0, 1] [] ⟨rfl, rfl, trivial⟩ rfl ⟨⟨rfl, rfl, trivial⟩, trivial, rfl⟩ rfl rfl (Nat.le_of_ble_eq_true rfl) ⟨Nat.zero_le _, Nat.zero_le _⟩ dX2_readDigits_14 (st1 := [.int r_3]) rfl (fun H locs hW => ?_)
        obtain ⟨r_6, h_5, h⟩ := k_bE1 h
        refine k_callS (ws' := [(a_this, .inr (2, [.ref a_text, .int length, .int position, .ref w_waiting, .int waitingSize, .int openParentheses, .ref w_draft])), (a_text, .inl (cA 1, n_text, .inl text))]) (As := [.int r_3]) (rest := []) (m_X2_isDigit l D cA H.size r_3 r_6 h_5) hx hb hml hown hts hB hA hW hl.1 q5_70 q1_6 q5_69 q5_68 pd_X2_isDigit ⟨rfl, rfl, Nat.le_of_ble_eq_true rfl, Nat.le_of_ble_eq_true rfl⟩ rfl [] [0, 1] trivial rfl ⟨trivial, ⟨rfl, rfl, trivial⟩, rfl⟩ rfl rfl (Nat.le_of_ble_eq_true rfl) ⟨Nat.zero_le _, Nat.zero_le _⟩ dX2_readDigits_17 (st1 := [.int r_6]) rfl (fun H locs hW => ?_)
        refine lv_if_eq (tgt := 56) hx hb dX2_readDigits_20 (by decide) (fun c_8 => ?_) (fun c_8 => ?_)
        · have h := k_t c_8 h
          refine lv_iload_n hx hb dX2_readDigits_56 rfl (lv_at hl 1 rfl) ?_
          obtain ⟨z0, z1⟩ := k_inj2 h
          rw [← z0, ← z1]
          exact W.iret hx hb hr (fun t ht hWm => ⟨rfl, by rw [ht]; exact hW.1, hW.2.2.F ht⟩) hW.2.2.2.2 dX2_readDigits_57
        · have h := k_f c_8 h
          refine lv_iload_n hx hb dX2_readDigits_23 rfl (lv_at hl 1 rfl) ?_
          refine lv_bipush (v := 10) hx hb dX2_readDigits_24 (by decide) ?_
          refine lv_imul hx hb dX2_readDigits_26 ?_
          refine lv_aload_n hx hb dX2_readDigits_27 rfl (lv_at hl 0 rfl) ?_
          refine lv_aload_n hx hb dX2_readDigits_28 rfl (lv_at hl 0 rfl) ?_
          refine va_get (D := D) (ci := 2) (v := .int position) (C := RX2) (T := TX2) (N := 7) hx hb hts iX2 hown hB.1 hW.1 0 rfl rfl 2 (by decide) (hts _ q1_116) (fun _ h9 => h9) rfl dX2_readDigits_29 ?_
          obtain ⟨r_10, h_9, h⟩ := k_bE1 h
          refine k_callV (C := RX2) (ws' := [(a_this, .inr (2, [.ref a_text, .int length, .int position, .ref w_waiting, .int waitingSize, .int openParentheses, .ref w_draft])), (a_text, .inl (cA 1, n_text, .inl text))]) (As := [.int position]) (rest := [.int (x1 * 10)]) (b := a_this) (m_X2_characterAt l D cA H.size a_this a_text w_waiting w_draft n_text length position waitingSize openParentheses text position r_10 h_9) hx hb hml hown hts hB hA hW hl.1 q4_213 q1_6 q4_212 qs_yX2_characterAt q4_210 pd_X2_characterAt ⟨rfl, rfl, Nat.le_of_ble_eq_true rfl, Nat.le_of_ble_eq_true rfl⟩ rfl 0 rfl rfl [0, 1] [] ⟨rfl, rfl, trivial⟩ rfl ⟨⟨rfl, rfl, trivial⟩, trivial, rfl⟩ rfl rfl (Nat.le_of_ble_eq_true rfl) ⟨Nat.zero_le _, Nat.zero_le _⟩ dX2_readDigits_32 (st1 := [.int r_10, .int (x1 * 10)]) rfl (fun H locs hW => ?_)
          refine lv_bipush (v := 48) hx hb dX2_readDigits_35 (by decide) ?_
          refine lv_isub hx hb dX2_readDigits_37 ?_
          refine lv_iadd hx hb dX2_readDigits_38 ?_
          refine lv_topi (fun x_12 ex_12 => ?_)
          have h := k_letE ex_12 h
          refine lv_istore_n (lv' := [(1, .int x_12), (0, .ref a_this), (2, .int x2)]) hx hb dX2_readDigits_39 rfl hl (by decide) rfl (fun ls hl => ?_)
          refine lv_aload_n hx hb dX2_readDigits_40 rfl (lv_at hl 1 rfl) ?_
          refine lv_dup hx hb dX2_readDigits_41 rfl ?_
          refine va_get (D := D) (ci := 2) (v := .int position) (C := RX2) (T := TX2) (N := 7) hx hb hts iX2 hown hB.1 hW.1 0 rfl rfl 2 (by decide) (hts _ q1_116) (fun _ h9 => h9) rfl dX2_readDigits_42 ?_
          refine lv_iconst (v := 1) hx hb dX2_readDigits_45 (by decide) ?_
          refine lv_iadd hx hb dX2_readDigits_46 ?_
          refine va_put (D := D) (ci := 2) (v := .int (position + 1)) (ty := .int) (C := RX2) (T := TX2) (N := 7) hx hb hts iX2 tyX2 tyX2_ok nmX2 hown hB.1 hW.1 hW.2.1 hW.2.2 0 rfl rfl 2 (by decide) (hts _ q1_116) (fun _ h9 => h9) rfl (tyX2_ok 2 (by decide)) rfl rfl (Nat.le_of_ble_eq_true rfl) dX2_readDigits_47 (fun H locs hP hD hS => ?_)
          have hW : k_Wd D A s.heap [(a_this, .inr (2, [.ref a_text, .int length, .int (position + 1), .ref w_waiting, .int waitingSize, .int openParentheses, .ref w_draft])), (a_text, .inl (cA 1, n_text, .inl text))] H locs := ⟨hP, hD, hS⟩
          obtain ⟨x_13, ex_13⟩ : ∃ y : Int32, y = x2 + 1 := ⟨_, rfl⟩
          have h := k_letE ex_13 h
          refine lv_iinc (v := x_13) (lv' := [(2, .int x_13), (1, .int x_12), (0, .ref a_this)]) hx hb dX2_readDigits_50 hl (k := 2) rfl (by rw [ex_13]; rfl) (by decide) rfl (fun ls hl => ?_)
          refine lv_goto (tgt := 4) hx hb dX2_readDigits_53 (by decide) ?_
          exact ih4 x_12 x_13 (position + 1) H locs ls hW (lv_sub hl [2, 1, 0] rfl) h
  refine lv_iconst (v := 0) hx hb dX2_readDigits_0 (by decide) ?_
  refine lv_istore_n (lv' := [(1, .int 0), (0, .ref a_this)]) hx hb dX2_readDigits_1 rfl hl (by decide) rfl (fun ls hl => ?_)
  refine lv_iconst (v := 0) hx hb dX2_readDigits_2 (by decide) ?_
  refine lv_istore_n (lv' := [(2, .int 0), (1, .int 0), (0, .ref a_this)]) hx hb dX2_readDigits_3 rfl hl (by decide) rfl (fun ls hl => ?_)
  exact J4 fu 0 0 position H locs ls hW (lv_sub hl [2, 1, 0] rfl) h
noncomputable def f_X2_readClosing (fu : Nat) (n_waiting : Nat) (n_draft_steps : Nat) (n_draft_numbers : Nat) (waiting : Nat → Int32) (position : Int32) (waitingSize : Int32) (openParentheses : Int32) (draft_size : Int32) (draft_steps : Nat → Int32) (draft_numbers : Nat → Int32) : Option (Int32 × Int32 × Int32 × Int32 × Int32 × (Nat → Int32) × (Nat → Int32)) := (k_b4 (f_X2_moveWaiting fu n_waiting n_draft_steps n_draft_numbers waiting 1 waitingSize draft_size draft_steps draft_numbers) fun waitingSize__2 draft_size__3 draft_steps__4 draft_numbers__5 => (some (1, (position + 1), (waitingSize__2 - 1), (openParentheses - 1), draft_size__3, draft_steps__4, draft_numbers__5)))
abbrev rm_X2_readClosing : Room := { frames := 2, cells := 0, slots := 0, locals := 44 }
theorem pd_X2_readClosing : k_D1 yX2_readClosing 0 := by decide +kernel
set_option maxHeartbeats 4000000 in
set_option maxRecDepth 100000 in
theorem m_X2_readClosing (l : Launch) (D : va_G) (cA : Nat → ClassId) (sz : Nat) (a_this a_waiting a_draft a_draft_steps a_draft_numbers : Nat) (w_text : Nat) (fu : Nat) (n_waiting : Nat) (n_draft_steps : Nat) (n_draft_numbers : Nat) (length : Int32) (position : Int32) (waitingSize : Int32) (openParentheses : Int32) (waiting : Nat → Int32) (draft_size : Int32) (draft_steps : Nat → Int32) (draft_numbers : Nat → Int32) (ret_ : Int32) (position' : Int32) (waitingSize' : Int32) (openParentheses' : Int32) (draft_size' : Int32) (draft_steps' : Nat → Int32) (draft_numbers' : Nat → Int32) (h : f_X2_readClosing fu n_waiting n_draft_steps n_draft_numbers waiting position waitingSize openParentheses draft_size draft_steps draft_numbers = some (ret_, position', waitingSize', openParentheses', draft_size', draft_steps', draft_numbers')) : k_M l yX2_readClosing prog_4_method_9_code 1 (some .int) rm_X2_readClosing D cA [.ref a_this] [(a_this, .inr (2, [.ref w_text, .int length, .int position, .ref a_waiting, .int waitingSize, .int openParentheses, .ref a_draft])), (a_waiting, .inl (cA 0, n_waiting, .inl waiting)), (a_draft, .inr (1, [.ref a_draft_steps, .ref a_draft_numbers, .int draft_size])), (a_draft_steps, .inl (cA 0, n_draft_steps, .inl draft_steps)), (a_draft_numbers, .inl (cA 0, n_draft_numbers, .inl draft_numbers))] sz (some (.int ret_)) [(a_this, .inr (2, [.ref w_text, .int length, .int (position'), .ref a_waiting, .int (waitingSize'), .int (openParentheses'), .ref a_draft])), (a_waiting, .inl (cA 0, n_waiting, .inl waiting)), (a_draft, .inr (1, [.ref a_draft_steps, .ref a_draft_numbers, .int (draft_size')])), (a_draft_steps, .inl (cA 0, n_draft_steps, .inl (draft_steps'))), (a_draft_numbers, .inl (cA 0, n_draft_numbers, .inl (draft_numbers')))] := by
  refine k_ofW (by decide) (Nat.le_of_ble_eq_true rfl) ?_
  intro p e s m below meth c A ls hx hb hr hml hts hown hlocks hB hA hW hl
  have hl : lv_has ls 1 [(0, .ref a_this)] := hl
  obtain ⟨H, eH⟩ : ∃ H, H = s.heap := ⟨_, rfl⟩
  obtain ⟨locs, eL⟩ : ∃ L : List Loc, L = [] := ⟨_, rfl⟩
  have hW : k_Wd D A s.heap [(a_this, .inr (2, [.ref w_text, .int length, .int position, .ref a_waiting, .int waitingSize, .int openParentheses, .ref a_draft])), (a_waiting, .inl (cA 0, n_waiting, .inl waiting)), (a_draft, .inr (1, [.ref a_draft_steps, .ref a_draft_numbers, .int draft_size])), (a_draft_steps, .inl (cA 0, n_draft_steps, .inl draft_steps)), (a_draft_numbers, .inl (cA 0, n_draft_numbers, .inl draft_numbers))] H locs := by rw [eH, eL]; exact hW
  suffices K : W p l e rm_X2_readClosing s m [.ref a_this].toArray below meth c H locs 0 0 (MQ below (k_Q (some (.int ret_)) D [(a_this, .inr (2, [.ref w_text, .int length, .int (position'), .ref a_waiting, .int (waitingSize'), .int (openParentheses'), .ref a_draft])), (a_waiting, .inl (cA 0, n_waiting, .inl waiting)), (a_draft, .inr (1, [.ref a_draft_steps, .ref a_draft_numbers, .int (draft_size')])), (a_draft_steps, .inl (cA 0, n_draft_steps, .inl (draft_steps'))), (a_draft_numbers, .inl (cA 0, n_draft_numbers, .inl (draft_numbers')))] A) [.ref a_this].toArray s 0 0 A) (F0 m 0 ls []) by rw [eH, eL] at K; exact K
  clear eH eL
  refine lv_aload_n hx hb dX2_readClosing_0 rfl (lv_at hl 0 rfl) ?_
  refine lv_iconst (v := 1) hx hb dX2_readClosing_1 (by decide) ?_
  obtain ⟨waitingSize__2, draft_size__3, draft_steps__4, draft_numbers__5, h_1, h⟩ := k_bE4 h
  refine k_callV (C := RX2) (ws' := [(a_this, .inr (2, [.ref w_text, .int length, .int position, .ref a_waiting, .int waitingSize__2, .int openParentheses, .ref a_draft])), (a_waiting, .inl (cA 0, n_waiting, .inl waiting)), (a_draft, .inr (1, [.ref a_draft_steps, .ref a_draft_numbers, .int draft_size__3])), (a_draft_steps, .inl (cA 0, n_draft_steps, .inl draft_steps__4)), (a_draft_numbers, .inl (cA 0, n_draft_numbers, .inl draft_numbers__5))]) (As := [.int 1]) (rest := []) (b := a_this) (m_X2_moveWaiting l D cA H.size a_this a_waiting a_draft a_draft_steps a_draft_numbers w_text fu n_waiting n_draft_steps n_draft_numbers length position waitingSize openParentheses waiting draft_size draft_steps draft_numbers 1 waitingSize__2 draft_size__3 draft_steps__4 draft_numbers__5 h_1) hx hb hml hown hts hB hA hW hl.1 q5_86 q1_6 q5_85 qs_yX2_moveWaiting q5_83 pd_X2_moveWaiting ⟨rfl, rfl, Nat.le_of_ble_eq_true rfl, Nat.le_of_ble_eq_true rfl⟩ rfl 0 rfl rfl [0, 1, 2, 3, 4] [] ⟨rfl, rfl, rfl, rfl, rfl, trivial⟩ rfl ⟨⟨rfl, rfl, rfl, rfl, rfl, trivial⟩, trivial, rfl⟩ rfl rfl (Nat.le_of_ble_eq_true rfl) ⟨Nat.zero_le _, Nat.zero_le _⟩ dX2_readClosing_2 (st1 := []) rfl (fun H locs hW => ?_)
  refine lv_aload_n hx hb dX2_readClosing_5 rfl (lv_at hl 0 rfl) ?_
  refine lv_dup hx hb dX2_readClosing_6 rfl ?_
  refine va_get (D := D) (ci := 2) (v := .int waitingSize__2) (C := RX2) (T := TX2) (N := 7) hx hb hts iX2 hown hB.1 hW.1 0 rfl rfl 4 (by decide) (hts _ q1_118) (fun _ h9 => h9) rfl dX2_readClosing_7 ?_
  refine lv_iconst (v := 1) hx hb dX2_readClosing_10 (by decide) ?_
  refine lv_isub hx hb dX2_readClosing_11 ?_
  refine va_put (D := D) (ci := 2) (v := .int (waitingSize__2 - 1)) (ty := .int) (C := RX2) (T := TX2) (N := 7) hx hb hts iX2 tyX2 tyX2_ok nmX2 hown hB.1 hW.1 hW.2.1 hW.2.2 0 rfl rfl 4 (by decide) (hts _ q1_118) (fun _ h9 => h9) rfl (tyX2_ok 4 (by decide)) rfl rfl (Nat.le_of_ble_eq_true rfl) dX2_readClosing_12 (fun H locs hP hD hS => ?_)
  have hW : k_Wd D A s.heap [(a_this, .inr (2, [.ref w_text, .int length, .int position, .ref a_waiting, .int (waitingSize__2 - 1), .int openParentheses, .ref a_draft])), (a_waiting, .inl (cA 0, n_waiting, .inl waiting)), (a_draft, .inr (1, [.ref a_draft_steps, .ref a_draft_numbers, .int draft_size__3])), (a_draft_steps, .inl (cA 0, n_draft_steps, .inl draft_steps__4)), (a_draft_numbers, .inl (cA 0, n_draft_numbers, .inl draft_numbers__5))] H locs := ⟨hP, hD, hS⟩
  refine lv_aload_n hx hb dX2_readClosing_15 rfl (lv_at hl 0 rfl) ?_
  refine lv_dup hx hb dX2_readClosing_16 rfl ?_
  refine va_get (D := D) (ci := 2) (v := .int openParentheses) (C := RX2) (T := TX2) (N := 7) hx hb hts iX2 hown hB.1 hW.1 0 rfl rfl 5 (by decide) (hts _ q1_119) (fun _ h9 => h9) rfl dX2_readClosing_17 ?_
  refine lv_iconst (v := 1) hx hb dX2_readClosing_20 (by decide) ?_
  refine lv_isub hx hb dX2_readClosing_21 ?_
  refine va_put (D := D) (ci := 2) (v := .int (openParentheses - 1)) (ty := .int) (C := RX2) (T := TX2) (N := 7) hx hb hts iX2 tyX2 tyX2_ok nmX2 hown hB.1 hW.1 hW.2.1 hW.2.2 0 rfl rfl 5 (by decide) (hts _ q1_119) (fun _ h9 => h9) rfl (tyX2_ok 5 (by decide)) rfl rfl (Nat.le_of_ble_eq_true rfl) dX2_readClosing_22 (fun H locs hP hD hS => ?_)
  have hW : k_Wd D A s.heap [(a_this, .inr (2, [.ref w_text, .int length, .int position, .ref a_waiting, .int (waitingSize__2 - 1), .int (openParentheses - 1), .ref a_draft])), (a_waiting, .inl (cA 0, n_waiting, .inl waiting)), (a_draft, .inr (1, [.ref a_draft_steps, .ref a_draft_numbers, .int draft_size__3])), (a_draft_steps, .inl (cA 0, n_draft_steps, .inl draft_steps__4)), (a_draft_numbers, .inl (cA 0, n_draft_numbers, .inl draft_numbers__5))] H locs := ⟨hP, hD, hS⟩
  refine lv_aload_n hx hb dX2_readClosing_25 rfl (lv_at hl 0 rfl) ?_
  refine lv_dup hx hb dX2_readClosing_26 rfl ?_
  refine va_get (D := D) (ci := 2) (v := .int position) (C := RX2) (T := TX2) (N := 7) hx hb hts iX2 hown hB.1 hW.1 0 rfl rfl 2 (by decide) (hts _ q1_116) (fun _ h9 => h9) rfl dX2_readClosing_27 ?_
  refine lv_iconst (v := 1) hx hb dX2_readClosing_30 (by decide) ?_
  refine lv_iadd hx hb dX2_readClosing_31 ?_
  refine va_put (D := D) (ci := 2) (v := .int (position + 1)) (ty := .int) (C := RX2) (T := TX2) (N := 7) hx hb hts iX2 tyX2 tyX2_ok nmX2 hown hB.1 hW.1 hW.2.1 hW.2.2 0 rfl rfl 2 (by decide) (hts _ q1_116) (fun _ h9 => h9) rfl (tyX2_ok 2 (by decide)) rfl rfl (Nat.le_of_ble_eq_true rfl) dX2_readClosing_32 (fun H locs hP hD hS => ?_)
  have hW : k_Wd D A s.heap [(a_this, .inr (2, [.ref w_text, .int length, .int (position + 1), .ref a_waiting, .int (waitingSize__2 - 1), .int (openParentheses - 1), .ref a_draft])), (a_waiting, .inl (cA 0, n_waiting, .inl waiting)), (a_draft, .inr (1, [.ref a_draft_steps, .ref a_draft_numbers, .int draft_size__3])), (a_draft_steps, .inl (cA 0, n_draft_steps, .inl draft_steps__4)), (a_draft_numbers, .inl (cA 0, n_draft_numbers, .inl draft_numbers__5))] H locs := ⟨hP, hD, hS⟩
  refine lv_iconst (v := 1) hx hb dX2_readClosing_35 (by decide) ?_
  obtain ⟨z0, z1, z2, z3, z4, z5, z6⟩ := k_inj7 h
  rw [← z0, ← z1, ← z2, ← z3, ← z4, ← z5, ← z6]
  exact W.iret hx hb hr (fun t ht hWm => ⟨rfl, by rw [ht]; exact hW.1, hW.2.2.F ht⟩) hW.2.2.2.2 dX2_readClosing_36
noncomputable def f_X2_readBehindFactor (fu : Nat) (n_text : Nat) (n_waiting : Nat) (n_draft_steps : Nat) (n_draft_numbers : Nat) (length : Int32) (text : Nat → Int32) (position : Int32) (waitingSize : Int32) (openParentheses : Int32) (waiting : Nat → Int32) (draft_size : Int32) (draft_steps : Nat → Int32) (draft_numbers : Nat → Int32) : Option (Int32 × Int32 × Int32 × Int32 × (Nat → Int32) × Int32 × (Nat → Int32) × (Nat → Int32)) := (k_b1 (f_X2_characterAt n_text length text position) fun r_2 => (if r_2 = 38 then (k_b4 (f_X2_moveWaiting fu n_waiting n_draft_steps n_draft_numbers waiting 2 waitingSize draft_size draft_steps draft_numbers) fun waitingSize__29 draft_size__30 draft_steps__31 draft_numbers__32 => (k_b3 (f_X2_holdBack n_waiting 2 position waitingSize__29 waiting) fun position__35 waitingSize__36 waiting__37 => (some (0, position__35, waitingSize__36, openParentheses, waiting__37, draft_size__30, draft_steps__31, draft_numbers__32)))) else (if r_2 = 124 then (k_b4 (f_X2_moveWaiting fu n_waiting n_draft_steps n_draft_numbers waiting 1 waitingSize draft_size draft_steps draft_numbers) fun waitingSize__18 draft_size__19 draft_steps__20 draft_numbers__21 => (k_b3 (f_X2_holdBack n_waiting 1 position waitingSize__18 waiting) fun position__24 waitingSize__25 waiting__26 => (some (0, position__24, waitingSize__25, openParentheses, waiting__26, draft_size__19, draft_steps__20, draft_numbers__21)))) else (if r_2 = 41 then (if openParentheses ≤ 0 then (some (2, position, waitingSize, openParentheses, waiting, draft_size, draft_steps, draft_numbers)) else (k_b7 (f_X2_readClosing fu n_waiting n_draft_steps n_draft_numbers waiting position waitingSize openParentheses draft_size draft_steps draft_numbers) fun r_9 position__10 waitingSize__11 openParentheses__12 draft_size__13 draft_steps__14 draft_numbers__15 => (some (r_9, position__10, waitingSize__11, openParentheses__12, waiting, draft_size__13, draft_steps__14, draft_numbers__15)))) else (some (2, position, waitingSize, openParentheses, waiting, draft_size, draft_steps, draft_numbers))))))
abbrev rm_X2_readBehindFactor : Room := { frames := 3, cells := 0, slots := 0, locals := 64 }
theorem pd_X2_readBehindFactor : k_D1 yX2_readBehindFactor 0 := by decide +kernel
set_option maxHeartbeats 4000000 in
set_option maxRecDepth 100000 in
theorem m_X2_readBehindFactor (l : Launch) (D : va_G) (cA : Nat → ClassId) (sz : Nat) (a_this a_text a_waiting a_draft a_draft_steps a_draft_numbers : Nat) (fu : Nat) (n_text : Nat) (n_waiting : Nat) (n_draft_steps : Nat) (n_draft_numbers : Nat) (length : Int32) (position : Int32) (waitingSize : Int32) (openParentheses : Int32) (text : Nat → Int32) (waiting : Nat → Int32) (draft_size : Int32) (draft_steps : Nat → Int32) (draft_numbers : Nat → Int32) (ret_ : Int32) (position' : Int32) (waitingSize' : Int32) (openParentheses' : Int32) (waiting' : Nat → Int32) (draft_size' : Int32) (draft_steps' : Nat → Int32) (draft_numbers' : Nat → Int32) (h : f_X2_readBehindFactor fu n_text n_waiting n_draft_steps n_draft_numbers length text position waitingSize openParentheses waiting draft_size draft_steps draft_numbers = some (ret_, position', waitingSize', openParentheses', waiting', draft_size', draft_steps', draft_numbers')) : k_M l yX2_readBehindFactor prog_4_method_8_code 2 (some .int) rm_X2_readBehindFactor D cA [.ref a_this] [(a_this, .inr (2, [.ref a_text, .int length, .int position, .ref a_waiting, .int waitingSize, .int openParentheses, .ref a_draft])), (a_text, .inl (cA 1, n_text, .inl text)), (a_waiting, .inl (cA 0, n_waiting, .inl waiting)), (a_draft, .inr (1, [.ref a_draft_steps, .ref a_draft_numbers, .int draft_size])), (a_draft_steps, .inl (cA 0, n_draft_steps, .inl draft_steps)), (a_draft_numbers, .inl (cA 0, n_draft_numbers, .inl draft_numbers))] sz (some (.int ret_)) [(a_this, .inr (2, [.ref a_text, .int length, .int (position'), .ref a_waiting, .int (waitingSize'), .int (openParentheses'), .ref a_draft])), (a_text, .inl (cA 1, n_text, .inl text)), (a_waiting, .inl (cA 0, n_waiting, .inl (waiting'))), (a_draft, .inr (1, [.ref a_draft_steps, .ref a_draft_numbers, .int (draft_size')])), (a_draft_steps, .inl (cA 0, n_draft_steps, .inl (draft_steps'))), (a_draft_numbers, .inl (cA 0, n_draft_numbers, .inl (draft_numbers')))] := by
  refine k_ofW (by decide) (Nat.le_of_ble_eq_true rfl) ?_
  intro p e s m below meth c A ls hx hb hr hml hts hown hlocks hB hA hW hl
  have hl : lv_has ls 2 [(0, .ref a_this)] := hl
  obtain ⟨H, eH⟩ : ∃ H, H = s.heap := ⟨_, rfl⟩
  obtain ⟨locs, eL⟩ : ∃ L : List Loc, L = [] := ⟨_, rfl⟩
  have hW : k_Wd D A s.heap [(a_this, .inr (2, [.ref a_text, .int length, .int position, .ref a_waiting, .int waitingSize, .int openParentheses, .ref a_draft])), (a_text, .inl (cA 1, n_text, .inl text)), (a_waiting, .inl (cA 0, n_waiting, .inl waiting)), (a_draft, .inr (1, [.ref a_draft_steps, .ref a_draft_numbers, .int draft_size])), (a_draft_steps, .inl (cA 0, n_draft_steps, .inl draft_steps)), (a_draft_numbers, .inl (cA 0, n_draft_numbers, .inl draft_numbers))] H locs := by rw [eH, eL]; exact hW
  suffices K : W p l e rm_X2_readBehindFactor s m [.ref a_this].toArray below meth c H locs 0 0 (MQ below (k_Q (some (.int ret_)) D [(a_this, .inr (2, [.ref a_text, .int length, .int (position'), .ref a_waiting, .int (waitingSize'), .int (openParentheses'), .ref a_draft])), (a_text, .inl (cA 1, n_text, .inl text)), (a_waiting, .inl (cA 0, n_waiting, .inl (waiting'))), (a_draft, .inr (1, [.ref a_draft_steps, .ref a_draft_numbers, .int (draft_size')])), (a_draft_steps, .inl (cA 0, n_draft_steps, .inl (draft_steps'))), (a_draft_numbers, .inl (cA 0, n_draft_numbers, .inl (draft_numbers')))] A) [.ref a_this].toArray s 0 0 A) (F0 m 0 ls []) by rw [eH, eL] at K; exact K
  clear eH eL
  refine lv_aload_n hx hb dX2_readBehindFactor_0 rfl (lv_at hl 0 rfl) ?_
  refine lv_aload_n hx hb dX2_readBehindFactor_1 rfl (lv_at hl 0 rfl) ?_
  refine va_get (D := D) (ci := 2) (v := .int position) (C := RX2) (T := TX2) (N := 7) hx hb hts iX2 hown hB.1 hW.1 0 rfl rfl 2 (by decide) (hts _ q1_116) (fun _ h9 => h9) rfl dX2_readBehindFactor_2 ?_
  obtain ⟨r_2, h_1, h⟩ := k_bE1 h
  refine k_callV (C := RX2) (ws' := [(a_this, .inr (2, [.ref a_text, .int length, .int position, .ref a_waiting, .int waitingSize, .int openParentheses, .ref a_draft])), (a_text, .inl (cA 1, n_text, .inl text)), (a_waiting, .inl (cA 0, n_waiting, .inl waiting)), (a_draft, .inr (1, [.ref a_draft_steps, .ref a_draft_numbers, .int draft_size])), (a_draft_steps, .inl (cA 0, n_draft_steps, .inl draft_steps)), (a_draft_numbers, .inl (cA 0, n_draft_numbers, .inl draft_numbers))]) (As := [.int position]) (rest := []) (b := a_this) (m_X2_characterAt l D cA H.size a_this a_text a_waiting a_draft n_text length position waitingSize openParentheses text position r_2 h_1) hx hb hml hown hts hB hA hW hl.1 q4_213 q1_6 q4_212 qs_yX2_characterAt q4_210 pd_X2_characterAt ⟨rfl, rfl, Nat.le_of_ble_eq_true rfl, Nat.le_of_ble_eq_true rfl⟩ rfl 0 rfl rfl [0, 1] [2, 3, 4, 5] ⟨rfl, rfl, trivial⟩ rfl ⟨⟨rfl, rfl, trivial⟩, ⟨rfl, rfl, rfl, rfl, trivial⟩, rfl⟩ rfl rfl (Nat.le_of_ble_eq_true rfl) ⟨Nat.zero_le _, Nat.zero_le _⟩ dX2_readBehindFactor_5 (st1 := [.int r_2]) rfl (fun H locs hW => ?_)
  refine lv_istore_n (lv' := [(1, .int r_2), (0, .ref a_this)]) hx hb dX2_readBehindFactor_8 rfl hl (by decide) rfl (fun ls hl => ?_)
  refine lv_iload_n hx hb dX2_readBehindFactor_9 rfl (lv_at hl 0 rfl) ?_
  refine lv_bipush (v := 38) hx hb dX2_readBehindFactor_10 (by decide) ?_
  refine lv_icmp_ne (tgt := 27) hx hb dX2_readBehindFactor_12 (by decide) (fun c_4 => ?_) (fun c_4 => ?_)
  · have h := k_f c_4 h
    refine lv_iload_n hx hb dX2_readBehindFactor_27 rfl (lv_at hl 0 rfl) ?_
    refine lv_bipush (v := 124) hx hb dX2_readBehindFactor_28 (by decide) ?_
    refine lv_icmp_ne (tgt := 45) hx hb dX2_readBehindFactor_30 (by decide) (fun c_5 => ?_) (fun c_5 => ?_)
    · have h := k_f c_5 h
      refine lv_iload_n hx hb dX2_readBehindFactor_45 rfl (lv_at hl 0 rfl) ?_
      refine lv_bipush (v := 41) hx hb dX2_readBehindFactor_46 (by decide) ?_
      refine lv_icmp_ne (tgt := 65) hx hb dX2_readBehindFactor_48 (by decide) (fun c_6 => ?_) (fun c_6 => ?_)
      · have h := k_f c_6 h
        refine lv_iconst (v := 2) hx hb dX2_readBehindFactor_65 (by decide) ?_
        obtain ⟨z0, z1, z2, z3, z4, z5, z6, z7⟩ := k_inj8 h
        rw [← z0, ← z1, ← z2, ← z3, ← z4, ← z5, ← z6, ← z7]
        exact W.iret hx hb hr (fun t ht hWm => ⟨rfl, by rw [ht]; exact hW.1, hW.2.2.F ht⟩) hW.2.2.2.2 dX2_readBehindFactor_66
      · have h := k_t c_6 h
        refine lv_aload_n hx hb dX2_readBehindFactor_51 rfl (lv_at hl 1 rfl) ?_
        refine va_get (D := D) (ci := 2) (v := .int openParentheses) (C := RX2) (T := TX2) (N := 7) hx hb hts iX2 hown hB.1 hW.1 0 rfl rfl 5 (by decide) (hts _ q1_119) (fun _ h9 => h9) rfl dX2_readBehindFactor_52 ?_
        refine lv_if_le (tgt := 65) hx hb dX2_readBehindFactor_55 (by decide) (fun c_7 => ?_) (fun c_7 => ?_)
        · have h := k_t c_7 h
          refine lv_iconst (v := 2) hx hb dX2_readBehindFactor_65 (by decide) ?_
          obtain ⟨z0, z1, z2, z3, z4, z5, z6, z7⟩ := k_inj8 h
          rw [← z0, ← z1, ← z2, ← z3, ← z4, ← z5, ← z6, ← z7]
          exact W.iret hx hb hr (fun t ht hWm => ⟨rfl, by rw [ht]; exact hW.1, hW.2.2.F ht⟩) hW.2.2.2.2 dX2_readBehindFactor_66
        · have h := k_f c_7 h
          refine lv_aload_n hx hb dX2_readBehindFactor_58 rfl (lv_at hl 1 rfl) ?_
          obtain ⟨r_9, position__10, waitingSize__11, openParentheses__12, draft_size__13, draft_steps__14, draft_numbers__15, h_8, h⟩ := k_bE7 h
          refine k_callV (C := RX2) (ws' := [(a_this, .inr (2, [.ref a_text, .int length, .int position__10, .ref a_waiting, .int waitingSize__11, .int openParentheses__12, .ref a_draft])), (a_text, .inl (cA 1, n_text, .inl text)), (a_waiting, .inl (cA 0, n_waiting, .inl waiting)), (a_draft, .inr (1, [.ref a_draft_steps, .ref a_draft_numbers, .int draft_size__13])), (a_draft_steps, .inl (cA 0, n_draft_steps, .inl draft_steps__14)), (a_draft_numbers, .inl (cA 0, n_draft_numbers, .inl draft_numbers__15))]) (As := []) (rest := []) (b := a_this) (m_X2_readClosing l D cA H.size a_this a_waiting a_draft a_draft_steps a_draft_numbers a_text fu n_waiting n_draft_steps n_draft_numbers length position waitingSize openParentheses waiting draft_size draft_steps draft_numbers r_9 position__10 waitingSize__11 openParentheses__12 draft_size__13 draft_steps__14 draft_numbers__15 h_8) hx hb hml hown hts hB hA hW hl.1 q5_90 q1_6 q5_89 qs_yX2_readClosing q5_87 pd_X2_readClosing ⟨rfl, rfl, Nat.le_of_ble_eq_true rfl, Nat.le_of_ble_eq_true rfl⟩ rfl 0 rfl rfl [0, 2, 3, 4, 5] [1] ⟨rfl, rfl, rfl, rfl, rfl, trivial⟩ rfl ⟨⟨rfl, rfl, rfl, rfl, rfl, trivial⟩, ⟨rfl, trivial⟩, rfl⟩ rfl rfl (Nat.le_of_ble_eq_true rfl) ⟨Nat.zero_le _, Nat.zero_le _⟩ dX2_readBehindFactor_59 (st1 := [.int r_9]) rfl (fun H locs hW => ?_)
          refine lv_goto (tgt := 66) hx hb dX2_readBehindFactor_62 (by decide) ?_
          obtain ⟨z0, z1, z2, z3, z4, z5, z6, z7⟩ := k_inj8 h
          rw [← z0, ← z1, ← z2, ← z3, ← z4, ← z5, ← z6, ← z7]
          exact W.iret hx hb hr (fun t ht hWm => ⟨rfl, by rw [ht]; exact hW.1, hW.2.2.F ht⟩) hW.2.2.2.2 dX2_readBehindFactor_66
    · have h := k_t c_5 h
      refine lv_aload_n hx hb dX2_readBehindFactor_33 rfl (lv_at hl 1 rfl) ?_
      refine lv_iconst (v := 1) hx hb dX2_readBehindFactor_34 (by decide) ?_
      obtain ⟨waitingSize__18, draft_size__19, draft_steps__20, draft_numbers__21, h_17, h⟩ := k_bE4 h
      refine k_callV (C := RX2) (ws' := [(a_this, .inr (2, [.ref a_text, .int length, .int position, .ref a_waiting, .int waitingSize__18, .int openParentheses, .ref a_draft])), (a_text, .inl (cA 1, n_text, .inl text)), (a_waiting, .inl (cA 0, n_waiting, .inl waiting)), (a_draft, .inr (1, [.ref a_draft_steps, .ref a_draft_numbers, .int draft_size__19])), (a_draft_steps, .inl (cA 0, n_draft_steps, .inl draft_steps__20)), (a_draft_numbers, .inl (cA 0, n_draft_numbers, .inl draft_numbers__21))]) (As := [.int 1]) (rest := []) (b := a_this) (m_X2_moveWaiting l D cA H.size a_this a_waiting a_draft a_draft_steps a_draft_numbers a_text fu n_waiting n_draft_steps n_draft_numbers length position waitingSize openParentheses waiting draft_size draft_steps draft_numbers 1 waitingSize__18 draft_size__19 draft_steps__20 draft_numbers__21 h_17) hx hb hml hown hts hB hA hW hl.1 q5_86 q1_6 q5_85 qs_yX2_moveWaiting q5_83 pd_X2_moveWaiting ⟨rfl, rfl, Nat.le_of_ble_eq_true rfl, Nat.le_of_ble_eq_true rfl⟩ rfl 0 rfl rfl [0, 2, 3, 4, 5] [1] ⟨rfl, rfl, rfl, rfl, rfl, trivial⟩ rfl ⟨⟨rfl, rfl, rfl, rfl, rfl, trivial⟩, ⟨rfl, trivial⟩, rfl⟩ rfl rfl (Nat.le_of_ble_eq_true rfl) ⟨Nat.zero_le _, Nat.zero_le _⟩ dX2_readBehindFactor_35 (st1 := []) rfl (fun H locs hW => ?_)
      refine lv_aload_n hx hb dX2_readBehindFactor_38 rfl (lv_at hl 1 rfl) ?_
      refine lv_iconst (v := 1) hx hb dX2_readBehindFactor_39 (by decide) ?_
      obtain ⟨position__24, waitingSize__25, waiting__26, h_23, h⟩ := k_bE3 h
      refine k_callV (C := RX2) (ws' := [(a_this, .inr (2, [.ref a_text, .int length, .int position__24, .ref a_waiting, .int waitingSize__25, .int openParentheses, .ref a_draft])), (a_text, .inl (cA 1, n_text, .inl text)), (a_waiting, .inl (cA 0, n_waiting, .inl waiting__26)), (a_draft, .inr (1, [.ref a_draft_steps, .ref a_draft_numbers, .int draft_size__19])), (a_draft_steps, .inl (cA 0, n_draft_steps, .inl draft_steps__20)), (a_draft_numbers, .inl (cA 0, n_draft_numbers, .inl draft_numbers__21))]) (As := [.int 1]) (rest := []) (b := a_this) (m_X2_holdBack l D cA H.size a_this a_waiting a_text a_draft n_waiting length position waitingSize__18 openParentheses waiting 1 position__24 waitingSize__25 waiting__26 h_23) hx hb hml hown hts hB hA hW hl.1 q4_217 q1_6 q4_216 qs_yX2_holdBack q4_214 pd_X2_holdBack ⟨rfl, rfl, Nat.le_of_ble_eq_true rfl, Nat.le_of_ble_eq_true rfl⟩ rfl 0 rfl rfl [0, 2] [1, 3, 4, 5] ⟨rfl, rfl, trivial⟩ rfl ⟨⟨rfl, rfl, trivial⟩, ⟨rfl, rfl, rfl, rfl, trivial⟩, rfl⟩ rfl rfl (Nat.le_of_ble_eq_true rfl) ⟨Nat.zero_le _, Nat.zero_le _⟩ dX2_readBehindFactor_40 (st1 := []) rfl (fun H locs hW => ?_)
      refine lv_iconst (v := 0) hx hb dX2_readBehindFactor_43 (by decide) ?_
      obtain ⟨z0, z1, z2, z3, z4, z5, z6, z7⟩ := k_inj8 h
      rw [← z0, ← z1, ← z2, ← z3, ← z4, ← z5, ← z6, ← z7]
      exact W.iret hx hb hr (fun t ht hWm => ⟨rfl, by rw [ht]; exact hW.1, hW.2.2.F ht⟩) hW.2.2.2.2 dX2_readBehindFactor_44
  · have h := k_t c_4 h
    refine lv_aload_n hx hb dX2_readBehindFactor_15 rfl (lv_at hl 1 rfl) ?_
    refine lv_iconst (v := 2) hx hb dX2_readBehindFactor_16 (by decide) ?_
    obtain ⟨waitingSize__29, draft_size__30, draft_steps__31, draft_numbers__32, h_28, h⟩ := k_bE4 h
    refine k_callV (C := RX2) (ws' := [(a_this, .inr (2, [.ref a_text, .int length, .int position, .ref a_waiting, .int waitingSize__29, .int openParentheses, .ref a_draft])), (a_text, .inl (cA 1, n_text, .inl text)), (a_waiting, .inl (cA 0, n_waiting, .inl waiting)), (a_draft, .inr (1, [.ref a_draft_steps, .ref a_draft_numbers, .int draft_size__30])), (a_draft_steps, .inl (cA 0, n_draft_steps, .inl draft_steps__31)), (a_draft_numbers, .inl (cA 0, n_draft_numbers, .inl draft_numbers__32))]) (As := [.int 2]) (rest := []) (b := a_this) (m_X2_moveWaiting l D cA H.size a_this a_waiting a_draft a_draft_steps a_draft_numbers a_text fu n_waiting n_draft_steps n_draft_numbers length position waitingSize openParentheses waiting draft_size draft_steps draft_numbers 2 waitingSize__29 draft_size__30 draft_steps__31 draft_numbers__32 h_28) hx hb hml hown hts hB hA hW hl.1 q5_86 q1_6 q5_85 qs_yX2_moveWaiting q5_83 pd_X2_moveWaiting ⟨rfl, rfl, Nat.le_of_ble_eq_true rfl, Nat.le_of_ble_eq_true rfl⟩ rfl 0 rfl rfl [0, 2, 3, 4, 5] [1] ⟨rfl, rfl, rfl, rfl, rfl, trivial⟩ rfl ⟨⟨rfl, rfl, rfl, rfl, rfl, trivial⟩, ⟨rfl, trivial⟩, rfl⟩ rfl rfl (Nat.le_of_ble_eq_true rfl) ⟨Nat.zero_le _, Nat.zero_le _⟩ dX2_readBehindFactor_17 (st1 := []) rfl (fun H locs hW => ?_)
    refine lv_aload_n hx hb dX2_readBehindFactor_20 rfl (lv_at hl 1 rfl) ?_
    refine lv_iconst (v := 2) hx hb dX2_readBehindFactor_21 (by decide) ?_
    obtain ⟨position__35, waitingSize__36, waiting__37, h_34, h⟩ := k_bE3 h
    refine k_callV (C := RX2) (ws' := [(a_this, .inr (2, [.ref a_text, .int length, .int position__35, .ref a_waiting, .int waitingSize__36, .int openParentheses, .ref a_draft])), (a_text, .inl (cA 1, n_text, .inl text)), (a_waiting, .inl (cA 0, n_waiting, .inl waiting__37)), (a_draft, .inr (1, [.ref a_draft_steps, .ref a_draft_numbers, .int draft_size__30])), (a_draft_steps, .inl (cA 0, n_draft_steps, .inl draft_steps__31)), (a_draft_numbers, .inl (cA 0, n_draft_numbers, .inl draft_numbers__32))]) (As := [.int 2]) (rest := []) (b := a_this) (m_X2_holdBack l D cA H.size a_this a_waiting a_text a_draft n_waiting length position waitingSize__29 openParentheses waiting 2 position__35 waitingSize__36 waiting__37 h_34) hx hb hml hown hts hB hA hW hl.1 q4_217 q1_6 q4_216 qs_yX2_holdBack q4_214 pd_X2_holdBack ⟨rfl, rfl, Nat.le_of_ble_eq_true rfl, Nat.le_of_ble_eq_true rfl⟩ rfl 0 rfl rfl [0, 2] [1, 3, 4, 5] ⟨rfl, rfl, trivial⟩ rfl ⟨⟨rfl, rfl, trivial⟩, ⟨rfl, rfl, rfl, rfl, trivial⟩, rfl⟩ rfl rfl (Nat.le_of_ble_eq_true rfl) ⟨Nat.zero_le _, Nat.zero_le _⟩ dX2_readBehindFactor_22 (st1 := []) rfl (fun H locs hW => ?_)
    refine lv_iconst (v := 0) hx hb dX2_readBehindFactor_25 (by decide) ?_
    obtain ⟨z0, z1, z2, z3, z4, z5, z6, z7⟩ := k_inj8 h
    rw [← z0, ← z1, ← z2, ← z3, ← z4, ← z5, ← z6, ← z7]
    exact W.iret hx hb hr (fun t ht hWm => ⟨rfl, by rw [ht]; exact hW.1, hW.2.2.F ht⟩) hW.2.2.2.2 dX2_readBehindFactor_26
noncomputable def f_X4_isEmpty (depth : Int32) : Option (Int32) := (if (0 : Int32) < depth then (if vp_nar .boolean (0 : Int32) = (0 : Int32) then some (0) else none) else (if vp_nar .boolean (1 : Int32) = (1 : Int32) then some (1) else none))
abbrev rm_X4_isEmpty : Room := { frames := 0, cells := 0, slots := 0, locals := 0 }
theorem pd_X4_isEmpty : k_D1 yX4_isEmpty 0 := by decide +kernel
set_option maxHeartbeats 4000000 in
set_option maxRecDepth 100000 in
theorem m_X4_isEmpty (l : Launch) (D : va_G) (cA : Nat → ClassId) (sz : Nat) (a_this : Nat) (w_kept : Nat) (next : Int32) (depth : Int32) (ret_ : Int32) (h : f_X4_isEmpty depth = some (ret_)) : k_M l yX4_isEmpty prog_6_method_2_code 1 (some .boolean) rm_X4_isEmpty D cA [.ref a_this] [(a_this, .inr (4, [.ref w_kept, .int next, .int depth]))] sz (some (.int ret_)) [(a_this, .inr (4, [.ref w_kept, .int next, .int depth]))] := by
  refine k_ofW (by decide) (Nat.le_of_ble_eq_true rfl) ?_
  intro p e s m below meth c A ls hx hb hr hml hts hown hlocks hB hA hW hl
  have hl : lv_has ls 1 [(0, .ref a_this)] := hl
  obtain ⟨H, eH⟩ : ∃ H, H = s.heap := ⟨_, rfl⟩
  obtain ⟨locs, eL⟩ : ∃ L : List Loc, L = [] := ⟨_, rfl⟩
  have hW : k_Wd D A s.heap [(a_this, .inr (4, [.ref w_kept, .int next, .int depth]))] H locs := by rw [eH, eL]; exact hW
  suffices K : W p l e rm_X4_isEmpty s m [.ref a_this].toArray below meth c H locs 0 0 (MQ below (k_Q (some (.int ret_)) D [(a_this, .inr (4, [.ref w_kept, .int next, .int depth]))] A) [.ref a_this].toArray s 0 0 A) (F0 m 0 ls []) by rw [eH, eL] at K; exact K
  clear eH eL
  refine lv_aload_n hx hb dX4_isEmpty_0 rfl (lv_at hl 0 rfl) ?_
  refine va_get (D := D) (ci := 4) (v := .int depth) (C := RX4) (T := TX4) (N := 3) hx hb hts iX4 hown hB.1 hW.1 0 rfl rfl 2 (by decide) (hts _ q1_82) (fun _ h9 => h9) rfl dX4_isEmpty_1 ?_
  refine lv_if_gt (tgt := 11) hx hb dX4_isEmpty_4 (by decide) (fun c_1 => ?_) (fun c_1 => ?_)
  · have h := k_t c_1 h
    refine lv_iconst (v := 0) hx hb dX4_isEmpty_11 (by decide) ?_
    obtain ⟨c_2, h⟩ := k_g h
    have z0 := k_inj1 h
    rw [← z0]
    exact W.zret hx hb hr (k_narZ c_2) (fun t ht hWm => ⟨rfl, by rw [ht]; exact hW.1, hW.2.2.F ht⟩) hW.2.2.2.2 dX4_isEmpty_12
  · have h := k_f c_1 h
    refine lv_iconst (v := 1) hx hb dX4_isEmpty_7 (by decide) ?_
    refine lv_goto (tgt := 12) hx hb dX4_isEmpty_8 (by decide) ?_
    obtain ⟨c_3, h⟩ := k_g h
    have z0 := k_inj1 h
    rw [← z0]
    exact W.zret hx hb hr (k_narZ c_3) (fun t ht hWm => ⟨rfl, by rw [ht]; exact hW.1, hW.2.2.F ht⟩) hW.2.2.2.2 dX4_isEmpty_12
noncomputable def f_X4_clear (depth : Int32) : Option (Int32) := (some (0))
abbrev rm_X4_clear : Room := { frames := 0, cells := 0, slots := 0, locals := 0 }
theorem pd_X4_clear : k_D1 yX4_clear 0 := by decide +kernel
set_option maxHeartbeats 4000000 in
set_option maxRecDepth 100000 in
theorem m_X4_clear (l : Launch) (D : va_G) (cA : Nat → ClassId) (sz : Nat) (a_this : Nat) (w_kept : Nat) (next : Int32) (depth : Int32) (depth' : Int32) (h : f_X4_clear depth = some (depth')) : k_M l yX4_clear prog_6_method_5_code 1 (none : Option Jvm.ClassFile.FieldType) rm_X4_clear D cA [.ref a_this] [(a_this, .inr (4, [.ref w_kept, .int next, .int depth]))] sz (none) [(a_this, .inr (4, [.ref w_kept, .int next, .int (depth')]))] := by
  refine k_ofW (by decide) (Nat.le_of_ble_eq_true rfl) ?_
  intro p e s m below meth c A ls hx hb hr hml hts hown hlocks hB hA hW hl
  have hl : lv_has ls 1 [(0, .ref a_this)] := hl
  obtain ⟨H, eH⟩ : ∃ H, H = s.heap := ⟨_, rfl⟩
  obtain ⟨locs, eL⟩ : ∃ L : List Loc, L = [] := ⟨_, rfl⟩
  have hW : k_Wd D A s.heap [(a_this, .inr (4, [.ref w_kept, .int next, .int depth]))] H locs := by rw [eH, eL]; exact hW
  suffices K : W p l e rm_X4_clear s m [.ref a_this].toArray below meth c H locs 0 0 (MQ below (k_Q (none) D [(a_this, .inr (4, [.ref w_kept, .int next, .int (depth')]))] A) [.ref a_this].toArray s 0 0 A) (F0 m 0 ls []) by rw [eH, eL] at K; exact K
  clear eH eL
  refine lv_aload_n hx hb dX4_clear_0 rfl (lv_at hl 0 rfl) ?_
  refine lv_iconst (v := 0) hx hb dX4_clear_1 (by decide) ?_
  refine va_put (D := D) (ci := 4) (v := .int 0) (ty := .int) (C := RX4) (T := TX4) (N := 3) hx hb hts iX4 tyX4 tyX4_ok nmX4 hown hB.1 hW.1 hW.2.1 hW.2.2 0 rfl rfl 2 (by decide) (hts _ q1_82) (fun _ h9 => h9) rfl (tyX4_ok 2 (by decide)) rfl rfl (Nat.le_of_ble_eq_true rfl) dX4_clear_2 (fun H locs hP hD hS => ?_)
  have hW : k_Wd D A s.heap [(a_this, .inr (4, [.ref w_kept, .int next, .int 0]))] H locs := ⟨hP, hD, hS⟩
  have z0 := k_inj1 h
  rw [← z0]
  exact W.vret hx hb hr (fun t ht hWm => ⟨rfl, by rw [ht]; exact hW.1, hW.2.2.F ht⟩) hW.2.2.2.2 dX4_clear_5
